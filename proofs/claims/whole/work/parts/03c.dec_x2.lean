theorem dX10_first_51 : decode cX10_first 51 = .ok (.aload_n 0, 1) := by decide +kernel
theorem dX10_first_52 : decode cX10_first 52 = .ok (.getfield 44, 3) := by decide +kernel
theorem dX10_first_55 : decode cX10_first 55 = .ok (.invokestatic 214, 3) := by decide +kernel
theorem dX10_first_58 : decode cX10_first 58 = .ok (.iload_n 2, 1) := by decide +kernel
theorem dX10_first_59 : decode cX10_first 59 = .ok (.iload_n 1, 1) := by decide +kernel
theorem dX10_first_60 : decode cX10_first 60 = .ok (.aload_n 0, 1) := by decide +kernel
theorem dX10_first_61 : decode cX10_first 61 = .ok (.getfield 44, 3) := by decide +kernel
theorem dX10_first_64 : decode cX10_first 64 = .ok (.invokestatic 214, 3) := by decide +kernel
theorem dX10_first_67 : decode cX10_first 67 = .ok (.lsub, 1) := by decide +kernel
theorem dX10_first_68 : decode cX10_first 68 = .ok (.lstore 4, 2) := by decide +kernel
theorem dX10_first_70 : decode cX10_first 70 = .ok (.iload_n 1, 1) := by decide +kernel
theorem dX10_first_71 : decode cX10_first 71 = .ok (.iload_n 1, 1) := by decide +kernel
theorem dX10_first_72 : decode cX10_first 72 = .ok (.aload_n 0, 1) := by decide +kernel
theorem dX10_first_73 : decode cX10_first 73 = .ok (.getfield 44, 3) := by decide +kernel
theorem dX10_first_76 : decode cX10_first 76 = .ok (.invokestatic 214, 3) := by decide +kernel
theorem dX10_first_79 : decode cX10_first 79 = .ok (.iload_n 1, 1) := by decide +kernel
theorem dX10_first_80 : decode cX10_first 80 = .ok (.iload_n 2, 1) := by decide +kernel
theorem dX10_first_81 : decode cX10_first 81 = .ok (.aload_n 0, 1) := by decide +kernel
theorem dX10_first_82 : decode cX10_first 82 = .ok (.getfield 44, 3) := by decide +kernel
theorem dX10_first_85 : decode cX10_first 85 = .ok (.invokestatic 214, 3) := by decide +kernel
theorem dX10_first_88 : decode cX10_first 88 = .ok (.lsub, 1) := by decide +kernel
theorem dX10_first_89 : decode cX10_first 89 = .ok (.lstore 6, 2) := by decide +kernel
theorem dX10_first_91 : decode cX10_first 91 = .ok (.lload 4, 2) := by decide +kernel
theorem dX10_first_93 : decode cX10_first 93 = .ok (.lload 4, 2) := by decide +kernel
theorem dX10_first_95 : decode cX10_first 95 = .ok (.lload 6, 2) := by decide +kernel
theorem dX10_first_97 : decode cX10_first 97 = .ok (.ladd, 1) := by decide +kernel
theorem dX10_first_98 : decode cX10_first 98 = .ok (.iload_n 3, 1) := by decide +kernel
theorem dX10_first_99 : decode cX10_first 99 = .ok (.invokestatic 196, 3) := by decide +kernel
theorem dX10_first_102 : decode cX10_first 102 = .ok (.lreturn, 1) := by decide +kernel
theorem dX10_agree_0 : decode cX10_agree 0 = .ok (.iload_n 1, 1) := by decide +kernel
theorem dX10_agree_1 : decode cX10_agree 1 = .ok (.invokestatic 54, 3) := by decide +kernel
theorem dX10_agree_4 : decode cX10_agree 4 = .ok (.ifCond .eq 22, 3) := by decide +kernel
theorem dX10_agree_7 : decode cX10_agree 7 = .ok (.iload_n 2, 1) := by decide +kernel
theorem dX10_agree_8 : decode cX10_agree 8 = .ok (.invokestatic 54, 3) := by decide +kernel
theorem dX10_agree_11 : decode cX10_agree 11 = .ok (.ifCond .eq 15, 3) := by decide +kernel
theorem dX10_agree_14 : decode cX10_agree 14 = .ok (.iload_n 1, 1) := by decide +kernel
theorem dX10_agree_15 : decode cX10_agree 15 = .ok (.iload_n 2, 1) := by decide +kernel
theorem dX10_agree_16 : decode cX10_agree 16 = .ok (.if_icmp .eq 10, 3) := by decide +kernel
theorem dX10_agree_19 : decode cX10_agree 19 = .ok (.iload_n 3, 1) := by decide +kernel
theorem dX10_agree_20 : decode cX10_agree 20 = .ok (.invokestatic 143, 3) := by decide +kernel
theorem dX10_agree_23 : decode cX10_agree 23 = .ok (.ifCond .ne 6, 3) := by decide +kernel
theorem dX10_agree_26 : decode cX10_agree 26 = .ok (.bipush (-2), 2) := by decide +kernel
theorem dX10_agree_28 : decode cX10_agree 28 = .ok (.ireturn, 1) := by decide +kernel
theorem dX10_agree_29 : decode cX10_agree 29 = .ok (.aload_n 0, 1) := by decide +kernel
theorem dX10_agree_30 : decode cX10_agree 30 = .ok (.getfield 11, 3) := by decide +kernel
theorem dX10_agree_33 : decode cX10_agree 33 = .ok (.iload_n 1, 1) := by decide +kernel
theorem dX10_agree_34 : decode cX10_agree 34 = .ok (.aaload, 1) := by decide +kernel
theorem dX10_agree_35 : decode cX10_agree 35 = .ok (.astore 4, 2) := by decide +kernel
theorem dX10_agree_37 : decode cX10_agree 37 = .ok (.aload_n 0, 1) := by decide +kernel
theorem dX10_agree_38 : decode cX10_agree 38 = .ok (.getfield 11, 3) := by decide +kernel
theorem dX10_agree_41 : decode cX10_agree 41 = .ok (.iload_n 2, 1) := by decide +kernel
theorem dX10_agree_42 : decode cX10_agree 42 = .ok (.aaload, 1) := by decide +kernel
theorem dX10_agree_43 : decode cX10_agree 43 = .ok (.astore 5, 2) := by decide +kernel
theorem dX10_agree_45 : decode cX10_agree 45 = .ok (.aload 4, 2) := by decide +kernel
theorem dX10_agree_47 : decode cX10_agree 47 = .ok (.invokevirtual 102, 3) := by decide +kernel
theorem dX10_agree_50 : decode cX10_agree 50 = .ok (.ifCond .eq 24, 3) := by decide +kernel
theorem dX10_agree_53 : decode cX10_agree 53 = .ok (.aload 5, 2) := by decide +kernel
theorem dX10_agree_55 : decode cX10_agree 55 = .ok (.invokevirtual 102, 3) := by decide +kernel
theorem dX10_agree_58 : decode cX10_agree 58 = .ok (.ifCond .eq 16, 3) := by decide +kernel
theorem dX10_agree_61 : decode cX10_agree 61 = .ok (.aload 4, 2) := by decide +kernel
theorem dX10_agree_63 : decode cX10_agree 63 = .ok (.getfield 69, 3) := by decide +kernel
theorem dX10_agree_66 : decode cX10_agree 66 = .ok (.aload 5, 2) := by decide +kernel
theorem dX10_agree_68 : decode cX10_agree 68 = .ok (.getfield 69, 3) := by decide +kernel
theorem dX10_agree_71 : decode cX10_agree 71 = .ok (.if_icmp .eq 6, 3) := by decide +kernel
theorem dX10_agree_74 : decode cX10_agree 74 = .ok (.bipush (-3), 2) := by decide +kernel
theorem dX10_agree_76 : decode cX10_agree 76 = .ok (.ireturn, 1) := by decide +kernel
theorem dX10_agree_77 : decode cX10_agree 77 = .ok (.aload 4, 2) := by decide +kernel
theorem dX10_agree_79 : decode cX10_agree 79 = .ok (.getfield 119, 3) := by decide +kernel
theorem dX10_agree_82 : decode cX10_agree 82 = .ok (.aload 5, 2) := by decide +kernel
theorem dX10_agree_84 : decode cX10_agree 84 = .ok (.getfield 119, 3) := by decide +kernel
theorem dX10_agree_87 : decode cX10_agree 87 = .ok (.ixor, 1) := by decide +kernel
theorem dX10_agree_88 : decode cX10_agree 88 = .ok (.invokestatic 157, 3) := by decide +kernel
theorem dX10_agree_91 : decode cX10_agree 91 = .ok (.istore 6, 2) := by decide +kernel
theorem dX10_agree_93 : decode cX10_agree 93 = .ok (.iload_n 3, 1) := by decide +kernel
theorem dX10_agree_94 : decode cX10_agree 94 = .ok (.ifCond .ne 12, 3) := by decide +kernel
theorem dX10_agree_97 : decode cX10_agree 97 = .ok (.aload 4, 2) := by decide +kernel
theorem dX10_agree_99 : decode cX10_agree 99 = .ok (.getfield 69, 3) := by decide +kernel
theorem dX10_agree_102 : decode cX10_agree 102 = .ok (.iload 6, 2) := by decide +kernel
theorem dX10_agree_104 : decode cX10_agree 104 = .ok (.isub, 1) := by decide +kernel
theorem dX10_agree_105 : decode cX10_agree 105 = .ok (.ireturn, 1) := by decide +kernel
theorem dX10_agree_106 : decode cX10_agree 106 = .ok (.aload 5, 2) := by decide +kernel
theorem dX10_agree_108 : decode cX10_agree 108 = .ok (.invokestatic 178, 3) := by decide +kernel
theorem dX10_agree_111 : decode cX10_agree 111 = .ok (.istore 7, 2) := by decide +kernel
theorem dX10_agree_113 : decode cX10_agree 113 = .ok (.aload 5, 2) := by decide +kernel
theorem dX10_agree_115 : decode cX10_agree 115 = .ok (.invokestatic 202, 3) := by decide +kernel
theorem dX10_agree_118 : decode cX10_agree 118 = .ok (.istore 8, 2) := by decide +kernel
theorem dX10_agree_120 : decode cX10_agree 120 = .ok (.iconst 0, 1) := by decide +kernel
theorem dX10_agree_121 : decode cX10_agree 121 = .ok (.istore 9, 2) := by decide +kernel
theorem dX10_agree_123 : decode cX10_agree 123 = .ok (.iconst 0, 1) := by decide +kernel
theorem dX10_agree_124 : decode cX10_agree 124 = .ok (.istore 10, 2) := by decide +kernel
theorem dX10_agree_126 : decode cX10_agree 126 = .ok (.iload 10, 2) := by decide +kernel
theorem dX10_agree_128 : decode cX10_agree 128 = .ok (.iload 7, 2) := by decide +kernel
theorem dX10_agree_130 : decode cX10_agree 130 = .ok (.if_icmp .ge 35, 3) := by decide +kernel
theorem dX10_agree_133 : decode cX10_agree 133 = .ok (.aload 4, 2) := by decide +kernel
theorem dX10_agree_135 : decode cX10_agree 135 = .ok (.getfield 119, 3) := by decide +kernel
theorem dX10_agree_138 : decode cX10_agree 138 = .ok (.iload 8, 2) := by decide +kernel
theorem dX10_agree_140 : decode cX10_agree 140 = .ok (.ixor, 1) := by decide +kernel
theorem dX10_agree_141 : decode cX10_agree 141 = .ok (.invokestatic 157, 3) := by decide +kernel
theorem dX10_agree_144 : decode cX10_agree 144 = .ok (.iload 6, 2) := by decide +kernel
theorem dX10_agree_146 : decode cX10_agree 146 = .ok (.if_icmp .gt 6, 3) := by decide +kernel
theorem dX10_agree_149 : decode cX10_agree 149 = .ok (.iinc 9 1, 3) := by decide +kernel
theorem dX10_agree_152 : decode cX10_agree 152 = .ok (.iload 8, 2) := by decide +kernel
theorem dX10_agree_154 : decode cX10_agree 154 = .ok (.invokestatic 209, 3) := by decide +kernel
theorem dX10_agree_157 : decode cX10_agree 157 = .ok (.istore 8, 2) := by decide +kernel
theorem dX10_agree_159 : decode cX10_agree 159 = .ok (.iinc 10 1, 3) := by decide +kernel
theorem dX10_agree_162 : decode cX10_agree 162 = .ok (.goto (-36), 3) := by decide +kernel
theorem dX10_agree_165 : decode cX10_agree 165 = .ok (.iload 9, 2) := by decide +kernel
theorem dX10_agree_167 : decode cX10_agree 167 = .ok (.iload 7, 2) := by decide +kernel
theorem dX10_agree_169 : decode cX10_agree 169 = .ok (.invokestatic 184, 3) := by decide +kernel
theorem dX10_agree_172 : decode cX10_agree 172 = .ok (.ireturn, 1) := by decide +kernel
theorem dX10_twice_0 : decode cX10_twice 0 = .ok (.iload_n 1, 1) := by decide +kernel
theorem dX10_twice_1 : decode cX10_twice 1 = .ok (.invokestatic 54, 3) := by decide +kernel
theorem dX10_twice_4 : decode cX10_twice 4 = .ok (.ifCond .ne 6, 3) := by decide +kernel
theorem dX10_twice_7 : decode cX10_twice 7 = .ok (.bipush (-2), 2) := by decide +kernel
theorem dX10_twice_9 : decode cX10_twice 9 = .ok (.ireturn, 1) := by decide +kernel
theorem dX10_twice_10 : decode cX10_twice 10 = .ok (.aload_n 0, 1) := by decide +kernel
theorem dX10_twice_11 : decode cX10_twice 11 = .ok (.getfield 11, 3) := by decide +kernel
theorem dX10_twice_14 : decode cX10_twice 14 = .ok (.iload_n 1, 1) := by decide +kernel
theorem dX10_twice_15 : decode cX10_twice 15 = .ok (.aaload, 1) := by decide +kernel
theorem dX10_twice_16 : decode cX10_twice 16 = .ok (.astore_n 2, 1) := by decide +kernel
theorem dX10_twice_17 : decode cX10_twice 17 = .ok (.aload_n 2, 1) := by decide +kernel
theorem dX10_twice_18 : decode cX10_twice 18 = .ok (.invokevirtual 102, 3) := by decide +kernel
theorem dX10_twice_21 : decode cX10_twice 21 = .ok (.ifCond .ne 6, 3) := by decide +kernel
theorem dX10_twice_24 : decode cX10_twice 24 = .ok (.bipush (-3), 2) := by decide +kernel
theorem dX10_twice_26 : decode cX10_twice 26 = .ok (.ireturn, 1) := by decide +kernel
theorem dX10_twice_27 : decode cX10_twice 27 = .ok (.aload_n 2, 1) := by decide +kernel
theorem dX10_twice_28 : decode cX10_twice 28 = .ok (.getfield 69, 3) := by decide +kernel
theorem dX10_twice_31 : decode cX10_twice 31 = .ok (.ifCond .eq 12, 3) := by decide +kernel
theorem dX10_twice_34 : decode cX10_twice 34 = .ok (.aload_n 2, 1) := by decide +kernel
theorem dX10_twice_35 : decode cX10_twice 35 = .ok (.getfield 69, 3) := by decide +kernel
theorem dX10_twice_38 : decode cX10_twice 38 = .ok (.iconst 2, 1) := by decide +kernel
theorem dX10_twice_39 : decode cX10_twice 39 = .ok (.irem, 1) := by decide +kernel
theorem dX10_twice_40 : decode cX10_twice 40 = .ok (.ifCond .eq 5, 3) := by decide +kernel
theorem dX10_twice_43 : decode cX10_twice 43 = .ok (.iconst 0, 1) := by decide +kernel
theorem dX10_twice_44 : decode cX10_twice 44 = .ok (.ireturn, 1) := by decide +kernel
theorem dX10_twice_45 : decode cX10_twice 45 = .ok (.aload_n 2, 1) := by decide +kernel
theorem dX10_twice_46 : decode cX10_twice 46 = .ok (.getfield 69, 3) := by decide +kernel
theorem dX10_twice_49 : decode cX10_twice 49 = .ok (.iconst 2, 1) := by decide +kernel
theorem dX10_twice_50 : decode cX10_twice 50 = .ok (.idiv, 1) := by decide +kernel
theorem dX10_twice_51 : decode cX10_twice 51 = .ok (.istore_n 3, 1) := by decide +kernel
theorem dX10_twice_52 : decode cX10_twice 52 = .ok (.iconst 1, 1) := by decide +kernel
theorem dX10_twice_53 : decode cX10_twice 53 = .ok (.iload_n 3, 1) := by decide +kernel
theorem dX10_twice_54 : decode cX10_twice 54 = .ok (.ishl, 1) := by decide +kernel
theorem dX10_twice_55 : decode cX10_twice 55 = .ok (.iconst 1, 1) := by decide +kernel
theorem dX10_twice_56 : decode cX10_twice 56 = .ok (.isub, 1) := by decide +kernel
theorem dX10_twice_57 : decode cX10_twice 57 = .ok (.istore 4, 2) := by decide +kernel
theorem dX10_twice_59 : decode cX10_twice 59 = .ok (.aload_n 2, 1) := by decide +kernel
theorem dX10_twice_60 : decode cX10_twice 60 = .ok (.getfield 119, 3) := by decide +kernel
theorem dX10_twice_63 : decode cX10_twice 63 = .ok (.iload_n 3, 1) := by decide +kernel
theorem dX10_twice_64 : decode cX10_twice 64 = .ok (.ishr, 1) := by decide +kernel
theorem dX10_twice_65 : decode cX10_twice 65 = .ok (.istore 5, 2) := by decide +kernel
theorem dX10_twice_67 : decode cX10_twice 67 = .ok (.aload_n 2, 1) := by decide +kernel
theorem dX10_twice_68 : decode cX10_twice 68 = .ok (.getfield 119, 3) := by decide +kernel
theorem dX10_twice_71 : decode cX10_twice 71 = .ok (.iload 4, 2) := by decide +kernel
theorem dX10_twice_73 : decode cX10_twice 73 = .ok (.iand, 1) := by decide +kernel
theorem dX10_twice_74 : decode cX10_twice 74 = .ok (.istore 6, 2) := by decide +kernel
theorem dX10_twice_76 : decode cX10_twice 76 = .ok (.iload 6, 2) := by decide +kernel
theorem dX10_twice_78 : decode cX10_twice 78 = .ok (.iload 5, 2) := by decide +kernel
theorem dX10_twice_80 : decode cX10_twice 80 = .ok (.if_icmp .ne 5, 3) := by decide +kernel
theorem dX10_twice_83 : decode cX10_twice 83 = .ok (.iconst 1, 1) := by decide +kernel
theorem dX10_twice_84 : decode cX10_twice 84 = .ok (.ireturn, 1) := by decide +kernel
theorem dX10_twice_85 : decode cX10_twice 85 = .ok (.iload 6, 2) := by decide +kernel
theorem dX10_twice_87 : decode cX10_twice 87 = .ok (.iload 5, 2) := by decide +kernel
theorem dX10_twice_89 : decode cX10_twice 89 = .ok (.iload 4, 2) := by decide +kernel
theorem dX10_twice_91 : decode cX10_twice 91 = .ok (.ixor, 1) := by decide +kernel
theorem dX10_twice_92 : decode cX10_twice 92 = .ok (.if_icmp .ne 5, 3) := by decide +kernel
theorem dX10_twice_95 : decode cX10_twice 95 = .ok (.iconst 2, 1) := by decide +kernel
theorem dX10_twice_96 : decode cX10_twice 96 = .ok (.ireturn, 1) := by decide +kernel
theorem dX10_twice_97 : decode cX10_twice 97 = .ok (.iload 6, 2) := by decide +kernel
theorem dX10_twice_99 : decode cX10_twice 99 = .ok (.iload 5, 2) := by decide +kernel
theorem dX10_twice_101 : decode cX10_twice 101 = .ok (.iload_n 3, 1) := by decide +kernel
theorem dX10_twice_102 : decode cX10_twice 102 = .ok (.invokestatic 230, 3) := by decide +kernel
theorem dX10_twice_105 : decode cX10_twice 105 = .ok (.if_icmp .ne 7, 3) := by decide +kernel
theorem dX10_twice_108 : decode cX10_twice 108 = .ok (.iconst 3, 1) := by decide +kernel
theorem dX10_twice_109 : decode cX10_twice 109 = .ok (.goto 4, 3) := by decide +kernel
theorem dX10_twice_112 : decode cX10_twice 112 = .ok (.iconst 0, 1) := by decide +kernel
theorem dX10_twice_113 : decode cX10_twice 113 = .ok (.ireturn, 1) := by decide +kernel
theorem dX10_next_0 : decode cX10_next 0 = .ok (.iload_n 1, 1) := by decide +kernel
theorem dX10_next_1 : decode cX10_next 1 = .ok (.invokestatic 54, 3) := by decide +kernel
theorem dX10_next_4 : decode cX10_next 4 = .ok (.ifCond .eq 21, 3) := by decide +kernel
theorem dX10_next_7 : decode cX10_next 7 = .ok (.iload_n 2, 1) := by decide +kernel
theorem dX10_next_8 : decode cX10_next 8 = .ok (.ifCond .lt 17, 3) := by decide +kernel
theorem dX10_next_11 : decode cX10_next 11 = .ok (.iload_n 2, 1) := by decide +kernel
theorem dX10_next_12 : decode cX10_next 12 = .ok (.iconst 4, 1) := by decide +kernel
theorem dX10_next_13 : decode cX10_next 13 = .ok (.if_icmp .gt 12, 3) := by decide +kernel
theorem dX10_next_16 : decode cX10_next 16 = .ok (.iload_n 3, 1) := by decide +kernel
theorem dX10_next_17 : decode cX10_next 17 = .ok (.ifCond .lt 8, 3) := by decide +kernel
theorem dX10_next_20 : decode cX10_next 20 = .ok (.iload_n 3, 1) := by decide +kernel
theorem dX10_next_21 : decode cX10_next 21 = .ok (.iconst 3, 1) := by decide +kernel
theorem dX10_next_22 : decode cX10_next 22 = .ok (.if_icmp .le 6, 3) := by decide +kernel
theorem dX10_next_25 : decode cX10_next 25 = .ok (.bipush (-2), 2) := by decide +kernel
theorem dX10_next_27 : decode cX10_next 27 = .ok (.ireturn, 1) := by decide +kernel
theorem dX10_next_28 : decode cX10_next 28 = .ok (.aload_n 0, 1) := by decide +kernel
theorem dX10_next_29 : decode cX10_next 29 = .ok (.getfield 11, 3) := by decide +kernel
theorem dX10_next_32 : decode cX10_next 32 = .ok (.iload_n 1, 1) := by decide +kernel
theorem dX10_next_33 : decode cX10_next 33 = .ok (.aaload, 1) := by decide +kernel
theorem dX10_next_34 : decode cX10_next 34 = .ok (.astore 4, 2) := by decide +kernel
theorem dX10_next_36 : decode cX10_next 36 = .ok (.iconst 1, 1) := by decide +kernel
theorem dX10_next_37 : decode cX10_next 37 = .ok (.iload_n 2, 1) := by decide +kernel
theorem dX10_next_38 : decode cX10_next 38 = .ok (.ishl, 1) := by decide +kernel
theorem dX10_next_39 : decode cX10_next 39 = .ok (.iconst 1, 1) := by decide +kernel
theorem dX10_next_40 : decode cX10_next 40 = .ok (.isub, 1) := by decide +kernel
theorem dX10_next_41 : decode cX10_next 41 = .ok (.istore 5, 2) := by decide +kernel
theorem dX10_next_43 : decode cX10_next 43 = .ok (.aload 4, 2) := by decide +kernel
theorem dX10_next_45 : decode cX10_next 45 = .ok (.getfield 69, 3) := by decide +kernel
theorem dX10_next_48 : decode cX10_next 48 = .ok (.iload_n 2, 1) := by decide +kernel
theorem dX10_next_49 : decode cX10_next 49 = .ok (.if_icmp .lt 14, 3) := by decide +kernel
theorem dX10_next_52 : decode cX10_next 52 = .ok (.aload 4, 2) := by decide +kernel
theorem dX10_next_54 : decode cX10_next 54 = .ok (.getfield 154, 3) := by decide +kernel
theorem dX10_next_57 : decode cX10_next 57 = .ok (.iload 5, 2) := by decide +kernel
theorem dX10_next_59 : decode cX10_next 59 = .ok (.iand, 1) := by decide +kernel
theorem dX10_next_60 : decode cX10_next 60 = .ok (.ifCond .eq 6, 3) := by decide +kernel
theorem dX10_next_63 : decode cX10_next 63 = .ok (.bipush (-3), 2) := by decide +kernel
theorem dX10_next_65 : decode cX10_next 65 = .ok (.ireturn, 1) := by decide +kernel
theorem dX10_next_66 : decode cX10_next 66 = .ok (.iconst 0, 1) := by decide +kernel
theorem dX10_next_67 : decode cX10_next 67 = .ok (.istore 6, 2) := by decide +kernel
theorem dX10_next_69 : decode cX10_next 69 = .ok (.iconst 0, 1) := by decide +kernel
theorem dX10_next_70 : decode cX10_next 70 = .ok (.istore 7, 2) := by decide +kernel
theorem dX10_next_72 : decode cX10_next 72 = .ok (.iload_n 2, 1) := by decide +kernel
theorem dX10_next_73 : decode cX10_next 73 = .ok (.istore 8, 2) := by decide +kernel
theorem dX10_next_75 : decode cX10_next 75 = .ok (.iload 8, 2) := by decide +kernel
theorem dX10_next_77 : decode cX10_next 77 = .ok (.aload 4, 2) := by decide +kernel
theorem dX10_next_79 : decode cX10_next 79 = .ok (.getfield 69, 3) := by decide +kernel
theorem dX10_next_82 : decode cX10_next 82 = .ok (.if_icmp .ge 35, 3) := by decide +kernel
theorem dX10_next_85 : decode cX10_next 85 = .ok (.aload 4, 2) := by decide +kernel
theorem dX10_next_87 : decode cX10_next 87 = .ok (.iload 8, 2) := by decide +kernel
theorem dX10_next_89 : decode cX10_next 89 = .ok (.iload_n 2, 1) := by decide +kernel
theorem dX10_next_90 : decode cX10_next 90 = .ok (.invokevirtual 233, 3) := by decide +kernel
theorem dX10_next_93 : decode cX10_next 93 = .ok (.ifCond .eq 18, 3) := by decide +kernel
theorem dX10_next_96 : decode cX10_next 96 = .ok (.iinc 7 1, 3) := by decide +kernel
theorem dX10_next_99 : decode cX10_next 99 = .ok (.iload 6, 2) := by decide +kernel
theorem dX10_next_101 : decode cX10_next 101 = .ok (.aload 4, 2) := by decide +kernel
theorem dX10_next_103 : decode cX10_next 103 = .ok (.iload 8, 2) := by decide +kernel
theorem dX10_next_105 : decode cX10_next 105 = .ok (.invokevirtual 93, 3) := by decide +kernel
theorem dX10_next_108 : decode cX10_next 108 = .ok (.iadd, 1) := by decide +kernel
theorem dX10_next_109 : decode cX10_next 109 = .ok (.istore 6, 2) := by decide +kernel
theorem dX10_next_111 : decode cX10_next 111 = .ok (.iinc 8 1, 3) := by decide +kernel
theorem dX10_next_114 : decode cX10_next 114 = .ok (.goto (-39), 3) := by decide +kernel
theorem dX10_next_117 : decode cX10_next 117 = .ok (.iload_n 3, 1) := by decide +kernel
theorem dX10_next_118 : decode cX10_next 118 = .ok (.iconst 2, 1) := by decide +kernel
theorem dX10_next_119 : decode cX10_next 119 = .ok (.if_icmp .ge 15, 3) := by decide +kernel
theorem dX10_next_122 : decode cX10_next 122 = .ok (.iload_n 3, 1) := by decide +kernel
theorem dX10_next_123 : decode cX10_next 123 = .ok (.ifCond .ne 8, 3) := by decide +kernel
theorem dX10_next_126 : decode cX10_next 126 = .ok (.iload 6, 2) := by decide +kernel
theorem dX10_next_128 : decode cX10_next 128 = .ok (.goto 5, 3) := by decide +kernel
theorem dX10_next_131 : decode cX10_next 131 = .ok (.iload 7, 2) := by decide +kernel
theorem dX10_next_133 : decode cX10_next 133 = .ok (.ireturn, 1) := by decide +kernel
theorem dX10_next_134 : decode cX10_next 134 = .ok (.iload 6, 2) := by decide +kernel
theorem dX10_next_136 : decode cX10_next 136 = .ok (.iconst 1, 1) := by decide +kernel
theorem dX10_next_137 : decode cX10_next 137 = .ok (.iadd, 1) := by decide +kernel
theorem dX10_next_138 : decode cX10_next 138 = .ok (.i2l, 1) := by decide +kernel
theorem dX10_next_139 : decode cX10_next 139 = .ok (.iload 7, 2) := by decide +kernel
theorem dX10_next_141 : decode cX10_next 141 = .ok (.iconst 2, 1) := by decide +kernel
theorem dX10_next_142 : decode cX10_next 142 = .ok (.iadd, 1) := by decide +kernel
theorem dX10_next_143 : decode cX10_next 143 = .ok (.i2l, 1) := by decide +kernel
theorem dX10_next_144 : decode cX10_next 144 = .ok (.iload_n 3, 1) := by decide +kernel
theorem dX10_next_145 : decode cX10_next 145 = .ok (.iconst 2, 1) := by decide +kernel
theorem dX10_next_146 : decode cX10_next 146 = .ok (.isub, 1) := by decide +kernel
theorem dX10_next_147 : decode cX10_next 147 = .ok (.invokestatic 196, 3) := by decide +kernel
theorem dX10_next_150 : decode cX10_next 150 = .ok (.l2i, 1) := by decide +kernel
theorem dX10_next_151 : decode cX10_next 151 = .ok (.ireturn, 1) := by decide +kernel
theorem dX10_sheet_0 : decode cX10_sheet 0 = .ok (.iload_n 1, 1) := by decide +kernel
theorem dX10_sheet_1 : decode cX10_sheet 1 = .ok (.invokestatic 72, 3) := by decide +kernel
theorem dX10_sheet_4 : decode cX10_sheet 4 = .ok (.ifCond .eq 16, 3) := by decide +kernel
theorem dX10_sheet_7 : decode cX10_sheet 7 = .ok (.iload_n 2, 1) := by decide +kernel
theorem dX10_sheet_8 : decode cX10_sheet 8 = .ok (.invokestatic 236, 3) := by decide +kernel
theorem dX10_sheet_11 : decode cX10_sheet 11 = .ok (.ifCond .eq 9, 3) := by decide +kernel
theorem dX10_sheet_14 : decode cX10_sheet 14 = .ok (.iload_n 3, 1) := by decide +kernel
theorem dX10_sheet_15 : decode cX10_sheet 15 = .ok (.bipush 40, 2) := by decide +kernel
theorem dX10_sheet_17 : decode cX10_sheet 17 = .ok (.if_icmp .le 6, 3) := by decide +kernel
theorem dX10_sheet_20 : decode cX10_sheet 20 = .ok (.bipush (-2), 2) := by decide +kernel
theorem dX10_sheet_22 : decode cX10_sheet 22 = .ok (.ireturn, 1) := by decide +kernel
theorem dX10_sheet_23 : decode cX10_sheet 23 = .ok (.iload_n 3, 1) := by decide +kernel
theorem dX10_sheet_24 : decode cX10_sheet 24 = .ok (.ifCond .ge 9, 3) := by decide +kernel
theorem dX10_sheet_27 : decode cX10_sheet 27 = .ok (.aload_n 0, 1) := by decide +kernel
theorem dX10_sheet_28 : decode cX10_sheet 28 = .ok (.iconst 5, 1) := by decide +kernel
theorem dX10_sheet_29 : decode cX10_sheet 29 = .ok (.invokevirtual 79, 3) := by decide +kernel
theorem dX10_sheet_32 : decode cX10_sheet 32 = .ok (.ireturn, 1) := by decide +kernel
theorem dX10_sheet_33 : decode cX10_sheet 33 = .ok (.aload_n 0, 1) := by decide +kernel
theorem dX10_sheet_34 : decode cX10_sheet 34 = .ok (.getfield 18, 3) := by decide +kernel
theorem dX10_sheet_37 : decode cX10_sheet 37 = .ok (.iload_n 1, 1) := by decide +kernel
theorem dX10_sheet_38 : decode cX10_sheet 38 = .ok (.aaload, 1) := by decide +kernel
theorem dX10_sheet_39 : decode cX10_sheet 39 = .ok (.iload_n 2, 1) := by decide +kernel
theorem dX10_sheet_40 : decode cX10_sheet 40 = .ok (.iload_n 3, 1) := by decide +kernel
theorem dX10_sheet_41 : decode cX10_sheet 41 = .ok (.invokevirtual 239, 3) := by decide +kernel
theorem dX10_sheet_44 : decode cX10_sheet 44 = .ok (.iload_n 3, 1) := by decide +kernel
theorem dX10_sheet_45 : decode cX10_sheet 45 = .ok (.ireturn, 1) := by decide +kernel
theorem dX10_lose_0 : decode cX10_lose 0 = .ok (.iload_n 1, 1) := by decide +kernel
theorem dX10_lose_1 : decode cX10_lose 1 = .ok (.invokestatic 72, 3) := by decide +kernel
theorem dX10_lose_4 : decode cX10_lose 4 = .ok (.ifCond .ne 6, 3) := by decide +kernel
theorem dX10_lose_7 : decode cX10_lose 7 = .ok (.bipush (-2), 2) := by decide +kernel
theorem dX10_lose_9 : decode cX10_lose 9 = .ok (.ireturn, 1) := by decide +kernel
theorem dX10_lose_10 : decode cX10_lose 10 = .ok (.aload_n 0, 1) := by decide +kernel
theorem dX10_lose_11 : decode cX10_lose 11 = .ok (.getfield 18, 3) := by decide +kernel
theorem dX10_lose_14 : decode cX10_lose 14 = .ok (.iload_n 1, 1) := by decide +kernel
theorem dX10_lose_15 : decode cX10_lose 15 = .ok (.aaload, 1) := by decide +kernel
theorem dX10_lose_16 : decode cX10_lose 16 = .ok (.getfield 75, 3) := by decide +kernel
theorem dX10_lose_19 : decode cX10_lose 19 = .ok (.ifCond .eq 9, 3) := by decide +kernel
theorem dX10_lose_22 : decode cX10_lose 22 = .ok (.aload_n 0, 1) := by decide +kernel
theorem dX10_lose_23 : decode cX10_lose 23 = .ok (.iconst 1, 1) := by decide +kernel
theorem dX10_lose_24 : decode cX10_lose 24 = .ok (.invokevirtual 79, 3) := by decide +kernel
theorem dX10_lose_27 : decode cX10_lose 27 = .ok (.ireturn, 1) := by decide +kernel
theorem dX10_lose_28 : decode cX10_lose 28 = .ok (.aload_n 0, 1) := by decide +kernel
theorem dX10_lose_29 : decode cX10_lose 29 = .ok (.getfield 18, 3) := by decide +kernel
theorem dX10_lose_32 : decode cX10_lose 32 = .ok (.iload_n 1, 1) := by decide +kernel
theorem dX10_lose_33 : decode cX10_lose 33 = .ok (.aaload, 1) := by decide +kernel
theorem dX10_lose_34 : decode cX10_lose 34 = .ok (.iconst 1, 1) := by decide +kernel
theorem dX10_lose_35 : decode cX10_lose 35 = .ok (.putfield 75, 3) := by decide +kernel
theorem dX10_lose_38 : decode cX10_lose 38 = .ok (.aload_n 0, 1) := by decide +kernel
theorem dX10_lose_39 : decode cX10_lose 39 = .ok (.getfield 18, 3) := by decide +kernel
theorem dX10_lose_42 : decode cX10_lose 42 = .ok (.iload_n 1, 1) := by decide +kernel
theorem dX10_lose_43 : decode cX10_lose 43 = .ok (.aaload, 1) := by decide +kernel
theorem dX10_lose_44 : decode cX10_lose 44 = .ok (.getfield 83, 3) := by decide +kernel
theorem dX10_lose_47 : decode cX10_lose 47 = .ok (.ireturn, 1) := by decide +kernel
theorem dX10_put_0 : decode cX10_put 0 = .ok (.aload_n 0, 1) := by decide +kernel
theorem dX10_put_1 : decode cX10_put 1 = .ok (.iload_n 1, 1) := by decide +kernel
theorem dX10_put_2 : decode cX10_put 2 = .ok (.iload_n 2, 1) := by decide +kernel
theorem dX10_put_3 : decode cX10_put 3 = .ok (.iload_n 3, 1) := by decide +kernel
theorem dX10_put_4 : decode cX10_put 4 = .ok (.invokevirtual 243, 3) := by decide +kernel
theorem dX10_put_7 : decode cX10_put 7 = .ok (.istore 5, 2) := by decide +kernel
theorem dX10_put_9 : decode cX10_put 9 = .ok (.iload 5, 2) := by decide +kernel
theorem dX10_put_11 : decode cX10_put 11 = .ok (.ifCond .eq 6, 3) := by decide +kernel
theorem dX10_put_14 : decode cX10_put 14 = .ok (.iload 5, 2) := by decide +kernel
theorem dX10_put_16 : decode cX10_put 16 = .ok (.ireturn, 1) := by decide +kernel
theorem dX10_put_17 : decode cX10_put 17 = .ok (.aload_n 0, 1) := by decide +kernel
theorem dX10_put_18 : decode cX10_put 18 = .ok (.getfield 18, 3) := by decide +kernel
theorem dX10_put_21 : decode cX10_put 21 = .ok (.iload_n 1, 1) := by decide +kernel
theorem dX10_put_22 : decode cX10_put 22 = .ok (.aaload, 1) := by decide +kernel
theorem dX10_put_23 : decode cX10_put 23 = .ok (.iload_n 3, 1) := by decide +kernel
theorem dX10_put_24 : decode cX10_put 24 = .ok (.iload 4, 2) := by decide +kernel
theorem dX10_put_26 : decode cX10_put 26 = .ok (.invokevirtual 247, 3) := by decide +kernel
theorem dX10_put_29 : decode cX10_put 29 = .ok (.iconst 1, 1) := by decide +kernel
theorem dX10_put_30 : decode cX10_put 30 = .ok (.ireturn, 1) := by decide +kernel
theorem dX10_get_0 : decode cX10_get 0 = .ok (.aload_n 0, 1) := by decide +kernel
theorem dX10_get_1 : decode cX10_get 1 = .ok (.iload_n 1, 1) := by decide +kernel
theorem dX10_get_2 : decode cX10_get 2 = .ok (.iload_n 2, 1) := by decide +kernel
theorem dX10_get_3 : decode cX10_get 3 = .ok (.iload_n 3, 1) := by decide +kernel
theorem dX10_get_4 : decode cX10_get 4 = .ok (.invokevirtual 243, 3) := by decide +kernel
theorem dX10_get_7 : decode cX10_get 7 = .ok (.ifCond .eq 8, 3) := by decide +kernel
theorem dX10_get_10 : decode cX10_get 10 = .ok (.ldc 250, 2) := by decide +kernel
theorem dX10_get_12 : decode cX10_get 12 = .ok (.goto 14, 3) := by decide +kernel
theorem dX10_get_15 : decode cX10_get 15 = .ok (.aload_n 0, 1) := by decide +kernel
theorem dX10_get_16 : decode cX10_get 16 = .ok (.getfield 18, 3) := by decide +kernel
theorem dX10_get_19 : decode cX10_get 19 = .ok (.iload_n 1, 1) := by decide +kernel
theorem dX10_get_20 : decode cX10_get 20 = .ok (.aaload, 1) := by decide +kernel
theorem dX10_get_21 : decode cX10_get 21 = .ok (.getfield 86, 3) := by decide +kernel
theorem dX10_get_24 : decode cX10_get 24 = .ok (.iload_n 3, 1) := by decide +kernel
theorem dX10_get_25 : decode cX10_get 25 = .ok (.iaload, 1) := by decide +kernel
theorem dX10_get_26 : decode cX10_get 26 = .ok (.ireturn, 1) := by decide +kernel
theorem dX10_copy_0 : decode cX10_copy 0 = .ok (.iload_n 1, 1) := by decide +kernel
theorem dX10_copy_1 : decode cX10_copy 1 = .ok (.invokestatic 72, 3) := by decide +kernel
theorem dX10_copy_4 : decode cX10_copy 4 = .ok (.ifCond .eq 10, 3) := by decide +kernel
theorem dX10_copy_7 : decode cX10_copy 7 = .ok (.iload_n 3, 1) := by decide +kernel
theorem dX10_copy_8 : decode cX10_copy 8 = .ok (.invokestatic 72, 3) := by decide +kernel
theorem dX10_copy_11 : decode cX10_copy 11 = .ok (.ifCond .ne 6, 3) := by decide +kernel
theorem dX10_copy_14 : decode cX10_copy 14 = .ok (.bipush (-2), 2) := by decide +kernel
theorem dX10_copy_16 : decode cX10_copy 16 = .ok (.ireturn, 1) := by decide +kernel
theorem dX10_copy_17 : decode cX10_copy 17 = .ok (.aload_n 0, 1) := by decide +kernel
theorem dX10_copy_18 : decode cX10_copy 18 = .ok (.getfield 18, 3) := by decide +kernel
theorem dX10_copy_21 : decode cX10_copy 21 = .ok (.iload_n 1, 1) := by decide +kernel
theorem dX10_copy_22 : decode cX10_copy 22 = .ok (.aaload, 1) := by decide +kernel
theorem dX10_copy_23 : decode cX10_copy 23 = .ok (.astore 6, 2) := by decide +kernel
theorem dX10_copy_25 : decode cX10_copy 25 = .ok (.aload_n 0, 1) := by decide +kernel
theorem dX10_copy_26 : decode cX10_copy 26 = .ok (.getfield 18, 3) := by decide +kernel
theorem dX10_copy_29 : decode cX10_copy 29 = .ok (.iload_n 3, 1) := by decide +kernel
theorem dX10_copy_30 : decode cX10_copy 30 = .ok (.aaload, 1) := by decide +kernel
theorem dX10_copy_31 : decode cX10_copy 31 = .ok (.astore 7, 2) := by decide +kernel
theorem dX10_copy_33 : decode cX10_copy 33 = .ok (.aload 6, 2) := by decide +kernel
theorem dX10_copy_35 : decode cX10_copy 35 = .ok (.getfield 75, 3) := by decide +kernel
theorem dX10_copy_38 : decode cX10_copy 38 = .ok (.ifCond .ne 11, 3) := by decide +kernel
theorem dX10_copy_41 : decode cX10_copy 41 = .ok (.aload 7, 2) := by decide +kernel
theorem dX10_copy_43 : decode cX10_copy 43 = .ok (.getfield 75, 3) := by decide +kernel
theorem dX10_copy_46 : decode cX10_copy 46 = .ok (.ifCond .eq 9, 3) := by decide +kernel
theorem dX10_copy_49 : decode cX10_copy 49 = .ok (.aload_n 0, 1) := by decide +kernel
theorem dX10_copy_50 : decode cX10_copy 50 = .ok (.iconst 1, 1) := by decide +kernel
theorem dX10_copy_51 : decode cX10_copy 51 = .ok (.invokevirtual 79, 3) := by decide +kernel
theorem dX10_copy_54 : decode cX10_copy 54 = .ok (.ireturn, 1) := by decide +kernel
theorem dX10_copy_55 : decode cX10_copy 55 = .ok (.aload 6, 2) := by decide +kernel
theorem dX10_copy_57 : decode cX10_copy 57 = .ok (.getfield 251, 3) := by decide +kernel
theorem dX10_copy_60 : decode cX10_copy 60 = .ok (.aload 7, 2) := by decide +kernel
theorem dX10_copy_62 : decode cX10_copy 62 = .ok (.getfield 251, 3) := by decide +kernel
theorem dX10_copy_65 : decode cX10_copy 65 = .ok (.if_icmp .eq 9, 3) := by decide +kernel
theorem dX10_copy_68 : decode cX10_copy 68 = .ok (.aload_n 0, 1) := by decide +kernel
theorem dX10_copy_69 : decode cX10_copy 69 = .ok (.iconst 4, 1) := by decide +kernel
theorem dX10_copy_70 : decode cX10_copy 70 = .ok (.invokevirtual 79, 3) := by decide +kernel
theorem dX10_copy_73 : decode cX10_copy 73 = .ok (.ireturn, 1) := by decide +kernel
theorem dX10_copy_74 : decode cX10_copy 74 = .ok (.aload 6, 2) := by decide +kernel
theorem dX10_copy_76 : decode cX10_copy 76 = .ok (.iload_n 2, 1) := by decide +kernel
theorem dX10_copy_77 : decode cX10_copy 77 = .ok (.iload 5, 2) := by decide +kernel
theorem dX10_copy_79 : decode cX10_copy 79 = .ok (.invokevirtual 254, 3) := by decide +kernel
theorem dX10_copy_82 : decode cX10_copy 82 = .ok (.ifCond .eq 15, 3) := by decide +kernel
theorem dX10_copy_85 : decode cX10_copy 85 = .ok (.aload 7, 2) := by decide +kernel
theorem dX10_copy_87 : decode cX10_copy 87 = .ok (.iload 4, 2) := by decide +kernel
theorem dX10_copy_89 : decode cX10_copy 89 = .ok (.iload 5, 2) := by decide +kernel
theorem dX10_copy_91 : decode cX10_copy 91 = .ok (.invokevirtual 254, 3) := by decide +kernel
theorem dX10_copy_94 : decode cX10_copy 94 = .ok (.ifCond .ne 9, 3) := by decide +kernel
theorem dX10_copy_97 : decode cX10_copy 97 = .ok (.aload_n 0, 1) := by decide +kernel
theorem dX10_copy_98 : decode cX10_copy 98 = .ok (.iconst 2, 1) := by decide +kernel
theorem dX10_copy_99 : decode cX10_copy 99 = .ok (.invokevirtual 79, 3) := by decide +kernel
theorem dX10_copy_102 : decode cX10_copy 102 = .ok (.ireturn, 1) := by decide +kernel
theorem dX10_copy_103 : decode cX10_copy 103 = .ok (.aload 6, 2) := by decide +kernel
theorem dX10_copy_105 : decode cX10_copy 105 = .ok (.getfield 86, 3) := by decide +kernel
theorem dX10_copy_108 : decode cX10_copy 108 = .ok (.iload_n 2, 1) := by decide +kernel
theorem dX10_copy_109 : decode cX10_copy 109 = .ok (.aload 7, 2) := by decide +kernel
theorem dX10_copy_111 : decode cX10_copy 111 = .ok (.getfield 86, 3) := by decide +kernel
theorem dX10_copy_114 : decode cX10_copy 114 = .ok (.iload 4, 2) := by decide +kernel
theorem dX10_copy_116 : decode cX10_copy 116 = .ok (.iload 5, 2) := by decide +kernel
theorem dX10_copy_118 : decode cX10_copy 118 = .ok (.invokestatic 257, 3) := by decide +kernel
theorem dX10_copy_121 : decode cX10_copy 121 = .ok (.iconst 1, 1) := by decide +kernel
theorem dX10_copy_122 : decode cX10_copy 122 = .ok (.ireturn, 1) := by decide +kernel
theorem dX10_write_0 : decode cX10_write 0 = .ok (.iload_n 1, 1) := by decide +kernel
theorem dX10_write_1 : decode cX10_write 1 = .ok (.invokestatic 54, 3) := by decide +kernel
theorem dX10_write_4 : decode cX10_write 4 = .ok (.ifCond .eq 10, 3) := by decide +kernel
theorem dX10_write_7 : decode cX10_write 7 = .ok (.iload_n 2, 1) := by decide +kernel
theorem dX10_write_8 : decode cX10_write 8 = .ok (.invokestatic 72, 3) := by decide +kernel
theorem dX10_write_11 : decode cX10_write 11 = .ok (.ifCond .ne 6, 3) := by decide +kernel
theorem dX10_write_14 : decode cX10_write 14 = .ok (.bipush (-2), 2) := by decide +kernel
theorem dX10_write_16 : decode cX10_write 16 = .ok (.ireturn, 1) := by decide +kernel
theorem dX10_write_17 : decode cX10_write 17 = .ok (.aload_n 0, 1) := by decide +kernel
theorem dX10_write_18 : decode cX10_write 18 = .ok (.getfield 18, 3) := by decide +kernel
theorem dX10_write_21 : decode cX10_write 21 = .ok (.iload_n 2, 1) := by decide +kernel
theorem dX10_write_22 : decode cX10_write 22 = .ok (.aaload, 1) := by decide +kernel
theorem dX10_write_23 : decode cX10_write 23 = .ok (.astore_n 3, 1) := by decide +kernel
theorem dX10_write_24 : decode cX10_write 24 = .ok (.aload_n 3, 1) := by decide +kernel
theorem dX10_write_25 : decode cX10_write 25 = .ok (.getfield 75, 3) := by decide +kernel
theorem dX10_write_28 : decode cX10_write 28 = .ok (.ifCond .eq 9, 3) := by decide +kernel
theorem dX10_write_31 : decode cX10_write 31 = .ok (.aload_n 0, 1) := by decide +kernel
theorem dX10_write_32 : decode cX10_write 32 = .ok (.iconst 1, 1) := by decide +kernel
theorem dX10_write_33 : decode cX10_write 33 = .ok (.invokevirtual 79, 3) := by decide +kernel
theorem dX10_write_36 : decode cX10_write 36 = .ok (.ireturn, 1) := by decide +kernel
theorem dX10_write_37 : decode cX10_write 37 = .ok (.aload_n 3, 1) := by decide +kernel
theorem dX10_write_38 : decode cX10_write 38 = .ok (.getfield 83, 3) := by decide +kernel
theorem dX10_write_41 : decode cX10_write 41 = .ok (.aload_n 0, 1) := by decide +kernel
theorem dX10_write_42 : decode cX10_write 42 = .ok (.getfield 11, 3) := by decide +kernel
theorem dX10_write_45 : decode cX10_write 45 = .ok (.iload_n 1, 1) := by decide +kernel
theorem dX10_write_46 : decode cX10_write 46 = .ok (.aaload, 1) := by decide +kernel
theorem dX10_write_47 : decode cX10_write 47 = .ok (.getfield 69, 3) := by decide +kernel
theorem dX10_write_50 : decode cX10_write 50 = .ok (.invokestatic 263, 3) := by decide +kernel
theorem dX10_write_53 : decode cX10_write 53 = .ok (.istore 4, 2) := by decide +kernel
theorem dX10_write_55 : decode cX10_write 55 = .ok (.iconst 0, 1) := by decide +kernel
theorem dX10_write_56 : decode cX10_write 56 = .ok (.istore 5, 2) := by decide +kernel
theorem dX10_write_58 : decode cX10_write 58 = .ok (.iload 5, 2) := by decide +kernel
theorem dX10_write_60 : decode cX10_write 60 = .ok (.iload 4, 2) := by decide +kernel
theorem dX10_write_62 : decode cX10_write 62 = .ok (.if_icmp .ge 26, 3) := by decide +kernel
theorem dX10_write_65 : decode cX10_write 65 = .ok (.aload_n 3, 1) := by decide +kernel
theorem dX10_write_66 : decode cX10_write 66 = .ok (.iload 5, 2) := by decide +kernel
theorem dX10_write_68 : decode cX10_write 68 = .ok (.aload_n 0, 1) := by decide +kernel
theorem dX10_write_69 : decode cX10_write 69 = .ok (.getfield 11, 3) := by decide +kernel
theorem dX10_write_72 : decode cX10_write 72 = .ok (.iload_n 1, 1) := by decide +kernel
theorem dX10_write_73 : decode cX10_write 73 = .ok (.aaload, 1) := by decide +kernel
theorem dX10_write_74 : decode cX10_write 74 = .ok (.iload 5, 2) := by decide +kernel
theorem dX10_write_76 : decode cX10_write 76 = .ok (.invokevirtual 93, 3) := by decide +kernel
theorem dX10_write_79 : decode cX10_write 79 = .ok (.invokevirtual 247, 3) := by decide +kernel
theorem dX10_write_82 : decode cX10_write 82 = .ok (.iinc 5 1, 3) := by decide +kernel
theorem dX10_write_85 : decode cX10_write 85 = .ok (.goto (-27), 3) := by decide +kernel
theorem dX10_write_88 : decode cX10_write 88 = .ok (.iload 4, 2) := by decide +kernel
theorem dX10_write_90 : decode cX10_write 90 = .ok (.ireturn, 1) := by decide +kernel
theorem dX10_count_0 : decode cX10_count 0 = .ok (.iload_n 1, 1) := by decide +kernel
theorem dX10_count_1 : decode cX10_count 1 = .ok (.invokestatic 54, 3) := by decide +kernel
theorem dX10_count_4 : decode cX10_count 4 = .ok (.ifCond .eq 13, 3) := by decide +kernel
theorem dX10_count_7 : decode cX10_count 7 = .ok (.aload_n 0, 1) := by decide +kernel
theorem dX10_count_8 : decode cX10_count 8 = .ok (.getfield 11, 3) := by decide +kernel
theorem dX10_count_11 : decode cX10_count 11 = .ok (.iload_n 1, 1) := by decide +kernel
theorem dX10_count_12 : decode cX10_count 12 = .ok (.aaload, 1) := by decide +kernel
theorem dX10_count_13 : decode cX10_count 13 = .ok (.getfield 69, 3) := by decide +kernel
theorem dX10_count_16 : decode cX10_count 16 = .ok (.ireturn, 1) := by decide +kernel
theorem dX10_count_17 : decode cX10_count 17 = .ok (.iload_n 1, 1) := by decide +kernel
theorem dX10_count_18 : decode cX10_count 18 = .ok (.tableswitch 62 4 8 #[34, 42, 47, 52, 57], 34) := by decide +kernel
theorem dX10_count_52 : decode cX10_count 52 = .ok (.aload_n 0, 1) := by decide +kernel
theorem dX10_count_53 : decode cX10_count 53 = .ok (.getfield 26, 3) := by decide +kernel
theorem dX10_count_56 : decode cX10_count 56 = .ok (.getfield 109, 3) := by decide +kernel
theorem dX10_count_59 : decode cX10_count 59 = .ok (.ireturn, 1) := by decide +kernel
theorem dX10_count_60 : decode cX10_count 60 = .ok (.aload_n 0, 1) := by decide +kernel
theorem dX10_count_61 : decode cX10_count 61 = .ok (.getfield 44, 3) := by decide +kernel
theorem dX10_count_64 : decode cX10_count 64 = .ok (.ireturn, 1) := by decide +kernel
theorem dX10_count_65 : decode cX10_count 65 = .ok (.aload_n 0, 1) := by decide +kernel
theorem dX10_count_66 : decode cX10_count 66 = .ok (.getfield 48, 3) := by decide +kernel
theorem dX10_count_69 : decode cX10_count 69 = .ok (.ireturn, 1) := by decide +kernel
theorem dX10_count_70 : decode cX10_count 70 = .ok (.aload_n 0, 1) := by decide +kernel
theorem dX10_count_71 : decode cX10_count 71 = .ok (.invokevirtual 268, 3) := by decide +kernel
theorem dX10_count_74 : decode cX10_count 74 = .ok (.ireturn, 1) := by decide +kernel
theorem dX10_count_75 : decode cX10_count 75 = .ok (.aload_n 0, 1) := by decide +kernel
theorem dX10_count_76 : decode cX10_count 76 = .ok (.getfield 51, 3) := by decide +kernel
theorem dX10_count_79 : decode cX10_count 79 = .ok (.ireturn, 1) := by decide +kernel
theorem dX10_count_80 : decode cX10_count 80 = .ok (.bipush (-2), 2) := by decide +kernel
theorem dX10_count_82 : decode cX10_count 82 = .ok (.ireturn, 1) := by decide +kernel
theorem dX10_digest_0 : decode cX10_digest 0 = .ok (.ldc2_w 271, 3) := by decide +kernel
theorem dX10_digest_3 : decode cX10_digest 3 = .ok (.lstore_n 1, 1) := by decide +kernel
theorem dX10_digest_4 : decode cX10_digest 4 = .ok (.iconst 0, 1) := by decide +kernel
theorem dX10_digest_5 : decode cX10_digest 5 = .ok (.istore_n 3, 1) := by decide +kernel
theorem dX10_digest_6 : decode cX10_digest 6 = .ok (.iload_n 3, 1) := by decide +kernel
theorem dX10_digest_7 : decode cX10_digest 7 = .ok (.bipush 7, 2) := by decide +kernel
theorem dX10_digest_9 : decode cX10_digest 9 = .ok (.if_icmp .gt 22, 3) := by decide +kernel
theorem dX10_digest_12 : decode cX10_digest 12 = .ok (.ldc2_w 273, 3) := by decide +kernel
theorem dX10_digest_15 : decode cX10_digest 15 = .ok (.lload_n 1, 1) := by decide +kernel
theorem dX10_digest_16 : decode cX10_digest 16 = .ok (.lmul, 1) := by decide +kernel
theorem dX10_digest_17 : decode cX10_digest 17 = .ok (.aload_n 0, 1) := by decide +kernel
theorem dX10_digest_18 : decode cX10_digest 18 = .ok (.iload_n 3, 1) := by decide +kernel
theorem dX10_digest_19 : decode cX10_digest 19 = .ok (.invokevirtual 275, 3) := by decide +kernel
theorem dX10_digest_22 : decode cX10_digest 22 = .ok (.i2l, 1) := by decide +kernel
theorem dX10_digest_23 : decode cX10_digest 23 = .ok (.ladd, 1) := by decide +kernel
theorem dX10_digest_24 : decode cX10_digest 24 = .ok (.lstore_n 1, 1) := by decide +kernel
theorem dX10_digest_25 : decode cX10_digest 25 = .ok (.iinc 3 1, 3) := by decide +kernel
theorem dX10_digest_28 : decode cX10_digest 28 = .ok (.goto (-22), 3) := by decide +kernel
theorem dX10_digest_31 : decode cX10_digest 31 = .ok (.iconst 0, 1) := by decide +kernel
theorem dX10_digest_32 : decode cX10_digest 32 = .ok (.istore_n 3, 1) := by decide +kernel
theorem dX10_digest_33 : decode cX10_digest 33 = .ok (.iload_n 3, 1) := by decide +kernel
theorem dX10_digest_34 : decode cX10_digest 34 = .ok (.iconst 4, 1) := by decide +kernel
theorem dX10_digest_35 : decode cX10_digest 35 = .ok (.if_icmp .ge 82, 3) := by decide +kernel
theorem dX10_digest_38 : decode cX10_digest 38 = .ok (.iconst 0, 1) := by decide +kernel
theorem dX10_digest_39 : decode cX10_digest 39 = .ok (.istore 4, 2) := by decide +kernel
theorem dX10_digest_41 : decode cX10_digest 41 = .ok (.iload 4, 2) := by decide +kernel
theorem dX10_digest_43 : decode cX10_digest 43 = .ok (.aload_n 0, 1) := by decide +kernel
theorem dX10_digest_44 : decode cX10_digest 44 = .ok (.getfield 11, 3) := by decide +kernel
theorem dX10_digest_47 : decode cX10_digest 47 = .ok (.iload_n 3, 1) := by decide +kernel
theorem dX10_digest_48 : decode cX10_digest 48 = .ok (.aaload, 1) := by decide +kernel
theorem dX10_digest_49 : decode cX10_digest 49 = .ok (.getfield 69, 3) := by decide +kernel
theorem dX10_digest_52 : decode cX10_digest 52 = .ok (.if_icmp .ge 28, 3) := by decide +kernel
theorem dX10_digest_55 : decode cX10_digest 55 = .ok (.ldc2_w 273, 3) := by decide +kernel
theorem dX10_digest_58 : decode cX10_digest 58 = .ok (.lload_n 1, 1) := by decide +kernel
theorem dX10_digest_59 : decode cX10_digest 59 = .ok (.lmul, 1) := by decide +kernel
theorem dX10_digest_60 : decode cX10_digest 60 = .ok (.aload_n 0, 1) := by decide +kernel
theorem dX10_digest_61 : decode cX10_digest 61 = .ok (.getfield 11, 3) := by decide +kernel
theorem dX10_digest_64 : decode cX10_digest 64 = .ok (.iload_n 3, 1) := by decide +kernel
theorem dX10_digest_65 : decode cX10_digest 65 = .ok (.aaload, 1) := by decide +kernel
theorem dX10_digest_66 : decode cX10_digest 66 = .ok (.iload 4, 2) := by decide +kernel
theorem dX10_digest_68 : decode cX10_digest 68 = .ok (.invokevirtual 93, 3) := by decide +kernel
theorem dX10_digest_71 : decode cX10_digest 71 = .ok (.i2l, 1) := by decide +kernel
theorem dX10_digest_72 : decode cX10_digest 72 = .ok (.ladd, 1) := by decide +kernel
theorem dX10_digest_73 : decode cX10_digest 73 = .ok (.lstore_n 1, 1) := by decide +kernel
theorem dX10_digest_74 : decode cX10_digest 74 = .ok (.iinc 4 1, 3) := by decide +kernel
theorem dX10_digest_77 : decode cX10_digest 77 = .ok (.goto (-36), 3) := by decide +kernel
theorem dX10_digest_80 : decode cX10_digest 80 = .ok (.iconst 0, 1) := by decide +kernel
theorem dX10_digest_81 : decode cX10_digest 81 = .ok (.istore 4, 2) := by decide +kernel
theorem dX10_digest_83 : decode cX10_digest 83 = .ok (.iload 4, 2) := by decide +kernel
theorem dX10_digest_85 : decode cX10_digest 85 = .ok (.bipush 7, 2) := by decide +kernel
theorem dX10_digest_87 : decode cX10_digest 87 = .ok (.if_icmp .ge 24, 3) := by decide +kernel
theorem dX10_digest_90 : decode cX10_digest 90 = .ok (.ldc2_w 273, 3) := by decide +kernel
theorem dX10_digest_93 : decode cX10_digest 93 = .ok (.lload_n 1, 1) := by decide +kernel
theorem dX10_digest_94 : decode cX10_digest 94 = .ok (.lmul, 1) := by decide +kernel
theorem dX10_digest_95 : decode cX10_digest 95 = .ok (.aload_n 0, 1) := by decide +kernel
theorem dX10_digest_96 : decode cX10_digest 96 = .ok (.iload_n 3, 1) := by decide +kernel
theorem dX10_digest_97 : decode cX10_digest 97 = .ok (.iload 4, 2) := by decide +kernel
theorem dX10_digest_99 : decode cX10_digest 99 = .ok (.invokevirtual 278, 3) := by decide +kernel
theorem dX10_digest_102 : decode cX10_digest 102 = .ok (.i2l, 1) := by decide +kernel
theorem dX10_digest_103 : decode cX10_digest 103 = .ok (.ladd, 1) := by decide +kernel
theorem dX10_digest_104 : decode cX10_digest 104 = .ok (.lstore_n 1, 1) := by decide +kernel
theorem dX10_digest_105 : decode cX10_digest 105 = .ok (.iinc 4 1, 3) := by decide +kernel
theorem dX10_digest_108 : decode cX10_digest 108 = .ok (.goto (-25), 3) := by decide +kernel
theorem dX10_digest_111 : decode cX10_digest 111 = .ok (.iinc 3 1, 3) := by decide +kernel
theorem dX10_digest_114 : decode cX10_digest 114 = .ok (.goto (-81), 3) := by decide +kernel
theorem dX10_digest_117 : decode cX10_digest 117 = .ok (.ldc2_w 273, 3) := by decide +kernel
theorem dX10_digest_120 : decode cX10_digest 120 = .ok (.lload_n 1, 1) := by decide +kernel
theorem dX10_digest_121 : decode cX10_digest 121 = .ok (.lmul, 1) := by decide +kernel
theorem dX10_digest_122 : decode cX10_digest 122 = .ok (.aload_n 0, 1) := by decide +kernel
theorem dX10_digest_123 : decode cX10_digest 123 = .ok (.invokevirtual 281, 3) := by decide +kernel
theorem dX10_digest_126 : decode cX10_digest 126 = .ok (.i2l, 1) := by decide +kernel
theorem dX10_digest_127 : decode cX10_digest 127 = .ok (.ladd, 1) := by decide +kernel
theorem dX10_digest_128 : decode cX10_digest 128 = .ok (.lstore_n 1, 1) := by decide +kernel
theorem dX10_digest_129 : decode cX10_digest 129 = .ok (.ldc2_w 273, 3) := by decide +kernel
theorem dX10_digest_132 : decode cX10_digest 132 = .ok (.lload_n 1, 1) := by decide +kernel
theorem dX10_digest_133 : decode cX10_digest 133 = .ok (.lmul, 1) := by decide +kernel
theorem dX10_digest_134 : decode cX10_digest 134 = .ok (.aload_n 0, 1) := by decide +kernel
theorem dX10_digest_135 : decode cX10_digest 135 = .ok (.bipush 10, 2) := by decide +kernel
theorem dX10_digest_137 : decode cX10_digest 137 = .ok (.iconst (-1), 1) := by decide +kernel
theorem dX10_digest_138 : decode cX10_digest 138 = .ok (.invokevirtual 284, 3) := by decide +kernel
theorem dX10_digest_141 : decode cX10_digest 141 = .ok (.i2l, 1) := by decide +kernel
theorem dX10_digest_142 : decode cX10_digest 142 = .ok (.ladd, 1) := by decide +kernel
theorem dX10_digest_143 : decode cX10_digest 143 = .ok (.lstore_n 1, 1) := by decide +kernel
theorem dX10_digest_144 : decode cX10_digest 144 = .ok (.ldc2_w 273, 3) := by decide +kernel
theorem dX10_digest_147 : decode cX10_digest 147 = .ok (.lload_n 1, 1) := by decide +kernel
theorem dX10_digest_148 : decode cX10_digest 148 = .ok (.lmul, 1) := by decide +kernel
theorem dX10_digest_149 : decode cX10_digest 149 = .ok (.aload_n 0, 1) := by decide +kernel
theorem dX10_digest_150 : decode cX10_digest 150 = .ok (.iconst 0, 1) := by decide +kernel
theorem dX10_digest_151 : decode cX10_digest 151 = .ok (.invokevirtual 287, 3) := by decide +kernel
theorem dX10_digest_154 : decode cX10_digest 154 = .ok (.ladd, 1) := by decide +kernel
theorem dX10_digest_155 : decode cX10_digest 155 = .ok (.lstore_n 1, 1) := by decide +kernel
theorem dX10_digest_156 : decode cX10_digest 156 = .ok (.ldc2_w 273, 3) := by decide +kernel
theorem dX10_digest_159 : decode cX10_digest 159 = .ok (.lload_n 1, 1) := by decide +kernel
theorem dX10_digest_160 : decode cX10_digest 160 = .ok (.lmul, 1) := by decide +kernel
theorem dX10_digest_161 : decode cX10_digest 161 = .ok (.aload_n 0, 1) := by decide +kernel
theorem dX10_digest_162 : decode cX10_digest 162 = .ok (.iconst 1, 1) := by decide +kernel
theorem dX10_digest_163 : decode cX10_digest 163 = .ok (.invokevirtual 287, 3) := by decide +kernel
theorem dX10_digest_166 : decode cX10_digest 166 = .ok (.ladd, 1) := by decide +kernel
theorem dX10_digest_167 : decode cX10_digest 167 = .ok (.lstore_n 1, 1) := by decide +kernel
theorem dX10_digest_168 : decode cX10_digest 168 = .ok (.ldc2_w 273, 3) := by decide +kernel
theorem dX10_digest_171 : decode cX10_digest 171 = .ok (.lload_n 1, 1) := by decide +kernel
theorem dX10_digest_172 : decode cX10_digest 172 = .ok (.lmul, 1) := by decide +kernel
theorem dX10_digest_173 : decode cX10_digest 173 = .ok (.aload_n 0, 1) := by decide +kernel
theorem dX10_digest_174 : decode cX10_digest 174 = .ok (.iconst 0, 1) := by decide +kernel
theorem dX10_digest_175 : decode cX10_digest 175 = .ok (.iconst 0, 1) := by decide +kernel
theorem dX10_digest_176 : decode cX10_digest 176 = .ok (.invokevirtual 290, 3) := by decide +kernel
theorem dX10_digest_179 : decode cX10_digest 179 = .ok (.i2l, 1) := by decide +kernel
theorem dX10_digest_180 : decode cX10_digest 180 = .ok (.ladd, 1) := by decide +kernel
theorem dX10_digest_181 : decode cX10_digest 181 = .ok (.lreturn, 1) := by decide +kernel
theorem dX10_isRow_0 : decode cX10_isRow 0 = .ok (.iload_n 0, 1) := by decide +kernel
theorem dX10_isRow_1 : decode cX10_isRow 1 = .ok (.ifCond .lt 12, 3) := by decide +kernel
theorem dX10_isRow_4 : decode cX10_isRow 4 = .ok (.iload_n 0, 1) := by decide +kernel
theorem dX10_isRow_5 : decode cX10_isRow 5 = .ok (.iconst 4, 1) := by decide +kernel
theorem dX10_isRow_6 : decode cX10_isRow 6 = .ok (.if_icmp .ge 7, 3) := by decide +kernel
theorem dX10_isRow_9 : decode cX10_isRow 9 = .ok (.iconst 1, 1) := by decide +kernel
theorem dX10_isRow_10 : decode cX10_isRow 10 = .ok (.goto 4, 3) := by decide +kernel
theorem dX10_isRow_13 : decode cX10_isRow 13 = .ok (.iconst 0, 1) := by decide +kernel
theorem dX10_isRow_14 : decode cX10_isRow 14 = .ok (.ireturn, 1) := by decide +kernel
theorem dX10_isSheet_0 : decode cX10_isSheet 0 = .ok (.iload_n 0, 1) := by decide +kernel
theorem dX10_isSheet_1 : decode cX10_isSheet 1 = .ok (.ifCond .lt 12, 3) := by decide +kernel
theorem dX10_isSheet_4 : decode cX10_isSheet 4 = .ok (.iload_n 0, 1) := by decide +kernel
theorem dX10_isSheet_5 : decode cX10_isSheet 5 = .ok (.iconst 4, 1) := by decide +kernel
theorem dX10_isSheet_6 : decode cX10_isSheet 6 = .ok (.if_icmp .ge 7, 3) := by decide +kernel
theorem dX10_isSheet_9 : decode cX10_isSheet 9 = .ok (.iconst 1, 1) := by decide +kernel
theorem dX10_isSheet_10 : decode cX10_isSheet 10 = .ok (.goto 4, 3) := by decide +kernel
theorem dX10_isSheet_13 : decode cX10_isSheet 13 = .ok (.iconst 0, 1) := by decide +kernel
theorem dX10_isSheet_14 : decode cX10_isSheet 14 = .ok (.ireturn, 1) := by decide +kernel
theorem dX10_isType_0 : decode cX10_isType 0 = .ok (.iload_n 0, 1) := by decide +kernel
theorem dX10_isType_1 : decode cX10_isType 1 = .ok (.ifCond .lt 12, 3) := by decide +kernel
theorem dX10_isType_4 : decode cX10_isType 4 = .ok (.iload_n 0, 1) := by decide +kernel
theorem dX10_isType_5 : decode cX10_isType 5 = .ok (.iconst 3, 1) := by decide +kernel
theorem dX10_isType_6 : decode cX10_isType 6 = .ok (.if_icmp .ge 7, 3) := by decide +kernel
theorem dX10_isType_9 : decode cX10_isType 9 = .ok (.iconst 1, 1) := by decide +kernel
theorem dX10_isType_10 : decode cX10_isType 10 = .ok (.goto 4, 3) := by decide +kernel
theorem dX10_isType_13 : decode cX10_isType 13 = .ok (.iconst 0, 1) := by decide +kernel
theorem dX10_isType_14 : decode cX10_isType 14 = .ok (.ireturn, 1) := by decide +kernel
theorem dX10_isNumber_0 : decode cX10_isNumber 0 = .ok (.iload_n 0, 1) := by decide +kernel
theorem dX10_isNumber_1 : decode cX10_isNumber 1 = .ok (.ifCond .lt 13, 3) := by decide +kernel
theorem dX10_isNumber_4 : decode cX10_isNumber 4 = .ok (.iload_n 0, 1) := by decide +kernel
theorem dX10_isNumber_5 : decode cX10_isNumber 5 = .ok (.bipush 7, 2) := by decide +kernel
theorem dX10_isNumber_7 : decode cX10_isNumber 7 = .ok (.if_icmp .ge 7, 3) := by decide +kernel
theorem dX10_isNumber_10 : decode cX10_isNumber 10 = .ok (.iconst 1, 1) := by decide +kernel
theorem dX10_isNumber_11 : decode cX10_isNumber 11 = .ok (.goto 4, 3) := by decide +kernel
theorem dX10_isNumber_14 : decode cX10_isNumber 14 = .ok (.iconst 0, 1) := by decide +kernel
theorem dX10_isNumber_15 : decode cX10_isNumber 15 = .ok (.ireturn, 1) := by decide +kernel
theorem dX10_isLength_0 : decode cX10_isLength 0 = .ok (.iload_n 0, 1) := by decide +kernel
theorem dX10_isLength_1 : decode cX10_isLength 1 = .ok (.ifCond .lt 13, 3) := by decide +kernel
theorem dX10_isLength_4 : decode cX10_isLength 4 = .ok (.iload_n 0, 1) := by decide +kernel
theorem dX10_isLength_5 : decode cX10_isLength 5 = .ok (.bipush 15, 2) := by decide +kernel
theorem dX10_isLength_7 : decode cX10_isLength 7 = .ok (.if_icmp .gt 7, 3) := by decide +kernel
theorem dX10_isLength_10 : decode cX10_isLength 10 = .ok (.iconst 1, 1) := by decide +kernel
theorem dX10_isLength_11 : decode cX10_isLength 11 = .ok (.goto 4, 3) := by decide +kernel
theorem dX10_isLength_14 : decode cX10_isLength 14 = .ok (.iconst 0, 1) := by decide +kernel
theorem dX10_isLength_15 : decode cX10_isLength 15 = .ok (.ireturn, 1) := by decide +kernel
theorem dX10_isPart_0 : decode cX10_isPart 0 = .ok (.iload_n 0, 1) := by decide +kernel
theorem dX10_isPart_1 : decode cX10_isPart 1 = .ok (.ifCond .eq 8, 3) := by decide +kernel
theorem dX10_isPart_4 : decode cX10_isPart 4 = .ok (.iload_n 0, 1) := by decide +kernel
theorem dX10_isPart_5 : decode cX10_isPart 5 = .ok (.iconst 1, 1) := by decide +kernel
theorem dX10_isPart_6 : decode cX10_isPart 6 = .ok (.if_icmp .ne 7, 3) := by decide +kernel
theorem dX10_isPart_9 : decode cX10_isPart 9 = .ok (.iconst 1, 1) := by decide +kernel
theorem dX10_isPart_10 : decode cX10_isPart 10 = .ok (.goto 4, 3) := by decide +kernel
theorem dX10_isPart_13 : decode cX10_isPart 13 = .ok (.iconst 0, 1) := by decide +kernel
theorem dX10_isPart_14 : decode cX10_isPart 14 = .ok (.ireturn, 1) := by decide +kernel
theorem dX10_isBehind_0 : decode cX10_isBehind 0 = .ok (.iload_n 0, 1) := by decide +kernel
theorem dX10_isBehind_1 : decode cX10_isBehind 1 = .ok (.iconst 1, 1) := by decide +kernel
theorem dX10_isBehind_2 : decode cX10_isBehind 2 = .ok (.if_icmp .lt 12, 3) := by decide +kernel
theorem dX10_isBehind_5 : decode cX10_isBehind 5 = .ok (.iload_n 0, 1) := by decide +kernel
theorem dX10_isBehind_6 : decode cX10_isBehind 6 = .ok (.iconst 4, 1) := by decide +kernel
theorem dX10_isBehind_7 : decode cX10_isBehind 7 = .ok (.if_icmp .gt 7, 3) := by decide +kernel
theorem dX10_isBehind_10 : decode cX10_isBehind 10 = .ok (.iconst 1, 1) := by decide +kernel
theorem dX10_isBehind_11 : decode cX10_isBehind 11 = .ok (.goto 4, 3) := by decide +kernel
theorem dX10_isBehind_14 : decode cX10_isBehind 14 = .ok (.iconst 0, 1) := by decide +kernel
theorem dX10_isBehind_15 : decode cX10_isBehind 15 = .ok (.ireturn, 1) := by decide +kernel
theorem dX10_isFirstTold_0 : decode cX10_isFirstTold 0 = .ok (.iload_n 0, 1) := by decide +kernel
theorem dX10_isFirstTold_1 : decode cX10_isFirstTold 1 = .ok (.iconst 2, 1) := by decide +kernel
theorem dX10_isFirstTold_2 : decode cX10_isFirstTold 2 = .ok (.if_icmp .lt 13, 3) := by decide +kernel
theorem dX10_isFirstTold_5 : decode cX10_isFirstTold 5 = .ok (.iload_n 0, 1) := by decide +kernel
theorem dX10_isFirstTold_6 : decode cX10_isFirstTold 6 = .ok (.bipush 31, 2) := by decide +kernel
theorem dX10_isFirstTold_8 : decode cX10_isFirstTold 8 = .ok (.if_icmp .gt 7, 3) := by decide +kernel
theorem dX10_isFirstTold_11 : decode cX10_isFirstTold 11 = .ok (.iconst 1, 1) := by decide +kernel
theorem dX10_isFirstTold_12 : decode cX10_isFirstTold 12 = .ok (.goto 4, 3) := by decide +kernel
theorem dX10_isFirstTold_15 : decode cX10_isFirstTold 15 = .ok (.iconst 0, 1) := by decide +kernel
theorem dX10_isFirstTold_16 : decode cX10_isFirstTold 16 = .ok (.ireturn, 1) := by decide +kernel
theorem dX10_refusal_0 : decode cX10_refusal 0 = .ok (.ldc2_w 295, 3) := by decide +kernel
theorem dX10_refusal_3 : decode cX10_refusal 3 = .ok (.iload_n 0, 1) := by decide +kernel
theorem dX10_refusal_4 : decode cX10_refusal 4 = .ok (.i2l, 1) := by decide +kernel
theorem dX10_refusal_5 : decode cX10_refusal 5 = .ok (.lsub, 1) := by decide +kernel
theorem dX10_refusal_6 : decode cX10_refusal 6 = .ok (.lreturn, 1) := by decide +kernel
theorem dX10_found_0 : decode cX10_found 0 = .ok (.aload_n 0, 1) := by decide +kernel
theorem dX10_found_1 : decode cX10_found 1 = .ok (.iload_n 1, 1) := by decide +kernel
theorem dX10_found_2 : decode cX10_found 2 = .ok (.putfield 51, 3) := by decide +kernel
theorem dX10_found_5 : decode cX10_found 5 = .ok (.bipush (-10), 2) := by decide +kernel
theorem dX10_found_7 : decode cX10_found 7 = .ok (.iload_n 1, 1) := by decide +kernel
theorem dX10_found_8 : decode cX10_found 8 = .ok (.isub, 1) := by decide +kernel
theorem dX10_found_9 : decode cX10_found 9 = .ok (.ireturn, 1) := by decide +kernel
theorem dX10_refusesItem_0 : decode cX10_refusesItem 0 = .ok (.iload_n 1, 1) := by decide +kernel
theorem dX10_refusesItem_1 : decode cX10_refusesItem 1 = .ok (.invokestatic 72, 3) := by decide +kernel
theorem dX10_refusesItem_4 : decode cX10_refusesItem 4 = .ok (.ifCond .eq 10, 3) := by decide +kernel
theorem dX10_refusesItem_7 : decode cX10_refusesItem 7 = .ok (.iload_n 2, 1) := by decide +kernel
theorem dX10_refusesItem_8 : decode cX10_refusesItem 8 = .ok (.invokestatic 236, 3) := by decide +kernel
theorem dX10_refusesItem_11 : decode cX10_refusesItem 11 = .ok (.ifCond .ne 6, 3) := by decide +kernel
theorem dX10_refusesItem_14 : decode cX10_refusesItem 14 = .ok (.bipush (-2), 2) := by decide +kernel
theorem dX10_refusesItem_16 : decode cX10_refusesItem 16 = .ok (.ireturn, 1) := by decide +kernel
theorem dX10_refusesItem_17 : decode cX10_refusesItem 17 = .ok (.aload_n 0, 1) := by decide +kernel
theorem dX10_refusesItem_18 : decode cX10_refusesItem 18 = .ok (.getfield 18, 3) := by decide +kernel
theorem dX10_refusesItem_21 : decode cX10_refusesItem 21 = .ok (.iload_n 1, 1) := by decide +kernel
theorem dX10_refusesItem_22 : decode cX10_refusesItem 22 = .ok (.aaload, 1) := by decide +kernel
theorem dX10_refusesItem_23 : decode cX10_refusesItem 23 = .ok (.getfield 75, 3) := by decide +kernel
theorem dX10_refusesItem_26 : decode cX10_refusesItem 26 = .ok (.ifCond .eq 9, 3) := by decide +kernel
theorem dX10_refusesItem_29 : decode cX10_refusesItem 29 = .ok (.aload_n 0, 1) := by decide +kernel
theorem dX10_refusesItem_30 : decode cX10_refusesItem 30 = .ok (.iconst 1, 1) := by decide +kernel
theorem dX10_refusesItem_31 : decode cX10_refusesItem 31 = .ok (.invokevirtual 79, 3) := by decide +kernel
theorem dX10_refusesItem_34 : decode cX10_refusesItem 34 = .ok (.ireturn, 1) := by decide +kernel
theorem dX10_refusesItem_35 : decode cX10_refusesItem 35 = .ok (.aload_n 0, 1) := by decide +kernel
theorem dX10_refusesItem_36 : decode cX10_refusesItem 36 = .ok (.getfield 18, 3) := by decide +kernel
theorem dX10_refusesItem_39 : decode cX10_refusesItem 39 = .ok (.iload_n 1, 1) := by decide +kernel
theorem dX10_refusesItem_40 : decode cX10_refusesItem 40 = .ok (.aaload, 1) := by decide +kernel
theorem dX10_refusesItem_41 : decode cX10_refusesItem 41 = .ok (.getfield 251, 3) := by decide +kernel
theorem dX10_refusesItem_44 : decode cX10_refusesItem 44 = .ok (.iload_n 2, 1) := by decide +kernel
theorem dX10_refusesItem_45 : decode cX10_refusesItem 45 = .ok (.if_icmp .eq 9, 3) := by decide +kernel
theorem dX10_refusesItem_48 : decode cX10_refusesItem 48 = .ok (.aload_n 0, 1) := by decide +kernel
theorem dX10_refusesItem_49 : decode cX10_refusesItem 49 = .ok (.iconst 3, 1) := by decide +kernel
theorem dX10_refusesItem_50 : decode cX10_refusesItem 50 = .ok (.invokevirtual 79, 3) := by decide +kernel
theorem dX10_refusesItem_53 : decode cX10_refusesItem 53 = .ok (.ireturn, 1) := by decide +kernel
theorem dX10_refusesItem_54 : decode cX10_refusesItem 54 = .ok (.iload_n 3, 1) := by decide +kernel
theorem dX10_refusesItem_55 : decode cX10_refusesItem 55 = .ok (.ifCond .lt 20, 3) := by decide +kernel
theorem dX10_refusesItem_58 : decode cX10_refusesItem 58 = .ok (.iload_n 3, 1) := by decide +kernel
theorem dX10_refusesItem_59 : decode cX10_refusesItem 59 = .ok (.aload_n 0, 1) := by decide +kernel
theorem dX10_refusesItem_60 : decode cX10_refusesItem 60 = .ok (.getfield 18, 3) := by decide +kernel
theorem dX10_refusesItem_63 : decode cX10_refusesItem 63 = .ok (.iload_n 1, 1) := by decide +kernel
theorem dX10_refusesItem_64 : decode cX10_refusesItem 64 = .ok (.aaload, 1) := by decide +kernel
theorem dX10_refusesItem_65 : decode cX10_refusesItem 65 = .ok (.getfield 83, 3) := by decide +kernel
theorem dX10_refusesItem_68 : decode cX10_refusesItem 68 = .ok (.if_icmp .ge 7, 3) := by decide +kernel
theorem dX10_refusesItem_71 : decode cX10_refusesItem 71 = .ok (.iconst 0, 1) := by decide +kernel
theorem dX10_refusesItem_72 : decode cX10_refusesItem 72 = .ok (.goto 8, 3) := by decide +kernel
theorem dX10_refusesItem_75 : decode cX10_refusesItem 75 = .ok (.aload_n 0, 1) := by decide +kernel
theorem dX10_refusesItem_76 : decode cX10_refusesItem 76 = .ok (.iconst 2, 1) := by decide +kernel
theorem dX10_refusesItem_77 : decode cX10_refusesItem 77 = .ok (.invokevirtual 79, 3) := by decide +kernel
theorem dX10_refusesItem_80 : decode cX10_refusesItem 80 = .ok (.ireturn, 1) := by decide +kernel
theorem dX10_numberOf_0 : decode cX10_numberOf 0 = .ok (.iload_n 2, 1) := by decide +kernel
theorem dX10_numberOf_1 : decode cX10_numberOf 1 = .ok (.aload_n 1, 1) := by decide +kernel
theorem dX10_numberOf_2 : decode cX10_numberOf 2 = .ok (.getfield 69, 3) := by decide +kernel
theorem dX10_numberOf_5 : decode cX10_numberOf 5 = .ok (.aload_n 1, 1) := by decide +kernel
theorem dX10_numberOf_6 : decode cX10_numberOf 6 = .ok (.getfield 119, 3) := by decide +kernel
theorem dX10_numberOf_9 : decode cX10_numberOf 9 = .ok (.aload_n 0, 1) := by decide +kernel
theorem dX10_numberOf_10 : decode cX10_numberOf 10 = .ok (.getfield 48, 3) := by decide +kernel
theorem dX10_numberOf_13 : decode cX10_numberOf 13 = .ok (.invokestatic 297, 3) := by decide +kernel
theorem dX10_numberOf_16 : decode cX10_numberOf 16 = .ok (.ireturn, 1) := by decide +kernel
theorem dX10_dealtAsFar_0 : decode cX10_dealtAsFar 0 = .ok (.aload_n 0, 1) := by decide +kernel
theorem dX10_dealtAsFar_1 : decode cX10_dealtAsFar 1 = .ok (.aload_n 1, 1) := by decide +kernel
theorem dX10_dealtAsFar_2 : decode cX10_dealtAsFar 2 = .ok (.iload_n 2, 1) := by decide +kernel
theorem dX10_dealtAsFar_3 : decode cX10_dealtAsFar 3 = .ok (.invokevirtual 105, 3) := by decide +kernel
theorem dX10_dealtAsFar_6 : decode cX10_dealtAsFar 6 = .ok (.istore 4, 2) := by decide +kernel
theorem dX10_dealtAsFar_8 : decode cX10_dealtAsFar 8 = .ok (.aload_n 1, 1) := by decide +kernel
theorem dX10_dealtAsFar_9 : decode cX10_dealtAsFar 9 = .ok (.invokestatic 178, 3) := by decide +kernel
theorem dX10_dealtAsFar_12 : decode cX10_dealtAsFar 12 = .ok (.istore 5, 2) := by decide +kernel
theorem dX10_dealtAsFar_14 : decode cX10_dealtAsFar 14 = .ok (.aload_n 1, 1) := by decide +kernel
theorem dX10_dealtAsFar_15 : decode cX10_dealtAsFar 15 = .ok (.invokestatic 202, 3) := by decide +kernel
theorem dX10_dealtAsFar_18 : decode cX10_dealtAsFar 18 = .ok (.istore 6, 2) := by decide +kernel
theorem dX10_dealtAsFar_20 : decode cX10_dealtAsFar 20 = .ok (.iconst 0, 1) := by decide +kernel
theorem dX10_dealtAsFar_21 : decode cX10_dealtAsFar 21 = .ok (.istore 7, 2) := by decide +kernel
theorem dX10_dealtAsFar_23 : decode cX10_dealtAsFar 23 = .ok (.iconst 0, 1) := by decide +kernel
theorem dX10_dealtAsFar_24 : decode cX10_dealtAsFar 24 = .ok (.istore 8, 2) := by decide +kernel
theorem dX10_dealtAsFar_26 : decode cX10_dealtAsFar 26 = .ok (.iload 8, 2) := by decide +kernel
theorem dX10_dealtAsFar_28 : decode cX10_dealtAsFar 28 = .ok (.iload 5, 2) := by decide +kernel
theorem dX10_dealtAsFar_30 : decode cX10_dealtAsFar 30 = .ok (.if_icmp .ge 56, 3) := by decide +kernel
theorem dX10_dealtAsFar_33 : decode cX10_dealtAsFar 33 = .ok (.iload_n 2, 1) := by decide +kernel
theorem dX10_dealtAsFar_34 : decode cX10_dealtAsFar 34 = .ok (.aload_n 1, 1) := by decide +kernel
theorem dX10_dealtAsFar_35 : decode cX10_dealtAsFar 35 = .ok (.getfield 69, 3) := by decide +kernel
theorem dX10_dealtAsFar_38 : decode cX10_dealtAsFar 38 = .ok (.iload 6, 2) := by decide +kernel
theorem dX10_dealtAsFar_40 : decode cX10_dealtAsFar 40 = .ok (.aload_n 0, 1) := by decide +kernel
theorem dX10_dealtAsFar_41 : decode cX10_dealtAsFar 41 = .ok (.getfield 48, 3) := by decide +kernel
theorem dX10_dealtAsFar_44 : decode cX10_dealtAsFar 44 = .ok (.invokestatic 297, 3) := by decide +kernel
theorem dX10_dealtAsFar_47 : decode cX10_dealtAsFar 47 = .ok (.istore 9, 2) := by decide +kernel
theorem dX10_dealtAsFar_49 : decode cX10_dealtAsFar 49 = .ok (.iload_n 3, 1) := by decide +kernel
theorem dX10_dealtAsFar_50 : decode cX10_dealtAsFar 50 = .ok (.ifCond .eq 13, 3) := by decide +kernel
theorem dX10_dealtAsFar_53 : decode cX10_dealtAsFar 53 = .ok (.iload 9, 2) := by decide +kernel
theorem dX10_dealtAsFar_55 : decode cX10_dealtAsFar 55 = .ok (.iload 4, 2) := by decide +kernel
theorem dX10_dealtAsFar_57 : decode cX10_dealtAsFar 57 = .ok (.if_icmp .lt 16, 3) := by decide +kernel
theorem dX10_dealtAsFar_60 : decode cX10_dealtAsFar 60 = .ok (.goto 10, 3) := by decide +kernel
theorem dX10_dealtAsFar_63 : decode cX10_dealtAsFar 63 = .ok (.iload 9, 2) := by decide +kernel
theorem dX10_dealtAsFar_65 : decode cX10_dealtAsFar 65 = .ok (.iload 4, 2) := by decide +kernel
theorem dX10_dealtAsFar_67 : decode cX10_dealtAsFar 67 = .ok (.if_icmp .gt 6, 3) := by decide +kernel
theorem dX10_dealtAsFar_70 : decode cX10_dealtAsFar 70 = .ok (.iinc 7 1, 3) := by decide +kernel
theorem dX10_dealtAsFar_73 : decode cX10_dealtAsFar 73 = .ok (.iload 6, 2) := by decide +kernel
theorem dX10_dealtAsFar_75 : decode cX10_dealtAsFar 75 = .ok (.invokestatic 209, 3) := by decide +kernel
theorem dX10_dealtAsFar_78 : decode cX10_dealtAsFar 78 = .ok (.istore 6, 2) := by decide +kernel
theorem dX10_dealtAsFar_80 : decode cX10_dealtAsFar 80 = .ok (.iinc 8 1, 3) := by decide +kernel
theorem dX10_dealtAsFar_83 : decode cX10_dealtAsFar 83 = .ok (.goto (-57), 3) := by decide +kernel
theorem dX10_dealtAsFar_86 : decode cX10_dealtAsFar 86 = .ok (.iload 7, 2) := by decide +kernel
theorem dX10_dealtAsFar_88 : decode cX10_dealtAsFar 88 = .ok (.ireturn, 1) := by decide +kernel
theorem dX10_millionths_0 : decode cX10_millionths 0 = .ok (.iload_n 1, 1) := by decide +kernel
theorem dX10_millionths_1 : decode cX10_millionths 1 = .ok (.ifCond .gt 7, 3) := by decide +kernel
theorem dX10_millionths_4 : decode cX10_millionths 4 = .ok (.iconst 0, 1) := by decide +kernel
theorem dX10_millionths_5 : decode cX10_millionths 5 = .ok (.goto 13, 3) := by decide +kernel
theorem dX10_millionths_8 : decode cX10_millionths 8 = .ok (.iload_n 0, 1) := by decide +kernel
theorem dX10_millionths_9 : decode cX10_millionths 9 = .ok (.i2l, 1) := by decide +kernel
theorem dX10_millionths_10 : decode cX10_millionths 10 = .ok (.ldc2_w 301, 3) := by decide +kernel
theorem dX10_millionths_13 : decode cX10_millionths 13 = .ok (.lmul, 1) := by decide +kernel
theorem dX10_millionths_14 : decode cX10_millionths 14 = .ok (.iload_n 1, 1) := by decide +kernel
theorem dX10_millionths_15 : decode cX10_millionths 15 = .ok (.i2l, 1) := by decide +kernel
theorem dX10_millionths_16 : decode cX10_millionths 16 = .ok (.ldiv, 1) := by decide +kernel
theorem dX10_millionths_17 : decode cX10_millionths 17 = .ok (.l2i, 1) := by decide +kernel
theorem dX10_millionths_18 : decode cX10_millionths 18 = .ok (.ireturn, 1) := by decide +kernel
theorem dX10_backwards_0 : decode cX10_backwards 0 = .ok (.iconst 0, 1) := by decide +kernel
theorem dX10_backwards_1 : decode cX10_backwards 1 = .ok (.istore_n 2, 1) := by decide +kernel
theorem dX10_backwards_2 : decode cX10_backwards 2 = .ok (.iconst 0, 1) := by decide +kernel
theorem dX10_backwards_3 : decode cX10_backwards 3 = .ok (.istore_n 3, 1) := by decide +kernel
theorem dX10_backwards_4 : decode cX10_backwards 4 = .ok (.iload_n 3, 1) := by decide +kernel
theorem dX10_backwards_5 : decode cX10_backwards 5 = .ok (.iload_n 1, 1) := by decide +kernel
theorem dX10_backwards_6 : decode cX10_backwards 6 = .ok (.if_icmp .ge 19, 3) := by decide +kernel
theorem dX10_backwards_9 : decode cX10_backwards 9 = .ok (.iload_n 2, 1) := by decide +kernel
theorem dX10_backwards_10 : decode cX10_backwards 10 = .ok (.iconst 1, 1) := by decide +kernel
theorem dX10_backwards_11 : decode cX10_backwards 11 = .ok (.ishl, 1) := by decide +kernel
theorem dX10_backwards_12 : decode cX10_backwards 12 = .ok (.iload_n 0, 1) := by decide +kernel
theorem dX10_backwards_13 : decode cX10_backwards 13 = .ok (.iload_n 3, 1) := by decide +kernel
theorem dX10_backwards_14 : decode cX10_backwards 14 = .ok (.ishr, 1) := by decide +kernel
theorem dX10_backwards_15 : decode cX10_backwards 15 = .ok (.iconst 1, 1) := by decide +kernel
theorem dX10_backwards_16 : decode cX10_backwards 16 = .ok (.iand, 1) := by decide +kernel
theorem dX10_backwards_17 : decode cX10_backwards 17 = .ok (.ior, 1) := by decide +kernel
theorem dX10_backwards_18 : decode cX10_backwards 18 = .ok (.istore_n 2, 1) := by decide +kernel
theorem dX10_backwards_19 : decode cX10_backwards 19 = .ok (.iinc 3 1, 3) := by decide +kernel
theorem dX10_backwards_22 : decode cX10_backwards 22 = .ok (.goto (-18), 3) := by decide +kernel
theorem dX10_backwards_25 : decode cX10_backwards 25 = .ok (.iload_n 2, 1) := by decide +kernel
theorem dX10_backwards_26 : decode cX10_backwards 26 = .ok (.ireturn, 1) := by decide +kernel
theorem dX10_wholeRows_0 : decode cX10_wholeRows 0 = .ok (.iconst 0, 1) := by decide +kernel
theorem dX10_wholeRows_1 : decode cX10_wholeRows 1 = .ok (.istore_n 1, 1) := by decide +kernel
theorem dX10_wholeRows_2 : decode cX10_wholeRows 2 = .ok (.iconst 0, 1) := by decide +kernel
theorem dX10_wholeRows_3 : decode cX10_wholeRows 3 = .ok (.istore_n 2, 1) := by decide +kernel
theorem dX10_wholeRows_4 : decode cX10_wholeRows 4 = .ok (.iload_n 2, 1) := by decide +kernel
theorem dX10_wholeRows_5 : decode cX10_wholeRows 5 = .ok (.iconst 4, 1) := by decide +kernel
theorem dX10_wholeRows_6 : decode cX10_wholeRows 6 = .ok (.if_icmp .ge 27, 3) := by decide +kernel
theorem dX10_wholeRows_9 : decode cX10_wholeRows 9 = .ok (.aload_n 0, 1) := by decide +kernel
theorem dX10_wholeRows_10 : decode cX10_wholeRows 10 = .ok (.getfield 11, 3) := by decide +kernel
theorem dX10_wholeRows_13 : decode cX10_wholeRows 13 = .ok (.iload_n 2, 1) := by decide +kernel
theorem dX10_wholeRows_14 : decode cX10_wholeRows 14 = .ok (.aaload, 1) := by decide +kernel
theorem dX10_wholeRows_15 : decode cX10_wholeRows 15 = .ok (.invokevirtual 102, 3) := by decide +kernel
theorem dX10_wholeRows_18 : decode cX10_wholeRows 18 = .ok (.ifCond .eq 9, 3) := by decide +kernel
theorem dX10_wholeRows_21 : decode cX10_wholeRows 21 = .ok (.iload_n 1, 1) := by decide +kernel
theorem dX10_wholeRows_22 : decode cX10_wholeRows 22 = .ok (.iconst 1, 1) := by decide +kernel
theorem dX10_wholeRows_23 : decode cX10_wholeRows 23 = .ok (.iload_n 2, 1) := by decide +kernel
theorem dX10_wholeRows_24 : decode cX10_wholeRows 24 = .ok (.ishl, 1) := by decide +kernel
theorem dX10_wholeRows_25 : decode cX10_wholeRows 25 = .ok (.ior, 1) := by decide +kernel
theorem dX10_wholeRows_26 : decode cX10_wholeRows 26 = .ok (.istore_n 1, 1) := by decide +kernel
theorem dX10_wholeRows_27 : decode cX10_wholeRows 27 = .ok (.iinc 2 1, 3) := by decide +kernel
theorem dX10_wholeRows_30 : decode cX10_wholeRows 30 = .ok (.goto (-26), 3) := by decide +kernel
theorem dX10_wholeRows_33 : decode cX10_wholeRows 33 = .ok (.iload_n 1, 1) := by decide +kernel
theorem dX10_wholeRows_34 : decode cX10_wholeRows 34 = .ok (.ireturn, 1) := by decide +kernel
