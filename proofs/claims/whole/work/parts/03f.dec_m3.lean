theorem dX11_stands_40 : decode cX11_stands 40 = .ok (.isub, 1) := by decide +kernel
theorem dX11_stands_41 : decode cX11_stands 41 = .ok (.iand, 1) := by decide +kernel
theorem dX11_stands_42 : decode cX11_stands 42 = .ok (.if_icmp .ne 5, 3) := by decide +kernel
theorem dX11_stands_45 : decode cX11_stands 45 = .ok (.iconst 1, 1) := by decide +kernel
theorem dX11_stands_46 : decode cX11_stands 46 = .ok (.ireturn, 1) := by decide +kernel
theorem dX11_stands_47 : decode cX11_stands 47 = .ok (.iinc 4 1, 3) := by decide +kernel
theorem dX11_stands_50 : decode cX11_stands 50 = .ok (.goto (-37), 3) := by decide +kernel
theorem dX11_stands_53 : decode cX11_stands 53 = .ok (.iconst 0, 1) := by decide +kernel
theorem dX11_stands_54 : decode cX11_stands 54 = .ok (.ireturn, 1) := by decide +kernel
theorem dX11_first_0 : decode cX11_first 0 = .ok (.iload_n 1, 1) := by decide +kernel
theorem dX11_first_1 : decode cX11_first 1 = .ok (.iconst 2, 1) := by decide +kernel
theorem dX11_first_2 : decode cX11_first 2 = .ok (.bipush 31, 2) := by decide +kernel
theorem dX11_first_4 : decode cX11_first 4 = .ok (.invokestatic 59, 3) := by decide +kernel
theorem dX11_first_7 : decode cX11_first 7 = .ok (.ifCond .eq 22, 3) := by decide +kernel
theorem dX11_first_10 : decode cX11_first 10 = .ok (.iload_n 2, 1) := by decide +kernel
theorem dX11_first_11 : decode cX11_first 11 = .ok (.iconst 2, 1) := by decide +kernel
theorem dX11_first_12 : decode cX11_first 12 = .ok (.bipush 31, 2) := by decide +kernel
theorem dX11_first_14 : decode cX11_first 14 = .ok (.invokestatic 59, 3) := by decide +kernel
theorem dX11_first_17 : decode cX11_first 17 = .ok (.ifCond .eq 12, 3) := by decide +kernel
theorem dX11_first_20 : decode cX11_first 20 = .ok (.iload_n 3, 1) := by decide +kernel
theorem dX11_first_21 : decode cX11_first 21 = .ok (.iconst 0, 1) := by decide +kernel
theorem dX11_first_22 : decode cX11_first 22 = .ok (.iconst 1, 1) := by decide +kernel
theorem dX11_first_23 : decode cX11_first 23 = .ok (.invokestatic 59, 3) := by decide +kernel
theorem dX11_first_26 : decode cX11_first 26 = .ok (.ifCond .ne 9, 3) := by decide +kernel
theorem dX11_first_29 : decode cX11_first 29 = .ok (.bipush (-2), 2) := by decide +kernel
theorem dX11_first_31 : decode cX11_first 31 = .ok (.invokestatic 137, 3) := by decide +kernel
theorem dX11_first_34 : decode cX11_first 34 = .ok (.lreturn, 1) := by decide +kernel
theorem dX11_first_35 : decode cX11_first 35 = .ok (.iload_n 1, 1) := by decide +kernel
theorem dX11_first_36 : decode cX11_first 36 = .ok (.iload_n 2, 1) := by decide +kernel
theorem dX11_first_37 : decode cX11_first 37 = .ok (.invokestatic 198, 3) := by decide +kernel
theorem dX11_first_40 : decode cX11_first 40 = .ok (.ifCond .ne 11, 3) := by decide +kernel
theorem dX11_first_43 : decode cX11_first 43 = .ok (.iload_n 2, 1) := by decide +kernel
theorem dX11_first_44 : decode cX11_first 44 = .ok (.iload_n 1, 1) := by decide +kernel
theorem dX11_first_45 : decode cX11_first 45 = .ok (.invokestatic 198, 3) := by decide +kernel
theorem dX11_first_48 : decode cX11_first 48 = .ok (.ifCond .eq 9, 3) := by decide +kernel
theorem dX11_first_51 : decode cX11_first 51 = .ok (.bipush (-3), 2) := by decide +kernel
theorem dX11_first_53 : decode cX11_first 53 = .ok (.invokestatic 137, 3) := by decide +kernel
theorem dX11_first_56 : decode cX11_first 56 = .ok (.lreturn, 1) := by decide +kernel
theorem dX11_first_57 : decode cX11_first 57 = .ok (.aload_n 0, 1) := by decide +kernel
theorem dX11_first_58 : decode cX11_first 58 = .ok (.iload_n 1, 1) := by decide +kernel
theorem dX11_first_59 : decode cX11_first 59 = .ok (.iload_n 1, 1) := by decide +kernel
theorem dX11_first_60 : decode cX11_first 60 = .ok (.invokestatic 78, 3) := by decide +kernel
theorem dX11_first_63 : decode cX11_first 63 = .ok (.invokevirtual 189, 3) := by decide +kernel
theorem dX11_first_66 : decode cX11_first 66 = .ok (.lstore 4, 2) := by decide +kernel
theorem dX11_first_68 : decode cX11_first 68 = .ok (.aload_n 0, 1) := by decide +kernel
theorem dX11_first_69 : decode cX11_first 69 = .ok (.iload_n 2, 1) := by decide +kernel
theorem dX11_first_70 : decode cX11_first 70 = .ok (.iload_n 2, 1) := by decide +kernel
theorem dX11_first_71 : decode cX11_first 71 = .ok (.invokestatic 78, 3) := by decide +kernel
theorem dX11_first_74 : decode cX11_first 74 = .ok (.invokevirtual 189, 3) := by decide +kernel
theorem dX11_first_77 : decode cX11_first 77 = .ok (.lstore 6, 2) := by decide +kernel
theorem dX11_first_79 : decode cX11_first 79 = .ok (.aload_n 0, 1) := by decide +kernel
theorem dX11_first_80 : decode cX11_first 80 = .ok (.iload_n 2, 1) := by decide +kernel
theorem dX11_first_81 : decode cX11_first 81 = .ok (.iload_n 2, 1) := by decide +kernel
theorem dX11_first_82 : decode cX11_first 82 = .ok (.invokevirtual 192, 3) := by decide +kernel
theorem dX11_first_85 : decode cX11_first 85 = .ok (.lload 4, 2) := by decide +kernel
theorem dX11_first_87 : decode cX11_first 87 = .ok (.lmul, 1) := by decide +kernel
theorem dX11_first_88 : decode cX11_first 88 = .ok (.aload_n 0, 1) := by decide +kernel
theorem dX11_first_89 : decode cX11_first 89 = .ok (.iload_n 2, 1) := by decide +kernel
theorem dX11_first_90 : decode cX11_first 90 = .ok (.iload_n 1, 1) := by decide +kernel
theorem dX11_first_91 : decode cX11_first 91 = .ok (.invokevirtual 192, 3) := by decide +kernel
theorem dX11_first_94 : decode cX11_first 94 = .ok (.lload 6, 2) := by decide +kernel
theorem dX11_first_96 : decode cX11_first 96 = .ok (.lmul, 1) := by decide +kernel
theorem dX11_first_97 : decode cX11_first 97 = .ok (.lsub, 1) := by decide +kernel
theorem dX11_first_98 : decode cX11_first 98 = .ok (.lstore 8, 2) := by decide +kernel
theorem dX11_first_100 : decode cX11_first 100 = .ok (.aload_n 0, 1) := by decide +kernel
theorem dX11_first_101 : decode cX11_first 101 = .ok (.iload_n 1, 1) := by decide +kernel
theorem dX11_first_102 : decode cX11_first 102 = .ok (.iload_n 1, 1) := by decide +kernel
theorem dX11_first_103 : decode cX11_first 103 = .ok (.invokevirtual 192, 3) := by decide +kernel
theorem dX11_first_106 : decode cX11_first 106 = .ok (.lload 6, 2) := by decide +kernel
theorem dX11_first_108 : decode cX11_first 108 = .ok (.lmul, 1) := by decide +kernel
theorem dX11_first_109 : decode cX11_first 109 = .ok (.aload_n 0, 1) := by decide +kernel
theorem dX11_first_110 : decode cX11_first 110 = .ok (.iload_n 1, 1) := by decide +kernel
theorem dX11_first_111 : decode cX11_first 111 = .ok (.iload_n 2, 1) := by decide +kernel
theorem dX11_first_112 : decode cX11_first 112 = .ok (.invokevirtual 192, 3) := by decide +kernel
theorem dX11_first_115 : decode cX11_first 115 = .ok (.lload 4, 2) := by decide +kernel
theorem dX11_first_117 : decode cX11_first 117 = .ok (.lmul, 1) := by decide +kernel
theorem dX11_first_118 : decode cX11_first 118 = .ok (.lsub, 1) := by decide +kernel
theorem dX11_first_119 : decode cX11_first 119 = .ok (.lstore 10, 2) := by decide +kernel
theorem dX11_first_121 : decode cX11_first 121 = .ok (.lload 8, 2) := by decide +kernel
theorem dX11_first_123 : decode cX11_first 123 = .ok (.lload 8, 2) := by decide +kernel
theorem dX11_first_125 : decode cX11_first 125 = .ok (.lload 10, 2) := by decide +kernel
theorem dX11_first_127 : decode cX11_first 127 = .ok (.ladd, 1) := by decide +kernel
theorem dX11_first_128 : decode cX11_first 128 = .ok (.iload_n 3, 1) := by decide +kernel
theorem dX11_first_129 : decode cX11_first 129 = .ok (.invokestatic 147, 3) := by decide +kernel
theorem dX11_first_132 : decode cX11_first 132 = .ok (.lreturn, 1) := by decide +kernel
theorem dX11_agree_0 : decode cX11_agree 0 = .ok (.iload_n 1, 1) := by decide +kernel
theorem dX11_agree_1 : decode cX11_agree 1 = .ok (.invokestatic 63, 3) := by decide +kernel
theorem dX11_agree_4 : decode cX11_agree 4 = .ok (.ifCond .eq 24, 3) := by decide +kernel
theorem dX11_agree_7 : decode cX11_agree 7 = .ok (.iload_n 2, 1) := by decide +kernel
theorem dX11_agree_8 : decode cX11_agree 8 = .ok (.invokestatic 63, 3) := by decide +kernel
theorem dX11_agree_11 : decode cX11_agree 11 = .ok (.ifCond .eq 17, 3) := by decide +kernel
theorem dX11_agree_14 : decode cX11_agree 14 = .ok (.iload_n 1, 1) := by decide +kernel
theorem dX11_agree_15 : decode cX11_agree 15 = .ok (.iload_n 2, 1) := by decide +kernel
theorem dX11_agree_16 : decode cX11_agree 16 = .ok (.if_icmp .eq 12, 3) := by decide +kernel
theorem dX11_agree_19 : decode cX11_agree 19 = .ok (.iload_n 3, 1) := by decide +kernel
theorem dX11_agree_20 : decode cX11_agree 20 = .ok (.iconst 0, 1) := by decide +kernel
theorem dX11_agree_21 : decode cX11_agree 21 = .ok (.iconst 1, 1) := by decide +kernel
theorem dX11_agree_22 : decode cX11_agree 22 = .ok (.invokestatic 59, 3) := by decide +kernel
theorem dX11_agree_25 : decode cX11_agree 25 = .ok (.ifCond .ne 6, 3) := by decide +kernel
theorem dX11_agree_28 : decode cX11_agree 28 = .ok (.bipush (-2), 2) := by decide +kernel
theorem dX11_agree_30 : decode cX11_agree 30 = .ok (.ireturn, 1) := by decide +kernel
theorem dX11_agree_31 : decode cX11_agree 31 = .ok (.aload_n 0, 1) := by decide +kernel
theorem dX11_agree_32 : decode cX11_agree 32 = .ok (.getfield 7, 3) := by decide +kernel
theorem dX11_agree_35 : decode cX11_agree 35 = .ok (.iload_n 1, 1) := by decide +kernel
theorem dX11_agree_36 : decode cX11_agree 36 = .ok (.iaload, 1) := by decide +kernel
theorem dX11_agree_37 : decode cX11_agree 37 = .ok (.istore 4, 2) := by decide +kernel
theorem dX11_agree_39 : decode cX11_agree 39 = .ok (.aload_n 0, 1) := by decide +kernel
theorem dX11_agree_40 : decode cX11_agree 40 = .ok (.iload_n 1, 1) := by decide +kernel
theorem dX11_agree_41 : decode cX11_agree 41 = .ok (.invokevirtual 87, 3) := by decide +kernel
theorem dX11_agree_44 : decode cX11_agree 44 = .ok (.ifCond .eq 22, 3) := by decide +kernel
theorem dX11_agree_47 : decode cX11_agree 47 = .ok (.aload_n 0, 1) := by decide +kernel
theorem dX11_agree_48 : decode cX11_agree 48 = .ok (.iload_n 2, 1) := by decide +kernel
theorem dX11_agree_49 : decode cX11_agree 49 = .ok (.invokevirtual 87, 3) := by decide +kernel
theorem dX11_agree_52 : decode cX11_agree 52 = .ok (.ifCond .eq 14, 3) := by decide +kernel
theorem dX11_agree_55 : decode cX11_agree 55 = .ok (.iload 4, 2) := by decide +kernel
theorem dX11_agree_57 : decode cX11_agree 57 = .ok (.aload_n 0, 1) := by decide +kernel
theorem dX11_agree_58 : decode cX11_agree 58 = .ok (.getfield 7, 3) := by decide +kernel
theorem dX11_agree_61 : decode cX11_agree 61 = .ok (.iload_n 2, 1) := by decide +kernel
theorem dX11_agree_62 : decode cX11_agree 62 = .ok (.iaload, 1) := by decide +kernel
theorem dX11_agree_63 : decode cX11_agree 63 = .ok (.if_icmp .eq 6, 3) := by decide +kernel
theorem dX11_agree_66 : decode cX11_agree 66 = .ok (.bipush (-3), 2) := by decide +kernel
theorem dX11_agree_68 : decode cX11_agree 68 = .ok (.ireturn, 1) := by decide +kernel
theorem dX11_agree_69 : decode cX11_agree 69 = .ok (.aload_n 0, 1) := by decide +kernel
theorem dX11_agree_70 : decode cX11_agree 70 = .ok (.iload_n 1, 1) := by decide +kernel
theorem dX11_agree_71 : decode cX11_agree 71 = .ok (.invokevirtual 90, 3) := by decide +kernel
theorem dX11_agree_74 : decode cX11_agree 74 = .ok (.istore 5, 2) := by decide +kernel
theorem dX11_agree_76 : decode cX11_agree 76 = .ok (.aload_n 0, 1) := by decide +kernel
theorem dX11_agree_77 : decode cX11_agree 77 = .ok (.iload_n 2, 1) := by decide +kernel
theorem dX11_agree_78 : decode cX11_agree 78 = .ok (.invokevirtual 90, 3) := by decide +kernel
theorem dX11_agree_81 : decode cX11_agree 81 = .ok (.istore 6, 2) := by decide +kernel
theorem dX11_agree_83 : decode cX11_agree 83 = .ok (.iload 4, 2) := by decide +kernel
theorem dX11_agree_85 : decode cX11_agree 85 = .ok (.iload 5, 2) := by decide +kernel
theorem dX11_agree_87 : decode cX11_agree 87 = .ok (.iload 6, 2) := by decide +kernel
theorem dX11_agree_89 : decode cX11_agree 89 = .ok (.ixor, 1) := by decide +kernel
theorem dX11_agree_90 : decode cX11_agree 90 = .ok (.invokestatic 81, 3) := by decide +kernel
theorem dX11_agree_93 : decode cX11_agree 93 = .ok (.isub, 1) := by decide +kernel
theorem dX11_agree_94 : decode cX11_agree 94 = .ok (.istore 7, 2) := by decide +kernel
theorem dX11_agree_96 : decode cX11_agree 96 = .ok (.iload_n 3, 1) := by decide +kernel
theorem dX11_agree_97 : decode cX11_agree 97 = .ok (.ifCond .ne 6, 3) := by decide +kernel
theorem dX11_agree_100 : decode cX11_agree 100 = .ok (.iload 7, 2) := by decide +kernel
theorem dX11_agree_102 : decode cX11_agree 102 = .ok (.ireturn, 1) := by decide +kernel
theorem dX11_agree_103 : decode cX11_agree 103 = .ok (.iconst 0, 1) := by decide +kernel
theorem dX11_agree_104 : decode cX11_agree 104 = .ok (.istore 8, 2) := by decide +kernel
theorem dX11_agree_106 : decode cX11_agree 106 = .ok (.iconst 0, 1) := by decide +kernel
theorem dX11_agree_107 : decode cX11_agree 107 = .ok (.istore 9, 2) := by decide +kernel
theorem dX11_agree_109 : decode cX11_agree 109 = .ok (.iload 9, 2) := by decide +kernel
theorem dX11_agree_111 : decode cX11_agree 111 = .ok (.iconst 1, 1) := by decide +kernel
theorem dX11_agree_112 : decode cX11_agree 112 = .ok (.iload 4, 2) := by decide +kernel
theorem dX11_agree_114 : decode cX11_agree 114 = .ok (.ishl, 1) := by decide +kernel
theorem dX11_agree_115 : decode cX11_agree 115 = .ok (.if_icmp .ge 48, 3) := by decide +kernel
theorem dX11_agree_118 : decode cX11_agree 118 = .ok (.iload 8, 2) := by decide +kernel
theorem dX11_agree_120 : decode cX11_agree 120 = .ok (.iload 9, 2) := by decide +kernel
theorem dX11_agree_122 : decode cX11_agree 122 = .ok (.invokestatic 81, 3) := by decide +kernel
theorem dX11_agree_125 : decode cX11_agree 125 = .ok (.iload 6, 2) := by decide +kernel
theorem dX11_agree_127 : decode cX11_agree 127 = .ok (.invokestatic 81, 3) := by decide +kernel
theorem dX11_agree_130 : decode cX11_agree 130 = .ok (.if_icmp .ne 23, 3) := by decide +kernel
theorem dX11_agree_133 : decode cX11_agree 133 = .ok (.iload 4, 2) := by decide +kernel
theorem dX11_agree_135 : decode cX11_agree 135 = .ok (.iload 5, 2) := by decide +kernel
theorem dX11_agree_137 : decode cX11_agree 137 = .ok (.iload 9, 2) := by decide +kernel
theorem dX11_agree_139 : decode cX11_agree 139 = .ok (.ixor, 1) := by decide +kernel
theorem dX11_agree_140 : decode cX11_agree 140 = .ok (.invokestatic 81, 3) := by decide +kernel
theorem dX11_agree_143 : decode cX11_agree 143 = .ok (.isub, 1) := by decide +kernel
theorem dX11_agree_144 : decode cX11_agree 144 = .ok (.iload 7, 2) := by decide +kernel
theorem dX11_agree_146 : decode cX11_agree 146 = .ok (.if_icmp .lt 7, 3) := by decide +kernel
theorem dX11_agree_149 : decode cX11_agree 149 = .ok (.iconst 1, 1) := by decide +kernel
theorem dX11_agree_150 : decode cX11_agree 150 = .ok (.goto 4, 3) := by decide +kernel
theorem dX11_agree_153 : decode cX11_agree 153 = .ok (.iconst 0, 1) := by decide +kernel
theorem dX11_agree_154 : decode cX11_agree 154 = .ok (.iadd, 1) := by decide +kernel
theorem dX11_agree_155 : decode cX11_agree 155 = .ok (.istore 8, 2) := by decide +kernel
theorem dX11_agree_157 : decode cX11_agree 157 = .ok (.iinc 9 1, 3) := by decide +kernel
theorem dX11_agree_160 : decode cX11_agree 160 = .ok (.goto (-51), 3) := by decide +kernel
theorem dX11_agree_163 : decode cX11_agree 163 = .ok (.ldc2_w 165, 3) := by decide +kernel
theorem dX11_agree_166 : decode cX11_agree 166 = .ok (.iload 8, 2) := by decide +kernel
theorem dX11_agree_168 : decode cX11_agree 168 = .ok (.i2l, 1) := by decide +kernel
theorem dX11_agree_169 : decode cX11_agree 169 = .ok (.lmul, 1) := by decide +kernel
theorem dX11_agree_170 : decode cX11_agree 170 = .ok (.aload_n 0, 1) := by decide +kernel
theorem dX11_agree_171 : decode cX11_agree 171 = .ok (.iload_n 2, 1) := by decide +kernel
theorem dX11_agree_172 : decode cX11_agree 172 = .ok (.invokevirtual 171, 3) := by decide +kernel
theorem dX11_agree_175 : decode cX11_agree 175 = .ok (.ldiv, 1) := by decide +kernel
theorem dX11_agree_176 : decode cX11_agree 176 = .ok (.l2i, 1) := by decide +kernel
theorem dX11_agree_177 : decode cX11_agree 177 = .ok (.ireturn, 1) := by decide +kernel
theorem dX11_twice_0 : decode cX11_twice 0 = .ok (.iload_n 1, 1) := by decide +kernel
theorem dX11_twice_1 : decode cX11_twice 1 = .ok (.invokestatic 63, 3) := by decide +kernel
theorem dX11_twice_4 : decode cX11_twice 4 = .ok (.ifCond .ne 6, 3) := by decide +kernel
theorem dX11_twice_7 : decode cX11_twice 7 = .ok (.bipush (-2), 2) := by decide +kernel
theorem dX11_twice_9 : decode cX11_twice 9 = .ok (.ireturn, 1) := by decide +kernel
theorem dX11_twice_10 : decode cX11_twice 10 = .ok (.aload_n 0, 1) := by decide +kernel
theorem dX11_twice_11 : decode cX11_twice 11 = .ok (.iload_n 1, 1) := by decide +kernel
theorem dX11_twice_12 : decode cX11_twice 12 = .ok (.invokevirtual 87, 3) := by decide +kernel
theorem dX11_twice_15 : decode cX11_twice 15 = .ok (.ifCond .ne 6, 3) := by decide +kernel
theorem dX11_twice_18 : decode cX11_twice 18 = .ok (.bipush (-3), 2) := by decide +kernel
theorem dX11_twice_20 : decode cX11_twice 20 = .ok (.ireturn, 1) := by decide +kernel
theorem dX11_twice_21 : decode cX11_twice 21 = .ok (.aload_n 0, 1) := by decide +kernel
theorem dX11_twice_22 : decode cX11_twice 22 = .ok (.getfield 7, 3) := by decide +kernel
theorem dX11_twice_25 : decode cX11_twice 25 = .ok (.iload_n 1, 1) := by decide +kernel
theorem dX11_twice_26 : decode cX11_twice 26 = .ok (.iaload, 1) := by decide +kernel
theorem dX11_twice_27 : decode cX11_twice 27 = .ok (.istore_n 2, 1) := by decide +kernel
theorem dX11_twice_28 : decode cX11_twice 28 = .ok (.iload_n 2, 1) := by decide +kernel
theorem dX11_twice_29 : decode cX11_twice 29 = .ok (.iconst 2, 1) := by decide +kernel
theorem dX11_twice_30 : decode cX11_twice 30 = .ok (.irem, 1) := by decide +kernel
theorem dX11_twice_31 : decode cX11_twice 31 = .ok (.iconst 1, 1) := by decide +kernel
theorem dX11_twice_32 : decode cX11_twice 32 = .ok (.if_icmp .eq 7, 3) := by decide +kernel
theorem dX11_twice_35 : decode cX11_twice 35 = .ok (.iload_n 2, 1) := by decide +kernel
theorem dX11_twice_36 : decode cX11_twice 36 = .ok (.ifCond .ne 5, 3) := by decide +kernel
theorem dX11_twice_39 : decode cX11_twice 39 = .ok (.iconst 0, 1) := by decide +kernel
theorem dX11_twice_40 : decode cX11_twice 40 = .ok (.ireturn, 1) := by decide +kernel
theorem dX11_twice_41 : decode cX11_twice 41 = .ok (.iconst 1, 1) := by decide +kernel
theorem dX11_twice_42 : decode cX11_twice 42 = .ok (.istore_n 3, 1) := by decide +kernel
theorem dX11_twice_43 : decode cX11_twice 43 = .ok (.iconst 1, 1) := by decide +kernel
theorem dX11_twice_44 : decode cX11_twice 44 = .ok (.istore 4, 2) := by decide +kernel
theorem dX11_twice_46 : decode cX11_twice 46 = .ok (.iconst 1, 1) := by decide +kernel
theorem dX11_twice_47 : decode cX11_twice 47 = .ok (.istore 5, 2) := by decide +kernel
theorem dX11_twice_49 : decode cX11_twice 49 = .ok (.iconst 0, 1) := by decide +kernel
theorem dX11_twice_50 : decode cX11_twice 50 = .ok (.istore 6, 2) := by decide +kernel
theorem dX11_twice_52 : decode cX11_twice 52 = .ok (.iload 6, 2) := by decide +kernel
theorem dX11_twice_54 : decode cX11_twice 54 = .ok (.iload_n 2, 1) := by decide +kernel
theorem dX11_twice_55 : decode cX11_twice 55 = .ok (.iconst 2, 1) := by decide +kernel
theorem dX11_twice_56 : decode cX11_twice 56 = .ok (.idiv, 1) := by decide +kernel
theorem dX11_twice_57 : decode cX11_twice 57 = .ok (.if_icmp .ge 118, 3) := by decide +kernel
theorem dX11_twice_60 : decode cX11_twice 60 = .ok (.aload_n 0, 1) := by decide +kernel
theorem dX11_twice_61 : decode cX11_twice 61 = .ok (.getfield 13, 3) := by decide +kernel
theorem dX11_twice_64 : decode cX11_twice 64 = .ok (.bipush 15, 2) := by decide +kernel
theorem dX11_twice_66 : decode cX11_twice 66 = .ok (.iload_n 1, 1) := by decide +kernel
theorem dX11_twice_67 : decode cX11_twice 67 = .ok (.imul, 1) := by decide +kernel
theorem dX11_twice_68 : decode cX11_twice 68 = .ok (.iload_n 2, 1) := by decide +kernel
theorem dX11_twice_69 : decode cX11_twice 69 = .ok (.iconst 2, 1) := by decide +kernel
theorem dX11_twice_70 : decode cX11_twice 70 = .ok (.idiv, 1) := by decide +kernel
theorem dX11_twice_71 : decode cX11_twice 71 = .ok (.iadd, 1) := by decide +kernel
theorem dX11_twice_72 : decode cX11_twice 72 = .ok (.iload 6, 2) := by decide +kernel
theorem dX11_twice_74 : decode cX11_twice 74 = .ok (.iadd, 1) := by decide +kernel
theorem dX11_twice_75 : decode cX11_twice 75 = .ok (.iaload, 1) := by decide +kernel
theorem dX11_twice_76 : decode cX11_twice 76 = .ok (.istore 7, 2) := by decide +kernel
theorem dX11_twice_78 : decode cX11_twice 78 = .ok (.iload_n 3, 1) := by decide +kernel
theorem dX11_twice_79 : decode cX11_twice 79 = .ok (.ifCond .eq 24, 3) := by decide +kernel
theorem dX11_twice_82 : decode cX11_twice 82 = .ok (.iload 7, 2) := by decide +kernel
theorem dX11_twice_84 : decode cX11_twice 84 = .ok (.aload_n 0, 1) := by decide +kernel
theorem dX11_twice_85 : decode cX11_twice 85 = .ok (.getfield 13, 3) := by decide +kernel
theorem dX11_twice_88 : decode cX11_twice 88 = .ok (.bipush 15, 2) := by decide +kernel
theorem dX11_twice_90 : decode cX11_twice 90 = .ok (.iload_n 1, 1) := by decide +kernel
theorem dX11_twice_91 : decode cX11_twice 91 = .ok (.imul, 1) := by decide +kernel
theorem dX11_twice_92 : decode cX11_twice 92 = .ok (.iload 6, 2) := by decide +kernel
theorem dX11_twice_94 : decode cX11_twice 94 = .ok (.iadd, 1) := by decide +kernel
theorem dX11_twice_95 : decode cX11_twice 95 = .ok (.iaload, 1) := by decide +kernel
theorem dX11_twice_96 : decode cX11_twice 96 = .ok (.if_icmp .ne 7, 3) := by decide +kernel
theorem dX11_twice_99 : decode cX11_twice 99 = .ok (.iconst 1, 1) := by decide +kernel
theorem dX11_twice_100 : decode cX11_twice 100 = .ok (.goto 4, 3) := by decide +kernel
theorem dX11_twice_103 : decode cX11_twice 103 = .ok (.iconst 0, 1) := by decide +kernel
theorem dX11_twice_104 : decode cX11_twice 104 = .ok (.istore_n 3, 1) := by decide +kernel
theorem dX11_twice_105 : decode cX11_twice 105 = .ok (.iload 4, 2) := by decide +kernel
theorem dX11_twice_107 : decode cX11_twice 107 = .ok (.ifCond .eq 24, 3) := by decide +kernel
theorem dX11_twice_110 : decode cX11_twice 110 = .ok (.iload 7, 2) := by decide +kernel
theorem dX11_twice_112 : decode cX11_twice 112 = .ok (.aload_n 0, 1) := by decide +kernel
theorem dX11_twice_113 : decode cX11_twice 113 = .ok (.getfield 13, 3) := by decide +kernel
theorem dX11_twice_116 : decode cX11_twice 116 = .ok (.bipush 15, 2) := by decide +kernel
theorem dX11_twice_118 : decode cX11_twice 118 = .ok (.iload_n 1, 1) := by decide +kernel
theorem dX11_twice_119 : decode cX11_twice 119 = .ok (.imul, 1) := by decide +kernel
theorem dX11_twice_120 : decode cX11_twice 120 = .ok (.iload 6, 2) := by decide +kernel
theorem dX11_twice_122 : decode cX11_twice 122 = .ok (.iadd, 1) := by decide +kernel
theorem dX11_twice_123 : decode cX11_twice 123 = .ok (.iaload, 1) := by decide +kernel
theorem dX11_twice_124 : decode cX11_twice 124 = .ok (.if_icmp .eq 7, 3) := by decide +kernel
theorem dX11_twice_127 : decode cX11_twice 127 = .ok (.iconst 1, 1) := by decide +kernel
theorem dX11_twice_128 : decode cX11_twice 128 = .ok (.goto 4, 3) := by decide +kernel
theorem dX11_twice_131 : decode cX11_twice 131 = .ok (.iconst 0, 1) := by decide +kernel
theorem dX11_twice_132 : decode cX11_twice 132 = .ok (.istore 4, 2) := by decide +kernel
theorem dX11_twice_134 : decode cX11_twice 134 = .ok (.iload 5, 2) := by decide +kernel
theorem dX11_twice_136 : decode cX11_twice 136 = .ok (.ifCond .eq 30, 3) := by decide +kernel
theorem dX11_twice_139 : decode cX11_twice 139 = .ok (.iload 7, 2) := by decide +kernel
theorem dX11_twice_141 : decode cX11_twice 141 = .ok (.aload_n 0, 1) := by decide +kernel
theorem dX11_twice_142 : decode cX11_twice 142 = .ok (.getfield 13, 3) := by decide +kernel
theorem dX11_twice_145 : decode cX11_twice 145 = .ok (.bipush 15, 2) := by decide +kernel
theorem dX11_twice_147 : decode cX11_twice 147 = .ok (.iload_n 1, 1) := by decide +kernel
theorem dX11_twice_148 : decode cX11_twice 148 = .ok (.imul, 1) := by decide +kernel
theorem dX11_twice_149 : decode cX11_twice 149 = .ok (.iload_n 2, 1) := by decide +kernel
theorem dX11_twice_150 : decode cX11_twice 150 = .ok (.iconst 2, 1) := by decide +kernel
theorem dX11_twice_151 : decode cX11_twice 151 = .ok (.idiv, 1) := by decide +kernel
theorem dX11_twice_152 : decode cX11_twice 152 = .ok (.iadd, 1) := by decide +kernel
theorem dX11_twice_153 : decode cX11_twice 153 = .ok (.iconst 1, 1) := by decide +kernel
theorem dX11_twice_154 : decode cX11_twice 154 = .ok (.isub, 1) := by decide +kernel
theorem dX11_twice_155 : decode cX11_twice 155 = .ok (.iload 6, 2) := by decide +kernel
theorem dX11_twice_157 : decode cX11_twice 157 = .ok (.isub, 1) := by decide +kernel
theorem dX11_twice_158 : decode cX11_twice 158 = .ok (.iaload, 1) := by decide +kernel
theorem dX11_twice_159 : decode cX11_twice 159 = .ok (.if_icmp .ne 7, 3) := by decide +kernel
theorem dX11_twice_162 : decode cX11_twice 162 = .ok (.iconst 1, 1) := by decide +kernel
theorem dX11_twice_163 : decode cX11_twice 163 = .ok (.goto 4, 3) := by decide +kernel
theorem dX11_twice_166 : decode cX11_twice 166 = .ok (.iconst 0, 1) := by decide +kernel
theorem dX11_twice_167 : decode cX11_twice 167 = .ok (.istore 5, 2) := by decide +kernel
theorem dX11_twice_169 : decode cX11_twice 169 = .ok (.iinc 6 1, 3) := by decide +kernel
theorem dX11_twice_172 : decode cX11_twice 172 = .ok (.goto (-120), 3) := by decide +kernel
theorem dX11_twice_175 : decode cX11_twice 175 = .ok (.iload_n 3, 1) := by decide +kernel
theorem dX11_twice_176 : decode cX11_twice 176 = .ok (.ifCond .eq 7, 3) := by decide +kernel
theorem dX11_twice_179 : decode cX11_twice 179 = .ok (.iconst 1, 1) := by decide +kernel
theorem dX11_twice_180 : decode cX11_twice 180 = .ok (.goto 22, 3) := by decide +kernel
theorem dX11_twice_183 : decode cX11_twice 183 = .ok (.iload 4, 2) := by decide +kernel
theorem dX11_twice_185 : decode cX11_twice 185 = .ok (.ifCond .eq 7, 3) := by decide +kernel
theorem dX11_twice_188 : decode cX11_twice 188 = .ok (.iconst 2, 1) := by decide +kernel
theorem dX11_twice_189 : decode cX11_twice 189 = .ok (.goto 13, 3) := by decide +kernel
theorem dX11_twice_192 : decode cX11_twice 192 = .ok (.iload 5, 2) := by decide +kernel
theorem dX11_twice_194 : decode cX11_twice 194 = .ok (.ifCond .eq 7, 3) := by decide +kernel
theorem dX11_twice_197 : decode cX11_twice 197 = .ok (.iconst 3, 1) := by decide +kernel
theorem dX11_twice_198 : decode cX11_twice 198 = .ok (.goto 4, 3) := by decide +kernel
theorem dX11_twice_201 : decode cX11_twice 201 = .ok (.iconst 0, 1) := by decide +kernel
theorem dX11_twice_202 : decode cX11_twice 202 = .ok (.ireturn, 1) := by decide +kernel
theorem dX11_next_0 : decode cX11_next 0 = .ok (.iload_n 1, 1) := by decide +kernel
theorem dX11_next_1 : decode cX11_next 1 = .ok (.invokestatic 63, 3) := by decide +kernel
theorem dX11_next_4 : decode cX11_next 4 = .ok (.ifCond .eq 21, 3) := by decide +kernel
theorem dX11_next_7 : decode cX11_next 7 = .ok (.iload_n 2, 1) := by decide +kernel
theorem dX11_next_8 : decode cX11_next 8 = .ok (.iconst 0, 1) := by decide +kernel
theorem dX11_next_9 : decode cX11_next 9 = .ok (.iconst 4, 1) := by decide +kernel
theorem dX11_next_10 : decode cX11_next 10 = .ok (.invokestatic 59, 3) := by decide +kernel
theorem dX11_next_13 : decode cX11_next 13 = .ok (.ifCond .eq 12, 3) := by decide +kernel
theorem dX11_next_16 : decode cX11_next 16 = .ok (.iload_n 3, 1) := by decide +kernel
theorem dX11_next_17 : decode cX11_next 17 = .ok (.iconst 0, 1) := by decide +kernel
theorem dX11_next_18 : decode cX11_next 18 = .ok (.iconst 3, 1) := by decide +kernel
theorem dX11_next_19 : decode cX11_next 19 = .ok (.invokestatic 59, 3) := by decide +kernel
theorem dX11_next_22 : decode cX11_next 22 = .ok (.ifCond .ne 6, 3) := by decide +kernel
theorem dX11_next_25 : decode cX11_next 25 = .ok (.bipush (-2), 2) := by decide +kernel
theorem dX11_next_27 : decode cX11_next 27 = .ok (.ireturn, 1) := by decide +kernel
theorem dX11_next_28 : decode cX11_next 28 = .ok (.aload_n 0, 1) := by decide +kernel
theorem dX11_next_29 : decode cX11_next 29 = .ok (.getfield 7, 3) := by decide +kernel
theorem dX11_next_32 : decode cX11_next 32 = .ok (.iload_n 1, 1) := by decide +kernel
theorem dX11_next_33 : decode cX11_next 33 = .ok (.iaload, 1) := by decide +kernel
theorem dX11_next_34 : decode cX11_next 34 = .ok (.istore 4, 2) := by decide +kernel
theorem dX11_next_36 : decode cX11_next 36 = .ok (.iload_n 2, 1) := by decide +kernel
theorem dX11_next_37 : decode cX11_next 37 = .ok (.iload 4, 2) := by decide +kernel
theorem dX11_next_39 : decode cX11_next 39 = .ok (.if_icmp .gt 7, 3) := by decide +kernel
theorem dX11_next_42 : decode cX11_next 42 = .ok (.iconst 1, 1) := by decide +kernel
theorem dX11_next_43 : decode cX11_next 43 = .ok (.goto 4, 3) := by decide +kernel
theorem dX11_next_46 : decode cX11_next 46 = .ok (.iconst 0, 1) := by decide +kernel
theorem dX11_next_47 : decode cX11_next 47 = .ok (.istore 5, 2) := by decide +kernel
theorem dX11_next_49 : decode cX11_next 49 = .ok (.iconst 1, 1) := by decide +kernel
theorem dX11_next_50 : decode cX11_next 50 = .ok (.istore 6, 2) := by decide +kernel
theorem dX11_next_52 : decode cX11_next 52 = .ok (.iload 6, 2) := by decide +kernel
theorem dX11_next_54 : decode cX11_next 54 = .ok (.iload_n 2, 1) := by decide +kernel
theorem dX11_next_55 : decode cX11_next 55 = .ok (.if_icmp .gt 40, 3) := by decide +kernel
theorem dX11_next_58 : decode cX11_next 58 = .ok (.iload 5, 2) := by decide +kernel
theorem dX11_next_60 : decode cX11_next 60 = .ok (.ifCond .eq 35, 3) := by decide +kernel
theorem dX11_next_63 : decode cX11_next 63 = .ok (.aload_n 0, 1) := by decide +kernel
theorem dX11_next_64 : decode cX11_next 64 = .ok (.getfield 13, 3) := by decide +kernel
theorem dX11_next_67 : decode cX11_next 67 = .ok (.bipush 15, 2) := by decide +kernel
theorem dX11_next_69 : decode cX11_next 69 = .ok (.iload_n 1, 1) := by decide +kernel
theorem dX11_next_70 : decode cX11_next 70 = .ok (.imul, 1) := by decide +kernel
theorem dX11_next_71 : decode cX11_next 71 = .ok (.iload 4, 2) := by decide +kernel
theorem dX11_next_73 : decode cX11_next 73 = .ok (.iadd, 1) := by decide +kernel
theorem dX11_next_74 : decode cX11_next 74 = .ok (.iload 6, 2) := by decide +kernel
theorem dX11_next_76 : decode cX11_next 76 = .ok (.isub, 1) := by decide +kernel
theorem dX11_next_77 : decode cX11_next 77 = .ok (.iaload, 1) := by decide +kernel
theorem dX11_next_78 : decode cX11_next 78 = .ok (.iconst (-1), 1) := by decide +kernel
theorem dX11_next_79 : decode cX11_next 79 = .ok (.if_icmp .eq 7, 3) := by decide +kernel
theorem dX11_next_82 : decode cX11_next 82 = .ok (.iconst 1, 1) := by decide +kernel
theorem dX11_next_83 : decode cX11_next 83 = .ok (.goto 4, 3) := by decide +kernel
theorem dX11_next_86 : decode cX11_next 86 = .ok (.iconst 0, 1) := by decide +kernel
theorem dX11_next_87 : decode cX11_next 87 = .ok (.istore 5, 2) := by decide +kernel
theorem dX11_next_89 : decode cX11_next 89 = .ok (.iinc 6 1, 3) := by decide +kernel
theorem dX11_next_92 : decode cX11_next 92 = .ok (.goto (-40), 3) := by decide +kernel
theorem dX11_next_95 : decode cX11_next 95 = .ok (.iload 5, 2) := by decide +kernel
theorem dX11_next_97 : decode cX11_next 97 = .ok (.ifCond .ne 6, 3) := by decide +kernel
theorem dX11_next_100 : decode cX11_next 100 = .ok (.bipush (-3), 2) := by decide +kernel
theorem dX11_next_102 : decode cX11_next 102 = .ok (.ireturn, 1) := by decide +kernel
theorem dX11_next_103 : decode cX11_next 103 = .ok (.iconst 0, 1) := by decide +kernel
theorem dX11_next_104 : decode cX11_next 104 = .ok (.istore 6, 2) := by decide +kernel
theorem dX11_next_106 : decode cX11_next 106 = .ok (.iconst 0, 1) := by decide +kernel
theorem dX11_next_107 : decode cX11_next 107 = .ok (.istore 7, 2) := by decide +kernel
theorem dX11_next_109 : decode cX11_next 109 = .ok (.iload_n 2, 1) := by decide +kernel
theorem dX11_next_110 : decode cX11_next 110 = .ok (.istore 8, 2) := by decide +kernel
theorem dX11_next_112 : decode cX11_next 112 = .ok (.iload 8, 2) := by decide +kernel
theorem dX11_next_114 : decode cX11_next 114 = .ok (.iload 4, 2) := by decide +kernel
theorem dX11_next_116 : decode cX11_next 116 = .ok (.if_icmp .ge 133, 3) := by decide +kernel
theorem dX11_next_119 : decode cX11_next 119 = .ok (.aload_n 0, 1) := by decide +kernel
theorem dX11_next_120 : decode cX11_next 120 = .ok (.getfield 13, 3) := by decide +kernel
theorem dX11_next_123 : decode cX11_next 123 = .ok (.bipush 15, 2) := by decide +kernel
theorem dX11_next_125 : decode cX11_next 125 = .ok (.iload_n 1, 1) := by decide +kernel
theorem dX11_next_126 : decode cX11_next 126 = .ok (.imul, 1) := by decide +kernel
theorem dX11_next_127 : decode cX11_next 127 = .ok (.iload 8, 2) := by decide +kernel
theorem dX11_next_129 : decode cX11_next 129 = .ok (.iadd, 1) := by decide +kernel
theorem dX11_next_130 : decode cX11_next 130 = .ok (.iaload, 1) := by decide +kernel
theorem dX11_next_131 : decode cX11_next 131 = .ok (.iconst (-1), 1) := by decide +kernel
theorem dX11_next_132 : decode cX11_next 132 = .ok (.if_icmp .eq 7, 3) := by decide +kernel
theorem dX11_next_135 : decode cX11_next 135 = .ok (.iconst 1, 1) := by decide +kernel
theorem dX11_next_136 : decode cX11_next 136 = .ok (.goto 4, 3) := by decide +kernel
theorem dX11_next_139 : decode cX11_next 139 = .ok (.iconst 0, 1) := by decide +kernel
theorem dX11_next_140 : decode cX11_next 140 = .ok (.istore 9, 2) := by decide +kernel
theorem dX11_next_142 : decode cX11_next 142 = .ok (.iconst 1, 1) := by decide +kernel
theorem dX11_next_143 : decode cX11_next 143 = .ok (.istore 10, 2) := by decide +kernel
theorem dX11_next_145 : decode cX11_next 145 = .ok (.iload 10, 2) := by decide +kernel
theorem dX11_next_147 : decode cX11_next 147 = .ok (.iload_n 2, 1) := by decide +kernel
theorem dX11_next_148 : decode cX11_next 148 = .ok (.if_icmp .gt 54, 3) := by decide +kernel
theorem dX11_next_151 : decode cX11_next 151 = .ok (.iload 9, 2) := by decide +kernel
theorem dX11_next_153 : decode cX11_next 153 = .ok (.ifCond .eq 49, 3) := by decide +kernel
theorem dX11_next_156 : decode cX11_next 156 = .ok (.aload_n 0, 1) := by decide +kernel
theorem dX11_next_157 : decode cX11_next 157 = .ok (.getfield 13, 3) := by decide +kernel
theorem dX11_next_160 : decode cX11_next 160 = .ok (.bipush 15, 2) := by decide +kernel
theorem dX11_next_162 : decode cX11_next 162 = .ok (.iload_n 1, 1) := by decide +kernel
theorem dX11_next_163 : decode cX11_next 163 = .ok (.imul, 1) := by decide +kernel
theorem dX11_next_164 : decode cX11_next 164 = .ok (.iload 8, 2) := by decide +kernel
theorem dX11_next_166 : decode cX11_next 166 = .ok (.iadd, 1) := by decide +kernel
theorem dX11_next_167 : decode cX11_next 167 = .ok (.iload 10, 2) := by decide +kernel
theorem dX11_next_169 : decode cX11_next 169 = .ok (.isub, 1) := by decide +kernel
theorem dX11_next_170 : decode cX11_next 170 = .ok (.iaload, 1) := by decide +kernel
theorem dX11_next_171 : decode cX11_next 171 = .ok (.aload_n 0, 1) := by decide +kernel
theorem dX11_next_172 : decode cX11_next 172 = .ok (.getfield 13, 3) := by decide +kernel
theorem dX11_next_175 : decode cX11_next 175 = .ok (.bipush 15, 2) := by decide +kernel
theorem dX11_next_177 : decode cX11_next 177 = .ok (.iload_n 1, 1) := by decide +kernel
theorem dX11_next_178 : decode cX11_next 178 = .ok (.imul, 1) := by decide +kernel
theorem dX11_next_179 : decode cX11_next 179 = .ok (.iload 4, 2) := by decide +kernel
theorem dX11_next_181 : decode cX11_next 181 = .ok (.iadd, 1) := by decide +kernel
theorem dX11_next_182 : decode cX11_next 182 = .ok (.iload 10, 2) := by decide +kernel
theorem dX11_next_184 : decode cX11_next 184 = .ok (.isub, 1) := by decide +kernel
theorem dX11_next_185 : decode cX11_next 185 = .ok (.iaload, 1) := by decide +kernel
theorem dX11_next_186 : decode cX11_next 186 = .ok (.if_icmp .ne 7, 3) := by decide +kernel
theorem dX11_next_189 : decode cX11_next 189 = .ok (.iconst 1, 1) := by decide +kernel
theorem dX11_next_190 : decode cX11_next 190 = .ok (.goto 4, 3) := by decide +kernel
theorem dX11_next_193 : decode cX11_next 193 = .ok (.iconst 0, 1) := by decide +kernel
theorem dX11_next_194 : decode cX11_next 194 = .ok (.istore 9, 2) := by decide +kernel
theorem dX11_next_196 : decode cX11_next 196 = .ok (.iinc 10 1, 3) := by decide +kernel
theorem dX11_next_199 : decode cX11_next 199 = .ok (.goto (-54), 3) := by decide +kernel
theorem dX11_next_202 : decode cX11_next 202 = .ok (.iload 6, 2) := by decide +kernel
theorem dX11_next_204 : decode cX11_next 204 = .ok (.iload 9, 2) := by decide +kernel
theorem dX11_next_206 : decode cX11_next 206 = .ok (.ifCond .eq 7, 3) := by decide +kernel
theorem dX11_next_209 : decode cX11_next 209 = .ok (.iconst 1, 1) := by decide +kernel
theorem dX11_next_210 : decode cX11_next 210 = .ok (.goto 4, 3) := by decide +kernel
theorem dX11_next_213 : decode cX11_next 213 = .ok (.iconst 0, 1) := by decide +kernel
theorem dX11_next_214 : decode cX11_next 214 = .ok (.iadd, 1) := by decide +kernel
theorem dX11_next_215 : decode cX11_next 215 = .ok (.istore 6, 2) := by decide +kernel
theorem dX11_next_217 : decode cX11_next 217 = .ok (.iload 7, 2) := by decide +kernel
theorem dX11_next_219 : decode cX11_next 219 = .ok (.iload 9, 2) := by decide +kernel
theorem dX11_next_221 : decode cX11_next 221 = .ok (.ifCond .eq 18, 3) := by decide +kernel
theorem dX11_next_224 : decode cX11_next 224 = .ok (.aload_n 0, 1) := by decide +kernel
theorem dX11_next_225 : decode cX11_next 225 = .ok (.getfield 13, 3) := by decide +kernel
theorem dX11_next_228 : decode cX11_next 228 = .ok (.bipush 15, 2) := by decide +kernel
theorem dX11_next_230 : decode cX11_next 230 = .ok (.iload_n 1, 1) := by decide +kernel
theorem dX11_next_231 : decode cX11_next 231 = .ok (.imul, 1) := by decide +kernel
theorem dX11_next_232 : decode cX11_next 232 = .ok (.iload 8, 2) := by decide +kernel
theorem dX11_next_234 : decode cX11_next 234 = .ok (.iadd, 1) := by decide +kernel
theorem dX11_next_235 : decode cX11_next 235 = .ok (.iaload, 1) := by decide +kernel
theorem dX11_next_236 : decode cX11_next 236 = .ok (.goto 4, 3) := by decide +kernel
theorem dX11_next_239 : decode cX11_next 239 = .ok (.iconst 0, 1) := by decide +kernel
theorem dX11_next_240 : decode cX11_next 240 = .ok (.iadd, 1) := by decide +kernel
theorem dX11_next_241 : decode cX11_next 241 = .ok (.istore 7, 2) := by decide +kernel
theorem dX11_next_243 : decode cX11_next 243 = .ok (.iinc 8 1, 3) := by decide +kernel
theorem dX11_next_246 : decode cX11_next 246 = .ok (.goto (-134), 3) := by decide +kernel
theorem dX11_next_249 : decode cX11_next 249 = .ok (.iload_n 3, 1) := by decide +kernel
theorem dX11_next_250 : decode cX11_next 250 = .ok (.ifCond .ne 8, 3) := by decide +kernel
theorem dX11_next_253 : decode cX11_next 253 = .ok (.iload 7, 2) := by decide +kernel
theorem dX11_next_255 : decode cX11_next 255 = .ok (.goto 32, 3) := by decide +kernel
theorem dX11_next_258 : decode cX11_next 258 = .ok (.iload_n 3, 1) := by decide +kernel
theorem dX11_next_259 : decode cX11_next 259 = .ok (.iconst 1, 1) := by decide +kernel
theorem dX11_next_260 : decode cX11_next 260 = .ok (.if_icmp .ne 8, 3) := by decide +kernel
theorem dX11_next_263 : decode cX11_next 263 = .ok (.iload 6, 2) := by decide +kernel
theorem dX11_next_265 : decode cX11_next 265 = .ok (.goto 22, 3) := by decide +kernel
theorem dX11_next_268 : decode cX11_next 268 = .ok (.iload 7, 2) := by decide +kernel
theorem dX11_next_270 : decode cX11_next 270 = .ok (.i2l, 1) := by decide +kernel
theorem dX11_next_271 : decode cX11_next 271 = .ok (.lconst 1, 1) := by decide +kernel
theorem dX11_next_272 : decode cX11_next 272 = .ok (.ladd, 1) := by decide +kernel
theorem dX11_next_273 : decode cX11_next 273 = .ok (.iload 6, 2) := by decide +kernel
theorem dX11_next_275 : decode cX11_next 275 = .ok (.i2l, 1) := by decide +kernel
theorem dX11_next_276 : decode cX11_next 276 = .ok (.ldc2_w 201, 3) := by decide +kernel
theorem dX11_next_279 : decode cX11_next 279 = .ok (.ladd, 1) := by decide +kernel
theorem dX11_next_280 : decode cX11_next 280 = .ok (.iload_n 3, 1) := by decide +kernel
theorem dX11_next_281 : decode cX11_next 281 = .ok (.iconst 2, 1) := by decide +kernel
theorem dX11_next_282 : decode cX11_next 282 = .ok (.isub, 1) := by decide +kernel
theorem dX11_next_283 : decode cX11_next 283 = .ok (.invokestatic 147, 3) := by decide +kernel
theorem dX11_next_286 : decode cX11_next 286 = .ok (.l2i, 1) := by decide +kernel
theorem dX11_next_287 : decode cX11_next 287 = .ok (.ireturn, 1) := by decide +kernel
theorem dX11_meets_0 : decode cX11_meets 0 = .ok (.aload_n 0, 1) := by decide +kernel
theorem dX11_meets_1 : decode cX11_meets 1 = .ok (.iload_n 1, 1) := by decide +kernel
theorem dX11_meets_2 : decode cX11_meets 2 = .ok (.putfield 203, 3) := by decide +kernel
theorem dX11_meets_5 : decode cX11_meets 5 = .ok (.bipush (-10), 2) := by decide +kernel
theorem dX11_meets_7 : decode cX11_meets 7 = .ok (.iload_n 1, 1) := by decide +kernel
theorem dX11_meets_8 : decode cX11_meets 8 = .ok (.isub, 1) := by decide +kernel
theorem dX11_meets_9 : decode cX11_meets 9 = .ok (.ireturn, 1) := by decide +kernel
theorem dX11_isSheet_0 : decode cX11_isSheet 0 = .ok (.iload_n 0, 1) := by decide +kernel
theorem dX11_isSheet_1 : decode cX11_isSheet 1 = .ok (.iconst 0, 1) := by decide +kernel
theorem dX11_isSheet_2 : decode cX11_isSheet 2 = .ok (.iconst 3, 1) := by decide +kernel
theorem dX11_isSheet_3 : decode cX11_isSheet 3 = .ok (.invokestatic 59, 3) := by decide +kernel
theorem dX11_isSheet_6 : decode cX11_isSheet 6 = .ok (.ireturn, 1) := by decide +kernel
theorem dX11_sheet_0 : decode cX11_sheet 0 = .ok (.iload_n 1, 1) := by decide +kernel
theorem dX11_sheet_1 : decode cX11_sheet 1 = .ok (.invokestatic 71, 3) := by decide +kernel
theorem dX11_sheet_4 : decode cX11_sheet 4 = .ok (.ifCond .eq 18, 3) := by decide +kernel
theorem dX11_sheet_7 : decode cX11_sheet 7 = .ok (.iload_n 2, 1) := by decide +kernel
theorem dX11_sheet_8 : decode cX11_sheet 8 = .ok (.iconst 0, 1) := by decide +kernel
theorem dX11_sheet_9 : decode cX11_sheet 9 = .ok (.iconst 2, 1) := by decide +kernel
theorem dX11_sheet_10 : decode cX11_sheet 10 = .ok (.invokestatic 59, 3) := by decide +kernel
theorem dX11_sheet_13 : decode cX11_sheet 13 = .ok (.ifCond .eq 9, 3) := by decide +kernel
theorem dX11_sheet_16 : decode cX11_sheet 16 = .ok (.iload_n 3, 1) := by decide +kernel
theorem dX11_sheet_17 : decode cX11_sheet 17 = .ok (.bipush 40, 2) := by decide +kernel
theorem dX11_sheet_19 : decode cX11_sheet 19 = .ok (.if_icmp .le 6, 3) := by decide +kernel
theorem dX11_sheet_22 : decode cX11_sheet 22 = .ok (.bipush (-2), 2) := by decide +kernel
theorem dX11_sheet_24 : decode cX11_sheet 24 = .ok (.ireturn, 1) := by decide +kernel
theorem dX11_sheet_25 : decode cX11_sheet 25 = .ok (.iload_n 3, 1) := by decide +kernel
theorem dX11_sheet_26 : decode cX11_sheet 26 = .ok (.ifCond .ge 9, 3) := by decide +kernel
theorem dX11_sheet_29 : decode cX11_sheet 29 = .ok (.aload_n 0, 1) := by decide +kernel
theorem dX11_sheet_30 : decode cX11_sheet 30 = .ok (.iconst 5, 1) := by decide +kernel
theorem dX11_sheet_31 : decode cX11_sheet 31 = .ok (.invokevirtual 74, 3) := by decide +kernel
theorem dX11_sheet_34 : decode cX11_sheet 34 = .ok (.ireturn, 1) := by decide +kernel
theorem dX11_sheet_35 : decode cX11_sheet 35 = .ok (.aload_n 0, 1) := by decide +kernel
theorem dX11_sheet_36 : decode cX11_sheet 36 = .ok (.getfield 42, 3) := by decide +kernel
theorem dX11_sheet_39 : decode cX11_sheet 39 = .ok (.iload_n 1, 1) := by decide +kernel
theorem dX11_sheet_40 : decode cX11_sheet 40 = .ok (.iconst 1, 1) := by decide +kernel
theorem dX11_sheet_41 : decode cX11_sheet 41 = .ok (.bastore, 1) := by decide +kernel
theorem dX11_sheet_42 : decode cX11_sheet 42 = .ok (.aload_n 0, 1) := by decide +kernel
theorem dX11_sheet_43 : decode cX11_sheet 43 = .ok (.getfield 45, 3) := by decide +kernel
theorem dX11_sheet_46 : decode cX11_sheet 46 = .ok (.iload_n 1, 1) := by decide +kernel
theorem dX11_sheet_47 : decode cX11_sheet 47 = .ok (.iload_n 2, 1) := by decide +kernel
theorem dX11_sheet_48 : decode cX11_sheet 48 = .ok (.iastore, 1) := by decide +kernel
theorem dX11_sheet_49 : decode cX11_sheet 49 = .ok (.aload_n 0, 1) := by decide +kernel
theorem dX11_sheet_50 : decode cX11_sheet 50 = .ok (.getfield 48, 3) := by decide +kernel
theorem dX11_sheet_53 : decode cX11_sheet 53 = .ok (.iload_n 1, 1) := by decide +kernel
theorem dX11_sheet_54 : decode cX11_sheet 54 = .ok (.iload_n 3, 1) := by decide +kernel
theorem dX11_sheet_55 : decode cX11_sheet 55 = .ok (.iastore, 1) := by decide +kernel
theorem dX11_sheet_56 : decode cX11_sheet 56 = .ok (.iconst 0, 1) := by decide +kernel
theorem dX11_sheet_57 : decode cX11_sheet 57 = .ok (.istore 4, 2) := by decide +kernel
theorem dX11_sheet_59 : decode cX11_sheet 59 = .ok (.iload 4, 2) := by decide +kernel
theorem dX11_sheet_61 : decode cX11_sheet 61 = .ok (.bipush 40, 2) := by decide +kernel
theorem dX11_sheet_63 : decode cX11_sheet 63 = .ok (.if_icmp .ge 22, 3) := by decide +kernel
theorem dX11_sheet_66 : decode cX11_sheet 66 = .ok (.aload_n 0, 1) := by decide +kernel
theorem dX11_sheet_67 : decode cX11_sheet 67 = .ok (.getfield 51, 3) := by decide +kernel
theorem dX11_sheet_70 : decode cX11_sheet 70 = .ok (.bipush 40, 2) := by decide +kernel
theorem dX11_sheet_72 : decode cX11_sheet 72 = .ok (.iload_n 1, 1) := by decide +kernel
theorem dX11_sheet_73 : decode cX11_sheet 73 = .ok (.imul, 1) := by decide +kernel
theorem dX11_sheet_74 : decode cX11_sheet 74 = .ok (.iload 4, 2) := by decide +kernel
theorem dX11_sheet_76 : decode cX11_sheet 76 = .ok (.iadd, 1) := by decide +kernel
theorem dX11_sheet_77 : decode cX11_sheet 77 = .ok (.iconst 0, 1) := by decide +kernel
theorem dX11_sheet_78 : decode cX11_sheet 78 = .ok (.iastore, 1) := by decide +kernel
theorem dX11_sheet_79 : decode cX11_sheet 79 = .ok (.iinc 4 1, 3) := by decide +kernel
theorem dX11_sheet_82 : decode cX11_sheet 82 = .ok (.goto (-23), 3) := by decide +kernel
theorem dX11_sheet_85 : decode cX11_sheet 85 = .ok (.iload_n 3, 1) := by decide +kernel
theorem dX11_sheet_86 : decode cX11_sheet 86 = .ok (.ireturn, 1) := by decide +kernel
theorem dX11_lose_0 : decode cX11_lose 0 = .ok (.iload_n 1, 1) := by decide +kernel
theorem dX11_lose_1 : decode cX11_lose 1 = .ok (.invokestatic 71, 3) := by decide +kernel
theorem dX11_lose_4 : decode cX11_lose 4 = .ok (.ifCond .ne 6, 3) := by decide +kernel
theorem dX11_lose_7 : decode cX11_lose 7 = .ok (.bipush (-2), 2) := by decide +kernel
theorem dX11_lose_9 : decode cX11_lose 9 = .ok (.ireturn, 1) := by decide +kernel
theorem dX11_lose_10 : decode cX11_lose 10 = .ok (.aload_n 0, 1) := by decide +kernel
theorem dX11_lose_11 : decode cX11_lose 11 = .ok (.getfield 42, 3) := by decide +kernel
theorem dX11_lose_14 : decode cX11_lose 14 = .ok (.iload_n 1, 1) := by decide +kernel
theorem dX11_lose_15 : decode cX11_lose 15 = .ok (.baload, 1) := by decide +kernel
theorem dX11_lose_16 : decode cX11_lose 16 = .ok (.ifCond .ne 9, 3) := by decide +kernel
theorem dX11_lose_19 : decode cX11_lose 19 = .ok (.aload_n 0, 1) := by decide +kernel
theorem dX11_lose_20 : decode cX11_lose 20 = .ok (.iconst 1, 1) := by decide +kernel
theorem dX11_lose_21 : decode cX11_lose 21 = .ok (.invokevirtual 74, 3) := by decide +kernel
theorem dX11_lose_24 : decode cX11_lose 24 = .ok (.ireturn, 1) := by decide +kernel
theorem dX11_lose_25 : decode cX11_lose 25 = .ok (.aload_n 0, 1) := by decide +kernel
theorem dX11_lose_26 : decode cX11_lose 26 = .ok (.getfield 42, 3) := by decide +kernel
theorem dX11_lose_29 : decode cX11_lose 29 = .ok (.iload_n 1, 1) := by decide +kernel
theorem dX11_lose_30 : decode cX11_lose 30 = .ok (.iconst 0, 1) := by decide +kernel
theorem dX11_lose_31 : decode cX11_lose 31 = .ok (.bastore, 1) := by decide +kernel
theorem dX11_lose_32 : decode cX11_lose 32 = .ok (.aload_n 0, 1) := by decide +kernel
theorem dX11_lose_33 : decode cX11_lose 33 = .ok (.getfield 48, 3) := by decide +kernel
theorem dX11_lose_36 : decode cX11_lose 36 = .ok (.iload_n 1, 1) := by decide +kernel
theorem dX11_lose_37 : decode cX11_lose 37 = .ok (.iaload, 1) := by decide +kernel
theorem dX11_lose_38 : decode cX11_lose 38 = .ok (.ireturn, 1) := by decide +kernel
theorem dX11_lacks_0 : decode cX11_lacks 0 = .ok (.aload_n 0, 1) := by decide +kernel
theorem dX11_lacks_1 : decode cX11_lacks 1 = .ok (.getfield 42, 3) := by decide +kernel
theorem dX11_lacks_4 : decode cX11_lacks 4 = .ok (.iload_n 1, 1) := by decide +kernel
theorem dX11_lacks_5 : decode cX11_lacks 5 = .ok (.baload, 1) := by decide +kernel
theorem dX11_lacks_6 : decode cX11_lacks 6 = .ok (.ifCond .ne 7, 3) := by decide +kernel
theorem dX11_lacks_9 : decode cX11_lacks 9 = .ok (.iconst 1, 1) := by decide +kernel
theorem dX11_lacks_10 : decode cX11_lacks 10 = .ok (.goto 38, 3) := by decide +kernel
theorem dX11_lacks_13 : decode cX11_lacks 13 = .ok (.aload_n 0, 1) := by decide +kernel
theorem dX11_lacks_14 : decode cX11_lacks 14 = .ok (.getfield 45, 3) := by decide +kernel
theorem dX11_lacks_17 : decode cX11_lacks 17 = .ok (.iload_n 1, 1) := by decide +kernel
theorem dX11_lacks_18 : decode cX11_lacks 18 = .ok (.iaload, 1) := by decide +kernel
theorem dX11_lacks_19 : decode cX11_lacks 19 = .ok (.iload_n 2, 1) := by decide +kernel
theorem dX11_lacks_20 : decode cX11_lacks 20 = .ok (.if_icmp .eq 7, 3) := by decide +kernel
theorem dX11_lacks_23 : decode cX11_lacks 23 = .ok (.iconst 3, 1) := by decide +kernel
theorem dX11_lacks_24 : decode cX11_lacks 24 = .ok (.goto 24, 3) := by decide +kernel
theorem dX11_lacks_27 : decode cX11_lacks 27 = .ok (.iload_n 3, 1) := by decide +kernel
theorem dX11_lacks_28 : decode cX11_lacks 28 = .ok (.iconst 0, 1) := by decide +kernel
theorem dX11_lacks_29 : decode cX11_lacks 29 = .ok (.aload_n 0, 1) := by decide +kernel
theorem dX11_lacks_30 : decode cX11_lacks 30 = .ok (.getfield 48, 3) := by decide +kernel
theorem dX11_lacks_33 : decode cX11_lacks 33 = .ok (.iload_n 1, 1) := by decide +kernel
theorem dX11_lacks_34 : decode cX11_lacks 34 = .ok (.iaload, 1) := by decide +kernel
theorem dX11_lacks_35 : decode cX11_lacks 35 = .ok (.iconst 1, 1) := by decide +kernel
theorem dX11_lacks_36 : decode cX11_lacks 36 = .ok (.isub, 1) := by decide +kernel
theorem dX11_lacks_37 : decode cX11_lacks 37 = .ok (.invokestatic 59, 3) := by decide +kernel
theorem dX11_lacks_40 : decode cX11_lacks 40 = .ok (.ifCond .eq 7, 3) := by decide +kernel
theorem dX11_lacks_43 : decode cX11_lacks 43 = .ok (.iconst 0, 1) := by decide +kernel
theorem dX11_lacks_44 : decode cX11_lacks 44 = .ok (.goto 4, 3) := by decide +kernel
theorem dX11_lacks_47 : decode cX11_lacks 47 = .ok (.iconst 2, 1) := by decide +kernel
theorem dX11_lacks_48 : decode cX11_lacks 48 = .ok (.ireturn, 1) := by decide +kernel
theorem dX11_keep_0 : decode cX11_keep 0 = .ok (.aload_n 0, 1) := by decide +kernel
theorem dX11_keep_1 : decode cX11_keep 1 = .ok (.getfield 51, 3) := by decide +kernel
theorem dX11_keep_4 : decode cX11_keep 4 = .ok (.bipush 40, 2) := by decide +kernel
theorem dX11_keep_6 : decode cX11_keep 6 = .ok (.iload_n 1, 1) := by decide +kernel
theorem dX11_keep_7 : decode cX11_keep 7 = .ok (.imul, 1) := by decide +kernel
theorem dX11_keep_8 : decode cX11_keep 8 = .ok (.iload_n 2, 1) := by decide +kernel
theorem dX11_keep_9 : decode cX11_keep 9 = .ok (.iadd, 1) := by decide +kernel
theorem dX11_keep_10 : decode cX11_keep 10 = .ok (.aload_n 0, 1) := by decide +kernel
theorem dX11_keep_11 : decode cX11_keep 11 = .ok (.getfield 45, 3) := by decide +kernel
theorem dX11_keep_14 : decode cX11_keep 14 = .ok (.iload_n 1, 1) := by decide +kernel
theorem dX11_keep_15 : decode cX11_keep 15 = .ok (.iaload, 1) := by decide +kernel
theorem dX11_keep_16 : decode cX11_keep 16 = .ok (.ifCond .ne 8, 3) := by decide +kernel
theorem dX11_keep_19 : decode cX11_keep 19 = .ok (.iload_n 3, 1) := by decide +kernel
theorem dX11_keep_20 : decode cX11_keep 20 = .ok (.i2b, 1) := by decide +kernel
theorem dX11_keep_21 : decode cX11_keep 21 = .ok (.goto 19, 3) := by decide +kernel
theorem dX11_keep_24 : decode cX11_keep 24 = .ok (.aload_n 0, 1) := by decide +kernel
theorem dX11_keep_25 : decode cX11_keep 25 = .ok (.getfield 45, 3) := by decide +kernel
theorem dX11_keep_28 : decode cX11_keep 28 = .ok (.iload_n 1, 1) := by decide +kernel
theorem dX11_keep_29 : decode cX11_keep 29 = .ok (.iaload, 1) := by decide +kernel
theorem dX11_keep_30 : decode cX11_keep 30 = .ok (.iconst 1, 1) := by decide +kernel
theorem dX11_keep_31 : decode cX11_keep 31 = .ok (.if_icmp .ne 8, 3) := by decide +kernel
theorem dX11_keep_34 : decode cX11_keep 34 = .ok (.iload_n 3, 1) := by decide +kernel
theorem dX11_keep_35 : decode cX11_keep 35 = .ok (.i2s, 1) := by decide +kernel
theorem dX11_keep_36 : decode cX11_keep 36 = .ok (.goto 4, 3) := by decide +kernel
theorem dX11_keep_39 : decode cX11_keep 39 = .ok (.iload_n 3, 1) := by decide +kernel
theorem dX11_keep_40 : decode cX11_keep 40 = .ok (.iastore, 1) := by decide +kernel
theorem dX11_keep_41 : decode cX11_keep 41 = .ok (.return_, 1) := by decide +kernel
theorem dX11_put_0 : decode cX11_put 0 = .ok (.iload_n 1, 1) := by decide +kernel
theorem dX11_put_1 : decode cX11_put 1 = .ok (.invokestatic 71, 3) := by decide +kernel
theorem dX11_put_4 : decode cX11_put 4 = .ok (.ifCond .eq 12, 3) := by decide +kernel
theorem dX11_put_7 : decode cX11_put 7 = .ok (.iload_n 2, 1) := by decide +kernel
theorem dX11_put_8 : decode cX11_put 8 = .ok (.iconst 0, 1) := by decide +kernel
theorem dX11_put_9 : decode cX11_put 9 = .ok (.iconst 2, 1) := by decide +kernel
theorem dX11_put_10 : decode cX11_put 10 = .ok (.invokestatic 59, 3) := by decide +kernel
theorem dX11_put_13 : decode cX11_put 13 = .ok (.ifCond .ne 6, 3) := by decide +kernel
theorem dX11_put_16 : decode cX11_put 16 = .ok (.bipush (-2), 2) := by decide +kernel
theorem dX11_put_18 : decode cX11_put 18 = .ok (.ireturn, 1) := by decide +kernel
theorem dX11_put_19 : decode cX11_put 19 = .ok (.aload_n 0, 1) := by decide +kernel
theorem dX11_put_20 : decode cX11_put 20 = .ok (.iload_n 1, 1) := by decide +kernel
theorem dX11_put_21 : decode cX11_put 21 = .ok (.iload_n 2, 1) := by decide +kernel
theorem dX11_put_22 : decode cX11_put 22 = .ok (.iload_n 3, 1) := by decide +kernel
theorem dX11_put_23 : decode cX11_put 23 = .ok (.invokevirtual 206, 3) := by decide +kernel
theorem dX11_put_26 : decode cX11_put 26 = .ok (.istore 5, 2) := by decide +kernel
theorem dX11_put_28 : decode cX11_put 28 = .ok (.iload 5, 2) := by decide +kernel
theorem dX11_put_30 : decode cX11_put 30 = .ok (.ifCond .le 10, 3) := by decide +kernel
theorem dX11_put_33 : decode cX11_put 33 = .ok (.aload_n 0, 1) := by decide +kernel
theorem dX11_put_34 : decode cX11_put 34 = .ok (.iload 5, 2) := by decide +kernel
theorem dX11_put_36 : decode cX11_put 36 = .ok (.invokevirtual 74, 3) := by decide +kernel
theorem dX11_put_39 : decode cX11_put 39 = .ok (.ireturn, 1) := by decide +kernel
theorem dX11_put_40 : decode cX11_put 40 = .ok (.aload_n 0, 1) := by decide +kernel
theorem dX11_put_41 : decode cX11_put 41 = .ok (.iload_n 1, 1) := by decide +kernel
theorem dX11_put_42 : decode cX11_put 42 = .ok (.iload_n 3, 1) := by decide +kernel
theorem dX11_put_43 : decode cX11_put 43 = .ok (.iload 4, 2) := by decide +kernel
theorem dX11_put_45 : decode cX11_put 45 = .ok (.invokevirtual 209, 3) := by decide +kernel
theorem dX11_put_48 : decode cX11_put 48 = .ok (.iconst 1, 1) := by decide +kernel
theorem dX11_put_49 : decode cX11_put 49 = .ok (.ireturn, 1) := by decide +kernel
theorem dX11_get_0 : decode cX11_get 0 = .ok (.iload_n 1, 1) := by decide +kernel
theorem dX11_get_1 : decode cX11_get 1 = .ok (.invokestatic 71, 3) := by decide +kernel
theorem dX11_get_4 : decode cX11_get 4 = .ok (.ifCond .eq 12, 3) := by decide +kernel
theorem dX11_get_7 : decode cX11_get 7 = .ok (.iload_n 2, 1) := by decide +kernel
theorem dX11_get_8 : decode cX11_get 8 = .ok (.iconst 0, 1) := by decide +kernel
theorem dX11_get_9 : decode cX11_get 9 = .ok (.iconst 2, 1) := by decide +kernel
theorem dX11_get_10 : decode cX11_get 10 = .ok (.invokestatic 59, 3) := by decide +kernel
theorem dX11_get_13 : decode cX11_get 13 = .ok (.ifCond .ne 6, 3) := by decide +kernel
theorem dX11_get_16 : decode cX11_get 16 = .ok (.ldc 212, 2) := by decide +kernel
theorem dX11_get_18 : decode cX11_get 18 = .ok (.ireturn, 1) := by decide +kernel
theorem dX11_get_19 : decode cX11_get 19 = .ok (.aload_n 0, 1) := by decide +kernel
theorem dX11_get_20 : decode cX11_get 20 = .ok (.iload_n 1, 1) := by decide +kernel
theorem dX11_get_21 : decode cX11_get 21 = .ok (.iload_n 2, 1) := by decide +kernel
theorem dX11_get_22 : decode cX11_get 22 = .ok (.iload_n 3, 1) := by decide +kernel
theorem dX11_get_23 : decode cX11_get 23 = .ok (.invokevirtual 206, 3) := by decide +kernel
theorem dX11_get_26 : decode cX11_get 26 = .ok (.istore 4, 2) := by decide +kernel
theorem dX11_get_28 : decode cX11_get 28 = .ok (.iload 4, 2) := by decide +kernel
theorem dX11_get_30 : decode cX11_get 30 = .ok (.ifCond .le 12, 3) := by decide +kernel
theorem dX11_get_33 : decode cX11_get 33 = .ok (.aload_n 0, 1) := by decide +kernel
theorem dX11_get_34 : decode cX11_get 34 = .ok (.iload 4, 2) := by decide +kernel
theorem dX11_get_36 : decode cX11_get 36 = .ok (.putfield 203, 3) := by decide +kernel
theorem dX11_get_39 : decode cX11_get 39 = .ok (.ldc 212, 2) := by decide +kernel
theorem dX11_get_41 : decode cX11_get 41 = .ok (.ireturn, 1) := by decide +kernel
theorem dX11_get_42 : decode cX11_get 42 = .ok (.aload_n 0, 1) := by decide +kernel
theorem dX11_get_43 : decode cX11_get 43 = .ok (.getfield 51, 3) := by decide +kernel
theorem dX11_get_46 : decode cX11_get 46 = .ok (.bipush 40, 2) := by decide +kernel
theorem dX11_get_48 : decode cX11_get 48 = .ok (.iload_n 1, 1) := by decide +kernel
theorem dX11_get_49 : decode cX11_get 49 = .ok (.imul, 1) := by decide +kernel
theorem dX11_get_50 : decode cX11_get 50 = .ok (.iload_n 3, 1) := by decide +kernel
theorem dX11_get_51 : decode cX11_get 51 = .ok (.iadd, 1) := by decide +kernel
theorem dX11_get_52 : decode cX11_get 52 = .ok (.iaload, 1) := by decide +kernel
theorem dX11_get_53 : decode cX11_get 53 = .ok (.ireturn, 1) := by decide +kernel
theorem dX11_copy_0 : decode cX11_copy 0 = .ok (.iload_n 1, 1) := by decide +kernel
theorem dX11_copy_1 : decode cX11_copy 1 = .ok (.invokestatic 71, 3) := by decide +kernel
theorem dX11_copy_4 : decode cX11_copy 4 = .ok (.ifCond .eq 10, 3) := by decide +kernel
theorem dX11_copy_7 : decode cX11_copy 7 = .ok (.iload_n 3, 1) := by decide +kernel
theorem dX11_copy_8 : decode cX11_copy 8 = .ok (.invokestatic 71, 3) := by decide +kernel
theorem dX11_copy_11 : decode cX11_copy 11 = .ok (.ifCond .ne 6, 3) := by decide +kernel
theorem dX11_copy_14 : decode cX11_copy 14 = .ok (.bipush (-2), 2) := by decide +kernel
theorem dX11_copy_16 : decode cX11_copy 16 = .ok (.ireturn, 1) := by decide +kernel
theorem dX11_copy_17 : decode cX11_copy 17 = .ok (.aload_n 0, 1) := by decide +kernel
theorem dX11_copy_18 : decode cX11_copy 18 = .ok (.getfield 42, 3) := by decide +kernel
theorem dX11_copy_21 : decode cX11_copy 21 = .ok (.iload_n 1, 1) := by decide +kernel
theorem dX11_copy_22 : decode cX11_copy 22 = .ok (.baload, 1) := by decide +kernel
theorem dX11_copy_23 : decode cX11_copy 23 = .ok (.ifCond .eq 12, 3) := by decide +kernel
theorem dX11_copy_26 : decode cX11_copy 26 = .ok (.aload_n 0, 1) := by decide +kernel
theorem dX11_copy_27 : decode cX11_copy 27 = .ok (.getfield 42, 3) := by decide +kernel
theorem dX11_copy_30 : decode cX11_copy 30 = .ok (.iload_n 3, 1) := by decide +kernel
theorem dX11_copy_31 : decode cX11_copy 31 = .ok (.baload, 1) := by decide +kernel
theorem dX11_copy_32 : decode cX11_copy 32 = .ok (.ifCond .ne 9, 3) := by decide +kernel
theorem dX11_copy_35 : decode cX11_copy 35 = .ok (.aload_n 0, 1) := by decide +kernel
theorem dX11_copy_36 : decode cX11_copy 36 = .ok (.iconst 1, 1) := by decide +kernel
theorem dX11_copy_37 : decode cX11_copy 37 = .ok (.invokevirtual 74, 3) := by decide +kernel
theorem dX11_copy_40 : decode cX11_copy 40 = .ok (.ireturn, 1) := by decide +kernel
theorem dX11_copy_41 : decode cX11_copy 41 = .ok (.aload_n 0, 1) := by decide +kernel
theorem dX11_copy_42 : decode cX11_copy 42 = .ok (.getfield 45, 3) := by decide +kernel
theorem dX11_copy_45 : decode cX11_copy 45 = .ok (.iload_n 1, 1) := by decide +kernel
theorem dX11_copy_46 : decode cX11_copy 46 = .ok (.iaload, 1) := by decide +kernel
theorem dX11_copy_47 : decode cX11_copy 47 = .ok (.aload_n 0, 1) := by decide +kernel
theorem dX11_copy_48 : decode cX11_copy 48 = .ok (.getfield 45, 3) := by decide +kernel
theorem dX11_copy_51 : decode cX11_copy 51 = .ok (.iload_n 3, 1) := by decide +kernel
theorem dX11_copy_52 : decode cX11_copy 52 = .ok (.iaload, 1) := by decide +kernel
theorem dX11_copy_53 : decode cX11_copy 53 = .ok (.if_icmp .eq 9, 3) := by decide +kernel
theorem dX11_copy_56 : decode cX11_copy 56 = .ok (.aload_n 0, 1) := by decide +kernel
theorem dX11_copy_57 : decode cX11_copy 57 = .ok (.iconst 4, 1) := by decide +kernel
theorem dX11_copy_58 : decode cX11_copy 58 = .ok (.invokevirtual 74, 3) := by decide +kernel
theorem dX11_copy_61 : decode cX11_copy 61 = .ok (.ireturn, 1) := by decide +kernel
theorem dX11_copy_62 : decode cX11_copy 62 = .ok (.iload_n 2, 1) := by decide +kernel
theorem dX11_copy_63 : decode cX11_copy 63 = .ok (.ifCond .lt 48, 3) := by decide +kernel
theorem dX11_copy_66 : decode cX11_copy 66 = .ok (.iload 4, 2) := by decide +kernel
theorem dX11_copy_68 : decode cX11_copy 68 = .ok (.ifCond .lt 43, 3) := by decide +kernel
theorem dX11_copy_71 : decode cX11_copy 71 = .ok (.iload 5, 2) := by decide +kernel
theorem dX11_copy_73 : decode cX11_copy 73 = .ok (.ifCond .lt 38, 3) := by decide +kernel
theorem dX11_copy_76 : decode cX11_copy 76 = .ok (.iload_n 2, 1) := by decide +kernel
theorem dX11_copy_77 : decode cX11_copy 77 = .ok (.i2l, 1) := by decide +kernel
theorem dX11_copy_78 : decode cX11_copy 78 = .ok (.iload 5, 2) := by decide +kernel
theorem dX11_copy_80 : decode cX11_copy 80 = .ok (.i2l, 1) := by decide +kernel
theorem dX11_copy_81 : decode cX11_copy 81 = .ok (.ladd, 1) := by decide +kernel
theorem dX11_copy_82 : decode cX11_copy 82 = .ok (.aload_n 0, 1) := by decide +kernel
theorem dX11_copy_83 : decode cX11_copy 83 = .ok (.getfield 48, 3) := by decide +kernel
theorem dX11_copy_86 : decode cX11_copy 86 = .ok (.iload_n 1, 1) := by decide +kernel
theorem dX11_copy_87 : decode cX11_copy 87 = .ok (.iaload, 1) := by decide +kernel
theorem dX11_copy_88 : decode cX11_copy 88 = .ok (.i2l, 1) := by decide +kernel
theorem dX11_copy_89 : decode cX11_copy 89 = .ok (.lcmp, 1) := by decide +kernel
theorem dX11_copy_90 : decode cX11_copy 90 = .ok (.ifCond .gt 21, 3) := by decide +kernel
theorem dX11_copy_93 : decode cX11_copy 93 = .ok (.iload 4, 2) := by decide +kernel
theorem dX11_copy_95 : decode cX11_copy 95 = .ok (.i2l, 1) := by decide +kernel
theorem dX11_copy_96 : decode cX11_copy 96 = .ok (.iload 5, 2) := by decide +kernel
theorem dX11_copy_98 : decode cX11_copy 98 = .ok (.i2l, 1) := by decide +kernel
theorem dX11_copy_99 : decode cX11_copy 99 = .ok (.ladd, 1) := by decide +kernel
theorem dX11_copy_100 : decode cX11_copy 100 = .ok (.aload_n 0, 1) := by decide +kernel
theorem dX11_copy_101 : decode cX11_copy 101 = .ok (.getfield 48, 3) := by decide +kernel
theorem dX11_copy_104 : decode cX11_copy 104 = .ok (.iload_n 3, 1) := by decide +kernel
theorem dX11_copy_105 : decode cX11_copy 105 = .ok (.iaload, 1) := by decide +kernel
theorem dX11_copy_106 : decode cX11_copy 106 = .ok (.i2l, 1) := by decide +kernel
theorem dX11_copy_107 : decode cX11_copy 107 = .ok (.lcmp, 1) := by decide +kernel
theorem dX11_copy_108 : decode cX11_copy 108 = .ok (.ifCond .le 9, 3) := by decide +kernel
theorem dX11_copy_111 : decode cX11_copy 111 = .ok (.aload_n 0, 1) := by decide +kernel
theorem dX11_copy_112 : decode cX11_copy 112 = .ok (.iconst 2, 1) := by decide +kernel
theorem dX11_copy_113 : decode cX11_copy 113 = .ok (.invokevirtual 74, 3) := by decide +kernel
theorem dX11_copy_116 : decode cX11_copy 116 = .ok (.ireturn, 1) := by decide +kernel
theorem dX11_copy_117 : decode cX11_copy 117 = .ok (.iconst 0, 1) := by decide +kernel
theorem dX11_copy_118 : decode cX11_copy 118 = .ok (.istore 6, 2) := by decide +kernel
theorem dX11_copy_120 : decode cX11_copy 120 = .ok (.iload 6, 2) := by decide +kernel
theorem dX11_copy_122 : decode cX11_copy 122 = .ok (.iload 5, 2) := by decide +kernel
theorem dX11_copy_124 : decode cX11_copy 124 = .ok (.if_icmp .ge 30, 3) := by decide +kernel
theorem dX11_copy_127 : decode cX11_copy 127 = .ok (.aload_n 0, 1) := by decide +kernel
theorem dX11_copy_128 : decode cX11_copy 128 = .ok (.getfield 54, 3) := by decide +kernel
theorem dX11_copy_131 : decode cX11_copy 131 = .ok (.iload 6, 2) := by decide +kernel
theorem dX11_copy_133 : decode cX11_copy 133 = .ok (.aload_n 0, 1) := by decide +kernel
theorem dX11_copy_134 : decode cX11_copy 134 = .ok (.getfield 51, 3) := by decide +kernel
theorem dX11_copy_137 : decode cX11_copy 137 = .ok (.bipush 40, 2) := by decide +kernel
theorem dX11_copy_139 : decode cX11_copy 139 = .ok (.iload_n 1, 1) := by decide +kernel
theorem dX11_copy_140 : decode cX11_copy 140 = .ok (.imul, 1) := by decide +kernel
theorem dX11_copy_141 : decode cX11_copy 141 = .ok (.iload_n 2, 1) := by decide +kernel
theorem dX11_copy_142 : decode cX11_copy 142 = .ok (.iadd, 1) := by decide +kernel
theorem dX11_copy_143 : decode cX11_copy 143 = .ok (.iload 6, 2) := by decide +kernel
theorem dX11_copy_145 : decode cX11_copy 145 = .ok (.iadd, 1) := by decide +kernel
theorem dX11_copy_146 : decode cX11_copy 146 = .ok (.iaload, 1) := by decide +kernel
theorem dX11_copy_147 : decode cX11_copy 147 = .ok (.iastore, 1) := by decide +kernel
theorem dX11_copy_148 : decode cX11_copy 148 = .ok (.iinc 6 1, 3) := by decide +kernel
theorem dX11_copy_151 : decode cX11_copy 151 = .ok (.goto (-31), 3) := by decide +kernel
theorem dX11_copy_154 : decode cX11_copy 154 = .ok (.iconst 0, 1) := by decide +kernel
theorem dX11_copy_155 : decode cX11_copy 155 = .ok (.istore 6, 2) := by decide +kernel
theorem dX11_copy_157 : decode cX11_copy 157 = .ok (.iload 6, 2) := by decide +kernel
theorem dX11_copy_159 : decode cX11_copy 159 = .ok (.iload 5, 2) := by decide +kernel
theorem dX11_copy_161 : decode cX11_copy 161 = .ok (.if_icmp .ge 31, 3) := by decide +kernel
theorem dX11_copy_164 : decode cX11_copy 164 = .ok (.aload_n 0, 1) := by decide +kernel
theorem dX11_copy_165 : decode cX11_copy 165 = .ok (.getfield 51, 3) := by decide +kernel
theorem dX11_copy_168 : decode cX11_copy 168 = .ok (.bipush 40, 2) := by decide +kernel
theorem dX11_copy_170 : decode cX11_copy 170 = .ok (.iload_n 3, 1) := by decide +kernel
theorem dX11_copy_171 : decode cX11_copy 171 = .ok (.imul, 1) := by decide +kernel
theorem dX11_copy_172 : decode cX11_copy 172 = .ok (.iload 4, 2) := by decide +kernel
theorem dX11_copy_174 : decode cX11_copy 174 = .ok (.iadd, 1) := by decide +kernel
theorem dX11_copy_175 : decode cX11_copy 175 = .ok (.iload 6, 2) := by decide +kernel
theorem dX11_copy_177 : decode cX11_copy 177 = .ok (.iadd, 1) := by decide +kernel
theorem dX11_copy_178 : decode cX11_copy 178 = .ok (.aload_n 0, 1) := by decide +kernel
theorem dX11_copy_179 : decode cX11_copy 179 = .ok (.getfield 54, 3) := by decide +kernel
theorem dX11_copy_182 : decode cX11_copy 182 = .ok (.iload 6, 2) := by decide +kernel
theorem dX11_copy_184 : decode cX11_copy 184 = .ok (.iaload, 1) := by decide +kernel
theorem dX11_copy_185 : decode cX11_copy 185 = .ok (.iastore, 1) := by decide +kernel
theorem dX11_copy_186 : decode cX11_copy 186 = .ok (.iinc 6 1, 3) := by decide +kernel
theorem dX11_copy_189 : decode cX11_copy 189 = .ok (.goto (-32), 3) := by decide +kernel
theorem dX11_copy_192 : decode cX11_copy 192 = .ok (.iconst 1, 1) := by decide +kernel
theorem dX11_copy_193 : decode cX11_copy 193 = .ok (.ireturn, 1) := by decide +kernel
theorem dX11_write_0 : decode cX11_write 0 = .ok (.iload_n 1, 1) := by decide +kernel
theorem dX11_write_1 : decode cX11_write 1 = .ok (.invokestatic 63, 3) := by decide +kernel
theorem dX11_write_4 : decode cX11_write 4 = .ok (.ifCond .eq 10, 3) := by decide +kernel
theorem dX11_write_7 : decode cX11_write 7 = .ok (.iload_n 2, 1) := by decide +kernel
theorem dX11_write_8 : decode cX11_write 8 = .ok (.invokestatic 71, 3) := by decide +kernel
theorem dX11_write_11 : decode cX11_write 11 = .ok (.ifCond .ne 6, 3) := by decide +kernel
theorem dX11_write_14 : decode cX11_write 14 = .ok (.bipush (-2), 2) := by decide +kernel
theorem dX11_write_16 : decode cX11_write 16 = .ok (.ireturn, 1) := by decide +kernel
theorem dX11_write_17 : decode cX11_write 17 = .ok (.aload_n 0, 1) := by decide +kernel
theorem dX11_write_18 : decode cX11_write 18 = .ok (.getfield 42, 3) := by decide +kernel
theorem dX11_write_21 : decode cX11_write 21 = .ok (.iload_n 2, 1) := by decide +kernel
theorem dX11_write_22 : decode cX11_write 22 = .ok (.baload, 1) := by decide +kernel
theorem dX11_write_23 : decode cX11_write 23 = .ok (.ifCond .ne 9, 3) := by decide +kernel
theorem dX11_write_26 : decode cX11_write 26 = .ok (.aload_n 0, 1) := by decide +kernel
theorem dX11_write_27 : decode cX11_write 27 = .ok (.iconst 1, 1) := by decide +kernel
theorem dX11_write_28 : decode cX11_write 28 = .ok (.invokevirtual 74, 3) := by decide +kernel
theorem dX11_write_31 : decode cX11_write 31 = .ok (.ireturn, 1) := by decide +kernel
theorem dX11_write_32 : decode cX11_write 32 = .ok (.iconst 0, 1) := by decide +kernel
theorem dX11_write_33 : decode cX11_write 33 = .ok (.istore_n 3, 1) := by decide +kernel
theorem dX11_write_34 : decode cX11_write 34 = .ok (.iload_n 3, 1) := by decide +kernel
theorem dX11_write_35 : decode cX11_write 35 = .ok (.aload_n 0, 1) := by decide +kernel
theorem dX11_write_36 : decode cX11_write 36 = .ok (.getfield 7, 3) := by decide +kernel
theorem dX11_write_39 : decode cX11_write 39 = .ok (.iload_n 1, 1) := by decide +kernel
theorem dX11_write_40 : decode cX11_write 40 = .ok (.iaload, 1) := by decide +kernel
theorem dX11_write_41 : decode cX11_write 41 = .ok (.if_icmp .ge 36, 3) := by decide +kernel
theorem dX11_write_44 : decode cX11_write 44 = .ok (.iload_n 3, 1) := by decide +kernel
theorem dX11_write_45 : decode cX11_write 45 = .ok (.aload_n 0, 1) := by decide +kernel
theorem dX11_write_46 : decode cX11_write 46 = .ok (.getfield 48, 3) := by decide +kernel
theorem dX11_write_49 : decode cX11_write 49 = .ok (.iload_n 2, 1) := by decide +kernel
theorem dX11_write_50 : decode cX11_write 50 = .ok (.iaload, 1) := by decide +kernel
theorem dX11_write_51 : decode cX11_write 51 = .ok (.if_icmp .ge 26, 3) := by decide +kernel
theorem dX11_write_54 : decode cX11_write 54 = .ok (.aload_n 0, 1) := by decide +kernel
theorem dX11_write_55 : decode cX11_write 55 = .ok (.iload_n 2, 1) := by decide +kernel
theorem dX11_write_56 : decode cX11_write 56 = .ok (.iload_n 3, 1) := by decide +kernel
theorem dX11_write_57 : decode cX11_write 57 = .ok (.aload_n 0, 1) := by decide +kernel
theorem dX11_write_58 : decode cX11_write 58 = .ok (.getfield 13, 3) := by decide +kernel
theorem dX11_write_61 : decode cX11_write 61 = .ok (.bipush 15, 2) := by decide +kernel
theorem dX11_write_63 : decode cX11_write 63 = .ok (.iload_n 1, 1) := by decide +kernel
theorem dX11_write_64 : decode cX11_write 64 = .ok (.imul, 1) := by decide +kernel
theorem dX11_write_65 : decode cX11_write 65 = .ok (.iload_n 3, 1) := by decide +kernel
theorem dX11_write_66 : decode cX11_write 66 = .ok (.iadd, 1) := by decide +kernel
theorem dX11_write_67 : decode cX11_write 67 = .ok (.iaload, 1) := by decide +kernel
theorem dX11_write_68 : decode cX11_write 68 = .ok (.invokevirtual 209, 3) := by decide +kernel
theorem dX11_write_71 : decode cX11_write 71 = .ok (.iinc 3 1, 3) := by decide +kernel
theorem dX11_write_74 : decode cX11_write 74 = .ok (.goto (-40), 3) := by decide +kernel
theorem dX11_write_77 : decode cX11_write 77 = .ok (.iload_n 3, 1) := by decide +kernel
theorem dX11_write_78 : decode cX11_write 78 = .ok (.ireturn, 1) := by decide +kernel
theorem dX11_wholeOnes_0 : decode cX11_wholeOnes 0 = .ok (.iconst 0, 1) := by decide +kernel
theorem dX11_wholeOnes_1 : decode cX11_wholeOnes 1 = .ok (.istore_n 1, 1) := by decide +kernel
theorem dX11_wholeOnes_2 : decode cX11_wholeOnes 2 = .ok (.iconst 0, 1) := by decide +kernel
theorem dX11_wholeOnes_3 : decode cX11_wholeOnes 3 = .ok (.istore_n 2, 1) := by decide +kernel
theorem dX11_wholeOnes_4 : decode cX11_wholeOnes 4 = .ok (.iload_n 2, 1) := by decide +kernel
theorem dX11_wholeOnes_5 : decode cX11_wholeOnes 5 = .ok (.iconst 4, 1) := by decide +kernel
theorem dX11_wholeOnes_6 : decode cX11_wholeOnes 6 = .ok (.if_icmp .ge 27, 3) := by decide +kernel
theorem dX11_wholeOnes_9 : decode cX11_wholeOnes 9 = .ok (.iload_n 1, 1) := by decide +kernel
theorem dX11_wholeOnes_10 : decode cX11_wholeOnes 10 = .ok (.aload_n 0, 1) := by decide +kernel
theorem dX11_wholeOnes_11 : decode cX11_wholeOnes 11 = .ok (.iload_n 2, 1) := by decide +kernel
theorem dX11_wholeOnes_12 : decode cX11_wholeOnes 12 = .ok (.invokevirtual 87, 3) := by decide +kernel
theorem dX11_wholeOnes_15 : decode cX11_wholeOnes 15 = .ok (.ifCond .eq 9, 3) := by decide +kernel
theorem dX11_wholeOnes_18 : decode cX11_wholeOnes 18 = .ok (.iconst 1, 1) := by decide +kernel
theorem dX11_wholeOnes_19 : decode cX11_wholeOnes 19 = .ok (.iload_n 2, 1) := by decide +kernel
theorem dX11_wholeOnes_20 : decode cX11_wholeOnes 20 = .ok (.ishl, 1) := by decide +kernel
theorem dX11_wholeOnes_21 : decode cX11_wholeOnes 21 = .ok (.goto 4, 3) := by decide +kernel
theorem dX11_wholeOnes_24 : decode cX11_wholeOnes 24 = .ok (.iconst 0, 1) := by decide +kernel
theorem dX11_wholeOnes_25 : decode cX11_wholeOnes 25 = .ok (.ior, 1) := by decide +kernel
theorem dX11_wholeOnes_26 : decode cX11_wholeOnes 26 = .ok (.istore_n 1, 1) := by decide +kernel
theorem dX11_wholeOnes_27 : decode cX11_wholeOnes 27 = .ok (.iinc 2 1, 3) := by decide +kernel
theorem dX11_wholeOnes_30 : decode cX11_wholeOnes 30 = .ok (.goto (-26), 3) := by decide +kernel
theorem dX11_wholeOnes_33 : decode cX11_wholeOnes 33 = .ok (.iload_n 1, 1) := by decide +kernel
theorem dX11_wholeOnes_34 : decode cX11_wholeOnes 34 = .ok (.ireturn, 1) := by decide +kernel
theorem dX11_count_0 : decode cX11_count 0 = .ok (.iload_n 1, 1) := by decide +kernel
theorem dX11_count_1 : decode cX11_count 1 = .ok (.tableswitch 83 0 8 #[51, 51, 51, 51, 58, 63, 68, 73, 78], 51) := by decide +kernel
theorem dX11_count_52 : decode cX11_count 52 = .ok (.aload_n 0, 1) := by decide +kernel
theorem dX11_count_53 : decode cX11_count 53 = .ok (.getfield 7, 3) := by decide +kernel
theorem dX11_count_56 : decode cX11_count 56 = .ok (.iload_n 1, 1) := by decide +kernel
theorem dX11_count_57 : decode cX11_count 57 = .ok (.iaload, 1) := by decide +kernel
theorem dX11_count_58 : decode cX11_count 58 = .ok (.ireturn, 1) := by decide +kernel
theorem dX11_count_59 : decode cX11_count 59 = .ok (.aload_n 0, 1) := by decide +kernel
theorem dX11_count_60 : decode cX11_count 60 = .ok (.getfield 100, 3) := by decide +kernel
theorem dX11_count_63 : decode cX11_count 63 = .ok (.ireturn, 1) := by decide +kernel
theorem dX11_count_64 : decode cX11_count 64 = .ok (.aload_n 0, 1) := by decide +kernel
theorem dX11_count_65 : decode cX11_count 65 = .ok (.getfield 16, 3) := by decide +kernel
theorem dX11_count_68 : decode cX11_count 68 = .ok (.ireturn, 1) := by decide +kernel
theorem dX11_count_69 : decode cX11_count 69 = .ok (.aload_n 0, 1) := by decide +kernel
theorem dX11_count_70 : decode cX11_count 70 = .ok (.getfield 20, 3) := by decide +kernel
theorem dX11_count_73 : decode cX11_count 73 = .ok (.ireturn, 1) := by decide +kernel
theorem dX11_count_74 : decode cX11_count 74 = .ok (.aload_n 0, 1) := by decide +kernel
theorem dX11_count_75 : decode cX11_count 75 = .ok (.invokevirtual 213, 3) := by decide +kernel
theorem dX11_count_78 : decode cX11_count 78 = .ok (.ireturn, 1) := by decide +kernel
theorem dX11_count_79 : decode cX11_count 79 = .ok (.aload_n 0, 1) := by decide +kernel
theorem dX11_count_80 : decode cX11_count 80 = .ok (.getfield 203, 3) := by decide +kernel
theorem dX11_count_83 : decode cX11_count 83 = .ok (.ireturn, 1) := by decide +kernel
theorem dX11_count_84 : decode cX11_count 84 = .ok (.bipush (-2), 2) := by decide +kernel
theorem dX11_count_86 : decode cX11_count 86 = .ok (.ireturn, 1) := by decide +kernel
theorem dX11_digest_0 : decode cX11_digest 0 = .ok (.ldc2_w 216, 3) := by decide +kernel
theorem dX11_digest_3 : decode cX11_digest 3 = .ok (.lstore_n 1, 1) := by decide +kernel
theorem dX11_digest_4 : decode cX11_digest 4 = .ok (.iconst 0, 1) := by decide +kernel
theorem dX11_digest_5 : decode cX11_digest 5 = .ok (.istore_n 3, 1) := by decide +kernel
theorem dX11_digest_6 : decode cX11_digest 6 = .ok (.iload_n 3, 1) := by decide +kernel
theorem dX11_digest_7 : decode cX11_digest 7 = .ok (.bipush 8, 2) := by decide +kernel
theorem dX11_digest_9 : decode cX11_digest 9 = .ok (.if_icmp .ge 22, 3) := by decide +kernel
theorem dX11_digest_12 : decode cX11_digest 12 = .ok (.ldc2_w 218, 3) := by decide +kernel
theorem dX11_digest_15 : decode cX11_digest 15 = .ok (.lload_n 1, 1) := by decide +kernel
theorem dX11_digest_16 : decode cX11_digest 16 = .ok (.lmul, 1) := by decide +kernel
theorem dX11_digest_17 : decode cX11_digest 17 = .ok (.aload_n 0, 1) := by decide +kernel
theorem dX11_digest_18 : decode cX11_digest 18 = .ok (.iload_n 3, 1) := by decide +kernel
theorem dX11_digest_19 : decode cX11_digest 19 = .ok (.invokevirtual 220, 3) := by decide +kernel
theorem dX11_digest_22 : decode cX11_digest 22 = .ok (.i2l, 1) := by decide +kernel
theorem dX11_digest_23 : decode cX11_digest 23 = .ok (.ladd, 1) := by decide +kernel
theorem dX11_digest_24 : decode cX11_digest 24 = .ok (.lstore_n 1, 1) := by decide +kernel
theorem dX11_digest_25 : decode cX11_digest 25 = .ok (.iinc 3 1, 3) := by decide +kernel
theorem dX11_digest_28 : decode cX11_digest 28 = .ok (.goto (-22), 3) := by decide +kernel
theorem dX11_digest_31 : decode cX11_digest 31 = .ok (.iconst 0, 1) := by decide +kernel
theorem dX11_digest_32 : decode cX11_digest 32 = .ok (.istore_n 3, 1) := by decide +kernel
theorem dX11_digest_33 : decode cX11_digest 33 = .ok (.iload_n 3, 1) := by decide +kernel
theorem dX11_digest_34 : decode cX11_digest 34 = .ok (.iconst 4, 1) := by decide +kernel
theorem dX11_digest_35 : decode cX11_digest 35 = .ok (.if_icmp .ge 80, 3) := by decide +kernel
theorem dX11_digest_38 : decode cX11_digest 38 = .ok (.iconst 0, 1) := by decide +kernel
theorem dX11_digest_39 : decode cX11_digest 39 = .ok (.istore 4, 2) := by decide +kernel
theorem dX11_digest_41 : decode cX11_digest 41 = .ok (.iload 4, 2) := by decide +kernel
theorem dX11_digest_43 : decode cX11_digest 43 = .ok (.aload_n 0, 1) := by decide +kernel
theorem dX11_digest_44 : decode cX11_digest 44 = .ok (.getfield 7, 3) := by decide +kernel
theorem dX11_digest_47 : decode cX11_digest 47 = .ok (.iload_n 3, 1) := by decide +kernel
theorem dX11_digest_48 : decode cX11_digest 48 = .ok (.iaload, 1) := by decide +kernel
theorem dX11_digest_49 : decode cX11_digest 49 = .ok (.if_icmp .ge 29, 3) := by decide +kernel
theorem dX11_digest_52 : decode cX11_digest 52 = .ok (.ldc2_w 218, 3) := by decide +kernel
theorem dX11_digest_55 : decode cX11_digest 55 = .ok (.lload_n 1, 1) := by decide +kernel
theorem dX11_digest_56 : decode cX11_digest 56 = .ok (.lmul, 1) := by decide +kernel
theorem dX11_digest_57 : decode cX11_digest 57 = .ok (.aload_n 0, 1) := by decide +kernel
theorem dX11_digest_58 : decode cX11_digest 58 = .ok (.getfield 13, 3) := by decide +kernel
theorem dX11_digest_61 : decode cX11_digest 61 = .ok (.bipush 15, 2) := by decide +kernel
theorem dX11_digest_63 : decode cX11_digest 63 = .ok (.iload_n 3, 1) := by decide +kernel
theorem dX11_digest_64 : decode cX11_digest 64 = .ok (.imul, 1) := by decide +kernel
theorem dX11_digest_65 : decode cX11_digest 65 = .ok (.iload 4, 2) := by decide +kernel
theorem dX11_digest_67 : decode cX11_digest 67 = .ok (.iadd, 1) := by decide +kernel
theorem dX11_digest_68 : decode cX11_digest 68 = .ok (.iaload, 1) := by decide +kernel
theorem dX11_digest_69 : decode cX11_digest 69 = .ok (.i2l, 1) := by decide +kernel
theorem dX11_digest_70 : decode cX11_digest 70 = .ok (.ladd, 1) := by decide +kernel
theorem dX11_digest_71 : decode cX11_digest 71 = .ok (.lstore_n 1, 1) := by decide +kernel
theorem dX11_digest_72 : decode cX11_digest 72 = .ok (.iinc 4 1, 3) := by decide +kernel
theorem dX11_digest_75 : decode cX11_digest 75 = .ok (.goto (-34), 3) := by decide +kernel
theorem dX11_digest_78 : decode cX11_digest 78 = .ok (.iconst 0, 1) := by decide +kernel
theorem dX11_digest_79 : decode cX11_digest 79 = .ok (.istore 4, 2) := by decide +kernel
theorem dX11_digest_81 : decode cX11_digest 81 = .ok (.iload 4, 2) := by decide +kernel
theorem dX11_digest_83 : decode cX11_digest 83 = .ok (.bipush 7, 2) := by decide +kernel
theorem dX11_digest_85 : decode cX11_digest 85 = .ok (.if_icmp .ge 24, 3) := by decide +kernel
theorem dX11_digest_88 : decode cX11_digest 88 = .ok (.ldc2_w 218, 3) := by decide +kernel
theorem dX11_digest_91 : decode cX11_digest 91 = .ok (.lload_n 1, 1) := by decide +kernel
theorem dX11_digest_92 : decode cX11_digest 92 = .ok (.lmul, 1) := by decide +kernel
theorem dX11_digest_93 : decode cX11_digest 93 = .ok (.aload_n 0, 1) := by decide +kernel
theorem dX11_digest_94 : decode cX11_digest 94 = .ok (.iload_n 3, 1) := by decide +kernel
theorem dX11_digest_95 : decode cX11_digest 95 = .ok (.iload 4, 2) := by decide +kernel
theorem dX11_digest_97 : decode cX11_digest 97 = .ok (.invokevirtual 97, 3) := by decide +kernel
theorem dX11_digest_100 : decode cX11_digest 100 = .ok (.i2l, 1) := by decide +kernel
theorem dX11_digest_101 : decode cX11_digest 101 = .ok (.ladd, 1) := by decide +kernel
theorem dX11_digest_102 : decode cX11_digest 102 = .ok (.lstore_n 1, 1) := by decide +kernel
theorem dX11_digest_103 : decode cX11_digest 103 = .ok (.iinc 4 1, 3) := by decide +kernel
theorem dX11_digest_106 : decode cX11_digest 106 = .ok (.goto (-25), 3) := by decide +kernel
theorem dX11_digest_109 : decode cX11_digest 109 = .ok (.iinc 3 1, 3) := by decide +kernel
theorem dX11_digest_112 : decode cX11_digest 112 = .ok (.goto (-79), 3) := by decide +kernel
theorem dX11_digest_115 : decode cX11_digest 115 = .ok (.ldc2_w 218, 3) := by decide +kernel
theorem dX11_digest_118 : decode cX11_digest 118 = .ok (.lload_n 1, 1) := by decide +kernel
theorem dX11_digest_119 : decode cX11_digest 119 = .ok (.lmul, 1) := by decide +kernel
theorem dX11_digest_120 : decode cX11_digest 120 = .ok (.aload_n 0, 1) := by decide +kernel
theorem dX11_digest_121 : decode cX11_digest 121 = .ok (.invokevirtual 127, 3) := by decide +kernel
theorem dX11_digest_124 : decode cX11_digest 124 = .ok (.i2l, 1) := by decide +kernel
theorem dX11_digest_125 : decode cX11_digest 125 = .ok (.ladd, 1) := by decide +kernel
theorem dX11_digest_126 : decode cX11_digest 126 = .ok (.lstore_n 1, 1) := by decide +kernel
theorem dX11_digest_127 : decode cX11_digest 127 = .ok (.ldc2_w 218, 3) := by decide +kernel
theorem dX11_digest_130 : decode cX11_digest 130 = .ok (.lload_n 1, 1) := by decide +kernel
theorem dX11_digest_131 : decode cX11_digest 131 = .ok (.lmul, 1) := by decide +kernel
theorem dX11_digest_132 : decode cX11_digest 132 = .ok (.aload_n 0, 1) := by decide +kernel
theorem dX11_digest_133 : decode cX11_digest 133 = .ok (.bipush 10, 2) := by decide +kernel
theorem dX11_digest_135 : decode cX11_digest 135 = .ok (.iconst (-1), 1) := by decide +kernel
theorem dX11_digest_136 : decode cX11_digest 136 = .ok (.invokevirtual 134, 3) := by decide +kernel
theorem dX11_digest_139 : decode cX11_digest 139 = .ok (.i2l, 1) := by decide +kernel
theorem dX11_digest_140 : decode cX11_digest 140 = .ok (.ladd, 1) := by decide +kernel
theorem dX11_digest_141 : decode cX11_digest 141 = .ok (.lstore_n 1, 1) := by decide +kernel
theorem dX11_digest_142 : decode cX11_digest 142 = .ok (.ldc2_w 218, 3) := by decide +kernel
theorem dX11_digest_145 : decode cX11_digest 145 = .ok (.lload_n 1, 1) := by decide +kernel
theorem dX11_digest_146 : decode cX11_digest 146 = .ok (.lmul, 1) := by decide +kernel
theorem dX11_digest_147 : decode cX11_digest 147 = .ok (.aload_n 0, 1) := by decide +kernel
theorem dX11_digest_148 : decode cX11_digest 148 = .ok (.iconst 0, 1) := by decide +kernel
theorem dX11_digest_149 : decode cX11_digest 149 = .ok (.invokevirtual 195, 3) := by decide +kernel
theorem dX11_digest_152 : decode cX11_digest 152 = .ok (.ladd, 1) := by decide +kernel
theorem dX11_digest_153 : decode cX11_digest 153 = .ok (.lstore_n 1, 1) := by decide +kernel
theorem dX11_digest_154 : decode cX11_digest 154 = .ok (.ldc2_w 218, 3) := by decide +kernel
theorem dX11_digest_157 : decode cX11_digest 157 = .ok (.lload_n 1, 1) := by decide +kernel
theorem dX11_digest_158 : decode cX11_digest 158 = .ok (.lmul, 1) := by decide +kernel
theorem dX11_digest_159 : decode cX11_digest 159 = .ok (.aload_n 0, 1) := by decide +kernel
theorem dX11_digest_160 : decode cX11_digest 160 = .ok (.iconst 1, 1) := by decide +kernel
theorem dX11_digest_161 : decode cX11_digest 161 = .ok (.invokevirtual 195, 3) := by decide +kernel
theorem dX11_digest_164 : decode cX11_digest 164 = .ok (.ladd, 1) := by decide +kernel
theorem dX11_digest_165 : decode cX11_digest 165 = .ok (.lstore_n 1, 1) := by decide +kernel
theorem dX11_digest_166 : decode cX11_digest 166 = .ok (.aload_n 0, 1) := by decide +kernel
theorem dX11_digest_167 : decode cX11_digest 167 = .ok (.iconst 0, 1) := by decide +kernel
theorem dX11_digest_168 : decode cX11_digest 168 = .ok (.invokevirtual 154, 3) := by decide +kernel
theorem dX11_digest_171 : decode cX11_digest 171 = .ok (.ldc2_w 218, 3) := by decide +kernel
theorem dX11_digest_174 : decode cX11_digest 174 = .ok (.lload_n 1, 1) := by decide +kernel
theorem dX11_digest_175 : decode cX11_digest 175 = .ok (.lmul, 1) := by decide +kernel
theorem dX11_digest_176 : decode cX11_digest 176 = .ok (.iconst 1, 1) := by decide +kernel
theorem dX11_digest_177 : decode cX11_digest 177 = .ok (.aload_n 0, 1) := by decide +kernel
theorem dX11_digest_178 : decode cX11_digest 178 = .ok (.getfield 151, 3) := by decide +kernel
theorem dX11_digest_181 : decode cX11_digest 181 = .ok (.ishl, 1) := by decide +kernel
theorem dX11_digest_182 : decode cX11_digest 182 = .ok (.i2l, 1) := by decide +kernel
theorem dX11_digest_183 : decode cX11_digest 183 = .ok (.ladd, 1) := by decide +kernel
theorem dX11_digest_184 : decode cX11_digest 184 = .ok (.lreturn, 1) := by decide +kernel
