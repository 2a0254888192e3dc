theorem dX11_init_0 : decode cX11_init 0 = .ok (.aload_n 0, 1) := by decide +kernel
theorem dX11_init_1 : decode cX11_init 1 = .ok (.invokespecial 1, 3) := by decide +kernel
theorem dX11_init_4 : decode cX11_init 4 = .ok (.aload_n 0, 1) := by decide +kernel
theorem dX11_init_5 : decode cX11_init 5 = .ok (.iconst 4, 1) := by decide +kernel
theorem dX11_init_6 : decode cX11_init 6 = .ok (.newarray .int, 2) := by decide +kernel
theorem dX11_init_8 : decode cX11_init 8 = .ok (.putfield 7, 3) := by decide +kernel
theorem dX11_init_11 : decode cX11_init 11 = .ok (.aload_n 0, 1) := by decide +kernel
theorem dX11_init_12 : decode cX11_init 12 = .ok (.bipush 60, 2) := by decide +kernel
theorem dX11_init_14 : decode cX11_init 14 = .ok (.newarray .int, 2) := by decide +kernel
theorem dX11_init_16 : decode cX11_init 16 = .ok (.putfield 13, 3) := by decide +kernel
theorem dX11_init_19 : decode cX11_init 19 = .ok (.aload_n 0, 1) := by decide +kernel
theorem dX11_init_20 : decode cX11_init 20 = .ok (.bipush 8, 2) := by decide +kernel
theorem dX11_init_22 : decode cX11_init 22 = .ok (.putfield 16, 3) := by decide +kernel
theorem dX11_init_25 : decode cX11_init 25 = .ok (.aload_n 0, 1) := by decide +kernel
theorem dX11_init_26 : decode cX11_init 26 = .ok (.iconst 3, 1) := by decide +kernel
theorem dX11_init_27 : decode cX11_init 27 = .ok (.putfield 20, 3) := by decide +kernel
theorem dX11_init_30 : decode cX11_init 30 = .ok (.aload_n 0, 1) := by decide +kernel
theorem dX11_init_31 : decode cX11_init 31 = .ok (.bipush 60, 2) := by decide +kernel
theorem dX11_init_33 : decode cX11_init 33 = .ok (.newarray .int, 2) := by decide +kernel
theorem dX11_init_35 : decode cX11_init 35 = .ok (.putfield 23, 3) := by decide +kernel
theorem dX11_init_38 : decode cX11_init 38 = .ok (.aload_n 0, 1) := by decide +kernel
theorem dX11_init_39 : decode cX11_init 39 = .ok (.bipush 20, 2) := by decide +kernel
theorem dX11_init_41 : decode cX11_init 41 = .ok (.newarray .int, 2) := by decide +kernel
theorem dX11_init_43 : decode cX11_init 43 = .ok (.putfield 26, 3) := by decide +kernel
theorem dX11_init_46 : decode cX11_init 46 = .ok (.aload_n 0, 1) := by decide +kernel
theorem dX11_init_47 : decode cX11_init 47 = .ok (.bipush 20, 2) := by decide +kernel
theorem dX11_init_49 : decode cX11_init 49 = .ok (.newarray .int, 2) := by decide +kernel
theorem dX11_init_51 : decode cX11_init 51 = .ok (.putfield 29, 3) := by decide +kernel
theorem dX11_init_54 : decode cX11_init 54 = .ok (.aload_n 0, 1) := by decide +kernel
theorem dX11_init_55 : decode cX11_init 55 = .ok (.bipush 20, 2) := by decide +kernel
theorem dX11_init_57 : decode cX11_init 57 = .ok (.newarray .int, 2) := by decide +kernel
theorem dX11_init_59 : decode cX11_init 59 = .ok (.putfield 32, 3) := by decide +kernel
theorem dX11_init_62 : decode cX11_init 62 = .ok (.aload_n 0, 1) := by decide +kernel
theorem dX11_init_63 : decode cX11_init 63 = .ok (.bipush 20, 2) := by decide +kernel
theorem dX11_init_65 : decode cX11_init 65 = .ok (.newarray .boolean, 2) := by decide +kernel
theorem dX11_init_67 : decode cX11_init 67 = .ok (.putfield 35, 3) := by decide +kernel
theorem dX11_init_70 : decode cX11_init 70 = .ok (.aload_n 0, 1) := by decide +kernel
theorem dX11_init_71 : decode cX11_init 71 = .ok (.bipush 15, 2) := by decide +kernel
theorem dX11_init_73 : decode cX11_init 73 = .ok (.newarray .int, 2) := by decide +kernel
theorem dX11_init_75 : decode cX11_init 75 = .ok (.putfield 39, 3) := by decide +kernel
theorem dX11_init_78 : decode cX11_init 78 = .ok (.aload_n 0, 1) := by decide +kernel
theorem dX11_init_79 : decode cX11_init 79 = .ok (.iconst 4, 1) := by decide +kernel
theorem dX11_init_80 : decode cX11_init 80 = .ok (.newarray .boolean, 2) := by decide +kernel
theorem dX11_init_82 : decode cX11_init 82 = .ok (.putfield 42, 3) := by decide +kernel
theorem dX11_init_85 : decode cX11_init 85 = .ok (.aload_n 0, 1) := by decide +kernel
theorem dX11_init_86 : decode cX11_init 86 = .ok (.iconst 4, 1) := by decide +kernel
theorem dX11_init_87 : decode cX11_init 87 = .ok (.newarray .int, 2) := by decide +kernel
theorem dX11_init_89 : decode cX11_init 89 = .ok (.putfield 45, 3) := by decide +kernel
theorem dX11_init_92 : decode cX11_init 92 = .ok (.aload_n 0, 1) := by decide +kernel
theorem dX11_init_93 : decode cX11_init 93 = .ok (.iconst 4, 1) := by decide +kernel
theorem dX11_init_94 : decode cX11_init 94 = .ok (.newarray .int, 2) := by decide +kernel
theorem dX11_init_96 : decode cX11_init 96 = .ok (.putfield 48, 3) := by decide +kernel
theorem dX11_init_99 : decode cX11_init 99 = .ok (.aload_n 0, 1) := by decide +kernel
theorem dX11_init_100 : decode cX11_init 100 = .ok (.sipush 160, 3) := by decide +kernel
theorem dX11_init_103 : decode cX11_init 103 = .ok (.newarray .int, 2) := by decide +kernel
theorem dX11_init_105 : decode cX11_init 105 = .ok (.putfield 51, 3) := by decide +kernel
theorem dX11_init_108 : decode cX11_init 108 = .ok (.aload_n 0, 1) := by decide +kernel
theorem dX11_init_109 : decode cX11_init 109 = .ok (.bipush 40, 2) := by decide +kernel
theorem dX11_init_111 : decode cX11_init 111 = .ok (.newarray .int, 2) := by decide +kernel
theorem dX11_init_113 : decode cX11_init 113 = .ok (.putfield 54, 3) := by decide +kernel
theorem dX11_init_116 : decode cX11_init 116 = .ok (.return_, 1) := by decide +kernel
theorem dX11_in_0 : decode cX11_in 0 = .ok (.iload_n 0, 1) := by decide +kernel
theorem dX11_in_1 : decode cX11_in 1 = .ok (.iload_n 1, 1) := by decide +kernel
theorem dX11_in_2 : decode cX11_in 2 = .ok (.if_icmp .lt 12, 3) := by decide +kernel
theorem dX11_in_5 : decode cX11_in 5 = .ok (.iload_n 0, 1) := by decide +kernel
theorem dX11_in_6 : decode cX11_in 6 = .ok (.iload_n 2, 1) := by decide +kernel
theorem dX11_in_7 : decode cX11_in 7 = .ok (.if_icmp .gt 7, 3) := by decide +kernel
theorem dX11_in_10 : decode cX11_in 10 = .ok (.iconst 1, 1) := by decide +kernel
theorem dX11_in_11 : decode cX11_in 11 = .ok (.goto 4, 3) := by decide +kernel
theorem dX11_in_14 : decode cX11_in 14 = .ok (.iconst 0, 1) := by decide +kernel
theorem dX11_in_15 : decode cX11_in 15 = .ok (.ireturn, 1) := by decide +kernel
theorem dX11_no_0 : decode cX11_no 0 = .ok (.ldc2_w 57, 3) := by decide +kernel
theorem dX11_no_3 : decode cX11_no 3 = .ok (.iload_n 0, 1) := by decide +kernel
theorem dX11_no_4 : decode cX11_no 4 = .ok (.i2l, 1) := by decide +kernel
theorem dX11_no_5 : decode cX11_no 5 = .ok (.lsub, 1) := by decide +kernel
theorem dX11_no_6 : decode cX11_no 6 = .ok (.lreturn, 1) := by decide +kernel
theorem dX11_lowest_0 : decode cX11_lowest 0 = .ok (.lload_n 0, 1) := by decide +kernel
theorem dX11_lowest_1 : decode cX11_lowest 1 = .ok (.lstore 5, 2) := by decide +kernel
theorem dX11_lowest_3 : decode cX11_lowest 3 = .ok (.lload_n 2, 1) := by decide +kernel
theorem dX11_lowest_4 : decode cX11_lowest 4 = .ok (.lstore 7, 2) := by decide +kernel
theorem dX11_lowest_6 : decode cX11_lowest 6 = .ok (.lload 7, 2) := by decide +kernel
theorem dX11_lowest_8 : decode cX11_lowest 8 = .ok (.lconst 0, 1) := by decide +kernel
theorem dX11_lowest_9 : decode cX11_lowest 9 = .ok (.lcmp, 1) := by decide +kernel
theorem dX11_lowest_10 : decode cX11_lowest 10 = .ok (.ifCond .eq 21, 3) := by decide +kernel
theorem dX11_lowest_13 : decode cX11_lowest 13 = .ok (.lload 5, 2) := by decide +kernel
theorem dX11_lowest_15 : decode cX11_lowest 15 = .ok (.lload 7, 2) := by decide +kernel
theorem dX11_lowest_17 : decode cX11_lowest 17 = .ok (.lrem, 1) := by decide +kernel
theorem dX11_lowest_18 : decode cX11_lowest 18 = .ok (.lstore 9, 2) := by decide +kernel
theorem dX11_lowest_20 : decode cX11_lowest 20 = .ok (.lload 7, 2) := by decide +kernel
theorem dX11_lowest_22 : decode cX11_lowest 22 = .ok (.lstore 5, 2) := by decide +kernel
theorem dX11_lowest_24 : decode cX11_lowest 24 = .ok (.lload 9, 2) := by decide +kernel
theorem dX11_lowest_26 : decode cX11_lowest 26 = .ok (.lstore 7, 2) := by decide +kernel
theorem dX11_lowest_28 : decode cX11_lowest 28 = .ok (.goto (-22), 3) := by decide +kernel
theorem dX11_lowest_31 : decode cX11_lowest 31 = .ok (.iload 4, 2) := by decide +kernel
theorem dX11_lowest_33 : decode cX11_lowest 33 = .ok (.ifCond .ne 10, 3) := by decide +kernel
theorem dX11_lowest_36 : decode cX11_lowest 36 = .ok (.lload_n 0, 1) := by decide +kernel
theorem dX11_lowest_37 : decode cX11_lowest 37 = .ok (.lload 5, 2) := by decide +kernel
theorem dX11_lowest_39 : decode cX11_lowest 39 = .ok (.ldiv, 1) := by decide +kernel
theorem dX11_lowest_40 : decode cX11_lowest 40 = .ok (.goto 7, 3) := by decide +kernel
theorem dX11_lowest_43 : decode cX11_lowest 43 = .ok (.lload_n 2, 1) := by decide +kernel
theorem dX11_lowest_44 : decode cX11_lowest 44 = .ok (.lload 5, 2) := by decide +kernel
theorem dX11_lowest_46 : decode cX11_lowest 46 = .ok (.ldiv, 1) := by decide +kernel
theorem dX11_lowest_47 : decode cX11_lowest 47 = .ok (.lreturn, 1) := by decide +kernel
theorem dX11_power_0 : decode cX11_power 0 = .ok (.lconst 1, 1) := by decide +kernel
theorem dX11_power_1 : decode cX11_power 1 = .ok (.lstore_n 3, 1) := by decide +kernel
theorem dX11_power_2 : decode cX11_power 2 = .ok (.iconst 0, 1) := by decide +kernel
theorem dX11_power_3 : decode cX11_power 3 = .ok (.istore 5, 2) := by decide +kernel
theorem dX11_power_5 : decode cX11_power 5 = .ok (.iload 5, 2) := by decide +kernel
theorem dX11_power_7 : decode cX11_power 7 = .ok (.iload_n 2, 1) := by decide +kernel
theorem dX11_power_8 : decode cX11_power 8 = .ok (.if_icmp .ge 13, 3) := by decide +kernel
theorem dX11_power_11 : decode cX11_power 11 = .ok (.lload_n 3, 1) := by decide +kernel
theorem dX11_power_12 : decode cX11_power 12 = .ok (.lload_n 0, 1) := by decide +kernel
theorem dX11_power_13 : decode cX11_power 13 = .ok (.lmul, 1) := by decide +kernel
theorem dX11_power_14 : decode cX11_power 14 = .ok (.lstore_n 3, 1) := by decide +kernel
theorem dX11_power_15 : decode cX11_power 15 = .ok (.iinc 5 1, 3) := by decide +kernel
theorem dX11_power_18 : decode cX11_power 18 = .ok (.goto (-13), 3) := by decide +kernel
theorem dX11_power_21 : decode cX11_power 21 = .ok (.lload_n 3, 1) := by decide +kernel
theorem dX11_power_22 : decode cX11_power 22 = .ok (.lreturn, 1) := by decide +kernel
theorem dX11_ones_0 : decode cX11_ones 0 = .ok (.iconst 0, 1) := by decide +kernel
theorem dX11_ones_1 : decode cX11_ones 1 = .ok (.istore_n 1, 1) := by decide +kernel
theorem dX11_ones_2 : decode cX11_ones 2 = .ok (.iconst 0, 1) := by decide +kernel
theorem dX11_ones_3 : decode cX11_ones 3 = .ok (.istore_n 2, 1) := by decide +kernel
theorem dX11_ones_4 : decode cX11_ones 4 = .ok (.iload_n 2, 1) := by decide +kernel
theorem dX11_ones_5 : decode cX11_ones 5 = .ok (.bipush 16, 2) := by decide +kernel
theorem dX11_ones_7 : decode cX11_ones 7 = .ok (.if_icmp .ge 17, 3) := by decide +kernel
theorem dX11_ones_10 : decode cX11_ones 10 = .ok (.iload_n 1, 1) := by decide +kernel
theorem dX11_ones_11 : decode cX11_ones 11 = .ok (.iload_n 0, 1) := by decide +kernel
theorem dX11_ones_12 : decode cX11_ones 12 = .ok (.iload_n 2, 1) := by decide +kernel
theorem dX11_ones_13 : decode cX11_ones 13 = .ok (.ishr, 1) := by decide +kernel
theorem dX11_ones_14 : decode cX11_ones 14 = .ok (.iconst 1, 1) := by decide +kernel
theorem dX11_ones_15 : decode cX11_ones 15 = .ok (.iand, 1) := by decide +kernel
theorem dX11_ones_16 : decode cX11_ones 16 = .ok (.iadd, 1) := by decide +kernel
theorem dX11_ones_17 : decode cX11_ones 17 = .ok (.istore_n 1, 1) := by decide +kernel
theorem dX11_ones_18 : decode cX11_ones 18 = .ok (.iinc 2 1, 3) := by decide +kernel
theorem dX11_ones_21 : decode cX11_ones 21 = .ok (.goto (-17), 3) := by decide +kernel
theorem dX11_ones_24 : decode cX11_ones 24 = .ok (.iload_n 1, 1) := by decide +kernel
theorem dX11_ones_25 : decode cX11_ones 25 = .ok (.ireturn, 1) := by decide +kernel
theorem dX11_isRow_0 : decode cX11_isRow 0 = .ok (.iload_n 0, 1) := by decide +kernel
theorem dX11_isRow_1 : decode cX11_isRow 1 = .ok (.iconst 0, 1) := by decide +kernel
theorem dX11_isRow_2 : decode cX11_isRow 2 = .ok (.iconst 3, 1) := by decide +kernel
theorem dX11_isRow_3 : decode cX11_isRow 3 = .ok (.invokestatic 59, 3) := by decide +kernel
theorem dX11_isRow_6 : decode cX11_isRow 6 = .ok (.ireturn, 1) := by decide +kernel
theorem dX11_puts_0 : decode cX11_puts 0 = .ok (.iload_n 1, 1) := by decide +kernel
theorem dX11_puts_1 : decode cX11_puts 1 = .ok (.invokestatic 63, 3) := by decide +kernel
theorem dX11_puts_4 : decode cX11_puts 4 = .ok (.ifCond .eq 12, 3) := by decide +kernel
theorem dX11_puts_7 : decode cX11_puts 7 = .ok (.iload_n 2, 1) := by decide +kernel
theorem dX11_puts_8 : decode cX11_puts 8 = .ok (.iconst (-1), 1) := by decide +kernel
theorem dX11_puts_9 : decode cX11_puts 9 = .ok (.iconst 1, 1) := by decide +kernel
theorem dX11_puts_10 : decode cX11_puts 10 = .ok (.invokestatic 59, 3) := by decide +kernel
theorem dX11_puts_13 : decode cX11_puts 13 = .ok (.ifCond .ne 6, 3) := by decide +kernel
theorem dX11_puts_16 : decode cX11_puts 16 = .ok (.bipush (-2), 2) := by decide +kernel
theorem dX11_puts_18 : decode cX11_puts 18 = .ok (.ireturn, 1) := by decide +kernel
theorem dX11_puts_19 : decode cX11_puts 19 = .ok (.aload_n 0, 1) := by decide +kernel
theorem dX11_puts_20 : decode cX11_puts 20 = .ok (.getfield 7, 3) := by decide +kernel
theorem dX11_puts_23 : decode cX11_puts 23 = .ok (.iload_n 1, 1) := by decide +kernel
theorem dX11_puts_24 : decode cX11_puts 24 = .ok (.iaload, 1) := by decide +kernel
theorem dX11_puts_25 : decode cX11_puts 25 = .ok (.bipush 15, 2) := by decide +kernel
theorem dX11_puts_27 : decode cX11_puts 27 = .ok (.if_icmp .ne 6, 3) := by decide +kernel
theorem dX11_puts_30 : decode cX11_puts 30 = .ok (.bipush (-4), 2) := by decide +kernel
theorem dX11_puts_32 : decode cX11_puts 32 = .ok (.ireturn, 1) := by decide +kernel
theorem dX11_puts_33 : decode cX11_puts 33 = .ok (.aload_n 0, 1) := by decide +kernel
theorem dX11_puts_34 : decode cX11_puts 34 = .ok (.getfield 13, 3) := by decide +kernel
theorem dX11_puts_37 : decode cX11_puts 37 = .ok (.bipush 15, 2) := by decide +kernel
theorem dX11_puts_39 : decode cX11_puts 39 = .ok (.iload_n 1, 1) := by decide +kernel
theorem dX11_puts_40 : decode cX11_puts 40 = .ok (.imul, 1) := by decide +kernel
theorem dX11_puts_41 : decode cX11_puts 41 = .ok (.aload_n 0, 1) := by decide +kernel
theorem dX11_puts_42 : decode cX11_puts 42 = .ok (.getfield 7, 3) := by decide +kernel
theorem dX11_puts_45 : decode cX11_puts 45 = .ok (.iload_n 1, 1) := by decide +kernel
theorem dX11_puts_46 : decode cX11_puts 46 = .ok (.iaload, 1) := by decide +kernel
theorem dX11_puts_47 : decode cX11_puts 47 = .ok (.iadd, 1) := by decide +kernel
theorem dX11_puts_48 : decode cX11_puts 48 = .ok (.iload_n 2, 1) := by decide +kernel
theorem dX11_puts_49 : decode cX11_puts 49 = .ok (.iastore, 1) := by decide +kernel
theorem dX11_puts_50 : decode cX11_puts 50 = .ok (.aload_n 0, 1) := by decide +kernel
theorem dX11_puts_51 : decode cX11_puts 51 = .ok (.getfield 7, 3) := by decide +kernel
theorem dX11_puts_54 : decode cX11_puts 54 = .ok (.iload_n 1, 1) := by decide +kernel
theorem dX11_puts_55 : decode cX11_puts 55 = .ok (.dup2, 1) := by decide +kernel
theorem dX11_puts_56 : decode cX11_puts 56 = .ok (.iaload, 1) := by decide +kernel
theorem dX11_puts_57 : decode cX11_puts 57 = .ok (.iconst 1, 1) := by decide +kernel
theorem dX11_puts_58 : decode cX11_puts 58 = .ok (.iadd, 1) := by decide +kernel
theorem dX11_puts_59 : decode cX11_puts 59 = .ok (.iastore, 1) := by decide +kernel
theorem dX11_puts_60 : decode cX11_puts 60 = .ok (.aload_n 0, 1) := by decide +kernel
theorem dX11_puts_61 : decode cX11_puts 61 = .ok (.getfield 7, 3) := by decide +kernel
theorem dX11_puts_64 : decode cX11_puts 64 = .ok (.iload_n 1, 1) := by decide +kernel
theorem dX11_puts_65 : decode cX11_puts 65 = .ok (.iaload, 1) := by decide +kernel
theorem dX11_puts_66 : decode cX11_puts 66 = .ok (.ireturn, 1) := by decide +kernel
theorem dX11_sign_0 : decode cX11_sign 0 = .ok (.aload_n 0, 1) := by decide +kernel
theorem dX11_sign_1 : decode cX11_sign 1 = .ok (.iload_n 1, 1) := by decide +kernel
theorem dX11_sign_2 : decode cX11_sign 2 = .ok (.iload_n 2, 1) := by decide +kernel
theorem dX11_sign_3 : decode cX11_sign 3 = .ok (.invokevirtual 67, 3) := by decide +kernel
theorem dX11_sign_6 : decode cX11_sign 6 = .ok (.ireturn, 1) := by decide +kernel
theorem dX11_read_0 : decode cX11_read 0 = .ok (.iload_n 1, 1) := by decide +kernel
theorem dX11_read_1 : decode cX11_read 1 = .ok (.invokestatic 71, 3) := by decide +kernel
theorem dX11_read_4 : decode cX11_read 4 = .ok (.ifCond .eq 10, 3) := by decide +kernel
theorem dX11_read_7 : decode cX11_read 7 = .ok (.iload_n 2, 1) := by decide +kernel
theorem dX11_read_8 : decode cX11_read 8 = .ok (.invokestatic 63, 3) := by decide +kernel
theorem dX11_read_11 : decode cX11_read 11 = .ok (.ifCond .ne 6, 3) := by decide +kernel
theorem dX11_read_14 : decode cX11_read 14 = .ok (.bipush (-2), 2) := by decide +kernel
theorem dX11_read_16 : decode cX11_read 16 = .ok (.ireturn, 1) := by decide +kernel
theorem dX11_read_17 : decode cX11_read 17 = .ok (.aload_n 0, 1) := by decide +kernel
theorem dX11_read_18 : decode cX11_read 18 = .ok (.getfield 42, 3) := by decide +kernel
theorem dX11_read_21 : decode cX11_read 21 = .ok (.iload_n 1, 1) := by decide +kernel
theorem dX11_read_22 : decode cX11_read 22 = .ok (.baload, 1) := by decide +kernel
theorem dX11_read_23 : decode cX11_read 23 = .ok (.ifCond .ne 9, 3) := by decide +kernel
theorem dX11_read_26 : decode cX11_read 26 = .ok (.aload_n 0, 1) := by decide +kernel
theorem dX11_read_27 : decode cX11_read 27 = .ok (.iconst 1, 1) := by decide +kernel
theorem dX11_read_28 : decode cX11_read 28 = .ok (.invokevirtual 74, 3) := by decide +kernel
theorem dX11_read_31 : decode cX11_read 31 = .ok (.ireturn, 1) := by decide +kernel
theorem dX11_read_32 : decode cX11_read 32 = .ok (.iconst 0, 1) := by decide +kernel
theorem dX11_read_33 : decode cX11_read 33 = .ok (.istore_n 3, 1) := by decide +kernel
theorem dX11_read_34 : decode cX11_read 34 = .ok (.iload_n 3, 1) := by decide +kernel
theorem dX11_read_35 : decode cX11_read 35 = .ok (.aload_n 0, 1) := by decide +kernel
theorem dX11_read_36 : decode cX11_read 36 = .ok (.getfield 48, 3) := by decide +kernel
theorem dX11_read_39 : decode cX11_read 39 = .ok (.iload_n 1, 1) := by decide +kernel
theorem dX11_read_40 : decode cX11_read 40 = .ok (.iaload, 1) := by decide +kernel
theorem dX11_read_41 : decode cX11_read 41 = .ok (.if_icmp .ge 28, 3) := by decide +kernel
theorem dX11_read_44 : decode cX11_read 44 = .ok (.aload_n 0, 1) := by decide +kernel
theorem dX11_read_45 : decode cX11_read 45 = .ok (.iload_n 2, 1) := by decide +kernel
theorem dX11_read_46 : decode cX11_read 46 = .ok (.aload_n 0, 1) := by decide +kernel
theorem dX11_read_47 : decode cX11_read 47 = .ok (.getfield 51, 3) := by decide +kernel
theorem dX11_read_50 : decode cX11_read 50 = .ok (.bipush 40, 2) := by decide +kernel
theorem dX11_read_52 : decode cX11_read 52 = .ok (.iload_n 1, 1) := by decide +kernel
theorem dX11_read_53 : decode cX11_read 53 = .ok (.imul, 1) := by decide +kernel
theorem dX11_read_54 : decode cX11_read 54 = .ok (.iload_n 3, 1) := by decide +kernel
theorem dX11_read_55 : decode cX11_read 55 = .ok (.iadd, 1) := by decide +kernel
theorem dX11_read_56 : decode cX11_read 56 = .ok (.iaload, 1) := by decide +kernel
theorem dX11_read_57 : decode cX11_read 57 = .ok (.invokevirtual 67, 3) := by decide +kernel
theorem dX11_read_60 : decode cX11_read 60 = .ok (.ifCond .le 9, 3) := by decide +kernel
theorem dX11_read_63 : decode cX11_read 63 = .ok (.iinc 3 1, 3) := by decide +kernel
theorem dX11_read_66 : decode cX11_read 66 = .ok (.goto (-32), 3) := by decide +kernel
theorem dX11_read_69 : decode cX11_read 69 = .ok (.iload_n 3, 1) := by decide +kernel
theorem dX11_read_70 : decode cX11_read 70 = .ok (.ireturn, 1) := by decide +kernel
theorem dX11_clear_0 : decode cX11_clear 0 = .ok (.iload_n 1, 1) := by decide +kernel
theorem dX11_clear_1 : decode cX11_clear 1 = .ok (.invokestatic 63, 3) := by decide +kernel
theorem dX11_clear_4 : decode cX11_clear 4 = .ok (.ifCond .ne 6, 3) := by decide +kernel
theorem dX11_clear_7 : decode cX11_clear 7 = .ok (.bipush (-2), 2) := by decide +kernel
theorem dX11_clear_9 : decode cX11_clear 9 = .ok (.ireturn, 1) := by decide +kernel
theorem dX11_clear_10 : decode cX11_clear 10 = .ok (.aload_n 0, 1) := by decide +kernel
theorem dX11_clear_11 : decode cX11_clear 11 = .ok (.getfield 7, 3) := by decide +kernel
theorem dX11_clear_14 : decode cX11_clear 14 = .ok (.iload_n 1, 1) := by decide +kernel
theorem dX11_clear_15 : decode cX11_clear 15 = .ok (.iaload, 1) := by decide +kernel
theorem dX11_clear_16 : decode cX11_clear 16 = .ok (.istore_n 2, 1) := by decide +kernel
theorem dX11_clear_17 : decode cX11_clear 17 = .ok (.aload_n 0, 1) := by decide +kernel
theorem dX11_clear_18 : decode cX11_clear 18 = .ok (.getfield 7, 3) := by decide +kernel
theorem dX11_clear_21 : decode cX11_clear 21 = .ok (.iload_n 1, 1) := by decide +kernel
theorem dX11_clear_22 : decode cX11_clear 22 = .ok (.iconst 0, 1) := by decide +kernel
theorem dX11_clear_23 : decode cX11_clear 23 = .ok (.iastore, 1) := by decide +kernel
theorem dX11_clear_24 : decode cX11_clear 24 = .ok (.iload_n 2, 1) := by decide +kernel
theorem dX11_clear_25 : decode cX11_clear 25 = .ok (.ireturn, 1) := by decide +kernel
theorem dX11_at_0 : decode cX11_at 0 = .ok (.iload_n 1, 1) := by decide +kernel
theorem dX11_at_1 : decode cX11_at 1 = .ok (.invokestatic 63, 3) := by decide +kernel
theorem dX11_at_4 : decode cX11_at 4 = .ok (.ifCond .eq 7, 3) := by decide +kernel
theorem dX11_at_7 : decode cX11_at 7 = .ok (.iload_n 2, 1) := by decide +kernel
theorem dX11_at_8 : decode cX11_at 8 = .ok (.ifCond .ge 6, 3) := by decide +kernel
theorem dX11_at_11 : decode cX11_at 11 = .ok (.bipush (-2), 2) := by decide +kernel
theorem dX11_at_13 : decode cX11_at 13 = .ok (.ireturn, 1) := by decide +kernel
theorem dX11_at_14 : decode cX11_at 14 = .ok (.iload_n 2, 1) := by decide +kernel
theorem dX11_at_15 : decode cX11_at 15 = .ok (.aload_n 0, 1) := by decide +kernel
theorem dX11_at_16 : decode cX11_at 16 = .ok (.getfield 7, 3) := by decide +kernel
theorem dX11_at_19 : decode cX11_at 19 = .ok (.iload_n 1, 1) := by decide +kernel
theorem dX11_at_20 : decode cX11_at 20 = .ok (.iaload, 1) := by decide +kernel
theorem dX11_at_21 : decode cX11_at 21 = .ok (.if_icmp .ge 17, 3) := by decide +kernel
theorem dX11_at_24 : decode cX11_at 24 = .ok (.aload_n 0, 1) := by decide +kernel
theorem dX11_at_25 : decode cX11_at 25 = .ok (.getfield 13, 3) := by decide +kernel
theorem dX11_at_28 : decode cX11_at 28 = .ok (.bipush 15, 2) := by decide +kernel
theorem dX11_at_30 : decode cX11_at 30 = .ok (.iload_n 1, 1) := by decide +kernel
theorem dX11_at_31 : decode cX11_at 31 = .ok (.imul, 1) := by decide +kernel
theorem dX11_at_32 : decode cX11_at 32 = .ok (.iload_n 2, 1) := by decide +kernel
theorem dX11_at_33 : decode cX11_at 33 = .ok (.iadd, 1) := by decide +kernel
theorem dX11_at_34 : decode cX11_at 34 = .ok (.iaload, 1) := by decide +kernel
theorem dX11_at_35 : decode cX11_at 35 = .ok (.goto 5, 3) := by decide +kernel
theorem dX11_at_38 : decode cX11_at 38 = .ok (.bipush (-3), 2) := by decide +kernel
theorem dX11_at_40 : decode cX11_at 40 = .ok (.ireturn, 1) := by decide +kernel
theorem dX11_set_0 : decode cX11_set 0 = .ok (.iload_n 1, 1) := by decide +kernel
theorem dX11_set_1 : decode cX11_set 1 = .ok (.iconst 0, 1) := by decide +kernel
theorem dX11_set_2 : decode cX11_set 2 = .ok (.iconst 1, 1) := by decide +kernel
theorem dX11_set_3 : decode cX11_set 3 = .ok (.invokestatic 59, 3) := by decide +kernel
theorem dX11_set_6 : decode cX11_set 6 = .ok (.ifCond .eq 30, 3) := by decide +kernel
theorem dX11_set_9 : decode cX11_set 9 = .ok (.iload_n 1, 1) := by decide +kernel
theorem dX11_set_10 : decode cX11_set 10 = .ok (.ifCond .ne 16, 3) := by decide +kernel
theorem dX11_set_13 : decode cX11_set 13 = .ok (.iload_n 2, 1) := by decide +kernel
theorem dX11_set_14 : decode cX11_set 14 = .ok (.iconst 1, 1) := by decide +kernel
theorem dX11_set_15 : decode cX11_set 15 = .ok (.bipush 15, 2) := by decide +kernel
theorem dX11_set_17 : decode cX11_set 17 = .ok (.invokestatic 59, 3) := by decide +kernel
theorem dX11_set_20 : decode cX11_set 20 = .ok (.ifCond .eq 16, 3) := by decide +kernel
theorem dX11_set_23 : decode cX11_set 23 = .ok (.goto 16, 3) := by decide +kernel
theorem dX11_set_26 : decode cX11_set 26 = .ok (.iload_n 2, 1) := by decide +kernel
theorem dX11_set_27 : decode cX11_set 27 = .ok (.iconst 2, 1) := by decide +kernel
theorem dX11_set_28 : decode cX11_set 28 = .ok (.bipush 127, 2) := by decide +kernel
theorem dX11_set_30 : decode cX11_set 30 = .ok (.invokestatic 59, 3) := by decide +kernel
theorem dX11_set_33 : decode cX11_set 33 = .ok (.ifCond .ne 6, 3) := by decide +kernel
theorem dX11_set_36 : decode cX11_set 36 = .ok (.bipush (-2), 2) := by decide +kernel
theorem dX11_set_38 : decode cX11_set 38 = .ok (.ireturn, 1) := by decide +kernel
theorem dX11_set_39 : decode cX11_set 39 = .ok (.iload_n 1, 1) := by decide +kernel
theorem dX11_set_40 : decode cX11_set 40 = .ok (.ifCond .ne 10, 3) := by decide +kernel
theorem dX11_set_43 : decode cX11_set 43 = .ok (.aload_n 0, 1) := by decide +kernel
theorem dX11_set_44 : decode cX11_set 44 = .ok (.getfield 16, 3) := by decide +kernel
theorem dX11_set_47 : decode cX11_set 47 = .ok (.goto 7, 3) := by decide +kernel
theorem dX11_set_50 : decode cX11_set 50 = .ok (.aload_n 0, 1) := by decide +kernel
theorem dX11_set_51 : decode cX11_set 51 = .ok (.getfield 20, 3) := by decide +kernel
theorem dX11_set_54 : decode cX11_set 54 = .ok (.istore_n 3, 1) := by decide +kernel
theorem dX11_set_55 : decode cX11_set 55 = .ok (.aload_n 0, 1) := by decide +kernel
theorem dX11_set_56 : decode cX11_set 56 = .ok (.iload_n 1, 1) := by decide +kernel
theorem dX11_set_57 : decode cX11_set 57 = .ok (.ifCond .ne 7, 3) := by decide +kernel
theorem dX11_set_60 : decode cX11_set 60 = .ok (.iload_n 2, 1) := by decide +kernel
theorem dX11_set_61 : decode cX11_set 61 = .ok (.goto 7, 3) := by decide +kernel
theorem dX11_set_64 : decode cX11_set 64 = .ok (.aload_n 0, 1) := by decide +kernel
theorem dX11_set_65 : decode cX11_set 65 = .ok (.getfield 16, 3) := by decide +kernel
theorem dX11_set_68 : decode cX11_set 68 = .ok (.putfield 16, 3) := by decide +kernel
theorem dX11_set_71 : decode cX11_set 71 = .ok (.aload_n 0, 1) := by decide +kernel
theorem dX11_set_72 : decode cX11_set 72 = .ok (.iload_n 1, 1) := by decide +kernel
theorem dX11_set_73 : decode cX11_set 73 = .ok (.iconst 1, 1) := by decide +kernel
theorem dX11_set_74 : decode cX11_set 74 = .ok (.if_icmp .ne 7, 3) := by decide +kernel
theorem dX11_set_77 : decode cX11_set 77 = .ok (.iload_n 2, 1) := by decide +kernel
theorem dX11_set_78 : decode cX11_set 78 = .ok (.goto 7, 3) := by decide +kernel
theorem dX11_set_81 : decode cX11_set 81 = .ok (.aload_n 0, 1) := by decide +kernel
theorem dX11_set_82 : decode cX11_set 82 = .ok (.getfield 20, 3) := by decide +kernel
theorem dX11_set_85 : decode cX11_set 85 = .ok (.putfield 20, 3) := by decide +kernel
theorem dX11_set_88 : decode cX11_set 88 = .ok (.iload_n 3, 1) := by decide +kernel
theorem dX11_set_89 : decode cX11_set 89 = .ok (.ireturn, 1) := by decide +kernel
theorem dX11_isWhole_0 : decode cX11_isWhole 0 = .ok (.iconst 0, 1) := by decide +kernel
theorem dX11_isWhole_1 : decode cX11_isWhole 1 = .ok (.istore_n 2, 1) := by decide +kernel
theorem dX11_isWhole_2 : decode cX11_isWhole 2 = .ok (.iload_n 2, 1) := by decide +kernel
theorem dX11_isWhole_3 : decode cX11_isWhole 3 = .ok (.aload_n 0, 1) := by decide +kernel
theorem dX11_isWhole_4 : decode cX11_isWhole 4 = .ok (.getfield 7, 3) := by decide +kernel
theorem dX11_isWhole_7 : decode cX11_isWhole 7 = .ok (.iload_n 1, 1) := by decide +kernel
theorem dX11_isWhole_8 : decode cX11_isWhole 8 = .ok (.iaload, 1) := by decide +kernel
theorem dX11_isWhole_9 : decode cX11_isWhole 9 = .ok (.if_icmp .ge 26, 3) := by decide +kernel
theorem dX11_isWhole_12 : decode cX11_isWhole 12 = .ok (.aload_n 0, 1) := by decide +kernel
theorem dX11_isWhole_13 : decode cX11_isWhole 13 = .ok (.getfield 13, 3) := by decide +kernel
theorem dX11_isWhole_16 : decode cX11_isWhole 16 = .ok (.bipush 15, 2) := by decide +kernel
theorem dX11_isWhole_18 : decode cX11_isWhole 18 = .ok (.iload_n 1, 1) := by decide +kernel
theorem dX11_isWhole_19 : decode cX11_isWhole 19 = .ok (.imul, 1) := by decide +kernel
theorem dX11_isWhole_20 : decode cX11_isWhole 20 = .ok (.iload_n 2, 1) := by decide +kernel
theorem dX11_isWhole_21 : decode cX11_isWhole 21 = .ok (.iadd, 1) := by decide +kernel
theorem dX11_isWhole_22 : decode cX11_isWhole 22 = .ok (.iaload, 1) := by decide +kernel
theorem dX11_isWhole_23 : decode cX11_isWhole 23 = .ok (.iconst (-1), 1) := by decide +kernel
theorem dX11_isWhole_24 : decode cX11_isWhole 24 = .ok (.if_icmp .ne 5, 3) := by decide +kernel
theorem dX11_isWhole_27 : decode cX11_isWhole 27 = .ok (.iconst 0, 1) := by decide +kernel
theorem dX11_isWhole_28 : decode cX11_isWhole 28 = .ok (.ireturn, 1) := by decide +kernel
theorem dX11_isWhole_29 : decode cX11_isWhole 29 = .ok (.iinc 2 1, 3) := by decide +kernel
theorem dX11_isWhole_32 : decode cX11_isWhole 32 = .ok (.goto (-30), 3) := by decide +kernel
theorem dX11_isWhole_35 : decode cX11_isWhole 35 = .ok (.iconst 1, 1) := by decide +kernel
theorem dX11_isWhole_36 : decode cX11_isWhole 36 = .ok (.ireturn, 1) := by decide +kernel
theorem dX11_bitsOf_0 : decode cX11_bitsOf 0 = .ok (.iconst 0, 1) := by decide +kernel
theorem dX11_bitsOf_1 : decode cX11_bitsOf 1 = .ok (.istore_n 2, 1) := by decide +kernel
theorem dX11_bitsOf_2 : decode cX11_bitsOf 2 = .ok (.iconst 0, 1) := by decide +kernel
theorem dX11_bitsOf_3 : decode cX11_bitsOf 3 = .ok (.istore_n 3, 1) := by decide +kernel
theorem dX11_bitsOf_4 : decode cX11_bitsOf 4 = .ok (.iload_n 3, 1) := by decide +kernel
theorem dX11_bitsOf_5 : decode cX11_bitsOf 5 = .ok (.aload_n 0, 1) := by decide +kernel
theorem dX11_bitsOf_6 : decode cX11_bitsOf 6 = .ok (.getfield 7, 3) := by decide +kernel
theorem dX11_bitsOf_9 : decode cX11_bitsOf 9 = .ok (.iload_n 1, 1) := by decide +kernel
theorem dX11_bitsOf_10 : decode cX11_bitsOf 10 = .ok (.iaload, 1) := by decide +kernel
theorem dX11_bitsOf_11 : decode cX11_bitsOf 11 = .ok (.if_icmp .ge 34, 3) := by decide +kernel
theorem dX11_bitsOf_14 : decode cX11_bitsOf 14 = .ok (.iconst 2, 1) := by decide +kernel
theorem dX11_bitsOf_15 : decode cX11_bitsOf 15 = .ok (.iload_n 2, 1) := by decide +kernel
theorem dX11_bitsOf_16 : decode cX11_bitsOf 16 = .ok (.imul, 1) := by decide +kernel
theorem dX11_bitsOf_17 : decode cX11_bitsOf 17 = .ok (.aload_n 0, 1) := by decide +kernel
theorem dX11_bitsOf_18 : decode cX11_bitsOf 18 = .ok (.getfield 13, 3) := by decide +kernel
theorem dX11_bitsOf_21 : decode cX11_bitsOf 21 = .ok (.bipush 15, 2) := by decide +kernel
theorem dX11_bitsOf_23 : decode cX11_bitsOf 23 = .ok (.iload_n 1, 1) := by decide +kernel
theorem dX11_bitsOf_24 : decode cX11_bitsOf 24 = .ok (.imul, 1) := by decide +kernel
theorem dX11_bitsOf_25 : decode cX11_bitsOf 25 = .ok (.iload_n 3, 1) := by decide +kernel
theorem dX11_bitsOf_26 : decode cX11_bitsOf 26 = .ok (.iadd, 1) := by decide +kernel
theorem dX11_bitsOf_27 : decode cX11_bitsOf 27 = .ok (.iaload, 1) := by decide +kernel
theorem dX11_bitsOf_28 : decode cX11_bitsOf 28 = .ok (.iconst 1, 1) := by decide +kernel
theorem dX11_bitsOf_29 : decode cX11_bitsOf 29 = .ok (.if_icmp .ne 7, 3) := by decide +kernel
theorem dX11_bitsOf_32 : decode cX11_bitsOf 32 = .ok (.iconst 1, 1) := by decide +kernel
theorem dX11_bitsOf_33 : decode cX11_bitsOf 33 = .ok (.goto 4, 3) := by decide +kernel
theorem dX11_bitsOf_36 : decode cX11_bitsOf 36 = .ok (.iconst 0, 1) := by decide +kernel
theorem dX11_bitsOf_37 : decode cX11_bitsOf 37 = .ok (.iadd, 1) := by decide +kernel
theorem dX11_bitsOf_38 : decode cX11_bitsOf 38 = .ok (.istore_n 2, 1) := by decide +kernel
theorem dX11_bitsOf_39 : decode cX11_bitsOf 39 = .ok (.iinc 3 1, 3) := by decide +kernel
theorem dX11_bitsOf_42 : decode cX11_bitsOf 42 = .ok (.goto (-38), 3) := by decide +kernel
theorem dX11_bitsOf_45 : decode cX11_bitsOf 45 = .ok (.iload_n 2, 1) := by decide +kernel
theorem dX11_bitsOf_46 : decode cX11_bitsOf 46 = .ok (.ireturn, 1) := by decide +kernel
theorem dX11_lengthOf_0 : decode cX11_lengthOf 0 = .ok (.iconst 0, 1) := by decide +kernel
theorem dX11_lengthOf_1 : decode cX11_lengthOf 1 = .ok (.istore_n 1, 1) := by decide +kernel
theorem dX11_lengthOf_2 : decode cX11_lengthOf 2 = .ok (.iload_n 0, 1) := by decide +kernel
theorem dX11_lengthOf_3 : decode cX11_lengthOf 3 = .ok (.iload_n 1, 1) := by decide +kernel
theorem dX11_lengthOf_4 : decode cX11_lengthOf 4 = .ok (.ishr, 1) := by decide +kernel
theorem dX11_lengthOf_5 : decode cX11_lengthOf 5 = .ok (.iconst 1, 1) := by decide +kernel
theorem dX11_lengthOf_6 : decode cX11_lengthOf 6 = .ok (.if_icmp .le 9, 3) := by decide +kernel
theorem dX11_lengthOf_9 : decode cX11_lengthOf 9 = .ok (.iinc 1 1, 3) := by decide +kernel
theorem dX11_lengthOf_12 : decode cX11_lengthOf 12 = .ok (.goto (-10), 3) := by decide +kernel
theorem dX11_lengthOf_15 : decode cX11_lengthOf 15 = .ok (.iload_n 1, 1) := by decide +kernel
theorem dX11_lengthOf_16 : decode cX11_lengthOf 16 = .ok (.ireturn, 1) := by decide +kernel
theorem dX11_standing_0 : decode cX11_standing 0 = .ok (.aload_n 0, 1) := by decide +kernel
theorem dX11_standing_1 : decode cX11_standing 1 = .ok (.getfield 20, 3) := by decide +kernel
theorem dX11_standing_4 : decode cX11_standing 4 = .ok (.invokestatic 78, 3) := by decide +kernel
theorem dX11_standing_7 : decode cX11_standing 7 = .ok (.istore_n 3, 1) := by decide +kernel
theorem dX11_standing_8 : decode cX11_standing 8 = .ok (.aload_n 0, 1) := by decide +kernel
theorem dX11_standing_9 : decode cX11_standing 9 = .ok (.getfield 20, 3) := by decide +kernel
theorem dX11_standing_12 : decode cX11_standing 12 = .ok (.iconst 1, 1) := by decide +kernel
theorem dX11_standing_13 : decode cX11_standing 13 = .ok (.iload_n 3, 1) := by decide +kernel
theorem dX11_standing_14 : decode cX11_standing 14 = .ok (.ishl, 1) := by decide +kernel
theorem dX11_standing_15 : decode cX11_standing 15 = .ok (.isub, 1) := by decide +kernel
theorem dX11_standing_16 : decode cX11_standing 16 = .ok (.istore 4, 2) := by decide +kernel
theorem dX11_standing_18 : decode cX11_standing 18 = .ok (.iconst 0, 1) := by decide +kernel
theorem dX11_standing_19 : decode cX11_standing 19 = .ok (.istore 5, 2) := by decide +kernel
theorem dX11_standing_21 : decode cX11_standing 21 = .ok (.iconst 0, 1) := by decide +kernel
theorem dX11_standing_22 : decode cX11_standing 22 = .ok (.istore 6, 2) := by decide +kernel
theorem dX11_standing_24 : decode cX11_standing 24 = .ok (.iload 6, 2) := by decide +kernel
theorem dX11_standing_26 : decode cX11_standing 26 = .ok (.iload_n 3, 1) := by decide +kernel
theorem dX11_standing_27 : decode cX11_standing 27 = .ok (.iadd, 1) := by decide +kernel
theorem dX11_standing_28 : decode cX11_standing 28 = .ok (.iload_n 2, 1) := by decide +kernel
theorem dX11_standing_29 : decode cX11_standing 29 = .ok (.if_icmp .gt 38, 3) := by decide +kernel
theorem dX11_standing_32 : decode cX11_standing 32 = .ok (.iload 5, 2) := by decide +kernel
theorem dX11_standing_34 : decode cX11_standing 34 = .ok (.iload_n 1, 1) := by decide +kernel
theorem dX11_standing_35 : decode cX11_standing 35 = .ok (.iload_n 2, 1) := by decide +kernel
theorem dX11_standing_36 : decode cX11_standing 36 = .ok (.iload_n 3, 1) := by decide +kernel
theorem dX11_standing_37 : decode cX11_standing 37 = .ok (.isub, 1) := by decide +kernel
theorem dX11_standing_38 : decode cX11_standing 38 = .ok (.iload 6, 2) := by decide +kernel
theorem dX11_standing_40 : decode cX11_standing 40 = .ok (.isub, 1) := by decide +kernel
theorem dX11_standing_41 : decode cX11_standing 41 = .ok (.ishr, 1) := by decide +kernel
theorem dX11_standing_42 : decode cX11_standing 42 = .ok (.iconst 1, 1) := by decide +kernel
theorem dX11_standing_43 : decode cX11_standing 43 = .ok (.iload_n 3, 1) := by decide +kernel
theorem dX11_standing_44 : decode cX11_standing 44 = .ok (.ishl, 1) := by decide +kernel
theorem dX11_standing_45 : decode cX11_standing 45 = .ok (.iconst 1, 1) := by decide +kernel
theorem dX11_standing_46 : decode cX11_standing 46 = .ok (.isub, 1) := by decide +kernel
theorem dX11_standing_47 : decode cX11_standing 47 = .ok (.iand, 1) := by decide +kernel
theorem dX11_standing_48 : decode cX11_standing 48 = .ok (.iload 4, 2) := by decide +kernel
theorem dX11_standing_50 : decode cX11_standing 50 = .ok (.if_icmp .ne 7, 3) := by decide +kernel
theorem dX11_standing_53 : decode cX11_standing 53 = .ok (.iconst 1, 1) := by decide +kernel
theorem dX11_standing_54 : decode cX11_standing 54 = .ok (.goto 4, 3) := by decide +kernel
theorem dX11_standing_57 : decode cX11_standing 57 = .ok (.iconst 0, 1) := by decide +kernel
theorem dX11_standing_58 : decode cX11_standing 58 = .ok (.iadd, 1) := by decide +kernel
theorem dX11_standing_59 : decode cX11_standing 59 = .ok (.istore 5, 2) := by decide +kernel
theorem dX11_standing_61 : decode cX11_standing 61 = .ok (.iinc 6 1, 3) := by decide +kernel
theorem dX11_standing_64 : decode cX11_standing 64 = .ok (.goto (-40), 3) := by decide +kernel
theorem dX11_standing_67 : decode cX11_standing 67 = .ok (.iload 5, 2) := by decide +kernel
theorem dX11_standing_69 : decode cX11_standing 69 = .ok (.ireturn, 1) := by decide +kernel
theorem dX11_numberOf_0 : decode cX11_numberOf 0 = .ok (.iload_n 3, 1) := by decide +kernel
theorem dX11_numberOf_1 : decode cX11_numberOf 1 = .ok (.ifCond .ne 8, 3) := by decide +kernel
theorem dX11_numberOf_4 : decode cX11_numberOf 4 = .ok (.iload_n 1, 1) := by decide +kernel
theorem dX11_numberOf_5 : decode cX11_numberOf 5 = .ok (.invokestatic 81, 3) := by decide +kernel
theorem dX11_numberOf_8 : decode cX11_numberOf 8 = .ok (.ireturn, 1) := by decide +kernel
theorem dX11_numberOf_9 : decode cX11_numberOf 9 = .ok (.iload_n 3, 1) := by decide +kernel
theorem dX11_numberOf_10 : decode cX11_numberOf 10 = .ok (.bipush 6, 2) := by decide +kernel
theorem dX11_numberOf_12 : decode cX11_numberOf 12 = .ok (.if_icmp .ne 10, 3) := by decide +kernel
theorem dX11_numberOf_15 : decode cX11_numberOf 15 = .ok (.aload_n 0, 1) := by decide +kernel
theorem dX11_numberOf_16 : decode cX11_numberOf 16 = .ok (.iload_n 1, 1) := by decide +kernel
theorem dX11_numberOf_17 : decode cX11_numberOf 17 = .ok (.iload_n 2, 1) := by decide +kernel
theorem dX11_numberOf_18 : decode cX11_numberOf 18 = .ok (.invokevirtual 84, 3) := by decide +kernel
theorem dX11_numberOf_21 : decode cX11_numberOf 21 = .ok (.ireturn, 1) := by decide +kernel
theorem dX11_numberOf_22 : decode cX11_numberOf 22 = .ok (.iconst 0, 1) := by decide +kernel
theorem dX11_numberOf_23 : decode cX11_numberOf 23 = .ok (.istore 4, 2) := by decide +kernel
theorem dX11_numberOf_25 : decode cX11_numberOf 25 = .ok (.iconst 0, 1) := by decide +kernel
theorem dX11_numberOf_26 : decode cX11_numberOf 26 = .ok (.istore 5, 2) := by decide +kernel
theorem dX11_numberOf_28 : decode cX11_numberOf 28 = .ok (.iconst 0, 1) := by decide +kernel
theorem dX11_numberOf_29 : decode cX11_numberOf 29 = .ok (.istore 6, 2) := by decide +kernel
theorem dX11_numberOf_31 : decode cX11_numberOf 31 = .ok (.iconst 0, 1) := by decide +kernel
theorem dX11_numberOf_32 : decode cX11_numberOf 32 = .ok (.istore 7, 2) := by decide +kernel
theorem dX11_numberOf_34 : decode cX11_numberOf 34 = .ok (.bipush 15, 2) := by decide +kernel
theorem dX11_numberOf_36 : decode cX11_numberOf 36 = .ok (.istore 8, 2) := by decide +kernel
theorem dX11_numberOf_38 : decode cX11_numberOf 38 = .ok (.iconst 0, 1) := by decide +kernel
theorem dX11_numberOf_39 : decode cX11_numberOf 39 = .ok (.istore 9, 2) := by decide +kernel
theorem dX11_numberOf_41 : decode cX11_numberOf 41 = .ok (.iconst 0, 1) := by decide +kernel
theorem dX11_numberOf_42 : decode cX11_numberOf 42 = .ok (.istore 10, 2) := by decide +kernel
theorem dX11_numberOf_44 : decode cX11_numberOf 44 = .ok (.iload 10, 2) := by decide +kernel
theorem dX11_numberOf_46 : decode cX11_numberOf 46 = .ok (.iload_n 2, 1) := by decide +kernel
theorem dX11_numberOf_47 : decode cX11_numberOf 47 = .ok (.if_icmp .ge 157, 3) := by decide +kernel
theorem dX11_numberOf_50 : decode cX11_numberOf 50 = .ok (.iload_n 1, 1) := by decide +kernel
theorem dX11_numberOf_51 : decode cX11_numberOf 51 = .ok (.iload_n 2, 1) := by decide +kernel
theorem dX11_numberOf_52 : decode cX11_numberOf 52 = .ok (.iconst 1, 1) := by decide +kernel
theorem dX11_numberOf_53 : decode cX11_numberOf 53 = .ok (.isub, 1) := by decide +kernel
theorem dX11_numberOf_54 : decode cX11_numberOf 54 = .ok (.iload 10, 2) := by decide +kernel
theorem dX11_numberOf_56 : decode cX11_numberOf 56 = .ok (.isub, 1) := by decide +kernel
theorem dX11_numberOf_57 : decode cX11_numberOf 57 = .ok (.ishr, 1) := by decide +kernel
theorem dX11_numberOf_58 : decode cX11_numberOf 58 = .ok (.iconst 1, 1) := by decide +kernel
theorem dX11_numberOf_59 : decode cX11_numberOf 59 = .ok (.iand, 1) := by decide +kernel
theorem dX11_numberOf_60 : decode cX11_numberOf 60 = .ok (.istore 11, 2) := by decide +kernel
theorem dX11_numberOf_62 : decode cX11_numberOf 62 = .ok (.iload 10, 2) := by decide +kernel
theorem dX11_numberOf_64 : decode cX11_numberOf 64 = .ok (.ifCond .le 20, 3) := by decide +kernel
theorem dX11_numberOf_67 : decode cX11_numberOf 67 = .ok (.iload_n 1, 1) := by decide +kernel
theorem dX11_numberOf_68 : decode cX11_numberOf 68 = .ok (.iload_n 2, 1) := by decide +kernel
theorem dX11_numberOf_69 : decode cX11_numberOf 69 = .ok (.iload 10, 2) := by decide +kernel
theorem dX11_numberOf_71 : decode cX11_numberOf 71 = .ok (.isub, 1) := by decide +kernel
theorem dX11_numberOf_72 : decode cX11_numberOf 72 = .ok (.ishr, 1) := by decide +kernel
theorem dX11_numberOf_73 : decode cX11_numberOf 73 = .ok (.iconst 1, 1) := by decide +kernel
theorem dX11_numberOf_74 : decode cX11_numberOf 74 = .ok (.iand, 1) := by decide +kernel
theorem dX11_numberOf_75 : decode cX11_numberOf 75 = .ok (.iload 11, 2) := by decide +kernel
theorem dX11_numberOf_77 : decode cX11_numberOf 77 = .ok (.if_icmp .ne 7, 3) := by decide +kernel
theorem dX11_numberOf_80 : decode cX11_numberOf 80 = .ok (.iconst 1, 1) := by decide +kernel
theorem dX11_numberOf_81 : decode cX11_numberOf 81 = .ok (.goto 4, 3) := by decide +kernel
theorem dX11_numberOf_84 : decode cX11_numberOf 84 = .ok (.iconst 0, 1) := by decide +kernel
theorem dX11_numberOf_85 : decode cX11_numberOf 85 = .ok (.istore 12, 2) := by decide +kernel
theorem dX11_numberOf_87 : decode cX11_numberOf 87 = .ok (.iload 4, 2) := by decide +kernel
theorem dX11_numberOf_89 : decode cX11_numberOf 89 = .ok (.iload 12, 2) := by decide +kernel
theorem dX11_numberOf_91 : decode cX11_numberOf 91 = .ok (.ifCond .eq 7, 3) := by decide +kernel
theorem dX11_numberOf_94 : decode cX11_numberOf 94 = .ok (.iconst 0, 1) := by decide +kernel
theorem dX11_numberOf_95 : decode cX11_numberOf 95 = .ok (.goto 4, 3) := by decide +kernel
theorem dX11_numberOf_98 : decode cX11_numberOf 98 = .ok (.iconst 1, 1) := by decide +kernel
theorem dX11_numberOf_99 : decode cX11_numberOf 99 = .ok (.iadd, 1) := by decide +kernel
theorem dX11_numberOf_100 : decode cX11_numberOf 100 = .ok (.istore 4, 2) := by decide +kernel
theorem dX11_numberOf_102 : decode cX11_numberOf 102 = .ok (.iload 12, 2) := by decide +kernel
theorem dX11_numberOf_104 : decode cX11_numberOf 104 = .ok (.ifCond .eq 10, 3) := by decide +kernel
theorem dX11_numberOf_107 : decode cX11_numberOf 107 = .ok (.iload 9, 2) := by decide +kernel
theorem dX11_numberOf_109 : decode cX11_numberOf 109 = .ok (.iconst 1, 1) := by decide +kernel
theorem dX11_numberOf_110 : decode cX11_numberOf 110 = .ok (.iadd, 1) := by decide +kernel
theorem dX11_numberOf_111 : decode cX11_numberOf 111 = .ok (.goto 4, 3) := by decide +kernel
theorem dX11_numberOf_114 : decode cX11_numberOf 114 = .ok (.iconst 1, 1) := by decide +kernel
theorem dX11_numberOf_115 : decode cX11_numberOf 115 = .ok (.istore 9, 2) := by decide +kernel
theorem dX11_numberOf_117 : decode cX11_numberOf 117 = .ok (.iload 9, 2) := by decide +kernel
theorem dX11_numberOf_119 : decode cX11_numberOf 119 = .ok (.iload 5, 2) := by decide +kernel
theorem dX11_numberOf_121 : decode cX11_numberOf 121 = .ok (.if_icmp .le 8, 3) := by decide +kernel
theorem dX11_numberOf_124 : decode cX11_numberOf 124 = .ok (.iload 9, 2) := by decide +kernel
theorem dX11_numberOf_126 : decode cX11_numberOf 126 = .ok (.goto 5, 3) := by decide +kernel
theorem dX11_numberOf_129 : decode cX11_numberOf 129 = .ok (.iload 5, 2) := by decide +kernel
theorem dX11_numberOf_131 : decode cX11_numberOf 131 = .ok (.istore 5, 2) := by decide +kernel
theorem dX11_numberOf_133 : decode cX11_numberOf 133 = .ok (.iload 11, 2) := by decide +kernel
theorem dX11_numberOf_135 : decode cX11_numberOf 135 = .ok (.iconst 1, 1) := by decide +kernel
theorem dX11_numberOf_136 : decode cX11_numberOf 136 = .ok (.if_icmp .ne 15, 3) := by decide +kernel
theorem dX11_numberOf_139 : decode cX11_numberOf 139 = .ok (.iload 9, 2) := by decide +kernel
theorem dX11_numberOf_141 : decode cX11_numberOf 141 = .ok (.iload 6, 2) := by decide +kernel
theorem dX11_numberOf_143 : decode cX11_numberOf 143 = .ok (.if_icmp .le 8, 3) := by decide +kernel
theorem dX11_numberOf_146 : decode cX11_numberOf 146 = .ok (.iload 9, 2) := by decide +kernel
theorem dX11_numberOf_148 : decode cX11_numberOf 148 = .ok (.goto 5, 3) := by decide +kernel
theorem dX11_numberOf_151 : decode cX11_numberOf 151 = .ok (.iload 6, 2) := by decide +kernel
theorem dX11_numberOf_153 : decode cX11_numberOf 153 = .ok (.istore 6, 2) := by decide +kernel
theorem dX11_numberOf_155 : decode cX11_numberOf 155 = .ok (.iload 7, 2) := by decide +kernel
theorem dX11_numberOf_157 : decode cX11_numberOf 157 = .ok (.iload 12, 2) := by decide +kernel
theorem dX11_numberOf_159 : decode cX11_numberOf 159 = .ok (.ifCond .eq 13, 3) := by decide +kernel
theorem dX11_numberOf_162 : decode cX11_numberOf 162 = .ok (.iload 11, 2) := by decide +kernel
theorem dX11_numberOf_164 : decode cX11_numberOf 164 = .ok (.iconst 1, 1) := by decide +kernel
theorem dX11_numberOf_165 : decode cX11_numberOf 165 = .ok (.if_icmp .ne 7, 3) := by decide +kernel
theorem dX11_numberOf_168 : decode cX11_numberOf 168 = .ok (.iconst 1, 1) := by decide +kernel
theorem dX11_numberOf_169 : decode cX11_numberOf 169 = .ok (.goto 4, 3) := by decide +kernel
theorem dX11_numberOf_172 : decode cX11_numberOf 172 = .ok (.iconst 0, 1) := by decide +kernel
theorem dX11_numberOf_173 : decode cX11_numberOf 173 = .ok (.iadd, 1) := by decide +kernel
theorem dX11_numberOf_174 : decode cX11_numberOf 174 = .ok (.istore 7, 2) := by decide +kernel
theorem dX11_numberOf_176 : decode cX11_numberOf 176 = .ok (.iload 11, 2) := by decide +kernel
theorem dX11_numberOf_178 : decode cX11_numberOf 178 = .ok (.iconst 1, 1) := by decide +kernel
theorem dX11_numberOf_179 : decode cX11_numberOf 179 = .ok (.if_icmp .ne 15, 3) := by decide +kernel
theorem dX11_numberOf_182 : decode cX11_numberOf 182 = .ok (.iload 8, 2) := by decide +kernel
theorem dX11_numberOf_184 : decode cX11_numberOf 184 = .ok (.bipush 15, 2) := by decide +kernel
theorem dX11_numberOf_186 : decode cX11_numberOf 186 = .ok (.if_icmp .ne 8, 3) := by decide +kernel
theorem dX11_numberOf_189 : decode cX11_numberOf 189 = .ok (.iload 10, 2) := by decide +kernel
theorem dX11_numberOf_191 : decode cX11_numberOf 191 = .ok (.goto 5, 3) := by decide +kernel
theorem dX11_numberOf_194 : decode cX11_numberOf 194 = .ok (.iload 8, 2) := by decide +kernel
theorem dX11_numberOf_196 : decode cX11_numberOf 196 = .ok (.istore 8, 2) := by decide +kernel
theorem dX11_numberOf_198 : decode cX11_numberOf 198 = .ok (.iinc 10 1, 3) := by decide +kernel
theorem dX11_numberOf_201 : decode cX11_numberOf 201 = .ok (.goto (-157), 3) := by decide +kernel
theorem dX11_numberOf_204 : decode cX11_numberOf 204 = .ok (.iload_n 3, 1) := by decide +kernel
theorem dX11_numberOf_205 : decode cX11_numberOf 205 = .ok (.iconst 1, 1) := by decide +kernel
theorem dX11_numberOf_206 : decode cX11_numberOf 206 = .ok (.if_icmp .ne 8, 3) := by decide +kernel
theorem dX11_numberOf_209 : decode cX11_numberOf 209 = .ok (.iload 4, 2) := by decide +kernel
theorem dX11_numberOf_211 : decode cX11_numberOf 211 = .ok (.goto 35, 3) := by decide +kernel
theorem dX11_numberOf_214 : decode cX11_numberOf 214 = .ok (.iload_n 3, 1) := by decide +kernel
theorem dX11_numberOf_215 : decode cX11_numberOf 215 = .ok (.iconst 2, 1) := by decide +kernel
theorem dX11_numberOf_216 : decode cX11_numberOf 216 = .ok (.if_icmp .ne 8, 3) := by decide +kernel
theorem dX11_numberOf_219 : decode cX11_numberOf 219 = .ok (.iload 5, 2) := by decide +kernel
theorem dX11_numberOf_221 : decode cX11_numberOf 221 = .ok (.goto 25, 3) := by decide +kernel
theorem dX11_numberOf_224 : decode cX11_numberOf 224 = .ok (.iload_n 3, 1) := by decide +kernel
theorem dX11_numberOf_225 : decode cX11_numberOf 225 = .ok (.iconst 3, 1) := by decide +kernel
theorem dX11_numberOf_226 : decode cX11_numberOf 226 = .ok (.if_icmp .ne 8, 3) := by decide +kernel
theorem dX11_numberOf_229 : decode cX11_numberOf 229 = .ok (.iload 6, 2) := by decide +kernel
theorem dX11_numberOf_231 : decode cX11_numberOf 231 = .ok (.goto 15, 3) := by decide +kernel
theorem dX11_numberOf_234 : decode cX11_numberOf 234 = .ok (.iload_n 3, 1) := by decide +kernel
theorem dX11_numberOf_235 : decode cX11_numberOf 235 = .ok (.iconst 4, 1) := by decide +kernel
theorem dX11_numberOf_236 : decode cX11_numberOf 236 = .ok (.if_icmp .ne 8, 3) := by decide +kernel
theorem dX11_numberOf_239 : decode cX11_numberOf 239 = .ok (.iload 7, 2) := by decide +kernel
theorem dX11_numberOf_241 : decode cX11_numberOf 241 = .ok (.goto 5, 3) := by decide +kernel
theorem dX11_numberOf_244 : decode cX11_numberOf 244 = .ok (.iload 8, 2) := by decide +kernel
theorem dX11_numberOf_246 : decode cX11_numberOf 246 = .ok (.ireturn, 1) := by decide +kernel
theorem dX11_showsNow_0 : decode cX11_showsNow 0 = .ok (.aload_n 0, 1) := by decide +kernel
theorem dX11_showsNow_1 : decode cX11_showsNow 1 = .ok (.iload_n 1, 1) := by decide +kernel
theorem dX11_showsNow_2 : decode cX11_showsNow 2 = .ok (.invokevirtual 87, 3) := by decide +kernel
theorem dX11_showsNow_5 : decode cX11_showsNow 5 = .ok (.ifCond .eq 22, 3) := by decide +kernel
theorem dX11_showsNow_8 : decode cX11_showsNow 8 = .ok (.aload_n 0, 1) := by decide +kernel
theorem dX11_showsNow_9 : decode cX11_showsNow 9 = .ok (.aload_n 0, 1) := by decide +kernel
theorem dX11_showsNow_10 : decode cX11_showsNow 10 = .ok (.iload_n 1, 1) := by decide +kernel
theorem dX11_showsNow_11 : decode cX11_showsNow 11 = .ok (.invokevirtual 90, 3) := by decide +kernel
theorem dX11_showsNow_14 : decode cX11_showsNow 14 = .ok (.aload_n 0, 1) := by decide +kernel
theorem dX11_showsNow_15 : decode cX11_showsNow 15 = .ok (.getfield 7, 3) := by decide +kernel
theorem dX11_showsNow_18 : decode cX11_showsNow 18 = .ok (.iload_n 1, 1) := by decide +kernel
theorem dX11_showsNow_19 : decode cX11_showsNow 19 = .ok (.iaload, 1) := by decide +kernel
theorem dX11_showsNow_20 : decode cX11_showsNow 20 = .ok (.iload_n 2, 1) := by decide +kernel
theorem dX11_showsNow_21 : decode cX11_showsNow 21 = .ok (.invokevirtual 93, 3) := by decide +kernel
theorem dX11_showsNow_24 : decode cX11_showsNow 24 = .ok (.goto 5, 3) := by decide +kernel
theorem dX11_showsNow_27 : decode cX11_showsNow 27 = .ok (.bipush (-3), 2) := by decide +kernel
theorem dX11_showsNow_29 : decode cX11_showsNow 29 = .ok (.ireturn, 1) := by decide +kernel
theorem dX11_shows_0 : decode cX11_shows 0 = .ok (.iload_n 1, 1) := by decide +kernel
theorem dX11_shows_1 : decode cX11_shows 1 = .ok (.invokestatic 63, 3) := by decide +kernel
theorem dX11_shows_4 : decode cX11_shows 4 = .ok (.ifCond .eq 22, 3) := by decide +kernel
theorem dX11_shows_7 : decode cX11_shows 7 = .ok (.iload_n 2, 1) := by decide +kernel
theorem dX11_shows_8 : decode cX11_shows 8 = .ok (.iconst 0, 1) := by decide +kernel
theorem dX11_shows_9 : decode cX11_shows 9 = .ok (.bipush 6, 2) := by decide +kernel
theorem dX11_shows_11 : decode cX11_shows 11 = .ok (.invokestatic 59, 3) := by decide +kernel
theorem dX11_shows_14 : decode cX11_shows 14 = .ok (.ifCond .eq 12, 3) := by decide +kernel
theorem dX11_shows_17 : decode cX11_shows 17 = .ok (.aload_n 0, 1) := by decide +kernel
theorem dX11_shows_18 : decode cX11_shows 18 = .ok (.iload_n 1, 1) := by decide +kernel
theorem dX11_shows_19 : decode cX11_shows 19 = .ok (.iload_n 2, 1) := by decide +kernel
theorem dX11_shows_20 : decode cX11_shows 20 = .ok (.invokevirtual 97, 3) := by decide +kernel
theorem dX11_shows_23 : decode cX11_shows 23 = .ok (.goto 5, 3) := by decide +kernel
theorem dX11_shows_26 : decode cX11_shows 26 = .ok (.bipush (-2), 2) := by decide +kernel
theorem dX11_shows_28 : decode cX11_shows 28 = .ok (.ireturn, 1) := by decide +kernel
theorem dX11_type_0 : decode cX11_type 0 = .ok (.iload_n 1, 1) := by decide +kernel
theorem dX11_type_1 : decode cX11_type 1 = .ok (.iconst 0, 1) := by decide +kernel
theorem dX11_type_2 : decode cX11_type 2 = .ok (.sipush 255, 3) := by decide +kernel
theorem dX11_type_5 : decode cX11_type 5 = .ok (.invokestatic 59, 3) := by decide +kernel
theorem dX11_type_8 : decode cX11_type 8 = .ok (.ifCond .ne 6, 3) := by decide +kernel
theorem dX11_type_11 : decode cX11_type 11 = .ok (.bipush (-2), 2) := by decide +kernel
theorem dX11_type_13 : decode cX11_type 13 = .ok (.ireturn, 1) := by decide +kernel
theorem dX11_type_14 : decode cX11_type 14 = .ok (.aload_n 0, 1) := by decide +kernel
theorem dX11_type_15 : decode cX11_type 15 = .ok (.getfield 100, 3) := by decide +kernel
theorem dX11_type_18 : decode cX11_type 18 = .ok (.bipush 60, 2) := by decide +kernel
theorem dX11_type_20 : decode cX11_type 20 = .ok (.if_icmp .ne 6, 3) := by decide +kernel
theorem dX11_type_23 : decode cX11_type 23 = .ok (.bipush (-4), 2) := by decide +kernel
theorem dX11_type_25 : decode cX11_type 25 = .ok (.ireturn, 1) := by decide +kernel
theorem dX11_type_26 : decode cX11_type 26 = .ok (.aload_n 0, 1) := by decide +kernel
theorem dX11_type_27 : decode cX11_type 27 = .ok (.getfield 23, 3) := by decide +kernel
theorem dX11_type_30 : decode cX11_type 30 = .ok (.aload_n 0, 1) := by decide +kernel
theorem dX11_type_31 : decode cX11_type 31 = .ok (.getfield 100, 3) := by decide +kernel
theorem dX11_type_34 : decode cX11_type 34 = .ok (.iload_n 1, 1) := by decide +kernel
theorem dX11_type_35 : decode cX11_type 35 = .ok (.iastore, 1) := by decide +kernel
theorem dX11_type_36 : decode cX11_type 36 = .ok (.aload_n 0, 1) := by decide +kernel
theorem dX11_type_37 : decode cX11_type 37 = .ok (.dup, 1) := by decide +kernel
theorem dX11_type_38 : decode cX11_type 38 = .ok (.getfield 100, 3) := by decide +kernel
theorem dX11_type_41 : decode cX11_type 41 = .ok (.iconst 1, 1) := by decide +kernel
theorem dX11_type_42 : decode cX11_type 42 = .ok (.iadd, 1) := by decide +kernel
theorem dX11_type_43 : decode cX11_type 43 = .ok (.putfield 100, 3) := by decide +kernel
theorem dX11_type_46 : decode cX11_type 46 = .ok (.aload_n 0, 1) := by decide +kernel
theorem dX11_type_47 : decode cX11_type 47 = .ok (.iconst 0, 1) := by decide +kernel
theorem dX11_type_48 : decode cX11_type 48 = .ok (.putfield 103, 3) := by decide +kernel
theorem dX11_type_51 : decode cX11_type 51 = .ok (.aload_n 0, 1) := by decide +kernel
theorem dX11_type_52 : decode cX11_type 52 = .ok (.getfield 100, 3) := by decide +kernel
theorem dX11_type_55 : decode cX11_type 55 = .ok (.ireturn, 1) := by decide +kernel
theorem dX11_wipe_0 : decode cX11_wipe 0 = .ok (.aload_n 0, 1) := by decide +kernel
theorem dX11_wipe_1 : decode cX11_wipe 1 = .ok (.getfield 100, 3) := by decide +kernel
theorem dX11_wipe_4 : decode cX11_wipe 4 = .ok (.istore_n 1, 1) := by decide +kernel
theorem dX11_wipe_5 : decode cX11_wipe 5 = .ok (.aload_n 0, 1) := by decide +kernel
theorem dX11_wipe_6 : decode cX11_wipe 6 = .ok (.iconst 0, 1) := by decide +kernel
theorem dX11_wipe_7 : decode cX11_wipe 7 = .ok (.putfield 100, 3) := by decide +kernel
theorem dX11_wipe_10 : decode cX11_wipe 10 = .ok (.aload_n 0, 1) := by decide +kernel
theorem dX11_wipe_11 : decode cX11_wipe 11 = .ok (.iconst 0, 1) := by decide +kernel
theorem dX11_wipe_12 : decode cX11_wipe 12 = .ok (.putfield 103, 3) := by decide +kernel
theorem dX11_wipe_15 : decode cX11_wipe 15 = .ok (.iload_n 1, 1) := by decide +kernel
theorem dX11_wipe_16 : decode cX11_wipe 16 = .ok (.ireturn, 1) := by decide +kernel
theorem dX11_byteNow_0 : decode cX11_byteNow 0 = .ok (.aload_n 0, 1) := by decide +kernel
theorem dX11_byteNow_1 : decode cX11_byteNow 1 = .ok (.getfield 107, 3) := by decide +kernel
theorem dX11_byteNow_4 : decode cX11_byteNow 4 = .ok (.aload_n 0, 1) := by decide +kernel
theorem dX11_byteNow_5 : decode cX11_byteNow 5 = .ok (.getfield 100, 3) := by decide +kernel
theorem dX11_byteNow_8 : decode cX11_byteNow 8 = .ok (.if_icmp .ge 15, 3) := by decide +kernel
theorem dX11_byteNow_11 : decode cX11_byteNow 11 = .ok (.aload_n 0, 1) := by decide +kernel
theorem dX11_byteNow_12 : decode cX11_byteNow 12 = .ok (.getfield 23, 3) := by decide +kernel
theorem dX11_byteNow_15 : decode cX11_byteNow 15 = .ok (.aload_n 0, 1) := by decide +kernel
theorem dX11_byteNow_16 : decode cX11_byteNow 16 = .ok (.getfield 107, 3) := by decide +kernel
theorem dX11_byteNow_19 : decode cX11_byteNow 19 = .ok (.iaload, 1) := by decide +kernel
theorem dX11_byteNow_20 : decode cX11_byteNow 20 = .ok (.goto 4, 3) := by decide +kernel
theorem dX11_byteNow_23 : decode cX11_byteNow 23 = .ok (.iconst (-1), 1) := by decide +kernel
theorem dX11_byteNow_24 : decode cX11_byteNow 24 = .ok (.ireturn, 1) := by decide +kernel
theorem dX11_numberBy_0 : decode cX11_numberBy 0 = .ok (.iload_n 0, 1) := by decide +kernel
theorem dX11_numberBy_1 : decode cX11_numberBy 1 = .ok (.bipush 111, 2) := by decide +kernel
theorem dX11_numberBy_3 : decode cX11_numberBy 3 = .ok (.if_icmp .ne 7, 3) := by decide +kernel
theorem dX11_numberBy_6 : decode cX11_numberBy 6 = .ok (.iconst 0, 1) := by decide +kernel
theorem dX11_numberBy_7 : decode cX11_numberBy 7 = .ok (.goto 65, 3) := by decide +kernel
theorem dX11_numberBy_10 : decode cX11_numberBy 10 = .ok (.iload_n 0, 1) := by decide +kernel
theorem dX11_numberBy_11 : decode cX11_numberBy 11 = .ok (.bipush 114, 2) := by decide +kernel
theorem dX11_numberBy_13 : decode cX11_numberBy 13 = .ok (.if_icmp .ne 7, 3) := by decide +kernel
theorem dX11_numberBy_16 : decode cX11_numberBy 16 = .ok (.iconst 1, 1) := by decide +kernel
theorem dX11_numberBy_17 : decode cX11_numberBy 17 = .ok (.goto 55, 3) := by decide +kernel
theorem dX11_numberBy_20 : decode cX11_numberBy 20 = .ok (.iload_n 0, 1) := by decide +kernel
theorem dX11_numberBy_21 : decode cX11_numberBy 21 = .ok (.bipush 108, 2) := by decide +kernel
theorem dX11_numberBy_23 : decode cX11_numberBy 23 = .ok (.if_icmp .ne 7, 3) := by decide +kernel
theorem dX11_numberBy_26 : decode cX11_numberBy 26 = .ok (.iconst 2, 1) := by decide +kernel
theorem dX11_numberBy_27 : decode cX11_numberBy 27 = .ok (.goto 45, 3) := by decide +kernel
theorem dX11_numberBy_30 : decode cX11_numberBy 30 = .ok (.iload_n 0, 1) := by decide +kernel
theorem dX11_numberBy_31 : decode cX11_numberBy 31 = .ok (.bipush 104, 2) := by decide +kernel
theorem dX11_numberBy_33 : decode cX11_numberBy 33 = .ok (.if_icmp .ne 7, 3) := by decide +kernel
theorem dX11_numberBy_36 : decode cX11_numberBy 36 = .ok (.iconst 3, 1) := by decide +kernel
theorem dX11_numberBy_37 : decode cX11_numberBy 37 = .ok (.goto 35, 3) := by decide +kernel
theorem dX11_numberBy_40 : decode cX11_numberBy 40 = .ok (.iload_n 0, 1) := by decide +kernel
theorem dX11_numberBy_41 : decode cX11_numberBy 41 = .ok (.bipush 98, 2) := by decide +kernel
theorem dX11_numberBy_43 : decode cX11_numberBy 43 = .ok (.if_icmp .ne 7, 3) := by decide +kernel
theorem dX11_numberBy_46 : decode cX11_numberBy 46 = .ok (.iconst 4, 1) := by decide +kernel
theorem dX11_numberBy_47 : decode cX11_numberBy 47 = .ok (.goto 25, 3) := by decide +kernel
theorem dX11_numberBy_50 : decode cX11_numberBy 50 = .ok (.iload_n 0, 1) := by decide +kernel
theorem dX11_numberBy_51 : decode cX11_numberBy 51 = .ok (.bipush 102, 2) := by decide +kernel
theorem dX11_numberBy_53 : decode cX11_numberBy 53 = .ok (.if_icmp .ne 7, 3) := by decide +kernel
theorem dX11_numberBy_56 : decode cX11_numberBy 56 = .ok (.iconst 5, 1) := by decide +kernel
theorem dX11_numberBy_57 : decode cX11_numberBy 57 = .ok (.goto 15, 3) := by decide +kernel
theorem dX11_numberBy_60 : decode cX11_numberBy 60 = .ok (.iload_n 0, 1) := by decide +kernel
theorem dX11_numberBy_61 : decode cX11_numberBy 61 = .ok (.bipush 112, 2) := by decide +kernel
theorem dX11_numberBy_63 : decode cX11_numberBy 63 = .ok (.if_icmp .ne 8, 3) := by decide +kernel
theorem dX11_numberBy_66 : decode cX11_numberBy 66 = .ok (.bipush 6, 2) := by decide +kernel
theorem dX11_numberBy_68 : decode cX11_numberBy 68 = .ok (.goto 4, 3) := by decide +kernel
theorem dX11_numberBy_71 : decode cX11_numberBy 71 = .ok (.iconst (-1), 1) := by decide +kernel
theorem dX11_numberBy_72 : decode cX11_numberBy 72 = .ok (.ireturn, 1) := by decide +kernel
theorem dX11_test_0 : decode cX11_test 0 = .ok (.aload_n 0, 1) := by decide +kernel
theorem dX11_test_1 : decode cX11_test 1 = .ok (.invokevirtual 110, 3) := by decide +kernel
theorem dX11_test_4 : decode cX11_test 4 = .ok (.invokestatic 114, 3) := by decide +kernel
theorem dX11_test_7 : decode cX11_test 7 = .ok (.istore_n 2, 1) := by decide +kernel
theorem dX11_test_8 : decode cX11_test 8 = .ok (.iload_n 2, 1) := by decide +kernel
theorem dX11_test_9 : decode cX11_test 9 = .ok (.iconst (-1), 1) := by decide +kernel
theorem dX11_test_10 : decode cX11_test 10 = .ok (.if_icmp .ne 12, 3) := by decide +kernel
theorem dX11_test_13 : decode cX11_test 13 = .ok (.aload_n 0, 1) := by decide +kernel
theorem dX11_test_14 : decode cX11_test 14 = .ok (.aload_n 0, 1) := by decide +kernel
theorem dX11_test_15 : decode cX11_test 15 = .ok (.getfield 107, 3) := by decide +kernel
theorem dX11_test_18 : decode cX11_test 18 = .ok (.putfield 117, 3) := by decide +kernel
theorem dX11_test_21 : decode cX11_test 21 = .ok (.return_, 1) := by decide +kernel
theorem dX11_test_22 : decode cX11_test 22 = .ok (.aload_n 0, 1) := by decide +kernel
theorem dX11_test_23 : decode cX11_test 23 = .ok (.dup, 1) := by decide +kernel
theorem dX11_test_24 : decode cX11_test 24 = .ok (.getfield 107, 3) := by decide +kernel
theorem dX11_test_27 : decode cX11_test 27 = .ok (.iconst 1, 1) := by decide +kernel
theorem dX11_test_28 : decode cX11_test 28 = .ok (.iadd, 1) := by decide +kernel
theorem dX11_test_29 : decode cX11_test 29 = .ok (.putfield 107, 3) := by decide +kernel
theorem dX11_test_32 : decode cX11_test 32 = .ok (.aload_n 0, 1) := by decide +kernel
theorem dX11_test_33 : decode cX11_test 33 = .ok (.invokevirtual 110, 3) := by decide +kernel
theorem dX11_test_36 : decode cX11_test 36 = .ok (.istore_n 3, 1) := by decide +kernel
theorem dX11_test_37 : decode cX11_test 37 = .ok (.iload_n 3, 1) := by decide +kernel
theorem dX11_test_38 : decode cX11_test 38 = .ok (.bipush 60, 2) := by decide +kernel
theorem dX11_test_40 : decode cX11_test 40 = .ok (.bipush 62, 2) := by decide +kernel
theorem dX11_test_42 : decode cX11_test 42 = .ok (.invokestatic 59, 3) := by decide +kernel
theorem dX11_test_45 : decode cX11_test 45 = .ok (.ifCond .ne 12, 3) := by decide +kernel
theorem dX11_test_48 : decode cX11_test 48 = .ok (.aload_n 0, 1) := by decide +kernel
theorem dX11_test_49 : decode cX11_test 49 = .ok (.aload_n 0, 1) := by decide +kernel
theorem dX11_test_50 : decode cX11_test 50 = .ok (.getfield 107, 3) := by decide +kernel
theorem dX11_test_53 : decode cX11_test 53 = .ok (.putfield 117, 3) := by decide +kernel
theorem dX11_test_56 : decode cX11_test 56 = .ok (.return_, 1) := by decide +kernel
theorem dX11_test_57 : decode cX11_test 57 = .ok (.aload_n 0, 1) := by decide +kernel
theorem dX11_test_58 : decode cX11_test 58 = .ok (.dup, 1) := by decide +kernel
theorem dX11_test_59 : decode cX11_test 59 = .ok (.getfield 107, 3) := by decide +kernel
theorem dX11_test_62 : decode cX11_test 62 = .ok (.iconst 1, 1) := by decide +kernel
theorem dX11_test_63 : decode cX11_test 63 = .ok (.iadd, 1) := by decide +kernel
theorem dX11_test_64 : decode cX11_test 64 = .ok (.putfield 107, 3) := by decide +kernel
theorem dX11_test_67 : decode cX11_test 67 = .ok (.aload_n 0, 1) := by decide +kernel
theorem dX11_test_68 : decode cX11_test 68 = .ok (.getfield 107, 3) := by decide +kernel
theorem dX11_test_71 : decode cX11_test 71 = .ok (.istore 4, 2) := by decide +kernel
theorem dX11_test_73 : decode cX11_test 73 = .ok (.iconst 0, 1) := by decide +kernel
theorem dX11_test_74 : decode cX11_test 74 = .ok (.istore 5, 2) := by decide +kernel
theorem dX11_test_76 : decode cX11_test 76 = .ok (.aload_n 0, 1) := by decide +kernel
theorem dX11_test_77 : decode cX11_test 77 = .ok (.getfield 107, 3) := by decide +kernel
theorem dX11_test_80 : decode cX11_test 80 = .ok (.iload 4, 2) := by decide +kernel
theorem dX11_test_82 : decode cX11_test 82 = .ok (.iconst 2, 1) := by decide +kernel
theorem dX11_test_83 : decode cX11_test 83 = .ok (.iadd, 1) := by decide +kernel
theorem dX11_test_84 : decode cX11_test 84 = .ok (.if_icmp .ge 49, 3) := by decide +kernel
theorem dX11_test_87 : decode cX11_test 87 = .ok (.aload_n 0, 1) := by decide +kernel
theorem dX11_test_88 : decode cX11_test 88 = .ok (.invokevirtual 110, 3) := by decide +kernel
theorem dX11_test_91 : decode cX11_test 91 = .ok (.bipush 48, 2) := by decide +kernel
theorem dX11_test_93 : decode cX11_test 93 = .ok (.if_icmp .lt 40, 3) := by decide +kernel
theorem dX11_test_96 : decode cX11_test 96 = .ok (.aload_n 0, 1) := by decide +kernel
theorem dX11_test_97 : decode cX11_test 97 = .ok (.invokevirtual 110, 3) := by decide +kernel
theorem dX11_test_100 : decode cX11_test 100 = .ok (.bipush 57, 2) := by decide +kernel
theorem dX11_test_102 : decode cX11_test 102 = .ok (.if_icmp .gt 31, 3) := by decide +kernel
theorem dX11_test_105 : decode cX11_test 105 = .ok (.bipush 10, 2) := by decide +kernel
theorem dX11_test_107 : decode cX11_test 107 = .ok (.iload 5, 2) := by decide +kernel
theorem dX11_test_109 : decode cX11_test 109 = .ok (.imul, 1) := by decide +kernel
theorem dX11_test_110 : decode cX11_test 110 = .ok (.aload_n 0, 1) := by decide +kernel
theorem dX11_test_111 : decode cX11_test 111 = .ok (.invokevirtual 110, 3) := by decide +kernel
theorem dX11_test_114 : decode cX11_test 114 = .ok (.iadd, 1) := by decide +kernel
theorem dX11_test_115 : decode cX11_test 115 = .ok (.bipush 48, 2) := by decide +kernel
theorem dX11_test_117 : decode cX11_test 117 = .ok (.isub, 1) := by decide +kernel
theorem dX11_test_118 : decode cX11_test 118 = .ok (.istore 5, 2) := by decide +kernel
theorem dX11_test_120 : decode cX11_test 120 = .ok (.aload_n 0, 1) := by decide +kernel
theorem dX11_test_121 : decode cX11_test 121 = .ok (.dup, 1) := by decide +kernel
theorem dX11_test_122 : decode cX11_test 122 = .ok (.getfield 107, 3) := by decide +kernel
theorem dX11_test_125 : decode cX11_test 125 = .ok (.iconst 1, 1) := by decide +kernel
theorem dX11_test_126 : decode cX11_test 126 = .ok (.iadd, 1) := by decide +kernel
theorem dX11_test_127 : decode cX11_test 127 = .ok (.putfield 107, 3) := by decide +kernel
theorem dX11_test_130 : decode cX11_test 130 = .ok (.goto (-54), 3) := by decide +kernel
theorem dX11_test_133 : decode cX11_test 133 = .ok (.aload_n 0, 1) := by decide +kernel
theorem dX11_test_134 : decode cX11_test 134 = .ok (.getfield 107, 3) := by decide +kernel
theorem dX11_test_137 : decode cX11_test 137 = .ok (.iload 4, 2) := by decide +kernel
theorem dX11_test_139 : decode cX11_test 139 = .ok (.if_icmp .ne 12, 3) := by decide +kernel
theorem dX11_test_142 : decode cX11_test 142 = .ok (.aload_n 0, 1) := by decide +kernel
theorem dX11_test_143 : decode cX11_test 143 = .ok (.aload_n 0, 1) := by decide +kernel
theorem dX11_test_144 : decode cX11_test 144 = .ok (.getfield 107, 3) := by decide +kernel
theorem dX11_test_147 : decode cX11_test 147 = .ok (.putfield 117, 3) := by decide +kernel
theorem dX11_test_150 : decode cX11_test 150 = .ok (.return_, 1) := by decide +kernel
theorem dX11_test_151 : decode cX11_test 151 = .ok (.aload_n 0, 1) := by decide +kernel
theorem dX11_test_152 : decode cX11_test 152 = .ok (.getfield 26, 3) := by decide +kernel
theorem dX11_test_155 : decode cX11_test 155 = .ok (.aload_n 0, 1) := by decide +kernel
theorem dX11_test_156 : decode cX11_test 156 = .ok (.getfield 120, 3) := by decide +kernel
theorem dX11_test_159 : decode cX11_test 159 = .ok (.iload_n 2, 1) := by decide +kernel
theorem dX11_test_160 : decode cX11_test 160 = .ok (.iastore, 1) := by decide +kernel
theorem dX11_test_161 : decode cX11_test 161 = .ok (.aload_n 0, 1) := by decide +kernel
theorem dX11_test_162 : decode cX11_test 162 = .ok (.getfield 29, 3) := by decide +kernel
theorem dX11_test_165 : decode cX11_test 165 = .ok (.aload_n 0, 1) := by decide +kernel
theorem dX11_test_166 : decode cX11_test 166 = .ok (.getfield 120, 3) := by decide +kernel
theorem dX11_test_169 : decode cX11_test 169 = .ok (.iload_n 3, 1) := by decide +kernel
theorem dX11_test_170 : decode cX11_test 170 = .ok (.iastore, 1) := by decide +kernel
theorem dX11_test_171 : decode cX11_test 171 = .ok (.aload_n 0, 1) := by decide +kernel
theorem dX11_test_172 : decode cX11_test 172 = .ok (.getfield 32, 3) := by decide +kernel
theorem dX11_test_175 : decode cX11_test 175 = .ok (.aload_n 0, 1) := by decide +kernel
theorem dX11_test_176 : decode cX11_test 176 = .ok (.getfield 120, 3) := by decide +kernel
theorem dX11_test_179 : decode cX11_test 179 = .ok (.iload 5, 2) := by decide +kernel
theorem dX11_test_181 : decode cX11_test 181 = .ok (.iastore, 1) := by decide +kernel
theorem dX11_test_182 : decode cX11_test 182 = .ok (.aload_n 0, 1) := by decide +kernel
theorem dX11_test_183 : decode cX11_test 183 = .ok (.getfield 35, 3) := by decide +kernel
theorem dX11_test_186 : decode cX11_test 186 = .ok (.aload_n 0, 1) := by decide +kernel
theorem dX11_test_187 : decode cX11_test 187 = .ok (.getfield 120, 3) := by decide +kernel
theorem dX11_test_190 : decode cX11_test 190 = .ok (.iload_n 1, 1) := by decide +kernel
theorem dX11_test_191 : decode cX11_test 191 = .ok (.bastore, 1) := by decide +kernel
theorem dX11_test_192 : decode cX11_test 192 = .ok (.aload_n 0, 1) := by decide +kernel
theorem dX11_test_193 : decode cX11_test 193 = .ok (.dup, 1) := by decide +kernel
theorem dX11_test_194 : decode cX11_test 194 = .ok (.getfield 120, 3) := by decide +kernel
theorem dX11_test_197 : decode cX11_test 197 = .ok (.iconst 1, 1) := by decide +kernel
theorem dX11_test_198 : decode cX11_test 198 = .ok (.iadd, 1) := by decide +kernel
theorem dX11_test_199 : decode cX11_test 199 = .ok (.putfield 120, 3) := by decide +kernel
theorem dX11_test_202 : decode cX11_test 202 = .ok (.return_, 1) := by decide +kernel
theorem dX11_faultNow_0 : decode cX11_faultNow 0 = .ok (.aload_n 0, 1) := by decide +kernel
theorem dX11_faultNow_1 : decode cX11_faultNow 1 = .ok (.getfield 103, 3) := by decide +kernel
theorem dX11_faultNow_4 : decode cX11_faultNow 4 = .ok (.ifCond .eq 8, 3) := by decide +kernel
theorem dX11_faultNow_7 : decode cX11_faultNow 7 = .ok (.aload_n 0, 1) := by decide +kernel
theorem dX11_faultNow_8 : decode cX11_faultNow 8 = .ok (.getfield 117, 3) := by decide +kernel
theorem dX11_faultNow_11 : decode cX11_faultNow 11 = .ok (.ireturn, 1) := by decide +kernel
theorem dX11_faultNow_12 : decode cX11_faultNow 12 = .ok (.aload_n 0, 1) := by decide +kernel
theorem dX11_faultNow_13 : decode cX11_faultNow 13 = .ok (.iconst 1, 1) := by decide +kernel
theorem dX11_faultNow_14 : decode cX11_faultNow 14 = .ok (.putfield 103, 3) := by decide +kernel
theorem dX11_faultNow_17 : decode cX11_faultNow 17 = .ok (.aload_n 0, 1) := by decide +kernel
theorem dX11_faultNow_18 : decode cX11_faultNow 18 = .ok (.iconst 0, 1) := by decide +kernel
theorem dX11_faultNow_19 : decode cX11_faultNow 19 = .ok (.putfield 107, 3) := by decide +kernel
theorem dX11_faultNow_22 : decode cX11_faultNow 22 = .ok (.aload_n 0, 1) := by decide +kernel
theorem dX11_faultNow_23 : decode cX11_faultNow 23 = .ok (.iconst (-1), 1) := by decide +kernel
theorem dX11_faultNow_24 : decode cX11_faultNow 24 = .ok (.putfield 117, 3) := by decide +kernel
theorem dX11_faultNow_27 : decode cX11_faultNow 27 = .ok (.aload_n 0, 1) := by decide +kernel
theorem dX11_faultNow_28 : decode cX11_faultNow 28 = .ok (.iconst 0, 1) := by decide +kernel
theorem dX11_faultNow_29 : decode cX11_faultNow 29 = .ok (.putfield 120, 3) := by decide +kernel
theorem dX11_faultNow_32 : decode cX11_faultNow 32 = .ok (.aload_n 0, 1) := by decide +kernel
theorem dX11_faultNow_33 : decode cX11_faultNow 33 = .ok (.iconst 1, 1) := by decide +kernel
theorem dX11_faultNow_34 : decode cX11_faultNow 34 = .ok (.invokevirtual 123, 3) := by decide +kernel
theorem dX11_faultNow_37 : decode cX11_faultNow 37 = .ok (.aload_n 0, 1) := by decide +kernel
theorem dX11_faultNow_38 : decode cX11_faultNow 38 = .ok (.getfield 117, 3) := by decide +kernel
theorem dX11_faultNow_41 : decode cX11_faultNow 41 = .ok (.iconst (-1), 1) := by decide +kernel
theorem dX11_faultNow_42 : decode cX11_faultNow 42 = .ok (.if_icmp .ne 70, 3) := by decide +kernel
theorem dX11_faultNow_45 : decode cX11_faultNow 45 = .ok (.aload_n 0, 1) := by decide +kernel
theorem dX11_faultNow_46 : decode cX11_faultNow 46 = .ok (.getfield 107, 3) := by decide +kernel
theorem dX11_faultNow_49 : decode cX11_faultNow 49 = .ok (.aload_n 0, 1) := by decide +kernel
theorem dX11_faultNow_50 : decode cX11_faultNow 50 = .ok (.getfield 100, 3) := by decide +kernel
theorem dX11_faultNow_53 : decode cX11_faultNow 53 = .ok (.if_icmp .ge 59, 3) := by decide +kernel
theorem dX11_faultNow_56 : decode cX11_faultNow 56 = .ok (.aload_n 0, 1) := by decide +kernel
theorem dX11_faultNow_57 : decode cX11_faultNow 57 = .ok (.invokevirtual 110, 3) := by decide +kernel
theorem dX11_faultNow_60 : decode cX11_faultNow 60 = .ok (.istore_n 1, 1) := by decide +kernel
theorem dX11_faultNow_61 : decode cX11_faultNow 61 = .ok (.iload_n 1, 1) := by decide +kernel
theorem dX11_faultNow_62 : decode cX11_faultNow 62 = .ok (.bipush 124, 2) := by decide +kernel
theorem dX11_faultNow_64 : decode cX11_faultNow 64 = .ok (.if_icmp .eq 20, 3) := by decide +kernel
theorem dX11_faultNow_67 : decode cX11_faultNow 67 = .ok (.iload_n 1, 1) := by decide +kernel
theorem dX11_faultNow_68 : decode cX11_faultNow 68 = .ok (.bipush 43, 2) := by decide +kernel
theorem dX11_faultNow_70 : decode cX11_faultNow 70 = .ok (.if_icmp .eq 14, 3) := by decide +kernel
theorem dX11_faultNow_73 : decode cX11_faultNow 73 = .ok (.aload_n 0, 1) := by decide +kernel
theorem dX11_faultNow_74 : decode cX11_faultNow 74 = .ok (.aload_n 0, 1) := by decide +kernel
theorem dX11_faultNow_75 : decode cX11_faultNow 75 = .ok (.getfield 107, 3) := by decide +kernel
theorem dX11_faultNow_78 : decode cX11_faultNow 78 = .ok (.putfield 117, 3) := by decide +kernel
theorem dX11_faultNow_81 : decode cX11_faultNow 81 = .ok (.goto 28, 3) := by decide +kernel
theorem dX11_faultNow_84 : decode cX11_faultNow 84 = .ok (.aload_n 0, 1) := by decide +kernel
theorem dX11_faultNow_85 : decode cX11_faultNow 85 = .ok (.dup, 1) := by decide +kernel
theorem dX11_faultNow_86 : decode cX11_faultNow 86 = .ok (.getfield 107, 3) := by decide +kernel
theorem dX11_faultNow_89 : decode cX11_faultNow 89 = .ok (.iconst 1, 1) := by decide +kernel
theorem dX11_faultNow_90 : decode cX11_faultNow 90 = .ok (.iadd, 1) := by decide +kernel
theorem dX11_faultNow_91 : decode cX11_faultNow 91 = .ok (.putfield 107, 3) := by decide +kernel
theorem dX11_faultNow_94 : decode cX11_faultNow 94 = .ok (.aload_n 0, 1) := by decide +kernel
theorem dX11_faultNow_95 : decode cX11_faultNow 95 = .ok (.iload_n 1, 1) := by decide +kernel
theorem dX11_faultNow_96 : decode cX11_faultNow 96 = .ok (.bipush 124, 2) := by decide +kernel
theorem dX11_faultNow_98 : decode cX11_faultNow 98 = .ok (.if_icmp .ne 7, 3) := by decide +kernel
theorem dX11_faultNow_101 : decode cX11_faultNow 101 = .ok (.iconst 1, 1) := by decide +kernel
theorem dX11_faultNow_102 : decode cX11_faultNow 102 = .ok (.goto 4, 3) := by decide +kernel
theorem dX11_faultNow_105 : decode cX11_faultNow 105 = .ok (.iconst 0, 1) := by decide +kernel
theorem dX11_faultNow_106 : decode cX11_faultNow 106 = .ok (.invokevirtual 123, 3) := by decide +kernel
theorem dX11_faultNow_109 : decode cX11_faultNow 109 = .ok (.goto (-72), 3) := by decide +kernel
theorem dX11_faultNow_112 : decode cX11_faultNow 112 = .ok (.aload_n 0, 1) := by decide +kernel
theorem dX11_faultNow_113 : decode cX11_faultNow 113 = .ok (.getfield 117, 3) := by decide +kernel
theorem dX11_faultNow_116 : decode cX11_faultNow 116 = .ok (.ireturn, 1) := by decide +kernel
theorem dX11_fault_0 : decode cX11_fault 0 = .ok (.aload_n 0, 1) := by decide +kernel
theorem dX11_fault_1 : decode cX11_fault 1 = .ok (.invokevirtual 127, 3) := by decide +kernel
theorem dX11_fault_4 : decode cX11_fault 4 = .ok (.ireturn, 1) := by decide +kernel
theorem dX11_does_0 : decode cX11_does 0 = .ok (.iconst 0, 1) := by decide +kernel
theorem dX11_does_1 : decode cX11_does 1 = .ok (.istore_n 3, 1) := by decide +kernel
theorem dX11_does_2 : decode cX11_does 2 = .ok (.iconst 0, 1) := by decide +kernel
theorem dX11_does_3 : decode cX11_does 3 = .ok (.istore 4, 2) := by decide +kernel
theorem dX11_does_5 : decode cX11_does 5 = .ok (.iload 4, 2) := by decide +kernel
theorem dX11_does_7 : decode cX11_does 7 = .ok (.aload_n 0, 1) := by decide +kernel
theorem dX11_does_8 : decode cX11_does 8 = .ok (.getfield 120, 3) := by decide +kernel
theorem dX11_does_11 : decode cX11_does 11 = .ok (.if_icmp .ge 128, 3) := by decide +kernel
theorem dX11_does_14 : decode cX11_does 14 = .ok (.aload_n 0, 1) := by decide +kernel
theorem dX11_does_15 : decode cX11_does 15 = .ok (.getfield 35, 3) := by decide +kernel
theorem dX11_does_18 : decode cX11_does 18 = .ok (.iload 4, 2) := by decide +kernel
theorem dX11_does_20 : decode cX11_does 20 = .ok (.baload, 1) := by decide +kernel
theorem dX11_does_21 : decode cX11_does 21 = .ok (.ifCond .eq 11, 3) := by decide +kernel
theorem dX11_does_24 : decode cX11_does 24 = .ok (.iload_n 3, 1) := by decide +kernel
theorem dX11_does_25 : decode cX11_does 25 = .ok (.ifCond .eq 5, 3) := by decide +kernel
theorem dX11_does_28 : decode cX11_does 28 = .ok (.iconst 1, 1) := by decide +kernel
theorem dX11_does_29 : decode cX11_does 29 = .ok (.ireturn, 1) := by decide +kernel
theorem dX11_does_30 : decode cX11_does 30 = .ok (.iconst 1, 1) := by decide +kernel
theorem dX11_does_31 : decode cX11_does 31 = .ok (.istore_n 3, 1) := by decide +kernel
theorem dX11_does_32 : decode cX11_does 32 = .ok (.iload_n 3, 1) := by decide +kernel
theorem dX11_does_33 : decode cX11_does 33 = .ok (.ifCond .eq 100, 3) := by decide +kernel
theorem dX11_does_36 : decode cX11_does 36 = .ok (.aload_n 0, 1) := by decide +kernel
theorem dX11_does_37 : decode cX11_does 37 = .ok (.iload_n 1, 1) := by decide +kernel
theorem dX11_does_38 : decode cX11_does 38 = .ok (.iload_n 2, 1) := by decide +kernel
theorem dX11_does_39 : decode cX11_does 39 = .ok (.aload_n 0, 1) := by decide +kernel
theorem dX11_does_40 : decode cX11_does 40 = .ok (.getfield 26, 3) := by decide +kernel
theorem dX11_does_43 : decode cX11_does 43 = .ok (.iload 4, 2) := by decide +kernel
theorem dX11_does_45 : decode cX11_does 45 = .ok (.iaload, 1) := by decide +kernel
theorem dX11_does_46 : decode cX11_does 46 = .ok (.invokevirtual 93, 3) := by decide +kernel
theorem dX11_does_49 : decode cX11_does 49 = .ok (.istore 5, 2) := by decide +kernel
theorem dX11_does_51 : decode cX11_does 51 = .ok (.aload_n 0, 1) := by decide +kernel
theorem dX11_does_52 : decode cX11_does 52 = .ok (.getfield 29, 3) := by decide +kernel
theorem dX11_does_55 : decode cX11_does 55 = .ok (.iload 4, 2) := by decide +kernel
theorem dX11_does_57 : decode cX11_does 57 = .ok (.iaload, 1) := by decide +kernel
theorem dX11_does_58 : decode cX11_does 58 = .ok (.bipush 60, 2) := by decide +kernel
theorem dX11_does_60 : decode cX11_does 60 = .ok (.if_icmp .ne 23, 3) := by decide +kernel
theorem dX11_does_63 : decode cX11_does 63 = .ok (.iload 5, 2) := by decide +kernel
theorem dX11_does_65 : decode cX11_does 65 = .ok (.aload_n 0, 1) := by decide +kernel
theorem dX11_does_66 : decode cX11_does 66 = .ok (.getfield 32, 3) := by decide +kernel
theorem dX11_does_69 : decode cX11_does 69 = .ok (.iload 4, 2) := by decide +kernel
theorem dX11_does_71 : decode cX11_does 71 = .ok (.iaload, 1) := by decide +kernel
theorem dX11_does_72 : decode cX11_does 72 = .ok (.if_icmp .ge 7, 3) := by decide +kernel
theorem dX11_does_75 : decode cX11_does 75 = .ok (.iconst 1, 1) := by decide +kernel
theorem dX11_does_76 : decode cX11_does 76 = .ok (.goto 56, 3) := by decide +kernel
theorem dX11_does_79 : decode cX11_does 79 = .ok (.iconst 0, 1) := by decide +kernel
theorem dX11_does_80 : decode cX11_does 80 = .ok (.goto 52, 3) := by decide +kernel
theorem dX11_does_83 : decode cX11_does 83 = .ok (.aload_n 0, 1) := by decide +kernel
theorem dX11_does_84 : decode cX11_does 84 = .ok (.getfield 29, 3) := by decide +kernel
theorem dX11_does_87 : decode cX11_does 87 = .ok (.iload 4, 2) := by decide +kernel
theorem dX11_does_89 : decode cX11_does 89 = .ok (.iaload, 1) := by decide +kernel
theorem dX11_does_90 : decode cX11_does 90 = .ok (.bipush 61, 2) := by decide +kernel
theorem dX11_does_92 : decode cX11_does 92 = .ok (.if_icmp .ne 23, 3) := by decide +kernel
theorem dX11_does_95 : decode cX11_does 95 = .ok (.iload 5, 2) := by decide +kernel
theorem dX11_does_97 : decode cX11_does 97 = .ok (.aload_n 0, 1) := by decide +kernel
theorem dX11_does_98 : decode cX11_does 98 = .ok (.getfield 32, 3) := by decide +kernel
theorem dX11_does_101 : decode cX11_does 101 = .ok (.iload 4, 2) := by decide +kernel
theorem dX11_does_103 : decode cX11_does 103 = .ok (.iaload, 1) := by decide +kernel
theorem dX11_does_104 : decode cX11_does 104 = .ok (.if_icmp .ne 7, 3) := by decide +kernel
theorem dX11_does_107 : decode cX11_does 107 = .ok (.iconst 1, 1) := by decide +kernel
theorem dX11_does_108 : decode cX11_does 108 = .ok (.goto 24, 3) := by decide +kernel
theorem dX11_does_111 : decode cX11_does 111 = .ok (.iconst 0, 1) := by decide +kernel
theorem dX11_does_112 : decode cX11_does 112 = .ok (.goto 20, 3) := by decide +kernel
theorem dX11_does_115 : decode cX11_does 115 = .ok (.iload 5, 2) := by decide +kernel
theorem dX11_does_117 : decode cX11_does 117 = .ok (.aload_n 0, 1) := by decide +kernel
theorem dX11_does_118 : decode cX11_does 118 = .ok (.getfield 32, 3) := by decide +kernel
theorem dX11_does_121 : decode cX11_does 121 = .ok (.iload 4, 2) := by decide +kernel
theorem dX11_does_123 : decode cX11_does 123 = .ok (.iaload, 1) := by decide +kernel
theorem dX11_does_124 : decode cX11_does 124 = .ok (.if_icmp .le 7, 3) := by decide +kernel
theorem dX11_does_127 : decode cX11_does 127 = .ok (.iconst 1, 1) := by decide +kernel
theorem dX11_does_128 : decode cX11_does 128 = .ok (.goto 4, 3) := by decide +kernel
theorem dX11_does_131 : decode cX11_does 131 = .ok (.iconst 0, 1) := by decide +kernel
theorem dX11_does_132 : decode cX11_does 132 = .ok (.istore_n 3, 1) := by decide +kernel
theorem dX11_does_133 : decode cX11_does 133 = .ok (.iinc 4 1, 3) := by decide +kernel
theorem dX11_does_136 : decode cX11_does 136 = .ok (.goto (-131), 3) := by decide +kernel
theorem dX11_does_139 : decode cX11_does 139 = .ok (.iload_n 3, 1) := by decide +kernel
theorem dX11_does_140 : decode cX11_does 140 = .ok (.ireturn, 1) := by decide +kernel
theorem dX11_holds_0 : decode cX11_holds 0 = .ok (.iload_n 1, 1) := by decide +kernel
theorem dX11_holds_1 : decode cX11_holds 1 = .ok (.invokestatic 63, 3) := by decide +kernel
theorem dX11_holds_4 : decode cX11_holds 4 = .ok (.ifCond .ne 6, 3) := by decide +kernel
theorem dX11_holds_7 : decode cX11_holds 7 = .ok (.bipush (-2), 2) := by decide +kernel
theorem dX11_holds_9 : decode cX11_holds 9 = .ok (.ireturn, 1) := by decide +kernel
theorem dX11_holds_10 : decode cX11_holds 10 = .ok (.aload_n 0, 1) := by decide +kernel
theorem dX11_holds_11 : decode cX11_holds 11 = .ok (.iload_n 1, 1) := by decide +kernel
theorem dX11_holds_12 : decode cX11_holds 12 = .ok (.invokevirtual 87, 3) := by decide +kernel
theorem dX11_holds_15 : decode cX11_holds 15 = .ok (.ifCond .eq 11, 3) := by decide +kernel
theorem dX11_holds_18 : decode cX11_holds 18 = .ok (.aload_n 0, 1) := by decide +kernel
theorem dX11_holds_19 : decode cX11_holds 19 = .ok (.invokevirtual 127, 3) := by decide +kernel
theorem dX11_holds_22 : decode cX11_holds 22 = .ok (.iconst (-1), 1) := by decide +kernel
theorem dX11_holds_23 : decode cX11_holds 23 = .ok (.if_icmp .eq 6, 3) := by decide +kernel
theorem dX11_holds_26 : decode cX11_holds 26 = .ok (.bipush (-3), 2) := by decide +kernel
theorem dX11_holds_28 : decode cX11_holds 28 = .ok (.ireturn, 1) := by decide +kernel
theorem dX11_holds_29 : decode cX11_holds 29 = .ok (.aload_n 0, 1) := by decide +kernel
theorem dX11_holds_30 : decode cX11_holds 30 = .ok (.aload_n 0, 1) := by decide +kernel
theorem dX11_holds_31 : decode cX11_holds 31 = .ok (.iload_n 1, 1) := by decide +kernel
theorem dX11_holds_32 : decode cX11_holds 32 = .ok (.invokevirtual 90, 3) := by decide +kernel
theorem dX11_holds_35 : decode cX11_holds 35 = .ok (.aload_n 0, 1) := by decide +kernel
theorem dX11_holds_36 : decode cX11_holds 36 = .ok (.getfield 7, 3) := by decide +kernel
theorem dX11_holds_39 : decode cX11_holds 39 = .ok (.iload_n 1, 1) := by decide +kernel
theorem dX11_holds_40 : decode cX11_holds 40 = .ok (.iaload, 1) := by decide +kernel
theorem dX11_holds_41 : decode cX11_holds 41 = .ok (.invokevirtual 130, 3) := by decide +kernel
theorem dX11_holds_44 : decode cX11_holds 44 = .ok (.ifCond .eq 7, 3) := by decide +kernel
theorem dX11_holds_47 : decode cX11_holds 47 = .ok (.iconst 1, 1) := by decide +kernel
theorem dX11_holds_48 : decode cX11_holds 48 = .ok (.goto 4, 3) := by decide +kernel
theorem dX11_holds_51 : decode cX11_holds 51 = .ok (.iconst 0, 1) := by decide +kernel
theorem dX11_holds_52 : decode cX11_holds 52 = .ok (.ireturn, 1) := by decide +kernel
theorem dX11_shownNow_0 : decode cX11_shownNow 0 = .ok (.aload_n 0, 1) := by decide +kernel
theorem dX11_shownNow_1 : decode cX11_shownNow 1 = .ok (.invokevirtual 127, 3) := by decide +kernel
theorem dX11_shownNow_4 : decode cX11_shownNow 4 = .ok (.iconst (-1), 1) := by decide +kernel
theorem dX11_shownNow_5 : decode cX11_shownNow 5 = .ok (.if_icmp .eq 6, 3) := by decide +kernel
theorem dX11_shownNow_8 : decode cX11_shownNow 8 = .ok (.bipush (-3), 2) := by decide +kernel
theorem dX11_shownNow_10 : decode cX11_shownNow 10 = .ok (.ireturn, 1) := by decide +kernel
theorem dX11_shownNow_11 : decode cX11_shownNow 11 = .ok (.iconst 0, 1) := by decide +kernel
theorem dX11_shownNow_12 : decode cX11_shownNow 12 = .ok (.istore_n 3, 1) := by decide +kernel
theorem dX11_shownNow_13 : decode cX11_shownNow 13 = .ok (.iconst 0, 1) := by decide +kernel
theorem dX11_shownNow_14 : decode cX11_shownNow 14 = .ok (.istore 4, 2) := by decide +kernel
theorem dX11_shownNow_16 : decode cX11_shownNow 16 = .ok (.iload 4, 2) := by decide +kernel
theorem dX11_shownNow_18 : decode cX11_shownNow 18 = .ok (.iconst 1, 1) := by decide +kernel
theorem dX11_shownNow_19 : decode cX11_shownNow 19 = .ok (.iload_n 1, 1) := by decide +kernel
theorem dX11_shownNow_20 : decode cX11_shownNow 20 = .ok (.ishl, 1) := by decide +kernel
theorem dX11_shownNow_21 : decode cX11_shownNow 21 = .ok (.if_icmp .ge 41, 3) := by decide +kernel
theorem dX11_shownNow_24 : decode cX11_shownNow 24 = .ok (.iload_n 3, 1) := by decide +kernel
theorem dX11_shownNow_25 : decode cX11_shownNow 25 = .ok (.iload_n 2, 1) := by decide +kernel
theorem dX11_shownNow_26 : decode cX11_shownNow 26 = .ok (.iconst (-1), 1) := by decide +kernel
theorem dX11_shownNow_27 : decode cX11_shownNow 27 = .ok (.if_icmp .eq 12, 3) := by decide +kernel
