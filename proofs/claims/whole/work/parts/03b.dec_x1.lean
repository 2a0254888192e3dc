theorem dX10_init_0 : decode cX10_init 0 = .ok (.aload_n 0, 1) := by decide +kernel
theorem dX10_init_1 : decode cX10_init 1 = .ok (.invokespecial 1, 3) := by decide +kernel
theorem dX10_init_4 : decode cX10_init 4 = .ok (.aload_n 0, 1) := by decide +kernel
theorem dX10_init_5 : decode cX10_init 5 = .ok (.iconst 4, 1) := by decide +kernel
theorem dX10_init_6 : decode cX10_init 6 = .ok (.anewarray 9, 3) := by decide +kernel
theorem dX10_init_9 : decode cX10_init 9 = .ok (.putfield 11, 3) := by decide +kernel
theorem dX10_init_12 : decode cX10_init 12 = .ok (.iconst 0, 1) := by decide +kernel
theorem dX10_init_13 : decode cX10_init 13 = .ok (.istore_n 1, 1) := by decide +kernel
theorem dX10_init_14 : decode cX10_init 14 = .ok (.iload_n 1, 1) := by decide +kernel
theorem dX10_init_15 : decode cX10_init 15 = .ok (.iconst 4, 1) := by decide +kernel
theorem dX10_init_16 : decode cX10_init 16 = .ok (.if_icmp .ge 22, 3) := by decide +kernel
theorem dX10_init_19 : decode cX10_init 19 = .ok (.aload_n 0, 1) := by decide +kernel
theorem dX10_init_20 : decode cX10_init 20 = .ok (.getfield 11, 3) := by decide +kernel
theorem dX10_init_23 : decode cX10_init 23 = .ok (.iload_n 1, 1) := by decide +kernel
theorem dX10_init_24 : decode cX10_init 24 = .ok (.new 9, 3) := by decide +kernel
theorem dX10_init_27 : decode cX10_init 27 = .ok (.dup, 1) := by decide +kernel
theorem dX10_init_28 : decode cX10_init 28 = .ok (.invokespecial 15, 3) := by decide +kernel
theorem dX10_init_31 : decode cX10_init 31 = .ok (.aastore, 1) := by decide +kernel
theorem dX10_init_32 : decode cX10_init 32 = .ok (.iinc 1 1, 3) := by decide +kernel
theorem dX10_init_35 : decode cX10_init 35 = .ok (.goto (-21), 3) := by decide +kernel
theorem dX10_init_38 : decode cX10_init 38 = .ok (.aload_n 0, 1) := by decide +kernel
theorem dX10_init_39 : decode cX10_init 39 = .ok (.iconst 4, 1) := by decide +kernel
theorem dX10_init_40 : decode cX10_init 40 = .ok (.anewarray 16, 3) := by decide +kernel
theorem dX10_init_43 : decode cX10_init 43 = .ok (.putfield 18, 3) := by decide +kernel
theorem dX10_init_46 : decode cX10_init 46 = .ok (.iconst 0, 1) := by decide +kernel
theorem dX10_init_47 : decode cX10_init 47 = .ok (.istore_n 1, 1) := by decide +kernel
theorem dX10_init_48 : decode cX10_init 48 = .ok (.iload_n 1, 1) := by decide +kernel
theorem dX10_init_49 : decode cX10_init 49 = .ok (.iconst 4, 1) := by decide +kernel
theorem dX10_init_50 : decode cX10_init 50 = .ok (.if_icmp .ge 22, 3) := by decide +kernel
theorem dX10_init_53 : decode cX10_init 53 = .ok (.aload_n 0, 1) := by decide +kernel
theorem dX10_init_54 : decode cX10_init 54 = .ok (.getfield 18, 3) := by decide +kernel
theorem dX10_init_57 : decode cX10_init 57 = .ok (.iload_n 1, 1) := by decide +kernel
theorem dX10_init_58 : decode cX10_init 58 = .ok (.new 16, 3) := by decide +kernel
theorem dX10_init_61 : decode cX10_init 61 = .ok (.dup, 1) := by decide +kernel
theorem dX10_init_62 : decode cX10_init 62 = .ok (.invokespecial 22, 3) := by decide +kernel
theorem dX10_init_65 : decode cX10_init 65 = .ok (.aastore, 1) := by decide +kernel
theorem dX10_init_66 : decode cX10_init 66 = .ok (.iinc 1 1, 3) := by decide +kernel
theorem dX10_init_69 : decode cX10_init 69 = .ok (.goto (-21), 3) := by decide +kernel
theorem dX10_init_72 : decode cX10_init 72 = .ok (.aload_n 0, 1) := by decide +kernel
theorem dX10_init_73 : decode cX10_init 73 = .ok (.new 23, 3) := by decide +kernel
theorem dX10_init_76 : decode cX10_init 76 = .ok (.dup, 1) := by decide +kernel
theorem dX10_init_77 : decode cX10_init 77 = .ok (.invokespecial 25, 3) := by decide +kernel
theorem dX10_init_80 : decode cX10_init 80 = .ok (.putfield 26, 3) := by decide +kernel
theorem dX10_init_83 : decode cX10_init 83 = .ok (.aload_n 0, 1) := by decide +kernel
theorem dX10_init_84 : decode cX10_init 84 = .ok (.new 30, 3) := by decide +kernel
theorem dX10_init_87 : decode cX10_init 87 = .ok (.dup, 1) := by decide +kernel
theorem dX10_init_88 : decode cX10_init 88 = .ok (.invokespecial 32, 3) := by decide +kernel
theorem dX10_init_91 : decode cX10_init 91 = .ok (.putfield 33, 3) := by decide +kernel
theorem dX10_init_94 : decode cX10_init 94 = .ok (.aload_n 0, 1) := by decide +kernel
theorem dX10_init_95 : decode cX10_init 95 = .ok (.new 37, 3) := by decide +kernel
theorem dX10_init_98 : decode cX10_init 98 = .ok (.dup, 1) := by decide +kernel
theorem dX10_init_99 : decode cX10_init 99 = .ok (.invokespecial 39, 3) := by decide +kernel
theorem dX10_init_102 : decode cX10_init 102 = .ok (.putfield 40, 3) := by decide +kernel
theorem dX10_init_105 : decode cX10_init 105 = .ok (.aload_n 0, 1) := by decide +kernel
theorem dX10_init_106 : decode cX10_init 106 = .ok (.bipush 8, 2) := by decide +kernel
theorem dX10_init_108 : decode cX10_init 108 = .ok (.putfield 44, 3) := by decide +kernel
theorem dX10_init_111 : decode cX10_init 111 = .ok (.aload_n 0, 1) := by decide +kernel
theorem dX10_init_112 : decode cX10_init 112 = .ok (.iconst 3, 1) := by decide +kernel
theorem dX10_init_113 : decode cX10_init 113 = .ok (.putfield 48, 3) := by decide +kernel
theorem dX10_init_116 : decode cX10_init 116 = .ok (.aload_n 0, 1) := by decide +kernel
theorem dX10_init_117 : decode cX10_init 117 = .ok (.iconst 0, 1) := by decide +kernel
theorem dX10_init_118 : decode cX10_init 118 = .ok (.putfield 51, 3) := by decide +kernel
theorem dX10_init_121 : decode cX10_init 121 = .ok (.return_, 1) := by decide +kernel
theorem dX10_sign_0 : decode cX10_sign 0 = .ok (.iload_n 1, 1) := by decide +kernel
theorem dX10_sign_1 : decode cX10_sign 1 = .ok (.invokestatic 54, 3) := by decide +kernel
theorem dX10_sign_4 : decode cX10_sign 4 = .ok (.ifCond .eq 10, 3) := by decide +kernel
theorem dX10_sign_7 : decode cX10_sign 7 = .ok (.iload_n 2, 1) := by decide +kernel
theorem dX10_sign_8 : decode cX10_sign 8 = .ok (.invokestatic 58, 3) := by decide +kernel
theorem dX10_sign_11 : decode cX10_sign 11 = .ok (.ifCond .ne 6, 3) := by decide +kernel
theorem dX10_sign_14 : decode cX10_sign 14 = .ok (.bipush (-2), 2) := by decide +kernel
theorem dX10_sign_16 : decode cX10_sign 16 = .ok (.ireturn, 1) := by decide +kernel
theorem dX10_sign_17 : decode cX10_sign 17 = .ok (.aload_n 0, 1) := by decide +kernel
theorem dX10_sign_18 : decode cX10_sign 18 = .ok (.getfield 11, 3) := by decide +kernel
theorem dX10_sign_21 : decode cX10_sign 21 = .ok (.iload_n 1, 1) := by decide +kernel
theorem dX10_sign_22 : decode cX10_sign 22 = .ok (.aaload, 1) := by decide +kernel
theorem dX10_sign_23 : decode cX10_sign 23 = .ok (.astore_n 3, 1) := by decide +kernel
theorem dX10_sign_24 : decode cX10_sign 24 = .ok (.aload_n 3, 1) := by decide +kernel
theorem dX10_sign_25 : decode cX10_sign 25 = .ok (.invokevirtual 61, 3) := by decide +kernel
theorem dX10_sign_28 : decode cX10_sign 28 = .ok (.ifCond .eq 6, 3) := by decide +kernel
theorem dX10_sign_31 : decode cX10_sign 31 = .ok (.bipush (-4), 2) := by decide +kernel
theorem dX10_sign_33 : decode cX10_sign 33 = .ok (.ireturn, 1) := by decide +kernel
theorem dX10_sign_34 : decode cX10_sign 34 = .ok (.aload_n 3, 1) := by decide +kernel
theorem dX10_sign_35 : decode cX10_sign 35 = .ok (.iload_n 2, 1) := by decide +kernel
theorem dX10_sign_36 : decode cX10_sign 36 = .ok (.invokevirtual 65, 3) := by decide +kernel
theorem dX10_sign_39 : decode cX10_sign 39 = .ok (.aload_n 3, 1) := by decide +kernel
theorem dX10_sign_40 : decode cX10_sign 40 = .ok (.getfield 69, 3) := by decide +kernel
theorem dX10_sign_43 : decode cX10_sign 43 = .ok (.ireturn, 1) := by decide +kernel
theorem dX10_read_0 : decode cX10_read 0 = .ok (.iload_n 1, 1) := by decide +kernel
theorem dX10_read_1 : decode cX10_read 1 = .ok (.invokestatic 72, 3) := by decide +kernel
theorem dX10_read_4 : decode cX10_read 4 = .ok (.ifCond .eq 10, 3) := by decide +kernel
theorem dX10_read_7 : decode cX10_read 7 = .ok (.iload_n 2, 1) := by decide +kernel
theorem dX10_read_8 : decode cX10_read 8 = .ok (.invokestatic 54, 3) := by decide +kernel
theorem dX10_read_11 : decode cX10_read 11 = .ok (.ifCond .ne 6, 3) := by decide +kernel
theorem dX10_read_14 : decode cX10_read 14 = .ok (.bipush (-2), 2) := by decide +kernel
theorem dX10_read_16 : decode cX10_read 16 = .ok (.ireturn, 1) := by decide +kernel
theorem dX10_read_17 : decode cX10_read 17 = .ok (.aload_n 0, 1) := by decide +kernel
theorem dX10_read_18 : decode cX10_read 18 = .ok (.getfield 18, 3) := by decide +kernel
theorem dX10_read_21 : decode cX10_read 21 = .ok (.iload_n 1, 1) := by decide +kernel
theorem dX10_read_22 : decode cX10_read 22 = .ok (.aaload, 1) := by decide +kernel
theorem dX10_read_23 : decode cX10_read 23 = .ok (.astore_n 3, 1) := by decide +kernel
theorem dX10_read_24 : decode cX10_read 24 = .ok (.aload_n 3, 1) := by decide +kernel
theorem dX10_read_25 : decode cX10_read 25 = .ok (.getfield 75, 3) := by decide +kernel
theorem dX10_read_28 : decode cX10_read 28 = .ok (.ifCond .eq 9, 3) := by decide +kernel
theorem dX10_read_31 : decode cX10_read 31 = .ok (.aload_n 0, 1) := by decide +kernel
theorem dX10_read_32 : decode cX10_read 32 = .ok (.iconst 1, 1) := by decide +kernel
theorem dX10_read_33 : decode cX10_read 33 = .ok (.invokevirtual 79, 3) := by decide +kernel
theorem dX10_read_36 : decode cX10_read 36 = .ok (.ireturn, 1) := by decide +kernel
theorem dX10_read_37 : decode cX10_read 37 = .ok (.aload_n 0, 1) := by decide +kernel
theorem dX10_read_38 : decode cX10_read 38 = .ok (.getfield 11, 3) := by decide +kernel
theorem dX10_read_41 : decode cX10_read 41 = .ok (.iload_n 2, 1) := by decide +kernel
theorem dX10_read_42 : decode cX10_read 42 = .ok (.aaload, 1) := by decide +kernel
theorem dX10_read_43 : decode cX10_read 43 = .ok (.astore 4, 2) := by decide +kernel
theorem dX10_read_45 : decode cX10_read 45 = .ok (.iconst 0, 1) := by decide +kernel
theorem dX10_read_46 : decode cX10_read 46 = .ok (.istore 5, 2) := by decide +kernel
theorem dX10_read_48 : decode cX10_read 48 = .ok (.iload 5, 2) := by decide +kernel
theorem dX10_read_50 : decode cX10_read 50 = .ok (.aload_n 3, 1) := by decide +kernel
theorem dX10_read_51 : decode cX10_read 51 = .ok (.getfield 83, 3) := by decide +kernel
theorem dX10_read_54 : decode cX10_read 54 = .ok (.if_icmp .ge 42, 3) := by decide +kernel
theorem dX10_read_57 : decode cX10_read 57 = .ok (.aload 4, 2) := by decide +kernel
theorem dX10_read_59 : decode cX10_read 59 = .ok (.invokevirtual 61, 3) := by decide +kernel
theorem dX10_read_62 : decode cX10_read 62 = .ok (.ifCond .ne 34, 3) := by decide +kernel
theorem dX10_read_65 : decode cX10_read 65 = .ok (.aload_n 3, 1) := by decide +kernel
theorem dX10_read_66 : decode cX10_read 66 = .ok (.getfield 86, 3) := by decide +kernel
theorem dX10_read_69 : decode cX10_read 69 = .ok (.iload 5, 2) := by decide +kernel
theorem dX10_read_71 : decode cX10_read 71 = .ok (.iaload, 1) := by decide +kernel
theorem dX10_read_72 : decode cX10_read 72 = .ok (.invokestatic 58, 3) := by decide +kernel
theorem dX10_read_75 : decode cX10_read 75 = .ok (.ifCond .eq 21, 3) := by decide +kernel
theorem dX10_read_78 : decode cX10_read 78 = .ok (.aload 4, 2) := by decide +kernel
theorem dX10_read_80 : decode cX10_read 80 = .ok (.aload_n 3, 1) := by decide +kernel
theorem dX10_read_81 : decode cX10_read 81 = .ok (.getfield 86, 3) := by decide +kernel
theorem dX10_read_84 : decode cX10_read 84 = .ok (.iload 5, 2) := by decide +kernel
theorem dX10_read_86 : decode cX10_read 86 = .ok (.iaload, 1) := by decide +kernel
theorem dX10_read_87 : decode cX10_read 87 = .ok (.invokevirtual 65, 3) := by decide +kernel
theorem dX10_read_90 : decode cX10_read 90 = .ok (.iinc 5 1, 3) := by decide +kernel
theorem dX10_read_93 : decode cX10_read 93 = .ok (.goto (-45), 3) := by decide +kernel
theorem dX10_read_96 : decode cX10_read 96 = .ok (.iload 5, 2) := by decide +kernel
theorem dX10_read_98 : decode cX10_read 98 = .ok (.ireturn, 1) := by decide +kernel
theorem dX10_clear_0 : decode cX10_clear 0 = .ok (.iload_n 1, 1) := by decide +kernel
theorem dX10_clear_1 : decode cX10_clear 1 = .ok (.invokestatic 54, 3) := by decide +kernel
theorem dX10_clear_4 : decode cX10_clear 4 = .ok (.ifCond .ne 6, 3) := by decide +kernel
theorem dX10_clear_7 : decode cX10_clear 7 = .ok (.bipush (-2), 2) := by decide +kernel
theorem dX10_clear_9 : decode cX10_clear 9 = .ok (.ireturn, 1) := by decide +kernel
theorem dX10_clear_10 : decode cX10_clear 10 = .ok (.aload_n 0, 1) := by decide +kernel
theorem dX10_clear_11 : decode cX10_clear 11 = .ok (.getfield 11, 3) := by decide +kernel
theorem dX10_clear_14 : decode cX10_clear 14 = .ok (.iload_n 1, 1) := by decide +kernel
theorem dX10_clear_15 : decode cX10_clear 15 = .ok (.aaload, 1) := by decide +kernel
theorem dX10_clear_16 : decode cX10_clear 16 = .ok (.getfield 69, 3) := by decide +kernel
theorem dX10_clear_19 : decode cX10_clear 19 = .ok (.istore_n 2, 1) := by decide +kernel
theorem dX10_clear_20 : decode cX10_clear 20 = .ok (.aload_n 0, 1) := by decide +kernel
theorem dX10_clear_21 : decode cX10_clear 21 = .ok (.getfield 11, 3) := by decide +kernel
theorem dX10_clear_24 : decode cX10_clear 24 = .ok (.iload_n 1, 1) := by decide +kernel
theorem dX10_clear_25 : decode cX10_clear 25 = .ok (.aaload, 1) := by decide +kernel
theorem dX10_clear_26 : decode cX10_clear 26 = .ok (.invokevirtual 90, 3) := by decide +kernel
theorem dX10_clear_29 : decode cX10_clear 29 = .ok (.iload_n 2, 1) := by decide +kernel
theorem dX10_clear_30 : decode cX10_clear 30 = .ok (.ireturn, 1) := by decide +kernel
theorem dX10_at_0 : decode cX10_at 0 = .ok (.iload_n 1, 1) := by decide +kernel
theorem dX10_at_1 : decode cX10_at 1 = .ok (.invokestatic 54, 3) := by decide +kernel
theorem dX10_at_4 : decode cX10_at 4 = .ok (.ifCond .eq 7, 3) := by decide +kernel
theorem dX10_at_7 : decode cX10_at 7 = .ok (.iload_n 2, 1) := by decide +kernel
theorem dX10_at_8 : decode cX10_at 8 = .ok (.ifCond .ge 6, 3) := by decide +kernel
theorem dX10_at_11 : decode cX10_at 11 = .ok (.bipush (-2), 2) := by decide +kernel
theorem dX10_at_13 : decode cX10_at 13 = .ok (.ireturn, 1) := by decide +kernel
theorem dX10_at_14 : decode cX10_at 14 = .ok (.iload_n 2, 1) := by decide +kernel
theorem dX10_at_15 : decode cX10_at 15 = .ok (.aload_n 0, 1) := by decide +kernel
theorem dX10_at_16 : decode cX10_at 16 = .ok (.getfield 11, 3) := by decide +kernel
theorem dX10_at_19 : decode cX10_at 19 = .ok (.iload_n 1, 1) := by decide +kernel
theorem dX10_at_20 : decode cX10_at 20 = .ok (.aaload, 1) := by decide +kernel
theorem dX10_at_21 : decode cX10_at 21 = .ok (.getfield 69, 3) := by decide +kernel
theorem dX10_at_24 : decode cX10_at 24 = .ok (.if_icmp .ge 16, 3) := by decide +kernel
theorem dX10_at_27 : decode cX10_at 27 = .ok (.aload_n 0, 1) := by decide +kernel
theorem dX10_at_28 : decode cX10_at 28 = .ok (.getfield 11, 3) := by decide +kernel
theorem dX10_at_31 : decode cX10_at 31 = .ok (.iload_n 1, 1) := by decide +kernel
theorem dX10_at_32 : decode cX10_at 32 = .ok (.aaload, 1) := by decide +kernel
theorem dX10_at_33 : decode cX10_at 33 = .ok (.iload_n 2, 1) := by decide +kernel
theorem dX10_at_34 : decode cX10_at 34 = .ok (.invokevirtual 93, 3) := by decide +kernel
theorem dX10_at_37 : decode cX10_at 37 = .ok (.goto 5, 3) := by decide +kernel
theorem dX10_at_40 : decode cX10_at 40 = .ok (.bipush (-3), 2) := by decide +kernel
theorem dX10_at_42 : decode cX10_at 42 = .ok (.ireturn, 1) := by decide +kernel
theorem dX10_set_0 : decode cX10_set 0 = .ok (.iload_n 1, 1) := by decide +kernel
theorem dX10_set_1 : decode cX10_set 1 = .ok (.ifCond .ne 26, 3) := by decide +kernel
theorem dX10_set_4 : decode cX10_set 4 = .ok (.iload_n 2, 1) := by decide +kernel
theorem dX10_set_5 : decode cX10_set 5 = .ok (.iconst 1, 1) := by decide +kernel
theorem dX10_set_6 : decode cX10_set 6 = .ok (.if_icmp .lt 21, 3) := by decide +kernel
theorem dX10_set_9 : decode cX10_set 9 = .ok (.iload_n 2, 1) := by decide +kernel
theorem dX10_set_10 : decode cX10_set 10 = .ok (.bipush 16, 2) := by decide +kernel
theorem dX10_set_12 : decode cX10_set 12 = .ok (.if_icmp .ge 15, 3) := by decide +kernel
theorem dX10_set_15 : decode cX10_set 15 = .ok (.aload_n 0, 1) := by decide +kernel
theorem dX10_set_16 : decode cX10_set 16 = .ok (.getfield 44, 3) := by decide +kernel
theorem dX10_set_19 : decode cX10_set 19 = .ok (.istore_n 3, 1) := by decide +kernel
theorem dX10_set_20 : decode cX10_set 20 = .ok (.aload_n 0, 1) := by decide +kernel
theorem dX10_set_21 : decode cX10_set 21 = .ok (.iload_n 2, 1) := by decide +kernel
theorem dX10_set_22 : decode cX10_set 22 = .ok (.putfield 44, 3) := by decide +kernel
theorem dX10_set_25 : decode cX10_set 25 = .ok (.iload_n 3, 1) := by decide +kernel
theorem dX10_set_26 : decode cX10_set 26 = .ok (.ireturn, 1) := by decide +kernel
theorem dX10_set_27 : decode cX10_set 27 = .ok (.iload_n 1, 1) := by decide +kernel
theorem dX10_set_28 : decode cX10_set 28 = .ok (.iconst 1, 1) := by decide +kernel
theorem dX10_set_29 : decode cX10_set 29 = .ok (.if_icmp .ne 33, 3) := by decide +kernel
theorem dX10_set_32 : decode cX10_set 32 = .ok (.iload_n 2, 1) := by decide +kernel
theorem dX10_set_33 : decode cX10_set 33 = .ok (.iconst 2, 1) := by decide +kernel
theorem dX10_set_34 : decode cX10_set 34 = .ok (.if_icmp .lt 28, 3) := by decide +kernel
theorem dX10_set_37 : decode cX10_set 37 = .ok (.iload_n 2, 1) := by decide +kernel
theorem dX10_set_38 : decode cX10_set 38 = .ok (.bipush 127, 2) := by decide +kernel
theorem dX10_set_40 : decode cX10_set 40 = .ok (.if_icmp .gt 22, 3) := by decide +kernel
theorem dX10_set_43 : decode cX10_set 43 = .ok (.aload_n 0, 1) := by decide +kernel
theorem dX10_set_44 : decode cX10_set 44 = .ok (.getfield 48, 3) := by decide +kernel
theorem dX10_set_47 : decode cX10_set 47 = .ok (.istore_n 3, 1) := by decide +kernel
theorem dX10_set_48 : decode cX10_set 48 = .ok (.aload_n 0, 1) := by decide +kernel
theorem dX10_set_49 : decode cX10_set 49 = .ok (.iload_n 2, 1) := by decide +kernel
theorem dX10_set_50 : decode cX10_set 50 = .ok (.putfield 48, 3) := by decide +kernel
theorem dX10_set_53 : decode cX10_set 53 = .ok (.aload_n 0, 1) := by decide +kernel
theorem dX10_set_54 : decode cX10_set 54 = .ok (.getfield 33, 3) := by decide +kernel
theorem dX10_set_57 : decode cX10_set 57 = .ok (.invokevirtual 96, 3) := by decide +kernel
theorem dX10_set_60 : decode cX10_set 60 = .ok (.iload_n 3, 1) := by decide +kernel
theorem dX10_set_61 : decode cX10_set 61 = .ok (.ireturn, 1) := by decide +kernel
theorem dX10_set_62 : decode cX10_set 62 = .ok (.bipush (-2), 2) := by decide +kernel
theorem dX10_set_64 : decode cX10_set 64 = .ok (.ireturn, 1) := by decide +kernel
theorem dX10_shows_0 : decode cX10_shows 0 = .ok (.iload_n 1, 1) := by decide +kernel
theorem dX10_shows_1 : decode cX10_shows 1 = .ok (.invokestatic 54, 3) := by decide +kernel
theorem dX10_shows_4 : decode cX10_shows 4 = .ok (.ifCond .eq 10, 3) := by decide +kernel
theorem dX10_shows_7 : decode cX10_shows 7 = .ok (.iload_n 2, 1) := by decide +kernel
theorem dX10_shows_8 : decode cX10_shows 8 = .ok (.invokestatic 99, 3) := by decide +kernel
theorem dX10_shows_11 : decode cX10_shows 11 = .ok (.ifCond .ne 6, 3) := by decide +kernel
theorem dX10_shows_14 : decode cX10_shows 14 = .ok (.bipush (-2), 2) := by decide +kernel
theorem dX10_shows_16 : decode cX10_shows 16 = .ok (.ireturn, 1) := by decide +kernel
theorem dX10_shows_17 : decode cX10_shows 17 = .ok (.aload_n 0, 1) := by decide +kernel
theorem dX10_shows_18 : decode cX10_shows 18 = .ok (.getfield 11, 3) := by decide +kernel
theorem dX10_shows_21 : decode cX10_shows 21 = .ok (.iload_n 1, 1) := by decide +kernel
theorem dX10_shows_22 : decode cX10_shows 22 = .ok (.aaload, 1) := by decide +kernel
theorem dX10_shows_23 : decode cX10_shows 23 = .ok (.invokevirtual 102, 3) := by decide +kernel
theorem dX10_shows_26 : decode cX10_shows 26 = .ok (.ifCond .eq 17, 3) := by decide +kernel
theorem dX10_shows_29 : decode cX10_shows 29 = .ok (.aload_n 0, 1) := by decide +kernel
theorem dX10_shows_30 : decode cX10_shows 30 = .ok (.aload_n 0, 1) := by decide +kernel
theorem dX10_shows_31 : decode cX10_shows 31 = .ok (.getfield 11, 3) := by decide +kernel
theorem dX10_shows_34 : decode cX10_shows 34 = .ok (.iload_n 1, 1) := by decide +kernel
theorem dX10_shows_35 : decode cX10_shows 35 = .ok (.aaload, 1) := by decide +kernel
theorem dX10_shows_36 : decode cX10_shows 36 = .ok (.iload_n 2, 1) := by decide +kernel
theorem dX10_shows_37 : decode cX10_shows 37 = .ok (.invokevirtual 105, 3) := by decide +kernel
theorem dX10_shows_40 : decode cX10_shows 40 = .ok (.goto 5, 3) := by decide +kernel
theorem dX10_shows_43 : decode cX10_shows 43 = .ok (.bipush (-3), 2) := by decide +kernel
theorem dX10_shows_45 : decode cX10_shows 45 = .ok (.ireturn, 1) := by decide +kernel
theorem dX10_type_0 : decode cX10_type 0 = .ok (.iload_n 1, 1) := by decide +kernel
theorem dX10_type_1 : decode cX10_type 1 = .ok (.ifCond .lt 10, 3) := by decide +kernel
theorem dX10_type_4 : decode cX10_type 4 = .ok (.iload_n 1, 1) := by decide +kernel
theorem dX10_type_5 : decode cX10_type 5 = .ok (.sipush 255, 3) := by decide +kernel
theorem dX10_type_8 : decode cX10_type 8 = .ok (.if_icmp .le 6, 3) := by decide +kernel
theorem dX10_type_11 : decode cX10_type 11 = .ok (.bipush (-2), 2) := by decide +kernel
theorem dX10_type_13 : decode cX10_type 13 = .ok (.ireturn, 1) := by decide +kernel
theorem dX10_type_14 : decode cX10_type 14 = .ok (.aload_n 0, 1) := by decide +kernel
theorem dX10_type_15 : decode cX10_type 15 = .ok (.getfield 26, 3) := by decide +kernel
theorem dX10_type_18 : decode cX10_type 18 = .ok (.getfield 109, 3) := by decide +kernel
theorem dX10_type_21 : decode cX10_type 21 = .ok (.bipush 60, 2) := by decide +kernel
theorem dX10_type_23 : decode cX10_type 23 = .ok (.if_icmp .lt 6, 3) := by decide +kernel
theorem dX10_type_26 : decode cX10_type 26 = .ok (.bipush (-4), 2) := by decide +kernel
theorem dX10_type_28 : decode cX10_type 28 = .ok (.ireturn, 1) := by decide +kernel
theorem dX10_type_29 : decode cX10_type 29 = .ok (.aload_n 0, 1) := by decide +kernel
theorem dX10_type_30 : decode cX10_type 30 = .ok (.getfield 26, 3) := by decide +kernel
theorem dX10_type_33 : decode cX10_type 33 = .ok (.iload_n 1, 1) := by decide +kernel
theorem dX10_type_34 : decode cX10_type 34 = .ok (.invokevirtual 110, 3) := by decide +kernel
theorem dX10_type_37 : decode cX10_type 37 = .ok (.aload_n 0, 1) := by decide +kernel
theorem dX10_type_38 : decode cX10_type 38 = .ok (.getfield 33, 3) := by decide +kernel
theorem dX10_type_41 : decode cX10_type 41 = .ok (.invokevirtual 96, 3) := by decide +kernel
theorem dX10_type_44 : decode cX10_type 44 = .ok (.aload_n 0, 1) := by decide +kernel
theorem dX10_type_45 : decode cX10_type 45 = .ok (.getfield 26, 3) := by decide +kernel
theorem dX10_type_48 : decode cX10_type 48 = .ok (.getfield 109, 3) := by decide +kernel
theorem dX10_type_51 : decode cX10_type 51 = .ok (.ireturn, 1) := by decide +kernel
theorem dX10_wipe_0 : decode cX10_wipe 0 = .ok (.aload_n 0, 1) := by decide +kernel
theorem dX10_wipe_1 : decode cX10_wipe 1 = .ok (.getfield 26, 3) := by decide +kernel
theorem dX10_wipe_4 : decode cX10_wipe 4 = .ok (.getfield 109, 3) := by decide +kernel
theorem dX10_wipe_7 : decode cX10_wipe 7 = .ok (.istore_n 1, 1) := by decide +kernel
theorem dX10_wipe_8 : decode cX10_wipe 8 = .ok (.aload_n 0, 1) := by decide +kernel
theorem dX10_wipe_9 : decode cX10_wipe 9 = .ok (.getfield 26, 3) := by decide +kernel
theorem dX10_wipe_12 : decode cX10_wipe 12 = .ok (.invokevirtual 111, 3) := by decide +kernel
theorem dX10_wipe_15 : decode cX10_wipe 15 = .ok (.aload_n 0, 1) := by decide +kernel
theorem dX10_wipe_16 : decode cX10_wipe 16 = .ok (.getfield 33, 3) := by decide +kernel
theorem dX10_wipe_19 : decode cX10_wipe 19 = .ok (.invokevirtual 96, 3) := by decide +kernel
theorem dX10_wipe_22 : decode cX10_wipe 22 = .ok (.iload_n 1, 1) := by decide +kernel
theorem dX10_wipe_23 : decode cX10_wipe 23 = .ok (.ireturn, 1) := by decide +kernel
theorem dX10_fault_0 : decode cX10_fault 0 = .ok (.aload_n 0, 1) := by decide +kernel
theorem dX10_fault_1 : decode cX10_fault 1 = .ok (.getfield 26, 3) := by decide +kernel
theorem dX10_fault_4 : decode cX10_fault 4 = .ok (.invokevirtual 112, 3) := by decide +kernel
theorem dX10_fault_7 : decode cX10_fault 7 = .ok (.ireturn, 1) := by decide +kernel
theorem dX10_holds_0 : decode cX10_holds 0 = .ok (.iload_n 1, 1) := by decide +kernel
theorem dX10_holds_1 : decode cX10_holds 1 = .ok (.invokestatic 54, 3) := by decide +kernel
theorem dX10_holds_4 : decode cX10_holds 4 = .ok (.ifCond .ne 6, 3) := by decide +kernel
theorem dX10_holds_7 : decode cX10_holds 7 = .ok (.bipush (-2), 2) := by decide +kernel
theorem dX10_holds_9 : decode cX10_holds 9 = .ok (.ireturn, 1) := by decide +kernel
theorem dX10_holds_10 : decode cX10_holds 10 = .ok (.aload_n 0, 1) := by decide +kernel
theorem dX10_holds_11 : decode cX10_holds 11 = .ok (.getfield 11, 3) := by decide +kernel
theorem dX10_holds_14 : decode cX10_holds 14 = .ok (.iload_n 1, 1) := by decide +kernel
theorem dX10_holds_15 : decode cX10_holds 15 = .ok (.aaload, 1) := by decide +kernel
theorem dX10_holds_16 : decode cX10_holds 16 = .ok (.astore_n 2, 1) := by decide +kernel
theorem dX10_holds_17 : decode cX10_holds 17 = .ok (.aload_n 2, 1) := by decide +kernel
theorem dX10_holds_18 : decode cX10_holds 18 = .ok (.invokevirtual 102, 3) := by decide +kernel
theorem dX10_holds_21 : decode cX10_holds 21 = .ok (.ifCond .eq 13, 3) := by decide +kernel
theorem dX10_holds_24 : decode cX10_holds 24 = .ok (.aload_n 0, 1) := by decide +kernel
theorem dX10_holds_25 : decode cX10_holds 25 = .ok (.getfield 26, 3) := by decide +kernel
theorem dX10_holds_28 : decode cX10_holds 28 = .ok (.invokevirtual 116, 3) := by decide +kernel
theorem dX10_holds_31 : decode cX10_holds 31 = .ok (.ifCond .eq 6, 3) := by decide +kernel
theorem dX10_holds_34 : decode cX10_holds 34 = .ok (.bipush (-3), 2) := by decide +kernel
theorem dX10_holds_36 : decode cX10_holds 36 = .ok (.ireturn, 1) := by decide +kernel
theorem dX10_holds_37 : decode cX10_holds 37 = .ok (.aload_n 0, 1) := by decide +kernel
theorem dX10_holds_38 : decode cX10_holds 38 = .ok (.getfield 26, 3) := by decide +kernel
theorem dX10_holds_41 : decode cX10_holds 41 = .ok (.aload_n 2, 1) := by decide +kernel
theorem dX10_holds_42 : decode cX10_holds 42 = .ok (.getfield 69, 3) := by decide +kernel
theorem dX10_holds_45 : decode cX10_holds 45 = .ok (.aload_n 2, 1) := by decide +kernel
theorem dX10_holds_46 : decode cX10_holds 46 = .ok (.getfield 119, 3) := by decide +kernel
theorem dX10_holds_49 : decode cX10_holds 49 = .ok (.aload_n 0, 1) := by decide +kernel
theorem dX10_holds_50 : decode cX10_holds 50 = .ok (.getfield 48, 3) := by decide +kernel
theorem dX10_holds_53 : decode cX10_holds 53 = .ok (.invokevirtual 122, 3) := by decide +kernel
theorem dX10_holds_56 : decode cX10_holds 56 = .ok (.ifCond .eq 7, 3) := by decide +kernel
theorem dX10_holds_59 : decode cX10_holds 59 = .ok (.iconst 1, 1) := by decide +kernel
theorem dX10_holds_60 : decode cX10_holds 60 = .ok (.goto 4, 3) := by decide +kernel
theorem dX10_holds_63 : decode cX10_holds 63 = .ok (.iconst 0, 1) := by decide +kernel
theorem dX10_holds_64 : decode cX10_holds 64 = .ok (.ireturn, 1) := by decide +kernel
theorem dX10_shown_0 : decode cX10_shown 0 = .ok (.iload_n 1, 1) := by decide +kernel
theorem dX10_shown_1 : decode cX10_shown 1 = .ok (.invokestatic 126, 3) := by decide +kernel
theorem dX10_shown_4 : decode cX10_shown 4 = .ok (.ifCond .eq 14, 3) := by decide +kernel
theorem dX10_shown_7 : decode cX10_shown 7 = .ok (.iload_n 2, 1) := by decide +kernel
theorem dX10_shown_8 : decode cX10_shown 8 = .ok (.iconst (-1), 1) := by decide +kernel
theorem dX10_shown_9 : decode cX10_shown 9 = .ok (.if_icmp .lt 9, 3) := by decide +kernel
theorem dX10_shown_12 : decode cX10_shown 12 = .ok (.iload_n 2, 1) := by decide +kernel
theorem dX10_shown_13 : decode cX10_shown 13 = .ok (.bipush 15, 2) := by decide +kernel
theorem dX10_shown_15 : decode cX10_shown 15 = .ok (.if_icmp .le 6, 3) := by decide +kernel
theorem dX10_shown_18 : decode cX10_shown 18 = .ok (.bipush (-2), 2) := by decide +kernel
theorem dX10_shown_20 : decode cX10_shown 20 = .ok (.ireturn, 1) := by decide +kernel
theorem dX10_shown_21 : decode cX10_shown 21 = .ok (.aload_n 0, 1) := by decide +kernel
theorem dX10_shown_22 : decode cX10_shown 22 = .ok (.getfield 26, 3) := by decide +kernel
theorem dX10_shown_25 : decode cX10_shown 25 = .ok (.invokevirtual 116, 3) := by decide +kernel
theorem dX10_shown_28 : decode cX10_shown 28 = .ok (.ifCond .eq 6, 3) := by decide +kernel
theorem dX10_shown_31 : decode cX10_shown 31 = .ok (.bipush (-3), 2) := by decide +kernel
theorem dX10_shown_33 : decode cX10_shown 33 = .ok (.ireturn, 1) := by decide +kernel
theorem dX10_shown_34 : decode cX10_shown 34 = .ok (.aload_n 0, 1) := by decide +kernel
theorem dX10_shown_35 : decode cX10_shown 35 = .ok (.getfield 33, 3) := by decide +kernel
theorem dX10_shown_38 : decode cX10_shown 38 = .ok (.iload_n 1, 1) := by decide +kernel
theorem dX10_shown_39 : decode cX10_shown 39 = .ok (.aload_n 0, 1) := by decide +kernel
theorem dX10_shown_40 : decode cX10_shown 40 = .ok (.getfield 26, 3) := by decide +kernel
theorem dX10_shown_43 : decode cX10_shown 43 = .ok (.aload_n 0, 1) := by decide +kernel
theorem dX10_shown_44 : decode cX10_shown 44 = .ok (.getfield 48, 3) := by decide +kernel
theorem dX10_shown_47 : decode cX10_shown 47 = .ok (.invokevirtual 129, 3) := by decide +kernel
theorem dX10_shown_50 : decode cX10_shown 50 = .ok (.iload_n 2, 1) := by decide +kernel
theorem dX10_shown_51 : decode cX10_shown 51 = .ok (.iconst (-1), 1) := by decide +kernel
theorem dX10_shown_52 : decode cX10_shown 52 = .ok (.if_icmp .ne 18, 3) := by decide +kernel
theorem dX10_shown_55 : decode cX10_shown 55 = .ok (.aload_n 0, 1) := by decide +kernel
theorem dX10_shown_56 : decode cX10_shown 56 = .ok (.getfield 33, 3) := by decide +kernel
theorem dX10_shown_59 : decode cX10_shown 59 = .ok (.getfield 133, 3) := by decide +kernel
theorem dX10_shown_62 : decode cX10_shown 62 = .ok (.iload_n 1, 1) := by decide +kernel
theorem dX10_shown_63 : decode cX10_shown 63 = .ok (.aaload, 1) := by decide +kernel
theorem dX10_shown_64 : decode cX10_shown 64 = .ok (.invokestatic 137, 3) := by decide +kernel
theorem dX10_shown_67 : decode cX10_shown 67 = .ok (.goto 14, 3) := by decide +kernel
theorem dX10_shown_70 : decode cX10_shown 70 = .ok (.aload_n 0, 1) := by decide +kernel
theorem dX10_shown_71 : decode cX10_shown 71 = .ok (.getfield 33, 3) := by decide +kernel
theorem dX10_shown_74 : decode cX10_shown 74 = .ok (.getfield 133, 3) := by decide +kernel
theorem dX10_shown_77 : decode cX10_shown 77 = .ok (.iload_n 1, 1) := by decide +kernel
theorem dX10_shown_78 : decode cX10_shown 78 = .ok (.aaload, 1) := by decide +kernel
theorem dX10_shown_79 : decode cX10_shown 79 = .ok (.iload_n 2, 1) := by decide +kernel
theorem dX10_shown_80 : decode cX10_shown 80 = .ok (.iaload, 1) := by decide +kernel
theorem dX10_shown_81 : decode cX10_shown 81 = .ok (.ireturn, 1) := by decide +kernel
theorem dX10_nth_0 : decode cX10_nth 0 = .ok (.iload_n 1, 1) := by decide +kernel
theorem dX10_nth_1 : decode cX10_nth 1 = .ok (.invokestatic 126, 3) := by decide +kernel
theorem dX10_nth_4 : decode cX10_nth 4 = .ok (.ifCond .eq 7, 3) := by decide +kernel
theorem dX10_nth_7 : decode cX10_nth 7 = .ok (.iload_n 2, 1) := by decide +kernel
theorem dX10_nth_8 : decode cX10_nth 8 = .ok (.ifCond .ge 6, 3) := by decide +kernel
theorem dX10_nth_11 : decode cX10_nth 11 = .ok (.bipush (-2), 2) := by decide +kernel
theorem dX10_nth_13 : decode cX10_nth 13 = .ok (.ireturn, 1) := by decide +kernel
theorem dX10_nth_14 : decode cX10_nth 14 = .ok (.aload_n 0, 1) := by decide +kernel
theorem dX10_nth_15 : decode cX10_nth 15 = .ok (.getfield 26, 3) := by decide +kernel
theorem dX10_nth_18 : decode cX10_nth 18 = .ok (.invokevirtual 116, 3) := by decide +kernel
theorem dX10_nth_21 : decode cX10_nth 21 = .ok (.ifCond .eq 6, 3) := by decide +kernel
theorem dX10_nth_24 : decode cX10_nth 24 = .ok (.bipush (-3), 2) := by decide +kernel
theorem dX10_nth_26 : decode cX10_nth 26 = .ok (.ireturn, 1) := by decide +kernel
theorem dX10_nth_27 : decode cX10_nth 27 = .ok (.iconst 0, 1) := by decide +kernel
theorem dX10_nth_28 : decode cX10_nth 28 = .ok (.istore_n 3, 1) := by decide +kernel
theorem dX10_nth_29 : decode cX10_nth 29 = .ok (.iconst 0, 1) := by decide +kernel
theorem dX10_nth_30 : decode cX10_nth 30 = .ok (.istore 4, 2) := by decide +kernel
theorem dX10_nth_32 : decode cX10_nth 32 = .ok (.iload 4, 2) := by decide +kernel
theorem dX10_nth_34 : decode cX10_nth 34 = .ok (.iconst 1, 1) := by decide +kernel
theorem dX10_nth_35 : decode cX10_nth 35 = .ok (.iload_n 1, 1) := by decide +kernel
theorem dX10_nth_36 : decode cX10_nth 36 = .ok (.ishl, 1) := by decide +kernel
theorem dX10_nth_37 : decode cX10_nth 37 = .ok (.if_icmp .ge 41, 3) := by decide +kernel
theorem dX10_nth_40 : decode cX10_nth 40 = .ok (.aload_n 0, 1) := by decide +kernel
theorem dX10_nth_41 : decode cX10_nth 41 = .ok (.getfield 26, 3) := by decide +kernel
theorem dX10_nth_44 : decode cX10_nth 44 = .ok (.iload_n 1, 1) := by decide +kernel
theorem dX10_nth_45 : decode cX10_nth 45 = .ok (.iload 4, 2) := by decide +kernel
theorem dX10_nth_47 : decode cX10_nth 47 = .ok (.aload_n 0, 1) := by decide +kernel
theorem dX10_nth_48 : decode cX10_nth 48 = .ok (.getfield 48, 3) := by decide +kernel
theorem dX10_nth_51 : decode cX10_nth 51 = .ok (.invokevirtual 122, 3) := by decide +kernel
theorem dX10_nth_54 : decode cX10_nth 54 = .ok (.ifCond .eq 18, 3) := by decide +kernel
theorem dX10_nth_57 : decode cX10_nth 57 = .ok (.iload_n 3, 1) := by decide +kernel
theorem dX10_nth_58 : decode cX10_nth 58 = .ok (.iload_n 2, 1) := by decide +kernel
theorem dX10_nth_59 : decode cX10_nth 59 = .ok (.if_icmp .ne 10, 3) := by decide +kernel
theorem dX10_nth_62 : decode cX10_nth 62 = .ok (.iconst 1, 1) := by decide +kernel
theorem dX10_nth_63 : decode cX10_nth 63 = .ok (.iload_n 1, 1) := by decide +kernel
theorem dX10_nth_64 : decode cX10_nth 64 = .ok (.ishl, 1) := by decide +kernel
theorem dX10_nth_65 : decode cX10_nth 65 = .ok (.iload 4, 2) := by decide +kernel
theorem dX10_nth_67 : decode cX10_nth 67 = .ok (.ior, 1) := by decide +kernel
theorem dX10_nth_68 : decode cX10_nth 68 = .ok (.ireturn, 1) := by decide +kernel
theorem dX10_nth_69 : decode cX10_nth 69 = .ok (.iinc 3 1, 3) := by decide +kernel
theorem dX10_nth_72 : decode cX10_nth 72 = .ok (.iinc 4 1, 3) := by decide +kernel
theorem dX10_nth_75 : decode cX10_nth 75 = .ok (.goto (-43), 3) := by decide +kernel
theorem dX10_nth_78 : decode cX10_nth 78 = .ok (.iconst (-1), 1) := by decide +kernel
theorem dX10_nth_79 : decode cX10_nth 79 = .ok (.ireturn, 1) := by decide +kernel
theorem dX10_share_0 : decode cX10_share 0 = .ok (.iload_n 1, 1) := by decide +kernel
theorem dX10_share_1 : decode cX10_share 1 = .ok (.invokestatic 126, 3) := by decide +kernel
theorem dX10_share_4 : decode cX10_share 4 = .ok (.ifCond .eq 10, 3) := by decide +kernel
theorem dX10_share_7 : decode cX10_share 7 = .ok (.iload_n 2, 1) := by decide +kernel
theorem dX10_share_8 : decode cX10_share 8 = .ok (.invokestatic 143, 3) := by decide +kernel
theorem dX10_share_11 : decode cX10_share 11 = .ok (.ifCond .ne 9, 3) := by decide +kernel
theorem dX10_share_14 : decode cX10_share 14 = .ok (.bipush (-2), 2) := by decide +kernel
theorem dX10_share_16 : decode cX10_share 16 = .ok (.invokestatic 146, 3) := by decide +kernel
theorem dX10_share_19 : decode cX10_share 19 = .ok (.lreturn, 1) := by decide +kernel
theorem dX10_share_20 : decode cX10_share 20 = .ok (.aload_n 0, 1) := by decide +kernel
theorem dX10_share_21 : decode cX10_share 21 = .ok (.getfield 26, 3) := by decide +kernel
theorem dX10_share_24 : decode cX10_share 24 = .ok (.invokevirtual 116, 3) := by decide +kernel
theorem dX10_share_27 : decode cX10_share 27 = .ok (.ifCond .eq 9, 3) := by decide +kernel
theorem dX10_share_30 : decode cX10_share 30 = .ok (.bipush (-3), 2) := by decide +kernel
theorem dX10_share_32 : decode cX10_share 32 = .ok (.invokestatic 146, 3) := by decide +kernel
theorem dX10_share_35 : decode cX10_share 35 = .ok (.lreturn, 1) := by decide +kernel
theorem dX10_share_36 : decode cX10_share 36 = .ok (.aload_n 0, 1) := by decide +kernel
theorem dX10_share_37 : decode cX10_share 37 = .ok (.getfield 33, 3) := by decide +kernel
theorem dX10_share_40 : decode cX10_share 40 = .ok (.iload_n 1, 1) := by decide +kernel
theorem dX10_share_41 : decode cX10_share 41 = .ok (.aload_n 0, 1) := by decide +kernel
theorem dX10_share_42 : decode cX10_share 42 = .ok (.getfield 26, 3) := by decide +kernel
theorem dX10_share_45 : decode cX10_share 45 = .ok (.aload_n 0, 1) := by decide +kernel
theorem dX10_share_46 : decode cX10_share 46 = .ok (.getfield 48, 3) := by decide +kernel
theorem dX10_share_49 : decode cX10_share 49 = .ok (.invokevirtual 129, 3) := by decide +kernel
theorem dX10_share_52 : decode cX10_share 52 = .ok (.aload_n 0, 1) := by decide +kernel
theorem dX10_share_53 : decode cX10_share 53 = .ok (.getfield 33, 3) := by decide +kernel
theorem dX10_share_56 : decode cX10_share 56 = .ok (.getfield 133, 3) := by decide +kernel
theorem dX10_share_59 : decode cX10_share 59 = .ok (.iload_n 1, 1) := by decide +kernel
theorem dX10_share_60 : decode cX10_share 60 = .ok (.aaload, 1) := by decide +kernel
theorem dX10_share_61 : decode cX10_share 61 = .ok (.iload_n 1, 1) := by decide +kernel
theorem dX10_share_62 : decode cX10_share 62 = .ok (.aload_n 0, 1) := by decide +kernel
theorem dX10_share_63 : decode cX10_share 63 = .ok (.getfield 44, 3) := by decide +kernel
theorem dX10_share_66 : decode cX10_share 66 = .ok (.iload_n 2, 1) := by decide +kernel
theorem dX10_share_67 : decode cX10_share 67 = .ok (.invokestatic 150, 3) := by decide +kernel
theorem dX10_share_70 : decode cX10_share 70 = .ok (.lreturn, 1) := by decide +kernel
theorem dX10_fills_0 : decode cX10_fills 0 = .ok (.iload_n 1, 1) := by decide +kernel
theorem dX10_fills_1 : decode cX10_fills 1 = .ok (.invokestatic 54, 3) := by decide +kernel
theorem dX10_fills_4 : decode cX10_fills 4 = .ok (.ifCond .eq 10, 3) := by decide +kernel
theorem dX10_fills_7 : decode cX10_fills 7 = .ok (.iload_n 2, 1) := by decide +kernel
theorem dX10_fills_8 : decode cX10_fills 8 = .ok (.invokestatic 143, 3) := by decide +kernel
theorem dX10_fills_11 : decode cX10_fills 11 = .ok (.ifCond .ne 6, 3) := by decide +kernel
theorem dX10_fills_14 : decode cX10_fills 14 = .ok (.bipush (-2), 2) := by decide +kernel
theorem dX10_fills_16 : decode cX10_fills 16 = .ok (.ireturn, 1) := by decide +kernel
theorem dX10_fills_17 : decode cX10_fills 17 = .ok (.iload_n 2, 1) := by decide +kernel
theorem dX10_fills_18 : decode cX10_fills 18 = .ok (.ifCond .ne 18, 3) := by decide +kernel
theorem dX10_fills_21 : decode cX10_fills 21 = .ok (.iconst 1, 1) := by decide +kernel
theorem dX10_fills_22 : decode cX10_fills 22 = .ok (.aload_n 0, 1) := by decide +kernel
theorem dX10_fills_23 : decode cX10_fills 23 = .ok (.getfield 11, 3) := by decide +kernel
theorem dX10_fills_26 : decode cX10_fills 26 = .ok (.iload_n 1, 1) := by decide +kernel
theorem dX10_fills_27 : decode cX10_fills 27 = .ok (.aaload, 1) := by decide +kernel
theorem dX10_fills_28 : decode cX10_fills 28 = .ok (.getfield 154, 3) := by decide +kernel
theorem dX10_fills_31 : decode cX10_fills 31 = .ok (.invokestatic 157, 3) := by decide +kernel
theorem dX10_fills_34 : decode cX10_fills 34 = .ok (.ishl, 1) := by decide +kernel
theorem dX10_fills_35 : decode cX10_fills 35 = .ok (.ireturn, 1) := by decide +kernel
theorem dX10_fills_36 : decode cX10_fills 36 = .ok (.aload_n 0, 1) := by decide +kernel
theorem dX10_fills_37 : decode cX10_fills 37 = .ok (.getfield 26, 3) := by decide +kernel
theorem dX10_fills_40 : decode cX10_fills 40 = .ok (.invokevirtual 116, 3) := by decide +kernel
theorem dX10_fills_43 : decode cX10_fills 43 = .ok (.ifCond .eq 6, 3) := by decide +kernel
theorem dX10_fills_46 : decode cX10_fills 46 = .ok (.bipush (-3), 2) := by decide +kernel
theorem dX10_fills_48 : decode cX10_fills 48 = .ok (.ireturn, 1) := by decide +kernel
theorem dX10_fills_49 : decode cX10_fills 49 = .ok (.aload_n 0, 1) := by decide +kernel
theorem dX10_fills_50 : decode cX10_fills 50 = .ok (.getfield 40, 3) := by decide +kernel
theorem dX10_fills_53 : decode cX10_fills 53 = .ok (.aload_n 0, 1) := by decide +kernel
theorem dX10_fills_54 : decode cX10_fills 54 = .ok (.getfield 11, 3) := by decide +kernel
theorem dX10_fills_57 : decode cX10_fills 57 = .ok (.iload_n 1, 1) := by decide +kernel
theorem dX10_fills_58 : decode cX10_fills 58 = .ok (.aaload, 1) := by decide +kernel
theorem dX10_fills_59 : decode cX10_fills 59 = .ok (.aload_n 0, 1) := by decide +kernel
theorem dX10_fills_60 : decode cX10_fills 60 = .ok (.getfield 26, 3) := by decide +kernel
theorem dX10_fills_63 : decode cX10_fills 63 = .ok (.aload_n 0, 1) := by decide +kernel
theorem dX10_fills_64 : decode cX10_fills 64 = .ok (.getfield 48, 3) := by decide +kernel
theorem dX10_fills_67 : decode cX10_fills 67 = .ok (.invokevirtual 162, 3) := by decide +kernel
theorem dX10_fills_70 : decode cX10_fills 70 = .ok (.aload_n 0, 1) := by decide +kernel
theorem dX10_fills_71 : decode cX10_fills 71 = .ok (.getfield 40, 3) := by decide +kernel
theorem dX10_fills_74 : decode cX10_fills 74 = .ok (.getfield 165, 3) := by decide +kernel
theorem dX10_fills_77 : decode cX10_fills 77 = .ok (.invokestatic 137, 3) := by decide +kernel
theorem dX10_fills_80 : decode cX10_fills 80 = .ok (.ireturn, 1) := by decide +kernel
theorem dX10_filled_0 : decode cX10_filled 0 = .ok (.iload_n 1, 1) := by decide +kernel
theorem dX10_filled_1 : decode cX10_filled 1 = .ok (.invokestatic 54, 3) := by decide +kernel
theorem dX10_filled_4 : decode cX10_filled 4 = .ok (.ifCond .eq 10, 3) := by decide +kernel
theorem dX10_filled_7 : decode cX10_filled 7 = .ok (.iload_n 2, 1) := by decide +kernel
theorem dX10_filled_8 : decode cX10_filled 8 = .ok (.invokestatic 143, 3) := by decide +kernel
theorem dX10_filled_11 : decode cX10_filled 11 = .ok (.ifCond .ne 9, 3) := by decide +kernel
theorem dX10_filled_14 : decode cX10_filled 14 = .ok (.bipush (-2), 2) := by decide +kernel
theorem dX10_filled_16 : decode cX10_filled 16 = .ok (.invokestatic 146, 3) := by decide +kernel
theorem dX10_filled_19 : decode cX10_filled 19 = .ok (.lreturn, 1) := by decide +kernel
theorem dX10_filled_20 : decode cX10_filled 20 = .ok (.aload_n 0, 1) := by decide +kernel
theorem dX10_filled_21 : decode cX10_filled 21 = .ok (.getfield 26, 3) := by decide +kernel
theorem dX10_filled_24 : decode cX10_filled 24 = .ok (.invokevirtual 116, 3) := by decide +kernel
theorem dX10_filled_27 : decode cX10_filled 27 = .ok (.ifCond .eq 9, 3) := by decide +kernel
theorem dX10_filled_30 : decode cX10_filled 30 = .ok (.bipush (-3), 2) := by decide +kernel
theorem dX10_filled_32 : decode cX10_filled 32 = .ok (.invokestatic 146, 3) := by decide +kernel
theorem dX10_filled_35 : decode cX10_filled 35 = .ok (.lreturn, 1) := by decide +kernel
theorem dX10_filled_36 : decode cX10_filled 36 = .ok (.aload_n 0, 1) := by decide +kernel
theorem dX10_filled_37 : decode cX10_filled 37 = .ok (.getfield 40, 3) := by decide +kernel
theorem dX10_filled_40 : decode cX10_filled 40 = .ok (.aload_n 0, 1) := by decide +kernel
theorem dX10_filled_41 : decode cX10_filled 41 = .ok (.getfield 11, 3) := by decide +kernel
theorem dX10_filled_44 : decode cX10_filled 44 = .ok (.iload_n 1, 1) := by decide +kernel
theorem dX10_filled_45 : decode cX10_filled 45 = .ok (.aaload, 1) := by decide +kernel
theorem dX10_filled_46 : decode cX10_filled 46 = .ok (.aload_n 0, 1) := by decide +kernel
theorem dX10_filled_47 : decode cX10_filled 47 = .ok (.getfield 26, 3) := by decide +kernel
theorem dX10_filled_50 : decode cX10_filled 50 = .ok (.aload_n 0, 1) := by decide +kernel
theorem dX10_filled_51 : decode cX10_filled 51 = .ok (.getfield 48, 3) := by decide +kernel
theorem dX10_filled_54 : decode cX10_filled 54 = .ok (.invokevirtual 162, 3) := by decide +kernel
theorem dX10_filled_57 : decode cX10_filled 57 = .ok (.aload_n 0, 1) := by decide +kernel
theorem dX10_filled_58 : decode cX10_filled 58 = .ok (.getfield 40, 3) := by decide +kernel
theorem dX10_filled_61 : decode cX10_filled 61 = .ok (.getfield 165, 3) := by decide +kernel
theorem dX10_filled_64 : decode cX10_filled 64 = .ok (.aload_n 0, 1) := by decide +kernel
theorem dX10_filled_65 : decode cX10_filled 65 = .ok (.getfield 11, 3) := by decide +kernel
theorem dX10_filled_68 : decode cX10_filled 68 = .ok (.iload_n 1, 1) := by decide +kernel
theorem dX10_filled_69 : decode cX10_filled 69 = .ok (.aaload, 1) := by decide +kernel
theorem dX10_filled_70 : decode cX10_filled 70 = .ok (.getfield 154, 3) := by decide +kernel
theorem dX10_filled_73 : decode cX10_filled 73 = .ok (.invokestatic 157, 3) := by decide +kernel
theorem dX10_filled_76 : decode cX10_filled 76 = .ok (.aload_n 0, 1) := by decide +kernel
theorem dX10_filled_77 : decode cX10_filled 77 = .ok (.getfield 44, 3) := by decide +kernel
theorem dX10_filled_80 : decode cX10_filled 80 = .ok (.iload_n 2, 1) := by decide +kernel
theorem dX10_filled_81 : decode cX10_filled 81 = .ok (.invokestatic 150, 3) := by decide +kernel
theorem dX10_filled_84 : decode cX10_filled 84 = .ok (.lreturn, 1) := by decide +kernel
theorem dX10_sure_0 : decode cX10_sure 0 = .ok (.iload_n 1, 1) := by decide +kernel
theorem dX10_sure_1 : decode cX10_sure 1 = .ok (.invokestatic 54, 3) := by decide +kernel
theorem dX10_sure_4 : decode cX10_sure 4 = .ok (.ifCond .eq 7, 3) := by decide +kernel
theorem dX10_sure_7 : decode cX10_sure 7 = .ok (.iload_n 2, 1) := by decide +kernel
theorem dX10_sure_8 : decode cX10_sure 8 = .ok (.ifCond .ge 6, 3) := by decide +kernel
theorem dX10_sure_11 : decode cX10_sure 11 = .ok (.bipush (-2), 2) := by decide +kernel
theorem dX10_sure_13 : decode cX10_sure 13 = .ok (.ireturn, 1) := by decide +kernel
theorem dX10_sure_14 : decode cX10_sure 14 = .ok (.aload_n 0, 1) := by decide +kernel
theorem dX10_sure_15 : decode cX10_sure 15 = .ok (.getfield 11, 3) := by decide +kernel
theorem dX10_sure_18 : decode cX10_sure 18 = .ok (.iload_n 1, 1) := by decide +kernel
theorem dX10_sure_19 : decode cX10_sure 19 = .ok (.aaload, 1) := by decide +kernel
theorem dX10_sure_20 : decode cX10_sure 20 = .ok (.astore_n 3, 1) := by decide +kernel
theorem dX10_sure_21 : decode cX10_sure 21 = .ok (.aload_n 0, 1) := by decide +kernel
theorem dX10_sure_22 : decode cX10_sure 22 = .ok (.getfield 26, 3) := by decide +kernel
theorem dX10_sure_25 : decode cX10_sure 25 = .ok (.invokevirtual 116, 3) := by decide +kernel
theorem dX10_sure_28 : decode cX10_sure 28 = .ok (.ifCond .ne 11, 3) := by decide +kernel
theorem dX10_sure_31 : decode cX10_sure 31 = .ok (.iload_n 2, 1) := by decide +kernel
theorem dX10_sure_32 : decode cX10_sure 32 = .ok (.aload_n 3, 1) := by decide +kernel
theorem dX10_sure_33 : decode cX10_sure 33 = .ok (.getfield 69, 3) := by decide +kernel
theorem dX10_sure_36 : decode cX10_sure 36 = .ok (.if_icmp .lt 6, 3) := by decide +kernel
theorem dX10_sure_39 : decode cX10_sure 39 = .ok (.bipush (-3), 2) := by decide +kernel
theorem dX10_sure_41 : decode cX10_sure 41 = .ok (.ireturn, 1) := by decide +kernel
theorem dX10_sure_42 : decode cX10_sure 42 = .ok (.aload_n 0, 1) := by decide +kernel
theorem dX10_sure_43 : decode cX10_sure 43 = .ok (.getfield 40, 3) := by decide +kernel
theorem dX10_sure_46 : decode cX10_sure 46 = .ok (.aload_n 3, 1) := by decide +kernel
theorem dX10_sure_47 : decode cX10_sure 47 = .ok (.aload_n 0, 1) := by decide +kernel
theorem dX10_sure_48 : decode cX10_sure 48 = .ok (.getfield 26, 3) := by decide +kernel
theorem dX10_sure_51 : decode cX10_sure 51 = .ok (.aload_n 0, 1) := by decide +kernel
theorem dX10_sure_52 : decode cX10_sure 52 = .ok (.getfield 48, 3) := by decide +kernel
theorem dX10_sure_55 : decode cX10_sure 55 = .ok (.invokevirtual 162, 3) := by decide +kernel
theorem dX10_sure_58 : decode cX10_sure 58 = .ok (.aload_n 0, 1) := by decide +kernel
theorem dX10_sure_59 : decode cX10_sure 59 = .ok (.getfield 40, 3) := by decide +kernel
theorem dX10_sure_62 : decode cX10_sure 62 = .ok (.getfield 165, 3) := by decide +kernel
theorem dX10_sure_65 : decode cX10_sure 65 = .ok (.invokestatic 137, 3) := by decide +kernel
theorem dX10_sure_68 : decode cX10_sure 68 = .ok (.ifCond .ne 6, 3) := by decide +kernel
theorem dX10_sure_71 : decode cX10_sure 71 = .ok (.bipush (-3), 2) := by decide +kernel
theorem dX10_sure_73 : decode cX10_sure 73 = .ok (.ireturn, 1) := by decide +kernel
theorem dX10_sure_74 : decode cX10_sure 74 = .ok (.iconst 1, 1) := by decide +kernel
theorem dX10_sure_75 : decode cX10_sure 75 = .ok (.aload_n 3, 1) := by decide +kernel
theorem dX10_sure_76 : decode cX10_sure 76 = .ok (.getfield 69, 3) := by decide +kernel
theorem dX10_sure_79 : decode cX10_sure 79 = .ok (.iconst 1, 1) := by decide +kernel
theorem dX10_sure_80 : decode cX10_sure 80 = .ok (.isub, 1) := by decide +kernel
theorem dX10_sure_81 : decode cX10_sure 81 = .ok (.iload_n 2, 1) := by decide +kernel
theorem dX10_sure_82 : decode cX10_sure 82 = .ok (.isub, 1) := by decide +kernel
theorem dX10_sure_83 : decode cX10_sure 83 = .ok (.ishl, 1) := by decide +kernel
theorem dX10_sure_84 : decode cX10_sure 84 = .ok (.istore 4, 2) := by decide +kernel
theorem dX10_sure_86 : decode cX10_sure 86 = .ok (.aload_n 0, 1) := by decide +kernel
theorem dX10_sure_87 : decode cX10_sure 87 = .ok (.getfield 40, 3) := by decide +kernel
theorem dX10_sure_90 : decode cX10_sure 90 = .ok (.getfield 168, 3) := by decide +kernel
theorem dX10_sure_93 : decode cX10_sure 93 = .ok (.iload 4, 2) := by decide +kernel
theorem dX10_sure_95 : decode cX10_sure 95 = .ok (.iand, 1) := by decide +kernel
theorem dX10_sure_96 : decode cX10_sure 96 = .ok (.ifCond .eq 5, 3) := by decide +kernel
theorem dX10_sure_99 : decode cX10_sure 99 = .ok (.iconst 1, 1) := by decide +kernel
theorem dX10_sure_100 : decode cX10_sure 100 = .ok (.ireturn, 1) := by decide +kernel
theorem dX10_sure_101 : decode cX10_sure 101 = .ok (.aload_n 0, 1) := by decide +kernel
theorem dX10_sure_102 : decode cX10_sure 102 = .ok (.getfield 40, 3) := by decide +kernel
theorem dX10_sure_105 : decode cX10_sure 105 = .ok (.getfield 171, 3) := by decide +kernel
theorem dX10_sure_108 : decode cX10_sure 108 = .ok (.iload 4, 2) := by decide +kernel
theorem dX10_sure_110 : decode cX10_sure 110 = .ok (.iand, 1) := by decide +kernel
theorem dX10_sure_111 : decode cX10_sure 111 = .ok (.ifCond .ne 7, 3) := by decide +kernel
theorem dX10_sure_114 : decode cX10_sure 114 = .ok (.iconst 0, 1) := by decide +kernel
theorem dX10_sure_115 : decode cX10_sure 115 = .ok (.goto 4, 3) := by decide +kernel
theorem dX10_sure_118 : decode cX10_sure 118 = .ok (.iconst (-1), 1) := by decide +kernel
theorem dX10_sure_119 : decode cX10_sure 119 = .ok (.ireturn, 1) := by decide +kernel
theorem dX10_dealt_0 : decode cX10_dealt 0 = .ok (.iload_n 1, 1) := by decide +kernel
theorem dX10_dealt_1 : decode cX10_dealt 1 = .ok (.invokestatic 54, 3) := by decide +kernel
theorem dX10_dealt_4 : decode cX10_dealt 4 = .ok (.ifCond .eq 10, 3) := by decide +kernel
theorem dX10_dealt_7 : decode cX10_dealt 7 = .ok (.iload_n 2, 1) := by decide +kernel
theorem dX10_dealt_8 : decode cX10_dealt 8 = .ok (.invokestatic 99, 3) := by decide +kernel
theorem dX10_dealt_11 : decode cX10_dealt 11 = .ok (.ifCond .ne 6, 3) := by decide +kernel
theorem dX10_dealt_14 : decode cX10_dealt 14 = .ok (.bipush (-2), 2) := by decide +kernel
theorem dX10_dealt_16 : decode cX10_dealt 16 = .ok (.ireturn, 1) := by decide +kernel
theorem dX10_dealt_17 : decode cX10_dealt 17 = .ok (.aload_n 0, 1) := by decide +kernel
theorem dX10_dealt_18 : decode cX10_dealt 18 = .ok (.getfield 11, 3) := by decide +kernel
theorem dX10_dealt_21 : decode cX10_dealt 21 = .ok (.iload_n 1, 1) := by decide +kernel
theorem dX10_dealt_22 : decode cX10_dealt 22 = .ok (.aaload, 1) := by decide +kernel
theorem dX10_dealt_23 : decode cX10_dealt 23 = .ok (.astore 4, 2) := by decide +kernel
theorem dX10_dealt_25 : decode cX10_dealt 25 = .ok (.aload 4, 2) := by decide +kernel
theorem dX10_dealt_27 : decode cX10_dealt 27 = .ok (.invokevirtual 102, 3) := by decide +kernel
theorem dX10_dealt_30 : decode cX10_dealt 30 = .ok (.ifCond .ne 6, 3) := by decide +kernel
theorem dX10_dealt_33 : decode cX10_dealt 33 = .ok (.bipush (-3), 2) := by decide +kernel
theorem dX10_dealt_35 : decode cX10_dealt 35 = .ok (.ireturn, 1) := by decide +kernel
theorem dX10_dealt_36 : decode cX10_dealt 36 = .ok (.aload_n 0, 1) := by decide +kernel
theorem dX10_dealt_37 : decode cX10_dealt 37 = .ok (.aload 4, 2) := by decide +kernel
theorem dX10_dealt_39 : decode cX10_dealt 39 = .ok (.iload_n 2, 1) := by decide +kernel
theorem dX10_dealt_40 : decode cX10_dealt 40 = .ok (.iload_n 3, 1) := by decide +kernel
theorem dX10_dealt_41 : decode cX10_dealt 41 = .ok (.invokevirtual 174, 3) := by decide +kernel
theorem dX10_dealt_44 : decode cX10_dealt 44 = .ok (.aload 4, 2) := by decide +kernel
theorem dX10_dealt_46 : decode cX10_dealt 46 = .ok (.invokestatic 178, 3) := by decide +kernel
theorem dX10_dealt_49 : decode cX10_dealt 49 = .ok (.invokestatic 184, 3) := by decide +kernel
theorem dX10_dealt_52 : decode cX10_dealt 52 = .ok (.ireturn, 1) := by decide +kernel
theorem dX10_strangest_0 : decode cX10_strangest 0 = .ok (.iload_n 1, 1) := by decide +kernel
theorem dX10_strangest_1 : decode cX10_strangest 1 = .ok (.invokestatic 54, 3) := by decide +kernel
theorem dX10_strangest_4 : decode cX10_strangest 4 = .ok (.ifCond .ne 6, 3) := by decide +kernel
theorem dX10_strangest_7 : decode cX10_strangest 7 = .ok (.bipush (-2), 2) := by decide +kernel
theorem dX10_strangest_9 : decode cX10_strangest 9 = .ok (.ireturn, 1) := by decide +kernel
theorem dX10_strangest_10 : decode cX10_strangest 10 = .ok (.aload_n 0, 1) := by decide +kernel
theorem dX10_strangest_11 : decode cX10_strangest 11 = .ok (.getfield 11, 3) := by decide +kernel
theorem dX10_strangest_14 : decode cX10_strangest 14 = .ok (.iload_n 1, 1) := by decide +kernel
theorem dX10_strangest_15 : decode cX10_strangest 15 = .ok (.aaload, 1) := by decide +kernel
theorem dX10_strangest_16 : decode cX10_strangest 16 = .ok (.astore_n 2, 1) := by decide +kernel
theorem dX10_strangest_17 : decode cX10_strangest 17 = .ok (.aload_n 2, 1) := by decide +kernel
theorem dX10_strangest_18 : decode cX10_strangest 18 = .ok (.invokevirtual 102, 3) := by decide +kernel
theorem dX10_strangest_21 : decode cX10_strangest 21 = .ok (.ifCond .eq 10, 3) := by decide +kernel
theorem dX10_strangest_24 : decode cX10_strangest 24 = .ok (.aload_n 2, 1) := by decide +kernel
theorem dX10_strangest_25 : decode cX10_strangest 25 = .ok (.getfield 69, 3) := by decide +kernel
theorem dX10_strangest_28 : decode cX10_strangest 28 = .ok (.ifCond .ne 6, 3) := by decide +kernel
theorem dX10_strangest_31 : decode cX10_strangest 31 = .ok (.bipush (-3), 2) := by decide +kernel
theorem dX10_strangest_33 : decode cX10_strangest 33 = .ok (.ireturn, 1) := by decide +kernel
theorem dX10_strangest_34 : decode cX10_strangest 34 = .ok (.iconst (-1), 1) := by decide +kernel
theorem dX10_strangest_35 : decode cX10_strangest 35 = .ok (.istore_n 3, 1) := by decide +kernel
theorem dX10_strangest_36 : decode cX10_strangest 36 = .ok (.iconst 0, 1) := by decide +kernel
theorem dX10_strangest_37 : decode cX10_strangest 37 = .ok (.istore 4, 2) := by decide +kernel
theorem dX10_strangest_39 : decode cX10_strangest 39 = .ok (.iconst 0, 1) := by decide +kernel
theorem dX10_strangest_40 : decode cX10_strangest 40 = .ok (.istore 5, 2) := by decide +kernel
theorem dX10_strangest_42 : decode cX10_strangest 42 = .ok (.iload 5, 2) := by decide +kernel
theorem dX10_strangest_44 : decode cX10_strangest 44 = .ok (.bipush 14, 2) := by decide +kernel
theorem dX10_strangest_46 : decode cX10_strangest 46 = .ok (.if_icmp .ge 70, 3) := by decide +kernel
theorem dX10_strangest_49 : decode cX10_strangest 49 = .ok (.iload 5, 2) := by decide +kernel
theorem dX10_strangest_51 : decode cX10_strangest 51 = .ok (.iconst 2, 1) := by decide +kernel
theorem dX10_strangest_52 : decode cX10_strangest 52 = .ok (.idiv, 1) := by decide +kernel
theorem dX10_strangest_53 : decode cX10_strangest 53 = .ok (.istore 6, 2) := by decide +kernel
theorem dX10_strangest_55 : decode cX10_strangest 55 = .ok (.iload 6, 2) := by decide +kernel
theorem dX10_strangest_57 : decode cX10_strangest 57 = .ok (.ifCond .eq 53, 3) := by decide +kernel
theorem dX10_strangest_60 : decode cX10_strangest 60 = .ok (.iload 6, 2) := by decide +kernel
theorem dX10_strangest_62 : decode cX10_strangest 62 = .ok (.iconst 5, 1) := by decide +kernel
theorem dX10_strangest_63 : decode cX10_strangest 63 = .ok (.if_icmp .ne 6, 3) := by decide +kernel
theorem dX10_strangest_66 : decode cX10_strangest 66 = .ok (.goto 44, 3) := by decide +kernel
theorem dX10_strangest_69 : decode cX10_strangest 69 = .ok (.aload_n 0, 1) := by decide +kernel
theorem dX10_strangest_70 : decode cX10_strangest 70 = .ok (.aload_n 2, 1) := by decide +kernel
theorem dX10_strangest_71 : decode cX10_strangest 71 = .ok (.iload 6, 2) := by decide +kernel
theorem dX10_strangest_73 : decode cX10_strangest 73 = .ok (.iload 5, 2) := by decide +kernel
theorem dX10_strangest_75 : decode cX10_strangest 75 = .ok (.iconst 2, 1) := by decide +kernel
theorem dX10_strangest_76 : decode cX10_strangest 76 = .ok (.irem, 1) := by decide +kernel
theorem dX10_strangest_77 : decode cX10_strangest 77 = .ok (.iconst 1, 1) := by decide +kernel
theorem dX10_strangest_78 : decode cX10_strangest 78 = .ok (.if_icmp .ne 7, 3) := by decide +kernel
theorem dX10_strangest_81 : decode cX10_strangest 81 = .ok (.iconst 1, 1) := by decide +kernel
theorem dX10_strangest_82 : decode cX10_strangest 82 = .ok (.goto 4, 3) := by decide +kernel
theorem dX10_strangest_85 : decode cX10_strangest 85 = .ok (.iconst 0, 1) := by decide +kernel
theorem dX10_strangest_86 : decode cX10_strangest 86 = .ok (.invokevirtual 174, 3) := by decide +kernel
theorem dX10_strangest_89 : decode cX10_strangest 89 = .ok (.istore 7, 2) := by decide +kernel
theorem dX10_strangest_91 : decode cX10_strangest 91 = .ok (.iload_n 3, 1) := by decide +kernel
theorem dX10_strangest_92 : decode cX10_strangest 92 = .ok (.iconst (-1), 1) := by decide +kernel
theorem dX10_strangest_93 : decode cX10_strangest 93 = .ok (.if_icmp .eq 10, 3) := by decide +kernel
theorem dX10_strangest_96 : decode cX10_strangest 96 = .ok (.iload 7, 2) := by decide +kernel
theorem dX10_strangest_98 : decode cX10_strangest 98 = .ok (.iload 4, 2) := by decide +kernel
theorem dX10_strangest_100 : decode cX10_strangest 100 = .ok (.if_icmp .ge 10, 3) := by decide +kernel
theorem dX10_strangest_103 : decode cX10_strangest 103 = .ok (.iload 5, 2) := by decide +kernel
theorem dX10_strangest_105 : decode cX10_strangest 105 = .ok (.istore_n 3, 1) := by decide +kernel
theorem dX10_strangest_106 : decode cX10_strangest 106 = .ok (.iload 7, 2) := by decide +kernel
theorem dX10_strangest_108 : decode cX10_strangest 108 = .ok (.istore 4, 2) := by decide +kernel
theorem dX10_strangest_110 : decode cX10_strangest 110 = .ok (.iinc 5 1, 3) := by decide +kernel
theorem dX10_strangest_113 : decode cX10_strangest 113 = .ok (.goto (-71), 3) := by decide +kernel
theorem dX10_strangest_116 : decode cX10_strangest 116 = .ok (.iload_n 3, 1) := by decide +kernel
theorem dX10_strangest_117 : decode cX10_strangest 117 = .ok (.ireturn, 1) := by decide +kernel
theorem dX10_hot_0 : decode cX10_hot 0 = .ok (.iload_n 1, 1) := by decide +kernel
theorem dX10_hot_1 : decode cX10_hot 1 = .ok (.invokestatic 54, 3) := by decide +kernel
theorem dX10_hot_4 : decode cX10_hot 4 = .ok (.ifCond .eq 17, 3) := by decide +kernel
theorem dX10_hot_7 : decode cX10_hot 7 = .ok (.iload_n 2, 1) := by decide +kernel
theorem dX10_hot_8 : decode cX10_hot 8 = .ok (.invokestatic 190, 3) := by decide +kernel
theorem dX10_hot_11 : decode cX10_hot 11 = .ok (.ifCond .eq 10, 3) := by decide +kernel
theorem dX10_hot_14 : decode cX10_hot 14 = .ok (.iload_n 3, 1) := by decide +kernel
theorem dX10_hot_15 : decode cX10_hot 15 = .ok (.invokestatic 143, 3) := by decide +kernel
theorem dX10_hot_18 : decode cX10_hot 18 = .ok (.ifCond .ne 9, 3) := by decide +kernel
theorem dX10_hot_21 : decode cX10_hot 21 = .ok (.bipush (-2), 2) := by decide +kernel
theorem dX10_hot_23 : decode cX10_hot 23 = .ok (.invokestatic 146, 3) := by decide +kernel
theorem dX10_hot_26 : decode cX10_hot 26 = .ok (.lreturn, 1) := by decide +kernel
theorem dX10_hot_27 : decode cX10_hot 27 = .ok (.aload_n 0, 1) := by decide +kernel
theorem dX10_hot_28 : decode cX10_hot 28 = .ok (.getfield 11, 3) := by decide +kernel
theorem dX10_hot_31 : decode cX10_hot 31 = .ok (.iload_n 1, 1) := by decide +kernel
theorem dX10_hot_32 : decode cX10_hot 32 = .ok (.aaload, 1) := by decide +kernel
theorem dX10_hot_33 : decode cX10_hot 33 = .ok (.astore 4, 2) := by decide +kernel
theorem dX10_hot_35 : decode cX10_hot 35 = .ok (.aload 4, 2) := by decide +kernel
theorem dX10_hot_37 : decode cX10_hot 37 = .ok (.invokevirtual 102, 3) := by decide +kernel
theorem dX10_hot_40 : decode cX10_hot 40 = .ok (.ifCond .ne 9, 3) := by decide +kernel
theorem dX10_hot_43 : decode cX10_hot 43 = .ok (.bipush (-3), 2) := by decide +kernel
theorem dX10_hot_45 : decode cX10_hot 45 = .ok (.invokestatic 146, 3) := by decide +kernel
theorem dX10_hot_48 : decode cX10_hot 48 = .ok (.lreturn, 1) := by decide +kernel
theorem dX10_hot_49 : decode cX10_hot 49 = .ok (.aload 4, 2) := by decide +kernel
theorem dX10_hot_51 : decode cX10_hot 51 = .ok (.getfield 119, 3) := by decide +kernel
theorem dX10_hot_54 : decode cX10_hot 54 = .ok (.iload_n 2, 1) := by decide +kernel
theorem dX10_hot_55 : decode cX10_hot 55 = .ok (.invokestatic 193, 3) := by decide +kernel
theorem dX10_hot_58 : decode cX10_hot 58 = .ok (.istore 5, 2) := by decide +kernel
theorem dX10_hot_60 : decode cX10_hot 60 = .ok (.iload 5, 2) := by decide +kernel
theorem dX10_hot_62 : decode cX10_hot 62 = .ok (.ifCond .ne 9, 3) := by decide +kernel
theorem dX10_hot_65 : decode cX10_hot 65 = .ok (.bipush (-3), 2) := by decide +kernel
theorem dX10_hot_67 : decode cX10_hot 67 = .ok (.invokestatic 146, 3) := by decide +kernel
theorem dX10_hot_70 : decode cX10_hot 70 = .ok (.lreturn, 1) := by decide +kernel
theorem dX10_hot_71 : decode cX10_hot 71 = .ok (.iload 5, 2) := by decide +kernel
theorem dX10_hot_73 : decode cX10_hot 73 = .ok (.aload 4, 2) := by decide +kernel
theorem dX10_hot_75 : decode cX10_hot 75 = .ok (.getfield 119, 3) := by decide +kernel
theorem dX10_hot_78 : decode cX10_hot 78 = .ok (.iand, 1) := by decide +kernel
theorem dX10_hot_79 : decode cX10_hot 79 = .ok (.invokestatic 157, 3) := by decide +kernel
theorem dX10_hot_82 : decode cX10_hot 82 = .ok (.istore 6, 2) := by decide +kernel
theorem dX10_hot_84 : decode cX10_hot 84 = .ok (.iload 6, 2) := by decide +kernel
theorem dX10_hot_86 : decode cX10_hot 86 = .ok (.i2l, 1) := by decide +kernel
theorem dX10_hot_87 : decode cX10_hot 87 = .ok (.iload 5, 2) := by decide +kernel
theorem dX10_hot_89 : decode cX10_hot 89 = .ok (.invokestatic 157, 3) := by decide +kernel
theorem dX10_hot_92 : decode cX10_hot 92 = .ok (.i2l, 1) := by decide +kernel
theorem dX10_hot_93 : decode cX10_hot 93 = .ok (.iload_n 3, 1) := by decide +kernel
theorem dX10_hot_94 : decode cX10_hot 94 = .ok (.invokestatic 196, 3) := by decide +kernel
theorem dX10_hot_97 : decode cX10_hot 97 = .ok (.lreturn, 1) := by decide +kernel
theorem dX10_already_0 : decode cX10_already 0 = .ok (.iload_n 1, 1) := by decide +kernel
theorem dX10_already_1 : decode cX10_already 1 = .ok (.invokestatic 54, 3) := by decide +kernel
theorem dX10_already_4 : decode cX10_already 4 = .ok (.ifCond .eq 17, 3) := by decide +kernel
theorem dX10_already_7 : decode cX10_already 7 = .ok (.iload_n 2, 1) := by decide +kernel
theorem dX10_already_8 : decode cX10_already 8 = .ok (.invokestatic 190, 3) := by decide +kernel
theorem dX10_already_11 : decode cX10_already 11 = .ok (.ifCond .eq 10, 3) := by decide +kernel
theorem dX10_already_14 : decode cX10_already 14 = .ok (.iload_n 3, 1) := by decide +kernel
theorem dX10_already_15 : decode cX10_already 15 = .ok (.invokestatic 143, 3) := by decide +kernel
theorem dX10_already_18 : decode cX10_already 18 = .ok (.ifCond .ne 9, 3) := by decide +kernel
theorem dX10_already_21 : decode cX10_already 21 = .ok (.bipush (-2), 2) := by decide +kernel
theorem dX10_already_23 : decode cX10_already 23 = .ok (.invokestatic 146, 3) := by decide +kernel
theorem dX10_already_26 : decode cX10_already 26 = .ok (.lreturn, 1) := by decide +kernel
theorem dX10_already_27 : decode cX10_already 27 = .ok (.aload_n 0, 1) := by decide +kernel
theorem dX10_already_28 : decode cX10_already 28 = .ok (.getfield 11, 3) := by decide +kernel
theorem dX10_already_31 : decode cX10_already 31 = .ok (.iload_n 1, 1) := by decide +kernel
theorem dX10_already_32 : decode cX10_already 32 = .ok (.aaload, 1) := by decide +kernel
theorem dX10_already_33 : decode cX10_already 33 = .ok (.astore 4, 2) := by decide +kernel
theorem dX10_already_35 : decode cX10_already 35 = .ok (.aload 4, 2) := by decide +kernel
theorem dX10_already_37 : decode cX10_already 37 = .ok (.invokevirtual 102, 3) := by decide +kernel
theorem dX10_already_40 : decode cX10_already 40 = .ok (.ifCond .ne 9, 3) := by decide +kernel
theorem dX10_already_43 : decode cX10_already 43 = .ok (.bipush (-3), 2) := by decide +kernel
theorem dX10_already_45 : decode cX10_already 45 = .ok (.invokestatic 146, 3) := by decide +kernel
theorem dX10_already_48 : decode cX10_already 48 = .ok (.lreturn, 1) := by decide +kernel
theorem dX10_already_49 : decode cX10_already 49 = .ok (.aload 4, 2) := by decide +kernel
theorem dX10_already_51 : decode cX10_already 51 = .ok (.invokestatic 178, 3) := by decide +kernel
theorem dX10_already_54 : decode cX10_already 54 = .ok (.istore 5, 2) := by decide +kernel
theorem dX10_already_56 : decode cX10_already 56 = .ok (.aload 4, 2) := by decide +kernel
theorem dX10_already_58 : decode cX10_already 58 = .ok (.invokestatic 202, 3) := by decide +kernel
theorem dX10_already_61 : decode cX10_already 61 = .ok (.istore 6, 2) := by decide +kernel
theorem dX10_already_63 : decode cX10_already 63 = .ok (.iconst 0, 1) := by decide +kernel
theorem dX10_already_64 : decode cX10_already 64 = .ok (.istore 7, 2) := by decide +kernel
theorem dX10_already_66 : decode cX10_already 66 = .ok (.lconst 0, 1) := by decide +kernel
theorem dX10_already_67 : decode cX10_already 67 = .ok (.lstore 8, 2) := by decide +kernel
theorem dX10_already_69 : decode cX10_already 69 = .ok (.iconst 0, 1) := by decide +kernel
theorem dX10_already_70 : decode cX10_already 70 = .ok (.istore 10, 2) := by decide +kernel
theorem dX10_already_72 : decode cX10_already 72 = .ok (.iload 10, 2) := by decide +kernel
theorem dX10_already_74 : decode cX10_already 74 = .ok (.iload 5, 2) := by decide +kernel
theorem dX10_already_76 : decode cX10_already 76 = .ok (.if_icmp .ge 44, 3) := by decide +kernel
theorem dX10_already_79 : decode cX10_already 79 = .ok (.iload 6, 2) := by decide +kernel
theorem dX10_already_81 : decode cX10_already 81 = .ok (.iload_n 2, 1) := by decide +kernel
theorem dX10_already_82 : decode cX10_already 82 = .ok (.invokestatic 193, 3) := by decide +kernel
theorem dX10_already_85 : decode cX10_already 85 = .ok (.istore 11, 2) := by decide +kernel
theorem dX10_already_87 : decode cX10_already 87 = .ok (.iload 11, 2) := by decide +kernel
theorem dX10_already_89 : decode cX10_already 89 = .ok (.ifCond .eq 18, 3) := by decide +kernel
theorem dX10_already_92 : decode cX10_already 92 = .ok (.iinc 7 1, 3) := by decide +kernel
theorem dX10_already_95 : decode cX10_already 95 = .ok (.lload 8, 2) := by decide +kernel
theorem dX10_already_97 : decode cX10_already 97 = .ok (.iload 6, 2) := by decide +kernel
theorem dX10_already_99 : decode cX10_already 99 = .ok (.iload 11, 2) := by decide +kernel
theorem dX10_already_101 : decode cX10_already 101 = .ok (.invokestatic 205, 3) := by decide +kernel
theorem dX10_already_104 : decode cX10_already 104 = .ok (.ladd, 1) := by decide +kernel
theorem dX10_already_105 : decode cX10_already 105 = .ok (.lstore 8, 2) := by decide +kernel
theorem dX10_already_107 : decode cX10_already 107 = .ok (.iload 6, 2) := by decide +kernel
theorem dX10_already_109 : decode cX10_already 109 = .ok (.invokestatic 209, 3) := by decide +kernel
theorem dX10_already_112 : decode cX10_already 112 = .ok (.istore 6, 2) := by decide +kernel
theorem dX10_already_114 : decode cX10_already 114 = .ok (.iinc 10 1, 3) := by decide +kernel
theorem dX10_already_117 : decode cX10_already 117 = .ok (.goto (-45), 3) := by decide +kernel
theorem dX10_already_120 : decode cX10_already 120 = .ok (.iload 7, 2) := by decide +kernel
theorem dX10_already_122 : decode cX10_already 122 = .ok (.ifCond .ne 11, 3) := by decide +kernel
theorem dX10_already_125 : decode cX10_already 125 = .ok (.bipush (-3), 2) := by decide +kernel
theorem dX10_already_127 : decode cX10_already 127 = .ok (.invokestatic 146, 3) := by decide +kernel
theorem dX10_already_130 : decode cX10_already 130 = .ok (.goto 16, 3) := by decide +kernel
theorem dX10_already_133 : decode cX10_already 133 = .ok (.lload 8, 2) := by decide +kernel
theorem dX10_already_135 : decode cX10_already 135 = .ok (.iload 7, 2) := by decide +kernel
theorem dX10_already_137 : decode cX10_already 137 = .ok (.i2l, 1) := by decide +kernel
theorem dX10_already_138 : decode cX10_already 138 = .ok (.ldc2_w 212, 3) := by decide +kernel
theorem dX10_already_141 : decode cX10_already 141 = .ok (.lmul, 1) := by decide +kernel
theorem dX10_already_142 : decode cX10_already 142 = .ok (.iload_n 3, 1) := by decide +kernel
theorem dX10_already_143 : decode cX10_already 143 = .ok (.invokestatic 196, 3) := by decide +kernel
theorem dX10_already_146 : decode cX10_already 146 = .ok (.lreturn, 1) := by decide +kernel
theorem dX10_waits_0 : decode cX10_waits 0 = .ok (.iload_n 1, 1) := by decide +kernel
theorem dX10_waits_1 : decode cX10_waits 1 = .ok (.invokestatic 143, 3) := by decide +kernel
theorem dX10_waits_4 : decode cX10_waits 4 = .ok (.ifCond .ne 9, 3) := by decide +kernel
theorem dX10_waits_7 : decode cX10_waits 7 = .ok (.bipush (-2), 2) := by decide +kernel
theorem dX10_waits_9 : decode cX10_waits 9 = .ok (.invokestatic 146, 3) := by decide +kernel
theorem dX10_waits_12 : decode cX10_waits 12 = .ok (.lreturn, 1) := by decide +kernel
theorem dX10_waits_13 : decode cX10_waits 13 = .ok (.aload_n 0, 1) := by decide +kernel
theorem dX10_waits_14 : decode cX10_waits 14 = .ok (.getfield 48, 3) := by decide +kernel
theorem dX10_waits_17 : decode cX10_waits 17 = .ok (.aload_n 0, 1) := by decide +kernel
theorem dX10_waits_18 : decode cX10_waits 18 = .ok (.getfield 48, 3) := by decide +kernel
theorem dX10_waits_21 : decode cX10_waits 21 = .ok (.aload_n 0, 1) := by decide +kernel
theorem dX10_waits_22 : decode cX10_waits 22 = .ok (.getfield 44, 3) := by decide +kernel
theorem dX10_waits_25 : decode cX10_waits 25 = .ok (.invokestatic 214, 3) := by decide +kernel
theorem dX10_waits_28 : decode cX10_waits 28 = .ok (.aload_n 0, 1) := by decide +kernel
theorem dX10_waits_29 : decode cX10_waits 29 = .ok (.getfield 44, 3) := by decide +kernel
theorem dX10_waits_32 : decode cX10_waits 32 = .ok (.invokestatic 220, 3) := by decide +kernel
theorem dX10_waits_35 : decode cX10_waits 35 = .ok (.iload_n 1, 1) := by decide +kernel
theorem dX10_waits_36 : decode cX10_waits 36 = .ok (.invokestatic 196, 3) := by decide +kernel
theorem dX10_waits_39 : decode cX10_waits 39 = .ok (.lreturn, 1) := by decide +kernel
theorem dX10_first_0 : decode cX10_first 0 = .ok (.iload_n 1, 1) := by decide +kernel
theorem dX10_first_1 : decode cX10_first 1 = .ok (.invokestatic 223, 3) := by decide +kernel
theorem dX10_first_4 : decode cX10_first 4 = .ok (.ifCond .eq 17, 3) := by decide +kernel
theorem dX10_first_7 : decode cX10_first 7 = .ok (.iload_n 2, 1) := by decide +kernel
theorem dX10_first_8 : decode cX10_first 8 = .ok (.invokestatic 223, 3) := by decide +kernel
theorem dX10_first_11 : decode cX10_first 11 = .ok (.ifCond .eq 10, 3) := by decide +kernel
theorem dX10_first_14 : decode cX10_first 14 = .ok (.iload_n 3, 1) := by decide +kernel
theorem dX10_first_15 : decode cX10_first 15 = .ok (.invokestatic 143, 3) := by decide +kernel
theorem dX10_first_18 : decode cX10_first 18 = .ok (.ifCond .ne 9, 3) := by decide +kernel
theorem dX10_first_21 : decode cX10_first 21 = .ok (.bipush (-2), 2) := by decide +kernel
theorem dX10_first_23 : decode cX10_first 23 = .ok (.invokestatic 146, 3) := by decide +kernel
theorem dX10_first_26 : decode cX10_first 26 = .ok (.lreturn, 1) := by decide +kernel
theorem dX10_first_27 : decode cX10_first 27 = .ok (.iload_n 1, 1) := by decide +kernel
theorem dX10_first_28 : decode cX10_first 28 = .ok (.iload_n 2, 1) := by decide +kernel
theorem dX10_first_29 : decode cX10_first 29 = .ok (.invokestatic 226, 3) := by decide +kernel
theorem dX10_first_32 : decode cX10_first 32 = .ok (.ifCond .ne 11, 3) := by decide +kernel
theorem dX10_first_35 : decode cX10_first 35 = .ok (.iload_n 2, 1) := by decide +kernel
theorem dX10_first_36 : decode cX10_first 36 = .ok (.iload_n 1, 1) := by decide +kernel
theorem dX10_first_37 : decode cX10_first 37 = .ok (.invokestatic 226, 3) := by decide +kernel
theorem dX10_first_40 : decode cX10_first 40 = .ok (.ifCond .eq 9, 3) := by decide +kernel
theorem dX10_first_43 : decode cX10_first 43 = .ok (.bipush (-3), 2) := by decide +kernel
theorem dX10_first_45 : decode cX10_first 45 = .ok (.invokestatic 146, 3) := by decide +kernel
theorem dX10_first_48 : decode cX10_first 48 = .ok (.lreturn, 1) := by decide +kernel
theorem dX10_first_49 : decode cX10_first 49 = .ok (.iload_n 2, 1) := by decide +kernel
theorem dX10_first_50 : decode cX10_first 50 = .ok (.iload_n 2, 1) := by decide +kernel
