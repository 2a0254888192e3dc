theorem dX11_shownNow_30 : decode cX11_shownNow 30 = .ok (.iload 4, 2) := by decide +kernel
theorem dX11_shownNow_32 : decode cX11_shownNow 32 = .ok (.invokestatic 81, 3) := by decide +kernel
theorem dX11_shownNow_35 : decode cX11_shownNow 35 = .ok (.iload_n 2, 1) := by decide +kernel
theorem dX11_shownNow_36 : decode cX11_shownNow 36 = .ok (.if_icmp .ne 17, 3) := by decide +kernel
theorem dX11_shownNow_39 : decode cX11_shownNow 39 = .ok (.aload_n 0, 1) := by decide +kernel
theorem dX11_shownNow_40 : decode cX11_shownNow 40 = .ok (.iload 4, 2) := by decide +kernel
theorem dX11_shownNow_42 : decode cX11_shownNow 42 = .ok (.iload_n 1, 1) := by decide +kernel
theorem dX11_shownNow_43 : decode cX11_shownNow 43 = .ok (.invokevirtual 130, 3) := by decide +kernel
theorem dX11_shownNow_46 : decode cX11_shownNow 46 = .ok (.ifCond .eq 7, 3) := by decide +kernel
theorem dX11_shownNow_49 : decode cX11_shownNow 49 = .ok (.iconst 1, 1) := by decide +kernel
theorem dX11_shownNow_50 : decode cX11_shownNow 50 = .ok (.goto 4, 3) := by decide +kernel
theorem dX11_shownNow_53 : decode cX11_shownNow 53 = .ok (.iconst 0, 1) := by decide +kernel
theorem dX11_shownNow_54 : decode cX11_shownNow 54 = .ok (.iadd, 1) := by decide +kernel
theorem dX11_shownNow_55 : decode cX11_shownNow 55 = .ok (.istore_n 3, 1) := by decide +kernel
theorem dX11_shownNow_56 : decode cX11_shownNow 56 = .ok (.iinc 4 1, 3) := by decide +kernel
theorem dX11_shownNow_59 : decode cX11_shownNow 59 = .ok (.goto (-43), 3) := by decide +kernel
theorem dX11_shownNow_62 : decode cX11_shownNow 62 = .ok (.iload_n 3, 1) := by decide +kernel
theorem dX11_shownNow_63 : decode cX11_shownNow 63 = .ok (.ireturn, 1) := by decide +kernel
theorem dX11_shown_0 : decode cX11_shown 0 = .ok (.iload_n 1, 1) := by decide +kernel
theorem dX11_shown_1 : decode cX11_shown 1 = .ok (.iconst 0, 1) := by decide +kernel
theorem dX11_shown_2 : decode cX11_shown 2 = .ok (.bipush 15, 2) := by decide +kernel
theorem dX11_shown_4 : decode cX11_shown 4 = .ok (.invokestatic 59, 3) := by decide +kernel
theorem dX11_shown_7 : decode cX11_shown 7 = .ok (.ifCond .eq 22, 3) := by decide +kernel
theorem dX11_shown_10 : decode cX11_shown 10 = .ok (.iload_n 2, 1) := by decide +kernel
theorem dX11_shown_11 : decode cX11_shown 11 = .ok (.iconst (-1), 1) := by decide +kernel
theorem dX11_shown_12 : decode cX11_shown 12 = .ok (.bipush 15, 2) := by decide +kernel
theorem dX11_shown_14 : decode cX11_shown 14 = .ok (.invokestatic 59, 3) := by decide +kernel
theorem dX11_shown_17 : decode cX11_shown 17 = .ok (.ifCond .eq 12, 3) := by decide +kernel
theorem dX11_shown_20 : decode cX11_shown 20 = .ok (.aload_n 0, 1) := by decide +kernel
theorem dX11_shown_21 : decode cX11_shown 21 = .ok (.iload_n 1, 1) := by decide +kernel
theorem dX11_shown_22 : decode cX11_shown 22 = .ok (.iload_n 2, 1) := by decide +kernel
theorem dX11_shown_23 : decode cX11_shown 23 = .ok (.invokevirtual 134, 3) := by decide +kernel
theorem dX11_shown_26 : decode cX11_shown 26 = .ok (.goto 5, 3) := by decide +kernel
theorem dX11_shown_29 : decode cX11_shown 29 = .ok (.bipush (-2), 2) := by decide +kernel
theorem dX11_shown_31 : decode cX11_shown 31 = .ok (.ireturn, 1) := by decide +kernel
theorem dX11_nth_0 : decode cX11_nth 0 = .ok (.iload_n 1, 1) := by decide +kernel
theorem dX11_nth_1 : decode cX11_nth 1 = .ok (.iconst 0, 1) := by decide +kernel
theorem dX11_nth_2 : decode cX11_nth 2 = .ok (.bipush 15, 2) := by decide +kernel
theorem dX11_nth_4 : decode cX11_nth 4 = .ok (.invokestatic 59, 3) := by decide +kernel
theorem dX11_nth_7 : decode cX11_nth 7 = .ok (.ifCond .eq 7, 3) := by decide +kernel
theorem dX11_nth_10 : decode cX11_nth 10 = .ok (.iload_n 2, 1) := by decide +kernel
theorem dX11_nth_11 : decode cX11_nth 11 = .ok (.ifCond .ge 6, 3) := by decide +kernel
theorem dX11_nth_14 : decode cX11_nth 14 = .ok (.bipush (-2), 2) := by decide +kernel
theorem dX11_nth_16 : decode cX11_nth 16 = .ok (.ireturn, 1) := by decide +kernel
theorem dX11_nth_17 : decode cX11_nth 17 = .ok (.aload_n 0, 1) := by decide +kernel
theorem dX11_nth_18 : decode cX11_nth 18 = .ok (.invokevirtual 127, 3) := by decide +kernel
theorem dX11_nth_21 : decode cX11_nth 21 = .ok (.iconst (-1), 1) := by decide +kernel
theorem dX11_nth_22 : decode cX11_nth 22 = .ok (.if_icmp .eq 6, 3) := by decide +kernel
theorem dX11_nth_25 : decode cX11_nth 25 = .ok (.bipush (-3), 2) := by decide +kernel
theorem dX11_nth_27 : decode cX11_nth 27 = .ok (.ireturn, 1) := by decide +kernel
theorem dX11_nth_28 : decode cX11_nth 28 = .ok (.iload_n 2, 1) := by decide +kernel
theorem dX11_nth_29 : decode cX11_nth 29 = .ok (.istore_n 3, 1) := by decide +kernel
theorem dX11_nth_30 : decode cX11_nth 30 = .ok (.iconst 0, 1) := by decide +kernel
theorem dX11_nth_31 : decode cX11_nth 31 = .ok (.istore 4, 2) := by decide +kernel
theorem dX11_nth_33 : decode cX11_nth 33 = .ok (.iload 4, 2) := by decide +kernel
theorem dX11_nth_35 : decode cX11_nth 35 = .ok (.iconst 1, 1) := by decide +kernel
theorem dX11_nth_36 : decode cX11_nth 36 = .ok (.iload_n 1, 1) := by decide +kernel
theorem dX11_nth_37 : decode cX11_nth 37 = .ok (.ishl, 1) := by decide +kernel
theorem dX11_nth_38 : decode cX11_nth 38 = .ok (.if_icmp .ge 38, 3) := by decide +kernel
theorem dX11_nth_41 : decode cX11_nth 41 = .ok (.iload_n 3, 1) := by decide +kernel
theorem dX11_nth_42 : decode cX11_nth 42 = .ok (.aload_n 0, 1) := by decide +kernel
theorem dX11_nth_43 : decode cX11_nth 43 = .ok (.iload 4, 2) := by decide +kernel
theorem dX11_nth_45 : decode cX11_nth 45 = .ok (.iload_n 1, 1) := by decide +kernel
theorem dX11_nth_46 : decode cX11_nth 46 = .ok (.invokevirtual 130, 3) := by decide +kernel
theorem dX11_nth_49 : decode cX11_nth 49 = .ok (.ifCond .eq 7, 3) := by decide +kernel
theorem dX11_nth_52 : decode cX11_nth 52 = .ok (.iconst 1, 1) := by decide +kernel
theorem dX11_nth_53 : decode cX11_nth 53 = .ok (.goto 4, 3) := by decide +kernel
theorem dX11_nth_56 : decode cX11_nth 56 = .ok (.iconst 0, 1) := by decide +kernel
theorem dX11_nth_57 : decode cX11_nth 57 = .ok (.isub, 1) := by decide +kernel
theorem dX11_nth_58 : decode cX11_nth 58 = .ok (.istore_n 3, 1) := by decide +kernel
theorem dX11_nth_59 : decode cX11_nth 59 = .ok (.iload_n 3, 1) := by decide +kernel
theorem dX11_nth_60 : decode cX11_nth 60 = .ok (.ifCond .ge 10, 3) := by decide +kernel
theorem dX11_nth_63 : decode cX11_nth 63 = .ok (.iconst 1, 1) := by decide +kernel
theorem dX11_nth_64 : decode cX11_nth 64 = .ok (.iload_n 1, 1) := by decide +kernel
theorem dX11_nth_65 : decode cX11_nth 65 = .ok (.ishl, 1) := by decide +kernel
theorem dX11_nth_66 : decode cX11_nth 66 = .ok (.iload 4, 2) := by decide +kernel
theorem dX11_nth_68 : decode cX11_nth 68 = .ok (.iadd, 1) := by decide +kernel
theorem dX11_nth_69 : decode cX11_nth 69 = .ok (.ireturn, 1) := by decide +kernel
theorem dX11_nth_70 : decode cX11_nth 70 = .ok (.iinc 4 1, 3) := by decide +kernel
theorem dX11_nth_73 : decode cX11_nth 73 = .ok (.goto (-40), 3) := by decide +kernel
theorem dX11_nth_76 : decode cX11_nth 76 = .ok (.iconst (-1), 1) := by decide +kernel
theorem dX11_nth_77 : decode cX11_nth 77 = .ok (.ireturn, 1) := by decide +kernel
theorem dX11_share_0 : decode cX11_share 0 = .ok (.iload_n 1, 1) := by decide +kernel
theorem dX11_share_1 : decode cX11_share 1 = .ok (.iconst 0, 1) := by decide +kernel
theorem dX11_share_2 : decode cX11_share 2 = .ok (.bipush 15, 2) := by decide +kernel
theorem dX11_share_4 : decode cX11_share 4 = .ok (.invokestatic 59, 3) := by decide +kernel
theorem dX11_share_7 : decode cX11_share 7 = .ok (.ifCond .eq 12, 3) := by decide +kernel
theorem dX11_share_10 : decode cX11_share 10 = .ok (.iload_n 2, 1) := by decide +kernel
theorem dX11_share_11 : decode cX11_share 11 = .ok (.iconst 0, 1) := by decide +kernel
theorem dX11_share_12 : decode cX11_share 12 = .ok (.iconst 1, 1) := by decide +kernel
theorem dX11_share_13 : decode cX11_share 13 = .ok (.invokestatic 59, 3) := by decide +kernel
theorem dX11_share_16 : decode cX11_share 16 = .ok (.ifCond .ne 9, 3) := by decide +kernel
theorem dX11_share_19 : decode cX11_share 19 = .ok (.bipush (-2), 2) := by decide +kernel
theorem dX11_share_21 : decode cX11_share 21 = .ok (.invokestatic 137, 3) := by decide +kernel
theorem dX11_share_24 : decode cX11_share 24 = .ok (.lreturn, 1) := by decide +kernel
theorem dX11_share_25 : decode cX11_share 25 = .ok (.aload_n 0, 1) := by decide +kernel
theorem dX11_share_26 : decode cX11_share 26 = .ok (.invokevirtual 127, 3) := by decide +kernel
theorem dX11_share_29 : decode cX11_share 29 = .ok (.iconst (-1), 1) := by decide +kernel
theorem dX11_share_30 : decode cX11_share 30 = .ok (.if_icmp .eq 9, 3) := by decide +kernel
theorem dX11_share_33 : decode cX11_share 33 = .ok (.bipush (-3), 2) := by decide +kernel
theorem dX11_share_35 : decode cX11_share 35 = .ok (.invokestatic 137, 3) := by decide +kernel
theorem dX11_share_38 : decode cX11_share 38 = .ok (.lreturn, 1) := by decide +kernel
theorem dX11_share_39 : decode cX11_share 39 = .ok (.lconst 0, 1) := by decide +kernel
theorem dX11_share_40 : decode cX11_share 40 = .ok (.lstore_n 3, 1) := by decide +kernel
theorem dX11_share_41 : decode cX11_share 41 = .ok (.iconst 0, 1) := by decide +kernel
theorem dX11_share_42 : decode cX11_share 42 = .ok (.istore 5, 2) := by decide +kernel
theorem dX11_share_44 : decode cX11_share 44 = .ok (.iload 5, 2) := by decide +kernel
theorem dX11_share_46 : decode cX11_share 46 = .ok (.iconst 1, 1) := by decide +kernel
theorem dX11_share_47 : decode cX11_share 47 = .ok (.iload_n 1, 1) := by decide +kernel
theorem dX11_share_48 : decode cX11_share 48 = .ok (.ishl, 1) := by decide +kernel
theorem dX11_share_49 : decode cX11_share 49 = .ok (.if_icmp .ge 58, 3) := by decide +kernel
theorem dX11_share_52 : decode cX11_share 52 = .ok (.lload_n 3, 1) := by decide +kernel
theorem dX11_share_53 : decode cX11_share 53 = .ok (.aload_n 0, 1) := by decide +kernel
theorem dX11_share_54 : decode cX11_share 54 = .ok (.iload 5, 2) := by decide +kernel
theorem dX11_share_56 : decode cX11_share 56 = .ok (.iload_n 1, 1) := by decide +kernel
theorem dX11_share_57 : decode cX11_share 57 = .ok (.invokevirtual 130, 3) := by decide +kernel
theorem dX11_share_60 : decode cX11_share 60 = .ok (.ifCond .eq 38, 3) := by decide +kernel
theorem dX11_share_63 : decode cX11_share 63 = .ok (.aload_n 0, 1) := by decide +kernel
theorem dX11_share_64 : decode cX11_share 64 = .ok (.getfield 16, 3) := by decide +kernel
theorem dX11_share_67 : decode cX11_share 67 = .ok (.i2l, 1) := by decide +kernel
theorem dX11_share_68 : decode cX11_share 68 = .ok (.iload 5, 2) := by decide +kernel
theorem dX11_share_70 : decode cX11_share 70 = .ok (.invokestatic 81, 3) := by decide +kernel
theorem dX11_share_73 : decode cX11_share 73 = .ok (.invokestatic 141, 3) := by decide +kernel
theorem dX11_share_76 : decode cX11_share 76 = .ok (.bipush 16, 2) := by decide +kernel
theorem dX11_share_78 : decode cX11_share 78 = .ok (.aload_n 0, 1) := by decide +kernel
theorem dX11_share_79 : decode cX11_share 79 = .ok (.getfield 16, 3) := by decide +kernel
theorem dX11_share_82 : decode cX11_share 82 = .ok (.isub, 1) := by decide +kernel
theorem dX11_share_83 : decode cX11_share 83 = .ok (.i2l, 1) := by decide +kernel
theorem dX11_share_84 : decode cX11_share 84 = .ok (.iload_n 1, 1) := by decide +kernel
theorem dX11_share_85 : decode cX11_share 85 = .ok (.iload 5, 2) := by decide +kernel
theorem dX11_share_87 : decode cX11_share 87 = .ok (.invokestatic 81, 3) := by decide +kernel
theorem dX11_share_90 : decode cX11_share 90 = .ok (.isub, 1) := by decide +kernel
theorem dX11_share_91 : decode cX11_share 91 = .ok (.invokestatic 141, 3) := by decide +kernel
theorem dX11_share_94 : decode cX11_share 94 = .ok (.lmul, 1) := by decide +kernel
theorem dX11_share_95 : decode cX11_share 95 = .ok (.goto 4, 3) := by decide +kernel
theorem dX11_share_98 : decode cX11_share 98 = .ok (.lconst 0, 1) := by decide +kernel
theorem dX11_share_99 : decode cX11_share 99 = .ok (.ladd, 1) := by decide +kernel
theorem dX11_share_100 : decode cX11_share 100 = .ok (.lstore_n 3, 1) := by decide +kernel
theorem dX11_share_101 : decode cX11_share 101 = .ok (.iinc 5 1, 3) := by decide +kernel
theorem dX11_share_104 : decode cX11_share 104 = .ok (.goto (-60), 3) := by decide +kernel
theorem dX11_share_107 : decode cX11_share 107 = .ok (.lload_n 3, 1) := by decide +kernel
theorem dX11_share_108 : decode cX11_share 108 = .ok (.ldc2_w 145, 3) := by decide +kernel
theorem dX11_share_111 : decode cX11_share 111 = .ok (.iload_n 1, 1) := by decide +kernel
theorem dX11_share_112 : decode cX11_share 112 = .ok (.invokestatic 141, 3) := by decide +kernel
theorem dX11_share_115 : decode cX11_share 115 = .ok (.iload_n 2, 1) := by decide +kernel
theorem dX11_share_116 : decode cX11_share 116 = .ok (.invokestatic 147, 3) := by decide +kernel
theorem dX11_share_119 : decode cX11_share 119 = .ok (.lreturn, 1) := by decide +kernel
theorem dX11_gathers_0 : decode cX11_gathers 0 = .ok (.aload_n 0, 1) := by decide +kernel
theorem dX11_gathers_1 : decode cX11_gathers 1 = .ok (.iconst 0, 1) := by decide +kernel
theorem dX11_gathers_2 : decode cX11_gathers 2 = .ok (.putfield 151, 3) := by decide +kernel
theorem dX11_gathers_5 : decode cX11_gathers 5 = .ok (.iconst 0, 1) := by decide +kernel
theorem dX11_gathers_6 : decode cX11_gathers 6 = .ok (.istore_n 2, 1) := by decide +kernel
theorem dX11_gathers_7 : decode cX11_gathers 7 = .ok (.iload_n 2, 1) := by decide +kernel
theorem dX11_gathers_8 : decode cX11_gathers 8 = .ok (.aload_n 0, 1) := by decide +kernel
theorem dX11_gathers_9 : decode cX11_gathers 9 = .ok (.getfield 7, 3) := by decide +kernel
theorem dX11_gathers_12 : decode cX11_gathers 12 = .ok (.iload_n 1, 1) := by decide +kernel
theorem dX11_gathers_13 : decode cX11_gathers 13 = .ok (.iaload, 1) := by decide +kernel
theorem dX11_gathers_14 : decode cX11_gathers 14 = .ok (.if_icmp .ge 55, 3) := by decide +kernel
theorem dX11_gathers_17 : decode cX11_gathers 17 = .ok (.aload_n 0, 1) := by decide +kernel
theorem dX11_gathers_18 : decode cX11_gathers 18 = .ok (.getfield 13, 3) := by decide +kernel
theorem dX11_gathers_21 : decode cX11_gathers 21 = .ok (.bipush 15, 2) := by decide +kernel
theorem dX11_gathers_23 : decode cX11_gathers 23 = .ok (.iload_n 1, 1) := by decide +kernel
theorem dX11_gathers_24 : decode cX11_gathers 24 = .ok (.imul, 1) := by decide +kernel
theorem dX11_gathers_25 : decode cX11_gathers 25 = .ok (.iload_n 2, 1) := by decide +kernel
theorem dX11_gathers_26 : decode cX11_gathers 26 = .ok (.iadd, 1) := by decide +kernel
theorem dX11_gathers_27 : decode cX11_gathers 27 = .ok (.iaload, 1) := by decide +kernel
theorem dX11_gathers_28 : decode cX11_gathers 28 = .ok (.iconst (-1), 1) := by decide +kernel
theorem dX11_gathers_29 : decode cX11_gathers 29 = .ok (.if_icmp .ne 34, 3) := by decide +kernel
theorem dX11_gathers_32 : decode cX11_gathers 32 = .ok (.aload_n 0, 1) := by decide +kernel
theorem dX11_gathers_33 : decode cX11_gathers 33 = .ok (.getfield 39, 3) := by decide +kernel
theorem dX11_gathers_36 : decode cX11_gathers 36 = .ok (.aload_n 0, 1) := by decide +kernel
theorem dX11_gathers_37 : decode cX11_gathers 37 = .ok (.getfield 151, 3) := by decide +kernel
theorem dX11_gathers_40 : decode cX11_gathers 40 = .ok (.iconst 1, 1) := by decide +kernel
theorem dX11_gathers_41 : decode cX11_gathers 41 = .ok (.aload_n 0, 1) := by decide +kernel
theorem dX11_gathers_42 : decode cX11_gathers 42 = .ok (.getfield 7, 3) := by decide +kernel
theorem dX11_gathers_45 : decode cX11_gathers 45 = .ok (.iload_n 1, 1) := by decide +kernel
theorem dX11_gathers_46 : decode cX11_gathers 46 = .ok (.iaload, 1) := by decide +kernel
theorem dX11_gathers_47 : decode cX11_gathers 47 = .ok (.iconst 1, 1) := by decide +kernel
theorem dX11_gathers_48 : decode cX11_gathers 48 = .ok (.isub, 1) := by decide +kernel
theorem dX11_gathers_49 : decode cX11_gathers 49 = .ok (.iload_n 2, 1) := by decide +kernel
theorem dX11_gathers_50 : decode cX11_gathers 50 = .ok (.isub, 1) := by decide +kernel
theorem dX11_gathers_51 : decode cX11_gathers 51 = .ok (.ishl, 1) := by decide +kernel
theorem dX11_gathers_52 : decode cX11_gathers 52 = .ok (.iastore, 1) := by decide +kernel
theorem dX11_gathers_53 : decode cX11_gathers 53 = .ok (.aload_n 0, 1) := by decide +kernel
theorem dX11_gathers_54 : decode cX11_gathers 54 = .ok (.dup, 1) := by decide +kernel
theorem dX11_gathers_55 : decode cX11_gathers 55 = .ok (.getfield 151, 3) := by decide +kernel
theorem dX11_gathers_58 : decode cX11_gathers 58 = .ok (.iconst 1, 1) := by decide +kernel
theorem dX11_gathers_59 : decode cX11_gathers 59 = .ok (.iadd, 1) := by decide +kernel
theorem dX11_gathers_60 : decode cX11_gathers 60 = .ok (.putfield 151, 3) := by decide +kernel
theorem dX11_gathers_63 : decode cX11_gathers 63 = .ok (.iinc 2 1, 3) := by decide +kernel
theorem dX11_gathers_66 : decode cX11_gathers 66 = .ok (.goto (-59), 3) := by decide +kernel
theorem dX11_gathers_69 : decode cX11_gathers 69 = .ok (.return_, 1) := by decide +kernel
theorem dX11_fill_0 : decode cX11_fill 0 = .ok (.aload_n 0, 1) := by decide +kernel
theorem dX11_fill_1 : decode cX11_fill 1 = .ok (.iload_n 1, 1) := by decide +kernel
theorem dX11_fill_2 : decode cX11_fill 2 = .ok (.invokevirtual 90, 3) := by decide +kernel
theorem dX11_fill_5 : decode cX11_fill 5 = .ok (.istore_n 3, 1) := by decide +kernel
theorem dX11_fill_6 : decode cX11_fill 6 = .ok (.iconst 0, 1) := by decide +kernel
theorem dX11_fill_7 : decode cX11_fill 7 = .ok (.istore 4, 2) := by decide +kernel
theorem dX11_fill_9 : decode cX11_fill 9 = .ok (.iload 4, 2) := by decide +kernel
theorem dX11_fill_11 : decode cX11_fill 11 = .ok (.aload_n 0, 1) := by decide +kernel
theorem dX11_fill_12 : decode cX11_fill 12 = .ok (.getfield 151, 3) := by decide +kernel
theorem dX11_fill_15 : decode cX11_fill 15 = .ok (.if_icmp .ge 33, 3) := by decide +kernel
theorem dX11_fill_18 : decode cX11_fill 18 = .ok (.iload_n 3, 1) := by decide +kernel
theorem dX11_fill_19 : decode cX11_fill 19 = .ok (.iload_n 2, 1) := by decide +kernel
theorem dX11_fill_20 : decode cX11_fill 20 = .ok (.iload 4, 2) := by decide +kernel
theorem dX11_fill_22 : decode cX11_fill 22 = .ok (.ishr, 1) := by decide +kernel
theorem dX11_fill_23 : decode cX11_fill 23 = .ok (.iconst 1, 1) := by decide +kernel
theorem dX11_fill_24 : decode cX11_fill 24 = .ok (.iand, 1) := by decide +kernel
theorem dX11_fill_25 : decode cX11_fill 25 = .ok (.iconst 1, 1) := by decide +kernel
theorem dX11_fill_26 : decode cX11_fill 26 = .ok (.if_icmp .ne 13, 3) := by decide +kernel
theorem dX11_fill_29 : decode cX11_fill 29 = .ok (.aload_n 0, 1) := by decide +kernel
theorem dX11_fill_30 : decode cX11_fill 30 = .ok (.getfield 39, 3) := by decide +kernel
theorem dX11_fill_33 : decode cX11_fill 33 = .ok (.iload 4, 2) := by decide +kernel
theorem dX11_fill_35 : decode cX11_fill 35 = .ok (.iaload, 1) := by decide +kernel
theorem dX11_fill_36 : decode cX11_fill 36 = .ok (.goto 4, 3) := by decide +kernel
theorem dX11_fill_39 : decode cX11_fill 39 = .ok (.iconst 0, 1) := by decide +kernel
theorem dX11_fill_40 : decode cX11_fill 40 = .ok (.ior, 1) := by decide +kernel
theorem dX11_fill_41 : decode cX11_fill 41 = .ok (.istore_n 3, 1) := by decide +kernel
theorem dX11_fill_42 : decode cX11_fill 42 = .ok (.iinc 4 1, 3) := by decide +kernel
theorem dX11_fill_45 : decode cX11_fill 45 = .ok (.goto (-36), 3) := by decide +kernel
theorem dX11_fill_48 : decode cX11_fill 48 = .ok (.iload_n 3, 1) := by decide +kernel
theorem dX11_fill_49 : decode cX11_fill 49 = .ok (.ireturn, 1) := by decide +kernel
theorem dX11_fills_0 : decode cX11_fills 0 = .ok (.iload_n 1, 1) := by decide +kernel
theorem dX11_fills_1 : decode cX11_fills 1 = .ok (.invokestatic 63, 3) := by decide +kernel
theorem dX11_fills_4 : decode cX11_fills 4 = .ok (.ifCond .eq 12, 3) := by decide +kernel
theorem dX11_fills_7 : decode cX11_fills 7 = .ok (.iload_n 2, 1) := by decide +kernel
theorem dX11_fills_8 : decode cX11_fills 8 = .ok (.iconst 0, 1) := by decide +kernel
theorem dX11_fills_9 : decode cX11_fills 9 = .ok (.iconst 1, 1) := by decide +kernel
theorem dX11_fills_10 : decode cX11_fills 10 = .ok (.invokestatic 59, 3) := by decide +kernel
theorem dX11_fills_13 : decode cX11_fills 13 = .ok (.ifCond .ne 6, 3) := by decide +kernel
theorem dX11_fills_16 : decode cX11_fills 16 = .ok (.bipush (-2), 2) := by decide +kernel
theorem dX11_fills_18 : decode cX11_fills 18 = .ok (.ireturn, 1) := by decide +kernel
theorem dX11_fills_19 : decode cX11_fills 19 = .ok (.aload_n 0, 1) := by decide +kernel
theorem dX11_fills_20 : decode cX11_fills 20 = .ok (.iload_n 1, 1) := by decide +kernel
theorem dX11_fills_21 : decode cX11_fills 21 = .ok (.invokevirtual 154, 3) := by decide +kernel
theorem dX11_fills_24 : decode cX11_fills 24 = .ok (.iload_n 2, 1) := by decide +kernel
theorem dX11_fills_25 : decode cX11_fills 25 = .ok (.ifCond .ne 10, 3) := by decide +kernel
theorem dX11_fills_28 : decode cX11_fills 28 = .ok (.iconst 1, 1) := by decide +kernel
theorem dX11_fills_29 : decode cX11_fills 29 = .ok (.aload_n 0, 1) := by decide +kernel
theorem dX11_fills_30 : decode cX11_fills 30 = .ok (.getfield 151, 3) := by decide +kernel
theorem dX11_fills_33 : decode cX11_fills 33 = .ok (.ishl, 1) := by decide +kernel
theorem dX11_fills_34 : decode cX11_fills 34 = .ok (.ireturn, 1) := by decide +kernel
theorem dX11_fills_35 : decode cX11_fills 35 = .ok (.aload_n 0, 1) := by decide +kernel
theorem dX11_fills_36 : decode cX11_fills 36 = .ok (.invokevirtual 127, 3) := by decide +kernel
theorem dX11_fills_39 : decode cX11_fills 39 = .ok (.iconst (-1), 1) := by decide +kernel
theorem dX11_fills_40 : decode cX11_fills 40 = .ok (.if_icmp .eq 6, 3) := by decide +kernel
theorem dX11_fills_43 : decode cX11_fills 43 = .ok (.bipush (-3), 2) := by decide +kernel
theorem dX11_fills_45 : decode cX11_fills 45 = .ok (.ireturn, 1) := by decide +kernel
theorem dX11_fills_46 : decode cX11_fills 46 = .ok (.iconst 0, 1) := by decide +kernel
theorem dX11_fills_47 : decode cX11_fills 47 = .ok (.istore_n 3, 1) := by decide +kernel
theorem dX11_fills_48 : decode cX11_fills 48 = .ok (.iconst 0, 1) := by decide +kernel
theorem dX11_fills_49 : decode cX11_fills 49 = .ok (.istore 4, 2) := by decide +kernel
theorem dX11_fills_51 : decode cX11_fills 51 = .ok (.iload 4, 2) := by decide +kernel
theorem dX11_fills_53 : decode cX11_fills 53 = .ok (.iconst 1, 1) := by decide +kernel
theorem dX11_fills_54 : decode cX11_fills 54 = .ok (.aload_n 0, 1) := by decide +kernel
theorem dX11_fills_55 : decode cX11_fills 55 = .ok (.getfield 151, 3) := by decide +kernel
theorem dX11_fills_58 : decode cX11_fills 58 = .ok (.ishl, 1) := by decide +kernel
theorem dX11_fills_59 : decode cX11_fills 59 = .ok (.if_icmp .ge 37, 3) := by decide +kernel
theorem dX11_fills_62 : decode cX11_fills 62 = .ok (.iload_n 3, 1) := by decide +kernel
theorem dX11_fills_63 : decode cX11_fills 63 = .ok (.aload_n 0, 1) := by decide +kernel
theorem dX11_fills_64 : decode cX11_fills 64 = .ok (.aload_n 0, 1) := by decide +kernel
theorem dX11_fills_65 : decode cX11_fills 65 = .ok (.iload_n 1, 1) := by decide +kernel
theorem dX11_fills_66 : decode cX11_fills 66 = .ok (.iload 4, 2) := by decide +kernel
theorem dX11_fills_68 : decode cX11_fills 68 = .ok (.invokevirtual 158, 3) := by decide +kernel
theorem dX11_fills_71 : decode cX11_fills 71 = .ok (.aload_n 0, 1) := by decide +kernel
theorem dX11_fills_72 : decode cX11_fills 72 = .ok (.getfield 7, 3) := by decide +kernel
theorem dX11_fills_75 : decode cX11_fills 75 = .ok (.iload_n 1, 1) := by decide +kernel
theorem dX11_fills_76 : decode cX11_fills 76 = .ok (.iaload, 1) := by decide +kernel
theorem dX11_fills_77 : decode cX11_fills 77 = .ok (.invokevirtual 130, 3) := by decide +kernel
theorem dX11_fills_80 : decode cX11_fills 80 = .ok (.ifCond .eq 7, 3) := by decide +kernel
theorem dX11_fills_83 : decode cX11_fills 83 = .ok (.iconst 1, 1) := by decide +kernel
theorem dX11_fills_84 : decode cX11_fills 84 = .ok (.goto 4, 3) := by decide +kernel
theorem dX11_fills_87 : decode cX11_fills 87 = .ok (.iconst 0, 1) := by decide +kernel
theorem dX11_fills_88 : decode cX11_fills 88 = .ok (.iadd, 1) := by decide +kernel
theorem dX11_fills_89 : decode cX11_fills 89 = .ok (.istore_n 3, 1) := by decide +kernel
theorem dX11_fills_90 : decode cX11_fills 90 = .ok (.iinc 4 1, 3) := by decide +kernel
theorem dX11_fills_93 : decode cX11_fills 93 = .ok (.goto (-42), 3) := by decide +kernel
theorem dX11_fills_96 : decode cX11_fills 96 = .ok (.iload_n 3, 1) := by decide +kernel
theorem dX11_fills_97 : decode cX11_fills 97 = .ok (.ireturn, 1) := by decide +kernel
theorem dX11_filled_0 : decode cX11_filled 0 = .ok (.iload_n 1, 1) := by decide +kernel
theorem dX11_filled_1 : decode cX11_filled 1 = .ok (.invokestatic 63, 3) := by decide +kernel
theorem dX11_filled_4 : decode cX11_filled 4 = .ok (.ifCond .eq 12, 3) := by decide +kernel
theorem dX11_filled_7 : decode cX11_filled 7 = .ok (.iload_n 2, 1) := by decide +kernel
theorem dX11_filled_8 : decode cX11_filled 8 = .ok (.iconst 0, 1) := by decide +kernel
theorem dX11_filled_9 : decode cX11_filled 9 = .ok (.iconst 1, 1) := by decide +kernel
theorem dX11_filled_10 : decode cX11_filled 10 = .ok (.invokestatic 59, 3) := by decide +kernel
theorem dX11_filled_13 : decode cX11_filled 13 = .ok (.ifCond .ne 9, 3) := by decide +kernel
theorem dX11_filled_16 : decode cX11_filled 16 = .ok (.bipush (-2), 2) := by decide +kernel
theorem dX11_filled_18 : decode cX11_filled 18 = .ok (.invokestatic 137, 3) := by decide +kernel
theorem dX11_filled_21 : decode cX11_filled 21 = .ok (.lreturn, 1) := by decide +kernel
theorem dX11_filled_22 : decode cX11_filled 22 = .ok (.aload_n 0, 1) := by decide +kernel
theorem dX11_filled_23 : decode cX11_filled 23 = .ok (.invokevirtual 127, 3) := by decide +kernel
theorem dX11_filled_26 : decode cX11_filled 26 = .ok (.iconst (-1), 1) := by decide +kernel
theorem dX11_filled_27 : decode cX11_filled 27 = .ok (.if_icmp .eq 9, 3) := by decide +kernel
theorem dX11_filled_30 : decode cX11_filled 30 = .ok (.bipush (-3), 2) := by decide +kernel
theorem dX11_filled_32 : decode cX11_filled 32 = .ok (.invokestatic 137, 3) := by decide +kernel
theorem dX11_filled_35 : decode cX11_filled 35 = .ok (.lreturn, 1) := by decide +kernel
theorem dX11_filled_36 : decode cX11_filled 36 = .ok (.aload_n 0, 1) := by decide +kernel
theorem dX11_filled_37 : decode cX11_filled 37 = .ok (.iload_n 1, 1) := by decide +kernel
theorem dX11_filled_38 : decode cX11_filled 38 = .ok (.invokevirtual 154, 3) := by decide +kernel
theorem dX11_filled_41 : decode cX11_filled 41 = .ok (.lconst 0, 1) := by decide +kernel
theorem dX11_filled_42 : decode cX11_filled 42 = .ok (.lstore_n 3, 1) := by decide +kernel
theorem dX11_filled_43 : decode cX11_filled 43 = .ok (.iconst 0, 1) := by decide +kernel
theorem dX11_filled_44 : decode cX11_filled 44 = .ok (.istore 5, 2) := by decide +kernel
theorem dX11_filled_46 : decode cX11_filled 46 = .ok (.iload 5, 2) := by decide +kernel
theorem dX11_filled_48 : decode cX11_filled 48 = .ok (.iconst 1, 1) := by decide +kernel
theorem dX11_filled_49 : decode cX11_filled 49 = .ok (.aload_n 0, 1) := by decide +kernel
theorem dX11_filled_50 : decode cX11_filled 50 = .ok (.getfield 151, 3) := by decide +kernel
theorem dX11_filled_53 : decode cX11_filled 53 = .ok (.ishl, 1) := by decide +kernel
theorem dX11_filled_54 : decode cX11_filled 54 = .ok (.if_icmp .ge 71, 3) := by decide +kernel
theorem dX11_filled_57 : decode cX11_filled 57 = .ok (.lload_n 3, 1) := by decide +kernel
theorem dX11_filled_58 : decode cX11_filled 58 = .ok (.aload_n 0, 1) := by decide +kernel
theorem dX11_filled_59 : decode cX11_filled 59 = .ok (.aload_n 0, 1) := by decide +kernel
theorem dX11_filled_60 : decode cX11_filled 60 = .ok (.iload_n 1, 1) := by decide +kernel
theorem dX11_filled_61 : decode cX11_filled 61 = .ok (.iload 5, 2) := by decide +kernel
theorem dX11_filled_63 : decode cX11_filled 63 = .ok (.invokevirtual 158, 3) := by decide +kernel
theorem dX11_filled_66 : decode cX11_filled 66 = .ok (.aload_n 0, 1) := by decide +kernel
theorem dX11_filled_67 : decode cX11_filled 67 = .ok (.getfield 7, 3) := by decide +kernel
theorem dX11_filled_70 : decode cX11_filled 70 = .ok (.iload_n 1, 1) := by decide +kernel
theorem dX11_filled_71 : decode cX11_filled 71 = .ok (.iaload, 1) := by decide +kernel
theorem dX11_filled_72 : decode cX11_filled 72 = .ok (.invokevirtual 130, 3) := by decide +kernel
theorem dX11_filled_75 : decode cX11_filled 75 = .ok (.ifCond .eq 41, 3) := by decide +kernel
theorem dX11_filled_78 : decode cX11_filled 78 = .ok (.aload_n 0, 1) := by decide +kernel
theorem dX11_filled_79 : decode cX11_filled 79 = .ok (.getfield 16, 3) := by decide +kernel
theorem dX11_filled_82 : decode cX11_filled 82 = .ok (.i2l, 1) := by decide +kernel
theorem dX11_filled_83 : decode cX11_filled 83 = .ok (.iload 5, 2) := by decide +kernel
theorem dX11_filled_85 : decode cX11_filled 85 = .ok (.invokestatic 81, 3) := by decide +kernel
theorem dX11_filled_88 : decode cX11_filled 88 = .ok (.invokestatic 141, 3) := by decide +kernel
theorem dX11_filled_91 : decode cX11_filled 91 = .ok (.bipush 16, 2) := by decide +kernel
theorem dX11_filled_93 : decode cX11_filled 93 = .ok (.aload_n 0, 1) := by decide +kernel
theorem dX11_filled_94 : decode cX11_filled 94 = .ok (.getfield 16, 3) := by decide +kernel
theorem dX11_filled_97 : decode cX11_filled 97 = .ok (.isub, 1) := by decide +kernel
theorem dX11_filled_98 : decode cX11_filled 98 = .ok (.i2l, 1) := by decide +kernel
theorem dX11_filled_99 : decode cX11_filled 99 = .ok (.aload_n 0, 1) := by decide +kernel
theorem dX11_filled_100 : decode cX11_filled 100 = .ok (.getfield 151, 3) := by decide +kernel
theorem dX11_filled_103 : decode cX11_filled 103 = .ok (.iload 5, 2) := by decide +kernel
theorem dX11_filled_105 : decode cX11_filled 105 = .ok (.invokestatic 81, 3) := by decide +kernel
theorem dX11_filled_108 : decode cX11_filled 108 = .ok (.isub, 1) := by decide +kernel
theorem dX11_filled_109 : decode cX11_filled 109 = .ok (.invokestatic 141, 3) := by decide +kernel
theorem dX11_filled_112 : decode cX11_filled 112 = .ok (.lmul, 1) := by decide +kernel
theorem dX11_filled_113 : decode cX11_filled 113 = .ok (.goto 4, 3) := by decide +kernel
theorem dX11_filled_116 : decode cX11_filled 116 = .ok (.lconst 0, 1) := by decide +kernel
theorem dX11_filled_117 : decode cX11_filled 117 = .ok (.ladd, 1) := by decide +kernel
theorem dX11_filled_118 : decode cX11_filled 118 = .ok (.lstore_n 3, 1) := by decide +kernel
theorem dX11_filled_119 : decode cX11_filled 119 = .ok (.iinc 5 1, 3) := by decide +kernel
theorem dX11_filled_122 : decode cX11_filled 122 = .ok (.goto (-76), 3) := by decide +kernel
theorem dX11_filled_125 : decode cX11_filled 125 = .ok (.lload_n 3, 1) := by decide +kernel
theorem dX11_filled_126 : decode cX11_filled 126 = .ok (.ldc2_w 145, 3) := by decide +kernel
theorem dX11_filled_129 : decode cX11_filled 129 = .ok (.aload_n 0, 1) := by decide +kernel
theorem dX11_filled_130 : decode cX11_filled 130 = .ok (.getfield 151, 3) := by decide +kernel
theorem dX11_filled_133 : decode cX11_filled 133 = .ok (.invokestatic 141, 3) := by decide +kernel
theorem dX11_filled_136 : decode cX11_filled 136 = .ok (.iload_n 2, 1) := by decide +kernel
theorem dX11_filled_137 : decode cX11_filled 137 = .ok (.invokestatic 147, 3) := by decide +kernel
theorem dX11_filled_140 : decode cX11_filled 140 = .ok (.lreturn, 1) := by decide +kernel
theorem dX11_sure_0 : decode cX11_sure 0 = .ok (.iload_n 1, 1) := by decide +kernel
theorem dX11_sure_1 : decode cX11_sure 1 = .ok (.invokestatic 63, 3) := by decide +kernel
theorem dX11_sure_4 : decode cX11_sure 4 = .ok (.ifCond .eq 7, 3) := by decide +kernel
theorem dX11_sure_7 : decode cX11_sure 7 = .ok (.iload_n 2, 1) := by decide +kernel
theorem dX11_sure_8 : decode cX11_sure 8 = .ok (.ifCond .ge 6, 3) := by decide +kernel
theorem dX11_sure_11 : decode cX11_sure 11 = .ok (.bipush (-2), 2) := by decide +kernel
theorem dX11_sure_13 : decode cX11_sure 13 = .ok (.ireturn, 1) := by decide +kernel
theorem dX11_sure_14 : decode cX11_sure 14 = .ok (.aload_n 0, 1) := by decide +kernel
theorem dX11_sure_15 : decode cX11_sure 15 = .ok (.invokevirtual 127, 3) := by decide +kernel
theorem dX11_sure_18 : decode cX11_sure 18 = .ok (.iconst (-1), 1) := by decide +kernel
theorem dX11_sure_19 : decode cX11_sure 19 = .ok (.if_icmp .ne 13, 3) := by decide +kernel
theorem dX11_sure_22 : decode cX11_sure 22 = .ok (.iload_n 2, 1) := by decide +kernel
theorem dX11_sure_23 : decode cX11_sure 23 = .ok (.aload_n 0, 1) := by decide +kernel
theorem dX11_sure_24 : decode cX11_sure 24 = .ok (.getfield 7, 3) := by decide +kernel
theorem dX11_sure_27 : decode cX11_sure 27 = .ok (.iload_n 1, 1) := by decide +kernel
theorem dX11_sure_28 : decode cX11_sure 28 = .ok (.iaload, 1) := by decide +kernel
theorem dX11_sure_29 : decode cX11_sure 29 = .ok (.if_icmp .lt 6, 3) := by decide +kernel
theorem dX11_sure_32 : decode cX11_sure 32 = .ok (.bipush (-3), 2) := by decide +kernel
theorem dX11_sure_34 : decode cX11_sure 34 = .ok (.ireturn, 1) := by decide +kernel
theorem dX11_sure_35 : decode cX11_sure 35 = .ok (.aload_n 0, 1) := by decide +kernel
theorem dX11_sure_36 : decode cX11_sure 36 = .ok (.iload_n 1, 1) := by decide +kernel
theorem dX11_sure_37 : decode cX11_sure 37 = .ok (.invokevirtual 154, 3) := by decide +kernel
theorem dX11_sure_40 : decode cX11_sure 40 = .ok (.iconst 0, 1) := by decide +kernel
theorem dX11_sure_41 : decode cX11_sure 41 = .ok (.istore_n 3, 1) := by decide +kernel
theorem dX11_sure_42 : decode cX11_sure 42 = .ok (.iconst 0, 1) := by decide +kernel
theorem dX11_sure_43 : decode cX11_sure 43 = .ok (.istore 4, 2) := by decide +kernel
theorem dX11_sure_45 : decode cX11_sure 45 = .ok (.iconst 0, 1) := by decide +kernel
theorem dX11_sure_46 : decode cX11_sure 46 = .ok (.istore 5, 2) := by decide +kernel
theorem dX11_sure_48 : decode cX11_sure 48 = .ok (.iload 5, 2) := by decide +kernel
theorem dX11_sure_50 : decode cX11_sure 50 = .ok (.iconst 1, 1) := by decide +kernel
theorem dX11_sure_51 : decode cX11_sure 51 = .ok (.aload_n 0, 1) := by decide +kernel
theorem dX11_sure_52 : decode cX11_sure 52 = .ok (.getfield 151, 3) := by decide +kernel
theorem dX11_sure_55 : decode cX11_sure 55 = .ok (.ishl, 1) := by decide +kernel
theorem dX11_sure_56 : decode cX11_sure 56 = .ok (.if_icmp .ge 64, 3) := by decide +kernel
theorem dX11_sure_59 : decode cX11_sure 59 = .ok (.aload_n 0, 1) := by decide +kernel
theorem dX11_sure_60 : decode cX11_sure 60 = .ok (.iload_n 1, 1) := by decide +kernel
theorem dX11_sure_61 : decode cX11_sure 61 = .ok (.iload 5, 2) := by decide +kernel
theorem dX11_sure_63 : decode cX11_sure 63 = .ok (.invokevirtual 158, 3) := by decide +kernel
theorem dX11_sure_66 : decode cX11_sure 66 = .ok (.istore 6, 2) := by decide +kernel
theorem dX11_sure_68 : decode cX11_sure 68 = .ok (.aload_n 0, 1) := by decide +kernel
theorem dX11_sure_69 : decode cX11_sure 69 = .ok (.iload 6, 2) := by decide +kernel
theorem dX11_sure_71 : decode cX11_sure 71 = .ok (.aload_n 0, 1) := by decide +kernel
theorem dX11_sure_72 : decode cX11_sure 72 = .ok (.getfield 7, 3) := by decide +kernel
theorem dX11_sure_75 : decode cX11_sure 75 = .ok (.iload_n 1, 1) := by decide +kernel
theorem dX11_sure_76 : decode cX11_sure 76 = .ok (.iaload, 1) := by decide +kernel
theorem dX11_sure_77 : decode cX11_sure 77 = .ok (.invokevirtual 130, 3) := by decide +kernel
theorem dX11_sure_80 : decode cX11_sure 80 = .ok (.ifCond .eq 34, 3) := by decide +kernel
theorem dX11_sure_83 : decode cX11_sure 83 = .ok (.iload 6, 2) := by decide +kernel
theorem dX11_sure_85 : decode cX11_sure 85 = .ok (.aload_n 0, 1) := by decide +kernel
theorem dX11_sure_86 : decode cX11_sure 86 = .ok (.getfield 7, 3) := by decide +kernel
theorem dX11_sure_89 : decode cX11_sure 89 = .ok (.iload_n 1, 1) := by decide +kernel
theorem dX11_sure_90 : decode cX11_sure 90 = .ok (.iaload, 1) := by decide +kernel
theorem dX11_sure_91 : decode cX11_sure 91 = .ok (.iconst 1, 1) := by decide +kernel
theorem dX11_sure_92 : decode cX11_sure 92 = .ok (.isub, 1) := by decide +kernel
theorem dX11_sure_93 : decode cX11_sure 93 = .ok (.iload_n 2, 1) := by decide +kernel
theorem dX11_sure_94 : decode cX11_sure 94 = .ok (.isub, 1) := by decide +kernel
theorem dX11_sure_95 : decode cX11_sure 95 = .ok (.ishr, 1) := by decide +kernel
theorem dX11_sure_96 : decode cX11_sure 96 = .ok (.iconst 1, 1) := by decide +kernel
theorem dX11_sure_97 : decode cX11_sure 97 = .ok (.iand, 1) := by decide +kernel
theorem dX11_sure_98 : decode cX11_sure 98 = .ok (.istore 7, 2) := by decide +kernel
theorem dX11_sure_100 : decode cX11_sure 100 = .ok (.iload_n 3, 1) := by decide +kernel
theorem dX11_sure_101 : decode cX11_sure 101 = .ok (.iload 7, 2) := by decide +kernel
theorem dX11_sure_103 : decode cX11_sure 103 = .ok (.iadd, 1) := by decide +kernel
theorem dX11_sure_104 : decode cX11_sure 104 = .ok (.istore_n 3, 1) := by decide +kernel
theorem dX11_sure_105 : decode cX11_sure 105 = .ok (.iload 4, 2) := by decide +kernel
theorem dX11_sure_107 : decode cX11_sure 107 = .ok (.iconst 1, 1) := by decide +kernel
theorem dX11_sure_108 : decode cX11_sure 108 = .ok (.iload 7, 2) := by decide +kernel
theorem dX11_sure_110 : decode cX11_sure 110 = .ok (.isub, 1) := by decide +kernel
theorem dX11_sure_111 : decode cX11_sure 111 = .ok (.iadd, 1) := by decide +kernel
theorem dX11_sure_112 : decode cX11_sure 112 = .ok (.istore 4, 2) := by decide +kernel
theorem dX11_sure_114 : decode cX11_sure 114 = .ok (.iinc 5 1, 3) := by decide +kernel
theorem dX11_sure_117 : decode cX11_sure 117 = .ok (.goto (-69), 3) := by decide +kernel
theorem dX11_sure_120 : decode cX11_sure 120 = .ok (.iload_n 3, 1) := by decide +kernel
theorem dX11_sure_121 : decode cX11_sure 121 = .ok (.iload 4, 2) := by decide +kernel
theorem dX11_sure_123 : decode cX11_sure 123 = .ok (.iadd, 1) := by decide +kernel
theorem dX11_sure_124 : decode cX11_sure 124 = .ok (.ifCond .ne 8, 3) := by decide +kernel
theorem dX11_sure_127 : decode cX11_sure 127 = .ok (.bipush (-3), 2) := by decide +kernel
theorem dX11_sure_129 : decode cX11_sure 129 = .ok (.goto 21, 3) := by decide +kernel
theorem dX11_sure_132 : decode cX11_sure 132 = .ok (.iload 4, 2) := by decide +kernel
theorem dX11_sure_134 : decode cX11_sure 134 = .ok (.ifCond .ne 7, 3) := by decide +kernel
theorem dX11_sure_137 : decode cX11_sure 137 = .ok (.iconst 1, 1) := by decide +kernel
theorem dX11_sure_138 : decode cX11_sure 138 = .ok (.goto 12, 3) := by decide +kernel
theorem dX11_sure_141 : decode cX11_sure 141 = .ok (.iload_n 3, 1) := by decide +kernel
theorem dX11_sure_142 : decode cX11_sure 142 = .ok (.ifCond .ne 7, 3) := by decide +kernel
theorem dX11_sure_145 : decode cX11_sure 145 = .ok (.iconst 0, 1) := by decide +kernel
theorem dX11_sure_146 : decode cX11_sure 146 = .ok (.goto 4, 3) := by decide +kernel
theorem dX11_sure_149 : decode cX11_sure 149 = .ok (.iconst (-1), 1) := by decide +kernel
theorem dX11_sure_150 : decode cX11_sure 150 = .ok (.ireturn, 1) := by decide +kernel
theorem dX11_dealtMany_0 : decode cX11_dealtMany 0 = .ok (.aload_n 0, 1) := by decide +kernel
theorem dX11_dealtMany_1 : decode cX11_dealtMany 1 = .ok (.getfield 7, 3) := by decide +kernel
theorem dX11_dealtMany_4 : decode cX11_dealtMany 4 = .ok (.iload_n 1, 1) := by decide +kernel
theorem dX11_dealtMany_5 : decode cX11_dealtMany 5 = .ok (.iaload, 1) := by decide +kernel
theorem dX11_dealtMany_6 : decode cX11_dealtMany 6 = .ok (.istore 4, 2) := by decide +kernel
theorem dX11_dealtMany_8 : decode cX11_dealtMany 8 = .ok (.aload_n 0, 1) := by decide +kernel
theorem dX11_dealtMany_9 : decode cX11_dealtMany 9 = .ok (.iload_n 1, 1) := by decide +kernel
theorem dX11_dealtMany_10 : decode cX11_dealtMany 10 = .ok (.invokevirtual 90, 3) := by decide +kernel
theorem dX11_dealtMany_13 : decode cX11_dealtMany 13 = .ok (.istore 5, 2) := by decide +kernel
theorem dX11_dealtMany_15 : decode cX11_dealtMany 15 = .ok (.iload 5, 2) := by decide +kernel
theorem dX11_dealtMany_17 : decode cX11_dealtMany 17 = .ok (.invokestatic 81, 3) := by decide +kernel
theorem dX11_dealtMany_20 : decode cX11_dealtMany 20 = .ok (.istore 6, 2) := by decide +kernel
theorem dX11_dealtMany_22 : decode cX11_dealtMany 22 = .ok (.aload_n 0, 1) := by decide +kernel
theorem dX11_dealtMany_23 : decode cX11_dealtMany 23 = .ok (.iload 5, 2) := by decide +kernel
theorem dX11_dealtMany_25 : decode cX11_dealtMany 25 = .ok (.iload 4, 2) := by decide +kernel
theorem dX11_dealtMany_27 : decode cX11_dealtMany 27 = .ok (.iload_n 2, 1) := by decide +kernel
theorem dX11_dealtMany_28 : decode cX11_dealtMany 28 = .ok (.invokevirtual 93, 3) := by decide +kernel
theorem dX11_dealtMany_31 : decode cX11_dealtMany 31 = .ok (.istore 7, 2) := by decide +kernel
theorem dX11_dealtMany_33 : decode cX11_dealtMany 33 = .ok (.iconst 0, 1) := by decide +kernel
theorem dX11_dealtMany_34 : decode cX11_dealtMany 34 = .ok (.istore 8, 2) := by decide +kernel
theorem dX11_dealtMany_36 : decode cX11_dealtMany 36 = .ok (.iconst 0, 1) := by decide +kernel
theorem dX11_dealtMany_37 : decode cX11_dealtMany 37 = .ok (.istore 9, 2) := by decide +kernel
theorem dX11_dealtMany_39 : decode cX11_dealtMany 39 = .ok (.iload 9, 2) := by decide +kernel
theorem dX11_dealtMany_41 : decode cX11_dealtMany 41 = .ok (.iconst 1, 1) := by decide +kernel
theorem dX11_dealtMany_42 : decode cX11_dealtMany 42 = .ok (.iload 4, 2) := by decide +kernel
theorem dX11_dealtMany_44 : decode cX11_dealtMany 44 = .ok (.ishl, 1) := by decide +kernel
theorem dX11_dealtMany_45 : decode cX11_dealtMany 45 = .ok (.if_icmp .ge 62, 3) := by decide +kernel
theorem dX11_dealtMany_48 : decode cX11_dealtMany 48 = .ok (.iload 9, 2) := by decide +kernel
theorem dX11_dealtMany_50 : decode cX11_dealtMany 50 = .ok (.invokestatic 81, 3) := by decide +kernel
theorem dX11_dealtMany_53 : decode cX11_dealtMany 53 = .ok (.iload 6, 2) := by decide +kernel
theorem dX11_dealtMany_55 : decode cX11_dealtMany 55 = .ok (.if_icmp .ne 46, 3) := by decide +kernel
theorem dX11_dealtMany_58 : decode cX11_dealtMany 58 = .ok (.aload_n 0, 1) := by decide +kernel
theorem dX11_dealtMany_59 : decode cX11_dealtMany 59 = .ok (.iload 9, 2) := by decide +kernel
theorem dX11_dealtMany_61 : decode cX11_dealtMany 61 = .ok (.iload 4, 2) := by decide +kernel
theorem dX11_dealtMany_63 : decode cX11_dealtMany 63 = .ok (.iload_n 2, 1) := by decide +kernel
theorem dX11_dealtMany_64 : decode cX11_dealtMany 64 = .ok (.invokevirtual 93, 3) := by decide +kernel
theorem dX11_dealtMany_67 : decode cX11_dealtMany 67 = .ok (.istore 10, 2) := by decide +kernel
theorem dX11_dealtMany_69 : decode cX11_dealtMany 69 = .ok (.iload 8, 2) := by decide +kernel
theorem dX11_dealtMany_71 : decode cX11_dealtMany 71 = .ok (.iload_n 3, 1) := by decide +kernel
theorem dX11_dealtMany_72 : decode cX11_dealtMany 72 = .ok (.ifCond .eq 10, 3) := by decide +kernel
theorem dX11_dealtMany_75 : decode cX11_dealtMany 75 = .ok (.iload 10, 2) := by decide +kernel
theorem dX11_dealtMany_77 : decode cX11_dealtMany 77 = .ok (.iload 7, 2) := by decide +kernel
theorem dX11_dealtMany_79 : decode cX11_dealtMany 79 = .ok (.if_icmp .ge 14, 3) := by decide +kernel
theorem dX11_dealtMany_82 : decode cX11_dealtMany 82 = .ok (.iload_n 3, 1) := by decide +kernel
theorem dX11_dealtMany_83 : decode cX11_dealtMany 83 = .ok (.ifCond .ne 14, 3) := by decide +kernel
theorem dX11_dealtMany_86 : decode cX11_dealtMany 86 = .ok (.iload 10, 2) := by decide +kernel
theorem dX11_dealtMany_88 : decode cX11_dealtMany 88 = .ok (.iload 7, 2) := by decide +kernel
theorem dX11_dealtMany_90 : decode cX11_dealtMany 90 = .ok (.if_icmp .gt 7, 3) := by decide +kernel
theorem dX11_dealtMany_93 : decode cX11_dealtMany 93 = .ok (.iconst 1, 1) := by decide +kernel
theorem dX11_dealtMany_94 : decode cX11_dealtMany 94 = .ok (.goto 4, 3) := by decide +kernel
theorem dX11_dealtMany_97 : decode cX11_dealtMany 97 = .ok (.iconst 0, 1) := by decide +kernel
theorem dX11_dealtMany_98 : decode cX11_dealtMany 98 = .ok (.iadd, 1) := by decide +kernel
theorem dX11_dealtMany_99 : decode cX11_dealtMany 99 = .ok (.istore 8, 2) := by decide +kernel
theorem dX11_dealtMany_101 : decode cX11_dealtMany 101 = .ok (.iinc 9 1, 3) := by decide +kernel
theorem dX11_dealtMany_104 : decode cX11_dealtMany 104 = .ok (.goto (-65), 3) := by decide +kernel
theorem dX11_dealtMany_107 : decode cX11_dealtMany 107 = .ok (.iload 8, 2) := by decide +kernel
theorem dX11_dealtMany_109 : decode cX11_dealtMany 109 = .ok (.ireturn, 1) := by decide +kernel
theorem dX11_choose_0 : decode cX11_choose 0 = .ok (.lconst 1, 1) := by decide +kernel
theorem dX11_choose_1 : decode cX11_choose 1 = .ok (.lstore_n 2, 1) := by decide +kernel
theorem dX11_choose_2 : decode cX11_choose 2 = .ok (.iconst 1, 1) := by decide +kernel
theorem dX11_choose_3 : decode cX11_choose 3 = .ok (.istore 4, 2) := by decide +kernel
theorem dX11_choose_5 : decode cX11_choose 5 = .ok (.iload 4, 2) := by decide +kernel
theorem dX11_choose_7 : decode cX11_choose 7 = .ok (.iload_n 1, 1) := by decide +kernel
theorem dX11_choose_8 : decode cX11_choose 8 = .ok (.if_icmp .gt 23, 3) := by decide +kernel
theorem dX11_choose_11 : decode cX11_choose 11 = .ok (.lload_n 2, 1) := by decide +kernel
theorem dX11_choose_12 : decode cX11_choose 12 = .ok (.iload_n 0, 1) := by decide +kernel
theorem dX11_choose_13 : decode cX11_choose 13 = .ok (.iload_n 1, 1) := by decide +kernel
theorem dX11_choose_14 : decode cX11_choose 14 = .ok (.isub, 1) := by decide +kernel
theorem dX11_choose_15 : decode cX11_choose 15 = .ok (.iload 4, 2) := by decide +kernel
theorem dX11_choose_17 : decode cX11_choose 17 = .ok (.iadd, 1) := by decide +kernel
theorem dX11_choose_18 : decode cX11_choose 18 = .ok (.i2l, 1) := by decide +kernel
theorem dX11_choose_19 : decode cX11_choose 19 = .ok (.lmul, 1) := by decide +kernel
theorem dX11_choose_20 : decode cX11_choose 20 = .ok (.iload 4, 2) := by decide +kernel
theorem dX11_choose_22 : decode cX11_choose 22 = .ok (.i2l, 1) := by decide +kernel
theorem dX11_choose_23 : decode cX11_choose 23 = .ok (.ldiv, 1) := by decide +kernel
theorem dX11_choose_24 : decode cX11_choose 24 = .ok (.lstore_n 2, 1) := by decide +kernel
theorem dX11_choose_25 : decode cX11_choose 25 = .ok (.iinc 4 1, 3) := by decide +kernel
theorem dX11_choose_28 : decode cX11_choose 28 = .ok (.goto (-23), 3) := by decide +kernel
theorem dX11_choose_31 : decode cX11_choose 31 = .ok (.lload_n 2, 1) := by decide +kernel
theorem dX11_choose_32 : decode cX11_choose 32 = .ok (.lreturn, 1) := by decide +kernel
theorem dX11_dealtAll_0 : decode cX11_dealtAll 0 = .ok (.aload_n 0, 1) := by decide +kernel
theorem dX11_dealtAll_1 : decode cX11_dealtAll 1 = .ok (.getfield 7, 3) := by decide +kernel
theorem dX11_dealtAll_4 : decode cX11_dealtAll 4 = .ok (.iload_n 1, 1) := by decide +kernel
theorem dX11_dealtAll_5 : decode cX11_dealtAll 5 = .ok (.iaload, 1) := by decide +kernel
theorem dX11_dealtAll_6 : decode cX11_dealtAll 6 = .ok (.aload_n 0, 1) := by decide +kernel
theorem dX11_dealtAll_7 : decode cX11_dealtAll 7 = .ok (.iload_n 1, 1) := by decide +kernel
theorem dX11_dealtAll_8 : decode cX11_dealtAll 8 = .ok (.invokevirtual 90, 3) := by decide +kernel
theorem dX11_dealtAll_11 : decode cX11_dealtAll 11 = .ok (.invokestatic 81, 3) := by decide +kernel
theorem dX11_dealtAll_14 : decode cX11_dealtAll 14 = .ok (.invokestatic 161, 3) := by decide +kernel
theorem dX11_dealtAll_17 : decode cX11_dealtAll 17 = .ok (.lreturn, 1) := by decide +kernel
theorem dX11_dealt_0 : decode cX11_dealt 0 = .ok (.iload_n 1, 1) := by decide +kernel
theorem dX11_dealt_1 : decode cX11_dealt 1 = .ok (.invokestatic 63, 3) := by decide +kernel
theorem dX11_dealt_4 : decode cX11_dealt 4 = .ok (.ifCond .eq 13, 3) := by decide +kernel
theorem dX11_dealt_7 : decode cX11_dealt 7 = .ok (.iload_n 2, 1) := by decide +kernel
theorem dX11_dealt_8 : decode cX11_dealt 8 = .ok (.iconst 0, 1) := by decide +kernel
theorem dX11_dealt_9 : decode cX11_dealt 9 = .ok (.bipush 6, 2) := by decide +kernel
theorem dX11_dealt_11 : decode cX11_dealt 11 = .ok (.invokestatic 59, 3) := by decide +kernel
theorem dX11_dealt_14 : decode cX11_dealt 14 = .ok (.ifCond .ne 6, 3) := by decide +kernel
theorem dX11_dealt_17 : decode cX11_dealt 17 = .ok (.bipush (-2), 2) := by decide +kernel
theorem dX11_dealt_19 : decode cX11_dealt 19 = .ok (.ireturn, 1) := by decide +kernel
theorem dX11_dealt_20 : decode cX11_dealt 20 = .ok (.aload_n 0, 1) := by decide +kernel
theorem dX11_dealt_21 : decode cX11_dealt 21 = .ok (.iload_n 1, 1) := by decide +kernel
theorem dX11_dealt_22 : decode cX11_dealt 22 = .ok (.invokevirtual 87, 3) := by decide +kernel
theorem dX11_dealt_25 : decode cX11_dealt 25 = .ok (.ifCond .eq 25, 3) := by decide +kernel
theorem dX11_dealt_28 : decode cX11_dealt 28 = .ok (.ldc2_w 165, 3) := by decide +kernel
theorem dX11_dealt_31 : decode cX11_dealt 31 = .ok (.aload_n 0, 1) := by decide +kernel
theorem dX11_dealt_32 : decode cX11_dealt 32 = .ok (.iload_n 1, 1) := by decide +kernel
theorem dX11_dealt_33 : decode cX11_dealt 33 = .ok (.iload_n 2, 1) := by decide +kernel
theorem dX11_dealt_34 : decode cX11_dealt 34 = .ok (.iload_n 3, 1) := by decide +kernel
theorem dX11_dealt_35 : decode cX11_dealt 35 = .ok (.invokevirtual 167, 3) := by decide +kernel
theorem dX11_dealt_38 : decode cX11_dealt 38 = .ok (.i2l, 1) := by decide +kernel
theorem dX11_dealt_39 : decode cX11_dealt 39 = .ok (.lmul, 1) := by decide +kernel
theorem dX11_dealt_40 : decode cX11_dealt 40 = .ok (.aload_n 0, 1) := by decide +kernel
theorem dX11_dealt_41 : decode cX11_dealt 41 = .ok (.iload_n 1, 1) := by decide +kernel
theorem dX11_dealt_42 : decode cX11_dealt 42 = .ok (.invokevirtual 171, 3) := by decide +kernel
theorem dX11_dealt_45 : decode cX11_dealt 45 = .ok (.ldiv, 1) := by decide +kernel
theorem dX11_dealt_46 : decode cX11_dealt 46 = .ok (.l2i, 1) := by decide +kernel
theorem dX11_dealt_47 : decode cX11_dealt 47 = .ok (.goto 5, 3) := by decide +kernel
theorem dX11_dealt_50 : decode cX11_dealt 50 = .ok (.bipush (-3), 2) := by decide +kernel
theorem dX11_dealt_52 : decode cX11_dealt 52 = .ok (.ireturn, 1) := by decide +kernel
theorem dX11_strangest_0 : decode cX11_strangest 0 = .ok (.iload_n 1, 1) := by decide +kernel
theorem dX11_strangest_1 : decode cX11_strangest 1 = .ok (.invokestatic 63, 3) := by decide +kernel
theorem dX11_strangest_4 : decode cX11_strangest 4 = .ok (.ifCond .ne 6, 3) := by decide +kernel
theorem dX11_strangest_7 : decode cX11_strangest 7 = .ok (.bipush (-2), 2) := by decide +kernel
theorem dX11_strangest_9 : decode cX11_strangest 9 = .ok (.ireturn, 1) := by decide +kernel
theorem dX11_strangest_10 : decode cX11_strangest 10 = .ok (.aload_n 0, 1) := by decide +kernel
theorem dX11_strangest_11 : decode cX11_strangest 11 = .ok (.iload_n 1, 1) := by decide +kernel
theorem dX11_strangest_12 : decode cX11_strangest 12 = .ok (.invokevirtual 87, 3) := by decide +kernel
theorem dX11_strangest_15 : decode cX11_strangest 15 = .ok (.ifCond .eq 12, 3) := by decide +kernel
theorem dX11_strangest_18 : decode cX11_strangest 18 = .ok (.aload_n 0, 1) := by decide +kernel
theorem dX11_strangest_19 : decode cX11_strangest 19 = .ok (.getfield 7, 3) := by decide +kernel
theorem dX11_strangest_22 : decode cX11_strangest 22 = .ok (.iload_n 1, 1) := by decide +kernel
theorem dX11_strangest_23 : decode cX11_strangest 23 = .ok (.iaload, 1) := by decide +kernel
theorem dX11_strangest_24 : decode cX11_strangest 24 = .ok (.ifCond .ne 6, 3) := by decide +kernel
theorem dX11_strangest_27 : decode cX11_strangest 27 = .ok (.bipush (-3), 2) := by decide +kernel
theorem dX11_strangest_29 : decode cX11_strangest 29 = .ok (.ireturn, 1) := by decide +kernel
theorem dX11_strangest_30 : decode cX11_strangest 30 = .ok (.iconst (-1), 1) := by decide +kernel
theorem dX11_strangest_31 : decode cX11_strangest 31 = .ok (.istore_n 2, 1) := by decide +kernel
theorem dX11_strangest_32 : decode cX11_strangest 32 = .ok (.iconst 0, 1) := by decide +kernel
theorem dX11_strangest_33 : decode cX11_strangest 33 = .ok (.istore_n 3, 1) := by decide +kernel
theorem dX11_strangest_34 : decode cX11_strangest 34 = .ok (.iconst 2, 1) := by decide +kernel
theorem dX11_strangest_35 : decode cX11_strangest 35 = .ok (.istore 4, 2) := by decide +kernel
theorem dX11_strangest_37 : decode cX11_strangest 37 = .ok (.iload 4, 2) := by decide +kernel
theorem dX11_strangest_39 : decode cX11_strangest 39 = .ok (.bipush 14, 2) := by decide +kernel
theorem dX11_strangest_41 : decode cX11_strangest 41 = .ok (.if_icmp .ge 83, 3) := by decide +kernel
theorem dX11_strangest_44 : decode cX11_strangest 44 = .ok (.iload 4, 2) := by decide +kernel
theorem dX11_strangest_46 : decode cX11_strangest 46 = .ok (.iconst 2, 1) := by decide +kernel
theorem dX11_strangest_47 : decode cX11_strangest 47 = .ok (.idiv, 1) := by decide +kernel
theorem dX11_strangest_48 : decode cX11_strangest 48 = .ok (.iconst 5, 1) := by decide +kernel
theorem dX11_strangest_49 : decode cX11_strangest 49 = .ok (.if_icmp .eq 69, 3) := by decide +kernel
theorem dX11_strangest_52 : decode cX11_strangest 52 = .ok (.aload_n 0, 1) := by decide +kernel
theorem dX11_strangest_53 : decode cX11_strangest 53 = .ok (.iload_n 1, 1) := by decide +kernel
theorem dX11_strangest_54 : decode cX11_strangest 54 = .ok (.iload 4, 2) := by decide +kernel
theorem dX11_strangest_56 : decode cX11_strangest 56 = .ok (.iconst 2, 1) := by decide +kernel
theorem dX11_strangest_57 : decode cX11_strangest 57 = .ok (.idiv, 1) := by decide +kernel
theorem dX11_strangest_58 : decode cX11_strangest 58 = .ok (.iload 4, 2) := by decide +kernel
theorem dX11_strangest_60 : decode cX11_strangest 60 = .ok (.iconst 2, 1) := by decide +kernel
theorem dX11_strangest_61 : decode cX11_strangest 61 = .ok (.irem, 1) := by decide +kernel
theorem dX11_strangest_62 : decode cX11_strangest 62 = .ok (.iconst 1, 1) := by decide +kernel
theorem dX11_strangest_63 : decode cX11_strangest 63 = .ok (.if_icmp .ne 7, 3) := by decide +kernel
theorem dX11_strangest_66 : decode cX11_strangest 66 = .ok (.iconst 1, 1) := by decide +kernel
theorem dX11_strangest_67 : decode cX11_strangest 67 = .ok (.goto 4, 3) := by decide +kernel
theorem dX11_strangest_70 : decode cX11_strangest 70 = .ok (.iconst 0, 1) := by decide +kernel
theorem dX11_strangest_71 : decode cX11_strangest 71 = .ok (.invokevirtual 167, 3) := by decide +kernel
theorem dX11_strangest_74 : decode cX11_strangest 74 = .ok (.istore 5, 2) := by decide +kernel
theorem dX11_strangest_76 : decode cX11_strangest 76 = .ok (.iload_n 2, 1) := by decide +kernel
theorem dX11_strangest_77 : decode cX11_strangest 77 = .ok (.iconst (-1), 1) := by decide +kernel
theorem dX11_strangest_78 : decode cX11_strangest 78 = .ok (.if_icmp .eq 9, 3) := by decide +kernel
theorem dX11_strangest_81 : decode cX11_strangest 81 = .ok (.iload 5, 2) := by decide +kernel
theorem dX11_strangest_83 : decode cX11_strangest 83 = .ok (.iload_n 3, 1) := by decide +kernel
theorem dX11_strangest_84 : decode cX11_strangest 84 = .ok (.if_icmp .ge 7, 3) := by decide +kernel
theorem dX11_strangest_87 : decode cX11_strangest 87 = .ok (.iconst 1, 1) := by decide +kernel
theorem dX11_strangest_88 : decode cX11_strangest 88 = .ok (.goto 4, 3) := by decide +kernel
theorem dX11_strangest_91 : decode cX11_strangest 91 = .ok (.iconst 0, 1) := by decide +kernel
theorem dX11_strangest_92 : decode cX11_strangest 92 = .ok (.istore 6, 2) := by decide +kernel
theorem dX11_strangest_94 : decode cX11_strangest 94 = .ok (.iload 6, 2) := by decide +kernel
theorem dX11_strangest_96 : decode cX11_strangest 96 = .ok (.ifCond .eq 8, 3) := by decide +kernel
theorem dX11_strangest_99 : decode cX11_strangest 99 = .ok (.iload 4, 2) := by decide +kernel
theorem dX11_strangest_101 : decode cX11_strangest 101 = .ok (.goto 4, 3) := by decide +kernel
theorem dX11_strangest_104 : decode cX11_strangest 104 = .ok (.iload_n 2, 1) := by decide +kernel
theorem dX11_strangest_105 : decode cX11_strangest 105 = .ok (.istore_n 2, 1) := by decide +kernel
theorem dX11_strangest_106 : decode cX11_strangest 106 = .ok (.iload 6, 2) := by decide +kernel
theorem dX11_strangest_108 : decode cX11_strangest 108 = .ok (.ifCond .eq 8, 3) := by decide +kernel
theorem dX11_strangest_111 : decode cX11_strangest 111 = .ok (.iload 5, 2) := by decide +kernel
theorem dX11_strangest_113 : decode cX11_strangest 113 = .ok (.goto 4, 3) := by decide +kernel
theorem dX11_strangest_116 : decode cX11_strangest 116 = .ok (.iload_n 3, 1) := by decide +kernel
theorem dX11_strangest_117 : decode cX11_strangest 117 = .ok (.istore_n 3, 1) := by decide +kernel
theorem dX11_strangest_118 : decode cX11_strangest 118 = .ok (.iinc 4 1, 3) := by decide +kernel
theorem dX11_strangest_121 : decode cX11_strangest 121 = .ok (.goto (-84), 3) := by decide +kernel
theorem dX11_strangest_124 : decode cX11_strangest 124 = .ok (.iload_n 2, 1) := by decide +kernel
theorem dX11_strangest_125 : decode cX11_strangest 125 = .ok (.ireturn, 1) := by decide +kernel
theorem dX11_behind_0 : decode cX11_behind 0 = .ok (.aload_n 0, 1) := by decide +kernel
theorem dX11_behind_1 : decode cX11_behind 1 = .ok (.iconst 0, 1) := by decide +kernel
theorem dX11_behind_2 : decode cX11_behind 2 = .ok (.putfield 174, 3) := by decide +kernel
theorem dX11_behind_5 : decode cX11_behind 5 = .ok (.aload_n 0, 1) := by decide +kernel
theorem dX11_behind_6 : decode cX11_behind 6 = .ok (.iconst 0, 1) := by decide +kernel
theorem dX11_behind_7 : decode cX11_behind 7 = .ok (.putfield 177, 3) := by decide +kernel
theorem dX11_behind_10 : decode cX11_behind 10 = .ok (.iconst 1, 1) := by decide +kernel
theorem dX11_behind_11 : decode cX11_behind 11 = .ok (.iload_n 3, 1) := by decide +kernel
theorem dX11_behind_12 : decode cX11_behind 12 = .ok (.ishl, 1) := by decide +kernel
theorem dX11_behind_13 : decode cX11_behind 13 = .ok (.iconst 1, 1) := by decide +kernel
theorem dX11_behind_14 : decode cX11_behind 14 = .ok (.isub, 1) := by decide +kernel
theorem dX11_behind_15 : decode cX11_behind 15 = .ok (.istore 4, 2) := by decide +kernel
theorem dX11_behind_17 : decode cX11_behind 17 = .ok (.iload_n 3, 1) := by decide +kernel
theorem dX11_behind_18 : decode cX11_behind 18 = .ok (.istore 5, 2) := by decide +kernel
theorem dX11_behind_20 : decode cX11_behind 20 = .ok (.iload 5, 2) := by decide +kernel
theorem dX11_behind_22 : decode cX11_behind 22 = .ok (.iload_n 2, 1) := by decide +kernel
theorem dX11_behind_23 : decode cX11_behind 23 = .ok (.if_icmp .ge 52, 3) := by decide +kernel
theorem dX11_behind_26 : decode cX11_behind 26 = .ok (.iload_n 1, 1) := by decide +kernel
theorem dX11_behind_27 : decode cX11_behind 27 = .ok (.iload_n 2, 1) := by decide +kernel
theorem dX11_behind_28 : decode cX11_behind 28 = .ok (.iload 5, 2) := by decide +kernel
theorem dX11_behind_30 : decode cX11_behind 30 = .ok (.isub, 1) := by decide +kernel
theorem dX11_behind_31 : decode cX11_behind 31 = .ok (.ishr, 1) := by decide +kernel
theorem dX11_behind_32 : decode cX11_behind 32 = .ok (.iload 4, 2) := by decide +kernel
theorem dX11_behind_34 : decode cX11_behind 34 = .ok (.iand, 1) := by decide +kernel
theorem dX11_behind_35 : decode cX11_behind 35 = .ok (.iload 4, 2) := by decide +kernel
theorem dX11_behind_37 : decode cX11_behind 37 = .ok (.if_icmp .ne 32, 3) := by decide +kernel
theorem dX11_behind_40 : decode cX11_behind 40 = .ok (.aload_n 0, 1) := by decide +kernel
theorem dX11_behind_41 : decode cX11_behind 41 = .ok (.dup, 1) := by decide +kernel
theorem dX11_behind_42 : decode cX11_behind 42 = .ok (.getfield 174, 3) := by decide +kernel
theorem dX11_behind_45 : decode cX11_behind 45 = .ok (.iconst 1, 1) := by decide +kernel
theorem dX11_behind_46 : decode cX11_behind 46 = .ok (.iadd, 1) := by decide +kernel
theorem dX11_behind_47 : decode cX11_behind 47 = .ok (.putfield 174, 3) := by decide +kernel
theorem dX11_behind_50 : decode cX11_behind 50 = .ok (.aload_n 0, 1) := by decide +kernel
theorem dX11_behind_51 : decode cX11_behind 51 = .ok (.dup, 1) := by decide +kernel
theorem dX11_behind_52 : decode cX11_behind 52 = .ok (.getfield 177, 3) := by decide +kernel
theorem dX11_behind_55 : decode cX11_behind 55 = .ok (.iload_n 1, 1) := by decide +kernel
theorem dX11_behind_56 : decode cX11_behind 56 = .ok (.iload_n 2, 1) := by decide +kernel
theorem dX11_behind_57 : decode cX11_behind 57 = .ok (.iconst 1, 1) := by decide +kernel
theorem dX11_behind_58 : decode cX11_behind 58 = .ok (.isub, 1) := by decide +kernel
theorem dX11_behind_59 : decode cX11_behind 59 = .ok (.iload 5, 2) := by decide +kernel
theorem dX11_behind_61 : decode cX11_behind 61 = .ok (.isub, 1) := by decide +kernel
theorem dX11_behind_62 : decode cX11_behind 62 = .ok (.ishr, 1) := by decide +kernel
theorem dX11_behind_63 : decode cX11_behind 63 = .ok (.iconst 1, 1) := by decide +kernel
theorem dX11_behind_64 : decode cX11_behind 64 = .ok (.iand, 1) := by decide +kernel
theorem dX11_behind_65 : decode cX11_behind 65 = .ok (.iadd, 1) := by decide +kernel
theorem dX11_behind_66 : decode cX11_behind 66 = .ok (.putfield 177, 3) := by decide +kernel
theorem dX11_behind_69 : decode cX11_behind 69 = .ok (.iinc 5 1, 3) := by decide +kernel
theorem dX11_behind_72 : decode cX11_behind 72 = .ok (.goto (-52), 3) := by decide +kernel
theorem dX11_behind_75 : decode cX11_behind 75 = .ok (.return_, 1) := by decide +kernel
theorem dX11_hot_0 : decode cX11_hot 0 = .ok (.iload_n 1, 1) := by decide +kernel
theorem dX11_hot_1 : decode cX11_hot 1 = .ok (.invokestatic 63, 3) := by decide +kernel
theorem dX11_hot_4 : decode cX11_hot 4 = .ok (.ifCond .eq 21, 3) := by decide +kernel
theorem dX11_hot_7 : decode cX11_hot 7 = .ok (.iload_n 2, 1) := by decide +kernel
theorem dX11_hot_8 : decode cX11_hot 8 = .ok (.iconst 1, 1) := by decide +kernel
theorem dX11_hot_9 : decode cX11_hot 9 = .ok (.iconst 4, 1) := by decide +kernel
theorem dX11_hot_10 : decode cX11_hot 10 = .ok (.invokestatic 59, 3) := by decide +kernel
theorem dX11_hot_13 : decode cX11_hot 13 = .ok (.ifCond .eq 12, 3) := by decide +kernel
theorem dX11_hot_16 : decode cX11_hot 16 = .ok (.iload_n 3, 1) := by decide +kernel
theorem dX11_hot_17 : decode cX11_hot 17 = .ok (.iconst 0, 1) := by decide +kernel
theorem dX11_hot_18 : decode cX11_hot 18 = .ok (.iconst 1, 1) := by decide +kernel
theorem dX11_hot_19 : decode cX11_hot 19 = .ok (.invokestatic 59, 3) := by decide +kernel
theorem dX11_hot_22 : decode cX11_hot 22 = .ok (.ifCond .ne 9, 3) := by decide +kernel
theorem dX11_hot_25 : decode cX11_hot 25 = .ok (.bipush (-2), 2) := by decide +kernel
theorem dX11_hot_27 : decode cX11_hot 27 = .ok (.invokestatic 137, 3) := by decide +kernel
theorem dX11_hot_30 : decode cX11_hot 30 = .ok (.lreturn, 1) := by decide +kernel
theorem dX11_hot_31 : decode cX11_hot 31 = .ok (.aload_n 0, 1) := by decide +kernel
theorem dX11_hot_32 : decode cX11_hot 32 = .ok (.iload_n 1, 1) := by decide +kernel
theorem dX11_hot_33 : decode cX11_hot 33 = .ok (.invokevirtual 87, 3) := by decide +kernel
theorem dX11_hot_36 : decode cX11_hot 36 = .ok (.ifCond .ne 9, 3) := by decide +kernel
theorem dX11_hot_39 : decode cX11_hot 39 = .ok (.bipush (-3), 2) := by decide +kernel
theorem dX11_hot_41 : decode cX11_hot 41 = .ok (.invokestatic 137, 3) := by decide +kernel
theorem dX11_hot_44 : decode cX11_hot 44 = .ok (.lreturn, 1) := by decide +kernel
theorem dX11_hot_45 : decode cX11_hot 45 = .ok (.aload_n 0, 1) := by decide +kernel
theorem dX11_hot_46 : decode cX11_hot 46 = .ok (.aload_n 0, 1) := by decide +kernel
theorem dX11_hot_47 : decode cX11_hot 47 = .ok (.iload_n 1, 1) := by decide +kernel
theorem dX11_hot_48 : decode cX11_hot 48 = .ok (.invokevirtual 90, 3) := by decide +kernel
theorem dX11_hot_51 : decode cX11_hot 51 = .ok (.aload_n 0, 1) := by decide +kernel
theorem dX11_hot_52 : decode cX11_hot 52 = .ok (.getfield 7, 3) := by decide +kernel
theorem dX11_hot_55 : decode cX11_hot 55 = .ok (.iload_n 1, 1) := by decide +kernel
theorem dX11_hot_56 : decode cX11_hot 56 = .ok (.iaload, 1) := by decide +kernel
theorem dX11_hot_57 : decode cX11_hot 57 = .ok (.iload_n 2, 1) := by decide +kernel
theorem dX11_hot_58 : decode cX11_hot 58 = .ok (.invokevirtual 180, 3) := by decide +kernel
theorem dX11_hot_61 : decode cX11_hot 61 = .ok (.aload_n 0, 1) := by decide +kernel
theorem dX11_hot_62 : decode cX11_hot 62 = .ok (.getfield 174, 3) := by decide +kernel
theorem dX11_hot_65 : decode cX11_hot 65 = .ok (.ifCond .ne 11, 3) := by decide +kernel
theorem dX11_hot_68 : decode cX11_hot 68 = .ok (.bipush (-3), 2) := by decide +kernel
theorem dX11_hot_70 : decode cX11_hot 70 = .ok (.invokestatic 137, 3) := by decide +kernel
theorem dX11_hot_73 : decode cX11_hot 73 = .ok (.goto 17, 3) := by decide +kernel
theorem dX11_hot_76 : decode cX11_hot 76 = .ok (.aload_n 0, 1) := by decide +kernel
theorem dX11_hot_77 : decode cX11_hot 77 = .ok (.getfield 177, 3) := by decide +kernel
theorem dX11_hot_80 : decode cX11_hot 80 = .ok (.i2l, 1) := by decide +kernel
theorem dX11_hot_81 : decode cX11_hot 81 = .ok (.aload_n 0, 1) := by decide +kernel
theorem dX11_hot_82 : decode cX11_hot 82 = .ok (.getfield 174, 3) := by decide +kernel
theorem dX11_hot_85 : decode cX11_hot 85 = .ok (.i2l, 1) := by decide +kernel
theorem dX11_hot_86 : decode cX11_hot 86 = .ok (.iload_n 3, 1) := by decide +kernel
theorem dX11_hot_87 : decode cX11_hot 87 = .ok (.invokestatic 147, 3) := by decide +kernel
theorem dX11_hot_90 : decode cX11_hot 90 = .ok (.lreturn, 1) := by decide +kernel
theorem dX11_already_0 : decode cX11_already 0 = .ok (.iload_n 1, 1) := by decide +kernel
theorem dX11_already_1 : decode cX11_already 1 = .ok (.invokestatic 63, 3) := by decide +kernel
theorem dX11_already_4 : decode cX11_already 4 = .ok (.ifCond .eq 21, 3) := by decide +kernel
theorem dX11_already_7 : decode cX11_already 7 = .ok (.iload_n 2, 1) := by decide +kernel
theorem dX11_already_8 : decode cX11_already 8 = .ok (.iconst 1, 1) := by decide +kernel
theorem dX11_already_9 : decode cX11_already 9 = .ok (.iconst 4, 1) := by decide +kernel
theorem dX11_already_10 : decode cX11_already 10 = .ok (.invokestatic 59, 3) := by decide +kernel
theorem dX11_already_13 : decode cX11_already 13 = .ok (.ifCond .eq 12, 3) := by decide +kernel
theorem dX11_already_16 : decode cX11_already 16 = .ok (.iload_n 3, 1) := by decide +kernel
theorem dX11_already_17 : decode cX11_already 17 = .ok (.iconst 0, 1) := by decide +kernel
theorem dX11_already_18 : decode cX11_already 18 = .ok (.iconst 1, 1) := by decide +kernel
theorem dX11_already_19 : decode cX11_already 19 = .ok (.invokestatic 59, 3) := by decide +kernel
theorem dX11_already_22 : decode cX11_already 22 = .ok (.ifCond .ne 9, 3) := by decide +kernel
theorem dX11_already_25 : decode cX11_already 25 = .ok (.bipush (-2), 2) := by decide +kernel
theorem dX11_already_27 : decode cX11_already 27 = .ok (.invokestatic 137, 3) := by decide +kernel
theorem dX11_already_30 : decode cX11_already 30 = .ok (.lreturn, 1) := by decide +kernel
theorem dX11_already_31 : decode cX11_already 31 = .ok (.aload_n 0, 1) := by decide +kernel
theorem dX11_already_32 : decode cX11_already 32 = .ok (.iload_n 1, 1) := by decide +kernel
theorem dX11_already_33 : decode cX11_already 33 = .ok (.invokevirtual 87, 3) := by decide +kernel
theorem dX11_already_36 : decode cX11_already 36 = .ok (.ifCond .ne 9, 3) := by decide +kernel
theorem dX11_already_39 : decode cX11_already 39 = .ok (.bipush (-3), 2) := by decide +kernel
theorem dX11_already_41 : decode cX11_already 41 = .ok (.invokestatic 137, 3) := by decide +kernel
theorem dX11_already_44 : decode cX11_already 44 = .ok (.lreturn, 1) := by decide +kernel
theorem dX11_already_45 : decode cX11_already 45 = .ok (.aload_n 0, 1) := by decide +kernel
theorem dX11_already_46 : decode cX11_already 46 = .ok (.iload_n 1, 1) := by decide +kernel
theorem dX11_already_47 : decode cX11_already 47 = .ok (.invokevirtual 90, 3) := by decide +kernel
theorem dX11_already_50 : decode cX11_already 50 = .ok (.invokestatic 81, 3) := by decide +kernel
theorem dX11_already_53 : decode cX11_already 53 = .ok (.istore 4, 2) := by decide +kernel
theorem dX11_already_55 : decode cX11_already 55 = .ok (.lconst 0, 1) := by decide +kernel
theorem dX11_already_56 : decode cX11_already 56 = .ok (.lstore 5, 2) := by decide +kernel
theorem dX11_already_58 : decode cX11_already 58 = .ok (.lconst 0, 1) := by decide +kernel
theorem dX11_already_59 : decode cX11_already 59 = .ok (.lstore 7, 2) := by decide +kernel
theorem dX11_already_61 : decode cX11_already 61 = .ok (.iconst 0, 1) := by decide +kernel
theorem dX11_already_62 : decode cX11_already 62 = .ok (.istore 9, 2) := by decide +kernel
theorem dX11_already_64 : decode cX11_already 64 = .ok (.iload 9, 2) := by decide +kernel
theorem dX11_already_66 : decode cX11_already 66 = .ok (.iconst 1, 1) := by decide +kernel
theorem dX11_already_67 : decode cX11_already 67 = .ok (.aload_n 0, 1) := by decide +kernel
theorem dX11_already_68 : decode cX11_already 68 = .ok (.getfield 7, 3) := by decide +kernel
theorem dX11_already_71 : decode cX11_already 71 = .ok (.iload_n 1, 1) := by decide +kernel
theorem dX11_already_72 : decode cX11_already 72 = .ok (.iaload, 1) := by decide +kernel
theorem dX11_already_73 : decode cX11_already 73 = .ok (.ishl, 1) := by decide +kernel
theorem dX11_already_74 : decode cX11_already 74 = .ok (.if_icmp .ge 80, 3) := by decide +kernel
theorem dX11_already_77 : decode cX11_already 77 = .ok (.iload 9, 2) := by decide +kernel
theorem dX11_already_79 : decode cX11_already 79 = .ok (.invokestatic 81, 3) := by decide +kernel
theorem dX11_already_82 : decode cX11_already 82 = .ok (.iload 4, 2) := by decide +kernel
theorem dX11_already_84 : decode cX11_already 84 = .ok (.if_icmp .ne 64, 3) := by decide +kernel
theorem dX11_already_87 : decode cX11_already 87 = .ok (.aload_n 0, 1) := by decide +kernel
theorem dX11_already_88 : decode cX11_already 88 = .ok (.iload 9, 2) := by decide +kernel
theorem dX11_already_90 : decode cX11_already 90 = .ok (.aload_n 0, 1) := by decide +kernel
theorem dX11_already_91 : decode cX11_already 91 = .ok (.getfield 7, 3) := by decide +kernel
theorem dX11_already_94 : decode cX11_already 94 = .ok (.iload_n 1, 1) := by decide +kernel
theorem dX11_already_95 : decode cX11_already 95 = .ok (.iaload, 1) := by decide +kernel
theorem dX11_already_96 : decode cX11_already 96 = .ok (.iload_n 2, 1) := by decide +kernel
theorem dX11_already_97 : decode cX11_already 97 = .ok (.invokevirtual 180, 3) := by decide +kernel
theorem dX11_already_100 : decode cX11_already 100 = .ok (.lload 5, 2) := by decide +kernel
theorem dX11_already_102 : decode cX11_already 102 = .ok (.aload_n 0, 1) := by decide +kernel
theorem dX11_already_103 : decode cX11_already 103 = .ok (.getfield 174, 3) := by decide +kernel
theorem dX11_already_106 : decode cX11_already 106 = .ok (.ifCond .ne 7, 3) := by decide +kernel
theorem dX11_already_109 : decode cX11_already 109 = .ok (.lconst 0, 1) := by decide +kernel
theorem dX11_already_110 : decode cX11_already 110 = .ok (.goto 18, 3) := by decide +kernel
theorem dX11_already_113 : decode cX11_already 113 = .ok (.aload_n 0, 1) := by decide +kernel
theorem dX11_already_114 : decode cX11_already 114 = .ok (.getfield 177, 3) := by decide +kernel
theorem dX11_already_117 : decode cX11_already 117 = .ok (.i2l, 1) := by decide +kernel
theorem dX11_already_118 : decode cX11_already 118 = .ok (.ldc2_w 184, 3) := by decide +kernel
theorem dX11_already_121 : decode cX11_already 121 = .ok (.aload_n 0, 1) := by decide +kernel
theorem dX11_already_122 : decode cX11_already 122 = .ok (.getfield 174, 3) := by decide +kernel
theorem dX11_already_125 : decode cX11_already 125 = .ok (.i2l, 1) := by decide +kernel
theorem dX11_already_126 : decode cX11_already 126 = .ok (.ldiv, 1) := by decide +kernel
theorem dX11_already_127 : decode cX11_already 127 = .ok (.lmul, 1) := by decide +kernel
theorem dX11_already_128 : decode cX11_already 128 = .ok (.ladd, 1) := by decide +kernel
theorem dX11_already_129 : decode cX11_already 129 = .ok (.lstore 5, 2) := by decide +kernel
theorem dX11_already_131 : decode cX11_already 131 = .ok (.lload 7, 2) := by decide +kernel
theorem dX11_already_133 : decode cX11_already 133 = .ok (.aload_n 0, 1) := by decide +kernel
theorem dX11_already_134 : decode cX11_already 134 = .ok (.getfield 174, 3) := by decide +kernel
theorem dX11_already_137 : decode cX11_already 137 = .ok (.ifCond .ne 7, 3) := by decide +kernel
theorem dX11_already_140 : decode cX11_already 140 = .ok (.lconst 0, 1) := by decide +kernel
theorem dX11_already_141 : decode cX11_already 141 = .ok (.goto 4, 3) := by decide +kernel
theorem dX11_already_144 : decode cX11_already 144 = .ok (.lconst 1, 1) := by decide +kernel
theorem dX11_already_145 : decode cX11_already 145 = .ok (.ladd, 1) := by decide +kernel
theorem dX11_already_146 : decode cX11_already 146 = .ok (.lstore 7, 2) := by decide +kernel
theorem dX11_already_148 : decode cX11_already 148 = .ok (.iinc 9 1, 3) := by decide +kernel
theorem dX11_already_151 : decode cX11_already 151 = .ok (.goto (-87), 3) := by decide +kernel
theorem dX11_already_154 : decode cX11_already 154 = .ok (.lload 7, 2) := by decide +kernel
theorem dX11_already_156 : decode cX11_already 156 = .ok (.lconst 0, 1) := by decide +kernel
theorem dX11_already_157 : decode cX11_already 157 = .ok (.lcmp, 1) := by decide +kernel
theorem dX11_already_158 : decode cX11_already 158 = .ok (.ifCond .ne 11, 3) := by decide +kernel
theorem dX11_already_161 : decode cX11_already 161 = .ok (.bipush (-3), 2) := by decide +kernel
theorem dX11_already_163 : decode cX11_already 163 = .ok (.invokestatic 137, 3) := by decide +kernel
theorem dX11_already_166 : decode cX11_already 166 = .ok (.goto 15, 3) := by decide +kernel
theorem dX11_already_169 : decode cX11_already 169 = .ok (.lload 5, 2) := by decide +kernel
theorem dX11_already_171 : decode cX11_already 171 = .ok (.ldc2_w 184, 3) := by decide +kernel
theorem dX11_already_174 : decode cX11_already 174 = .ok (.lload 7, 2) := by decide +kernel
theorem dX11_already_176 : decode cX11_already 176 = .ok (.lmul, 1) := by decide +kernel
theorem dX11_already_177 : decode cX11_already 177 = .ok (.iload_n 3, 1) := by decide +kernel
theorem dX11_already_178 : decode cX11_already 178 = .ok (.invokestatic 147, 3) := by decide +kernel
theorem dX11_already_181 : decode cX11_already 181 = .ok (.lreturn, 1) := by decide +kernel
theorem dX11_oddsOf_0 : decode cX11_oddsOf 0 = .ok (.iload_n 1, 1) := by decide +kernel
theorem dX11_oddsOf_1 : decode cX11_oddsOf 1 = .ok (.invokestatic 78, 3) := by decide +kernel
theorem dX11_oddsOf_4 : decode cX11_oddsOf 4 = .ok (.istore_n 3, 1) := by decide +kernel
theorem dX11_oddsOf_5 : decode cX11_oddsOf 5 = .ok (.lconst 1, 1) := by decide +kernel
theorem dX11_oddsOf_6 : decode cX11_oddsOf 6 = .ok (.lstore 4, 2) := by decide +kernel
theorem dX11_oddsOf_8 : decode cX11_oddsOf 8 = .ok (.iconst 0, 1) := by decide +kernel
theorem dX11_oddsOf_9 : decode cX11_oddsOf 9 = .ok (.istore 6, 2) := by decide +kernel
theorem dX11_oddsOf_11 : decode cX11_oddsOf 11 = .ok (.iload 6, 2) := by decide +kernel
theorem dX11_oddsOf_13 : decode cX11_oddsOf 13 = .ok (.iload_n 2, 1) := by decide +kernel
theorem dX11_oddsOf_14 : decode cX11_oddsOf 14 = .ok (.if_icmp .ge 44, 3) := by decide +kernel
theorem dX11_oddsOf_17 : decode cX11_oddsOf 17 = .ok (.lload 4, 2) := by decide +kernel
theorem dX11_oddsOf_19 : decode cX11_oddsOf 19 = .ok (.iload_n 1, 1) := by decide +kernel
theorem dX11_oddsOf_20 : decode cX11_oddsOf 20 = .ok (.iload_n 3, 1) := by decide +kernel
theorem dX11_oddsOf_21 : decode cX11_oddsOf 21 = .ok (.iconst 1, 1) := by decide +kernel
theorem dX11_oddsOf_22 : decode cX11_oddsOf 22 = .ok (.isub, 1) := by decide +kernel
theorem dX11_oddsOf_23 : decode cX11_oddsOf 23 = .ok (.iload 6, 2) := by decide +kernel
theorem dX11_oddsOf_25 : decode cX11_oddsOf 25 = .ok (.isub, 1) := by decide +kernel
theorem dX11_oddsOf_26 : decode cX11_oddsOf 26 = .ok (.ishr, 1) := by decide +kernel
theorem dX11_oddsOf_27 : decode cX11_oddsOf 27 = .ok (.iconst 1, 1) := by decide +kernel
theorem dX11_oddsOf_28 : decode cX11_oddsOf 28 = .ok (.iand, 1) := by decide +kernel
theorem dX11_oddsOf_29 : decode cX11_oddsOf 29 = .ok (.iconst 1, 1) := by decide +kernel
theorem dX11_oddsOf_30 : decode cX11_oddsOf 30 = .ok (.if_icmp .ne 11, 3) := by decide +kernel
theorem dX11_oddsOf_33 : decode cX11_oddsOf 33 = .ok (.aload_n 0, 1) := by decide +kernel
theorem dX11_oddsOf_34 : decode cX11_oddsOf 34 = .ok (.getfield 16, 3) := by decide +kernel
theorem dX11_oddsOf_37 : decode cX11_oddsOf 37 = .ok (.i2l, 1) := by decide +kernel
theorem dX11_oddsOf_38 : decode cX11_oddsOf 38 = .ok (.goto 11, 3) := by decide +kernel
theorem dX11_oddsOf_41 : decode cX11_oddsOf 41 = .ok (.bipush 16, 2) := by decide +kernel
theorem dX11_oddsOf_43 : decode cX11_oddsOf 43 = .ok (.aload_n 0, 1) := by decide +kernel
theorem dX11_oddsOf_44 : decode cX11_oddsOf 44 = .ok (.getfield 16, 3) := by decide +kernel
theorem dX11_oddsOf_47 : decode cX11_oddsOf 47 = .ok (.isub, 1) := by decide +kernel
theorem dX11_oddsOf_48 : decode cX11_oddsOf 48 = .ok (.i2l, 1) := by decide +kernel
theorem dX11_oddsOf_49 : decode cX11_oddsOf 49 = .ok (.lmul, 1) := by decide +kernel
theorem dX11_oddsOf_50 : decode cX11_oddsOf 50 = .ok (.lstore 4, 2) := by decide +kernel
theorem dX11_oddsOf_52 : decode cX11_oddsOf 52 = .ok (.iinc 6 1, 3) := by decide +kernel
theorem dX11_oddsOf_55 : decode cX11_oddsOf 55 = .ok (.goto (-44), 3) := by decide +kernel
theorem dX11_oddsOf_58 : decode cX11_oddsOf 58 = .ok (.lload 4, 2) := by decide +kernel
theorem dX11_oddsOf_60 : decode cX11_oddsOf 60 = .ok (.lreturn, 1) := by decide +kernel
theorem dX11_overlaps_0 : decode cX11_overlaps 0 = .ok (.iconst 1, 1) := by decide +kernel
theorem dX11_overlaps_1 : decode cX11_overlaps 1 = .ok (.iload_n 2, 1) := by decide +kernel
theorem dX11_overlaps_2 : decode cX11_overlaps 2 = .ok (.ishl, 1) := by decide +kernel
theorem dX11_overlaps_3 : decode cX11_overlaps 3 = .ok (.iconst 1, 1) := by decide +kernel
theorem dX11_overlaps_4 : decode cX11_overlaps 4 = .ok (.isub, 1) := by decide +kernel
theorem dX11_overlaps_5 : decode cX11_overlaps 5 = .ok (.istore_n 3, 1) := by decide +kernel
theorem dX11_overlaps_6 : decode cX11_overlaps 6 = .ok (.iload_n 2, 1) := by decide +kernel
theorem dX11_overlaps_7 : decode cX11_overlaps 7 = .ok (.iload_n 0, 1) := by decide +kernel
theorem dX11_overlaps_8 : decode cX11_overlaps 8 = .ok (.invokestatic 78, 3) := by decide +kernel
theorem dX11_overlaps_11 : decode cX11_overlaps 11 = .ok (.if_icmp .gt 31, 3) := by decide +kernel
theorem dX11_overlaps_14 : decode cX11_overlaps 14 = .ok (.iload_n 2, 1) := by decide +kernel
theorem dX11_overlaps_15 : decode cX11_overlaps 15 = .ok (.iload_n 1, 1) := by decide +kernel
theorem dX11_overlaps_16 : decode cX11_overlaps 16 = .ok (.invokestatic 78, 3) := by decide +kernel
theorem dX11_overlaps_19 : decode cX11_overlaps 19 = .ok (.if_icmp .gt 23, 3) := by decide +kernel
theorem dX11_overlaps_22 : decode cX11_overlaps 22 = .ok (.iload_n 0, 1) := by decide +kernel
theorem dX11_overlaps_23 : decode cX11_overlaps 23 = .ok (.iload_n 3, 1) := by decide +kernel
theorem dX11_overlaps_24 : decode cX11_overlaps 24 = .ok (.iand, 1) := by decide +kernel
theorem dX11_overlaps_25 : decode cX11_overlaps 25 = .ok (.iload_n 1, 1) := by decide +kernel
theorem dX11_overlaps_26 : decode cX11_overlaps 26 = .ok (.iload_n 1, 1) := by decide +kernel
theorem dX11_overlaps_27 : decode cX11_overlaps 27 = .ok (.invokestatic 78, 3) := by decide +kernel
theorem dX11_overlaps_30 : decode cX11_overlaps 30 = .ok (.iload_n 2, 1) := by decide +kernel
theorem dX11_overlaps_31 : decode cX11_overlaps 31 = .ok (.isub, 1) := by decide +kernel
theorem dX11_overlaps_32 : decode cX11_overlaps 32 = .ok (.ishr, 1) := by decide +kernel
theorem dX11_overlaps_33 : decode cX11_overlaps 33 = .ok (.iload_n 3, 1) := by decide +kernel
theorem dX11_overlaps_34 : decode cX11_overlaps 34 = .ok (.iand, 1) := by decide +kernel
theorem dX11_overlaps_35 : decode cX11_overlaps 35 = .ok (.if_icmp .ne 7, 3) := by decide +kernel
theorem dX11_overlaps_38 : decode cX11_overlaps 38 = .ok (.iconst 1, 1) := by decide +kernel
theorem dX11_overlaps_39 : decode cX11_overlaps 39 = .ok (.goto 4, 3) := by decide +kernel
theorem dX11_overlaps_42 : decode cX11_overlaps 42 = .ok (.iconst 0, 1) := by decide +kernel
theorem dX11_overlaps_43 : decode cX11_overlaps 43 = .ok (.ireturn, 1) := by decide +kernel
theorem dX11_lead_0 : decode cX11_lead 0 = .ok (.iload_n 2, 1) := by decide +kernel
theorem dX11_lead_1 : decode cX11_lead 1 = .ok (.invokestatic 78, 3) := by decide +kernel
theorem dX11_lead_4 : decode cX11_lead 4 = .ok (.istore_n 3, 1) := by decide +kernel
theorem dX11_lead_5 : decode cX11_lead 5 = .ok (.lconst 0, 1) := by decide +kernel
theorem dX11_lead_6 : decode cX11_lead 6 = .ok (.lstore 4, 2) := by decide +kernel
theorem dX11_lead_8 : decode cX11_lead 8 = .ok (.iconst 1, 1) := by decide +kernel
theorem dX11_lead_9 : decode cX11_lead 9 = .ok (.istore 6, 2) := by decide +kernel
theorem dX11_lead_11 : decode cX11_lead 11 = .ok (.iload 6, 2) := by decide +kernel
theorem dX11_lead_13 : decode cX11_lead 13 = .ok (.iload_n 3, 1) := by decide +kernel
theorem dX11_lead_14 : decode cX11_lead 14 = .ok (.if_icmp .gt 51, 3) := by decide +kernel
theorem dX11_lead_17 : decode cX11_lead 17 = .ok (.lload 4, 2) := by decide +kernel
theorem dX11_lead_19 : decode cX11_lead 19 = .ok (.iload_n 1, 1) := by decide +kernel
theorem dX11_lead_20 : decode cX11_lead 20 = .ok (.iload_n 2, 1) := by decide +kernel
theorem dX11_lead_21 : decode cX11_lead 21 = .ok (.iload 6, 2) := by decide +kernel
theorem dX11_lead_23 : decode cX11_lead 23 = .ok (.invokestatic 186, 3) := by decide +kernel
theorem dX11_lead_26 : decode cX11_lead 26 = .ok (.ifCond .eq 29, 3) := by decide +kernel
theorem dX11_lead_29 : decode cX11_lead 29 = .ok (.ldc2_w 145, 3) := by decide +kernel
theorem dX11_lead_32 : decode cX11_lead 32 = .ok (.iload 6, 2) := by decide +kernel
theorem dX11_lead_34 : decode cX11_lead 34 = .ok (.invokestatic 141, 3) := by decide +kernel
theorem dX11_lead_37 : decode cX11_lead 37 = .ok (.aload_n 0, 1) := by decide +kernel
theorem dX11_lead_38 : decode cX11_lead 38 = .ok (.iload_n 2, 1) := by decide +kernel
theorem dX11_lead_39 : decode cX11_lead 39 = .ok (.iload_n 3, 1) := by decide +kernel
theorem dX11_lead_40 : decode cX11_lead 40 = .ok (.invokevirtual 189, 3) := by decide +kernel
theorem dX11_lead_43 : decode cX11_lead 43 = .ok (.aload_n 0, 1) := by decide +kernel
theorem dX11_lead_44 : decode cX11_lead 44 = .ok (.iload_n 2, 1) := by decide +kernel
theorem dX11_lead_45 : decode cX11_lead 45 = .ok (.iload 6, 2) := by decide +kernel
theorem dX11_lead_47 : decode cX11_lead 47 = .ok (.invokevirtual 189, 3) := by decide +kernel
theorem dX11_lead_50 : decode cX11_lead 50 = .ok (.ldiv, 1) := by decide +kernel
theorem dX11_lead_51 : decode cX11_lead 51 = .ok (.lmul, 1) := by decide +kernel
theorem dX11_lead_52 : decode cX11_lead 52 = .ok (.goto 4, 3) := by decide +kernel
theorem dX11_lead_55 : decode cX11_lead 55 = .ok (.lconst 0, 1) := by decide +kernel
theorem dX11_lead_56 : decode cX11_lead 56 = .ok (.ladd, 1) := by decide +kernel
theorem dX11_lead_57 : decode cX11_lead 57 = .ok (.lstore 4, 2) := by decide +kernel
theorem dX11_lead_59 : decode cX11_lead 59 = .ok (.iinc 6 1, 3) := by decide +kernel
theorem dX11_lead_62 : decode cX11_lead 62 = .ok (.goto (-51), 3) := by decide +kernel
theorem dX11_lead_65 : decode cX11_lead 65 = .ok (.lload 4, 2) := by decide +kernel
theorem dX11_lead_67 : decode cX11_lead 67 = .ok (.lreturn, 1) := by decide +kernel
theorem dX11_waitsNow_0 : decode cX11_waitsNow 0 = .ok (.aload_n 0, 1) := by decide +kernel
theorem dX11_waitsNow_1 : decode cX11_waitsNow 1 = .ok (.aload_n 0, 1) := by decide +kernel
theorem dX11_waitsNow_2 : decode cX11_waitsNow 2 = .ok (.getfield 20, 3) := by decide +kernel
theorem dX11_waitsNow_5 : decode cX11_waitsNow 5 = .ok (.aload_n 0, 1) := by decide +kernel
theorem dX11_waitsNow_6 : decode cX11_waitsNow 6 = .ok (.getfield 20, 3) := by decide +kernel
theorem dX11_waitsNow_9 : decode cX11_waitsNow 9 = .ok (.invokevirtual 192, 3) := by decide +kernel
theorem dX11_waitsNow_12 : decode cX11_waitsNow 12 = .ok (.aload_n 0, 1) := by decide +kernel
theorem dX11_waitsNow_13 : decode cX11_waitsNow 13 = .ok (.aload_n 0, 1) := by decide +kernel
theorem dX11_waitsNow_14 : decode cX11_waitsNow 14 = .ok (.getfield 20, 3) := by decide +kernel
theorem dX11_waitsNow_17 : decode cX11_waitsNow 17 = .ok (.aload_n 0, 1) := by decide +kernel
theorem dX11_waitsNow_18 : decode cX11_waitsNow 18 = .ok (.getfield 20, 3) := by decide +kernel
theorem dX11_waitsNow_21 : decode cX11_waitsNow 21 = .ok (.invokestatic 78, 3) := by decide +kernel
theorem dX11_waitsNow_24 : decode cX11_waitsNow 24 = .ok (.invokevirtual 189, 3) := by decide +kernel
theorem dX11_waitsNow_27 : decode cX11_waitsNow 27 = .ok (.iload_n 1, 1) := by decide +kernel
theorem dX11_waitsNow_28 : decode cX11_waitsNow 28 = .ok (.invokestatic 147, 3) := by decide +kernel
theorem dX11_waitsNow_31 : decode cX11_waitsNow 31 = .ok (.lreturn, 1) := by decide +kernel
theorem dX11_waits_0 : decode cX11_waits 0 = .ok (.iload_n 1, 1) := by decide +kernel
theorem dX11_waits_1 : decode cX11_waits 1 = .ok (.iconst 0, 1) := by decide +kernel
theorem dX11_waits_2 : decode cX11_waits 2 = .ok (.iconst 1, 1) := by decide +kernel
theorem dX11_waits_3 : decode cX11_waits 3 = .ok (.invokestatic 59, 3) := by decide +kernel
theorem dX11_waits_6 : decode cX11_waits 6 = .ok (.ifCond .eq 11, 3) := by decide +kernel
theorem dX11_waits_9 : decode cX11_waits 9 = .ok (.aload_n 0, 1) := by decide +kernel
theorem dX11_waits_10 : decode cX11_waits 10 = .ok (.iload_n 1, 1) := by decide +kernel
theorem dX11_waits_11 : decode cX11_waits 11 = .ok (.invokevirtual 195, 3) := by decide +kernel
theorem dX11_waits_14 : decode cX11_waits 14 = .ok (.goto 8, 3) := by decide +kernel
theorem dX11_waits_17 : decode cX11_waits 17 = .ok (.bipush (-2), 2) := by decide +kernel
theorem dX11_waits_19 : decode cX11_waits 19 = .ok (.invokestatic 137, 3) := by decide +kernel
theorem dX11_waits_22 : decode cX11_waits 22 = .ok (.lreturn, 1) := by decide +kernel
theorem dX11_stands_0 : decode cX11_stands 0 = .ok (.iload_n 0, 1) := by decide +kernel
theorem dX11_stands_1 : decode cX11_stands 1 = .ok (.invokestatic 78, 3) := by decide +kernel
theorem dX11_stands_4 : decode cX11_stands 4 = .ok (.istore_n 2, 1) := by decide +kernel
theorem dX11_stands_5 : decode cX11_stands 5 = .ok (.iload_n 1, 1) := by decide +kernel
theorem dX11_stands_6 : decode cX11_stands 6 = .ok (.invokestatic 78, 3) := by decide +kernel
theorem dX11_stands_9 : decode cX11_stands 9 = .ok (.istore_n 3, 1) := by decide +kernel
theorem dX11_stands_10 : decode cX11_stands 10 = .ok (.iconst 0, 1) := by decide +kernel
theorem dX11_stands_11 : decode cX11_stands 11 = .ok (.istore 4, 2) := by decide +kernel
theorem dX11_stands_13 : decode cX11_stands 13 = .ok (.iload 4, 2) := by decide +kernel
theorem dX11_stands_15 : decode cX11_stands 15 = .ok (.iload_n 2, 1) := by decide +kernel
theorem dX11_stands_16 : decode cX11_stands 16 = .ok (.iadd, 1) := by decide +kernel
theorem dX11_stands_17 : decode cX11_stands 17 = .ok (.iload_n 3, 1) := by decide +kernel
theorem dX11_stands_18 : decode cX11_stands 18 = .ok (.if_icmp .gt 35, 3) := by decide +kernel
theorem dX11_stands_21 : decode cX11_stands 21 = .ok (.iload_n 1, 1) := by decide +kernel
theorem dX11_stands_22 : decode cX11_stands 22 = .ok (.iload_n 3, 1) := by decide +kernel
theorem dX11_stands_23 : decode cX11_stands 23 = .ok (.iload_n 2, 1) := by decide +kernel
theorem dX11_stands_24 : decode cX11_stands 24 = .ok (.isub, 1) := by decide +kernel
theorem dX11_stands_25 : decode cX11_stands 25 = .ok (.iload 4, 2) := by decide +kernel
theorem dX11_stands_27 : decode cX11_stands 27 = .ok (.isub, 1) := by decide +kernel
theorem dX11_stands_28 : decode cX11_stands 28 = .ok (.ishr, 1) := by decide +kernel
theorem dX11_stands_29 : decode cX11_stands 29 = .ok (.iconst 1, 1) := by decide +kernel
theorem dX11_stands_30 : decode cX11_stands 30 = .ok (.iload_n 2, 1) := by decide +kernel
theorem dX11_stands_31 : decode cX11_stands 31 = .ok (.ishl, 1) := by decide +kernel
theorem dX11_stands_32 : decode cX11_stands 32 = .ok (.iconst 1, 1) := by decide +kernel
theorem dX11_stands_33 : decode cX11_stands 33 = .ok (.isub, 1) := by decide +kernel
theorem dX11_stands_34 : decode cX11_stands 34 = .ok (.iand, 1) := by decide +kernel
theorem dX11_stands_35 : decode cX11_stands 35 = .ok (.iload_n 0, 1) := by decide +kernel
theorem dX11_stands_36 : decode cX11_stands 36 = .ok (.iconst 1, 1) := by decide +kernel
theorem dX11_stands_37 : decode cX11_stands 37 = .ok (.iload_n 2, 1) := by decide +kernel
theorem dX11_stands_38 : decode cX11_stands 38 = .ok (.ishl, 1) := by decide +kernel
theorem dX11_stands_39 : decode cX11_stands 39 = .ok (.iconst 1, 1) := by decide +kernel
