theorem dX9_init_0 : decode cX9_init 0 = .ok (.aload_n 0, 1) := by decide +kernel
theorem dX9_init_1 : decode cX9_init 1 = .ok (.invokespecial 1, 3) := by decide +kernel
theorem dX9_init_4 : decode cX9_init 4 = .ok (.aload_n 0, 1) := by decide +kernel
theorem dX9_init_5 : decode cX9_init 5 = .ok (.iconst 4, 1) := by decide +kernel
theorem dX9_init_6 : decode cX9_init 6 = .ok (.anewarray 9, 3) := by decide +kernel
theorem dX9_init_9 : decode cX9_init 9 = .ok (.putfield 11, 3) := by decide +kernel
theorem dX9_init_12 : decode cX9_init 12 = .ok (.iconst 0, 1) := by decide +kernel
theorem dX9_init_13 : decode cX9_init 13 = .ok (.istore_n 1, 1) := by decide +kernel
theorem dX9_init_14 : decode cX9_init 14 = .ok (.iload_n 1, 1) := by decide +kernel
theorem dX9_init_15 : decode cX9_init 15 = .ok (.iconst 4, 1) := by decide +kernel
theorem dX9_init_16 : decode cX9_init 16 = .ok (.if_icmp .ge 22, 3) := by decide +kernel
theorem dX9_init_19 : decode cX9_init 19 = .ok (.aload_n 0, 1) := by decide +kernel
theorem dX9_init_20 : decode cX9_init 20 = .ok (.getfield 11, 3) := by decide +kernel
theorem dX9_init_23 : decode cX9_init 23 = .ok (.iload_n 1, 1) := by decide +kernel
theorem dX9_init_24 : decode cX9_init 24 = .ok (.new 9, 3) := by decide +kernel
theorem dX9_init_27 : decode cX9_init 27 = .ok (.dup, 1) := by decide +kernel
theorem dX9_init_28 : decode cX9_init 28 = .ok (.invokespecial 15, 3) := by decide +kernel
theorem dX9_init_31 : decode cX9_init 31 = .ok (.aastore, 1) := by decide +kernel
theorem dX9_init_32 : decode cX9_init 32 = .ok (.iinc 1 1, 3) := by decide +kernel
theorem dX9_init_35 : decode cX9_init 35 = .ok (.goto (-21), 3) := by decide +kernel
theorem dX9_init_38 : decode cX9_init 38 = .ok (.aload_n 0, 1) := by decide +kernel
theorem dX9_init_39 : decode cX9_init 39 = .ok (.bipush 6, 2) := by decide +kernel
theorem dX9_init_41 : decode cX9_init 41 = .ok (.anewarray 16, 3) := by decide +kernel
theorem dX9_init_44 : decode cX9_init 44 = .ok (.putfield 18, 3) := by decide +kernel
theorem dX9_init_47 : decode cX9_init 47 = .ok (.iconst 0, 1) := by decide +kernel
theorem dX9_init_48 : decode cX9_init 48 = .ok (.istore_n 1, 1) := by decide +kernel
theorem dX9_init_49 : decode cX9_init 49 = .ok (.iload_n 1, 1) := by decide +kernel
theorem dX9_init_50 : decode cX9_init 50 = .ok (.bipush 6, 2) := by decide +kernel
theorem dX9_init_52 : decode cX9_init 52 = .ok (.if_icmp .ge 22, 3) := by decide +kernel
theorem dX9_init_55 : decode cX9_init 55 = .ok (.aload_n 0, 1) := by decide +kernel
theorem dX9_init_56 : decode cX9_init 56 = .ok (.getfield 18, 3) := by decide +kernel
theorem dX9_init_59 : decode cX9_init 59 = .ok (.iload_n 1, 1) := by decide +kernel
theorem dX9_init_60 : decode cX9_init 60 = .ok (.new 16, 3) := by decide +kernel
theorem dX9_init_63 : decode cX9_init 63 = .ok (.dup, 1) := by decide +kernel
theorem dX9_init_64 : decode cX9_init 64 = .ok (.invokespecial 22, 3) := by decide +kernel
theorem dX9_init_67 : decode cX9_init 67 = .ok (.aastore, 1) := by decide +kernel
theorem dX9_init_68 : decode cX9_init 68 = .ok (.iinc 1 1, 3) := by decide +kernel
theorem dX9_init_71 : decode cX9_init 71 = .ok (.goto (-22), 3) := by decide +kernel
theorem dX9_init_74 : decode cX9_init 74 = .ok (.aload_n 0, 1) := by decide +kernel
theorem dX9_init_75 : decode cX9_init 75 = .ok (.new 23, 3) := by decide +kernel
theorem dX9_init_78 : decode cX9_init 78 = .ok (.dup, 1) := by decide +kernel
theorem dX9_init_79 : decode cX9_init 79 = .ok (.invokespecial 25, 3) := by decide +kernel
theorem dX9_init_82 : decode cX9_init 82 = .ok (.putfield 26, 3) := by decide +kernel
theorem dX9_init_85 : decode cX9_init 85 = .ok (.aload_n 0, 1) := by decide +kernel
theorem dX9_init_86 : decode cX9_init 86 = .ok (.new 30, 3) := by decide +kernel
theorem dX9_init_89 : decode cX9_init 89 = .ok (.dup, 1) := by decide +kernel
theorem dX9_init_90 : decode cX9_init 90 = .ok (.aload_n 0, 1) := by decide +kernel
theorem dX9_init_91 : decode cX9_init 91 = .ok (.getfield 26, 3) := by decide +kernel
theorem dX9_init_94 : decode cX9_init 94 = .ok (.invokespecial 32, 3) := by decide +kernel
theorem dX9_init_97 : decode cX9_init 97 = .ok (.putfield 35, 3) := by decide +kernel
theorem dX9_init_100 : decode cX9_init 100 = .ok (.aload_n 0, 1) := by decide +kernel
theorem dX9_init_101 : decode cX9_init 101 = .ok (.new 39, 3) := by decide +kernel
theorem dX9_init_104 : decode cX9_init 104 = .ok (.dup, 1) := by decide +kernel
theorem dX9_init_105 : decode cX9_init 105 = .ok (.aload_n 0, 1) := by decide +kernel
theorem dX9_init_106 : decode cX9_init 106 = .ok (.getfield 26, 3) := by decide +kernel
theorem dX9_init_109 : decode cX9_init 109 = .ok (.aload_n 0, 1) := by decide +kernel
theorem dX9_init_110 : decode cX9_init 110 = .ok (.getfield 18, 3) := by decide +kernel
theorem dX9_init_113 : decode cX9_init 113 = .ok (.invokespecial 41, 3) := by decide +kernel
theorem dX9_init_116 : decode cX9_init 116 = .ok (.putfield 44, 3) := by decide +kernel
theorem dX9_init_119 : decode cX9_init 119 = .ok (.return_, 1) := by decide +kernel
theorem dX9_row_0 : decode cX9_row 0 = .ok (.aload_n 0, 1) := by decide +kernel
theorem dX9_row_1 : decode cX9_row 1 = .ok (.iload_n 1, 1) := by decide +kernel
theorem dX9_row_2 : decode cX9_row 2 = .ok (.invokevirtual 48, 3) := by decide +kernel
theorem dX9_row_5 : decode cX9_row 5 = .ok (.ifCond .eq 18, 3) := by decide +kernel
theorem dX9_row_8 : decode cX9_row 8 = .ok (.iload_n 2, 1) := by decide +kernel
theorem dX9_row_9 : decode cX9_row 9 = .ok (.ifCond .lt 14, 3) := by decide +kernel
theorem dX9_row_12 : decode cX9_row 12 = .ok (.iload_n 2, 1) := by decide +kernel
theorem dX9_row_13 : decode cX9_row 13 = .ok (.iconst 4, 1) := by decide +kernel
theorem dX9_row_14 : decode cX9_row 14 = .ok (.if_icmp .ge 9, 3) := by decide +kernel
theorem dX9_row_17 : decode cX9_row 17 = .ok (.iload_n 3, 1) := by decide +kernel
theorem dX9_row_18 : decode cX9_row 18 = .ok (.bipush 60, 2) := by decide +kernel
theorem dX9_row_20 : decode cX9_row 20 = .ok (.if_icmp .le 6, 3) := by decide +kernel
theorem dX9_row_23 : decode cX9_row 23 = .ok (.bipush (-2), 2) := by decide +kernel
theorem dX9_row_25 : decode cX9_row 25 = .ok (.ireturn, 1) := by decide +kernel
theorem dX9_row_26 : decode cX9_row 26 = .ok (.iload_n 3, 1) := by decide +kernel
theorem dX9_row_27 : decode cX9_row 27 = .ok (.ifCond .ge 6, 3) := by decide +kernel
theorem dX9_row_30 : decode cX9_row 30 = .ok (.bipush (-3), 2) := by decide +kernel
theorem dX9_row_32 : decode cX9_row 32 = .ok (.ireturn, 1) := by decide +kernel
theorem dX9_row_33 : decode cX9_row 33 = .ok (.aload_n 0, 1) := by decide +kernel
theorem dX9_row_34 : decode cX9_row 34 = .ok (.getfield 11, 3) := by decide +kernel
theorem dX9_row_37 : decode cX9_row 37 = .ok (.iload_n 1, 1) := by decide +kernel
theorem dX9_row_38 : decode cX9_row 38 = .ok (.aaload, 1) := by decide +kernel
theorem dX9_row_39 : decode cX9_row 39 = .ok (.iload_n 2, 1) := by decide +kernel
theorem dX9_row_40 : decode cX9_row 40 = .ok (.iload_n 3, 1) := by decide +kernel
theorem dX9_row_41 : decode cX9_row 41 = .ok (.invokevirtual 52, 3) := by decide +kernel
theorem dX9_row_44 : decode cX9_row 44 = .ok (.iconst 0, 1) := by decide +kernel
theorem dX9_row_45 : decode cX9_row 45 = .ok (.ireturn, 1) := by decide +kernel
theorem dX9_tear_0 : decode cX9_tear 0 = .ok (.aload_n 0, 1) := by decide +kernel
theorem dX9_tear_1 : decode cX9_tear 1 = .ok (.iload_n 1, 1) := by decide +kernel
theorem dX9_tear_2 : decode cX9_tear 2 = .ok (.invokevirtual 48, 3) := by decide +kernel
theorem dX9_tear_5 : decode cX9_tear 5 = .ok (.ifCond .eq 15, 3) := by decide +kernel
theorem dX9_tear_8 : decode cX9_tear 8 = .ok (.aload_n 0, 1) := by decide +kernel
theorem dX9_tear_9 : decode cX9_tear 9 = .ok (.getfield 11, 3) := by decide +kernel
theorem dX9_tear_12 : decode cX9_tear 12 = .ok (.iload_n 1, 1) := by decide +kernel
theorem dX9_tear_13 : decode cX9_tear 13 = .ok (.aaload, 1) := by decide +kernel
theorem dX9_tear_14 : decode cX9_tear 14 = .ok (.invokevirtual 56, 3) := by decide +kernel
theorem dX9_tear_17 : decode cX9_tear 17 = .ok (.ifCond .eq 5, 3) := by decide +kernel
theorem dX9_tear_20 : decode cX9_tear 20 = .ok (.iconst 0, 1) := by decide +kernel
theorem dX9_tear_21 : decode cX9_tear 21 = .ok (.ireturn, 1) := by decide +kernel
theorem dX9_tear_22 : decode cX9_tear 22 = .ok (.aload_n 0, 1) := by decide +kernel
theorem dX9_tear_23 : decode cX9_tear 23 = .ok (.getfield 11, 3) := by decide +kernel
theorem dX9_tear_26 : decode cX9_tear 26 = .ok (.iload_n 1, 1) := by decide +kernel
theorem dX9_tear_27 : decode cX9_tear 27 = .ok (.aaload, 1) := by decide +kernel
theorem dX9_tear_28 : decode cX9_tear 28 = .ok (.invokevirtual 60, 3) := by decide +kernel
theorem dX9_tear_31 : decode cX9_tear 31 = .ok (.iconst 1, 1) := by decide +kernel
theorem dX9_tear_32 : decode cX9_tear 32 = .ok (.ireturn, 1) := by decide +kernel
theorem dX9_write_0 : decode cX9_write 0 = .ok (.aload_n 0, 1) := by decide +kernel
theorem dX9_write_1 : decode cX9_write 1 = .ok (.iload_n 1, 1) := by decide +kernel
theorem dX9_write_2 : decode cX9_write 2 = .ok (.invokevirtual 48, 3) := by decide +kernel
theorem dX9_write_5 : decode cX9_write 5 = .ok (.ifCond .ne 6, 3) := by decide +kernel
theorem dX9_write_8 : decode cX9_write 8 = .ok (.bipush (-2), 2) := by decide +kernel
theorem dX9_write_10 : decode cX9_write 10 = .ok (.ireturn, 1) := by decide +kernel
theorem dX9_write_11 : decode cX9_write 11 = .ok (.aload_n 0, 1) := by decide +kernel
theorem dX9_write_12 : decode cX9_write 12 = .ok (.getfield 11, 3) := by decide +kernel
theorem dX9_write_15 : decode cX9_write 15 = .ok (.iload_n 1, 1) := by decide +kernel
theorem dX9_write_16 : decode cX9_write 16 = .ok (.aaload, 1) := by decide +kernel
theorem dX9_write_17 : decode cX9_write 17 = .ok (.astore 5, 2) := by decide +kernel
theorem dX9_write_19 : decode cX9_write 19 = .ok (.aload 5, 2) := by decide +kernel
theorem dX9_write_21 : decode cX9_write 21 = .ok (.invokevirtual 56, 3) := by decide +kernel
theorem dX9_write_24 : decode cX9_write 24 = .ok (.ifCond .eq 6, 3) := by decide +kernel
theorem dX9_write_27 : decode cX9_write 27 = .ok (.bipush (-5), 2) := by decide +kernel
theorem dX9_write_29 : decode cX9_write 29 = .ok (.ireturn, 1) := by decide +kernel
theorem dX9_write_30 : decode cX9_write 30 = .ok (.iload_n 2, 1) := by decide +kernel
theorem dX9_write_31 : decode cX9_write 31 = .ok (.ifCond .lt 12, 3) := by decide +kernel
theorem dX9_write_34 : decode cX9_write 34 = .ok (.iload_n 2, 1) := by decide +kernel
theorem dX9_write_35 : decode cX9_write 35 = .ok (.aload 5, 2) := by decide +kernel
theorem dX9_write_37 : decode cX9_write 37 = .ok (.getfield 63, 3) := by decide +kernel
theorem dX9_write_40 : decode cX9_write 40 = .ok (.if_icmp .lt 6, 3) := by decide +kernel
theorem dX9_write_43 : decode cX9_write 43 = .ok (.bipush (-6), 2) := by decide +kernel
theorem dX9_write_45 : decode cX9_write 45 = .ok (.ireturn, 1) := by decide +kernel
theorem dX9_write_46 : decode cX9_write 46 = .ok (.aload 5, 2) := by decide +kernel
theorem dX9_write_48 : decode cX9_write 48 = .ok (.getfield 67, 3) := by decide +kernel
theorem dX9_write_51 : decode cX9_write 51 = .ok (.iload_n 2, 1) := by decide +kernel
theorem dX9_write_52 : decode cX9_write 52 = .ok (.aload 5, 2) := by decide +kernel
theorem dX9_write_54 : decode cX9_write 54 = .ok (.lload_n 3, 1) := by decide +kernel
theorem dX9_write_55 : decode cX9_write 55 = .ok (.invokevirtual 71, 3) := by decide +kernel
theorem dX9_write_58 : decode cX9_write 58 = .ok (.lastore, 1) := by decide +kernel
theorem dX9_write_59 : decode cX9_write 59 = .ok (.iconst 0, 1) := by decide +kernel
theorem dX9_write_60 : decode cX9_write 60 = .ok (.ireturn, 1) := by decide +kernel
theorem dX9_paste_0 : decode cX9_paste 0 = .ok (.aload_n 0, 1) := by decide +kernel
theorem dX9_paste_1 : decode cX9_paste 1 = .ok (.iload_n 1, 1) := by decide +kernel
theorem dX9_paste_2 : decode cX9_paste 2 = .ok (.invokevirtual 48, 3) := by decide +kernel
theorem dX9_paste_5 : decode cX9_paste 5 = .ok (.ifCond .eq 11, 3) := by decide +kernel
theorem dX9_paste_8 : decode cX9_paste 8 = .ok (.aload_n 0, 1) := by decide +kernel
theorem dX9_paste_9 : decode cX9_paste 9 = .ok (.iload_n 3, 1) := by decide +kernel
theorem dX9_paste_10 : decode cX9_paste 10 = .ok (.invokevirtual 48, 3) := by decide +kernel
theorem dX9_paste_13 : decode cX9_paste 13 = .ok (.ifCond .ne 6, 3) := by decide +kernel
theorem dX9_paste_16 : decode cX9_paste 16 = .ok (.bipush (-2), 2) := by decide +kernel
theorem dX9_paste_18 : decode cX9_paste 18 = .ok (.ireturn, 1) := by decide +kernel
theorem dX9_paste_19 : decode cX9_paste 19 = .ok (.aload_n 0, 1) := by decide +kernel
theorem dX9_paste_20 : decode cX9_paste 20 = .ok (.getfield 11, 3) := by decide +kernel
theorem dX9_paste_23 : decode cX9_paste 23 = .ok (.iload_n 1, 1) := by decide +kernel
theorem dX9_paste_24 : decode cX9_paste 24 = .ok (.aaload, 1) := by decide +kernel
theorem dX9_paste_25 : decode cX9_paste 25 = .ok (.astore 6, 2) := by decide +kernel
theorem dX9_paste_27 : decode cX9_paste 27 = .ok (.aload_n 0, 1) := by decide +kernel
theorem dX9_paste_28 : decode cX9_paste 28 = .ok (.getfield 11, 3) := by decide +kernel
theorem dX9_paste_31 : decode cX9_paste 31 = .ok (.iload_n 3, 1) := by decide +kernel
theorem dX9_paste_32 : decode cX9_paste 32 = .ok (.aaload, 1) := by decide +kernel
theorem dX9_paste_33 : decode cX9_paste 33 = .ok (.astore 7, 2) := by decide +kernel
theorem dX9_paste_35 : decode cX9_paste 35 = .ok (.aload 6, 2) := by decide +kernel
theorem dX9_paste_37 : decode cX9_paste 37 = .ok (.invokevirtual 56, 3) := by decide +kernel
theorem dX9_paste_40 : decode cX9_paste 40 = .ok (.ifCond .ne 11, 3) := by decide +kernel
theorem dX9_paste_43 : decode cX9_paste 43 = .ok (.aload 7, 2) := by decide +kernel
theorem dX9_paste_45 : decode cX9_paste 45 = .ok (.invokevirtual 56, 3) := by decide +kernel
theorem dX9_paste_48 : decode cX9_paste 48 = .ok (.ifCond .eq 6, 3) := by decide +kernel
theorem dX9_paste_51 : decode cX9_paste 51 = .ok (.bipush (-5), 2) := by decide +kernel
theorem dX9_paste_53 : decode cX9_paste 53 = .ok (.ireturn, 1) := by decide +kernel
theorem dX9_paste_54 : decode cX9_paste 54 = .ok (.aload 6, 2) := by decide +kernel
theorem dX9_paste_56 : decode cX9_paste 56 = .ok (.getfield 75, 3) := by decide +kernel
theorem dX9_paste_59 : decode cX9_paste 59 = .ok (.aload 7, 2) := by decide +kernel
theorem dX9_paste_61 : decode cX9_paste 61 = .ok (.getfield 75, 3) := by decide +kernel
theorem dX9_paste_64 : decode cX9_paste 64 = .ok (.if_icmp .eq 6, 3) := by decide +kernel
theorem dX9_paste_67 : decode cX9_paste 67 = .ok (.bipush (-7), 2) := by decide +kernel
theorem dX9_paste_69 : decode cX9_paste 69 = .ok (.ireturn, 1) := by decide +kernel
theorem dX9_paste_70 : decode cX9_paste 70 = .ok (.aload 6, 2) := by decide +kernel
theorem dX9_paste_72 : decode cX9_paste 72 = .ok (.iload_n 2, 1) := by decide +kernel
theorem dX9_paste_73 : decode cX9_paste 73 = .ok (.iload 5, 2) := by decide +kernel
theorem dX9_paste_75 : decode cX9_paste 75 = .ok (.invokevirtual 78, 3) := by decide +kernel
theorem dX9_paste_78 : decode cX9_paste 78 = .ok (.ifCond .eq 15, 3) := by decide +kernel
theorem dX9_paste_81 : decode cX9_paste 81 = .ok (.aload 7, 2) := by decide +kernel
theorem dX9_paste_83 : decode cX9_paste 83 = .ok (.iload 4, 2) := by decide +kernel
theorem dX9_paste_85 : decode cX9_paste 85 = .ok (.iload 5, 2) := by decide +kernel
theorem dX9_paste_87 : decode cX9_paste 87 = .ok (.invokevirtual 78, 3) := by decide +kernel
theorem dX9_paste_90 : decode cX9_paste 90 = .ok (.ifCond .ne 6, 3) := by decide +kernel
theorem dX9_paste_93 : decode cX9_paste 93 = .ok (.bipush (-6), 2) := by decide +kernel
theorem dX9_paste_95 : decode cX9_paste 95 = .ok (.ireturn, 1) := by decide +kernel
theorem dX9_paste_96 : decode cX9_paste 96 = .ok (.aload 6, 2) := by decide +kernel
theorem dX9_paste_98 : decode cX9_paste 98 = .ok (.getfield 67, 3) := by decide +kernel
theorem dX9_paste_101 : decode cX9_paste 101 = .ok (.iload_n 2, 1) := by decide +kernel
theorem dX9_paste_102 : decode cX9_paste 102 = .ok (.aload 7, 2) := by decide +kernel
theorem dX9_paste_104 : decode cX9_paste 104 = .ok (.getfield 67, 3) := by decide +kernel
theorem dX9_paste_107 : decode cX9_paste 107 = .ok (.iload 4, 2) := by decide +kernel
theorem dX9_paste_109 : decode cX9_paste 109 = .ok (.iload 5, 2) := by decide +kernel
theorem dX9_paste_111 : decode cX9_paste 111 = .ok (.invokestatic 82, 3) := by decide +kernel
theorem dX9_paste_114 : decode cX9_paste 114 = .ok (.iconst 0, 1) := by decide +kernel
theorem dX9_paste_115 : decode cX9_paste 115 = .ok (.ireturn, 1) := by decide +kernel
theorem dX9_terms_0 : decode cX9_terms 0 = .ok (.aload_n 0, 1) := by decide +kernel
theorem dX9_terms_1 : decode cX9_terms 1 = .ok (.getfield 44, 3) := by decide +kernel
theorem dX9_terms_4 : decode cX9_terms 4 = .ok (.getfield 88, 3) := by decide +kernel
theorem dX9_terms_7 : decode cX9_terms 7 = .ok (.ifCond .eq 6, 3) := by decide +kernel
theorem dX9_terms_10 : decode cX9_terms 10 = .ok (.bipush (-9), 2) := by decide +kernel
theorem dX9_terms_12 : decode cX9_terms 12 = .ok (.ireturn, 1) := by decide +kernel
theorem dX9_terms_13 : decode cX9_terms 13 = .ok (.iload_n 1, 1) := by decide +kernel
theorem dX9_terms_14 : decode cX9_terms 14 = .ok (.iload_n 2, 1) := by decide +kernel
theorem dX9_terms_15 : decode cX9_terms 15 = .ok (.iload_n 3, 1) := by decide +kernel
theorem dX9_terms_16 : decode cX9_terms 16 = .ok (.invokestatic 92, 3) := by decide +kernel
theorem dX9_terms_19 : decode cX9_terms 19 = .ok (.ifCond .eq 29, 3) := by decide +kernel
theorem dX9_terms_22 : decode cX9_terms 22 = .ok (.iload 4, 2) := by decide +kernel
theorem dX9_terms_24 : decode cX9_terms 24 = .ok (.iconst 1, 1) := by decide +kernel
theorem dX9_terms_25 : decode cX9_terms 25 = .ok (.if_icmp .lt 23, 3) := by decide +kernel
theorem dX9_terms_28 : decode cX9_terms 28 = .ok (.iload 4, 2) := by decide +kernel
theorem dX9_terms_30 : decode cX9_terms 30 = .ok (.sipush 1000, 3) := by decide +kernel
theorem dX9_terms_33 : decode cX9_terms 33 = .ok (.if_icmp .gt 15, 3) := by decide +kernel
theorem dX9_terms_36 : decode cX9_terms 36 = .ok (.iload 5, 2) := by decide +kernel
theorem dX9_terms_38 : decode cX9_terms 38 = .ok (.ifCond .lt 10, 3) := by decide +kernel
theorem dX9_terms_41 : decode cX9_terms 41 = .ok (.iload 5, 2) := by decide +kernel
theorem dX9_terms_43 : decode cX9_terms 43 = .ok (.bipush 9, 2) := by decide +kernel
theorem dX9_terms_45 : decode cX9_terms 45 = .ok (.if_icmp .le 6, 3) := by decide +kernel
theorem dX9_terms_48 : decode cX9_terms 48 = .ok (.bipush (-2), 2) := by decide +kernel
theorem dX9_terms_50 : decode cX9_terms 50 = .ok (.ireturn, 1) := by decide +kernel
theorem dX9_terms_51 : decode cX9_terms 51 = .ok (.aload_n 0, 1) := by decide +kernel
theorem dX9_terms_52 : decode cX9_terms 52 = .ok (.getfield 26, 3) := by decide +kernel
theorem dX9_terms_55 : decode cX9_terms 55 = .ok (.iload_n 1, 1) := by decide +kernel
theorem dX9_terms_56 : decode cX9_terms 56 = .ok (.putfield 96, 3) := by decide +kernel
theorem dX9_terms_59 : decode cX9_terms 59 = .ok (.aload_n 0, 1) := by decide +kernel
theorem dX9_terms_60 : decode cX9_terms 60 = .ok (.getfield 26, 3) := by decide +kernel
theorem dX9_terms_63 : decode cX9_terms 63 = .ok (.iload_n 2, 1) := by decide +kernel
theorem dX9_terms_64 : decode cX9_terms 64 = .ok (.putfield 99, 3) := by decide +kernel
theorem dX9_terms_67 : decode cX9_terms 67 = .ok (.aload_n 0, 1) := by decide +kernel
theorem dX9_terms_68 : decode cX9_terms 68 = .ok (.getfield 26, 3) := by decide +kernel
theorem dX9_terms_71 : decode cX9_terms 71 = .ok (.iload_n 3, 1) := by decide +kernel
theorem dX9_terms_72 : decode cX9_terms 72 = .ok (.putfield 102, 3) := by decide +kernel
theorem dX9_terms_75 : decode cX9_terms 75 = .ok (.aload_n 0, 1) := by decide +kernel
theorem dX9_terms_76 : decode cX9_terms 76 = .ok (.getfield 26, 3) := by decide +kernel
theorem dX9_terms_79 : decode cX9_terms 79 = .ok (.iload 4, 2) := by decide +kernel
theorem dX9_terms_81 : decode cX9_terms 81 = .ok (.putfield 105, 3) := by decide +kernel
theorem dX9_terms_84 : decode cX9_terms 84 = .ok (.aload_n 0, 1) := by decide +kernel
theorem dX9_terms_85 : decode cX9_terms 85 = .ok (.getfield 26, 3) := by decide +kernel
theorem dX9_terms_88 : decode cX9_terms 88 = .ok (.iload 5, 2) := by decide +kernel
theorem dX9_terms_90 : decode cX9_terms 90 = .ok (.putfield 108, 3) := by decide +kernel
theorem dX9_terms_93 : decode cX9_terms 93 = .ok (.aload_n 0, 1) := by decide +kernel
theorem dX9_terms_94 : decode cX9_terms 94 = .ok (.getfield 35, 3) := by decide +kernel
theorem dX9_terms_97 : decode cX9_terms 97 = .ok (.iconst 0, 1) := by decide +kernel
theorem dX9_terms_98 : decode cX9_terms 98 = .ok (.putfield 111, 3) := by decide +kernel
theorem dX9_terms_101 : decode cX9_terms 101 = .ok (.iconst 0, 1) := by decide +kernel
theorem dX9_terms_102 : decode cX9_terms 102 = .ok (.istore 6, 2) := by decide +kernel
theorem dX9_terms_104 : decode cX9_terms 104 = .ok (.iload 6, 2) := by decide +kernel
theorem dX9_terms_106 : decode cX9_terms 106 = .ok (.aload_n 0, 1) := by decide +kernel
theorem dX9_terms_107 : decode cX9_terms 107 = .ok (.getfield 114, 3) := by decide +kernel
theorem dX9_terms_110 : decode cX9_terms 110 = .ok (.if_icmp .ge 20, 3) := by decide +kernel
theorem dX9_terms_113 : decode cX9_terms 113 = .ok (.aload_n 0, 1) := by decide +kernel
theorem dX9_terms_114 : decode cX9_terms 114 = .ok (.getfield 18, 3) := by decide +kernel
theorem dX9_terms_117 : decode cX9_terms 117 = .ok (.iload 6, 2) := by decide +kernel
theorem dX9_terms_119 : decode cX9_terms 119 = .ok (.aaload, 1) := by decide +kernel
theorem dX9_terms_120 : decode cX9_terms 120 = .ok (.iconst 0, 1) := by decide +kernel
theorem dX9_terms_121 : decode cX9_terms 121 = .ok (.putfield 117, 3) := by decide +kernel
theorem dX9_terms_124 : decode cX9_terms 124 = .ok (.iinc 6 1, 3) := by decide +kernel
theorem dX9_terms_127 : decode cX9_terms 127 = .ok (.goto (-23), 3) := by decide +kernel
theorem dX9_terms_130 : decode cX9_terms 130 = .ok (.iconst 0, 1) := by decide +kernel
theorem dX9_terms_131 : decode cX9_terms 131 = .ok (.ireturn, 1) := by decide +kernel
theorem dX9_program_0 : decode cX9_program 0 = .ok (.aload_n 0, 1) := by decide +kernel
theorem dX9_program_1 : decode cX9_program 1 = .ok (.getfield 44, 3) := by decide +kernel
theorem dX9_program_4 : decode cX9_program 4 = .ok (.getfield 88, 3) := by decide +kernel
theorem dX9_program_7 : decode cX9_program 7 = .ok (.ifCond .eq 6, 3) := by decide +kernel
theorem dX9_program_10 : decode cX9_program 10 = .ok (.bipush (-9), 2) := by decide +kernel
theorem dX9_program_12 : decode cX9_program 12 = .ok (.ireturn, 1) := by decide +kernel
theorem dX9_program_13 : decode cX9_program 13 = .ok (.aload_n 0, 1) := by decide +kernel
theorem dX9_program_14 : decode cX9_program 14 = .ok (.iload_n 1, 1) := by decide +kernel
theorem dX9_program_15 : decode cX9_program 15 = .ok (.invokevirtual 48, 3) := by decide +kernel
theorem dX9_program_18 : decode cX9_program 18 = .ok (.ifCond .eq 36, 3) := by decide +kernel
theorem dX9_program_21 : decode cX9_program 21 = .ok (.iload_n 2, 1) := by decide +kernel
theorem dX9_program_22 : decode cX9_program 22 = .ok (.ifCond .lt 32, 3) := by decide +kernel
theorem dX9_program_25 : decode cX9_program 25 = .ok (.iload_n 2, 1) := by decide +kernel
theorem dX9_program_26 : decode cX9_program 26 = .ok (.iconst 2, 1) := by decide +kernel
theorem dX9_program_27 : decode cX9_program 27 = .ok (.if_icmp .ge 27, 3) := by decide +kernel
theorem dX9_program_30 : decode cX9_program 30 = .ok (.iload_n 3, 1) := by decide +kernel
theorem dX9_program_31 : decode cX9_program 31 = .ok (.iconst 1, 1) := by decide +kernel
theorem dX9_program_32 : decode cX9_program 32 = .ok (.if_icmp .lt 22, 3) := by decide +kernel
theorem dX9_program_35 : decode cX9_program 35 = .ok (.iload_n 3, 1) := by decide +kernel
theorem dX9_program_36 : decode cX9_program 36 = .ok (.bipush 40, 2) := by decide +kernel
theorem dX9_program_38 : decode cX9_program 38 = .ok (.if_icmp .gt 16, 3) := by decide +kernel
theorem dX9_program_41 : decode cX9_program 41 = .ok (.iload 4, 2) := by decide +kernel
theorem dX9_program_43 : decode cX9_program 43 = .ok (.ifCond .lt 11, 3) := by decide +kernel
theorem dX9_program_46 : decode cX9_program 46 = .ok (.iload 4, 2) := by decide +kernel
theorem dX9_program_48 : decode cX9_program 48 = .ok (.sipush 1000, 3) := by decide +kernel
theorem dX9_program_51 : decode cX9_program 51 = .ok (.if_icmp .le 6, 3) := by decide +kernel
theorem dX9_program_54 : decode cX9_program 54 = .ok (.bipush (-2), 2) := by decide +kernel
theorem dX9_program_56 : decode cX9_program 56 = .ok (.ireturn, 1) := by decide +kernel
theorem dX9_program_57 : decode cX9_program 57 = .ok (.aload_n 0, 1) := by decide +kernel
theorem dX9_program_58 : decode cX9_program 58 = .ok (.getfield 114, 3) := by decide +kernel
theorem dX9_program_61 : decode cX9_program 61 = .ok (.bipush 6, 2) := by decide +kernel
theorem dX9_program_63 : decode cX9_program 63 = .ok (.if_icmp .lt 6, 3) := by decide +kernel
theorem dX9_program_66 : decode cX9_program 66 = .ok (.bipush (-3), 2) := by decide +kernel
theorem dX9_program_68 : decode cX9_program 68 = .ok (.ireturn, 1) := by decide +kernel
theorem dX9_program_69 : decode cX9_program 69 = .ok (.aload_n 0, 1) := by decide +kernel
theorem dX9_program_70 : decode cX9_program 70 = .ok (.getfield 11, 3) := by decide +kernel
theorem dX9_program_73 : decode cX9_program 73 = .ok (.iload_n 1, 1) := by decide +kernel
theorem dX9_program_74 : decode cX9_program 74 = .ok (.aaload, 1) := by decide +kernel
theorem dX9_program_75 : decode cX9_program 75 = .ok (.astore 5, 2) := by decide +kernel
theorem dX9_program_77 : decode cX9_program 77 = .ok (.aload 5, 2) := by decide +kernel
theorem dX9_program_79 : decode cX9_program 79 = .ok (.invokevirtual 56, 3) := by decide +kernel
theorem dX9_program_82 : decode cX9_program 82 = .ok (.ifCond .eq 6, 3) := by decide +kernel
theorem dX9_program_85 : decode cX9_program 85 = .ok (.bipush (-5), 2) := by decide +kernel
theorem dX9_program_87 : decode cX9_program 87 = .ok (.ireturn, 1) := by decide +kernel
theorem dX9_program_88 : decode cX9_program 88 = .ok (.aload 5, 2) := by decide +kernel
theorem dX9_program_90 : decode cX9_program 90 = .ok (.getfield 63, 3) := by decide +kernel
theorem dX9_program_93 : decode cX9_program 93 = .ok (.ifCond .ne 6, 3) := by decide +kernel
theorem dX9_program_96 : decode cX9_program 96 = .ok (.bipush (-8), 2) := by decide +kernel
theorem dX9_program_98 : decode cX9_program 98 = .ok (.ireturn, 1) := by decide +kernel
theorem dX9_program_99 : decode cX9_program 99 = .ok (.aload 5, 2) := by decide +kernel
theorem dX9_program_101 : decode cX9_program 101 = .ok (.invokevirtual 120, 3) := by decide +kernel
theorem dX9_program_104 : decode cX9_program 104 = .ok (.ifCond .ne 6, 3) := by decide +kernel
theorem dX9_program_107 : decode cX9_program 107 = .ok (.bipush (-4), 2) := by decide +kernel
theorem dX9_program_109 : decode cX9_program 109 = .ok (.ireturn, 1) := by decide +kernel
theorem dX9_program_110 : decode cX9_program 110 = .ok (.aload_n 0, 1) := by decide +kernel
theorem dX9_program_111 : decode cX9_program 111 = .ok (.getfield 18, 3) := by decide +kernel
theorem dX9_program_114 : decode cX9_program 114 = .ok (.aload_n 0, 1) := by decide +kernel
theorem dX9_program_115 : decode cX9_program 115 = .ok (.getfield 114, 3) := by decide +kernel
theorem dX9_program_118 : decode cX9_program 118 = .ok (.aaload, 1) := by decide +kernel
theorem dX9_program_119 : decode cX9_program 119 = .ok (.aload 5, 2) := by decide +kernel
theorem dX9_program_121 : decode cX9_program 121 = .ok (.iload_n 2, 1) := by decide +kernel
theorem dX9_program_122 : decode cX9_program 122 = .ok (.ifCond .ne 7, 3) := by decide +kernel
theorem dX9_program_125 : decode cX9_program 125 = .ok (.iconst 1, 1) := by decide +kernel
theorem dX9_program_126 : decode cX9_program 126 = .ok (.goto 4, 3) := by decide +kernel
theorem dX9_program_129 : decode cX9_program 129 = .ok (.iconst 0, 1) := by decide +kernel
theorem dX9_program_130 : decode cX9_program 130 = .ok (.iload_n 3, 1) := by decide +kernel
theorem dX9_program_131 : decode cX9_program 131 = .ok (.iload 4, 2) := by decide +kernel
theorem dX9_program_133 : decode cX9_program 133 = .ok (.invokevirtual 123, 3) := by decide +kernel
theorem dX9_program_136 : decode cX9_program 136 = .ok (.aload_n 0, 1) := by decide +kernel
theorem dX9_program_137 : decode cX9_program 137 = .ok (.getfield 35, 3) := by decide +kernel
theorem dX9_program_140 : decode cX9_program 140 = .ok (.iconst 0, 1) := by decide +kernel
theorem dX9_program_141 : decode cX9_program 141 = .ok (.putfield 111, 3) := by decide +kernel
theorem dX9_program_144 : decode cX9_program 144 = .ok (.aload_n 0, 1) := by decide +kernel
theorem dX9_program_145 : decode cX9_program 145 = .ok (.dup, 1) := by decide +kernel
theorem dX9_program_146 : decode cX9_program 146 = .ok (.getfield 114, 3) := by decide +kernel
theorem dX9_program_149 : decode cX9_program 149 = .ok (.iconst 1, 1) := by decide +kernel
theorem dX9_program_150 : decode cX9_program 150 = .ok (.iadd, 1) := by decide +kernel
theorem dX9_program_151 : decode cX9_program 151 = .ok (.putfield 114, 3) := by decide +kernel
theorem dX9_program_154 : decode cX9_program 154 = .ok (.aload_n 0, 1) := by decide +kernel
theorem dX9_program_155 : decode cX9_program 155 = .ok (.getfield 114, 3) := by decide +kernel
theorem dX9_program_158 : decode cX9_program 158 = .ok (.iconst 1, 1) := by decide +kernel
theorem dX9_program_159 : decode cX9_program 159 = .ok (.isub, 1) := by decide +kernel
theorem dX9_program_160 : decode cX9_program 160 = .ok (.ireturn, 1) := by decide +kernel
theorem dX9_clear_0 : decode cX9_clear 0 = .ok (.aload_n 0, 1) := by decide +kernel
theorem dX9_clear_1 : decode cX9_clear 1 = .ok (.getfield 114, 3) := by decide +kernel
theorem dX9_clear_4 : decode cX9_clear 4 = .ok (.istore_n 1, 1) := by decide +kernel
theorem dX9_clear_5 : decode cX9_clear 5 = .ok (.aload_n 0, 1) := by decide +kernel
theorem dX9_clear_6 : decode cX9_clear 6 = .ok (.iconst 0, 1) := by decide +kernel
theorem dX9_clear_7 : decode cX9_clear 7 = .ok (.putfield 114, 3) := by decide +kernel
theorem dX9_clear_10 : decode cX9_clear 10 = .ok (.aload_n 0, 1) := by decide +kernel
theorem dX9_clear_11 : decode cX9_clear 11 = .ok (.getfield 35, 3) := by decide +kernel
theorem dX9_clear_14 : decode cX9_clear 14 = .ok (.iconst 0, 1) := by decide +kernel
theorem dX9_clear_15 : decode cX9_clear 15 = .ok (.putfield 111, 3) := by decide +kernel
theorem dX9_clear_18 : decode cX9_clear 18 = .ok (.aload_n 0, 1) := by decide +kernel
theorem dX9_clear_19 : decode cX9_clear 19 = .ok (.getfield 44, 3) := by decide +kernel
theorem dX9_clear_22 : decode cX9_clear 22 = .ok (.iconst 0, 1) := by decide +kernel
theorem dX9_clear_23 : decode cX9_clear 23 = .ok (.putfield 88, 3) := by decide +kernel
theorem dX9_clear_26 : decode cX9_clear 26 = .ok (.aload_n 0, 1) := by decide +kernel
theorem dX9_clear_27 : decode cX9_clear 27 = .ok (.getfield 44, 3) := by decide +kernel
theorem dX9_clear_30 : decode cX9_clear 30 = .ok (.iconst 0, 1) := by decide +kernel
theorem dX9_clear_31 : decode cX9_clear 31 = .ok (.putfield 127, 3) := by decide +kernel
theorem dX9_clear_34 : decode cX9_clear 34 = .ok (.iload_n 1, 1) := by decide +kernel
theorem dX9_clear_35 : decode cX9_clear 35 = .ok (.ireturn, 1) := by decide +kernel
theorem dX9_time_0 : decode cX9_time 0 = .ok (.aload_n 0, 1) := by decide +kernel
theorem dX9_time_1 : decode cX9_time 1 = .ok (.iload_n 1, 1) := by decide +kernel
theorem dX9_time_2 : decode cX9_time 2 = .ok (.invokevirtual 130, 3) := by decide +kernel
theorem dX9_time_5 : decode cX9_time 5 = .ok (.ifCond .eq 14, 3) := by decide +kernel
theorem dX9_time_8 : decode cX9_time 8 = .ok (.iload_n 2, 1) := by decide +kernel
theorem dX9_time_9 : decode cX9_time 9 = .ok (.ifCond .lt 10, 3) := by decide +kernel
theorem dX9_time_12 : decode cX9_time 12 = .ok (.iload_n 2, 1) := by decide +kernel
theorem dX9_time_13 : decode cX9_time 13 = .ok (.sipush 4096, 3) := by decide +kernel
theorem dX9_time_16 : decode cX9_time 16 = .ok (.if_icmp .le 6, 3) := by decide +kernel
theorem dX9_time_19 : decode cX9_time 19 = .ok (.bipush (-2), 2) := by decide +kernel
theorem dX9_time_21 : decode cX9_time 21 = .ok (.ireturn, 1) := by decide +kernel
theorem dX9_time_22 : decode cX9_time 22 = .ok (.aload_n 0, 1) := by decide +kernel
theorem dX9_time_23 : decode cX9_time 23 = .ok (.getfield 35, 3) := by decide +kernel
theorem dX9_time_26 : decode cX9_time 26 = .ok (.aload_n 0, 1) := by decide +kernel
theorem dX9_time_27 : decode cX9_time 27 = .ok (.getfield 18, 3) := by decide +kernel
theorem dX9_time_30 : decode cX9_time 30 = .ok (.iload_n 1, 1) := by decide +kernel
theorem dX9_time_31 : decode cX9_time 31 = .ok (.aaload, 1) := by decide +kernel
theorem dX9_time_32 : decode cX9_time 32 = .ok (.iload_n 2, 1) := by decide +kernel
theorem dX9_time_33 : decode cX9_time 33 = .ok (.invokevirtual 133, 3) := by decide +kernel
theorem dX9_time_36 : decode cX9_time 36 = .ok (.ireturn, 1) := by decide +kernel
theorem dX9_need_0 : decode cX9_need 0 = .ok (.aload_n 0, 1) := by decide +kernel
theorem dX9_need_1 : decode cX9_need 1 = .ok (.iload_n 1, 1) := by decide +kernel
theorem dX9_need_2 : decode cX9_need 2 = .ok (.invokevirtual 130, 3) := by decide +kernel
theorem dX9_need_5 : decode cX9_need 5 = .ok (.ifCond .ne 6, 3) := by decide +kernel
theorem dX9_need_8 : decode cX9_need 8 = .ok (.bipush (-2), 2) := by decide +kernel
theorem dX9_need_10 : decode cX9_need 10 = .ok (.ireturn, 1) := by decide +kernel
theorem dX9_need_11 : decode cX9_need 11 = .ok (.aload_n 0, 1) := by decide +kernel
theorem dX9_need_12 : decode cX9_need 12 = .ok (.getfield 35, 3) := by decide +kernel
theorem dX9_need_15 : decode cX9_need 15 = .ok (.aload_n 0, 1) := by decide +kernel
theorem dX9_need_16 : decode cX9_need 16 = .ok (.getfield 18, 3) := by decide +kernel
theorem dX9_need_19 : decode cX9_need 19 = .ok (.iload_n 1, 1) := by decide +kernel
theorem dX9_need_20 : decode cX9_need 20 = .ok (.aaload, 1) := by decide +kernel
theorem dX9_need_21 : decode cX9_need 21 = .ok (.invokevirtual 137, 3) := by decide +kernel
theorem dX9_need_24 : decode cX9_need 24 = .ok (.istore_n 2, 1) := by decide +kernel
theorem dX9_need_25 : decode cX9_need 25 = .ok (.iload_n 2, 1) := by decide +kernel
theorem dX9_need_26 : decode cX9_need 26 = .ok (.iconst (-1), 1) := by decide +kernel
theorem dX9_need_27 : decode cX9_need 27 = .ok (.if_icmp .ne 7, 3) := by decide +kernel
theorem dX9_need_30 : decode cX9_need 30 = .ok (.iconst (-1), 1) := by decide +kernel
theorem dX9_need_31 : decode cX9_need 31 = .ok (.goto 12, 3) := by decide +kernel
theorem dX9_need_34 : decode cX9_need 34 = .ok (.iload_n 2, 1) := by decide +kernel
theorem dX9_need_35 : decode cX9_need 35 = .ok (.aload_n 0, 1) := by decide +kernel
theorem dX9_need_36 : decode cX9_need 36 = .ok (.getfield 26, 3) := by decide +kernel
theorem dX9_need_39 : decode cX9_need 39 = .ok (.getfield 96, 3) := by decide +kernel
theorem dX9_need_42 : decode cX9_need 42 = .ok (.imul, 1) := by decide +kernel
theorem dX9_need_43 : decode cX9_need 43 = .ok (.ireturn, 1) := by decide +kernel
theorem dX9_falls_0 : decode cX9_falls 0 = .ok (.aload_n 0, 1) := by decide +kernel
theorem dX9_falls_1 : decode cX9_falls 1 = .ok (.iload_n 1, 1) := by decide +kernel
theorem dX9_falls_2 : decode cX9_falls 2 = .ok (.invokevirtual 130, 3) := by decide +kernel
theorem dX9_falls_5 : decode cX9_falls 5 = .ok (.ifCond .ne 6, 3) := by decide +kernel
theorem dX9_falls_8 : decode cX9_falls 8 = .ok (.bipush (-2), 2) := by decide +kernel
theorem dX9_falls_10 : decode cX9_falls 10 = .ok (.ireturn, 1) := by decide +kernel
theorem dX9_falls_11 : decode cX9_falls 11 = .ok (.aload_n 0, 1) := by decide +kernel
theorem dX9_falls_12 : decode cX9_falls 12 = .ok (.getfield 18, 3) := by decide +kernel
theorem dX9_falls_15 : decode cX9_falls 15 = .ok (.iload_n 1, 1) := by decide +kernel
theorem dX9_falls_16 : decode cX9_falls 16 = .ok (.aaload, 1) := by decide +kernel
theorem dX9_falls_17 : decode cX9_falls 17 = .ok (.astore_n 2, 1) := by decide +kernel
theorem dX9_falls_18 : decode cX9_falls 18 = .ok (.aload_n 0, 1) := by decide +kernel
theorem dX9_falls_19 : decode cX9_falls 19 = .ok (.getfield 35, 3) := by decide +kernel
theorem dX9_falls_22 : decode cX9_falls 22 = .ok (.aload_n 2, 1) := by decide +kernel
theorem dX9_falls_23 : decode cX9_falls 23 = .ok (.invokevirtual 137, 3) := by decide +kernel
theorem dX9_falls_26 : decode cX9_falls 26 = .ok (.istore_n 3, 1) := by decide +kernel
theorem dX9_falls_27 : decode cX9_falls 27 = .ok (.iload_n 3, 1) := by decide +kernel
theorem dX9_falls_28 : decode cX9_falls 28 = .ok (.iconst (-1), 1) := by decide +kernel
theorem dX9_falls_29 : decode cX9_falls 29 = .ok (.if_icmp .ne 5, 3) := by decide +kernel
theorem dX9_falls_32 : decode cX9_falls 32 = .ok (.iconst (-1), 1) := by decide +kernel
theorem dX9_falls_33 : decode cX9_falls 33 = .ok (.ireturn, 1) := by decide +kernel
theorem dX9_falls_34 : decode cX9_falls 34 = .ok (.aload_n 2, 1) := by decide +kernel
theorem dX9_falls_35 : decode cX9_falls 35 = .ok (.iload_n 3, 1) := by decide +kernel
theorem dX9_falls_36 : decode cX9_falls 36 = .ok (.aload_n 0, 1) := by decide +kernel
theorem dX9_falls_37 : decode cX9_falls 37 = .ok (.getfield 26, 3) := by decide +kernel
theorem dX9_falls_40 : decode cX9_falls 40 = .ok (.invokevirtual 141, 3) := by decide +kernel
theorem dX9_falls_43 : decode cX9_falls 43 = .ok (.invokevirtual 145, 3) := by decide +kernel
theorem dX9_falls_46 : decode cX9_falls 46 = .ok (.ifCond .eq 7, 3) := by decide +kernel
theorem dX9_falls_49 : decode cX9_falls 49 = .ok (.iconst 1, 1) := by decide +kernel
theorem dX9_falls_50 : decode cX9_falls 50 = .ok (.goto 4, 3) := by decide +kernel
theorem dX9_falls_53 : decode cX9_falls 53 = .ok (.iconst 0, 1) := by decide +kernel
theorem dX9_falls_54 : decode cX9_falls 54 = .ok (.ireturn, 1) := by decide +kernel
theorem dX9_deal_0 : decode cX9_deal 0 = .ok (.aload_n 0, 1) := by decide +kernel
theorem dX9_deal_1 : decode cX9_deal 1 = .ok (.getfield 35, 3) := by decide +kernel
theorem dX9_deal_4 : decode cX9_deal 4 = .ok (.aload_n 0, 1) := by decide +kernel
theorem dX9_deal_5 : decode cX9_deal 5 = .ok (.getfield 18, 3) := by decide +kernel
theorem dX9_deal_8 : decode cX9_deal 8 = .ok (.aload_n 0, 1) := by decide +kernel
theorem dX9_deal_9 : decode cX9_deal 9 = .ok (.getfield 114, 3) := by decide +kernel
theorem dX9_deal_12 : decode cX9_deal 12 = .ok (.invokevirtual 148, 3) := by decide +kernel
theorem dX9_deal_15 : decode cX9_deal 15 = .ok (.ireturn, 1) := by decide +kernel
theorem dX9_best_0 : decode cX9_best 0 = .ok (.aload_n 0, 1) := by decide +kernel
theorem dX9_best_1 : decode cX9_best 1 = .ok (.getfield 35, 3) := by decide +kernel
theorem dX9_best_4 : decode cX9_best 4 = .ok (.aload_n 0, 1) := by decide +kernel
theorem dX9_best_5 : decode cX9_best 5 = .ok (.getfield 18, 3) := by decide +kernel
theorem dX9_best_8 : decode cX9_best 8 = .ok (.aload_n 0, 1) := by decide +kernel
theorem dX9_best_9 : decode cX9_best 9 = .ok (.getfield 114, 3) := by decide +kernel
theorem dX9_best_12 : decode cX9_best 12 = .ok (.invokevirtual 152, 3) := by decide +kernel
theorem dX9_best_15 : decode cX9_best 15 = .ok (.ireturn, 1) := by decide +kernel
theorem dX9_share_0 : decode cX9_share 0 = .ok (.aload_n 0, 1) := by decide +kernel
theorem dX9_share_1 : decode cX9_share 1 = .ok (.iload_n 1, 1) := by decide +kernel
theorem dX9_share_2 : decode cX9_share 2 = .ok (.invokevirtual 130, 3) := by decide +kernel
theorem dX9_share_5 : decode cX9_share 5 = .ok (.ifCond .eq 13, 3) := by decide +kernel
theorem dX9_share_8 : decode cX9_share 8 = .ok (.aload_n 0, 1) := by decide +kernel
theorem dX9_share_9 : decode cX9_share 9 = .ok (.getfield 35, 3) := by decide +kernel
theorem dX9_share_12 : decode cX9_share 12 = .ok (.getfield 111, 3) := by decide +kernel
theorem dX9_share_15 : decode cX9_share 15 = .ok (.ifCond .ne 5, 3) := by decide +kernel
theorem dX9_share_18 : decode cX9_share 18 = .ok (.iconst (-1), 1) := by decide +kernel
theorem dX9_share_19 : decode cX9_share 19 = .ok (.ireturn, 1) := by decide +kernel
theorem dX9_share_20 : decode cX9_share 20 = .ok (.aload_n 0, 1) := by decide +kernel
theorem dX9_share_21 : decode cX9_share 21 = .ok (.getfield 35, 3) := by decide +kernel
theorem dX9_share_24 : decode cX9_share 24 = .ok (.getfield 155, 3) := by decide +kernel
theorem dX9_share_27 : decode cX9_share 27 = .ok (.iload_n 1, 1) := by decide +kernel
theorem dX9_share_28 : decode cX9_share 28 = .ok (.iaload, 1) := by decide +kernel
theorem dX9_share_29 : decode cX9_share 29 = .ok (.aload_n 0, 1) := by decide +kernel
theorem dX9_share_30 : decode cX9_share 30 = .ok (.getfield 26, 3) := by decide +kernel
theorem dX9_share_33 : decode cX9_share 33 = .ok (.getfield 96, 3) := by decide +kernel
theorem dX9_share_36 : decode cX9_share 36 = .ok (.imul, 1) := by decide +kernel
theorem dX9_share_37 : decode cX9_share 37 = .ok (.ireturn, 1) := by decide +kernel
theorem dX9_begin_0 : decode cX9_begin 0 = .ok (.aload_n 0, 1) := by decide +kernel
theorem dX9_begin_1 : decode cX9_begin 1 = .ok (.getfield 35, 3) := by decide +kernel
theorem dX9_begin_4 : decode cX9_begin 4 = .ok (.aload_n 0, 1) := by decide +kernel
theorem dX9_begin_5 : decode cX9_begin 5 = .ok (.getfield 18, 3) := by decide +kernel
theorem dX9_begin_8 : decode cX9_begin 8 = .ok (.aload_n 0, 1) := by decide +kernel
theorem dX9_begin_9 : decode cX9_begin 9 = .ok (.getfield 114, 3) := by decide +kernel
theorem dX9_begin_12 : decode cX9_begin 12 = .ok (.invokevirtual 148, 3) := by decide +kernel
theorem dX9_begin_15 : decode cX9_begin 15 = .ok (.istore_n 1, 1) := by decide +kernel
theorem dX9_begin_16 : decode cX9_begin 16 = .ok (.iload_n 1, 1) := by decide +kernel
theorem dX9_begin_17 : decode cX9_begin 17 = .ok (.iconst (-1), 1) := by decide +kernel
theorem dX9_begin_18 : decode cX9_begin 18 = .ok (.if_icmp .eq 10, 3) := by decide +kernel
theorem dX9_begin_21 : decode cX9_begin 21 = .ok (.aload_n 0, 1) := by decide +kernel
theorem dX9_begin_22 : decode cX9_begin 22 = .ok (.getfield 114, 3) := by decide +kernel
theorem dX9_begin_25 : decode cX9_begin 25 = .ok (.ifCond .ne 5, 3) := by decide +kernel
theorem dX9_begin_28 : decode cX9_begin 28 = .ok (.iconst 0, 1) := by decide +kernel
theorem dX9_begin_29 : decode cX9_begin 29 = .ok (.ireturn, 1) := by decide +kernel
theorem dX9_begin_30 : decode cX9_begin 30 = .ok (.aload_n 0, 1) := by decide +kernel
theorem dX9_begin_31 : decode cX9_begin 31 = .ok (.getfield 44, 3) := by decide +kernel
theorem dX9_begin_34 : decode cX9_begin 34 = .ok (.aload_n 0, 1) := by decide +kernel
theorem dX9_begin_35 : decode cX9_begin 35 = .ok (.getfield 114, 3) := by decide +kernel
theorem dX9_begin_38 : decode cX9_begin 38 = .ok (.aload_n 0, 1) := by decide +kernel
theorem dX9_begin_39 : decode cX9_begin 39 = .ok (.getfield 35, 3) := by decide +kernel
theorem dX9_begin_42 : decode cX9_begin 42 = .ok (.getfield 155, 3) := by decide +kernel
theorem dX9_begin_45 : decode cX9_begin 45 = .ok (.invokevirtual 159, 3) := by decide +kernel
theorem dX9_begin_48 : decode cX9_begin 48 = .ok (.iconst 1, 1) := by decide +kernel
theorem dX9_begin_49 : decode cX9_begin 49 = .ok (.ireturn, 1) := by decide +kernel
theorem dX9_stop_0 : decode cX9_stop 0 = .ok (.aload_n 0, 1) := by decide +kernel
theorem dX9_stop_1 : decode cX9_stop 1 = .ok (.getfield 44, 3) := by decide +kernel
theorem dX9_stop_4 : decode cX9_stop 4 = .ok (.getfield 88, 3) := by decide +kernel
theorem dX9_stop_7 : decode cX9_stop 7 = .ok (.istore_n 1, 1) := by decide +kernel
theorem dX9_stop_8 : decode cX9_stop 8 = .ok (.aload_n 0, 1) := by decide +kernel
theorem dX9_stop_9 : decode cX9_stop 9 = .ok (.getfield 44, 3) := by decide +kernel
theorem dX9_stop_12 : decode cX9_stop 12 = .ok (.iconst 0, 1) := by decide +kernel
theorem dX9_stop_13 : decode cX9_stop 13 = .ok (.putfield 88, 3) := by decide +kernel
theorem dX9_stop_16 : decode cX9_stop 16 = .ok (.iload_n 1, 1) := by decide +kernel
theorem dX9_stop_17 : decode cX9_stop 17 = .ok (.ireturn, 1) := by decide +kernel
theorem dX9_run_0 : decode cX9_run 0 = .ok (.iload_n 1, 1) := by decide +kernel
theorem dX9_run_1 : decode cX9_run 1 = .ok (.iconst 1, 1) := by decide +kernel
theorem dX9_run_2 : decode cX9_run 2 = .ok (.if_icmp .lt 10, 3) := by decide +kernel
theorem dX9_run_5 : decode cX9_run 5 = .ok (.iload_n 1, 1) := by decide +kernel
theorem dX9_run_6 : decode cX9_run 6 = .ok (.sipush 2000, 3) := by decide +kernel
theorem dX9_run_9 : decode cX9_run 9 = .ok (.if_icmp .le 6, 3) := by decide +kernel
theorem dX9_run_12 : decode cX9_run 12 = .ok (.bipush (-2), 2) := by decide +kernel
theorem dX9_run_14 : decode cX9_run 14 = .ok (.ireturn, 1) := by decide +kernel
theorem dX9_run_15 : decode cX9_run 15 = .ok (.aload_n 0, 1) := by decide +kernel
theorem dX9_run_16 : decode cX9_run 16 = .ok (.getfield 44, 3) := by decide +kernel
theorem dX9_run_19 : decode cX9_run 19 = .ok (.getfield 88, 3) := by decide +kernel
theorem dX9_run_22 : decode cX9_run 22 = .ok (.ifCond .ne 6, 3) := by decide +kernel
theorem dX9_run_25 : decode cX9_run 25 = .ok (.bipush (-9), 2) := by decide +kernel
theorem dX9_run_27 : decode cX9_run 27 = .ok (.ireturn, 1) := by decide +kernel
theorem dX9_run_28 : decode cX9_run 28 = .ok (.iconst 0, 1) := by decide +kernel
theorem dX9_run_29 : decode cX9_run 29 = .ok (.istore_n 2, 1) := by decide +kernel
theorem dX9_run_30 : decode cX9_run 30 = .ok (.iload_n 2, 1) := by decide +kernel
theorem dX9_run_31 : decode cX9_run 31 = .ok (.iload_n 1, 1) := by decide +kernel
theorem dX9_run_32 : decode cX9_run 32 = .ok (.if_icmp .ge 26, 3) := by decide +kernel
theorem dX9_run_35 : decode cX9_run 35 = .ok (.aload_n 0, 1) := by decide +kernel
theorem dX9_run_36 : decode cX9_run 36 = .ok (.getfield 44, 3) := by decide +kernel
theorem dX9_run_39 : decode cX9_run 39 = .ok (.invokevirtual 163, 3) := by decide +kernel
theorem dX9_run_42 : decode cX9_run 42 = .ok (.ifCond .eq 16, 3) := by decide +kernel
theorem dX9_run_45 : decode cX9_run 45 = .ok (.aload_n 0, 1) := by decide +kernel
theorem dX9_run_46 : decode cX9_run 46 = .ok (.getfield 44, 3) := by decide +kernel
theorem dX9_run_49 : decode cX9_run 49 = .ok (.invokevirtual 166, 3) := by decide +kernel
theorem dX9_run_52 : decode cX9_run 52 = .ok (.iinc 2 1, 3) := by decide +kernel
theorem dX9_run_55 : decode cX9_run 55 = .ok (.goto (-25), 3) := by decide +kernel
theorem dX9_run_58 : decode cX9_run 58 = .ok (.aload_n 0, 1) := by decide +kernel
theorem dX9_run_59 : decode cX9_run 59 = .ok (.getfield 44, 3) := by decide +kernel
theorem dX9_run_62 : decode cX9_run 62 = .ok (.getfield 169, 3) := by decide +kernel
theorem dX9_run_65 : decode cX9_run 65 = .ok (.ireturn, 1) := by decide +kernel
theorem dX9_of_0 : decode cX9_of 0 = .ok (.iload_n 1, 1) := by decide +kernel
theorem dX9_of_1 : decode cX9_of 1 = .ok (.ifCond .lt 14, 3) := by decide +kernel
theorem dX9_of_4 : decode cX9_of 4 = .ok (.iload_n 1, 1) := by decide +kernel
theorem dX9_of_5 : decode cX9_of 5 = .ok (.aload_n 0, 1) := by decide +kernel
theorem dX9_of_6 : decode cX9_of 6 = .ok (.getfield 44, 3) := by decide +kernel
theorem dX9_of_9 : decode cX9_of 9 = .ok (.getfield 127, 3) := by decide +kernel
theorem dX9_of_12 : decode cX9_of 12 = .ok (.if_icmp .lt 6, 3) := by decide +kernel
theorem dX9_of_15 : decode cX9_of 15 = .ok (.bipush (-2), 2) := by decide +kernel
theorem dX9_of_17 : decode cX9_of 17 = .ok (.ireturn, 1) := by decide +kernel
theorem dX9_of_18 : decode cX9_of 18 = .ok (.aload_n 0, 1) := by decide +kernel
theorem dX9_of_19 : decode cX9_of 19 = .ok (.getfield 44, 3) := by decide +kernel
theorem dX9_of_22 : decode cX9_of 22 = .ok (.getfield 172, 3) := by decide +kernel
theorem dX9_of_25 : decode cX9_of 25 = .ok (.iload_n 1, 1) := by decide +kernel
theorem dX9_of_26 : decode cX9_of 26 = .ok (.aaload, 1) := by decide +kernel
theorem dX9_of_27 : decode cX9_of 27 = .ok (.iload_n 2, 1) := by decide +kernel
theorem dX9_of_28 : decode cX9_of 28 = .ok (.invokevirtual 176, 3) := by decide +kernel
theorem dX9_of_31 : decode cX9_of 31 = .ok (.ireturn, 1) := by decide +kernel
theorem dX9_count_0 : decode cX9_count 0 = .ok (.iload_n 1, 1) := by decide +kernel
theorem dX9_count_1 : decode cX9_count 1 = .ok (.tableswitch 167 0 11 #[63, 68, 76, 84, 92, 100, 108, 124, 132, 140, 151, 162], 63) := by decide +kernel
theorem dX9_count_64 : decode cX9_count 64 = .ok (.aload_n 0, 1) := by decide +kernel
theorem dX9_count_65 : decode cX9_count 65 = .ok (.getfield 114, 3) := by decide +kernel
theorem dX9_count_68 : decode cX9_count 68 = .ok (.ireturn, 1) := by decide +kernel
theorem dX9_count_69 : decode cX9_count 69 = .ok (.aload_n 0, 1) := by decide +kernel
theorem dX9_count_70 : decode cX9_count 70 = .ok (.getfield 26, 3) := by decide +kernel
theorem dX9_count_73 : decode cX9_count 73 = .ok (.getfield 96, 3) := by decide +kernel
theorem dX9_count_76 : decode cX9_count 76 = .ok (.ireturn, 1) := by decide +kernel
theorem dX9_count_77 : decode cX9_count 77 = .ok (.aload_n 0, 1) := by decide +kernel
theorem dX9_count_78 : decode cX9_count 78 = .ok (.getfield 26, 3) := by decide +kernel
theorem dX9_count_81 : decode cX9_count 81 = .ok (.getfield 99, 3) := by decide +kernel
theorem dX9_count_84 : decode cX9_count 84 = .ok (.ireturn, 1) := by decide +kernel
theorem dX9_count_85 : decode cX9_count 85 = .ok (.aload_n 0, 1) := by decide +kernel
theorem dX9_count_86 : decode cX9_count 86 = .ok (.getfield 26, 3) := by decide +kernel
theorem dX9_count_89 : decode cX9_count 89 = .ok (.getfield 102, 3) := by decide +kernel
theorem dX9_count_92 : decode cX9_count 92 = .ok (.ireturn, 1) := by decide +kernel
theorem dX9_count_93 : decode cX9_count 93 = .ok (.aload_n 0, 1) := by decide +kernel
theorem dX9_count_94 : decode cX9_count 94 = .ok (.getfield 26, 3) := by decide +kernel
theorem dX9_count_97 : decode cX9_count 97 = .ok (.getfield 105, 3) := by decide +kernel
theorem dX9_count_100 : decode cX9_count 100 = .ok (.ireturn, 1) := by decide +kernel
theorem dX9_count_101 : decode cX9_count 101 = .ok (.aload_n 0, 1) := by decide +kernel
theorem dX9_count_102 : decode cX9_count 102 = .ok (.getfield 26, 3) := by decide +kernel
theorem dX9_count_105 : decode cX9_count 105 = .ok (.getfield 108, 3) := by decide +kernel
theorem dX9_count_108 : decode cX9_count 108 = .ok (.ireturn, 1) := by decide +kernel
theorem dX9_count_109 : decode cX9_count 109 = .ok (.aload_n 0, 1) := by decide +kernel
theorem dX9_count_110 : decode cX9_count 110 = .ok (.getfield 44, 3) := by decide +kernel
theorem dX9_count_113 : decode cX9_count 113 = .ok (.getfield 88, 3) := by decide +kernel
theorem dX9_count_116 : decode cX9_count 116 = .ok (.ifCond .eq 7, 3) := by decide +kernel
theorem dX9_count_119 : decode cX9_count 119 = .ok (.iconst 1, 1) := by decide +kernel
theorem dX9_count_120 : decode cX9_count 120 = .ok (.goto 4, 3) := by decide +kernel
theorem dX9_count_123 : decode cX9_count 123 = .ok (.iconst 0, 1) := by decide +kernel
theorem dX9_count_124 : decode cX9_count 124 = .ok (.ireturn, 1) := by decide +kernel
theorem dX9_count_125 : decode cX9_count 125 = .ok (.aload_n 0, 1) := by decide +kernel
theorem dX9_count_126 : decode cX9_count 126 = .ok (.getfield 44, 3) := by decide +kernel
theorem dX9_count_129 : decode cX9_count 129 = .ok (.getfield 169, 3) := by decide +kernel
theorem dX9_count_132 : decode cX9_count 132 = .ok (.ireturn, 1) := by decide +kernel
theorem dX9_count_133 : decode cX9_count 133 = .ok (.aload_n 0, 1) := by decide +kernel
theorem dX9_count_134 : decode cX9_count 134 = .ok (.getfield 44, 3) := by decide +kernel
theorem dX9_count_137 : decode cX9_count 137 = .ok (.getfield 182, 3) := by decide +kernel
theorem dX9_count_140 : decode cX9_count 140 = .ok (.ireturn, 1) := by decide +kernel
theorem dX9_count_141 : decode cX9_count 141 = .ok (.aload_n 0, 1) := by decide +kernel
theorem dX9_count_142 : decode cX9_count 142 = .ok (.getfield 44, 3) := by decide +kernel
theorem dX9_count_145 : decode cX9_count 145 = .ok (.getfield 185, 3) := by decide +kernel
theorem dX9_count_148 : decode cX9_count 148 = .ok (.invokevirtual 189, 3) := by decide +kernel
theorem dX9_count_151 : decode cX9_count 151 = .ok (.ireturn, 1) := by decide +kernel
theorem dX9_count_152 : decode cX9_count 152 = .ok (.aload_n 0, 1) := by decide +kernel
theorem dX9_count_153 : decode cX9_count 153 = .ok (.getfield 44, 3) := by decide +kernel
theorem dX9_count_156 : decode cX9_count 156 = .ok (.getfield 185, 3) := by decide +kernel
theorem dX9_count_159 : decode cX9_count 159 = .ok (.getfield 194, 3) := by decide +kernel
theorem dX9_count_162 : decode cX9_count 162 = .ok (.ireturn, 1) := by decide +kernel
theorem dX9_count_163 : decode cX9_count 163 = .ok (.aload_n 0, 1) := by decide +kernel
theorem dX9_count_164 : decode cX9_count 164 = .ok (.invokevirtual 197, 3) := by decide +kernel
theorem dX9_count_167 : decode cX9_count 167 = .ok (.ireturn, 1) := by decide +kernel
theorem dX9_count_168 : decode cX9_count 168 = .ok (.iconst (-1), 1) := by decide +kernel
theorem dX9_count_169 : decode cX9_count 169 = .ok (.ireturn, 1) := by decide +kernel
theorem dX9_log_0 : decode cX9_log 0 = .ok (.aload_n 0, 1) := by decide +kernel
theorem dX9_log_1 : decode cX9_log 1 = .ok (.getfield 44, 3) := by decide +kernel
theorem dX9_log_4 : decode cX9_log 4 = .ok (.getfield 185, 3) := by decide +kernel
theorem dX9_log_7 : decode cX9_log 7 = .ok (.iload_n 1, 1) := by decide +kernel
theorem dX9_log_8 : decode cX9_log 8 = .ok (.iload_n 2, 1) := by decide +kernel
theorem dX9_log_9 : decode cX9_log 9 = .ok (.invokevirtual 200, 3) := by decide +kernel
theorem dX9_log_12 : decode cX9_log 12 = .ok (.ireturn, 1) := by decide +kernel
theorem dX9_isSlot_0 : decode cX9_isSlot 0 = .ok (.iload_n 1, 1) := by decide +kernel
theorem dX9_isSlot_1 : decode cX9_isSlot 1 = .ok (.ifCond .lt 12, 3) := by decide +kernel
theorem dX9_isSlot_4 : decode cX9_isSlot 4 = .ok (.iload_n 1, 1) := by decide +kernel
theorem dX9_isSlot_5 : decode cX9_isSlot 5 = .ok (.iconst 4, 1) := by decide +kernel
theorem dX9_isSlot_6 : decode cX9_isSlot 6 = .ok (.if_icmp .ge 7, 3) := by decide +kernel
theorem dX9_isSlot_9 : decode cX9_isSlot 9 = .ok (.iconst 1, 1) := by decide +kernel
theorem dX9_isSlot_10 : decode cX9_isSlot 10 = .ok (.goto 4, 3) := by decide +kernel
theorem dX9_isSlot_13 : decode cX9_isSlot 13 = .ok (.iconst 0, 1) := by decide +kernel
theorem dX9_isSlot_14 : decode cX9_isSlot 14 = .ok (.ireturn, 1) := by decide +kernel
theorem dX9_isProgram_0 : decode cX9_isProgram 0 = .ok (.iload_n 1, 1) := by decide +kernel
theorem dX9_isProgram_1 : decode cX9_isProgram 1 = .ok (.ifCond .lt 15, 3) := by decide +kernel
theorem dX9_isProgram_4 : decode cX9_isProgram 4 = .ok (.iload_n 1, 1) := by decide +kernel
theorem dX9_isProgram_5 : decode cX9_isProgram 5 = .ok (.aload_n 0, 1) := by decide +kernel
theorem dX9_isProgram_6 : decode cX9_isProgram 6 = .ok (.getfield 114, 3) := by decide +kernel
theorem dX9_isProgram_9 : decode cX9_isProgram 9 = .ok (.if_icmp .ge 7, 3) := by decide +kernel
theorem dX9_isProgram_12 : decode cX9_isProgram 12 = .ok (.iconst 1, 1) := by decide +kernel
theorem dX9_isProgram_13 : decode cX9_isProgram 13 = .ok (.goto 4, 3) := by decide +kernel
theorem dX9_isProgram_16 : decode cX9_isProgram 16 = .ok (.iconst 0, 1) := by decide +kernel
theorem dX9_isProgram_17 : decode cX9_isProgram 17 = .ok (.ireturn, 1) := by decide +kernel
theorem dX9_rowsThere_0 : decode cX9_rowsThere 0 = .ok (.iconst 0, 1) := by decide +kernel
theorem dX9_rowsThere_1 : decode cX9_rowsThere 1 = .ok (.istore_n 1, 1) := by decide +kernel
theorem dX9_rowsThere_2 : decode cX9_rowsThere 2 = .ok (.iconst 0, 1) := by decide +kernel
theorem dX9_rowsThere_3 : decode cX9_rowsThere 3 = .ok (.istore_n 2, 1) := by decide +kernel
theorem dX9_rowsThere_4 : decode cX9_rowsThere 4 = .ok (.iload_n 2, 1) := by decide +kernel
theorem dX9_rowsThere_5 : decode cX9_rowsThere 5 = .ok (.iconst 4, 1) := by decide +kernel
theorem dX9_rowsThere_6 : decode cX9_rowsThere 6 = .ok (.if_icmp .ge 24, 3) := by decide +kernel
theorem dX9_rowsThere_9 : decode cX9_rowsThere 9 = .ok (.aload_n 0, 1) := by decide +kernel
theorem dX9_rowsThere_10 : decode cX9_rowsThere 10 = .ok (.getfield 11, 3) := by decide +kernel
theorem dX9_rowsThere_13 : decode cX9_rowsThere 13 = .ok (.iload_n 2, 1) := by decide +kernel
theorem dX9_rowsThere_14 : decode cX9_rowsThere 14 = .ok (.aaload, 1) := by decide +kernel
theorem dX9_rowsThere_15 : decode cX9_rowsThere 15 = .ok (.invokevirtual 56, 3) := by decide +kernel
theorem dX9_rowsThere_18 : decode cX9_rowsThere 18 = .ok (.ifCond .ne 6, 3) := by decide +kernel
theorem dX9_rowsThere_21 : decode cX9_rowsThere 21 = .ok (.iinc 1 1, 3) := by decide +kernel
theorem dX9_rowsThere_24 : decode cX9_rowsThere 24 = .ok (.iinc 2 1, 3) := by decide +kernel
theorem dX9_rowsThere_27 : decode cX9_rowsThere 27 = .ok (.goto (-23), 3) := by decide +kernel
theorem dX9_rowsThere_30 : decode cX9_rowsThere 30 = .ok (.iload_n 1, 1) := by decide +kernel
theorem dX9_rowsThere_31 : decode cX9_rowsThere 31 = .ok (.ireturn, 1) := by decide +kernel
