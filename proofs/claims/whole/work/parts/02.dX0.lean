theorem dX0_init_0 : decode cX0_init 0 = .ok (.aload_n 0, 1) := by decide +kernel
theorem dX0_init_1 : decode cX0_init 1 = .ok (.invokespecial 3, 3) := by decide +kernel
theorem dX0_init_4 : decode cX0_init 4 = .ok (.aload_n 0, 1) := by decide +kernel
theorem dX0_init_5 : decode cX0_init 5 = .ok (.new 9, 3) := by decide +kernel
theorem dX0_init_8 : decode cX0_init 8 = .ok (.dup, 1) := by decide +kernel
theorem dX0_init_9 : decode cX0_init 9 = .ok (.invokespecial 11, 3) := by decide +kernel
theorem dX0_init_12 : decode cX0_init 12 = .ok (.putfield 12, 3) := by decide +kernel
theorem dX0_init_15 : decode cX0_init 15 = .ok (.aload_n 0, 1) := by decide +kernel
theorem dX0_init_16 : decode cX0_init 16 = .ok (.bipush 6, 2) := by decide +kernel
theorem dX0_init_18 : decode cX0_init 18 = .ok (.newarray .int, 2) := by decide +kernel
theorem dX0_init_20 : decode cX0_init 20 = .ok (.putfield 18, 3) := by decide +kernel
theorem dX0_init_23 : decode cX0_init 23 = .ok (.aload_n 0, 1) := by decide +kernel
theorem dX0_init_24 : decode cX0_init 24 = .ok (.bipush 6, 2) := by decide +kernel
theorem dX0_init_26 : decode cX0_init 26 = .ok (.newarray .int, 2) := by decide +kernel
theorem dX0_init_28 : decode cX0_init 28 = .ok (.putfield 22, 3) := by decide +kernel
theorem dX0_init_31 : decode cX0_init 31 = .ok (.aload_n 0, 1) := by decide +kernel
theorem dX0_init_32 : decode cX0_init 32 = .ok (.iconst 0, 1) := by decide +kernel
theorem dX0_init_33 : decode cX0_init 33 = .ok (.putfield 25, 3) := by decide +kernel
theorem dX0_init_36 : decode cX0_init 36 = .ok (.aload_n 0, 1) := by decide +kernel
theorem dX0_init_37 : decode cX0_init 37 = .ok (.bipush 7, 2) := by decide +kernel
theorem dX0_init_39 : decode cX0_init 39 = .ok (.bipush 65, 2) := by decide +kernel
theorem dX0_init_41 : decode cX0_init 41 = .ok (.multianewarray 29 2, 4) := by decide +kernel
theorem dX0_init_45 : decode cX0_init 45 = .ok (.putfield 31, 3) := by decide +kernel
theorem dX0_init_48 : decode cX0_init 48 = .ok (.aload_n 0, 1) := by decide +kernel
theorem dX0_init_49 : decode cX0_init 49 = .ok (.aload_n 1, 1) := by decide +kernel
theorem dX0_init_50 : decode cX0_init 50 = .ok (.putfield 34, 3) := by decide +kernel
theorem dX0_init_53 : decode cX0_init 53 = .ok (.return_, 1) := by decide +kernel
theorem dX0_timeByRoom_0 : decode cX0_timeByRoom 0 = .ok (.aload_n 0, 1) := by decide +kernel
theorem dX0_timeByRoom_1 : decode cX0_timeByRoom 1 = .ok (.getfield 12, 3) := by decide +kernel
theorem dX0_timeByRoom_4 : decode cX0_timeByRoom 4 = .ok (.aload_n 1, 1) := by decide +kernel
theorem dX0_timeByRoom_5 : decode cX0_timeByRoom 5 = .ok (.iload_n 2, 1) := by decide +kernel
theorem dX0_timeByRoom_6 : decode cX0_timeByRoom 6 = .ok (.iconst 0, 1) := by decide +kernel
theorem dX0_timeByRoom_7 : decode cX0_timeByRoom 7 = .ok (.iconst 1, 1) := by decide +kernel
theorem dX0_timeByRoom_8 : decode cX0_timeByRoom 8 = .ok (.invokevirtual 38, 3) := by decide +kernel
theorem dX0_timeByRoom_11 : decode cX0_timeByRoom 11 = .ok (.aload_n 0, 1) := by decide +kernel
theorem dX0_timeByRoom_12 : decode cX0_timeByRoom 12 = .ok (.getfield 12, 3) := by decide +kernel
theorem dX0_timeByRoom_15 : decode cX0_timeByRoom 15 = .ok (.iconst 0, 1) := by decide +kernel
theorem dX0_timeByRoom_16 : decode cX0_timeByRoom 16 = .ok (.invokevirtual 42, 3) := by decide +kernel
theorem dX0_timeByRoom_19 : decode cX0_timeByRoom 19 = .ok (.ireturn, 1) := by decide +kernel
theorem dX0_needInSteps_0 : decode cX0_needInSteps 0 = .ok (.aload_n 0, 1) := by decide +kernel
theorem dX0_needInSteps_1 : decode cX0_needInSteps 1 = .ok (.aload_n 1, 1) := by decide +kernel
theorem dX0_needInSteps_2 : decode cX0_needInSteps 2 = .ok (.invokevirtual 46, 3) := by decide +kernel
theorem dX0_needInSteps_5 : decode cX0_needInSteps 5 = .ok (.aload_n 0, 1) := by decide +kernel
theorem dX0_needInSteps_6 : decode cX0_needInSteps 6 = .ok (.getfield 34, 3) := by decide +kernel
theorem dX0_needInSteps_9 : decode cX0_needInSteps 9 = .ok (.aload_n 1, 1) := by decide +kernel
theorem dX0_needInSteps_10 : decode cX0_needInSteps 10 = .ok (.getfield 50, 3) := by decide +kernel
theorem dX0_needInSteps_13 : decode cX0_needInSteps 13 = .ok (.invokevirtual 56, 3) := by decide +kernel
theorem dX0_needInSteps_16 : decode cX0_needInSteps 16 = .ok (.istore_n 2, 1) := by decide +kernel
theorem dX0_needInSteps_17 : decode cX0_needInSteps 17 = .ok (.iload_n 2, 1) := by decide +kernel
theorem dX0_needInSteps_18 : decode cX0_needInSteps 18 = .ok (.aload_n 0, 1) := by decide +kernel
theorem dX0_needInSteps_19 : decode cX0_needInSteps 19 = .ok (.getfield 34, 3) := by decide +kernel
theorem dX0_needInSteps_22 : decode cX0_needInSteps 22 = .ok (.invokevirtual 61, 3) := by decide +kernel
theorem dX0_needInSteps_25 : decode cX0_needInSteps 25 = .ok (.if_icmp .gt 21, 3) := by decide +kernel
theorem dX0_needInSteps_28 : decode cX0_needInSteps 28 = .ok (.aload_n 1, 1) := by decide +kernel
theorem dX0_needInSteps_29 : decode cX0_needInSteps 29 = .ok (.getfield 65, 3) := by decide +kernel
theorem dX0_needInSteps_32 : decode cX0_needInSteps 32 = .ok (.iload_n 2, 1) := by decide +kernel
theorem dX0_needInSteps_33 : decode cX0_needInSteps 33 = .ok (.iaload, 1) := by decide +kernel
theorem dX0_needInSteps_34 : decode cX0_needInSteps 34 = .ok (.iconst (-1), 1) := by decide +kernel
theorem dX0_needInSteps_35 : decode cX0_needInSteps 35 = .ok (.if_icmp .eq 5, 3) := by decide +kernel
theorem dX0_needInSteps_38 : decode cX0_needInSteps 38 = .ok (.iload_n 2, 1) := by decide +kernel
theorem dX0_needInSteps_39 : decode cX0_needInSteps 39 = .ok (.ireturn, 1) := by decide +kernel
theorem dX0_needInSteps_40 : decode cX0_needInSteps 40 = .ok (.iinc 2 1, 3) := by decide +kernel
theorem dX0_needInSteps_43 : decode cX0_needInSteps 43 = .ok (.goto (-26), 3) := by decide +kernel
theorem dX0_needInSteps_46 : decode cX0_needInSteps 46 = .ok (.iconst (-1), 1) := by decide +kernel
theorem dX0_needInSteps_47 : decode cX0_needInSteps 47 = .ok (.ireturn, 1) := by decide +kernel
theorem dX0_learnTimes_0 : decode cX0_learnTimes 0 = .ok (.aload_n 1, 1) := by decide +kernel
theorem dX0_learnTimes_1 : decode cX0_learnTimes 1 = .ok (.getfield 68, 3) := by decide +kernel
theorem dX0_learnTimes_4 : decode cX0_learnTimes 4 = .ok (.ifCond .eq 4, 3) := by decide +kernel
theorem dX0_learnTimes_7 : decode cX0_learnTimes 7 = .ok (.return_, 1) := by decide +kernel
theorem dX0_learnTimes_8 : decode cX0_learnTimes 8 = .ok (.aload_n 0, 1) := by decide +kernel
theorem dX0_learnTimes_9 : decode cX0_learnTimes 9 = .ok (.getfield 34, 3) := by decide +kernel
theorem dX0_learnTimes_12 : decode cX0_learnTimes 12 = .ok (.invokevirtual 61, 3) := by decide +kernel
theorem dX0_learnTimes_15 : decode cX0_learnTimes 15 = .ok (.istore_n 2, 1) := by decide +kernel
theorem dX0_learnTimes_16 : decode cX0_learnTimes 16 = .ok (.aload_n 0, 1) := by decide +kernel
theorem dX0_learnTimes_17 : decode cX0_learnTimes 17 = .ok (.getfield 12, 3) := by decide +kernel
theorem dX0_learnTimes_20 : decode cX0_learnTimes 20 = .ok (.aload_n 1, 1) := by decide +kernel
theorem dX0_learnTimes_21 : decode cX0_learnTimes 21 = .ok (.iconst 0, 1) := by decide +kernel
theorem dX0_learnTimes_22 : decode cX0_learnTimes 22 = .ok (.aload_n 0, 1) := by decide +kernel
theorem dX0_learnTimes_23 : decode cX0_learnTimes 23 = .ok (.getfield 34, 3) := by decide +kernel
theorem dX0_learnTimes_26 : decode cX0_learnTimes 26 = .ok (.getfield 71, 3) := by decide +kernel
theorem dX0_learnTimes_29 : decode cX0_learnTimes 29 = .ok (.iload_n 2, 1) := by decide +kernel
theorem dX0_learnTimes_30 : decode cX0_learnTimes 30 = .ok (.iconst 1, 1) := by decide +kernel
theorem dX0_learnTimes_31 : decode cX0_learnTimes 31 = .ok (.iadd, 1) := by decide +kernel
theorem dX0_learnTimes_32 : decode cX0_learnTimes 32 = .ok (.invokevirtual 38, 3) := by decide +kernel
theorem dX0_learnTimes_35 : decode cX0_learnTimes 35 = .ok (.iconst 0, 1) := by decide +kernel
theorem dX0_learnTimes_36 : decode cX0_learnTimes 36 = .ok (.istore_n 3, 1) := by decide +kernel
theorem dX0_learnTimes_37 : decode cX0_learnTimes 37 = .ok (.iload_n 3, 1) := by decide +kernel
theorem dX0_learnTimes_38 : decode cX0_learnTimes 38 = .ok (.iload_n 2, 1) := by decide +kernel
theorem dX0_learnTimes_39 : decode cX0_learnTimes 39 = .ok (.if_icmp .gt 23, 3) := by decide +kernel
theorem dX0_learnTimes_42 : decode cX0_learnTimes 42 = .ok (.aload_n 1, 1) := by decide +kernel
theorem dX0_learnTimes_43 : decode cX0_learnTimes 43 = .ok (.getfield 65, 3) := by decide +kernel
theorem dX0_learnTimes_46 : decode cX0_learnTimes 46 = .ok (.iload_n 3, 1) := by decide +kernel
theorem dX0_learnTimes_47 : decode cX0_learnTimes 47 = .ok (.aload_n 0, 1) := by decide +kernel
theorem dX0_learnTimes_48 : decode cX0_learnTimes 48 = .ok (.getfield 12, 3) := by decide +kernel
theorem dX0_learnTimes_51 : decode cX0_learnTimes 51 = .ok (.iload_n 3, 1) := by decide +kernel
theorem dX0_learnTimes_52 : decode cX0_learnTimes 52 = .ok (.invokevirtual 42, 3) := by decide +kernel
theorem dX0_learnTimes_55 : decode cX0_learnTimes 55 = .ok (.iastore, 1) := by decide +kernel
theorem dX0_learnTimes_56 : decode cX0_learnTimes 56 = .ok (.iinc 3 1, 3) := by decide +kernel
theorem dX0_learnTimes_59 : decode cX0_learnTimes 59 = .ok (.goto (-22), 3) := by decide +kernel
theorem dX0_learnTimes_62 : decode cX0_learnTimes 62 = .ok (.aload_n 1, 1) := by decide +kernel
theorem dX0_learnTimes_63 : decode cX0_learnTimes 63 = .ok (.iconst 1, 1) := by decide +kernel
theorem dX0_learnTimes_64 : decode cX0_learnTimes 64 = .ok (.putfield 68, 3) := by decide +kernel
theorem dX0_learnTimes_67 : decode cX0_learnTimes 67 = .ok (.return_, 1) := by decide +kernel
theorem dX0_bySavings_0 : decode cX0_bySavings 0 = .ok (.aload_n 0, 1) := by decide +kernel
theorem dX0_bySavings_1 : decode cX0_bySavings 1 = .ok (.iconst 0, 1) := by decide +kernel
theorem dX0_bySavings_2 : decode cX0_bySavings 2 = .ok (.putfield 25, 3) := by decide +kernel
theorem dX0_bySavings_5 : decode cX0_bySavings 5 = .ok (.aload_n 0, 1) := by decide +kernel
theorem dX0_bySavings_6 : decode cX0_bySavings 6 = .ok (.getfield 34, 3) := by decide +kernel
theorem dX0_bySavings_9 : decode cX0_bySavings 9 = .ok (.invokevirtual 74, 3) := by decide +kernel
theorem dX0_bySavings_12 : decode cX0_bySavings 12 = .ok (.istore_n 3, 1) := by decide +kernel
theorem dX0_bySavings_13 : decode cX0_bySavings 13 = .ok (.iconst 0, 1) := by decide +kernel
theorem dX0_bySavings_14 : decode cX0_bySavings 14 = .ok (.istore 4, 2) := by decide +kernel
theorem dX0_bySavings_16 : decode cX0_bySavings 16 = .ok (.iload 4, 2) := by decide +kernel
theorem dX0_bySavings_18 : decode cX0_bySavings 18 = .ok (.iload_n 2, 1) := by decide +kernel
theorem dX0_bySavings_19 : decode cX0_bySavings 19 = .ok (.if_icmp .ge 47, 3) := by decide +kernel
theorem dX0_bySavings_22 : decode cX0_bySavings 22 = .ok (.aload_n 0, 1) := by decide +kernel
theorem dX0_bySavings_23 : decode cX0_bySavings 23 = .ok (.aload_n 1, 1) := by decide +kernel
theorem dX0_bySavings_24 : decode cX0_bySavings 24 = .ok (.iload 4, 2) := by decide +kernel
theorem dX0_bySavings_26 : decode cX0_bySavings 26 = .ok (.aaload, 1) := by decide +kernel
theorem dX0_bySavings_27 : decode cX0_bySavings 27 = .ok (.invokevirtual 77, 3) := by decide +kernel
theorem dX0_bySavings_30 : decode cX0_bySavings 30 = .ok (.istore 5, 2) := by decide +kernel
theorem dX0_bySavings_32 : decode cX0_bySavings 32 = .ok (.iload 5, 2) := by decide +kernel
theorem dX0_bySavings_34 : decode cX0_bySavings 34 = .ok (.iconst (-1), 1) := by decide +kernel
theorem dX0_bySavings_35 : decode cX0_bySavings 35 = .ok (.if_icmp .eq 9, 3) := by decide +kernel
theorem dX0_bySavings_38 : decode cX0_bySavings 38 = .ok (.iload 5, 2) := by decide +kernel
theorem dX0_bySavings_40 : decode cX0_bySavings 40 = .ok (.iload_n 3, 1) := by decide +kernel
theorem dX0_bySavings_41 : decode cX0_bySavings 41 = .ok (.if_icmp .le 5, 3) := by decide +kernel
theorem dX0_bySavings_44 : decode cX0_bySavings 44 = .ok (.iconst (-1), 1) := by decide +kernel
theorem dX0_bySavings_45 : decode cX0_bySavings 45 = .ok (.ireturn, 1) := by decide +kernel
theorem dX0_bySavings_46 : decode cX0_bySavings 46 = .ok (.aload_n 0, 1) := by decide +kernel
theorem dX0_bySavings_47 : decode cX0_bySavings 47 = .ok (.getfield 18, 3) := by decide +kernel
theorem dX0_bySavings_50 : decode cX0_bySavings 50 = .ok (.iload 4, 2) := by decide +kernel
theorem dX0_bySavings_52 : decode cX0_bySavings 52 = .ok (.iload 5, 2) := by decide +kernel
theorem dX0_bySavings_54 : decode cX0_bySavings 54 = .ok (.iastore, 1) := by decide +kernel
theorem dX0_bySavings_55 : decode cX0_bySavings 55 = .ok (.iload_n 3, 1) := by decide +kernel
theorem dX0_bySavings_56 : decode cX0_bySavings 56 = .ok (.iload 5, 2) := by decide +kernel
theorem dX0_bySavings_58 : decode cX0_bySavings 58 = .ok (.isub, 1) := by decide +kernel
theorem dX0_bySavings_59 : decode cX0_bySavings 59 = .ok (.istore_n 3, 1) := by decide +kernel
theorem dX0_bySavings_60 : decode cX0_bySavings 60 = .ok (.iinc 4 1, 3) := by decide +kernel
theorem dX0_bySavings_63 : decode cX0_bySavings 63 = .ok (.goto (-47), 3) := by decide +kernel
theorem dX0_bySavings_66 : decode cX0_bySavings 66 = .ok (.iload_n 3, 1) := by decide +kernel
theorem dX0_bySavings_67 : decode cX0_bySavings 67 = .ok (.ifCond .le 37, 3) := by decide +kernel
theorem dX0_bySavings_70 : decode cX0_bySavings 70 = .ok (.aload_n 0, 1) := by decide +kernel
theorem dX0_bySavings_71 : decode cX0_bySavings 71 = .ok (.aload_n 1, 1) := by decide +kernel
theorem dX0_bySavings_72 : decode cX0_bySavings 72 = .ok (.iload_n 2, 1) := by decide +kernel
theorem dX0_bySavings_73 : decode cX0_bySavings 73 = .ok (.invokevirtual 81, 3) := by decide +kernel
theorem dX0_bySavings_76 : decode cX0_bySavings 76 = .ok (.istore 4, 2) := by decide +kernel
theorem dX0_bySavings_78 : decode cX0_bySavings 78 = .ok (.iload 4, 2) := by decide +kernel
theorem dX0_bySavings_80 : decode cX0_bySavings 80 = .ok (.iconst (-1), 1) := by decide +kernel
theorem dX0_bySavings_81 : decode cX0_bySavings 81 = .ok (.if_icmp .ne 6, 3) := by decide +kernel
theorem dX0_bySavings_84 : decode cX0_bySavings 84 = .ok (.goto 20, 3) := by decide +kernel
theorem dX0_bySavings_87 : decode cX0_bySavings 87 = .ok (.aload_n 0, 1) := by decide +kernel
theorem dX0_bySavings_88 : decode cX0_bySavings 88 = .ok (.getfield 18, 3) := by decide +kernel
theorem dX0_bySavings_91 : decode cX0_bySavings 91 = .ok (.iload 4, 2) := by decide +kernel
theorem dX0_bySavings_93 : decode cX0_bySavings 93 = .ok (.dup2, 1) := by decide +kernel
theorem dX0_bySavings_94 : decode cX0_bySavings 94 = .ok (.iaload, 1) := by decide +kernel
theorem dX0_bySavings_95 : decode cX0_bySavings 95 = .ok (.iconst 1, 1) := by decide +kernel
theorem dX0_bySavings_96 : decode cX0_bySavings 96 = .ok (.iadd, 1) := by decide +kernel
theorem dX0_bySavings_97 : decode cX0_bySavings 97 = .ok (.iastore, 1) := by decide +kernel
theorem dX0_bySavings_98 : decode cX0_bySavings 98 = .ok (.iinc 3 (-1), 3) := by decide +kernel
theorem dX0_bySavings_101 : decode cX0_bySavings 101 = .ok (.goto (-35), 3) := by decide +kernel
theorem dX0_bySavings_104 : decode cX0_bySavings 104 = .ok (.aload_n 0, 1) := by decide +kernel
theorem dX0_bySavings_105 : decode cX0_bySavings 105 = .ok (.iconst 1, 1) := by decide +kernel
theorem dX0_bySavings_106 : decode cX0_bySavings 106 = .ok (.putfield 25, 3) := by decide +kernel
theorem dX0_bySavings_109 : decode cX0_bySavings 109 = .ok (.aload_n 0, 1) := by decide +kernel
theorem dX0_bySavings_110 : decode cX0_bySavings 110 = .ok (.aload_n 1, 1) := by decide +kernel
theorem dX0_bySavings_111 : decode cX0_bySavings 111 = .ok (.iload_n 2, 1) := by decide +kernel
theorem dX0_bySavings_112 : decode cX0_bySavings 112 = .ok (.invokevirtual 85, 3) := by decide +kernel
theorem dX0_bySavings_115 : decode cX0_bySavings 115 = .ok (.ireturn, 1) := by decide +kernel
theorem dX0_whoSavesMost_0 : decode cX0_whoSavesMost 0 = .ok (.iconst (-1), 1) := by decide +kernel
theorem dX0_whoSavesMost_1 : decode cX0_whoSavesMost 1 = .ok (.istore_n 3, 1) := by decide +kernel
theorem dX0_whoSavesMost_2 : decode cX0_whoSavesMost 2 = .ok (.iconst 0, 1) := by decide +kernel
theorem dX0_whoSavesMost_3 : decode cX0_whoSavesMost 3 = .ok (.istore 4, 2) := by decide +kernel
theorem dX0_whoSavesMost_5 : decode cX0_whoSavesMost 5 = .ok (.iconst 0, 1) := by decide +kernel
theorem dX0_whoSavesMost_6 : decode cX0_whoSavesMost 6 = .ok (.istore 5, 2) := by decide +kernel
theorem dX0_whoSavesMost_8 : decode cX0_whoSavesMost 8 = .ok (.iload 5, 2) := by decide +kernel
theorem dX0_whoSavesMost_10 : decode cX0_whoSavesMost 10 = .ok (.iload_n 2, 1) := by decide +kernel
theorem dX0_whoSavesMost_11 : decode cX0_whoSavesMost 11 = .ok (.if_icmp .ge 69, 3) := by decide +kernel
theorem dX0_whoSavesMost_14 : decode cX0_whoSavesMost 14 = .ok (.aload_n 0, 1) := by decide +kernel
theorem dX0_whoSavesMost_15 : decode cX0_whoSavesMost 15 = .ok (.getfield 18, 3) := by decide +kernel
theorem dX0_whoSavesMost_18 : decode cX0_whoSavesMost 18 = .ok (.iload 5, 2) := by decide +kernel
theorem dX0_whoSavesMost_20 : decode cX0_whoSavesMost 20 = .ok (.iaload, 1) := by decide +kernel
theorem dX0_whoSavesMost_21 : decode cX0_whoSavesMost 21 = .ok (.istore 6, 2) := by decide +kernel
theorem dX0_whoSavesMost_23 : decode cX0_whoSavesMost 23 = .ok (.iload 6, 2) := by decide +kernel
theorem dX0_whoSavesMost_25 : decode cX0_whoSavesMost 25 = .ok (.aload_n 0, 1) := by decide +kernel
theorem dX0_whoSavesMost_26 : decode cX0_whoSavesMost 26 = .ok (.getfield 34, 3) := by decide +kernel
theorem dX0_whoSavesMost_29 : decode cX0_whoSavesMost 29 = .ok (.invokevirtual 61, 3) := by decide +kernel
theorem dX0_whoSavesMost_32 : decode cX0_whoSavesMost 32 = .ok (.if_icmp .ge 42, 3) := by decide +kernel
theorem dX0_whoSavesMost_35 : decode cX0_whoSavesMost 35 = .ok (.aload_n 1, 1) := by decide +kernel
theorem dX0_whoSavesMost_36 : decode cX0_whoSavesMost 36 = .ok (.iload 5, 2) := by decide +kernel
theorem dX0_whoSavesMost_38 : decode cX0_whoSavesMost 38 = .ok (.aaload, 1) := by decide +kernel
theorem dX0_whoSavesMost_39 : decode cX0_whoSavesMost 39 = .ok (.getfield 65, 3) := by decide +kernel
theorem dX0_whoSavesMost_42 : decode cX0_whoSavesMost 42 = .ok (.iload 6, 2) := by decide +kernel
theorem dX0_whoSavesMost_44 : decode cX0_whoSavesMost 44 = .ok (.iaload, 1) := by decide +kernel
theorem dX0_whoSavesMost_45 : decode cX0_whoSavesMost 45 = .ok (.aload_n 1, 1) := by decide +kernel
theorem dX0_whoSavesMost_46 : decode cX0_whoSavesMost 46 = .ok (.iload 5, 2) := by decide +kernel
theorem dX0_whoSavesMost_48 : decode cX0_whoSavesMost 48 = .ok (.aaload, 1) := by decide +kernel
theorem dX0_whoSavesMost_49 : decode cX0_whoSavesMost 49 = .ok (.getfield 65, 3) := by decide +kernel
theorem dX0_whoSavesMost_52 : decode cX0_whoSavesMost 52 = .ok (.iload 6, 2) := by decide +kernel
theorem dX0_whoSavesMost_54 : decode cX0_whoSavesMost 54 = .ok (.iconst 1, 1) := by decide +kernel
theorem dX0_whoSavesMost_55 : decode cX0_whoSavesMost 55 = .ok (.iadd, 1) := by decide +kernel
theorem dX0_whoSavesMost_56 : decode cX0_whoSavesMost 56 = .ok (.iaload, 1) := by decide +kernel
theorem dX0_whoSavesMost_57 : decode cX0_whoSavesMost 57 = .ok (.isub, 1) := by decide +kernel
theorem dX0_whoSavesMost_58 : decode cX0_whoSavesMost 58 = .ok (.istore 7, 2) := by decide +kernel
theorem dX0_whoSavesMost_60 : decode cX0_whoSavesMost 60 = .ok (.iload 7, 2) := by decide +kernel
theorem dX0_whoSavesMost_62 : decode cX0_whoSavesMost 62 = .ok (.iload 4, 2) := by decide +kernel
theorem dX0_whoSavesMost_64 : decode cX0_whoSavesMost 64 = .ok (.if_icmp .le 10, 3) := by decide +kernel
theorem dX0_whoSavesMost_67 : decode cX0_whoSavesMost 67 = .ok (.iload 7, 2) := by decide +kernel
theorem dX0_whoSavesMost_69 : decode cX0_whoSavesMost 69 = .ok (.istore 4, 2) := by decide +kernel
theorem dX0_whoSavesMost_71 : decode cX0_whoSavesMost 71 = .ok (.iload 5, 2) := by decide +kernel
theorem dX0_whoSavesMost_73 : decode cX0_whoSavesMost 73 = .ok (.istore_n 3, 1) := by decide +kernel
theorem dX0_whoSavesMost_74 : decode cX0_whoSavesMost 74 = .ok (.iinc 5 1, 3) := by decide +kernel
theorem dX0_whoSavesMost_77 : decode cX0_whoSavesMost 77 = .ok (.goto (-69), 3) := by decide +kernel
theorem dX0_whoSavesMost_80 : decode cX0_whoSavesMost 80 = .ok (.iload_n 3, 1) := by decide +kernel
theorem dX0_whoSavesMost_81 : decode cX0_whoSavesMost 81 = .ok (.ireturn, 1) := by decide +kernel
theorem dX0_sumOfTimes_0 : decode cX0_sumOfTimes 0 = .ok (.iconst 0, 1) := by decide +kernel
theorem dX0_sumOfTimes_1 : decode cX0_sumOfTimes 1 = .ok (.istore_n 3, 1) := by decide +kernel
theorem dX0_sumOfTimes_2 : decode cX0_sumOfTimes 2 = .ok (.iconst 0, 1) := by decide +kernel
theorem dX0_sumOfTimes_3 : decode cX0_sumOfTimes 3 = .ok (.istore 4, 2) := by decide +kernel
theorem dX0_sumOfTimes_5 : decode cX0_sumOfTimes 5 = .ok (.iload 4, 2) := by decide +kernel
theorem dX0_sumOfTimes_7 : decode cX0_sumOfTimes 7 = .ok (.iload_n 2, 1) := by decide +kernel
theorem dX0_sumOfTimes_8 : decode cX0_sumOfTimes 8 = .ok (.if_icmp .ge 27, 3) := by decide +kernel
theorem dX0_sumOfTimes_11 : decode cX0_sumOfTimes 11 = .ok (.iload_n 3, 1) := by decide +kernel
theorem dX0_sumOfTimes_12 : decode cX0_sumOfTimes 12 = .ok (.aload_n 1, 1) := by decide +kernel
theorem dX0_sumOfTimes_13 : decode cX0_sumOfTimes 13 = .ok (.iload 4, 2) := by decide +kernel
theorem dX0_sumOfTimes_15 : decode cX0_sumOfTimes 15 = .ok (.aaload, 1) := by decide +kernel
theorem dX0_sumOfTimes_16 : decode cX0_sumOfTimes 16 = .ok (.getfield 65, 3) := by decide +kernel
theorem dX0_sumOfTimes_19 : decode cX0_sumOfTimes 19 = .ok (.aload_n 0, 1) := by decide +kernel
theorem dX0_sumOfTimes_20 : decode cX0_sumOfTimes 20 = .ok (.getfield 18, 3) := by decide +kernel
theorem dX0_sumOfTimes_23 : decode cX0_sumOfTimes 23 = .ok (.iload 4, 2) := by decide +kernel
theorem dX0_sumOfTimes_25 : decode cX0_sumOfTimes 25 = .ok (.iaload, 1) := by decide +kernel
theorem dX0_sumOfTimes_26 : decode cX0_sumOfTimes 26 = .ok (.iaload, 1) := by decide +kernel
theorem dX0_sumOfTimes_27 : decode cX0_sumOfTimes 27 = .ok (.iadd, 1) := by decide +kernel
theorem dX0_sumOfTimes_28 : decode cX0_sumOfTimes 28 = .ok (.istore_n 3, 1) := by decide +kernel
theorem dX0_sumOfTimes_29 : decode cX0_sumOfTimes 29 = .ok (.iinc 4 1, 3) := by decide +kernel
theorem dX0_sumOfTimes_32 : decode cX0_sumOfTimes 32 = .ok (.goto (-27), 3) := by decide +kernel
theorem dX0_sumOfTimes_35 : decode cX0_sumOfTimes 35 = .ok (.iload_n 3, 1) := by decide +kernel
theorem dX0_sumOfTimes_36 : decode cX0_sumOfTimes 36 = .ok (.ireturn, 1) := by decide +kernel
theorem dX0_atBest_0 : decode cX0_atBest 0 = .ok (.aload_n 0, 1) := by decide +kernel
theorem dX0_atBest_1 : decode cX0_atBest 1 = .ok (.iconst 0, 1) := by decide +kernel
theorem dX0_atBest_2 : decode cX0_atBest 2 = .ok (.putfield 25, 3) := by decide +kernel
theorem dX0_atBest_5 : decode cX0_atBest 5 = .ok (.aload_n 0, 1) := by decide +kernel
theorem dX0_atBest_6 : decode cX0_atBest 6 = .ok (.getfield 34, 3) := by decide +kernel
theorem dX0_atBest_9 : decode cX0_atBest 9 = .ok (.invokevirtual 74, 3) := by decide +kernel
theorem dX0_atBest_12 : decode cX0_atBest 12 = .ok (.istore_n 3, 1) := by decide +kernel
theorem dX0_atBest_13 : decode cX0_atBest 13 = .ok (.iconst 0, 1) := by decide +kernel
theorem dX0_atBest_14 : decode cX0_atBest 14 = .ok (.istore 4, 2) := by decide +kernel
theorem dX0_atBest_16 : decode cX0_atBest 16 = .ok (.iload 4, 2) := by decide +kernel
theorem dX0_atBest_18 : decode cX0_atBest 18 = .ok (.iload_n 3, 1) := by decide +kernel
theorem dX0_atBest_19 : decode cX0_atBest 19 = .ok (.if_icmp .gt 19, 3) := by decide +kernel
theorem dX0_atBest_22 : decode cX0_atBest 22 = .ok (.aload_n 0, 1) := by decide +kernel
theorem dX0_atBest_23 : decode cX0_atBest 23 = .ok (.getfield 31, 3) := by decide +kernel
theorem dX0_atBest_26 : decode cX0_atBest 26 = .ok (.iload_n 2, 1) := by decide +kernel
theorem dX0_atBest_27 : decode cX0_atBest 27 = .ok (.aaload, 1) := by decide +kernel
theorem dX0_atBest_28 : decode cX0_atBest 28 = .ok (.iload 4, 2) := by decide +kernel
theorem dX0_atBest_30 : decode cX0_atBest 30 = .ok (.iconst 0, 1) := by decide +kernel
theorem dX0_atBest_31 : decode cX0_atBest 31 = .ok (.iastore, 1) := by decide +kernel
theorem dX0_atBest_32 : decode cX0_atBest 32 = .ok (.iinc 4 1, 3) := by decide +kernel
theorem dX0_atBest_35 : decode cX0_atBest 35 = .ok (.goto (-19), 3) := by decide +kernel
theorem dX0_atBest_38 : decode cX0_atBest 38 = .ok (.iload_n 2, 1) := by decide +kernel
theorem dX0_atBest_39 : decode cX0_atBest 39 = .ok (.iconst 1, 1) := by decide +kernel
theorem dX0_atBest_40 : decode cX0_atBest 40 = .ok (.isub, 1) := by decide +kernel
theorem dX0_atBest_41 : decode cX0_atBest 41 = .ok (.istore 4, 2) := by decide +kernel
theorem dX0_atBest_43 : decode cX0_atBest 43 = .ok (.iload 4, 2) := by decide +kernel
theorem dX0_atBest_45 : decode cX0_atBest 45 = .ok (.ifCond .lt 87, 3) := by decide +kernel
theorem dX0_atBest_48 : decode cX0_atBest 48 = .ok (.aload_n 0, 1) := by decide +kernel
theorem dX0_atBest_49 : decode cX0_atBest 49 = .ok (.getfield 22, 3) := by decide +kernel
theorem dX0_atBest_52 : decode cX0_atBest 52 = .ok (.iload 4, 2) := by decide +kernel
theorem dX0_atBest_54 : decode cX0_atBest 54 = .ok (.aload_n 0, 1) := by decide +kernel
theorem dX0_atBest_55 : decode cX0_atBest 55 = .ok (.aload_n 1, 1) := by decide +kernel
theorem dX0_atBest_56 : decode cX0_atBest 56 = .ok (.iload 4, 2) := by decide +kernel
theorem dX0_atBest_58 : decode cX0_atBest 58 = .ok (.aaload, 1) := by decide +kernel
theorem dX0_atBest_59 : decode cX0_atBest 59 = .ok (.invokevirtual 77, 3) := by decide +kernel
theorem dX0_atBest_62 : decode cX0_atBest 62 = .ok (.iastore, 1) := by decide +kernel
theorem dX0_atBest_63 : decode cX0_atBest 63 = .ok (.iconst 0, 1) := by decide +kernel
theorem dX0_atBest_64 : decode cX0_atBest 64 = .ok (.istore 5, 2) := by decide +kernel
theorem dX0_atBest_66 : decode cX0_atBest 66 = .ok (.iload 5, 2) := by decide +kernel
theorem dX0_atBest_68 : decode cX0_atBest 68 = .ok (.iload_n 3, 1) := by decide +kernel
theorem dX0_atBest_69 : decode cX0_atBest 69 = .ok (.if_icmp .gt 57, 3) := by decide +kernel
theorem dX0_atBest_72 : decode cX0_atBest 72 = .ok (.aload_n 0, 1) := by decide +kernel
theorem dX0_atBest_73 : decode cX0_atBest 73 = .ok (.aload_n 1, 1) := by decide +kernel
theorem dX0_atBest_74 : decode cX0_atBest 74 = .ok (.iload 4, 2) := by decide +kernel
theorem dX0_atBest_76 : decode cX0_atBest 76 = .ok (.aaload, 1) := by decide +kernel
theorem dX0_atBest_77 : decode cX0_atBest 77 = .ok (.iload 4, 2) := by decide +kernel
theorem dX0_atBest_79 : decode cX0_atBest 79 = .ok (.iload 5, 2) := by decide +kernel
theorem dX0_atBest_81 : decode cX0_atBest 81 = .ok (.invokevirtual 88, 3) := by decide +kernel
theorem dX0_atBest_84 : decode cX0_atBest 84 = .ok (.istore 6, 2) := by decide +kernel
theorem dX0_atBest_86 : decode cX0_atBest 86 = .ok (.aload_n 0, 1) := by decide +kernel
theorem dX0_atBest_87 : decode cX0_atBest 87 = .ok (.getfield 31, 3) := by decide +kernel
theorem dX0_atBest_90 : decode cX0_atBest 90 = .ok (.iload 4, 2) := by decide +kernel
theorem dX0_atBest_92 : decode cX0_atBest 92 = .ok (.aaload, 1) := by decide +kernel
theorem dX0_atBest_93 : decode cX0_atBest 93 = .ok (.iload 5, 2) := by decide +kernel
theorem dX0_atBest_95 : decode cX0_atBest 95 = .ok (.iload 6, 2) := by decide +kernel
theorem dX0_atBest_97 : decode cX0_atBest 97 = .ok (.iconst (-1), 1) := by decide +kernel
theorem dX0_atBest_98 : decode cX0_atBest 98 = .ok (.if_icmp .ne 7, 3) := by decide +kernel
theorem dX0_atBest_101 : decode cX0_atBest 101 = .ok (.iconst (-1), 1) := by decide +kernel
theorem dX0_atBest_102 : decode cX0_atBest 102 = .ok (.goto 17, 3) := by decide +kernel
theorem dX0_atBest_105 : decode cX0_atBest 105 = .ok (.aload_n 0, 1) := by decide +kernel
theorem dX0_atBest_106 : decode cX0_atBest 106 = .ok (.aload_n 1, 1) := by decide +kernel
theorem dX0_atBest_107 : decode cX0_atBest 107 = .ok (.iload 4, 2) := by decide +kernel
theorem dX0_atBest_109 : decode cX0_atBest 109 = .ok (.aaload, 1) := by decide +kernel
theorem dX0_atBest_110 : decode cX0_atBest 110 = .ok (.iload 4, 2) := by decide +kernel
theorem dX0_atBest_112 : decode cX0_atBest 112 = .ok (.iload 6, 2) := by decide +kernel
theorem dX0_atBest_114 : decode cX0_atBest 114 = .ok (.iload 5, 2) := by decide +kernel
theorem dX0_atBest_116 : decode cX0_atBest 116 = .ok (.invokevirtual 92, 3) := by decide +kernel
theorem dX0_atBest_119 : decode cX0_atBest 119 = .ok (.iastore, 1) := by decide +kernel
theorem dX0_atBest_120 : decode cX0_atBest 120 = .ok (.iinc 5 1, 3) := by decide +kernel
theorem dX0_atBest_123 : decode cX0_atBest 123 = .ok (.goto (-57), 3) := by decide +kernel
theorem dX0_atBest_126 : decode cX0_atBest 126 = .ok (.iinc 4 (-1), 3) := by decide +kernel
theorem dX0_atBest_129 : decode cX0_atBest 129 = .ok (.goto (-86), 3) := by decide +kernel
theorem dX0_atBest_132 : decode cX0_atBest 132 = .ok (.aload_n 0, 1) := by decide +kernel
theorem dX0_atBest_133 : decode cX0_atBest 133 = .ok (.getfield 31, 3) := by decide +kernel
theorem dX0_atBest_136 : decode cX0_atBest 136 = .ok (.iconst 0, 1) := by decide +kernel
theorem dX0_atBest_137 : decode cX0_atBest 137 = .ok (.aaload, 1) := by decide +kernel
theorem dX0_atBest_138 : decode cX0_atBest 138 = .ok (.iload_n 3, 1) := by decide +kernel
theorem dX0_atBest_139 : decode cX0_atBest 139 = .ok (.iaload, 1) := by decide +kernel
theorem dX0_atBest_140 : decode cX0_atBest 140 = .ok (.iconst (-1), 1) := by decide +kernel
theorem dX0_atBest_141 : decode cX0_atBest 141 = .ok (.if_icmp .ne 5, 3) := by decide +kernel
theorem dX0_atBest_144 : decode cX0_atBest 144 = .ok (.iconst (-1), 1) := by decide +kernel
theorem dX0_atBest_145 : decode cX0_atBest 145 = .ok (.ireturn, 1) := by decide +kernel
theorem dX0_atBest_146 : decode cX0_atBest 146 = .ok (.aload_n 0, 1) := by decide +kernel
theorem dX0_atBest_147 : decode cX0_atBest 147 = .ok (.aload_n 1, 1) := by decide +kernel
theorem dX0_atBest_148 : decode cX0_atBest 148 = .ok (.iload_n 2, 1) := by decide +kernel
theorem dX0_atBest_149 : decode cX0_atBest 149 = .ok (.iload_n 3, 1) := by decide +kernel
theorem dX0_atBest_150 : decode cX0_atBest 150 = .ok (.invokevirtual 96, 3) := by decide +kernel
theorem dX0_atBest_153 : decode cX0_atBest 153 = .ok (.aload_n 0, 1) := by decide +kernel
theorem dX0_atBest_154 : decode cX0_atBest 154 = .ok (.iconst 1, 1) := by decide +kernel
theorem dX0_atBest_155 : decode cX0_atBest 155 = .ok (.putfield 25, 3) := by decide +kernel
theorem dX0_atBest_158 : decode cX0_atBest 158 = .ok (.aload_n 0, 1) := by decide +kernel
theorem dX0_atBest_159 : decode cX0_atBest 159 = .ok (.getfield 31, 3) := by decide +kernel
theorem dX0_atBest_162 : decode cX0_atBest 162 = .ok (.iconst 0, 1) := by decide +kernel
theorem dX0_atBest_163 : decode cX0_atBest 163 = .ok (.aaload, 1) := by decide +kernel
theorem dX0_atBest_164 : decode cX0_atBest 164 = .ok (.iload_n 3, 1) := by decide +kernel
theorem dX0_atBest_165 : decode cX0_atBest 165 = .ok (.iaload, 1) := by decide +kernel
theorem dX0_atBest_166 : decode cX0_atBest 166 = .ok (.ireturn, 1) := by decide +kernel
theorem dX0_takeFirstBest_0 : decode cX0_takeFirstBest 0 = .ok (.iload_n 3, 1) := by decide +kernel
theorem dX0_takeFirstBest_1 : decode cX0_takeFirstBest 1 = .ok (.istore 4, 2) := by decide +kernel
theorem dX0_takeFirstBest_3 : decode cX0_takeFirstBest 3 = .ok (.iconst 0, 1) := by decide +kernel
theorem dX0_takeFirstBest_4 : decode cX0_takeFirstBest 4 = .ok (.istore 5, 2) := by decide +kernel
theorem dX0_takeFirstBest_6 : decode cX0_takeFirstBest 6 = .ok (.iload 5, 2) := by decide +kernel
theorem dX0_takeFirstBest_8 : decode cX0_takeFirstBest 8 = .ok (.iload_n 2, 1) := by decide +kernel
theorem dX0_takeFirstBest_9 : decode cX0_takeFirstBest 9 = .ok (.if_icmp .ge 48, 3) := by decide +kernel
theorem dX0_takeFirstBest_12 : decode cX0_takeFirstBest 12 = .ok (.aload_n 0, 1) := by decide +kernel
theorem dX0_takeFirstBest_13 : decode cX0_takeFirstBest 13 = .ok (.aload_n 1, 1) := by decide +kernel
theorem dX0_takeFirstBest_14 : decode cX0_takeFirstBest 14 = .ok (.iload 5, 2) := by decide +kernel
theorem dX0_takeFirstBest_16 : decode cX0_takeFirstBest 16 = .ok (.aaload, 1) := by decide +kernel
theorem dX0_takeFirstBest_17 : decode cX0_takeFirstBest 17 = .ok (.iload 5, 2) := by decide +kernel
theorem dX0_takeFirstBest_19 : decode cX0_takeFirstBest 19 = .ok (.iload 4, 2) := by decide +kernel
theorem dX0_takeFirstBest_21 : decode cX0_takeFirstBest 21 = .ok (.invokevirtual 88, 3) := by decide +kernel
theorem dX0_takeFirstBest_24 : decode cX0_takeFirstBest 24 = .ok (.istore 6, 2) := by decide +kernel
theorem dX0_takeFirstBest_26 : decode cX0_takeFirstBest 26 = .ok (.aload_n 0, 1) := by decide +kernel
theorem dX0_takeFirstBest_27 : decode cX0_takeFirstBest 27 = .ok (.getfield 18, 3) := by decide +kernel
theorem dX0_takeFirstBest_30 : decode cX0_takeFirstBest 30 = .ok (.iload 5, 2) := by decide +kernel
theorem dX0_takeFirstBest_32 : decode cX0_takeFirstBest 32 = .ok (.iload 6, 2) := by decide +kernel
theorem dX0_takeFirstBest_34 : decode cX0_takeFirstBest 34 = .ok (.iconst 0, 1) := by decide +kernel
theorem dX0_takeFirstBest_35 : decode cX0_takeFirstBest 35 = .ok (.invokestatic 100, 3) := by decide +kernel
theorem dX0_takeFirstBest_38 : decode cX0_takeFirstBest 38 = .ok (.iastore, 1) := by decide +kernel
theorem dX0_takeFirstBest_39 : decode cX0_takeFirstBest 39 = .ok (.iload 4, 2) := by decide +kernel
theorem dX0_takeFirstBest_41 : decode cX0_takeFirstBest 41 = .ok (.aload_n 0, 1) := by decide +kernel
theorem dX0_takeFirstBest_42 : decode cX0_takeFirstBest 42 = .ok (.getfield 18, 3) := by decide +kernel
theorem dX0_takeFirstBest_45 : decode cX0_takeFirstBest 45 = .ok (.iload 5, 2) := by decide +kernel
theorem dX0_takeFirstBest_47 : decode cX0_takeFirstBest 47 = .ok (.iaload, 1) := by decide +kernel
theorem dX0_takeFirstBest_48 : decode cX0_takeFirstBest 48 = .ok (.isub, 1) := by decide +kernel
theorem dX0_takeFirstBest_49 : decode cX0_takeFirstBest 49 = .ok (.istore 4, 2) := by decide +kernel
theorem dX0_takeFirstBest_51 : decode cX0_takeFirstBest 51 = .ok (.iinc 5 1, 3) := by decide +kernel
theorem dX0_takeFirstBest_54 : decode cX0_takeFirstBest 54 = .ok (.goto (-48), 3) := by decide +kernel
theorem dX0_takeFirstBest_57 : decode cX0_takeFirstBest 57 = .ok (.return_, 1) := by decide +kernel
theorem dX0_firstBestShare_0 : decode cX0_firstBestShare 0 = .ok (.iconst (-1), 1) := by decide +kernel
theorem dX0_firstBestShare_1 : decode cX0_firstBestShare 1 = .ok (.istore 4, 2) := by decide +kernel
theorem dX0_firstBestShare_3 : decode cX0_firstBestShare 3 = .ok (.iconst 0, 1) := by decide +kernel
theorem dX0_firstBestShare_4 : decode cX0_firstBestShare 4 = .ok (.istore 5, 2) := by decide +kernel
theorem dX0_firstBestShare_6 : decode cX0_firstBestShare 6 = .ok (.aload_n 0, 1) := by decide +kernel
theorem dX0_firstBestShare_7 : decode cX0_firstBestShare 7 = .ok (.getfield 22, 3) := by decide +kernel
theorem dX0_firstBestShare_10 : decode cX0_firstBestShare 10 = .ok (.iload_n 2, 1) := by decide +kernel
theorem dX0_firstBestShare_11 : decode cX0_firstBestShare 11 = .ok (.iaload, 1) := by decide +kernel
theorem dX0_firstBestShare_12 : decode cX0_firstBestShare 12 = .ok (.iconst (-1), 1) := by decide +kernel
theorem dX0_firstBestShare_13 : decode cX0_firstBestShare 13 = .ok (.if_icmp .ne 5, 3) := by decide +kernel
theorem dX0_firstBestShare_16 : decode cX0_firstBestShare 16 = .ok (.iconst (-1), 1) := by decide +kernel
theorem dX0_firstBestShare_17 : decode cX0_firstBestShare 17 = .ok (.ireturn, 1) := by decide +kernel
theorem dX0_firstBestShare_18 : decode cX0_firstBestShare 18 = .ok (.aload_n 0, 1) := by decide +kernel
theorem dX0_firstBestShare_19 : decode cX0_firstBestShare 19 = .ok (.getfield 22, 3) := by decide +kernel
theorem dX0_firstBestShare_22 : decode cX0_firstBestShare 22 = .ok (.iload_n 2, 1) := by decide +kernel
theorem dX0_firstBestShare_23 : decode cX0_firstBestShare 23 = .ok (.iaload, 1) := by decide +kernel
theorem dX0_firstBestShare_24 : decode cX0_firstBestShare 24 = .ok (.istore 6, 2) := by decide +kernel
theorem dX0_firstBestShare_26 : decode cX0_firstBestShare 26 = .ok (.iload 6, 2) := by decide +kernel
theorem dX0_firstBestShare_28 : decode cX0_firstBestShare 28 = .ok (.iload_n 3, 1) := by decide +kernel
theorem dX0_firstBestShare_29 : decode cX0_firstBestShare 29 = .ok (.if_icmp .gt 47, 3) := by decide +kernel
theorem dX0_firstBestShare_32 : decode cX0_firstBestShare 32 = .ok (.aload_n 0, 1) := by decide +kernel
theorem dX0_firstBestShare_33 : decode cX0_firstBestShare 33 = .ok (.aload_n 1, 1) := by decide +kernel
theorem dX0_firstBestShare_34 : decode cX0_firstBestShare 34 = .ok (.iload_n 2, 1) := by decide +kernel
theorem dX0_firstBestShare_35 : decode cX0_firstBestShare 35 = .ok (.iload 6, 2) := by decide +kernel
theorem dX0_firstBestShare_37 : decode cX0_firstBestShare 37 = .ok (.iload_n 3, 1) := by decide +kernel
theorem dX0_firstBestShare_38 : decode cX0_firstBestShare 38 = .ok (.invokevirtual 92, 3) := by decide +kernel
theorem dX0_firstBestShare_41 : decode cX0_firstBestShare 41 = .ok (.istore 7, 2) := by decide +kernel
theorem dX0_firstBestShare_43 : decode cX0_firstBestShare 43 = .ok (.iload 7, 2) := by decide +kernel
theorem dX0_firstBestShare_45 : decode cX0_firstBestShare 45 = .ok (.iconst (-1), 1) := by decide +kernel
theorem dX0_firstBestShare_46 : decode cX0_firstBestShare 46 = .ok (.if_icmp .eq 24, 3) := by decide +kernel
theorem dX0_firstBestShare_49 : decode cX0_firstBestShare 49 = .ok (.iload 4, 2) := by decide +kernel
theorem dX0_firstBestShare_51 : decode cX0_firstBestShare 51 = .ok (.iconst (-1), 1) := by decide +kernel
theorem dX0_firstBestShare_52 : decode cX0_firstBestShare 52 = .ok (.if_icmp .eq 10, 3) := by decide +kernel
theorem dX0_firstBestShare_55 : decode cX0_firstBestShare 55 = .ok (.iload 7, 2) := by decide +kernel
theorem dX0_firstBestShare_57 : decode cX0_firstBestShare 57 = .ok (.iload 5, 2) := by decide +kernel
theorem dX0_firstBestShare_59 : decode cX0_firstBestShare 59 = .ok (.if_icmp .ge 11, 3) := by decide +kernel
theorem dX0_firstBestShare_62 : decode cX0_firstBestShare 62 = .ok (.iload 6, 2) := by decide +kernel
theorem dX0_firstBestShare_64 : decode cX0_firstBestShare 64 = .ok (.istore 4, 2) := by decide +kernel
theorem dX0_firstBestShare_66 : decode cX0_firstBestShare 66 = .ok (.iload 7, 2) := by decide +kernel
theorem dX0_firstBestShare_68 : decode cX0_firstBestShare 68 = .ok (.istore 5, 2) := by decide +kernel
theorem dX0_firstBestShare_70 : decode cX0_firstBestShare 70 = .ok (.iinc 6 1, 3) := by decide +kernel
theorem dX0_firstBestShare_73 : decode cX0_firstBestShare 73 = .ok (.goto (-47), 3) := by decide +kernel
theorem dX0_firstBestShare_76 : decode cX0_firstBestShare 76 = .ok (.iload 4, 2) := by decide +kernel
theorem dX0_firstBestShare_78 : decode cX0_firstBestShare 78 = .ok (.ireturn, 1) := by decide +kernel
theorem dX0_sumWith_0 : decode cX0_sumWith 0 = .ok (.aload_n 0, 1) := by decide +kernel
theorem dX0_sumWith_1 : decode cX0_sumWith 1 = .ok (.getfield 31, 3) := by decide +kernel
theorem dX0_sumWith_4 : decode cX0_sumWith 4 = .ok (.iload_n 2, 1) := by decide +kernel
theorem dX0_sumWith_5 : decode cX0_sumWith 5 = .ok (.iconst 1, 1) := by decide +kernel
theorem dX0_sumWith_6 : decode cX0_sumWith 6 = .ok (.iadd, 1) := by decide +kernel
theorem dX0_sumWith_7 : decode cX0_sumWith 7 = .ok (.aaload, 1) := by decide +kernel
theorem dX0_sumWith_8 : decode cX0_sumWith 8 = .ok (.iload 4, 2) := by decide +kernel
theorem dX0_sumWith_10 : decode cX0_sumWith 10 = .ok (.iload_n 3, 1) := by decide +kernel
theorem dX0_sumWith_11 : decode cX0_sumWith 11 = .ok (.isub, 1) := by decide +kernel
theorem dX0_sumWith_12 : decode cX0_sumWith 12 = .ok (.iaload, 1) := by decide +kernel
theorem dX0_sumWith_13 : decode cX0_sumWith 13 = .ok (.istore 5, 2) := by decide +kernel
theorem dX0_sumWith_15 : decode cX0_sumWith 15 = .ok (.iload 5, 2) := by decide +kernel
theorem dX0_sumWith_17 : decode cX0_sumWith 17 = .ok (.iconst (-1), 1) := by decide +kernel
theorem dX0_sumWith_18 : decode cX0_sumWith 18 = .ok (.if_icmp .eq 13, 3) := by decide +kernel
theorem dX0_sumWith_21 : decode cX0_sumWith 21 = .ok (.aload_n 1, 1) := by decide +kernel
theorem dX0_sumWith_22 : decode cX0_sumWith 22 = .ok (.getfield 65, 3) := by decide +kernel
theorem dX0_sumWith_25 : decode cX0_sumWith 25 = .ok (.iload_n 3, 1) := by decide +kernel
theorem dX0_sumWith_26 : decode cX0_sumWith 26 = .ok (.iaload, 1) := by decide +kernel
theorem dX0_sumWith_27 : decode cX0_sumWith 27 = .ok (.iconst (-1), 1) := by decide +kernel
theorem dX0_sumWith_28 : decode cX0_sumWith 28 = .ok (.if_icmp .ne 7, 3) := by decide +kernel
theorem dX0_sumWith_31 : decode cX0_sumWith 31 = .ok (.iconst (-1), 1) := by decide +kernel
theorem dX0_sumWith_32 : decode cX0_sumWith 32 = .ok (.goto 12, 3) := by decide +kernel
theorem dX0_sumWith_35 : decode cX0_sumWith 35 = .ok (.aload_n 1, 1) := by decide +kernel
theorem dX0_sumWith_36 : decode cX0_sumWith 36 = .ok (.getfield 65, 3) := by decide +kernel
theorem dX0_sumWith_39 : decode cX0_sumWith 39 = .ok (.iload_n 3, 1) := by decide +kernel
theorem dX0_sumWith_40 : decode cX0_sumWith 40 = .ok (.iaload, 1) := by decide +kernel
theorem dX0_sumWith_41 : decode cX0_sumWith 41 = .ok (.iload 5, 2) := by decide +kernel
theorem dX0_sumWith_43 : decode cX0_sumWith 43 = .ok (.iadd, 1) := by decide +kernel
theorem dX0_sumWith_44 : decode cX0_sumWith 44 = .ok (.ireturn, 1) := by decide +kernel
