theorem dX7_init_0 : decode cX7_init 0 = .ok (.aload_n 0, 1) := by decide +kernel
theorem dX7_init_1 : decode cX7_init 1 = .ok (.invokespecial 3, 3) := by decide +kernel
theorem dX7_init_4 : decode cX7_init 4 = .ok (.aload_n 0, 1) := by decide +kernel
theorem dX7_init_5 : decode cX7_init 5 = .ok (.new 9, 3) := by decide +kernel
theorem dX7_init_8 : decode cX7_init 8 = .ok (.dup, 1) := by decide +kernel
theorem dX7_init_9 : decode cX7_init 9 = .ok (.invokespecial 11, 3) := by decide +kernel
theorem dX7_init_12 : decode cX7_init 12 = .ok (.putfield 12, 3) := by decide +kernel
theorem dX7_init_15 : decode cX7_init 15 = .ok (.aload_n 0, 1) := by decide +kernel
theorem dX7_init_16 : decode cX7_init 16 = .ok (.bipush 6, 2) := by decide +kernel
theorem dX7_init_18 : decode cX7_init 18 = .ok (.anewarray 18, 3) := by decide +kernel
theorem dX7_init_21 : decode cX7_init 21 = .ok (.putfield 20, 3) := by decide +kernel
theorem dX7_init_24 : decode cX7_init 24 = .ok (.aload_n 0, 1) := by decide +kernel
theorem dX7_init_25 : decode cX7_init 25 = .ok (.iconst 0, 1) := by decide +kernel
theorem dX7_init_26 : decode cX7_init 26 = .ok (.putfield 24, 3) := by decide +kernel
theorem dX7_init_29 : decode cX7_init 29 = .ok (.aload_n 0, 1) := by decide +kernel
theorem dX7_init_30 : decode cX7_init 30 = .ok (.iconst 0, 1) := by decide +kernel
theorem dX7_init_31 : decode cX7_init 31 = .ok (.putfield 28, 3) := by decide +kernel
theorem dX7_init_34 : decode cX7_init 34 = .ok (.aload_n 0, 1) := by decide +kernel
theorem dX7_init_35 : decode cX7_init 35 = .ok (.iconst 0, 1) := by decide +kernel
theorem dX7_init_36 : decode cX7_init 36 = .ok (.putfield 32, 3) := by decide +kernel
theorem dX7_init_39 : decode cX7_init 39 = .ok (.aload_n 0, 1) := by decide +kernel
theorem dX7_init_40 : decode cX7_init 40 = .ok (.iconst 0, 1) := by decide +kernel
theorem dX7_init_41 : decode cX7_init 41 = .ok (.putfield 35, 3) := by decide +kernel
theorem dX7_init_44 : decode cX7_init 44 = .ok (.aload_n 0, 1) := by decide +kernel
theorem dX7_init_45 : decode cX7_init 45 = .ok (.aload_n 1, 1) := by decide +kernel
theorem dX7_init_46 : decode cX7_init 46 = .ok (.putfield 38, 3) := by decide +kernel
theorem dX7_init_49 : decode cX7_init 49 = .ok (.iconst 0, 1) := by decide +kernel
theorem dX7_init_50 : decode cX7_init 50 = .ok (.istore_n 3, 1) := by decide +kernel
theorem dX7_init_51 : decode cX7_init 51 = .ok (.iload_n 3, 1) := by decide +kernel
theorem dX7_init_52 : decode cX7_init 52 = .ok (.bipush 6, 2) := by decide +kernel
theorem dX7_init_54 : decode cX7_init 54 = .ok (.if_icmp .ge 26, 3) := by decide +kernel
theorem dX7_init_57 : decode cX7_init 57 = .ok (.aload_n 0, 1) := by decide +kernel
theorem dX7_init_58 : decode cX7_init 58 = .ok (.getfield 20, 3) := by decide +kernel
theorem dX7_init_61 : decode cX7_init 61 = .ok (.iload_n 3, 1) := by decide +kernel
theorem dX7_init_62 : decode cX7_init 62 = .ok (.new 18, 3) := by decide +kernel
theorem dX7_init_65 : decode cX7_init 65 = .ok (.dup, 1) := by decide +kernel
theorem dX7_init_66 : decode cX7_init 66 = .ok (.iload_n 3, 1) := by decide +kernel
theorem dX7_init_67 : decode cX7_init 67 = .ok (.aload_n 2, 1) := by decide +kernel
theorem dX7_init_68 : decode cX7_init 68 = .ok (.iload_n 3, 1) := by decide +kernel
theorem dX7_init_69 : decode cX7_init 69 = .ok (.aaload, 1) := by decide +kernel
theorem dX7_init_70 : decode cX7_init 70 = .ok (.invokespecial 42, 3) := by decide +kernel
theorem dX7_init_73 : decode cX7_init 73 = .ok (.aastore, 1) := by decide +kernel
theorem dX7_init_74 : decode cX7_init 74 = .ok (.iinc 3 1, 3) := by decide +kernel
theorem dX7_init_77 : decode cX7_init 77 = .ok (.goto (-26), 3) := by decide +kernel
theorem dX7_init_80 : decode cX7_init 80 = .ok (.return_, 1) := by decide +kernel
theorem dX7_start_0 : decode cX7_start 0 = .ok (.aload_n 0, 1) := by decide +kernel
theorem dX7_start_1 : decode cX7_start 1 = .ok (.getfield 12, 3) := by decide +kernel
theorem dX7_start_4 : decode cX7_start 4 = .ok (.invokevirtual 45, 3) := by decide +kernel
theorem dX7_start_7 : decode cX7_start 7 = .ok (.aload_n 0, 1) := by decide +kernel
theorem dX7_start_8 : decode cX7_start 8 = .ok (.iconst 1, 1) := by decide +kernel
theorem dX7_start_9 : decode cX7_start 9 = .ok (.putfield 28, 3) := by decide +kernel
theorem dX7_start_12 : decode cX7_start 12 = .ok (.aload_n 0, 1) := by decide +kernel
theorem dX7_start_13 : decode cX7_start 13 = .ok (.iconst 0, 1) := by decide +kernel
theorem dX7_start_14 : decode cX7_start 14 = .ok (.putfield 32, 3) := by decide +kernel
theorem dX7_start_17 : decode cX7_start 17 = .ok (.aload_n 0, 1) := by decide +kernel
theorem dX7_start_18 : decode cX7_start 18 = .ok (.iload_n 1, 1) := by decide +kernel
theorem dX7_start_19 : decode cX7_start 19 = .ok (.putfield 24, 3) := by decide +kernel
theorem dX7_start_22 : decode cX7_start 22 = .ok (.aload_n 0, 1) := by decide +kernel
theorem dX7_start_23 : decode cX7_start 23 = .ok (.aload_n 0, 1) := by decide +kernel
theorem dX7_start_24 : decode cX7_start 24 = .ok (.getfield 38, 3) := by decide +kernel
theorem dX7_start_27 : decode cX7_start 27 = .ok (.getfield 48, 3) := by decide +kernel
theorem dX7_start_30 : decode cX7_start 30 = .ok (.putfield 35, 3) := by decide +kernel
theorem dX7_start_33 : decode cX7_start 33 = .ok (.iconst 0, 1) := by decide +kernel
theorem dX7_start_34 : decode cX7_start 34 = .ok (.istore_n 3, 1) := by decide +kernel
theorem dX7_start_35 : decode cX7_start 35 = .ok (.iload_n 3, 1) := by decide +kernel
theorem dX7_start_36 : decode cX7_start 36 = .ok (.aload_n 0, 1) := by decide +kernel
theorem dX7_start_37 : decode cX7_start 37 = .ok (.getfield 24, 3) := by decide +kernel
theorem dX7_start_40 : decode cX7_start 40 = .ok (.if_icmp .ge 44, 3) := by decide +kernel
theorem dX7_start_43 : decode cX7_start 43 = .ok (.aload_n 2, 1) := by decide +kernel
theorem dX7_start_44 : decode cX7_start 44 = .ok (.iload_n 3, 1) := by decide +kernel
theorem dX7_start_45 : decode cX7_start 45 = .ok (.iaload, 1) := by decide +kernel
theorem dX7_start_46 : decode cX7_start 46 = .ok (.aload_n 0, 1) := by decide +kernel
theorem dX7_start_47 : decode cX7_start 47 = .ok (.getfield 38, 3) := by decide +kernel
theorem dX7_start_50 : decode cX7_start 50 = .ok (.getfield 53, 3) := by decide +kernel
theorem dX7_start_53 : decode cX7_start 53 = .ok (.imul, 1) := by decide +kernel
theorem dX7_start_54 : decode cX7_start 54 = .ok (.istore 4, 2) := by decide +kernel
theorem dX7_start_56 : decode cX7_start 56 = .ok (.aload_n 0, 1) := by decide +kernel
theorem dX7_start_57 : decode cX7_start 57 = .ok (.getfield 20, 3) := by decide +kernel
theorem dX7_start_60 : decode cX7_start 60 = .ok (.iload_n 3, 1) := by decide +kernel
theorem dX7_start_61 : decode cX7_start 61 = .ok (.aaload, 1) := by decide +kernel
theorem dX7_start_62 : decode cX7_start 62 = .ok (.iload 4, 2) := by decide +kernel
theorem dX7_start_64 : decode cX7_start 64 = .ok (.invokevirtual 56, 3) := by decide +kernel
theorem dX7_start_67 : decode cX7_start 67 = .ok (.aload_n 0, 1) := by decide +kernel
theorem dX7_start_68 : decode cX7_start 68 = .ok (.dup, 1) := by decide +kernel
theorem dX7_start_69 : decode cX7_start 69 = .ok (.getfield 35, 3) := by decide +kernel
theorem dX7_start_72 : decode cX7_start 72 = .ok (.iload 4, 2) := by decide +kernel
theorem dX7_start_74 : decode cX7_start 74 = .ok (.isub, 1) := by decide +kernel
theorem dX7_start_75 : decode cX7_start 75 = .ok (.putfield 35, 3) := by decide +kernel
theorem dX7_start_78 : decode cX7_start 78 = .ok (.iinc 3 1, 3) := by decide +kernel
theorem dX7_start_81 : decode cX7_start 81 = .ok (.goto (-46), 3) := by decide +kernel
theorem dX7_start_84 : decode cX7_start 84 = .ok (.return_, 1) := by decide +kernel
theorem dX7_someGoOn_0 : decode cX7_someGoOn 0 = .ok (.iconst 0, 1) := by decide +kernel
theorem dX7_someGoOn_1 : decode cX7_someGoOn 1 = .ok (.istore_n 1, 1) := by decide +kernel
theorem dX7_someGoOn_2 : decode cX7_someGoOn 2 = .ok (.iload_n 1, 1) := by decide +kernel
theorem dX7_someGoOn_3 : decode cX7_someGoOn 3 = .ok (.aload_n 0, 1) := by decide +kernel
theorem dX7_someGoOn_4 : decode cX7_someGoOn 4 = .ok (.getfield 24, 3) := by decide +kernel
theorem dX7_someGoOn_7 : decode cX7_someGoOn 7 = .ok (.if_icmp .ge 23, 3) := by decide +kernel
theorem dX7_someGoOn_10 : decode cX7_someGoOn 10 = .ok (.aload_n 0, 1) := by decide +kernel
theorem dX7_someGoOn_11 : decode cX7_someGoOn 11 = .ok (.getfield 20, 3) := by decide +kernel
theorem dX7_someGoOn_14 : decode cX7_someGoOn 14 = .ok (.iload_n 1, 1) := by decide +kernel
theorem dX7_someGoOn_15 : decode cX7_someGoOn 15 = .ok (.aaload, 1) := by decide +kernel
theorem dX7_someGoOn_16 : decode cX7_someGoOn 16 = .ok (.invokevirtual 60, 3) := by decide +kernel
theorem dX7_someGoOn_19 : decode cX7_someGoOn 19 = .ok (.ifCond .eq 5, 3) := by decide +kernel
theorem dX7_someGoOn_22 : decode cX7_someGoOn 22 = .ok (.iconst 1, 1) := by decide +kernel
theorem dX7_someGoOn_23 : decode cX7_someGoOn 23 = .ok (.ireturn, 1) := by decide +kernel
theorem dX7_someGoOn_24 : decode cX7_someGoOn 24 = .ok (.iinc 1 1, 3) := by decide +kernel
theorem dX7_someGoOn_27 : decode cX7_someGoOn 27 = .ok (.goto (-25), 3) := by decide +kernel
theorem dX7_someGoOn_30 : decode cX7_someGoOn 30 = .ok (.iconst 0, 1) := by decide +kernel
theorem dX7_someGoOn_31 : decode cX7_someGoOn 31 = .ok (.ireturn, 1) := by decide +kernel
theorem dX7_tick_0 : decode cX7_tick 0 = .ok (.aload_n 0, 1) := by decide +kernel
theorem dX7_tick_1 : decode cX7_tick 1 = .ok (.dup, 1) := by decide +kernel
theorem dX7_tick_2 : decode cX7_tick 2 = .ok (.getfield 32, 3) := by decide +kernel
theorem dX7_tick_5 : decode cX7_tick 5 = .ok (.iconst 1, 1) := by decide +kernel
theorem dX7_tick_6 : decode cX7_tick 6 = .ok (.iadd, 1) := by decide +kernel
theorem dX7_tick_7 : decode cX7_tick 7 = .ok (.putfield 32, 3) := by decide +kernel
theorem dX7_tick_10 : decode cX7_tick 10 = .ok (.iconst 0, 1) := by decide +kernel
theorem dX7_tick_11 : decode cX7_tick 11 = .ok (.istore_n 1, 1) := by decide +kernel
theorem dX7_tick_12 : decode cX7_tick 12 = .ok (.iload_n 1, 1) := by decide +kernel
theorem dX7_tick_13 : decode cX7_tick 13 = .ok (.aload_n 0, 1) := by decide +kernel
theorem dX7_tick_14 : decode cX7_tick 14 = .ok (.getfield 24, 3) := by decide +kernel
theorem dX7_tick_17 : decode cX7_tick 17 = .ok (.if_icmp .ge 58, 3) := by decide +kernel
theorem dX7_tick_20 : decode cX7_tick 20 = .ok (.aload_n 0, 1) := by decide +kernel
theorem dX7_tick_21 : decode cX7_tick 21 = .ok (.getfield 20, 3) := by decide +kernel
theorem dX7_tick_24 : decode cX7_tick 24 = .ok (.iload_n 1, 1) := by decide +kernel
theorem dX7_tick_25 : decode cX7_tick 25 = .ok (.aaload, 1) := by decide +kernel
theorem dX7_tick_26 : decode cX7_tick 26 = .ok (.astore_n 2, 1) := by decide +kernel
theorem dX7_tick_27 : decode cX7_tick 27 = .ok (.aload_n 2, 1) := by decide +kernel
theorem dX7_tick_28 : decode cX7_tick 28 = .ok (.invokevirtual 64, 3) := by decide +kernel
theorem dX7_tick_31 : decode cX7_tick 31 = .ok (.ifCond .eq 11, 3) := by decide +kernel
theorem dX7_tick_34 : decode cX7_tick 34 = .ok (.aload_n 0, 1) := by decide +kernel
theorem dX7_tick_35 : decode cX7_tick 35 = .ok (.aload_n 2, 1) := by decide +kernel
theorem dX7_tick_36 : decode cX7_tick 36 = .ok (.invokevirtual 67, 3) := by decide +kernel
theorem dX7_tick_39 : decode cX7_tick 39 = .ok (.goto 30, 3) := by decide +kernel
theorem dX7_tick_42 : decode cX7_tick 42 = .ok (.aload_n 2, 1) := by decide +kernel
theorem dX7_tick_43 : decode cX7_tick 43 = .ok (.getfield 71, 3) := by decide +kernel
theorem dX7_tick_46 : decode cX7_tick 46 = .ok (.ifCond .ne 11, 3) := by decide +kernel
theorem dX7_tick_49 : decode cX7_tick 49 = .ok (.aload_n 0, 1) := by decide +kernel
theorem dX7_tick_50 : decode cX7_tick 50 = .ok (.aload_n 2, 1) := by decide +kernel
theorem dX7_tick_51 : decode cX7_tick 51 = .ok (.invokevirtual 74, 3) := by decide +kernel
theorem dX7_tick_54 : decode cX7_tick 54 = .ok (.goto 15, 3) := by decide +kernel
theorem dX7_tick_57 : decode cX7_tick 57 = .ok (.aload_n 2, 1) := by decide +kernel
theorem dX7_tick_58 : decode cX7_tick 58 = .ok (.invokevirtual 60, 3) := by decide +kernel
theorem dX7_tick_61 : decode cX7_tick 61 = .ok (.ifCond .eq 8, 3) := by decide +kernel
theorem dX7_tick_64 : decode cX7_tick 64 = .ok (.aload_n 0, 1) := by decide +kernel
theorem dX7_tick_65 : decode cX7_tick 65 = .ok (.aload_n 2, 1) := by decide +kernel
theorem dX7_tick_66 : decode cX7_tick 66 = .ok (.invokevirtual 77, 3) := by decide +kernel
theorem dX7_tick_69 : decode cX7_tick 69 = .ok (.iinc 1 1, 3) := by decide +kernel
theorem dX7_tick_72 : decode cX7_tick 72 = .ok (.goto (-60), 3) := by decide +kernel
theorem dX7_tick_75 : decode cX7_tick 75 = .ok (.aload_n 0, 1) := by decide +kernel
theorem dX7_tick_76 : decode cX7_tick 76 = .ok (.getfield 32, 3) := by decide +kernel
theorem dX7_tick_79 : decode cX7_tick 79 = .ok (.aload_n 0, 1) := by decide +kernel
theorem dX7_tick_80 : decode cX7_tick 80 = .ok (.getfield 38, 3) := by decide +kernel
theorem dX7_tick_83 : decode cX7_tick 83 = .ok (.getfield 80, 3) := by decide +kernel
theorem dX7_tick_86 : decode cX7_tick 86 = .ok (.irem, 1) := by decide +kernel
theorem dX7_tick_87 : decode cX7_tick 87 = .ok (.ifCond .ne 7, 3) := by decide +kernel
theorem dX7_tick_90 : decode cX7_tick 90 = .ok (.aload_n 0, 1) := by decide +kernel
theorem dX7_tick_91 : decode cX7_tick 91 = .ok (.invokevirtual 83, 3) := by decide +kernel
theorem dX7_tick_94 : decode cX7_tick 94 = .ok (.return_, 1) := by decide +kernel
theorem dX7_passTick_0 : decode cX7_passTick 0 = .ok (.aload_n 1, 1) := by decide +kernel
theorem dX7_passTick_1 : decode cX7_passTick 1 = .ok (.getfield 71, 3) := by decide +kernel
theorem dX7_passTick_4 : decode cX7_passTick 4 = .ok (.iconst 2, 1) := by decide +kernel
theorem dX7_passTick_5 : decode cX7_passTick 5 = .ok (.if_icmp .ne 7, 3) := by decide +kernel
theorem dX7_passTick_8 : decode cX7_passTick 8 = .ok (.iconst 1, 1) := by decide +kernel
theorem dX7_passTick_9 : decode cX7_passTick 9 = .ok (.goto 4, 3) := by decide +kernel
theorem dX7_passTick_12 : decode cX7_passTick 12 = .ok (.iconst 0, 1) := by decide +kernel
theorem dX7_passTick_13 : decode cX7_passTick 13 = .ok (.istore_n 2, 1) := by decide +kernel
theorem dX7_passTick_14 : decode cX7_passTick 14 = .ok (.aload_n 1, 1) := by decide +kernel
theorem dX7_passTick_15 : decode cX7_passTick 15 = .ok (.aload_n 1, 1) := by decide +kernel
theorem dX7_passTick_16 : decode cX7_passTick 16 = .ok (.getfield 86, 3) := by decide +kernel
theorem dX7_passTick_19 : decode cX7_passTick 19 = .ok (.iconst 1, 1) := by decide +kernel
theorem dX7_passTick_20 : decode cX7_passTick 20 = .ok (.isub, 1) := by decide +kernel
theorem dX7_passTick_21 : decode cX7_passTick 21 = .ok (.aload_n 1, 1) := by decide +kernel
theorem dX7_passTick_22 : decode cX7_passTick 22 = .ok (.getfield 71, 3) := by decide +kernel
theorem dX7_passTick_25 : decode cX7_passTick 25 = .ok (.invokevirtual 89, 3) := by decide +kernel
theorem dX7_passTick_28 : decode cX7_passTick 28 = .ok (.iload_n 2, 1) := by decide +kernel
theorem dX7_passTick_29 : decode cX7_passTick 29 = .ok (.ifCond .eq 20, 3) := by decide +kernel
theorem dX7_passTick_32 : decode cX7_passTick 32 = .ok (.aload_n 1, 1) := by decide +kernel
theorem dX7_passTick_33 : decode cX7_passTick 33 = .ok (.getfield 71, 3) := by decide +kernel
theorem dX7_passTick_36 : decode cX7_passTick 36 = .ok (.ifCond .ne 13, 3) := by decide +kernel
theorem dX7_passTick_39 : decode cX7_passTick 39 = .ok (.aload_n 0, 1) := by decide +kernel
theorem dX7_passTick_40 : decode cX7_passTick 40 = .ok (.aload_n 1, 1) := by decide +kernel
theorem dX7_passTick_41 : decode cX7_passTick 41 = .ok (.invokevirtual 93, 3) := by decide +kernel
theorem dX7_passTick_44 : decode cX7_passTick 44 = .ok (.aload_n 0, 1) := by decide +kernel
theorem dX7_passTick_45 : decode cX7_passTick 45 = .ok (.aload_n 1, 1) := by decide +kernel
theorem dX7_passTick_46 : decode cX7_passTick 46 = .ok (.invokevirtual 96, 3) := by decide +kernel
theorem dX7_passTick_49 : decode cX7_passTick 49 = .ok (.return_, 1) := by decide +kernel
theorem dX7_doOtherAct_0 : decode cX7_doOtherAct 0 = .ok (.aload_n 1, 1) := by decide +kernel
theorem dX7_doOtherAct_1 : decode cX7_doOtherAct 1 = .ok (.invokevirtual 99, 3) := by decide +kernel
theorem dX7_doOtherAct_4 : decode cX7_doOtherAct 4 = .ok (.istore_n 2, 1) := by decide +kernel
theorem dX7_doOtherAct_5 : decode cX7_doOtherAct 5 = .ok (.iload_n 2, 1) := by decide +kernel
theorem dX7_doOtherAct_6 : decode cX7_doOtherAct 6 = .ok (.ifCond .ge 15, 3) := by decide +kernel
theorem dX7_doOtherAct_9 : decode cX7_doOtherAct 9 = .ok (.aload_n 1, 1) := by decide +kernel
theorem dX7_doOtherAct_10 : decode cX7_doOtherAct 10 = .ok (.getfield 103, 3) := by decide +kernel
theorem dX7_doOtherAct_13 : decode cX7_doOtherAct 13 = .ok (.iload_n 2, 1) := by decide +kernel
theorem dX7_doOtherAct_14 : decode cX7_doOtherAct 14 = .ok (.ineg, 1) := by decide +kernel
theorem dX7_doOtherAct_15 : decode cX7_doOtherAct 15 = .ok (.invokevirtual 107, 3) := by decide +kernel
theorem dX7_doOtherAct_18 : decode cX7_doOtherAct 18 = .ok (.goto 22, 3) := by decide +kernel
theorem dX7_doOtherAct_21 : decode cX7_doOtherAct 21 = .ok (.iload_n 2, 1) := by decide +kernel
theorem dX7_doOtherAct_22 : decode cX7_doOtherAct 22 = .ok (.sipush 1000, 3) := by decide +kernel
theorem dX7_doOtherAct_25 : decode cX7_doOtherAct 25 = .ok (.if_icmp .le 15, 3) := by decide +kernel
theorem dX7_doOtherAct_28 : decode cX7_doOtherAct 28 = .ok (.aload_n 1, 1) := by decide +kernel
theorem dX7_doOtherAct_29 : decode cX7_doOtherAct 29 = .ok (.iload_n 2, 1) := by decide +kernel
theorem dX7_doOtherAct_30 : decode cX7_doOtherAct 30 = .ok (.sipush 1000, 3) := by decide +kernel
theorem dX7_doOtherAct_33 : decode cX7_doOtherAct 33 = .ok (.isub, 1) := by decide +kernel
theorem dX7_doOtherAct_34 : decode cX7_doOtherAct 34 = .ok (.iconst 1, 1) := by decide +kernel
theorem dX7_doOtherAct_35 : decode cX7_doOtherAct 35 = .ok (.isub, 1) := by decide +kernel
theorem dX7_doOtherAct_36 : decode cX7_doOtherAct 36 = .ok (.iconst 2, 1) := by decide +kernel
theorem dX7_doOtherAct_37 : decode cX7_doOtherAct 37 = .ok (.invokevirtual 89, 3) := by decide +kernel
theorem dX7_doOtherAct_40 : decode cX7_doOtherAct 40 = .ok (.aload_n 1, 1) := by decide +kernel
theorem dX7_doOtherAct_41 : decode cX7_doOtherAct 41 = .ok (.getfield 71, 3) := by decide +kernel
theorem dX7_doOtherAct_44 : decode cX7_doOtherAct 44 = .ok (.ifCond .ne 8, 3) := by decide +kernel
theorem dX7_doOtherAct_47 : decode cX7_doOtherAct 47 = .ok (.aload_n 0, 1) := by decide +kernel
theorem dX7_doOtherAct_48 : decode cX7_doOtherAct 48 = .ok (.aload_n 1, 1) := by decide +kernel
theorem dX7_doOtherAct_49 : decode cX7_doOtherAct 49 = .ok (.invokevirtual 96, 3) := by decide +kernel
theorem dX7_doOtherAct_52 : decode cX7_doOtherAct 52 = .ok (.return_, 1) := by decide +kernel
theorem dX7_tryMake_0 : decode cX7_tryMake 0 = .ok (.aload_n 1, 1) := by decide +kernel
theorem dX7_tryMake_1 : decode cX7_tryMake 1 = .ok (.invokevirtual 99, 3) := by decide +kernel
theorem dX7_tryMake_4 : decode cX7_tryMake 4 = .ok (.istore_n 2, 1) := by decide +kernel
theorem dX7_tryMake_5 : decode cX7_tryMake 5 = .ok (.aload_n 1, 1) := by decide +kernel
theorem dX7_tryMake_6 : decode cX7_tryMake 6 = .ok (.iload_n 2, 1) := by decide +kernel
theorem dX7_tryMake_7 : decode cX7_tryMake 7 = .ok (.invokevirtual 112, 3) := by decide +kernel
theorem dX7_tryMake_10 : decode cX7_tryMake 10 = .ok (.ifCond .ne 47, 3) := by decide +kernel
theorem dX7_tryMake_13 : decode cX7_tryMake 13 = .ok (.aload_n 1, 1) := by decide +kernel
theorem dX7_tryMake_14 : decode cX7_tryMake 14 = .ok (.getfield 116, 3) := by decide +kernel
theorem dX7_tryMake_17 : decode cX7_tryMake 17 = .ok (.aload_n 1, 1) := by decide +kernel
theorem dX7_tryMake_18 : decode cX7_tryMake 18 = .ok (.getfield 103, 3) := by decide +kernel
theorem dX7_tryMake_21 : decode cX7_tryMake 21 = .ok (.getfield 119, 3) := by decide +kernel
theorem dX7_tryMake_24 : decode cX7_tryMake 24 = .ok (.if_icmp .le 16, 3) := by decide +kernel
theorem dX7_tryMake_27 : decode cX7_tryMake 27 = .ok (.aload_n 1, 1) := by decide +kernel
theorem dX7_tryMake_28 : decode cX7_tryMake 28 = .ok (.aload_n 0, 1) := by decide +kernel
theorem dX7_tryMake_29 : decode cX7_tryMake 29 = .ok (.aload_n 1, 1) := by decide +kernel
theorem dX7_tryMake_30 : decode cX7_tryMake 30 = .ok (.invokevirtual 122, 3) := by decide +kernel
theorem dX7_tryMake_33 : decode cX7_tryMake 33 = .ok (.iconst 1, 1) := by decide +kernel
theorem dX7_tryMake_34 : decode cX7_tryMake 34 = .ok (.isub, 1) := by decide +kernel
theorem dX7_tryMake_35 : decode cX7_tryMake 35 = .ok (.iconst 1, 1) := by decide +kernel
theorem dX7_tryMake_36 : decode cX7_tryMake 36 = .ok (.invokevirtual 89, 3) := by decide +kernel
theorem dX7_tryMake_39 : decode cX7_tryMake 39 = .ok (.return_, 1) := by decide +kernel
theorem dX7_tryMake_40 : decode cX7_tryMake 40 = .ok (.aload_n 0, 1) := by decide +kernel
theorem dX7_tryMake_41 : decode cX7_tryMake 41 = .ok (.aload_n 1, 1) := by decide +kernel
theorem dX7_tryMake_42 : decode cX7_tryMake 42 = .ok (.iload_n 2, 1) := by decide +kernel
theorem dX7_tryMake_43 : decode cX7_tryMake 43 = .ok (.invokevirtual 126, 3) := by decide +kernel
theorem dX7_tryMake_46 : decode cX7_tryMake 46 = .ok (.ifCond .ne 11, 3) := by decide +kernel
theorem dX7_tryMake_49 : decode cX7_tryMake 49 = .ok (.aload_n 0, 1) := by decide +kernel
theorem dX7_tryMake_50 : decode cX7_tryMake 50 = .ok (.aload_n 1, 1) := by decide +kernel
theorem dX7_tryMake_51 : decode cX7_tryMake 51 = .ok (.iconst 4, 1) := by decide +kernel
theorem dX7_tryMake_52 : decode cX7_tryMake 52 = .ok (.iconst 2, 1) := by decide +kernel
theorem dX7_tryMake_53 : decode cX7_tryMake 53 = .ok (.invokevirtual 130, 3) := by decide +kernel
theorem dX7_tryMake_56 : decode cX7_tryMake 56 = .ok (.return_, 1) := by decide +kernel
theorem dX7_tryMake_57 : decode cX7_tryMake 57 = .ok (.aload_n 1, 1) := by decide +kernel
theorem dX7_tryMake_58 : decode cX7_tryMake 58 = .ok (.iload_n 2, 1) := by decide +kernel
theorem dX7_tryMake_59 : decode cX7_tryMake 59 = .ok (.invokevirtual 134, 3) := by decide +kernel
theorem dX7_tryMake_62 : decode cX7_tryMake 62 = .ok (.aload_n 0, 1) := by decide +kernel
theorem dX7_tryMake_63 : decode cX7_tryMake 63 = .ok (.aload_n 1, 1) := by decide +kernel
theorem dX7_tryMake_64 : decode cX7_tryMake 64 = .ok (.invokevirtual 96, 3) := by decide +kernel
theorem dX7_tryMake_67 : decode cX7_tryMake 67 = .ok (.return_, 1) := by decide +kernel
theorem dX7_wake_0 : decode cX7_wake 0 = .ok (.aload_n 1, 1) := by decide +kernel
theorem dX7_wake_1 : decode cX7_wake 1 = .ok (.getfield 137, 3) := by decide +kernel
theorem dX7_wake_4 : decode cX7_wake 4 = .ok (.ifCond .ne 4, 3) := by decide +kernel
theorem dX7_wake_7 : decode cX7_wake 7 = .ok (.return_, 1) := by decide +kernel
theorem dX7_wake_8 : decode cX7_wake 8 = .ok (.aload_n 0, 1) := by decide +kernel
theorem dX7_wake_9 : decode cX7_wake 9 = .ok (.getfield 35, 3) := by decide +kernel
theorem dX7_wake_12 : decode cX7_wake 12 = .ok (.aload_n 1, 1) := by decide +kernel
theorem dX7_wake_13 : decode cX7_wake 13 = .ok (.getfield 140, 3) := by decide +kernel
theorem dX7_wake_16 : decode cX7_wake 16 = .ok (.aload_n 1, 1) := by decide +kernel
theorem dX7_wake_17 : decode cX7_wake 17 = .ok (.getfield 143, 3) := by decide +kernel
theorem dX7_wake_20 : decode cX7_wake 20 = .ok (.isub, 1) := by decide +kernel
theorem dX7_wake_21 : decode cX7_wake 21 = .ok (.iconst 0, 1) := by decide +kernel
theorem dX7_wake_22 : decode cX7_wake 22 = .ok (.invokestatic 146, 3) := by decide +kernel
theorem dX7_wake_25 : decode cX7_wake 25 = .ok (.invokestatic 152, 3) := by decide +kernel
theorem dX7_wake_28 : decode cX7_wake 28 = .ok (.istore_n 2, 1) := by decide +kernel
theorem dX7_wake_29 : decode cX7_wake 29 = .ok (.aload_n 0, 1) := by decide +kernel
theorem dX7_wake_30 : decode cX7_wake 30 = .ok (.dup, 1) := by decide +kernel
theorem dX7_wake_31 : decode cX7_wake 31 = .ok (.getfield 35, 3) := by decide +kernel
theorem dX7_wake_34 : decode cX7_wake 34 = .ok (.iload_n 2, 1) := by decide +kernel
theorem dX7_wake_35 : decode cX7_wake 35 = .ok (.isub, 1) := by decide +kernel
theorem dX7_wake_36 : decode cX7_wake 36 = .ok (.putfield 35, 3) := by decide +kernel
theorem dX7_wake_39 : decode cX7_wake 39 = .ok (.aload_n 1, 1) := by decide +kernel
theorem dX7_wake_40 : decode cX7_wake 40 = .ok (.dup, 1) := by decide +kernel
theorem dX7_wake_41 : decode cX7_wake 41 = .ok (.getfield 143, 3) := by decide +kernel
theorem dX7_wake_44 : decode cX7_wake 44 = .ok (.iload_n 2, 1) := by decide +kernel
theorem dX7_wake_45 : decode cX7_wake 45 = .ok (.iadd, 1) := by decide +kernel
theorem dX7_wake_46 : decode cX7_wake 46 = .ok (.putfield 143, 3) := by decide +kernel
theorem dX7_wake_49 : decode cX7_wake 49 = .ok (.aload_n 1, 1) := by decide +kernel
theorem dX7_wake_50 : decode cX7_wake 50 = .ok (.iconst 0, 1) := by decide +kernel
theorem dX7_wake_51 : decode cX7_wake 51 = .ok (.putfield 137, 3) := by decide +kernel
theorem dX7_wake_54 : decode cX7_wake 54 = .ok (.aload_n 0, 1) := by decide +kernel
theorem dX7_wake_55 : decode cX7_wake 55 = .ok (.getfield 12, 3) := by decide +kernel
theorem dX7_wake_58 : decode cX7_wake 58 = .ok (.aload_n 0, 1) := by decide +kernel
theorem dX7_wake_59 : decode cX7_wake 59 = .ok (.getfield 32, 3) := by decide +kernel
theorem dX7_wake_62 : decode cX7_wake 62 = .ok (.aload_n 1, 1) := by decide +kernel
theorem dX7_wake_63 : decode cX7_wake 63 = .ok (.getfield 155, 3) := by decide +kernel
theorem dX7_wake_66 : decode cX7_wake 66 = .ok (.iconst 5, 1) := by decide +kernel
theorem dX7_wake_67 : decode cX7_wake 67 = .ok (.iload_n 2, 1) := by decide +kernel
theorem dX7_wake_68 : decode cX7_wake 68 = .ok (.invokevirtual 158, 3) := by decide +kernel
theorem dX7_wake_71 : decode cX7_wake 71 = .ok (.return_, 1) := by decide +kernel
theorem dX7_endAct_0 : decode cX7_endAct 0 = .ok (.aload_n 1, 1) := by decide +kernel
theorem dX7_endAct_1 : decode cX7_endAct 1 = .ok (.dup, 1) := by decide +kernel
theorem dX7_endAct_2 : decode cX7_endAct 2 = .ok (.getfield 162, 3) := by decide +kernel
theorem dX7_endAct_5 : decode cX7_endAct 5 = .ok (.iconst 1, 1) := by decide +kernel
theorem dX7_endAct_6 : decode cX7_endAct 6 = .ok (.iadd, 1) := by decide +kernel
theorem dX7_endAct_7 : decode cX7_endAct 7 = .ok (.putfield 162, 3) := by decide +kernel
theorem dX7_endAct_10 : decode cX7_endAct 10 = .ok (.aload_n 1, 1) := by decide +kernel
theorem dX7_endAct_11 : decode cX7_endAct 11 = .ok (.getfield 162, 3) := by decide +kernel
theorem dX7_endAct_14 : decode cX7_endAct 14 = .ok (.aload_n 1, 1) := by decide +kernel
theorem dX7_endAct_15 : decode cX7_endAct 15 = .ok (.getfield 165, 3) := by decide +kernel
theorem dX7_endAct_18 : decode cX7_endAct 18 = .ok (.getfield 169, 3) := by decide +kernel
theorem dX7_endAct_21 : decode cX7_endAct 21 = .ok (.if_icmp .ge 4, 3) := by decide +kernel
theorem dX7_endAct_24 : decode cX7_endAct 24 = .ok (.return_, 1) := by decide +kernel
theorem dX7_endAct_25 : decode cX7_endAct 25 = .ok (.aload_n 1, 1) := by decide +kernel
theorem dX7_endAct_26 : decode cX7_endAct 26 = .ok (.invokevirtual 174, 3) := by decide +kernel
theorem dX7_endAct_29 : decode cX7_endAct 29 = .ok (.aload_n 1, 1) := by decide +kernel
theorem dX7_endAct_30 : decode cX7_endAct 30 = .ok (.getfield 177, 3) := by decide +kernel
theorem dX7_endAct_33 : decode cX7_endAct 33 = .ok (.ifCond .ne 40, 3) := by decide +kernel
theorem dX7_endAct_36 : decode cX7_endAct 36 = .ok (.aload_n 1, 1) := by decide +kernel
theorem dX7_endAct_37 : decode cX7_endAct 37 = .ok (.getfield 180, 3) := by decide +kernel
theorem dX7_endAct_40 : decode cX7_endAct 40 = .ok (.iconst 3, 1) := by decide +kernel
theorem dX7_endAct_41 : decode cX7_endAct 41 = .ok (.if_icmp .lt 32, 3) := by decide +kernel
theorem dX7_endAct_44 : decode cX7_endAct 44 = .ok (.aload_n 1, 1) := by decide +kernel
theorem dX7_endAct_45 : decode cX7_endAct 45 = .ok (.iconst 1, 1) := by decide +kernel
theorem dX7_endAct_46 : decode cX7_endAct 46 = .ok (.putfield 177, 3) := by decide +kernel
theorem dX7_endAct_49 : decode cX7_endAct 49 = .ok (.aload_n 0, 1) := by decide +kernel
theorem dX7_endAct_50 : decode cX7_endAct 50 = .ok (.getfield 12, 3) := by decide +kernel
theorem dX7_endAct_53 : decode cX7_endAct 53 = .ok (.aload_n 0, 1) := by decide +kernel
theorem dX7_endAct_54 : decode cX7_endAct 54 = .ok (.getfield 32, 3) := by decide +kernel
theorem dX7_endAct_57 : decode cX7_endAct 57 = .ok (.aload_n 1, 1) := by decide +kernel
theorem dX7_endAct_58 : decode cX7_endAct 58 = .ok (.getfield 155, 3) := by decide +kernel
theorem dX7_endAct_61 : decode cX7_endAct 61 = .ok (.bipush 7, 2) := by decide +kernel
theorem dX7_endAct_63 : decode cX7_endAct 63 = .ok (.aload_n 1, 1) := by decide +kernel
theorem dX7_endAct_64 : decode cX7_endAct 64 = .ok (.getfield 103, 3) := by decide +kernel
theorem dX7_endAct_67 : decode cX7_endAct 67 = .ok (.getfield 119, 3) := by decide +kernel
theorem dX7_endAct_70 : decode cX7_endAct 70 = .ok (.invokevirtual 158, 3) := by decide +kernel
theorem dX7_endAct_73 : decode cX7_endAct 73 = .ok (.aload_n 1, 1) := by decide +kernel
theorem dX7_endAct_74 : decode cX7_endAct 74 = .ok (.getfield 183, 3) := by decide +kernel
theorem dX7_endAct_77 : decode cX7_endAct 77 = .ok (.aload_n 1, 1) := by decide +kernel
theorem dX7_endAct_78 : decode cX7_endAct 78 = .ok (.getfield 165, 3) := by decide +kernel
theorem dX7_endAct_81 : decode cX7_endAct 81 = .ok (.getfield 186, 3) := by decide +kernel
theorem dX7_endAct_84 : decode cX7_endAct 84 = .ok (.if_icmp .lt 11, 3) := by decide +kernel
theorem dX7_endAct_87 : decode cX7_endAct 87 = .ok (.aload_n 0, 1) := by decide +kernel
theorem dX7_endAct_88 : decode cX7_endAct 88 = .ok (.aload_n 1, 1) := by decide +kernel
theorem dX7_endAct_89 : decode cX7_endAct 89 = .ok (.iconst 3, 1) := by decide +kernel
theorem dX7_endAct_90 : decode cX7_endAct 90 = .ok (.bipush 6, 2) := by decide +kernel
theorem dX7_endAct_92 : decode cX7_endAct 92 = .ok (.invokevirtual 130, 3) := by decide +kernel
theorem dX7_endAct_95 : decode cX7_endAct 95 = .ok (.return_, 1) := by decide +kernel
theorem dX7_leave_0 : decode cX7_leave 0 = .ok (.aload_n 1, 1) := by decide +kernel
theorem dX7_leave_1 : decode cX7_leave 1 = .ok (.iload_n 2, 1) := by decide +kernel
theorem dX7_leave_2 : decode cX7_leave 2 = .ok (.aload_n 0, 1) := by decide +kernel
theorem dX7_leave_3 : decode cX7_leave 3 = .ok (.getfield 32, 3) := by decide +kernel
theorem dX7_leave_6 : decode cX7_leave 6 = .ok (.invokevirtual 189, 3) := by decide +kernel
theorem dX7_leave_9 : decode cX7_leave 9 = .ok (.istore 4, 2) := by decide +kernel
theorem dX7_leave_11 : decode cX7_leave 11 = .ok (.aload_n 0, 1) := by decide +kernel
theorem dX7_leave_12 : decode cX7_leave 12 = .ok (.dup, 1) := by decide +kernel
theorem dX7_leave_13 : decode cX7_leave 13 = .ok (.getfield 35, 3) := by decide +kernel
theorem dX7_leave_16 : decode cX7_leave 16 = .ok (.iload 4, 2) := by decide +kernel
theorem dX7_leave_18 : decode cX7_leave 18 = .ok (.iadd, 1) := by decide +kernel
theorem dX7_leave_19 : decode cX7_leave 19 = .ok (.putfield 35, 3) := by decide +kernel
theorem dX7_leave_22 : decode cX7_leave 22 = .ok (.aload_n 0, 1) := by decide +kernel
theorem dX7_leave_23 : decode cX7_leave 23 = .ok (.getfield 12, 3) := by decide +kernel
theorem dX7_leave_26 : decode cX7_leave 26 = .ok (.aload_n 0, 1) := by decide +kernel
theorem dX7_leave_27 : decode cX7_leave 27 = .ok (.getfield 32, 3) := by decide +kernel
theorem dX7_leave_30 : decode cX7_leave 30 = .ok (.aload_n 1, 1) := by decide +kernel
theorem dX7_leave_31 : decode cX7_leave 31 = .ok (.getfield 155, 3) := by decide +kernel
theorem dX7_leave_34 : decode cX7_leave 34 = .ok (.iload_n 3, 1) := by decide +kernel
theorem dX7_leave_35 : decode cX7_leave 35 = .ok (.iload 4, 2) := by decide +kernel
theorem dX7_leave_37 : decode cX7_leave 37 = .ok (.invokevirtual 158, 3) := by decide +kernel
theorem dX7_leave_40 : decode cX7_leave 40 = .ok (.return_, 1) := by decide +kernel
theorem dX7_collect_0 : decode cX7_collect 0 = .ok (.aload_n 1, 1) := by decide +kernel
theorem dX7_collect_1 : decode cX7_collect 1 = .ok (.invokevirtual 191, 3) := by decide +kernel
theorem dX7_collect_4 : decode cX7_collect 4 = .ok (.istore_n 2, 1) := by decide +kernel
theorem dX7_collect_5 : decode cX7_collect 5 = .ok (.aload_n 0, 1) := by decide +kernel
theorem dX7_collect_6 : decode cX7_collect 6 = .ok (.getfield 12, 3) := by decide +kernel
theorem dX7_collect_9 : decode cX7_collect 9 = .ok (.aload_n 0, 1) := by decide +kernel
theorem dX7_collect_10 : decode cX7_collect 10 = .ok (.getfield 32, 3) := by decide +kernel
theorem dX7_collect_13 : decode cX7_collect 13 = .ok (.aload_n 1, 1) := by decide +kernel
theorem dX7_collect_14 : decode cX7_collect 14 = .ok (.getfield 155, 3) := by decide +kernel
theorem dX7_collect_17 : decode cX7_collect 17 = .ok (.iconst 0, 1) := by decide +kernel
theorem dX7_collect_18 : decode cX7_collect 18 = .ok (.iload_n 2, 1) := by decide +kernel
theorem dX7_collect_19 : decode cX7_collect 19 = .ok (.invokevirtual 158, 3) := by decide +kernel
theorem dX7_collect_22 : decode cX7_collect 22 = .ok (.iload_n 2, 1) := by decide +kernel
theorem dX7_collect_23 : decode cX7_collect 23 = .ok (.ireturn, 1) := by decide +kernel
theorem dX7_getsByAsking_0 : decode cX7_getsByAsking 0 = .ok (.aload_n 0, 1) := by decide +kernel
theorem dX7_getsByAsking_1 : decode cX7_getsByAsking 1 = .ok (.getfield 38, 3) := by decide +kernel
theorem dX7_getsByAsking_4 : decode cX7_getsByAsking 4 = .ok (.getfield 53, 3) := by decide +kernel
theorem dX7_getsByAsking_7 : decode cX7_getsByAsking 7 = .ok (.aload_n 0, 1) := by decide +kernel
theorem dX7_getsByAsking_8 : decode cX7_getsByAsking 8 = .ok (.getfield 38, 3) := by decide +kernel
theorem dX7_getsByAsking_11 : decode cX7_getsByAsking 11 = .ok (.aload_n 1, 1) := by decide +kernel
theorem dX7_getsByAsking_12 : decode cX7_getsByAsking 12 = .ok (.getfield 165, 3) := by decide +kernel
theorem dX7_getsByAsking_15 : decode cX7_getsByAsking 15 = .ok (.aload_n 1, 1) := by decide +kernel
theorem dX7_getsByAsking_16 : decode cX7_getsByAsking 16 = .ok (.getfield 116, 3) := by decide +kernel
theorem dX7_getsByAsking_19 : decode cX7_getsByAsking 19 = .ok (.iload_n 2, 1) := by decide +kernel
theorem dX7_getsByAsking_20 : decode cX7_getsByAsking 20 = .ok (.iadd, 1) := by decide +kernel
theorem dX7_getsByAsking_21 : decode cX7_getsByAsking 21 = .ok (.invokevirtual 194, 3) := by decide +kernel
theorem dX7_getsByAsking_24 : decode cX7_getsByAsking 24 = .ok (.aload_n 1, 1) := by decide +kernel
theorem dX7_getsByAsking_25 : decode cX7_getsByAsking 25 = .ok (.getfield 143, 3) := by decide +kernel
theorem dX7_getsByAsking_28 : decode cX7_getsByAsking 28 = .ok (.isub, 1) := by decide +kernel
theorem dX7_getsByAsking_29 : decode cX7_getsByAsking 29 = .ok (.invokevirtual 198, 3) := by decide +kernel
theorem dX7_getsByAsking_32 : decode cX7_getsByAsking 32 = .ok (.imul, 1) := by decide +kernel
theorem dX7_getsByAsking_33 : decode cX7_getsByAsking 33 = .ok (.istore_n 3, 1) := by decide +kernel
theorem dX7_getsByAsking_34 : decode cX7_getsByAsking 34 = .ok (.aload_n 0, 1) := by decide +kernel
theorem dX7_getsByAsking_35 : decode cX7_getsByAsking 35 = .ok (.getfield 35, 3) := by decide +kernel
theorem dX7_getsByAsking_38 : decode cX7_getsByAsking 38 = .ok (.aload_n 0, 1) := by decide +kernel
theorem dX7_getsByAsking_39 : decode cX7_getsByAsking 39 = .ok (.aload_n 1, 1) := by decide +kernel
theorem dX7_getsByAsking_40 : decode cX7_getsByAsking 40 = .ok (.invokevirtual 201, 3) := by decide +kernel
theorem dX7_getsByAsking_43 : decode cX7_getsByAsking 43 = .ok (.iadd, 1) := by decide +kernel
theorem dX7_getsByAsking_44 : decode cX7_getsByAsking 44 = .ok (.iload_n 3, 1) := by decide +kernel
theorem dX7_getsByAsking_45 : decode cX7_getsByAsking 45 = .ok (.if_icmp .lt 23, 3) := by decide +kernel
theorem dX7_getsByAsking_48 : decode cX7_getsByAsking 48 = .ok (.aload_n 1, 1) := by decide +kernel
theorem dX7_getsByAsking_49 : decode cX7_getsByAsking 49 = .ok (.getfield 177, 3) := by decide +kernel
theorem dX7_getsByAsking_52 : decode cX7_getsByAsking 52 = .ok (.ifCond .eq 18, 3) := by decide +kernel
theorem dX7_getsByAsking_55 : decode cX7_getsByAsking 55 = .ok (.aload_n 1, 1) := by decide +kernel
theorem dX7_getsByAsking_56 : decode cX7_getsByAsking 56 = .ok (.getfield 143, 3) := by decide +kernel
theorem dX7_getsByAsking_59 : decode cX7_getsByAsking 59 = .ok (.iload_n 3, 1) := by decide +kernel
theorem dX7_getsByAsking_60 : decode cX7_getsByAsking 60 = .ok (.iadd, 1) := by decide +kernel
theorem dX7_getsByAsking_61 : decode cX7_getsByAsking 61 = .ok (.aload_n 0, 1) := by decide +kernel
theorem dX7_getsByAsking_62 : decode cX7_getsByAsking 62 = .ok (.invokevirtual 204, 3) := by decide +kernel
theorem dX7_getsByAsking_65 : decode cX7_getsByAsking 65 = .ok (.if_icmp .le 5, 3) := by decide +kernel
theorem dX7_getsByAsking_68 : decode cX7_getsByAsking 68 = .ok (.iconst 0, 1) := by decide +kernel
theorem dX7_getsByAsking_69 : decode cX7_getsByAsking 69 = .ok (.ireturn, 1) := by decide +kernel
theorem dX7_getsByAsking_70 : decode cX7_getsByAsking 70 = .ok (.aload_n 0, 1) := by decide +kernel
theorem dX7_getsByAsking_71 : decode cX7_getsByAsking 71 = .ok (.getfield 35, 3) := by decide +kernel
theorem dX7_getsByAsking_74 : decode cX7_getsByAsking 74 = .ok (.iload_n 3, 1) := by decide +kernel
theorem dX7_getsByAsking_75 : decode cX7_getsByAsking 75 = .ok (.invokestatic 152, 3) := by decide +kernel
theorem dX7_getsByAsking_78 : decode cX7_getsByAsking 78 = .ok (.istore 4, 2) := by decide +kernel
theorem dX7_getsByAsking_80 : decode cX7_getsByAsking 80 = .ok (.aload_n 0, 1) := by decide +kernel
theorem dX7_getsByAsking_81 : decode cX7_getsByAsking 81 = .ok (.dup, 1) := by decide +kernel
theorem dX7_getsByAsking_82 : decode cX7_getsByAsking 82 = .ok (.getfield 35, 3) := by decide +kernel
theorem dX7_getsByAsking_85 : decode cX7_getsByAsking 85 = .ok (.iload 4, 2) := by decide +kernel
theorem dX7_getsByAsking_87 : decode cX7_getsByAsking 87 = .ok (.isub, 1) := by decide +kernel
theorem dX7_getsByAsking_88 : decode cX7_getsByAsking 88 = .ok (.putfield 35, 3) := by decide +kernel
theorem dX7_getsByAsking_91 : decode cX7_getsByAsking 91 = .ok (.iload_n 3, 1) := by decide +kernel
theorem dX7_getsByAsking_92 : decode cX7_getsByAsking 92 = .ok (.iload 4, 2) := by decide +kernel
theorem dX7_getsByAsking_94 : decode cX7_getsByAsking 94 = .ok (.isub, 1) := by decide +kernel
theorem dX7_getsByAsking_95 : decode cX7_getsByAsking 95 = .ok (.istore 5, 2) := by decide +kernel
theorem dX7_getsByAsking_97 : decode cX7_getsByAsking 97 = .ok (.iconst 0, 1) := by decide +kernel
theorem dX7_getsByAsking_98 : decode cX7_getsByAsking 98 = .ok (.istore 6, 2) := by decide +kernel
theorem dX7_getsByAsking_100 : decode cX7_getsByAsking 100 = .ok (.iload 6, 2) := by decide +kernel
theorem dX7_getsByAsking_102 : decode cX7_getsByAsking 102 = .ok (.aload_n 0, 1) := by decide +kernel
theorem dX7_getsByAsking_103 : decode cX7_getsByAsking 103 = .ok (.getfield 24, 3) := by decide +kernel
theorem dX7_getsByAsking_106 : decode cX7_getsByAsking 106 = .ok (.if_icmp .ge 72, 3) := by decide +kernel
theorem dX7_getsByAsking_109 : decode cX7_getsByAsking 109 = .ok (.iload 5, 2) := by decide +kernel
theorem dX7_getsByAsking_111 : decode cX7_getsByAsking 111 = .ok (.ifCond .le 67, 3) := by decide +kernel
theorem dX7_getsByAsking_114 : decode cX7_getsByAsking 114 = .ok (.aload_n 0, 1) := by decide +kernel
theorem dX7_getsByAsking_115 : decode cX7_getsByAsking 115 = .ok (.getfield 20, 3) := by decide +kernel
theorem dX7_getsByAsking_118 : decode cX7_getsByAsking 118 = .ok (.iload 6, 2) := by decide +kernel
theorem dX7_getsByAsking_120 : decode cX7_getsByAsking 120 = .ok (.aaload, 1) := by decide +kernel
theorem dX7_getsByAsking_121 : decode cX7_getsByAsking 121 = .ok (.astore 7, 2) := by decide +kernel
theorem dX7_getsByAsking_123 : decode cX7_getsByAsking 123 = .ok (.aload 7, 2) := by decide +kernel
theorem dX7_getsByAsking_125 : decode cX7_getsByAsking 125 = .ok (.getfield 71, 3) := by decide +kernel
theorem dX7_getsByAsking_128 : decode cX7_getsByAsking 128 = .ok (.iconst 2, 1) := by decide +kernel
theorem dX7_getsByAsking_129 : decode cX7_getsByAsking 129 = .ok (.if_icmp .ne 20, 3) := by decide +kernel
theorem dX7_getsByAsking_132 : decode cX7_getsByAsking 132 = .ok (.aload 7, 2) := by decide +kernel
theorem dX7_getsByAsking_134 : decode cX7_getsByAsking 134 = .ok (.aload_n 0, 1) := by decide +kernel
theorem dX7_getsByAsking_135 : decode cX7_getsByAsking 135 = .ok (.getfield 38, 3) := by decide +kernel
theorem dX7_getsByAsking_138 : decode cX7_getsByAsking 138 = .ok (.invokevirtual 207, 3) := by decide +kernel
theorem dX7_getsByAsking_141 : decode cX7_getsByAsking 141 = .ok (.iload 5, 2) := by decide +kernel
theorem dX7_getsByAsking_143 : decode cX7_getsByAsking 143 = .ok (.invokestatic 152, 3) := by decide +kernel
theorem dX7_getsByAsking_146 : decode cX7_getsByAsking 146 = .ok (.goto 4, 3) := by decide +kernel
theorem dX7_getsByAsking_149 : decode cX7_getsByAsking 149 = .ok (.iconst 0, 1) := by decide +kernel
theorem dX7_getsByAsking_150 : decode cX7_getsByAsking 150 = .ok (.istore 8, 2) := by decide +kernel
theorem dX7_getsByAsking_152 : decode cX7_getsByAsking 152 = .ok (.iload 8, 2) := by decide +kernel
theorem dX7_getsByAsking_154 : decode cX7_getsByAsking 154 = .ok (.ifCond .le 18, 3) := by decide +kernel
theorem dX7_getsByAsking_157 : decode cX7_getsByAsking 157 = .ok (.aload_n 0, 1) := by decide +kernel
theorem dX7_getsByAsking_158 : decode cX7_getsByAsking 158 = .ok (.aload 7, 2) := by decide +kernel
theorem dX7_getsByAsking_160 : decode cX7_getsByAsking 160 = .ok (.iload 8, 2) := by decide +kernel
theorem dX7_getsByAsking_162 : decode cX7_getsByAsking 162 = .ok (.invokevirtual 211, 3) := by decide +kernel
theorem dX7_getsByAsking_165 : decode cX7_getsByAsking 165 = .ok (.iload 5, 2) := by decide +kernel
theorem dX7_getsByAsking_167 : decode cX7_getsByAsking 167 = .ok (.iload 8, 2) := by decide +kernel
theorem dX7_getsByAsking_169 : decode cX7_getsByAsking 169 = .ok (.isub, 1) := by decide +kernel
theorem dX7_getsByAsking_170 : decode cX7_getsByAsking 170 = .ok (.istore 5, 2) := by decide +kernel
theorem dX7_getsByAsking_172 : decode cX7_getsByAsking 172 = .ok (.iinc 6 1, 3) := by decide +kernel
theorem dX7_getsByAsking_175 : decode cX7_getsByAsking 175 = .ok (.goto (-75), 3) := by decide +kernel
theorem dX7_getsByAsking_178 : decode cX7_getsByAsking 178 = .ok (.aload_n 0, 1) := by decide +kernel
theorem dX7_getsByAsking_179 : decode cX7_getsByAsking 179 = .ok (.getfield 38, 3) := by decide +kernel
theorem dX7_getsByAsking_182 : decode cX7_getsByAsking 182 = .ok (.iload 5, 2) := by decide +kernel
theorem dX7_getsByAsking_184 : decode cX7_getsByAsking 184 = .ok (.invokevirtual 198, 3) := by decide +kernel
theorem dX7_getsByAsking_187 : decode cX7_getsByAsking 187 = .ok (.istore 6, 2) := by decide +kernel
theorem dX7_getsByAsking_189 : decode cX7_getsByAsking 189 = .ok (.iconst 0, 1) := by decide +kernel
theorem dX7_getsByAsking_190 : decode cX7_getsByAsking 190 = .ok (.istore 7, 2) := by decide +kernel
theorem dX7_getsByAsking_192 : decode cX7_getsByAsking 192 = .ok (.iload 7, 2) := by decide +kernel
theorem dX7_getsByAsking_194 : decode cX7_getsByAsking 194 = .ok (.iload 6, 2) := by decide +kernel
theorem dX7_getsByAsking_196 : decode cX7_getsByAsking 196 = .ok (.if_icmp .ge 40, 3) := by decide +kernel
theorem dX7_getsByAsking_199 : decode cX7_getsByAsking 199 = .ok (.aload_n 0, 1) := by decide +kernel
theorem dX7_getsByAsking_200 : decode cX7_getsByAsking 200 = .ok (.aload_n 1, 1) := by decide +kernel
theorem dX7_getsByAsking_201 : decode cX7_getsByAsking 201 = .ok (.invokevirtual 215, 3) := by decide +kernel
theorem dX7_getsByAsking_204 : decode cX7_getsByAsking 204 = .ok (.istore 8, 2) := by decide +kernel
theorem dX7_getsByAsking_206 : decode cX7_getsByAsking 206 = .ok (.iload 8, 2) := by decide +kernel
theorem dX7_getsByAsking_208 : decode cX7_getsByAsking 208 = .ok (.iconst (-1), 1) := by decide +kernel
theorem dX7_getsByAsking_209 : decode cX7_getsByAsking 209 = .ok (.if_icmp .eq 21, 3) := by decide +kernel
theorem dX7_getsByAsking_212 : decode cX7_getsByAsking 212 = .ok (.aload_n 0, 1) := by decide +kernel
theorem dX7_getsByAsking_213 : decode cX7_getsByAsking 213 = .ok (.aload_n 0, 1) := by decide +kernel
theorem dX7_getsByAsking_214 : decode cX7_getsByAsking 214 = .ok (.getfield 20, 3) := by decide +kernel
theorem dX7_getsByAsking_217 : decode cX7_getsByAsking 217 = .ok (.iload 8, 2) := by decide +kernel
theorem dX7_getsByAsking_219 : decode cX7_getsByAsking 219 = .ok (.aaload, 1) := by decide +kernel
theorem dX7_getsByAsking_220 : decode cX7_getsByAsking 220 = .ok (.aload_n 0, 1) := by decide +kernel
theorem dX7_getsByAsking_221 : decode cX7_getsByAsking 221 = .ok (.getfield 38, 3) := by decide +kernel
theorem dX7_getsByAsking_224 : decode cX7_getsByAsking 224 = .ok (.getfield 53, 3) := by decide +kernel
theorem dX7_getsByAsking_227 : decode cX7_getsByAsking 227 = .ok (.invokevirtual 211, 3) := by decide +kernel
theorem dX7_getsByAsking_230 : decode cX7_getsByAsking 230 = .ok (.iinc 7 1, 3) := by decide +kernel
theorem dX7_getsByAsking_233 : decode cX7_getsByAsking 233 = .ok (.goto (-41), 3) := by decide +kernel
theorem dX7_getsByAsking_236 : decode cX7_getsByAsking 236 = .ok (.aload_n 1, 1) := by decide +kernel
theorem dX7_getsByAsking_237 : decode cX7_getsByAsking 237 = .ok (.dup, 1) := by decide +kernel
theorem dX7_getsByAsking_238 : decode cX7_getsByAsking 238 = .ok (.getfield 143, 3) := by decide +kernel
theorem dX7_getsByAsking_241 : decode cX7_getsByAsking 241 = .ok (.iload_n 3, 1) := by decide +kernel
theorem dX7_getsByAsking_242 : decode cX7_getsByAsking 242 = .ok (.iadd, 1) := by decide +kernel
theorem dX7_getsByAsking_243 : decode cX7_getsByAsking 243 = .ok (.putfield 143, 3) := by decide +kernel
theorem dX7_getsByAsking_246 : decode cX7_getsByAsking 246 = .ok (.aload_n 0, 1) := by decide +kernel
theorem dX7_getsByAsking_247 : decode cX7_getsByAsking 247 = .ok (.getfield 12, 3) := by decide +kernel
theorem dX7_getsByAsking_250 : decode cX7_getsByAsking 250 = .ok (.aload_n 0, 1) := by decide +kernel
theorem dX7_getsByAsking_251 : decode cX7_getsByAsking 251 = .ok (.getfield 32, 3) := by decide +kernel
theorem dX7_getsByAsking_254 : decode cX7_getsByAsking 254 = .ok (.aload_n 1, 1) := by decide +kernel
theorem dX7_getsByAsking_255 : decode cX7_getsByAsking 255 = .ok (.getfield 155, 3) := by decide +kernel
theorem dX7_getsByAsking_258 : decode cX7_getsByAsking 258 = .ok (.iconst 1, 1) := by decide +kernel
theorem dX7_getsByAsking_259 : decode cX7_getsByAsking 259 = .ok (.iload_n 3, 1) := by decide +kernel
theorem dX7_getsByAsking_260 : decode cX7_getsByAsking 260 = .ok (.invokevirtual 158, 3) := by decide +kernel
theorem dX7_getsByAsking_263 : decode cX7_getsByAsking 263 = .ok (.iconst 1, 1) := by decide +kernel
theorem dX7_getsByAsking_264 : decode cX7_getsByAsking 264 = .ok (.ireturn, 1) := by decide +kernel
theorem dX7_fairPart_0 : decode cX7_fairPart 0 = .ok (.aload_n 0, 1) := by decide +kernel
theorem dX7_fairPart_1 : decode cX7_fairPart 1 = .ok (.getfield 24, 3) := by decide +kernel
theorem dX7_fairPart_4 : decode cX7_fairPart 4 = .ok (.ifCond .le 18, 3) := by decide +kernel
theorem dX7_fairPart_7 : decode cX7_fairPart 7 = .ok (.aload_n 0, 1) := by decide +kernel
theorem dX7_fairPart_8 : decode cX7_fairPart 8 = .ok (.getfield 38, 3) := by decide +kernel
theorem dX7_fairPart_11 : decode cX7_fairPart 11 = .ok (.getfield 48, 3) := by decide +kernel
theorem dX7_fairPart_14 : decode cX7_fairPart 14 = .ok (.aload_n 0, 1) := by decide +kernel
theorem dX7_fairPart_15 : decode cX7_fairPart 15 = .ok (.getfield 24, 3) := by decide +kernel
theorem dX7_fairPart_18 : decode cX7_fairPart 18 = .ok (.idiv, 1) := by decide +kernel
theorem dX7_fairPart_19 : decode cX7_fairPart 19 = .ok (.goto 4, 3) := by decide +kernel
theorem dX7_fairPart_22 : decode cX7_fairPart 22 = .ok (.iconst 0, 1) := by decide +kernel
theorem dX7_fairPart_23 : decode cX7_fairPart 23 = .ok (.ireturn, 1) := by decide +kernel
theorem dX7_spareOfOthers_0 : decode cX7_spareOfOthers 0 = .ok (.iconst 0, 1) := by decide +kernel
theorem dX7_spareOfOthers_1 : decode cX7_spareOfOthers 1 = .ok (.istore_n 2, 1) := by decide +kernel
theorem dX7_spareOfOthers_2 : decode cX7_spareOfOthers 2 = .ok (.iconst 0, 1) := by decide +kernel
theorem dX7_spareOfOthers_3 : decode cX7_spareOfOthers 3 = .ok (.istore_n 3, 1) := by decide +kernel
theorem dX7_spareOfOthers_4 : decode cX7_spareOfOthers 4 = .ok (.iload_n 3, 1) := by decide +kernel
theorem dX7_spareOfOthers_5 : decode cX7_spareOfOthers 5 = .ok (.aload_n 0, 1) := by decide +kernel
theorem dX7_spareOfOthers_6 : decode cX7_spareOfOthers 6 = .ok (.getfield 24, 3) := by decide +kernel
theorem dX7_spareOfOthers_9 : decode cX7_spareOfOthers 9 = .ok (.if_icmp .ge 33, 3) := by decide +kernel
theorem dX7_spareOfOthers_12 : decode cX7_spareOfOthers 12 = .ok (.iload_n 3, 1) := by decide +kernel
theorem dX7_spareOfOthers_13 : decode cX7_spareOfOthers 13 = .ok (.aload_n 1, 1) := by decide +kernel
theorem dX7_spareOfOthers_14 : decode cX7_spareOfOthers 14 = .ok (.getfield 155, 3) := by decide +kernel
theorem dX7_spareOfOthers_17 : decode cX7_spareOfOthers 17 = .ok (.if_icmp .eq 19, 3) := by decide +kernel
theorem dX7_spareOfOthers_20 : decode cX7_spareOfOthers 20 = .ok (.iload_n 2, 1) := by decide +kernel
theorem dX7_spareOfOthers_21 : decode cX7_spareOfOthers 21 = .ok (.aload_n 0, 1) := by decide +kernel
theorem dX7_spareOfOthers_22 : decode cX7_spareOfOthers 22 = .ok (.getfield 20, 3) := by decide +kernel
theorem dX7_spareOfOthers_25 : decode cX7_spareOfOthers 25 = .ok (.iload_n 3, 1) := by decide +kernel
theorem dX7_spareOfOthers_26 : decode cX7_spareOfOthers 26 = .ok (.aaload, 1) := by decide +kernel
theorem dX7_spareOfOthers_27 : decode cX7_spareOfOthers 27 = .ok (.aload_n 0, 1) := by decide +kernel
theorem dX7_spareOfOthers_28 : decode cX7_spareOfOthers 28 = .ok (.getfield 38, 3) := by decide +kernel
theorem dX7_spareOfOthers_31 : decode cX7_spareOfOthers 31 = .ok (.invokevirtual 207, 3) := by decide +kernel
theorem dX7_spareOfOthers_34 : decode cX7_spareOfOthers 34 = .ok (.iadd, 1) := by decide +kernel
theorem dX7_spareOfOthers_35 : decode cX7_spareOfOthers 35 = .ok (.istore_n 2, 1) := by decide +kernel
theorem dX7_spareOfOthers_36 : decode cX7_spareOfOthers 36 = .ok (.iinc 3 1, 3) := by decide +kernel
theorem dX7_spareOfOthers_39 : decode cX7_spareOfOthers 39 = .ok (.goto (-35), 3) := by decide +kernel
theorem dX7_spareOfOthers_42 : decode cX7_spareOfOthers 42 = .ok (.iload_n 2, 1) := by decide +kernel
theorem dX7_spareOfOthers_43 : decode cX7_spareOfOthers 43 = .ok (.ireturn, 1) := by decide +kernel
theorem dX7_whoSparesMost_0 : decode cX7_whoSparesMost 0 = .ok (.iconst (-1), 1) := by decide +kernel
theorem dX7_whoSparesMost_1 : decode cX7_whoSparesMost 1 = .ok (.istore_n 2, 1) := by decide +kernel
theorem dX7_whoSparesMost_2 : decode cX7_whoSparesMost 2 = .ok (.iconst 0, 1) := by decide +kernel
theorem dX7_whoSparesMost_3 : decode cX7_whoSparesMost 3 = .ok (.istore_n 3, 1) := by decide +kernel
theorem dX7_whoSparesMost_4 : decode cX7_whoSparesMost 4 = .ok (.iconst 0, 1) := by decide +kernel
theorem dX7_whoSparesMost_5 : decode cX7_whoSparesMost 5 = .ok (.istore 4, 2) := by decide +kernel
theorem dX7_whoSparesMost_7 : decode cX7_whoSparesMost 7 = .ok (.iload 4, 2) := by decide +kernel
theorem dX7_whoSparesMost_9 : decode cX7_whoSparesMost 9 = .ok (.aload_n 0, 1) := by decide +kernel
theorem dX7_whoSparesMost_10 : decode cX7_whoSparesMost 10 = .ok (.getfield 24, 3) := by decide +kernel
theorem dX7_whoSparesMost_13 : decode cX7_whoSparesMost 13 = .ok (.if_icmp .ge 50, 3) := by decide +kernel
theorem dX7_whoSparesMost_16 : decode cX7_whoSparesMost 16 = .ok (.iload 4, 2) := by decide +kernel
theorem dX7_whoSparesMost_18 : decode cX7_whoSparesMost 18 = .ok (.aload_n 1, 1) := by decide +kernel
theorem dX7_whoSparesMost_19 : decode cX7_whoSparesMost 19 = .ok (.getfield 155, 3) := by decide +kernel
theorem dX7_whoSparesMost_22 : decode cX7_whoSparesMost 22 = .ok (.if_icmp .ne 7, 3) := by decide +kernel
theorem dX7_whoSparesMost_25 : decode cX7_whoSparesMost 25 = .ok (.iconst 0, 1) := by decide +kernel
theorem dX7_whoSparesMost_26 : decode cX7_whoSparesMost 26 = .ok (.goto 17, 3) := by decide +kernel
theorem dX7_whoSparesMost_29 : decode cX7_whoSparesMost 29 = .ok (.aload_n 0, 1) := by decide +kernel
theorem dX7_whoSparesMost_30 : decode cX7_whoSparesMost 30 = .ok (.getfield 20, 3) := by decide +kernel
theorem dX7_whoSparesMost_33 : decode cX7_whoSparesMost 33 = .ok (.iload 4, 2) := by decide +kernel
theorem dX7_whoSparesMost_35 : decode cX7_whoSparesMost 35 = .ok (.aaload, 1) := by decide +kernel
theorem dX7_whoSparesMost_36 : decode cX7_whoSparesMost 36 = .ok (.aload_n 0, 1) := by decide +kernel
theorem dX7_whoSparesMost_37 : decode cX7_whoSparesMost 37 = .ok (.getfield 38, 3) := by decide +kernel
theorem dX7_whoSparesMost_40 : decode cX7_whoSparesMost 40 = .ok (.invokevirtual 207, 3) := by decide +kernel
theorem dX7_whoSparesMost_43 : decode cX7_whoSparesMost 43 = .ok (.istore 5, 2) := by decide +kernel
theorem dX7_whoSparesMost_45 : decode cX7_whoSparesMost 45 = .ok (.iload 5, 2) := by decide +kernel
theorem dX7_whoSparesMost_47 : decode cX7_whoSparesMost 47 = .ok (.iload_n 3, 1) := by decide +kernel
theorem dX7_whoSparesMost_48 : decode cX7_whoSparesMost 48 = .ok (.if_icmp .le 9, 3) := by decide +kernel
theorem dX7_whoSparesMost_51 : decode cX7_whoSparesMost 51 = .ok (.iload 5, 2) := by decide +kernel
theorem dX7_whoSparesMost_53 : decode cX7_whoSparesMost 53 = .ok (.istore_n 3, 1) := by decide +kernel
theorem dX7_whoSparesMost_54 : decode cX7_whoSparesMost 54 = .ok (.iload 4, 2) := by decide +kernel
theorem dX7_whoSparesMost_56 : decode cX7_whoSparesMost 56 = .ok (.istore_n 2, 1) := by decide +kernel
theorem dX7_whoSparesMost_57 : decode cX7_whoSparesMost 57 = .ok (.iinc 4 1, 3) := by decide +kernel
theorem dX7_whoSparesMost_60 : decode cX7_whoSparesMost 60 = .ok (.goto (-53), 3) := by decide +kernel
theorem dX7_whoSparesMost_63 : decode cX7_whoSparesMost 63 = .ok (.iload_n 2, 1) := by decide +kernel
theorem dX7_whoSparesMost_64 : decode cX7_whoSparesMost 64 = .ok (.ireturn, 1) := by decide +kernel
theorem dX7_give_0 : decode cX7_give 0 = .ok (.aload_n 1, 1) := by decide +kernel
theorem dX7_give_1 : decode cX7_give 1 = .ok (.getfield 116, 3) := by decide +kernel
theorem dX7_give_4 : decode cX7_give 4 = .ok (.aload_n 1, 1) := by decide +kernel
theorem dX7_give_5 : decode cX7_give 5 = .ok (.getfield 165, 3) := by decide +kernel
theorem dX7_give_8 : decode cX7_give 8 = .ok (.aload_n 1, 1) := by decide +kernel
theorem dX7_give_9 : decode cX7_give 9 = .ok (.getfield 143, 3) := by decide +kernel
theorem dX7_give_12 : decode cX7_give 12 = .ok (.iload_n 2, 1) := by decide +kernel
theorem dX7_give_13 : decode cX7_give 13 = .ok (.isub, 1) := by decide +kernel
theorem dX7_give_14 : decode cX7_give 14 = .ok (.invokevirtual 218, 3) := by decide +kernel
theorem dX7_give_17 : decode cX7_give 17 = .ok (.if_icmp .le 28, 3) := by decide +kernel
theorem dX7_give_20 : decode cX7_give 20 = .ok (.aload_n 0, 1) := by decide +kernel
theorem dX7_give_21 : decode cX7_give 21 = .ok (.aload_n 1, 1) := by decide +kernel
theorem dX7_give_22 : decode cX7_give 22 = .ok (.invokevirtual 122, 3) := by decide +kernel
theorem dX7_give_25 : decode cX7_give 25 = .ok (.istore_n 3, 1) := by decide +kernel
theorem dX7_give_26 : decode cX7_give 26 = .ok (.aload_n 1, 1) := by decide +kernel
theorem dX7_give_27 : decode cX7_give 27 = .ok (.getfield 71, 3) := by decide +kernel
theorem dX7_give_30 : decode cX7_give 30 = .ok (.iconst 2, 1) := by decide +kernel
theorem dX7_give_31 : decode cX7_give 31 = .ok (.if_icmp .eq 14, 3) := by decide +kernel
theorem dX7_give_34 : decode cX7_give 34 = .ok (.aload_n 1, 1) := by decide +kernel
theorem dX7_give_35 : decode cX7_give 35 = .ok (.aload_n 1, 1) := by decide +kernel
theorem dX7_give_36 : decode cX7_give 36 = .ok (.getfield 86, 3) := by decide +kernel
theorem dX7_give_39 : decode cX7_give 39 = .ok (.iload_n 3, 1) := by decide +kernel
theorem dX7_give_40 : decode cX7_give 40 = .ok (.iadd, 1) := by decide +kernel
theorem dX7_give_41 : decode cX7_give 41 = .ok (.iconst 1, 1) := by decide +kernel
theorem dX7_give_42 : decode cX7_give 42 = .ok (.invokevirtual 89, 3) := by decide +kernel
theorem dX7_give_45 : decode cX7_give 45 = .ok (.aload_n 1, 1) := by decide +kernel
theorem dX7_give_46 : decode cX7_give 46 = .ok (.dup, 1) := by decide +kernel
theorem dX7_give_47 : decode cX7_give 47 = .ok (.getfield 143, 3) := by decide +kernel
theorem dX7_give_50 : decode cX7_give 50 = .ok (.iload_n 2, 1) := by decide +kernel
theorem dX7_give_51 : decode cX7_give 51 = .ok (.isub, 1) := by decide +kernel
theorem dX7_give_52 : decode cX7_give 52 = .ok (.putfield 143, 3) := by decide +kernel
theorem dX7_give_55 : decode cX7_give 55 = .ok (.aload_n 0, 1) := by decide +kernel
theorem dX7_give_56 : decode cX7_give 56 = .ok (.getfield 12, 3) := by decide +kernel
theorem dX7_give_59 : decode cX7_give 59 = .ok (.aload_n 0, 1) := by decide +kernel
theorem dX7_give_60 : decode cX7_give 60 = .ok (.getfield 32, 3) := by decide +kernel
theorem dX7_give_63 : decode cX7_give 63 = .ok (.aload_n 1, 1) := by decide +kernel
theorem dX7_give_64 : decode cX7_give 64 = .ok (.getfield 155, 3) := by decide +kernel
theorem dX7_give_67 : decode cX7_give 67 = .ok (.iconst 3, 1) := by decide +kernel
theorem dX7_give_68 : decode cX7_give 68 = .ok (.iload_n 2, 1) := by decide +kernel
theorem dX7_give_69 : decode cX7_give 69 = .ok (.invokevirtual 158, 3) := by decide +kernel
theorem dX7_give_72 : decode cX7_give 72 = .ok (.return_, 1) := by decide +kernel
theorem dX7_redeal_0 : decode cX7_redeal 0 = .ok (.iconst 0, 1) := by decide +kernel
theorem dX7_redeal_1 : decode cX7_redeal 1 = .ok (.istore_n 1, 1) := by decide +kernel
theorem dX7_redeal_2 : decode cX7_redeal 2 = .ok (.iload_n 1, 1) := by decide +kernel
theorem dX7_redeal_3 : decode cX7_redeal 3 = .ok (.aload_n 0, 1) := by decide +kernel
theorem dX7_redeal_4 : decode cX7_redeal 4 = .ok (.getfield 24, 3) := by decide +kernel
theorem dX7_redeal_7 : decode cX7_redeal 7 = .ok (.if_icmp .ge 44, 3) := by decide +kernel
theorem dX7_redeal_10 : decode cX7_redeal 10 = .ok (.aload_n 0, 1) := by decide +kernel
theorem dX7_redeal_11 : decode cX7_redeal 11 = .ok (.getfield 20, 3) := by decide +kernel
theorem dX7_redeal_14 : decode cX7_redeal 14 = .ok (.iload_n 1, 1) := by decide +kernel
theorem dX7_redeal_15 : decode cX7_redeal 15 = .ok (.aaload, 1) := by decide +kernel
theorem dX7_redeal_16 : decode cX7_redeal 16 = .ok (.getfield 71, 3) := by decide +kernel
theorem dX7_redeal_19 : decode cX7_redeal 19 = .ok (.iconst 2, 1) := by decide +kernel
theorem dX7_redeal_20 : decode cX7_redeal 20 = .ok (.if_icmp .ne 25, 3) := by decide +kernel
theorem dX7_redeal_23 : decode cX7_redeal 23 = .ok (.aload_n 0, 1) := by decide +kernel
theorem dX7_redeal_24 : decode cX7_redeal 24 = .ok (.getfield 20, 3) := by decide +kernel
theorem dX7_redeal_27 : decode cX7_redeal 27 = .ok (.iload_n 1, 1) := by decide +kernel
theorem dX7_redeal_28 : decode cX7_redeal 28 = .ok (.aaload, 1) := by decide +kernel
theorem dX7_redeal_29 : decode cX7_redeal 29 = .ok (.getfield 137, 3) := by decide +kernel
theorem dX7_redeal_32 : decode cX7_redeal 32 = .ok (.ifCond .ne 13, 3) := by decide +kernel
theorem dX7_redeal_35 : decode cX7_redeal 35 = .ok (.aload_n 0, 1) := by decide +kernel
theorem dX7_redeal_36 : decode cX7_redeal 36 = .ok (.aload_n 0, 1) := by decide +kernel
theorem dX7_redeal_37 : decode cX7_redeal 37 = .ok (.getfield 20, 3) := by decide +kernel
theorem dX7_redeal_40 : decode cX7_redeal 40 = .ok (.iload_n 1, 1) := by decide +kernel
theorem dX7_redeal_41 : decode cX7_redeal 41 = .ok (.aaload, 1) := by decide +kernel
theorem dX7_redeal_42 : decode cX7_redeal 42 = .ok (.invokevirtual 221, 3) := by decide +kernel
theorem dX7_redeal_45 : decode cX7_redeal 45 = .ok (.iinc 1 1, 3) := by decide +kernel
theorem dX7_redeal_48 : decode cX7_redeal 48 = .ok (.goto (-46), 3) := by decide +kernel
theorem dX7_redeal_51 : decode cX7_redeal 51 = .ok (.iconst 1, 1) := by decide +kernel
theorem dX7_redeal_52 : decode cX7_redeal 52 = .ok (.istore_n 1, 1) := by decide +kernel
theorem dX7_redeal_53 : decode cX7_redeal 53 = .ok (.iconst 0, 1) := by decide +kernel
theorem dX7_redeal_54 : decode cX7_redeal 54 = .ok (.istore_n 2, 1) := by decide +kernel
theorem dX7_redeal_55 : decode cX7_redeal 55 = .ok (.iload_n 2, 1) := by decide +kernel
theorem dX7_redeal_56 : decode cX7_redeal 56 = .ok (.aload_n 0, 1) := by decide +kernel
theorem dX7_redeal_57 : decode cX7_redeal 57 = .ok (.getfield 38, 3) := by decide +kernel
theorem dX7_redeal_60 : decode cX7_redeal 60 = .ok (.getfield 224, 3) := by decide +kernel
theorem dX7_redeal_63 : decode cX7_redeal 63 = .ok (.if_icmp .ge 18, 3) := by decide +kernel
theorem dX7_redeal_66 : decode cX7_redeal 66 = .ok (.iload_n 1, 1) := by decide +kernel
theorem dX7_redeal_67 : decode cX7_redeal 67 = .ok (.ifCond .eq 14, 3) := by decide +kernel
theorem dX7_redeal_70 : decode cX7_redeal 70 = .ok (.aload_n 0, 1) := by decide +kernel
theorem dX7_redeal_71 : decode cX7_redeal 71 = .ok (.invokevirtual 227, 3) := by decide +kernel
theorem dX7_redeal_74 : decode cX7_redeal 74 = .ok (.istore_n 1, 1) := by decide +kernel
theorem dX7_redeal_75 : decode cX7_redeal 75 = .ok (.iinc 2 1, 3) := by decide +kernel
theorem dX7_redeal_78 : decode cX7_redeal 78 = .ok (.goto (-23), 3) := by decide +kernel
theorem dX7_redeal_81 : decode cX7_redeal 81 = .ok (.iconst 0, 1) := by decide +kernel
theorem dX7_redeal_82 : decode cX7_redeal 82 = .ok (.istore_n 2, 1) := by decide +kernel
theorem dX7_redeal_83 : decode cX7_redeal 83 = .ok (.iload_n 2, 1) := by decide +kernel
theorem dX7_redeal_84 : decode cX7_redeal 84 = .ok (.aload_n 0, 1) := by decide +kernel
theorem dX7_redeal_85 : decode cX7_redeal 85 = .ok (.getfield 24, 3) := by decide +kernel
theorem dX7_redeal_88 : decode cX7_redeal 88 = .ok (.if_icmp .ge 19, 3) := by decide +kernel
theorem dX7_redeal_91 : decode cX7_redeal 91 = .ok (.aload_n 0, 1) := by decide +kernel
theorem dX7_redeal_92 : decode cX7_redeal 92 = .ok (.getfield 20, 3) := by decide +kernel
theorem dX7_redeal_95 : decode cX7_redeal 95 = .ok (.iload_n 2, 1) := by decide +kernel
theorem dX7_redeal_96 : decode cX7_redeal 96 = .ok (.aaload, 1) := by decide +kernel
theorem dX7_redeal_97 : decode cX7_redeal 97 = .ok (.iconst 0, 1) := by decide +kernel
theorem dX7_redeal_98 : decode cX7_redeal 98 = .ok (.putfield 230, 3) := by decide +kernel
theorem dX7_redeal_101 : decode cX7_redeal 101 = .ok (.iinc 2 1, 3) := by decide +kernel
theorem dX7_redeal_104 : decode cX7_redeal 104 = .ok (.goto (-21), 3) := by decide +kernel
theorem dX7_redeal_107 : decode cX7_redeal 107 = .ok (.return_, 1) := by decide +kernel
theorem dX7_squeeze_0 : decode cX7_squeeze 0 = .ok (.aload_n 1, 1) := by decide +kernel
theorem dX7_squeeze_1 : decode cX7_squeeze 1 = .ok (.getfield 116, 3) := by decide +kernel
theorem dX7_squeeze_4 : decode cX7_squeeze 4 = .ok (.aload_n 1, 1) := by decide +kernel
theorem dX7_squeeze_5 : decode cX7_squeeze 5 = .ok (.getfield 103, 3) := by decide +kernel
theorem dX7_squeeze_8 : decode cX7_squeeze 8 = .ok (.getfield 119, 3) := by decide +kernel
theorem dX7_squeeze_11 : decode cX7_squeeze 11 = .ok (.if_icmp .le 9, 3) := by decide +kernel
theorem dX7_squeeze_14 : decode cX7_squeeze 14 = .ok (.aload_n 0, 1) := by decide +kernel
theorem dX7_squeeze_15 : decode cX7_squeeze 15 = .ok (.aload_n 1, 1) := by decide +kernel
theorem dX7_squeeze_16 : decode cX7_squeeze 16 = .ok (.invokevirtual 122, 3) := by decide +kernel
theorem dX7_squeeze_19 : decode cX7_squeeze 19 = .ok (.pop, 1) := by decide +kernel
theorem dX7_squeeze_20 : decode cX7_squeeze 20 = .ok (.aload_n 1, 1) := by decide +kernel
theorem dX7_squeeze_21 : decode cX7_squeeze 21 = .ok (.aload_n 0, 1) := by decide +kernel
theorem dX7_squeeze_22 : decode cX7_squeeze 22 = .ok (.getfield 38, 3) := by decide +kernel
theorem dX7_squeeze_25 : decode cX7_squeeze 25 = .ok (.invokevirtual 207, 3) := by decide +kernel
theorem dX7_squeeze_28 : decode cX7_squeeze 28 = .ok (.istore_n 2, 1) := by decide +kernel
theorem dX7_squeeze_29 : decode cX7_squeeze 29 = .ok (.aload_n 1, 1) := by decide +kernel
theorem dX7_squeeze_30 : decode cX7_squeeze 30 = .ok (.iconst 1, 1) := by decide +kernel
theorem dX7_squeeze_31 : decode cX7_squeeze 31 = .ok (.putfield 137, 3) := by decide +kernel
theorem dX7_squeeze_34 : decode cX7_squeeze 34 = .ok (.aload_n 1, 1) := by decide +kernel
theorem dX7_squeeze_35 : decode cX7_squeeze 35 = .ok (.aload_n 1, 1) := by decide +kernel
theorem dX7_squeeze_36 : decode cX7_squeeze 36 = .ok (.getfield 143, 3) := by decide +kernel
theorem dX7_squeeze_39 : decode cX7_squeeze 39 = .ok (.putfield 140, 3) := by decide +kernel
theorem dX7_squeeze_42 : decode cX7_squeeze 42 = .ok (.aload_n 1, 1) := by decide +kernel
theorem dX7_squeeze_43 : decode cX7_squeeze 43 = .ok (.dup, 1) := by decide +kernel
theorem dX7_squeeze_44 : decode cX7_squeeze 44 = .ok (.getfield 143, 3) := by decide +kernel
theorem dX7_squeeze_47 : decode cX7_squeeze 47 = .ok (.iload_n 2, 1) := by decide +kernel
theorem dX7_squeeze_48 : decode cX7_squeeze 48 = .ok (.isub, 1) := by decide +kernel
theorem dX7_squeeze_49 : decode cX7_squeeze 49 = .ok (.putfield 143, 3) := by decide +kernel
theorem dX7_squeeze_52 : decode cX7_squeeze 52 = .ok (.aload_n 0, 1) := by decide +kernel
theorem dX7_squeeze_53 : decode cX7_squeeze 53 = .ok (.dup, 1) := by decide +kernel
theorem dX7_squeeze_54 : decode cX7_squeeze 54 = .ok (.getfield 35, 3) := by decide +kernel
theorem dX7_squeeze_57 : decode cX7_squeeze 57 = .ok (.iload_n 2, 1) := by decide +kernel
theorem dX7_squeeze_58 : decode cX7_squeeze 58 = .ok (.iadd, 1) := by decide +kernel
theorem dX7_squeeze_59 : decode cX7_squeeze 59 = .ok (.putfield 35, 3) := by decide +kernel
theorem dX7_squeeze_62 : decode cX7_squeeze 62 = .ok (.aload_n 0, 1) := by decide +kernel
theorem dX7_squeeze_63 : decode cX7_squeeze 63 = .ok (.getfield 12, 3) := by decide +kernel
theorem dX7_squeeze_66 : decode cX7_squeeze 66 = .ok (.aload_n 0, 1) := by decide +kernel
theorem dX7_squeeze_67 : decode cX7_squeeze 67 = .ok (.getfield 32, 3) := by decide +kernel
theorem dX7_squeeze_70 : decode cX7_squeeze 70 = .ok (.aload_n 1, 1) := by decide +kernel
theorem dX7_squeeze_71 : decode cX7_squeeze 71 = .ok (.getfield 155, 3) := by decide +kernel
theorem dX7_squeeze_74 : decode cX7_squeeze 74 = .ok (.iconst 4, 1) := by decide +kernel
theorem dX7_squeeze_75 : decode cX7_squeeze 75 = .ok (.iload_n 2, 1) := by decide +kernel
theorem dX7_squeeze_76 : decode cX7_squeeze 76 = .ok (.invokevirtual 158, 3) := by decide +kernel
theorem dX7_squeeze_79 : decode cX7_squeeze 79 = .ok (.return_, 1) := by decide +kernel
theorem dX7_movesStep_0 : decode cX7_movesStep 0 = .ok (.aload_n 0, 1) := by decide +kernel
theorem dX7_movesStep_1 : decode cX7_movesStep 1 = .ok (.invokevirtual 233, 3) := by decide +kernel
theorem dX7_movesStep_4 : decode cX7_movesStep 4 = .ok (.istore_n 1, 1) := by decide +kernel
theorem dX7_movesStep_5 : decode cX7_movesStep 5 = .ok (.iload_n 1, 1) := by decide +kernel
theorem dX7_movesStep_6 : decode cX7_movesStep 6 = .ok (.iconst (-1), 1) := by decide +kernel
theorem dX7_movesStep_7 : decode cX7_movesStep 7 = .ok (.if_icmp .ne 5, 3) := by decide +kernel
theorem dX7_movesStep_10 : decode cX7_movesStep 10 = .ok (.iconst 0, 1) := by decide +kernel
theorem dX7_movesStep_11 : decode cX7_movesStep 11 = .ok (.ireturn, 1) := by decide +kernel
theorem dX7_movesStep_12 : decode cX7_movesStep 12 = .ok (.aload_n 0, 1) := by decide +kernel
theorem dX7_movesStep_13 : decode cX7_movesStep 13 = .ok (.getfield 35, 3) := by decide +kernel
theorem dX7_movesStep_16 : decode cX7_movesStep 16 = .ok (.aload_n 0, 1) := by decide +kernel
theorem dX7_movesStep_17 : decode cX7_movesStep 17 = .ok (.getfield 38, 3) := by decide +kernel
theorem dX7_movesStep_20 : decode cX7_movesStep 20 = .ok (.getfield 236, 3) := by decide +kernel
theorem dX7_movesStep_23 : decode cX7_movesStep 23 = .ok (.aload_n 0, 1) := by decide +kernel
theorem dX7_movesStep_24 : decode cX7_movesStep 24 = .ok (.getfield 38, 3) := by decide +kernel
theorem dX7_movesStep_27 : decode cX7_movesStep 27 = .ok (.getfield 53, 3) := by decide +kernel
theorem dX7_movesStep_30 : decode cX7_movesStep 30 = .ok (.iadd, 1) := by decide +kernel
theorem dX7_movesStep_31 : decode cX7_movesStep 31 = .ok (.if_icmp .lt 22, 3) := by decide +kernel
theorem dX7_movesStep_34 : decode cX7_movesStep 34 = .ok (.aload_n 0, 1) := by decide +kernel
theorem dX7_movesStep_35 : decode cX7_movesStep 35 = .ok (.dup, 1) := by decide +kernel
theorem dX7_movesStep_36 : decode cX7_movesStep 36 = .ok (.getfield 35, 3) := by decide +kernel
theorem dX7_movesStep_39 : decode cX7_movesStep 39 = .ok (.aload_n 0, 1) := by decide +kernel
theorem dX7_movesStep_40 : decode cX7_movesStep 40 = .ok (.getfield 38, 3) := by decide +kernel
theorem dX7_movesStep_43 : decode cX7_movesStep 43 = .ok (.getfield 53, 3) := by decide +kernel
theorem dX7_movesStep_46 : decode cX7_movesStep 46 = .ok (.isub, 1) := by decide +kernel
theorem dX7_movesStep_47 : decode cX7_movesStep 47 = .ok (.putfield 35, 3) := by decide +kernel
theorem dX7_movesStep_50 : decode cX7_movesStep 50 = .ok (.goto 63, 3) := by decide +kernel
theorem dX7_movesStep_53 : decode cX7_movesStep 53 = .ok (.aload_n 0, 1) := by decide +kernel
theorem dX7_movesStep_54 : decode cX7_movesStep 54 = .ok (.iload_n 1, 1) := by decide +kernel
theorem dX7_movesStep_55 : decode cX7_movesStep 55 = .ok (.invokevirtual 239, 3) := by decide +kernel
theorem dX7_movesStep_58 : decode cX7_movesStep 58 = .ok (.istore_n 2, 1) := by decide +kernel
theorem dX7_movesStep_59 : decode cX7_movesStep 59 = .ok (.iload_n 2, 1) := by decide +kernel
theorem dX7_movesStep_60 : decode cX7_movesStep 60 = .ok (.iconst (-1), 1) := by decide +kernel
theorem dX7_movesStep_61 : decode cX7_movesStep 61 = .ok (.if_icmp .eq 33, 3) := by decide +kernel
theorem dX7_movesStep_64 : decode cX7_movesStep 64 = .ok (.aload_n 0, 1) := by decide +kernel
theorem dX7_movesStep_65 : decode cX7_movesStep 65 = .ok (.getfield 20, 3) := by decide +kernel
theorem dX7_movesStep_68 : decode cX7_movesStep 68 = .ok (.iload_n 2, 1) := by decide +kernel
theorem dX7_movesStep_69 : decode cX7_movesStep 69 = .ok (.aaload, 1) := by decide +kernel
theorem dX7_movesStep_70 : decode cX7_movesStep 70 = .ok (.aload_n 0, 1) := by decide +kernel
theorem dX7_movesStep_71 : decode cX7_movesStep 71 = .ok (.getfield 38, 3) := by decide +kernel
theorem dX7_movesStep_74 : decode cX7_movesStep 74 = .ok (.invokevirtual 242, 3) := by decide +kernel
theorem dX7_movesStep_77 : decode cX7_movesStep 77 = .ok (.aload_n 0, 1) := by decide +kernel
theorem dX7_movesStep_78 : decode cX7_movesStep 78 = .ok (.getfield 20, 3) := by decide +kernel
theorem dX7_movesStep_81 : decode cX7_movesStep 81 = .ok (.iload_n 1, 1) := by decide +kernel
theorem dX7_movesStep_82 : decode cX7_movesStep 82 = .ok (.aaload, 1) := by decide +kernel
theorem dX7_movesStep_83 : decode cX7_movesStep 83 = .ok (.aload_n 0, 1) := by decide +kernel
theorem dX7_movesStep_84 : decode cX7_movesStep 84 = .ok (.getfield 38, 3) := by decide +kernel
theorem dX7_movesStep_87 : decode cX7_movesStep 87 = .ok (.invokevirtual 246, 3) := by decide +kernel
theorem dX7_movesStep_90 : decode cX7_movesStep 90 = .ok (.lcmp, 1) := by decide +kernel
theorem dX7_movesStep_91 : decode cX7_movesStep 91 = .ok (.ifCond .lt 5, 3) := by decide +kernel
theorem dX7_movesStep_94 : decode cX7_movesStep 94 = .ok (.iconst 0, 1) := by decide +kernel
theorem dX7_movesStep_95 : decode cX7_movesStep 95 = .ok (.ireturn, 1) := by decide +kernel
theorem dX7_movesStep_96 : decode cX7_movesStep 96 = .ok (.aload_n 0, 1) := by decide +kernel
theorem dX7_movesStep_97 : decode cX7_movesStep 97 = .ok (.aload_n 0, 1) := by decide +kernel
theorem dX7_movesStep_98 : decode cX7_movesStep 98 = .ok (.getfield 20, 3) := by decide +kernel
theorem dX7_movesStep_101 : decode cX7_movesStep 101 = .ok (.iload_n 2, 1) := by decide +kernel
theorem dX7_movesStep_102 : decode cX7_movesStep 102 = .ok (.aaload, 1) := by decide +kernel
theorem dX7_movesStep_103 : decode cX7_movesStep 103 = .ok (.aload_n 0, 1) := by decide +kernel
theorem dX7_movesStep_104 : decode cX7_movesStep 104 = .ok (.getfield 38, 3) := by decide +kernel
theorem dX7_movesStep_107 : decode cX7_movesStep 107 = .ok (.getfield 53, 3) := by decide +kernel
theorem dX7_movesStep_110 : decode cX7_movesStep 110 = .ok (.invokevirtual 211, 3) := by decide +kernel
theorem dX7_movesStep_113 : decode cX7_movesStep 113 = .ok (.aload_n 0, 1) := by decide +kernel
theorem dX7_movesStep_114 : decode cX7_movesStep 114 = .ok (.getfield 20, 3) := by decide +kernel
theorem dX7_movesStep_117 : decode cX7_movesStep 117 = .ok (.iload_n 1, 1) := by decide +kernel
theorem dX7_movesStep_118 : decode cX7_movesStep 118 = .ok (.aaload, 1) := by decide +kernel
theorem dX7_movesStep_119 : decode cX7_movesStep 119 = .ok (.dup, 1) := by decide +kernel
theorem dX7_movesStep_120 : decode cX7_movesStep 120 = .ok (.getfield 143, 3) := by decide +kernel
theorem dX7_movesStep_123 : decode cX7_movesStep 123 = .ok (.aload_n 0, 1) := by decide +kernel
theorem dX7_movesStep_124 : decode cX7_movesStep 124 = .ok (.getfield 38, 3) := by decide +kernel
theorem dX7_movesStep_127 : decode cX7_movesStep 127 = .ok (.getfield 53, 3) := by decide +kernel
theorem dX7_movesStep_130 : decode cX7_movesStep 130 = .ok (.iadd, 1) := by decide +kernel
theorem dX7_movesStep_131 : decode cX7_movesStep 131 = .ok (.putfield 143, 3) := by decide +kernel
theorem dX7_movesStep_134 : decode cX7_movesStep 134 = .ok (.aload_n 0, 1) := by decide +kernel
theorem dX7_movesStep_135 : decode cX7_movesStep 135 = .ok (.getfield 12, 3) := by decide +kernel
theorem dX7_movesStep_138 : decode cX7_movesStep 138 = .ok (.aload_n 0, 1) := by decide +kernel
theorem dX7_movesStep_139 : decode cX7_movesStep 139 = .ok (.getfield 32, 3) := by decide +kernel
theorem dX7_movesStep_142 : decode cX7_movesStep 142 = .ok (.iload_n 1, 1) := by decide +kernel
theorem dX7_movesStep_143 : decode cX7_movesStep 143 = .ok (.bipush 8, 2) := by decide +kernel
theorem dX7_movesStep_145 : decode cX7_movesStep 145 = .ok (.aload_n 0, 1) := by decide +kernel
theorem dX7_movesStep_146 : decode cX7_movesStep 146 = .ok (.getfield 38, 3) := by decide +kernel
theorem dX7_movesStep_149 : decode cX7_movesStep 149 = .ok (.getfield 53, 3) := by decide +kernel
theorem dX7_movesStep_152 : decode cX7_movesStep 152 = .ok (.invokevirtual 158, 3) := by decide +kernel
theorem dX7_movesStep_155 : decode cX7_movesStep 155 = .ok (.iconst 1, 1) := by decide +kernel
theorem dX7_movesStep_156 : decode cX7_movesStep 156 = .ok (.ireturn, 1) := by decide +kernel
theorem dX7_whoGainsMost_0 : decode cX7_whoGainsMost 0 = .ok (.iconst (-1), 1) := by decide +kernel
theorem dX7_whoGainsMost_1 : decode cX7_whoGainsMost 1 = .ok (.istore_n 1, 1) := by decide +kernel
theorem dX7_whoGainsMost_2 : decode cX7_whoGainsMost 2 = .ok (.lconst 0, 1) := by decide +kernel
theorem dX7_whoGainsMost_3 : decode cX7_whoGainsMost 3 = .ok (.lstore_n 2, 1) := by decide +kernel
theorem dX7_whoGainsMost_4 : decode cX7_whoGainsMost 4 = .ok (.iconst 0, 1) := by decide +kernel
theorem dX7_whoGainsMost_5 : decode cX7_whoGainsMost 5 = .ok (.istore 4, 2) := by decide +kernel
theorem dX7_whoGainsMost_7 : decode cX7_whoGainsMost 7 = .ok (.iload 4, 2) := by decide +kernel
theorem dX7_whoGainsMost_9 : decode cX7_whoGainsMost 9 = .ok (.aload_n 0, 1) := by decide +kernel
theorem dX7_whoGainsMost_10 : decode cX7_whoGainsMost 10 = .ok (.getfield 24, 3) := by decide +kernel
theorem dX7_whoGainsMost_13 : decode cX7_whoGainsMost 13 = .ok (.if_icmp .ge 38, 3) := by decide +kernel
theorem dX7_whoGainsMost_16 : decode cX7_whoGainsMost 16 = .ok (.aload_n 0, 1) := by decide +kernel
theorem dX7_whoGainsMost_17 : decode cX7_whoGainsMost 17 = .ok (.getfield 20, 3) := by decide +kernel
theorem dX7_whoGainsMost_20 : decode cX7_whoGainsMost 20 = .ok (.iload 4, 2) := by decide +kernel
theorem dX7_whoGainsMost_22 : decode cX7_whoGainsMost 22 = .ok (.aaload, 1) := by decide +kernel
theorem dX7_whoGainsMost_23 : decode cX7_whoGainsMost 23 = .ok (.aload_n 0, 1) := by decide +kernel
theorem dX7_whoGainsMost_24 : decode cX7_whoGainsMost 24 = .ok (.getfield 38, 3) := by decide +kernel
theorem dX7_whoGainsMost_27 : decode cX7_whoGainsMost 27 = .ok (.invokevirtual 246, 3) := by decide +kernel
theorem dX7_whoGainsMost_30 : decode cX7_whoGainsMost 30 = .ok (.lstore 5, 2) := by decide +kernel
theorem dX7_whoGainsMost_32 : decode cX7_whoGainsMost 32 = .ok (.lload 5, 2) := by decide +kernel
theorem dX7_whoGainsMost_34 : decode cX7_whoGainsMost 34 = .ok (.lload_n 2, 1) := by decide +kernel
theorem dX7_whoGainsMost_35 : decode cX7_whoGainsMost 35 = .ok (.lcmp, 1) := by decide +kernel
theorem dX7_whoGainsMost_36 : decode cX7_whoGainsMost 36 = .ok (.ifCond .le 9, 3) := by decide +kernel
theorem dX7_whoGainsMost_39 : decode cX7_whoGainsMost 39 = .ok (.lload 5, 2) := by decide +kernel
theorem dX7_whoGainsMost_41 : decode cX7_whoGainsMost 41 = .ok (.lstore_n 2, 1) := by decide +kernel
theorem dX7_whoGainsMost_42 : decode cX7_whoGainsMost 42 = .ok (.iload 4, 2) := by decide +kernel
theorem dX7_whoGainsMost_44 : decode cX7_whoGainsMost 44 = .ok (.istore_n 1, 1) := by decide +kernel
theorem dX7_whoGainsMost_45 : decode cX7_whoGainsMost 45 = .ok (.iinc 4 1, 3) := by decide +kernel
theorem dX7_whoGainsMost_48 : decode cX7_whoGainsMost 48 = .ok (.goto (-41), 3) := by decide +kernel
theorem dX7_whoGainsMost_51 : decode cX7_whoGainsMost 51 = .ok (.iload_n 1, 1) := by decide +kernel
theorem dX7_whoGainsMost_52 : decode cX7_whoGainsMost 52 = .ok (.ireturn, 1) := by decide +kernel
theorem dX7_whoLosesLeast_0 : decode cX7_whoLosesLeast 0 = .ok (.iconst (-1), 1) := by decide +kernel
theorem dX7_whoLosesLeast_1 : decode cX7_whoLosesLeast 1 = .ok (.istore_n 2, 1) := by decide +kernel
theorem dX7_whoLosesLeast_2 : decode cX7_whoLosesLeast 2 = .ok (.lconst 0, 1) := by decide +kernel
theorem dX7_whoLosesLeast_3 : decode cX7_whoLosesLeast 3 = .ok (.lstore_n 3, 1) := by decide +kernel
theorem dX7_whoLosesLeast_4 : decode cX7_whoLosesLeast 4 = .ok (.iconst 0, 1) := by decide +kernel
theorem dX7_whoLosesLeast_5 : decode cX7_whoLosesLeast 5 = .ok (.istore 5, 2) := by decide +kernel
theorem dX7_whoLosesLeast_7 : decode cX7_whoLosesLeast 7 = .ok (.iload 5, 2) := by decide +kernel
theorem dX7_whoLosesLeast_9 : decode cX7_whoLosesLeast 9 = .ok (.aload_n 0, 1) := by decide +kernel
theorem dX7_whoLosesLeast_10 : decode cX7_whoLosesLeast 10 = .ok (.getfield 24, 3) := by decide +kernel
theorem dX7_whoLosesLeast_13 : decode cX7_whoLosesLeast 13 = .ok (.if_icmp .ge 64, 3) := by decide +kernel
theorem dX7_whoLosesLeast_16 : decode cX7_whoLosesLeast 16 = .ok (.iload 5, 2) := by decide +kernel
theorem dX7_whoLosesLeast_18 : decode cX7_whoLosesLeast 18 = .ok (.iload_n 1, 1) := by decide +kernel
theorem dX7_whoLosesLeast_19 : decode cX7_whoLosesLeast 19 = .ok (.if_icmp .ne 9, 3) := by decide +kernel
theorem dX7_whoLosesLeast_22 : decode cX7_whoLosesLeast 22 = .ok (.ldc2_w 249, 3) := by decide +kernel
theorem dX7_whoLosesLeast_25 : decode cX7_whoLosesLeast 25 = .ok (.goto 17, 3) := by decide +kernel
theorem dX7_whoLosesLeast_28 : decode cX7_whoLosesLeast 28 = .ok (.aload_n 0, 1) := by decide +kernel
theorem dX7_whoLosesLeast_29 : decode cX7_whoLosesLeast 29 = .ok (.getfield 20, 3) := by decide +kernel
theorem dX7_whoLosesLeast_32 : decode cX7_whoLosesLeast 32 = .ok (.iload 5, 2) := by decide +kernel
theorem dX7_whoLosesLeast_34 : decode cX7_whoLosesLeast 34 = .ok (.aaload, 1) := by decide +kernel
theorem dX7_whoLosesLeast_35 : decode cX7_whoLosesLeast 35 = .ok (.aload_n 0, 1) := by decide +kernel
theorem dX7_whoLosesLeast_36 : decode cX7_whoLosesLeast 36 = .ok (.getfield 38, 3) := by decide +kernel
theorem dX7_whoLosesLeast_39 : decode cX7_whoLosesLeast 39 = .ok (.invokevirtual 242, 3) := by decide +kernel
theorem dX7_whoLosesLeast_42 : decode cX7_whoLosesLeast 42 = .ok (.lstore 6, 2) := by decide +kernel
theorem dX7_whoLosesLeast_44 : decode cX7_whoLosesLeast 44 = .ok (.lload 6, 2) := by decide +kernel
theorem dX7_whoLosesLeast_46 : decode cX7_whoLosesLeast 46 = .ok (.ldc2_w 249, 3) := by decide +kernel
theorem dX7_whoLosesLeast_49 : decode cX7_whoLosesLeast 49 = .ok (.lcmp, 1) := by decide +kernel
theorem dX7_whoLosesLeast_50 : decode cX7_whoLosesLeast 50 = .ok (.ifCond .eq 21, 3) := by decide +kernel
theorem dX7_whoLosesLeast_53 : decode cX7_whoLosesLeast 53 = .ok (.iload_n 2, 1) := by decide +kernel
theorem dX7_whoLosesLeast_54 : decode cX7_whoLosesLeast 54 = .ok (.iconst (-1), 1) := by decide +kernel
theorem dX7_whoLosesLeast_55 : decode cX7_whoLosesLeast 55 = .ok (.if_icmp .eq 10, 3) := by decide +kernel
theorem dX7_whoLosesLeast_58 : decode cX7_whoLosesLeast 58 = .ok (.lload 6, 2) := by decide +kernel
theorem dX7_whoLosesLeast_60 : decode cX7_whoLosesLeast 60 = .ok (.lload_n 3, 1) := by decide +kernel
theorem dX7_whoLosesLeast_61 : decode cX7_whoLosesLeast 61 = .ok (.lcmp, 1) := by decide +kernel
theorem dX7_whoLosesLeast_62 : decode cX7_whoLosesLeast 62 = .ok (.ifCond .ge 9, 3) := by decide +kernel
theorem dX7_whoLosesLeast_65 : decode cX7_whoLosesLeast 65 = .ok (.lload 6, 2) := by decide +kernel
theorem dX7_whoLosesLeast_67 : decode cX7_whoLosesLeast 67 = .ok (.lstore_n 3, 1) := by decide +kernel
theorem dX7_whoLosesLeast_68 : decode cX7_whoLosesLeast 68 = .ok (.iload 5, 2) := by decide +kernel
theorem dX7_whoLosesLeast_70 : decode cX7_whoLosesLeast 70 = .ok (.istore_n 2, 1) := by decide +kernel
theorem dX7_whoLosesLeast_71 : decode cX7_whoLosesLeast 71 = .ok (.iinc 5 1, 3) := by decide +kernel
theorem dX7_whoLosesLeast_74 : decode cX7_whoLosesLeast 74 = .ok (.goto (-67), 3) := by decide +kernel
theorem dX7_whoLosesLeast_77 : decode cX7_whoLosesLeast 77 = .ok (.iload_n 2, 1) := by decide +kernel
theorem dX7_whoLosesLeast_78 : decode cX7_whoLosesLeast 78 = .ok (.ireturn, 1) := by decide +kernel
