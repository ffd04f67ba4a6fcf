theorem dX2_init_0 : decode cX2_init 0 = .ok (.aload_n 0, 1) := by decide +kernel
theorem dX2_init_1 : decode cX2_init 1 = .ok (.invokespecial 3, 3) := by decide +kernel
theorem dX2_init_4 : decode cX2_init 4 = .ok (.aload_n 0, 1) := by decide +kernel
theorem dX2_init_5 : decode cX2_init 5 = .ok (.new 9, 3) := by decide +kernel
theorem dX2_init_8 : decode cX2_init 8 = .ok (.dup, 1) := by decide +kernel
theorem dX2_init_9 : decode cX2_init 9 = .ok (.invokespecial 11, 3) := by decide +kernel
theorem dX2_init_12 : decode cX2_init 12 = .ok (.putfield 12, 3) := by decide +kernel
theorem dX2_init_15 : decode cX2_init 15 = .ok (.aload_n 0, 1) := by decide +kernel
theorem dX2_init_16 : decode cX2_init 16 = .ok (.iload_n 1, 1) := by decide +kernel
theorem dX2_init_17 : decode cX2_init 17 = .ok (.putfield 18, 3) := by decide +kernel
theorem dX2_init_20 : decode cX2_init 20 = .ok (.aload_n 0, 1) := by decide +kernel
theorem dX2_init_21 : decode cX2_init 21 = .ok (.aload_n 2, 1) := by decide +kernel
theorem dX2_init_22 : decode cX2_init 22 = .ok (.putfield 22, 3) := by decide +kernel
theorem dX2_init_25 : decode cX2_init 25 = .ok (.return_, 1) := by decide +kernel
theorem dX2_start_0 : decode cX2_start 0 = .ok (.aload_n 0, 1) := by decide +kernel
theorem dX2_start_1 : decode cX2_start 1 = .ok (.getfield 12, 3) := by decide +kernel
theorem dX2_start_4 : decode cX2_start 4 = .ok (.invokevirtual 26, 3) := by decide +kernel
theorem dX2_start_7 : decode cX2_start 7 = .ok (.aload_n 0, 1) := by decide +kernel
theorem dX2_start_8 : decode cX2_start 8 = .ok (.iconst 0, 1) := by decide +kernel
theorem dX2_start_9 : decode cX2_start 9 = .ok (.putfield 29, 3) := by decide +kernel
theorem dX2_start_12 : decode cX2_start 12 = .ok (.aload_n 0, 1) := by decide +kernel
theorem dX2_start_13 : decode cX2_start 13 = .ok (.iload_n 1, 1) := by decide +kernel
theorem dX2_start_14 : decode cX2_start 14 = .ok (.putfield 32, 3) := by decide +kernel
theorem dX2_start_17 : decode cX2_start 17 = .ok (.aload_n 0, 1) := by decide +kernel
theorem dX2_start_18 : decode cX2_start 18 = .ok (.iconst 0, 1) := by decide +kernel
theorem dX2_start_19 : decode cX2_start 19 = .ok (.putfield 35, 3) := by decide +kernel
theorem dX2_start_22 : decode cX2_start 22 = .ok (.aload_n 0, 1) := by decide +kernel
theorem dX2_start_23 : decode cX2_start 23 = .ok (.iconst 0, 1) := by decide +kernel
theorem dX2_start_24 : decode cX2_start 24 = .ok (.putfield 38, 3) := by decide +kernel
theorem dX2_start_27 : decode cX2_start 27 = .ok (.aload_n 0, 1) := by decide +kernel
theorem dX2_start_28 : decode cX2_start 28 = .ok (.iconst 0, 1) := by decide +kernel
theorem dX2_start_29 : decode cX2_start 29 = .ok (.putfield 41, 3) := by decide +kernel
theorem dX2_start_32 : decode cX2_start 32 = .ok (.aload_n 0, 1) := by decide +kernel
theorem dX2_start_33 : decode cX2_start 33 = .ok (.iconst 0, 1) := by decide +kernel
theorem dX2_start_34 : decode cX2_start 34 = .ok (.putfield 44, 3) := by decide +kernel
theorem dX2_start_37 : decode cX2_start 37 = .ok (.aload_n 0, 1) := by decide +kernel
theorem dX2_start_38 : decode cX2_start 38 = .ok (.iconst 0, 1) := by decide +kernel
theorem dX2_start_39 : decode cX2_start 39 = .ok (.putfield 47, 3) := by decide +kernel
theorem dX2_start_42 : decode cX2_start 42 = .ok (.aload_n 0, 1) := by decide +kernel
theorem dX2_start_43 : decode cX2_start 43 = .ok (.iconst (-1), 1) := by decide +kernel
theorem dX2_start_44 : decode cX2_start 44 = .ok (.putfield 50, 3) := by decide +kernel
theorem dX2_start_47 : decode cX2_start 47 = .ok (.aload_n 0, 1) := by decide +kernel
theorem dX2_start_48 : decode cX2_start 48 = .ok (.iconst 0, 1) := by decide +kernel
theorem dX2_start_49 : decode cX2_start 49 = .ok (.putfield 53, 3) := by decide +kernel
theorem dX2_start_52 : decode cX2_start 52 = .ok (.aload_n 0, 1) := by decide +kernel
theorem dX2_start_53 : decode cX2_start 53 = .ok (.iconst 0, 1) := by decide +kernel
theorem dX2_start_54 : decode cX2_start 54 = .ok (.putfield 56, 3) := by decide +kernel
theorem dX2_start_57 : decode cX2_start 57 = .ok (.aload_n 0, 1) := by decide +kernel
theorem dX2_start_58 : decode cX2_start 58 = .ok (.iconst 0, 1) := by decide +kernel
theorem dX2_start_59 : decode cX2_start 59 = .ok (.putfield 60, 3) := by decide +kernel
theorem dX2_start_62 : decode cX2_start 62 = .ok (.aload_n 0, 1) := by decide +kernel
theorem dX2_start_63 : decode cX2_start 63 = .ok (.iconst 0, 1) := by decide +kernel
theorem dX2_start_64 : decode cX2_start 64 = .ok (.putfield 63, 3) := by decide +kernel
theorem dX2_start_67 : decode cX2_start 67 = .ok (.aload_n 0, 1) := by decide +kernel
theorem dX2_start_68 : decode cX2_start 68 = .ok (.iconst 0, 1) := by decide +kernel
theorem dX2_start_69 : decode cX2_start 69 = .ok (.putfield 66, 3) := by decide +kernel
theorem dX2_start_72 : decode cX2_start 72 = .ok (.aload_n 0, 1) := by decide +kernel
theorem dX2_start_73 : decode cX2_start 73 = .ok (.iconst 0, 1) := by decide +kernel
theorem dX2_start_74 : decode cX2_start 74 = .ok (.putfield 69, 3) := by decide +kernel
theorem dX2_start_77 : decode cX2_start 77 = .ok (.return_, 1) := by decide +kernel
theorem dX2_goesOn_0 : decode cX2_goesOn 0 = .ok (.aload_n 0, 1) := by decide +kernel
theorem dX2_goesOn_1 : decode cX2_goesOn 1 = .ok (.getfield 29, 3) := by decide +kernel
theorem dX2_goesOn_4 : decode cX2_goesOn 4 = .ok (.iconst 3, 1) := by decide +kernel
theorem dX2_goesOn_5 : decode cX2_goesOn 5 = .ok (.if_icmp .eq 15, 3) := by decide +kernel
theorem dX2_goesOn_8 : decode cX2_goesOn 8 = .ok (.aload_n 0, 1) := by decide +kernel
theorem dX2_goesOn_9 : decode cX2_goesOn 9 = .ok (.getfield 29, 3) := by decide +kernel
theorem dX2_goesOn_12 : decode cX2_goesOn 12 = .ok (.iconst 4, 1) := by decide +kernel
theorem dX2_goesOn_13 : decode cX2_goesOn 13 = .ok (.if_icmp .eq 7, 3) := by decide +kernel
theorem dX2_goesOn_16 : decode cX2_goesOn 16 = .ok (.iconst 1, 1) := by decide +kernel
theorem dX2_goesOn_17 : decode cX2_goesOn 17 = .ok (.goto 4, 3) := by decide +kernel
theorem dX2_goesOn_20 : decode cX2_goesOn 20 = .ok (.iconst 0, 1) := by decide +kernel
theorem dX2_goesOn_21 : decode cX2_goesOn 21 = .ok (.ireturn, 1) := by decide +kernel
theorem dX2_isAwake_0 : decode cX2_isAwake 0 = .ok (.aload_n 0, 1) := by decide +kernel
theorem dX2_isAwake_1 : decode cX2_isAwake 1 = .ok (.getfield 29, 3) := by decide +kernel
theorem dX2_isAwake_4 : decode cX2_isAwake 4 = .ok (.ifCond .eq 11, 3) := by decide +kernel
theorem dX2_isAwake_7 : decode cX2_isAwake 7 = .ok (.aload_n 0, 1) := by decide +kernel
theorem dX2_isAwake_8 : decode cX2_isAwake 8 = .ok (.getfield 29, 3) := by decide +kernel
theorem dX2_isAwake_11 : decode cX2_isAwake 11 = .ok (.iconst 1, 1) := by decide +kernel
theorem dX2_isAwake_12 : decode cX2_isAwake 12 = .ok (.if_icmp .ne 7, 3) := by decide +kernel
theorem dX2_isAwake_15 : decode cX2_isAwake 15 = .ok (.iconst 1, 1) := by decide +kernel
theorem dX2_isAwake_16 : decode cX2_isAwake 16 = .ok (.goto 4, 3) := by decide +kernel
theorem dX2_isAwake_19 : decode cX2_isAwake 19 = .ok (.iconst 0, 1) := by decide +kernel
theorem dX2_isAwake_20 : decode cX2_isAwake 20 = .ok (.ireturn, 1) := by decide +kernel
theorem dX2_nextAct_0 : decode cX2_nextAct 0 = .ok (.aload_n 0, 1) := by decide +kernel
theorem dX2_nextAct_1 : decode cX2_nextAct 1 = .ok (.getfield 41, 3) := by decide +kernel
theorem dX2_nextAct_4 : decode cX2_nextAct 4 = .ok (.ifCond .lt 32, 3) := by decide +kernel
theorem dX2_nextAct_7 : decode cX2_nextAct 7 = .ok (.aload_n 0, 1) := by decide +kernel
theorem dX2_nextAct_8 : decode cX2_nextAct 8 = .ok (.getfield 41, 3) := by decide +kernel
theorem dX2_nextAct_11 : decode cX2_nextAct 11 = .ok (.aload_n 0, 1) := by decide +kernel
theorem dX2_nextAct_12 : decode cX2_nextAct 12 = .ok (.getfield 22, 3) := by decide +kernel
theorem dX2_nextAct_15 : decode cX2_nextAct 15 = .ok (.getfield 72, 3) := by decide +kernel
theorem dX2_nextAct_18 : decode cX2_nextAct 18 = .ok (.if_icmp .ge 18, 3) := by decide +kernel
theorem dX2_nextAct_21 : decode cX2_nextAct 21 = .ok (.aload_n 0, 1) := by decide +kernel
theorem dX2_nextAct_22 : decode cX2_nextAct 22 = .ok (.getfield 22, 3) := by decide +kernel
theorem dX2_nextAct_25 : decode cX2_nextAct 25 = .ok (.getfield 77, 3) := by decide +kernel
theorem dX2_nextAct_28 : decode cX2_nextAct 28 = .ok (.aload_n 0, 1) := by decide +kernel
theorem dX2_nextAct_29 : decode cX2_nextAct 29 = .ok (.getfield 41, 3) := by decide +kernel
theorem dX2_nextAct_32 : decode cX2_nextAct 32 = .ok (.iaload, 1) := by decide +kernel
theorem dX2_nextAct_33 : decode cX2_nextAct 33 = .ok (.goto 4, 3) := by decide +kernel
theorem dX2_nextAct_36 : decode cX2_nextAct 36 = .ok (.iconst 0, 1) := by decide +kernel
theorem dX2_nextAct_37 : decode cX2_nextAct 37 = .ok (.ireturn, 1) := by decide +kernel
theorem dX2_isAboutToMake_0 : decode cX2_isAboutToMake 0 = .ok (.aload_n 0, 1) := by decide +kernel
theorem dX2_isAboutToMake_1 : decode cX2_isAboutToMake 1 = .ok (.getfield 29, 3) := by decide +kernel
theorem dX2_isAboutToMake_4 : decode cX2_isAboutToMake 4 = .ok (.ifCond .ne 17, 3) := by decide +kernel
theorem dX2_isAboutToMake_7 : decode cX2_isAboutToMake 7 = .ok (.aload_n 0, 1) := by decide +kernel
theorem dX2_isAboutToMake_8 : decode cX2_isAboutToMake 8 = .ok (.invokevirtual 81, 3) := by decide +kernel
theorem dX2_isAboutToMake_11 : decode cX2_isAboutToMake 11 = .ok (.invokestatic 85, 3) := by decide +kernel
theorem dX2_isAboutToMake_14 : decode cX2_isAboutToMake 14 = .ok (.ifCond .eq 7, 3) := by decide +kernel
theorem dX2_isAboutToMake_17 : decode cX2_isAboutToMake 17 = .ok (.iconst 1, 1) := by decide +kernel
theorem dX2_isAboutToMake_18 : decode cX2_isAboutToMake 18 = .ok (.goto 4, 3) := by decide +kernel
theorem dX2_isAboutToMake_21 : decode cX2_isAboutToMake 21 = .ok (.iconst 0, 1) := by decide +kernel
theorem dX2_isAboutToMake_22 : decode cX2_isAboutToMake 22 = .ok (.ireturn, 1) := by decide +kernel
theorem dX2_fits_0 : decode cX2_fits 0 = .ok (.aload_n 0, 1) := by decide +kernel
theorem dX2_fits_1 : decode cX2_fits 1 = .ok (.getfield 35, 3) := by decide +kernel
theorem dX2_fits_4 : decode cX2_fits 4 = .ok (.iload_n 1, 1) := by decide +kernel
theorem dX2_fits_5 : decode cX2_fits 5 = .ok (.iadd, 1) := by decide +kernel
theorem dX2_fits_6 : decode cX2_fits 6 = .ok (.aload_n 0, 1) := by decide +kernel
theorem dX2_fits_7 : decode cX2_fits 7 = .ok (.getfield 22, 3) := by decide +kernel
theorem dX2_fits_10 : decode cX2_fits 10 = .ok (.aload_n 0, 1) := by decide +kernel
theorem dX2_fits_11 : decode cX2_fits 11 = .ok (.getfield 32, 3) := by decide +kernel
theorem dX2_fits_14 : decode cX2_fits 14 = .ok (.invokevirtual 89, 3) := by decide +kernel
theorem dX2_fits_17 : decode cX2_fits 17 = .ok (.if_icmp .gt 7, 3) := by decide +kernel
theorem dX2_fits_20 : decode cX2_fits 20 = .ok (.iconst 1, 1) := by decide +kernel
theorem dX2_fits_21 : decode cX2_fits 21 = .ok (.goto 4, 3) := by decide +kernel
theorem dX2_fits_24 : decode cX2_fits 24 = .ok (.iconst 0, 1) := by decide +kernel
theorem dX2_fits_25 : decode cX2_fits 25 = .ok (.ireturn, 1) := by decide +kernel
theorem dX2_keep_0 : decode cX2_keep 0 = .ok (.aload_n 1, 1) := by decide +kernel
theorem dX2_keep_1 : decode cX2_keep 1 = .ok (.getfield 93, 3) := by decide +kernel
theorem dX2_keep_4 : decode cX2_keep 4 = .ok (.aload_n 1, 1) := by decide +kernel
theorem dX2_keep_5 : decode cX2_keep 5 = .ok (.aload_n 0, 1) := by decide +kernel
theorem dX2_keep_6 : decode cX2_keep 6 = .ok (.getfield 22, 3) := by decide +kernel
theorem dX2_keep_9 : decode cX2_keep 9 = .ok (.getfield 98, 3) := by decide +kernel
theorem dX2_keep_12 : decode cX2_keep 12 = .ok (.aload_n 0, 1) := by decide +kernel
theorem dX2_keep_13 : decode cX2_keep 13 = .ok (.getfield 22, 3) := by decide +kernel
theorem dX2_keep_16 : decode cX2_keep 16 = .ok (.aload_n 0, 1) := by decide +kernel
theorem dX2_keep_17 : decode cX2_keep 17 = .ok (.getfield 12, 3) := by decide +kernel
theorem dX2_keep_20 : decode cX2_keep 20 = .ok (.getfield 101, 3) := by decide +kernel
theorem dX2_keep_23 : decode cX2_keep 23 = .ok (.invokevirtual 104, 3) := by decide +kernel
theorem dX2_keep_26 : decode cX2_keep 26 = .ok (.invokestatic 107, 3) := by decide +kernel
theorem dX2_keep_29 : decode cX2_keep 29 = .ok (.invokevirtual 113, 3) := by decide +kernel
theorem dX2_keep_32 : decode cX2_keep 32 = .ok (.imul, 1) := by decide +kernel
theorem dX2_keep_33 : decode cX2_keep 33 = .ok (.ireturn, 1) := by decide +kernel
theorem dX2_spare_0 : decode cX2_spare 0 = .ok (.aload_n 0, 1) := by decide +kernel
theorem dX2_spare_1 : decode cX2_spare 1 = .ok (.invokevirtual 116, 3) := by decide +kernel
theorem dX2_spare_4 : decode cX2_spare 4 = .ok (.ifCond .eq 20, 3) := by decide +kernel
theorem dX2_spare_7 : decode cX2_spare 7 = .ok (.aload_n 0, 1) := by decide +kernel
theorem dX2_spare_8 : decode cX2_spare 8 = .ok (.getfield 32, 3) := by decide +kernel
theorem dX2_spare_11 : decode cX2_spare 11 = .ok (.aload_n 0, 1) := by decide +kernel
theorem dX2_spare_12 : decode cX2_spare 12 = .ok (.aload_n 1, 1) := by decide +kernel
theorem dX2_spare_13 : decode cX2_spare 13 = .ok (.invokevirtual 120, 3) := by decide +kernel
theorem dX2_spare_16 : decode cX2_spare 16 = .ok (.isub, 1) := by decide +kernel
theorem dX2_spare_17 : decode cX2_spare 17 = .ok (.iconst 0, 1) := by decide +kernel
theorem dX2_spare_18 : decode cX2_spare 18 = .ok (.invokestatic 107, 3) := by decide +kernel
theorem dX2_spare_21 : decode cX2_spare 21 = .ok (.goto 4, 3) := by decide +kernel
theorem dX2_spare_24 : decode cX2_spare 24 = .ok (.iconst 0, 1) := by decide +kernel
theorem dX2_spare_25 : decode cX2_spare 25 = .ok (.ireturn, 1) := by decide +kernel
theorem dX2_collectNow_0 : decode cX2_collectNow 0 = .ok (.aload_n 0, 1) := by decide +kernel
theorem dX2_collectNow_1 : decode cX2_collectNow 1 = .ok (.getfield 22, 3) := by decide +kernel
theorem dX2_collectNow_4 : decode cX2_collectNow 4 = .ok (.aload_n 0, 1) := by decide +kernel
theorem dX2_collectNow_5 : decode cX2_collectNow 5 = .ok (.getfield 12, 3) := by decide +kernel
theorem dX2_collectNow_8 : decode cX2_collectNow 8 = .ok (.getfield 101, 3) := by decide +kernel
theorem dX2_collectNow_11 : decode cX2_collectNow 11 = .ok (.aload_n 0, 1) := by decide +kernel
theorem dX2_collectNow_12 : decode cX2_collectNow 12 = .ok (.getfield 35, 3) := by decide +kernel
theorem dX2_collectNow_15 : decode cX2_collectNow 15 = .ok (.invokevirtual 124, 3) := by decide +kernel
theorem dX2_collectNow_18 : decode cX2_collectNow 18 = .ok (.istore_n 1, 1) := by decide +kernel
theorem dX2_collectNow_19 : decode cX2_collectNow 19 = .ok (.aload_n 0, 1) := by decide +kernel
theorem dX2_collectNow_20 : decode cX2_collectNow 20 = .ok (.aload_n 0, 1) := by decide +kernel
theorem dX2_collectNow_21 : decode cX2_collectNow 21 = .ok (.getfield 12, 3) := by decide +kernel
theorem dX2_collectNow_24 : decode cX2_collectNow 24 = .ok (.getfield 101, 3) := by decide +kernel
theorem dX2_collectNow_27 : decode cX2_collectNow 27 = .ok (.putfield 35, 3) := by decide +kernel
theorem dX2_collectNow_30 : decode cX2_collectNow 30 = .ok (.aload_n 0, 1) := by decide +kernel
theorem dX2_collectNow_31 : decode cX2_collectNow 31 = .ok (.dup, 1) := by decide +kernel
theorem dX2_collectNow_32 : decode cX2_collectNow 32 = .ok (.getfield 44, 3) := by decide +kernel
theorem dX2_collectNow_35 : decode cX2_collectNow 35 = .ok (.iload_n 1, 1) := by decide +kernel
theorem dX2_collectNow_36 : decode cX2_collectNow 36 = .ok (.iadd, 1) := by decide +kernel
theorem dX2_collectNow_37 : decode cX2_collectNow 37 = .ok (.putfield 44, 3) := by decide +kernel
theorem dX2_collectNow_40 : decode cX2_collectNow 40 = .ok (.aload_n 0, 1) := by decide +kernel
theorem dX2_collectNow_41 : decode cX2_collectNow 41 = .ok (.dup, 1) := by decide +kernel
theorem dX2_collectNow_42 : decode cX2_collectNow 42 = .ok (.getfield 47, 3) := by decide +kernel
theorem dX2_collectNow_45 : decode cX2_collectNow 45 = .ok (.iload_n 1, 1) := by decide +kernel
theorem dX2_collectNow_46 : decode cX2_collectNow 46 = .ok (.iadd, 1) := by decide +kernel
theorem dX2_collectNow_47 : decode cX2_collectNow 47 = .ok (.putfield 47, 3) := by decide +kernel
theorem dX2_collectNow_50 : decode cX2_collectNow 50 = .ok (.iload_n 1, 1) := by decide +kernel
theorem dX2_collectNow_51 : decode cX2_collectNow 51 = .ok (.ireturn, 1) := by decide +kernel
theorem dX2_makeNow_0 : decode cX2_makeNow 0 = .ok (.aload_n 0, 1) := by decide +kernel
theorem dX2_makeNow_1 : decode cX2_makeNow 1 = .ok (.getfield 12, 3) := by decide +kernel
theorem dX2_makeNow_4 : decode cX2_makeNow 4 = .ok (.iload_n 1, 1) := by decide +kernel
theorem dX2_makeNow_5 : decode cX2_makeNow 5 = .ok (.invokevirtual 127, 3) := by decide +kernel
theorem dX2_makeNow_8 : decode cX2_makeNow 8 = .ok (.aload_n 0, 1) := by decide +kernel
theorem dX2_makeNow_9 : decode cX2_makeNow 9 = .ok (.dup, 1) := by decide +kernel
theorem dX2_makeNow_10 : decode cX2_makeNow 10 = .ok (.getfield 35, 3) := by decide +kernel
theorem dX2_makeNow_13 : decode cX2_makeNow 13 = .ok (.iload_n 1, 1) := by decide +kernel
theorem dX2_makeNow_14 : decode cX2_makeNow 14 = .ok (.iadd, 1) := by decide +kernel
theorem dX2_makeNow_15 : decode cX2_makeNow 15 = .ok (.putfield 35, 3) := by decide +kernel
theorem dX2_makeNow_18 : decode cX2_makeNow 18 = .ok (.return_, 1) := by decide +kernel
theorem dX2_waitFor_0 : decode cX2_waitFor 0 = .ok (.aload_n 0, 1) := by decide +kernel
theorem dX2_waitFor_1 : decode cX2_waitFor 1 = .ok (.iload_n 1, 1) := by decide +kernel
theorem dX2_waitFor_2 : decode cX2_waitFor 2 = .ok (.putfield 53, 3) := by decide +kernel
theorem dX2_waitFor_5 : decode cX2_waitFor 5 = .ok (.aload_n 0, 1) := by decide +kernel
theorem dX2_waitFor_6 : decode cX2_waitFor 6 = .ok (.iload_n 1, 1) := by decide +kernel
theorem dX2_waitFor_7 : decode cX2_waitFor 7 = .ok (.ifCond .le 7, 3) := by decide +kernel
theorem dX2_waitFor_10 : decode cX2_waitFor 10 = .ok (.iload_n 2, 1) := by decide +kernel
theorem dX2_waitFor_11 : decode cX2_waitFor 11 = .ok (.goto 4, 3) := by decide +kernel
theorem dX2_waitFor_14 : decode cX2_waitFor 14 = .ok (.iconst 0, 1) := by decide +kernel
theorem dX2_waitFor_15 : decode cX2_waitFor 15 = .ok (.putfield 29, 3) := by decide +kernel
theorem dX2_waitFor_18 : decode cX2_waitFor 18 = .ok (.return_, 1) := by decide +kernel
theorem dX2_endRound_0 : decode cX2_endRound 0 = .ok (.aload_n 0, 1) := by decide +kernel
theorem dX2_endRound_1 : decode cX2_endRound 1 = .ok (.aload_n 0, 1) := by decide +kernel
theorem dX2_endRound_2 : decode cX2_endRound 2 = .ok (.getfield 38, 3) := by decide +kernel
theorem dX2_endRound_5 : decode cX2_endRound 5 = .ok (.ifCond .le 26, 3) := by decide +kernel
theorem dX2_endRound_8 : decode cX2_endRound 8 = .ok (.aload_n 0, 1) := by decide +kernel
theorem dX2_endRound_9 : decode cX2_endRound 9 = .ok (.getfield 12, 3) := by decide +kernel
theorem dX2_endRound_12 : decode cX2_endRound 12 = .ok (.getfield 101, 3) := by decide +kernel
theorem dX2_endRound_15 : decode cX2_endRound 15 = .ok (.aload_n 0, 1) := by decide +kernel
theorem dX2_endRound_16 : decode cX2_endRound 16 = .ok (.getfield 66, 3) := by decide +kernel
theorem dX2_endRound_19 : decode cX2_endRound 19 = .ok (.if_icmp .le 12, 3) := by decide +kernel
theorem dX2_endRound_22 : decode cX2_endRound 22 = .ok (.aload_n 0, 1) := by decide +kernel
theorem dX2_endRound_23 : decode cX2_endRound 23 = .ok (.getfield 69, 3) := by decide +kernel
theorem dX2_endRound_26 : decode cX2_endRound 26 = .ok (.iconst 1, 1) := by decide +kernel
theorem dX2_endRound_27 : decode cX2_endRound 27 = .ok (.iadd, 1) := by decide +kernel
theorem dX2_endRound_28 : decode cX2_endRound 28 = .ok (.goto 4, 3) := by decide +kernel
theorem dX2_endRound_31 : decode cX2_endRound 31 = .ok (.iconst 0, 1) := by decide +kernel
theorem dX2_endRound_32 : decode cX2_endRound 32 = .ok (.putfield 69, 3) := by decide +kernel
theorem dX2_endRound_35 : decode cX2_endRound 35 = .ok (.aload_n 0, 1) := by decide +kernel
theorem dX2_endRound_36 : decode cX2_endRound 36 = .ok (.aload_n 0, 1) := by decide +kernel
theorem dX2_endRound_37 : decode cX2_endRound 37 = .ok (.getfield 12, 3) := by decide +kernel
theorem dX2_endRound_40 : decode cX2_endRound 40 = .ok (.getfield 101, 3) := by decide +kernel
theorem dX2_endRound_43 : decode cX2_endRound 43 = .ok (.putfield 66, 3) := by decide +kernel
theorem dX2_endRound_46 : decode cX2_endRound 46 = .ok (.aload_n 0, 1) := by decide +kernel
theorem dX2_endRound_47 : decode cX2_endRound 47 = .ok (.dup, 1) := by decide +kernel
theorem dX2_endRound_48 : decode cX2_endRound 48 = .ok (.getfield 38, 3) := by decide +kernel
theorem dX2_endRound_51 : decode cX2_endRound 51 = .ok (.iconst 1, 1) := by decide +kernel
theorem dX2_endRound_52 : decode cX2_endRound 52 = .ok (.iadd, 1) := by decide +kernel
theorem dX2_endRound_53 : decode cX2_endRound 53 = .ok (.putfield 38, 3) := by decide +kernel
theorem dX2_endRound_56 : decode cX2_endRound 56 = .ok (.aload_n 0, 1) := by decide +kernel
theorem dX2_endRound_57 : decode cX2_endRound 57 = .ok (.iconst 0, 1) := by decide +kernel
theorem dX2_endRound_58 : decode cX2_endRound 58 = .ok (.putfield 41, 3) := by decide +kernel
theorem dX2_endRound_61 : decode cX2_endRound 61 = .ok (.return_, 1) := by decide +kernel
theorem dX2_leave_0 : decode cX2_leave 0 = .ok (.aload_n 0, 1) := by decide +kernel
theorem dX2_leave_1 : decode cX2_leave 1 = .ok (.getfield 32, 3) := by decide +kernel
theorem dX2_leave_4 : decode cX2_leave 4 = .ok (.istore_n 3, 1) := by decide +kernel
theorem dX2_leave_5 : decode cX2_leave 5 = .ok (.aload_n 0, 1) := by decide +kernel
theorem dX2_leave_6 : decode cX2_leave 6 = .ok (.iload_n 1, 1) := by decide +kernel
theorem dX2_leave_7 : decode cX2_leave 7 = .ok (.putfield 29, 3) := by decide +kernel
theorem dX2_leave_10 : decode cX2_leave 10 = .ok (.aload_n 0, 1) := by decide +kernel
theorem dX2_leave_11 : decode cX2_leave 11 = .ok (.iload_n 2, 1) := by decide +kernel
theorem dX2_leave_12 : decode cX2_leave 12 = .ok (.putfield 50, 3) := by decide +kernel
theorem dX2_leave_15 : decode cX2_leave 15 = .ok (.aload_n 0, 1) := by decide +kernel
theorem dX2_leave_16 : decode cX2_leave 16 = .ok (.iconst 0, 1) := by decide +kernel
theorem dX2_leave_17 : decode cX2_leave 17 = .ok (.putfield 32, 3) := by decide +kernel
theorem dX2_leave_20 : decode cX2_leave 20 = .ok (.aload_n 0, 1) := by decide +kernel
theorem dX2_leave_21 : decode cX2_leave 21 = .ok (.iconst 0, 1) := by decide +kernel
theorem dX2_leave_22 : decode cX2_leave 22 = .ok (.putfield 35, 3) := by decide +kernel
theorem dX2_leave_25 : decode cX2_leave 25 = .ok (.aload_n 0, 1) := by decide +kernel
theorem dX2_leave_26 : decode cX2_leave 26 = .ok (.getfield 12, 3) := by decide +kernel
theorem dX2_leave_29 : decode cX2_leave 29 = .ok (.iconst 0, 1) := by decide +kernel
theorem dX2_leave_30 : decode cX2_leave 30 = .ok (.putfield 101, 3) := by decide +kernel
theorem dX2_leave_33 : decode cX2_leave 33 = .ok (.iload_n 3, 1) := by decide +kernel
theorem dX2_leave_34 : decode cX2_leave 34 = .ok (.ireturn, 1) := by decide +kernel
theorem dX2_cellsOfStep_0 : decode cX2_cellsOfStep 0 = .ok (.aload_n 0, 1) := by decide +kernel
theorem dX2_cellsOfStep_1 : decode cX2_cellsOfStep 1 = .ok (.getfield 22, 3) := by decide +kernel
theorem dX2_cellsOfStep_4 : decode cX2_cellsOfStep 4 = .ok (.getfield 131, 3) := by decide +kernel
theorem dX2_cellsOfStep_7 : decode cX2_cellsOfStep 7 = .ok (.ifCond .eq 13, 3) := by decide +kernel
theorem dX2_cellsOfStep_10 : decode cX2_cellsOfStep 10 = .ok (.iload_n 1, 1) := by decide +kernel
theorem dX2_cellsOfStep_11 : decode cX2_cellsOfStep 11 = .ok (.iconst 2, 1) := by decide +kernel
theorem dX2_cellsOfStep_12 : decode cX2_cellsOfStep 12 = .ok (.idiv, 1) := by decide +kernel
theorem dX2_cellsOfStep_13 : decode cX2_cellsOfStep 13 = .ok (.iconst 1, 1) := by decide +kernel
theorem dX2_cellsOfStep_14 : decode cX2_cellsOfStep 14 = .ok (.invokestatic 107, 3) := by decide +kernel
theorem dX2_cellsOfStep_17 : decode cX2_cellsOfStep 17 = .ok (.goto 4, 3) := by decide +kernel
theorem dX2_cellsOfStep_20 : decode cX2_cellsOfStep 20 = .ok (.iload_n 1, 1) := by decide +kernel
theorem dX2_cellsOfStep_21 : decode cX2_cellsOfStep 21 = .ok (.ireturn, 1) := by decide +kernel
theorem dX2_gain_0 : decode cX2_gain 0 = .ok (.aload_n 0, 1) := by decide +kernel
theorem dX2_gain_1 : decode cX2_gain 1 = .ok (.invokevirtual 134, 3) := by decide +kernel
theorem dX2_gain_4 : decode cX2_gain 4 = .ok (.ifCond .eq 10, 3) := by decide +kernel
theorem dX2_gain_7 : decode cX2_gain 7 = .ok (.aload_n 0, 1) := by decide +kernel
theorem dX2_gain_8 : decode cX2_gain 8 = .ok (.getfield 56, 3) := by decide +kernel
theorem dX2_gain_11 : decode cX2_gain 11 = .ok (.ifCond .eq 5, 3) := by decide +kernel
theorem dX2_gain_14 : decode cX2_gain 14 = .ok (.lconst 0, 1) := by decide +kernel
theorem dX2_gain_15 : decode cX2_gain 15 = .ok (.lreturn, 1) := by decide +kernel
theorem dX2_gain_16 : decode cX2_gain 16 = .ok (.aload_n 0, 1) := by decide +kernel
theorem dX2_gain_17 : decode cX2_gain 17 = .ok (.aload_n 1, 1) := by decide +kernel
theorem dX2_gain_18 : decode cX2_gain 18 = .ok (.getfield 93, 3) := by decide +kernel
theorem dX2_gain_21 : decode cX2_gain 21 = .ok (.invokevirtual 137, 3) := by decide +kernel
theorem dX2_gain_24 : decode cX2_gain 24 = .ok (.istore_n 2, 1) := by decide +kernel
theorem dX2_gain_25 : decode cX2_gain 25 = .ok (.aload_n 0, 1) := by decide +kernel
theorem dX2_gain_26 : decode cX2_gain 26 = .ok (.getfield 22, 3) := by decide +kernel
theorem dX2_gain_29 : decode cX2_gain 29 = .ok (.aload_n 0, 1) := by decide +kernel
theorem dX2_gain_30 : decode cX2_gain 30 = .ok (.getfield 32, 3) := by decide +kernel
theorem dX2_gain_33 : decode cX2_gain 33 = .ok (.invokevirtual 89, 3) := by decide +kernel
theorem dX2_gain_36 : decode cX2_gain 36 = .ok (.aload_n 0, 1) := by decide +kernel
theorem dX2_gain_37 : decode cX2_gain 37 = .ok (.getfield 12, 3) := by decide +kernel
theorem dX2_gain_40 : decode cX2_gain 40 = .ok (.getfield 101, 3) := by decide +kernel
theorem dX2_gain_43 : decode cX2_gain 43 = .ok (.isub, 1) := by decide +kernel
theorem dX2_gain_44 : decode cX2_gain 44 = .ok (.iload_n 2, 1) := by decide +kernel
theorem dX2_gain_45 : decode cX2_gain 45 = .ok (.iadd, 1) := by decide +kernel
theorem dX2_gain_46 : decode cX2_gain 46 = .ok (.istore_n 3, 1) := by decide +kernel
theorem dX2_gain_47 : decode cX2_gain 47 = .ok (.iload_n 3, 1) := by decide +kernel
theorem dX2_gain_48 : decode cX2_gain 48 = .ok (.ifCond .le 17, 3) := by decide +kernel
theorem dX2_gain_51 : decode cX2_gain 51 = .ok (.aload_n 0, 1) := by decide +kernel
theorem dX2_gain_52 : decode cX2_gain 52 = .ok (.getfield 47, 3) := by decide +kernel
theorem dX2_gain_55 : decode cX2_gain 55 = .ok (.i2l, 1) := by decide +kernel
theorem dX2_gain_56 : decode cX2_gain 56 = .ok (.iload_n 2, 1) := by decide +kernel
theorem dX2_gain_57 : decode cX2_gain 57 = .ok (.i2l, 1) := by decide +kernel
theorem dX2_gain_58 : decode cX2_gain 58 = .ok (.lmul, 1) := by decide +kernel
theorem dX2_gain_59 : decode cX2_gain 59 = .ok (.iload_n 3, 1) := by decide +kernel
theorem dX2_gain_60 : decode cX2_gain 60 = .ok (.i2l, 1) := by decide +kernel
theorem dX2_gain_61 : decode cX2_gain 61 = .ok (.ldiv, 1) := by decide +kernel
theorem dX2_gain_62 : decode cX2_gain 62 = .ok (.goto 4, 3) := by decide +kernel
theorem dX2_gain_65 : decode cX2_gain 65 = .ok (.lconst 0, 1) := by decide +kernel
theorem dX2_gain_66 : decode cX2_gain 66 = .ok (.lreturn, 1) := by decide +kernel
theorem dX2_loss_0 : decode cX2_loss 0 = .ok (.aload_n 0, 1) := by decide +kernel
theorem dX2_loss_1 : decode cX2_loss 1 = .ok (.invokevirtual 134, 3) := by decide +kernel
theorem dX2_loss_4 : decode cX2_loss 4 = .ok (.ifCond .eq 20, 3) := by decide +kernel
theorem dX2_loss_7 : decode cX2_loss 7 = .ok (.aload_n 0, 1) := by decide +kernel
theorem dX2_loss_8 : decode cX2_loss 8 = .ok (.getfield 32, 3) := by decide +kernel
theorem dX2_loss_11 : decode cX2_loss 11 = .ok (.aload_n 0, 1) := by decide +kernel
theorem dX2_loss_12 : decode cX2_loss 12 = .ok (.aload_n 1, 1) := by decide +kernel
theorem dX2_loss_13 : decode cX2_loss 13 = .ok (.invokevirtual 120, 3) := by decide +kernel
theorem dX2_loss_16 : decode cX2_loss 16 = .ok (.isub, 1) := by decide +kernel
theorem dX2_loss_17 : decode cX2_loss 17 = .ok (.aload_n 1, 1) := by decide +kernel
theorem dX2_loss_18 : decode cX2_loss 18 = .ok (.getfield 93, 3) := by decide +kernel
theorem dX2_loss_21 : decode cX2_loss 21 = .ok (.if_icmp .ge 7, 3) := by decide +kernel
theorem dX2_loss_24 : decode cX2_loss 24 = .ok (.ldc2_w 140, 3) := by decide +kernel
theorem dX2_loss_27 : decode cX2_loss 27 = .ok (.lreturn, 1) := by decide +kernel
theorem dX2_loss_28 : decode cX2_loss 28 = .ok (.aload_n 0, 1) := by decide +kernel
theorem dX2_loss_29 : decode cX2_loss 29 = .ok (.aload_n 1, 1) := by decide +kernel
theorem dX2_loss_30 : decode cX2_loss 30 = .ok (.getfield 93, 3) := by decide +kernel
theorem dX2_loss_33 : decode cX2_loss 33 = .ok (.invokevirtual 137, 3) := by decide +kernel
theorem dX2_loss_36 : decode cX2_loss 36 = .ok (.istore_n 2, 1) := by decide +kernel
theorem dX2_loss_37 : decode cX2_loss 37 = .ok (.aload_n 0, 1) := by decide +kernel
theorem dX2_loss_38 : decode cX2_loss 38 = .ok (.getfield 22, 3) := by decide +kernel
theorem dX2_loss_41 : decode cX2_loss 41 = .ok (.aload_n 0, 1) := by decide +kernel
theorem dX2_loss_42 : decode cX2_loss 42 = .ok (.getfield 32, 3) := by decide +kernel
theorem dX2_loss_45 : decode cX2_loss 45 = .ok (.invokevirtual 89, 3) := by decide +kernel
theorem dX2_loss_48 : decode cX2_loss 48 = .ok (.aload_n 0, 1) := by decide +kernel
theorem dX2_loss_49 : decode cX2_loss 49 = .ok (.getfield 12, 3) := by decide +kernel
theorem dX2_loss_52 : decode cX2_loss 52 = .ok (.getfield 101, 3) := by decide +kernel
theorem dX2_loss_55 : decode cX2_loss 55 = .ok (.isub, 1) := by decide +kernel
theorem dX2_loss_56 : decode cX2_loss 56 = .ok (.iload_n 2, 1) := by decide +kernel
theorem dX2_loss_57 : decode cX2_loss 57 = .ok (.isub, 1) := by decide +kernel
theorem dX2_loss_58 : decode cX2_loss 58 = .ok (.istore_n 3, 1) := by decide +kernel
theorem dX2_loss_59 : decode cX2_loss 59 = .ok (.iload_n 3, 1) := by decide +kernel
theorem dX2_loss_60 : decode cX2_loss 60 = .ok (.ifCond .le 17, 3) := by decide +kernel
theorem dX2_loss_63 : decode cX2_loss 63 = .ok (.aload_n 0, 1) := by decide +kernel
theorem dX2_loss_64 : decode cX2_loss 64 = .ok (.getfield 47, 3) := by decide +kernel
theorem dX2_loss_67 : decode cX2_loss 67 = .ok (.i2l, 1) := by decide +kernel
theorem dX2_loss_68 : decode cX2_loss 68 = .ok (.iload_n 2, 1) := by decide +kernel
theorem dX2_loss_69 : decode cX2_loss 69 = .ok (.i2l, 1) := by decide +kernel
theorem dX2_loss_70 : decode cX2_loss 70 = .ok (.lmul, 1) := by decide +kernel
theorem dX2_loss_71 : decode cX2_loss 71 = .ok (.iload_n 3, 1) := by decide +kernel
theorem dX2_loss_72 : decode cX2_loss 72 = .ok (.i2l, 1) := by decide +kernel
theorem dX2_loss_73 : decode cX2_loss 73 = .ok (.ldiv, 1) := by decide +kernel
theorem dX2_loss_74 : decode cX2_loss 74 = .ok (.goto 6, 3) := by decide +kernel
theorem dX2_loss_77 : decode cX2_loss 77 = .ok (.ldc2_w 140, 3) := by decide +kernel
theorem dX2_loss_80 : decode cX2_loss 80 = .ok (.lreturn, 1) := by decide +kernel
theorem dX2_told_0 : decode cX2_told 0 = .ok (.iload_n 1, 1) := by decide +kernel
theorem dX2_told_1 : decode cX2_told 1 = .ok (.tableswitch 167 0 12 #[67, 72, 77, 82, 90, 95, 113, 121, 126, 131, 136, 149, 162], 67) := by decide +kernel
theorem dX2_told_68 : decode cX2_told 68 = .ok (.aload_n 0, 1) := by decide +kernel
theorem dX2_told_69 : decode cX2_told 69 = .ok (.getfield 29, 3) := by decide +kernel
theorem dX2_told_72 : decode cX2_told 72 = .ok (.ireturn, 1) := by decide +kernel
theorem dX2_told_73 : decode cX2_told 73 = .ok (.aload_n 0, 1) := by decide +kernel
theorem dX2_told_74 : decode cX2_told 74 = .ok (.getfield 32, 3) := by decide +kernel
theorem dX2_told_77 : decode cX2_told 77 = .ok (.ireturn, 1) := by decide +kernel
theorem dX2_told_78 : decode cX2_told 78 = .ok (.aload_n 0, 1) := by decide +kernel
theorem dX2_told_79 : decode cX2_told 79 = .ok (.getfield 35, 3) := by decide +kernel
theorem dX2_told_82 : decode cX2_told 82 = .ok (.ireturn, 1) := by decide +kernel
theorem dX2_told_83 : decode cX2_told 83 = .ok (.aload_n 0, 1) := by decide +kernel
theorem dX2_told_84 : decode cX2_told 84 = .ok (.getfield 12, 3) := by decide +kernel
theorem dX2_told_87 : decode cX2_told 87 = .ok (.getfield 101, 3) := by decide +kernel
theorem dX2_told_90 : decode cX2_told 90 = .ok (.ireturn, 1) := by decide +kernel
theorem dX2_told_91 : decode cX2_told 91 = .ok (.aload_n 0, 1) := by decide +kernel
theorem dX2_told_92 : decode cX2_told 92 = .ok (.getfield 38, 3) := by decide +kernel
theorem dX2_told_95 : decode cX2_told 95 = .ok (.ireturn, 1) := by decide +kernel
theorem dX2_told_96 : decode cX2_told 96 = .ok (.aload_n 0, 1) := by decide +kernel
theorem dX2_told_97 : decode cX2_told 97 = .ok (.getfield 29, 3) := by decide +kernel
theorem dX2_told_100 : decode cX2_told 100 = .ok (.iconst 3, 1) := by decide +kernel
theorem dX2_told_101 : decode cX2_told 101 = .ok (.if_icmp .ne 8, 3) := by decide +kernel
theorem dX2_told_104 : decode cX2_told 104 = .ok (.bipush (-2), 2) := by decide +kernel
theorem dX2_told_106 : decode cX2_told 106 = .ok (.goto 7, 3) := by decide +kernel
theorem dX2_told_109 : decode cX2_told 109 = .ok (.aload_n 0, 1) := by decide +kernel
theorem dX2_told_110 : decode cX2_told 110 = .ok (.getfield 41, 3) := by decide +kernel
theorem dX2_told_113 : decode cX2_told 113 = .ok (.ireturn, 1) := by decide +kernel
theorem dX2_told_114 : decode cX2_told 114 = .ok (.aload_n 0, 1) := by decide +kernel
theorem dX2_told_115 : decode cX2_told 115 = .ok (.getfield 12, 3) := by decide +kernel
theorem dX2_told_118 : decode cX2_told 118 = .ok (.getfield 142, 3) := by decide +kernel
theorem dX2_told_121 : decode cX2_told 121 = .ok (.ireturn, 1) := by decide +kernel
theorem dX2_told_122 : decode cX2_told 122 = .ok (.aload_n 0, 1) := by decide +kernel
theorem dX2_told_123 : decode cX2_told 123 = .ok (.getfield 44, 3) := by decide +kernel
theorem dX2_told_126 : decode cX2_told 126 = .ok (.ireturn, 1) := by decide +kernel
theorem dX2_told_127 : decode cX2_told 127 = .ok (.aload_n 0, 1) := by decide +kernel
theorem dX2_told_128 : decode cX2_told 128 = .ok (.getfield 47, 3) := by decide +kernel
theorem dX2_told_131 : decode cX2_told 131 = .ok (.ireturn, 1) := by decide +kernel
theorem dX2_told_132 : decode cX2_told 132 = .ok (.aload_n 0, 1) := by decide +kernel
theorem dX2_told_133 : decode cX2_told 133 = .ok (.getfield 50, 3) := by decide +kernel
theorem dX2_told_136 : decode cX2_told 136 = .ok (.ireturn, 1) := by decide +kernel
theorem dX2_told_137 : decode cX2_told 137 = .ok (.aload_n 0, 1) := by decide +kernel
theorem dX2_told_138 : decode cX2_told 138 = .ok (.getfield 56, 3) := by decide +kernel
theorem dX2_told_141 : decode cX2_told 141 = .ok (.ifCond .eq 7, 3) := by decide +kernel
theorem dX2_told_144 : decode cX2_told 144 = .ok (.iconst 1, 1) := by decide +kernel
theorem dX2_told_145 : decode cX2_told 145 = .ok (.goto 4, 3) := by decide +kernel
theorem dX2_told_148 : decode cX2_told 148 = .ok (.iconst 0, 1) := by decide +kernel
theorem dX2_told_149 : decode cX2_told 149 = .ok (.ireturn, 1) := by decide +kernel
theorem dX2_told_150 : decode cX2_told 150 = .ok (.aload_n 0, 1) := by decide +kernel
theorem dX2_told_151 : decode cX2_told 151 = .ok (.getfield 60, 3) := by decide +kernel
theorem dX2_told_154 : decode cX2_told 154 = .ok (.ifCond .eq 7, 3) := by decide +kernel
theorem dX2_told_157 : decode cX2_told 157 = .ok (.iconst 1, 1) := by decide +kernel
theorem dX2_told_158 : decode cX2_told 158 = .ok (.goto 4, 3) := by decide +kernel
theorem dX2_told_161 : decode cX2_told 161 = .ok (.iconst 0, 1) := by decide +kernel
theorem dX2_told_162 : decode cX2_told 162 = .ok (.ireturn, 1) := by decide +kernel
theorem dX2_told_163 : decode cX2_told 163 = .ok (.aload_n 0, 1) := by decide +kernel
theorem dX2_told_164 : decode cX2_told 164 = .ok (.getfield 53, 3) := by decide +kernel
theorem dX2_told_167 : decode cX2_told 167 = .ok (.ireturn, 1) := by decide +kernel
theorem dX2_told_168 : decode cX2_told 168 = .ok (.bipush (-2), 2) := by decide +kernel
theorem dX2_told_170 : decode cX2_told 170 = .ok (.ireturn, 1) := by decide +kernel
