theorem dX5_init_0 : decode cX5_init 0 = .ok (.aload_n 0, 1) := by decide +kernel
theorem dX5_init_1 : decode cX5_init 1 = .ok (.invokespecial 3, 3) := by decide +kernel
theorem dX5_init_4 : decode cX5_init 4 = .ok (.aload_n 0, 1) := by decide +kernel
theorem dX5_init_5 : decode cX5_init 5 = .ok (.bipush 8, 2) := by decide +kernel
theorem dX5_init_7 : decode cX5_init 7 = .ok (.putfield 9, 3) := by decide +kernel
theorem dX5_init_10 : decode cX5_init 10 = .ok (.aload_n 0, 1) := by decide +kernel
theorem dX5_init_11 : decode cX5_init 11 = .ok (.sipush 256, 3) := by decide +kernel
theorem dX5_init_14 : decode cX5_init 14 = .ok (.putfield 15, 3) := by decide +kernel
theorem dX5_init_17 : decode cX5_init 17 = .ok (.aload_n 0, 1) := by decide +kernel
theorem dX5_init_18 : decode cX5_init 18 = .ok (.iconst 0, 1) := by decide +kernel
theorem dX5_init_19 : decode cX5_init 19 = .ok (.putfield 18, 3) := by decide +kernel
theorem dX5_init_22 : decode cX5_init 22 = .ok (.aload_n 0, 1) := by decide +kernel
theorem dX5_init_23 : decode cX5_init 23 = .ok (.bipush 50, 2) := by decide +kernel
theorem dX5_init_25 : decode cX5_init 25 = .ok (.putfield 21, 3) := by decide +kernel
theorem dX5_init_28 : decode cX5_init 28 = .ok (.aload_n 0, 1) := by decide +kernel
theorem dX5_init_29 : decode cX5_init 29 = .ok (.iconst 2, 1) := by decide +kernel
theorem dX5_init_30 : decode cX5_init 30 = .ok (.putfield 24, 3) := by decide +kernel
theorem dX5_init_33 : decode cX5_init 33 = .ok (.return_, 1) := by decide +kernel
theorem dX5_areSound_0 : decode cX5_areSound 0 = .ok (.iload_n 0, 1) := by decide +kernel
theorem dX5_areSound_1 : decode cX5_areSound 1 = .ok (.iconst 1, 1) := by decide +kernel
theorem dX5_areSound_2 : decode cX5_areSound 2 = .ok (.if_icmp .lt 9, 3) := by decide +kernel
theorem dX5_areSound_5 : decode cX5_areSound 5 = .ok (.iload_n 0, 1) := by decide +kernel
theorem dX5_areSound_6 : decode cX5_areSound 6 = .ok (.bipush 64, 2) := by decide +kernel
theorem dX5_areSound_8 : decode cX5_areSound 8 = .ok (.if_icmp .le 5, 3) := by decide +kernel
theorem dX5_areSound_11 : decode cX5_areSound 11 = .ok (.iconst 0, 1) := by decide +kernel
theorem dX5_areSound_12 : decode cX5_areSound 12 = .ok (.ireturn, 1) := by decide +kernel
theorem dX5_areSound_13 : decode cX5_areSound 13 = .ok (.iload_n 1, 1) := by decide +kernel
theorem dX5_areSound_14 : decode cX5_areSound 14 = .ok (.iload_n 0, 1) := by decide +kernel
theorem dX5_areSound_15 : decode cX5_areSound 15 = .ok (.if_icmp .lt 43, 3) := by decide +kernel
theorem dX5_areSound_18 : decode cX5_areSound 18 = .ok (.iload_n 1, 1) := by decide +kernel
theorem dX5_areSound_19 : decode cX5_areSound 19 = .ok (.sipush 4096, 3) := by decide +kernel
theorem dX5_areSound_22 : decode cX5_areSound 22 = .ok (.if_icmp .gt 36, 3) := by decide +kernel
theorem dX5_areSound_25 : decode cX5_areSound 25 = .ok (.iload_n 1, 1) := by decide +kernel
theorem dX5_areSound_26 : decode cX5_areSound 26 = .ok (.iload_n 0, 1) := by decide +kernel
theorem dX5_areSound_27 : decode cX5_areSound 27 = .ok (.irem, 1) := by decide +kernel
theorem dX5_areSound_28 : decode cX5_areSound 28 = .ok (.ifCond .ne 30, 3) := by decide +kernel
theorem dX5_areSound_31 : decode cX5_areSound 31 = .ok (.iload_n 1, 1) := by decide +kernel
theorem dX5_areSound_32 : decode cX5_areSound 32 = .ok (.iload_n 0, 1) := by decide +kernel
theorem dX5_areSound_33 : decode cX5_areSound 33 = .ok (.idiv, 1) := by decide +kernel
theorem dX5_areSound_34 : decode cX5_areSound 34 = .ok (.bipush 64, 2) := by decide +kernel
theorem dX5_areSound_36 : decode cX5_areSound 36 = .ok (.if_icmp .gt 22, 3) := by decide +kernel
theorem dX5_areSound_39 : decode cX5_areSound 39 = .ok (.iload_n 2, 1) := by decide +kernel
theorem dX5_areSound_40 : decode cX5_areSound 40 = .ok (.ifCond .lt 18, 3) := by decide +kernel
theorem dX5_areSound_43 : decode cX5_areSound 43 = .ok (.iload_n 2, 1) := by decide +kernel
theorem dX5_areSound_44 : decode cX5_areSound 44 = .ok (.iload_n 1, 1) := by decide +kernel
theorem dX5_areSound_45 : decode cX5_areSound 45 = .ok (.if_icmp .gt 13, 3) := by decide +kernel
theorem dX5_areSound_48 : decode cX5_areSound 48 = .ok (.iload_n 2, 1) := by decide +kernel
theorem dX5_areSound_49 : decode cX5_areSound 49 = .ok (.iload_n 0, 1) := by decide +kernel
theorem dX5_areSound_50 : decode cX5_areSound 50 = .ok (.irem, 1) := by decide +kernel
theorem dX5_areSound_51 : decode cX5_areSound 51 = .ok (.ifCond .ne 7, 3) := by decide +kernel
theorem dX5_areSound_54 : decode cX5_areSound 54 = .ok (.iconst 1, 1) := by decide +kernel
theorem dX5_areSound_55 : decode cX5_areSound 55 = .ok (.goto 4, 3) := by decide +kernel
theorem dX5_areSound_58 : decode cX5_areSound 58 = .ok (.iconst 0, 1) := by decide +kernel
theorem dX5_areSound_59 : decode cX5_areSound 59 = .ok (.ireturn, 1) := by decide +kernel
theorem dX5_allSteps_0 : decode cX5_allSteps 0 = .ok (.aload_n 0, 1) := by decide +kernel
theorem dX5_allSteps_1 : decode cX5_allSteps 1 = .ok (.getfield 15, 3) := by decide +kernel
theorem dX5_allSteps_4 : decode cX5_allSteps 4 = .ok (.aload_n 0, 1) := by decide +kernel
theorem dX5_allSteps_5 : decode cX5_allSteps 5 = .ok (.getfield 9, 3) := by decide +kernel
theorem dX5_allSteps_8 : decode cX5_allSteps 8 = .ok (.idiv, 1) := by decide +kernel
theorem dX5_allSteps_9 : decode cX5_allSteps 9 = .ok (.ireturn, 1) := by decide +kernel
theorem dX5_dealtSteps_0 : decode cX5_dealtSteps 0 = .ok (.aload_n 0, 1) := by decide +kernel
theorem dX5_dealtSteps_1 : decode cX5_dealtSteps 1 = .ok (.getfield 15, 3) := by decide +kernel
theorem dX5_dealtSteps_4 : decode cX5_dealtSteps 4 = .ok (.aload_n 0, 1) := by decide +kernel
theorem dX5_dealtSteps_5 : decode cX5_dealtSteps 5 = .ok (.getfield 18, 3) := by decide +kernel
theorem dX5_dealtSteps_8 : decode cX5_dealtSteps 8 = .ok (.isub, 1) := by decide +kernel
theorem dX5_dealtSteps_9 : decode cX5_dealtSteps 9 = .ok (.aload_n 0, 1) := by decide +kernel
theorem dX5_dealtSteps_10 : decode cX5_dealtSteps 10 = .ok (.getfield 9, 3) := by decide +kernel
theorem dX5_dealtSteps_13 : decode cX5_dealtSteps 13 = .ok (.idiv, 1) := by decide +kernel
theorem dX5_dealtSteps_14 : decode cX5_dealtSteps 14 = .ok (.ireturn, 1) := by decide +kernel
theorem dX5_stepsFor_0 : decode cX5_stepsFor 0 = .ok (.iload_n 1, 1) := by decide +kernel
theorem dX5_stepsFor_1 : decode cX5_stepsFor 1 = .ok (.aload_n 0, 1) := by decide +kernel
theorem dX5_stepsFor_2 : decode cX5_stepsFor 2 = .ok (.getfield 9, 3) := by decide +kernel
theorem dX5_stepsFor_5 : decode cX5_stepsFor 5 = .ok (.iadd, 1) := by decide +kernel
theorem dX5_stepsFor_6 : decode cX5_stepsFor 6 = .ok (.iconst 1, 1) := by decide +kernel
theorem dX5_stepsFor_7 : decode cX5_stepsFor 7 = .ok (.isub, 1) := by decide +kernel
theorem dX5_stepsFor_8 : decode cX5_stepsFor 8 = .ok (.aload_n 0, 1) := by decide +kernel
theorem dX5_stepsFor_9 : decode cX5_stepsFor 9 = .ok (.getfield 9, 3) := by decide +kernel
theorem dX5_stepsFor_12 : decode cX5_stepsFor 12 = .ok (.idiv, 1) := by decide +kernel
theorem dX5_stepsFor_13 : decode cX5_stepsFor 13 = .ok (.ireturn, 1) := by decide +kernel
