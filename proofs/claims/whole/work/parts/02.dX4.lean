theorem dX4_init_0 : decode cX4_init 0 = .ok (.aload_n 0, 1) := by decide +kernel
theorem dX4_init_1 : decode cX4_init 1 = .ok (.invokespecial 3, 3) := by decide +kernel
theorem dX4_init_4 : decode cX4_init 4 = .ok (.aload_n 0, 1) := by decide +kernel
theorem dX4_init_5 : decode cX4_init 5 = .ok (.bipush 60, 2) := by decide +kernel
theorem dX4_init_7 : decode cX4_init 7 = .ok (.newarray .int, 2) := by decide +kernel
theorem dX4_init_9 : decode cX4_init 9 = .ok (.putfield 9, 3) := by decide +kernel
theorem dX4_init_12 : decode cX4_init 12 = .ok (.aload_n 0, 1) := by decide +kernel
theorem dX4_init_13 : decode cX4_init 13 = .ok (.bipush 60, 2) := by decide +kernel
theorem dX4_init_15 : decode cX4_init 15 = .ok (.newarray .int, 2) := by decide +kernel
theorem dX4_init_17 : decode cX4_init 17 = .ok (.putfield 15, 3) := by decide +kernel
theorem dX4_init_20 : decode cX4_init 20 = .ok (.aload_n 0, 1) := by decide +kernel
theorem dX4_init_21 : decode cX4_init 21 = .ok (.bipush 60, 2) := by decide +kernel
theorem dX4_init_23 : decode cX4_init 23 = .ok (.newarray .int, 2) := by decide +kernel
theorem dX4_init_25 : decode cX4_init 25 = .ok (.putfield 18, 3) := by decide +kernel
theorem dX4_init_28 : decode cX4_init 28 = .ok (.aload_n 0, 1) := by decide +kernel
theorem dX4_init_29 : decode cX4_init 29 = .ok (.bipush 60, 2) := by decide +kernel
theorem dX4_init_31 : decode cX4_init 31 = .ok (.newarray .int, 2) := by decide +kernel
theorem dX4_init_33 : decode cX4_init 33 = .ok (.putfield 21, 3) := by decide +kernel
theorem dX4_init_36 : decode cX4_init 36 = .ok (.aload_n 0, 1) := by decide +kernel
theorem dX4_init_37 : decode cX4_init 37 = .ok (.iconst 0, 1) := by decide +kernel
theorem dX4_init_38 : decode cX4_init 38 = .ok (.putfield 24, 3) := by decide +kernel
theorem dX4_init_41 : decode cX4_init 41 = .ok (.return_, 1) := by decide +kernel
theorem dX4_forget_0 : decode cX4_forget 0 = .ok (.aload_n 0, 1) := by decide +kernel
theorem dX4_forget_1 : decode cX4_forget 1 = .ok (.iconst 0, 1) := by decide +kernel
theorem dX4_forget_2 : decode cX4_forget 2 = .ok (.putfield 24, 3) := by decide +kernel
theorem dX4_forget_5 : decode cX4_forget 5 = .ok (.return_, 1) := by decide +kernel
theorem dX4_kept_0 : decode cX4_kept 0 = .ok (.aload_n 0, 1) := by decide +kernel
theorem dX4_kept_1 : decode cX4_kept 1 = .ok (.getfield 24, 3) := by decide +kernel
theorem dX4_kept_4 : decode cX4_kept 4 = .ok (.bipush 60, 2) := by decide +kernel
theorem dX4_kept_6 : decode cX4_kept 6 = .ok (.invokestatic 28, 3) := by decide +kernel
theorem dX4_kept_9 : decode cX4_kept 9 = .ok (.ireturn, 1) := by decide +kernel
theorem dX4_add_0 : decode cX4_add 0 = .ok (.aload_n 0, 1) := by decide +kernel
theorem dX4_add_1 : decode cX4_add 1 = .ok (.getfield 24, 3) := by decide +kernel
theorem dX4_add_4 : decode cX4_add 4 = .ok (.bipush 60, 2) := by decide +kernel
theorem dX4_add_6 : decode cX4_add 6 = .ok (.irem, 1) := by decide +kernel
theorem dX4_add_7 : decode cX4_add 7 = .ok (.istore 5, 2) := by decide +kernel
theorem dX4_add_9 : decode cX4_add 9 = .ok (.aload_n 0, 1) := by decide +kernel
theorem dX4_add_10 : decode cX4_add 10 = .ok (.getfield 9, 3) := by decide +kernel
theorem dX4_add_13 : decode cX4_add 13 = .ok (.iload 5, 2) := by decide +kernel
theorem dX4_add_15 : decode cX4_add 15 = .ok (.iload_n 1, 1) := by decide +kernel
theorem dX4_add_16 : decode cX4_add 16 = .ok (.iastore, 1) := by decide +kernel
theorem dX4_add_17 : decode cX4_add 17 = .ok (.aload_n 0, 1) := by decide +kernel
theorem dX4_add_18 : decode cX4_add 18 = .ok (.getfield 15, 3) := by decide +kernel
theorem dX4_add_21 : decode cX4_add 21 = .ok (.iload 5, 2) := by decide +kernel
theorem dX4_add_23 : decode cX4_add 23 = .ok (.iload_n 2, 1) := by decide +kernel
theorem dX4_add_24 : decode cX4_add 24 = .ok (.iastore, 1) := by decide +kernel
theorem dX4_add_25 : decode cX4_add 25 = .ok (.aload_n 0, 1) := by decide +kernel
theorem dX4_add_26 : decode cX4_add 26 = .ok (.getfield 18, 3) := by decide +kernel
theorem dX4_add_29 : decode cX4_add 29 = .ok (.iload 5, 2) := by decide +kernel
theorem dX4_add_31 : decode cX4_add 31 = .ok (.iload_n 3, 1) := by decide +kernel
theorem dX4_add_32 : decode cX4_add 32 = .ok (.iastore, 1) := by decide +kernel
theorem dX4_add_33 : decode cX4_add 33 = .ok (.aload_n 0, 1) := by decide +kernel
theorem dX4_add_34 : decode cX4_add 34 = .ok (.getfield 21, 3) := by decide +kernel
theorem dX4_add_37 : decode cX4_add 37 = .ok (.iload 5, 2) := by decide +kernel
theorem dX4_add_39 : decode cX4_add 39 = .ok (.iload 4, 2) := by decide +kernel
theorem dX4_add_41 : decode cX4_add 41 = .ok (.iastore, 1) := by decide +kernel
theorem dX4_add_42 : decode cX4_add 42 = .ok (.aload_n 0, 1) := by decide +kernel
theorem dX4_add_43 : decode cX4_add 43 = .ok (.dup, 1) := by decide +kernel
theorem dX4_add_44 : decode cX4_add 44 = .ok (.getfield 24, 3) := by decide +kernel
theorem dX4_add_47 : decode cX4_add 47 = .ok (.iconst 1, 1) := by decide +kernel
theorem dX4_add_48 : decode cX4_add 48 = .ok (.iadd, 1) := by decide +kernel
theorem dX4_add_49 : decode cX4_add 49 = .ok (.putfield 24, 3) := by decide +kernel
theorem dX4_add_52 : decode cX4_add 52 = .ok (.return_, 1) := by decide +kernel
theorem dX4_told_0 : decode cX4_told 0 = .ok (.iload_n 1, 1) := by decide +kernel
theorem dX4_told_1 : decode cX4_told 1 = .ok (.ifCond .lt 11, 3) := by decide +kernel
theorem dX4_told_4 : decode cX4_told 4 = .ok (.iload_n 1, 1) := by decide +kernel
theorem dX4_told_5 : decode cX4_told 5 = .ok (.aload_n 0, 1) := by decide +kernel
theorem dX4_told_6 : decode cX4_told 6 = .ok (.invokevirtual 34, 3) := by decide +kernel
theorem dX4_told_9 : decode cX4_told 9 = .ok (.if_icmp .lt 6, 3) := by decide +kernel
theorem dX4_told_12 : decode cX4_told 12 = .ok (.bipush (-2), 2) := by decide +kernel
theorem dX4_told_14 : decode cX4_told 14 = .ok (.ireturn, 1) := by decide +kernel
theorem dX4_told_15 : decode cX4_told 15 = .ok (.aload_n 0, 1) := by decide +kernel
theorem dX4_told_16 : decode cX4_told 16 = .ok (.getfield 24, 3) := by decide +kernel
theorem dX4_told_19 : decode cX4_told 19 = .ok (.aload_n 0, 1) := by decide +kernel
theorem dX4_told_20 : decode cX4_told 20 = .ok (.invokevirtual 34, 3) := by decide +kernel
theorem dX4_told_23 : decode cX4_told 23 = .ok (.isub, 1) := by decide +kernel
theorem dX4_told_24 : decode cX4_told 24 = .ok (.iload_n 1, 1) := by decide +kernel
theorem dX4_told_25 : decode cX4_told 25 = .ok (.iadd, 1) := by decide +kernel
theorem dX4_told_26 : decode cX4_told 26 = .ok (.bipush 60, 2) := by decide +kernel
theorem dX4_told_28 : decode cX4_told 28 = .ok (.irem, 1) := by decide +kernel
theorem dX4_told_29 : decode cX4_told 29 = .ok (.istore_n 3, 1) := by decide +kernel
theorem dX4_told_30 : decode cX4_told 30 = .ok (.iload_n 2, 1) := by decide +kernel
theorem dX4_told_31 : decode cX4_told 31 = .ok (.tableswitch 57 0 3 #[29, 36, 43, 50], 29) := by decide +kernel
theorem dX4_told_60 : decode cX4_told 60 = .ok (.aload_n 0, 1) := by decide +kernel
theorem dX4_told_61 : decode cX4_told 61 = .ok (.getfield 9, 3) := by decide +kernel
theorem dX4_told_64 : decode cX4_told 64 = .ok (.iload_n 3, 1) := by decide +kernel
theorem dX4_told_65 : decode cX4_told 65 = .ok (.iaload, 1) := by decide +kernel
theorem dX4_told_66 : decode cX4_told 66 = .ok (.ireturn, 1) := by decide +kernel
theorem dX4_told_67 : decode cX4_told 67 = .ok (.aload_n 0, 1) := by decide +kernel
theorem dX4_told_68 : decode cX4_told 68 = .ok (.getfield 15, 3) := by decide +kernel
theorem dX4_told_71 : decode cX4_told 71 = .ok (.iload_n 3, 1) := by decide +kernel
theorem dX4_told_72 : decode cX4_told 72 = .ok (.iaload, 1) := by decide +kernel
theorem dX4_told_73 : decode cX4_told 73 = .ok (.ireturn, 1) := by decide +kernel
theorem dX4_told_74 : decode cX4_told 74 = .ok (.aload_n 0, 1) := by decide +kernel
theorem dX4_told_75 : decode cX4_told 75 = .ok (.getfield 18, 3) := by decide +kernel
theorem dX4_told_78 : decode cX4_told 78 = .ok (.iload_n 3, 1) := by decide +kernel
theorem dX4_told_79 : decode cX4_told 79 = .ok (.iaload, 1) := by decide +kernel
theorem dX4_told_80 : decode cX4_told 80 = .ok (.ireturn, 1) := by decide +kernel
theorem dX4_told_81 : decode cX4_told 81 = .ok (.aload_n 0, 1) := by decide +kernel
theorem dX4_told_82 : decode cX4_told 82 = .ok (.getfield 21, 3) := by decide +kernel
theorem dX4_told_85 : decode cX4_told 85 = .ok (.iload_n 3, 1) := by decide +kernel
theorem dX4_told_86 : decode cX4_told 86 = .ok (.iaload, 1) := by decide +kernel
theorem dX4_told_87 : decode cX4_told 87 = .ok (.ireturn, 1) := by decide +kernel
theorem dX4_told_88 : decode cX4_told 88 = .ok (.bipush (-2), 2) := by decide +kernel
theorem dX4_told_90 : decode cX4_told 90 = .ok (.ireturn, 1) := by decide +kernel
