theorem dX6_init_0 : decode cX6_init 0 = .ok (.aload_n 0, 1) := by decide +kernel
theorem dX6_init_1 : decode cX6_init 1 = .ok (.invokespecial 3, 3) := by decide +kernel
theorem dX6_init_4 : decode cX6_init 4 = .ok (.aload_n 0, 1) := by decide +kernel
theorem dX6_init_5 : decode cX6_init 5 = .ok (.bipush 60, 2) := by decide +kernel
theorem dX6_init_7 : decode cX6_init 7 = .ok (.newarray .int, 2) := by decide +kernel
theorem dX6_init_9 : decode cX6_init 9 = .ok (.putfield 11, 3) := by decide +kernel
theorem dX6_init_12 : decode cX6_init 12 = .ok (.aload_n 0, 1) := by decide +kernel
theorem dX6_init_13 : decode cX6_init 13 = .ok (.iconst 0, 1) := by decide +kernel
theorem dX6_init_14 : decode cX6_init 14 = .ok (.putfield 15, 3) := by decide +kernel
theorem dX6_init_17 : decode cX6_init 17 = .ok (.aload_n 0, 1) := by decide +kernel
theorem dX6_init_18 : decode cX6_init 18 = .ok (.iconst 0, 1) := by decide +kernel
theorem dX6_init_19 : decode cX6_init 19 = .ok (.putfield 19, 3) := by decide +kernel
theorem dX6_init_22 : decode cX6_init 22 = .ok (.return_, 1) := by decide +kernel
theorem dX6_forget_0 : decode cX6_forget 0 = .ok (.aload_n 0, 1) := by decide +kernel
theorem dX6_forget_1 : decode cX6_forget 1 = .ok (.iconst 0, 1) := by decide +kernel
theorem dX6_forget_2 : decode cX6_forget 2 = .ok (.putfield 15, 3) := by decide +kernel
theorem dX6_forget_5 : decode cX6_forget 5 = .ok (.aload_n 0, 1) := by decide +kernel
theorem dX6_forget_6 : decode cX6_forget 6 = .ok (.iconst 0, 1) := by decide +kernel
theorem dX6_forget_7 : decode cX6_forget 7 = .ok (.putfield 19, 3) := by decide +kernel
theorem dX6_forget_10 : decode cX6_forget 10 = .ok (.return_, 1) := by decide +kernel
theorem dX6_add_0 : decode cX6_add 0 = .ok (.aload_n 0, 1) := by decide +kernel
theorem dX6_add_1 : decode cX6_add 1 = .ok (.getfield 11, 3) := by decide +kernel
theorem dX6_add_4 : decode cX6_add 4 = .ok (.aload_n 0, 1) := by decide +kernel
theorem dX6_add_5 : decode cX6_add 5 = .ok (.getfield 15, 3) := by decide +kernel
theorem dX6_add_8 : decode cX6_add 8 = .ok (.bipush 60, 2) := by decide +kernel
theorem dX6_add_10 : decode cX6_add 10 = .ok (.irem, 1) := by decide +kernel
theorem dX6_add_11 : decode cX6_add 11 = .ok (.iload_n 1, 1) := by decide +kernel
theorem dX6_add_12 : decode cX6_add 12 = .ok (.iastore, 1) := by decide +kernel
theorem dX6_add_13 : decode cX6_add 13 = .ok (.aload_n 0, 1) := by decide +kernel
theorem dX6_add_14 : decode cX6_add 14 = .ok (.dup, 1) := by decide +kernel
theorem dX6_add_15 : decode cX6_add 15 = .ok (.getfield 15, 3) := by decide +kernel
theorem dX6_add_18 : decode cX6_add 18 = .ok (.iconst 1, 1) := by decide +kernel
theorem dX6_add_19 : decode cX6_add 19 = .ok (.iadd, 1) := by decide +kernel
theorem dX6_add_20 : decode cX6_add 20 = .ok (.putfield 15, 3) := by decide +kernel
theorem dX6_add_23 : decode cX6_add 23 = .ok (.aload_n 0, 1) := by decide +kernel
theorem dX6_add_24 : decode cX6_add 24 = .ok (.dup, 1) := by decide +kernel
theorem dX6_add_25 : decode cX6_add 25 = .ok (.getfield 19, 3) := by decide +kernel
theorem dX6_add_28 : decode cX6_add 28 = .ok (.iload_n 1, 1) := by decide +kernel
theorem dX6_add_29 : decode cX6_add 29 = .ok (.iadd, 1) := by decide +kernel
theorem dX6_add_30 : decode cX6_add 30 = .ok (.putfield 19, 3) := by decide +kernel
theorem dX6_add_33 : decode cX6_add 33 = .ok (.return_, 1) := by decide +kernel
theorem dX6_die_0 : decode cX6_die 0 = .ok (.iload_n 1, 1) := by decide +kernel
theorem dX6_die_1 : decode cX6_die 1 = .ok (.iconst 1, 1) := by decide +kernel
theorem dX6_die_2 : decode cX6_die 2 = .ok (.if_icmp .lt 17, 3) := by decide +kernel
theorem dX6_die_5 : decode cX6_die 5 = .ok (.iload_n 1, 1) := by decide +kernel
theorem dX6_die_6 : decode cX6_die 6 = .ok (.bipush 59, 2) := by decide +kernel
theorem dX6_die_8 : decode cX6_die 8 = .ok (.if_icmp .gt 11, 3) := by decide +kernel
theorem dX6_die_11 : decode cX6_die 11 = .ok (.iload_n 1, 1) := by decide +kernel
theorem dX6_die_12 : decode cX6_die 12 = .ok (.aload_n 0, 1) := by decide +kernel
theorem dX6_die_13 : decode cX6_die 13 = .ok (.getfield 15, 3) := by decide +kernel
theorem dX6_die_16 : decode cX6_die 16 = .ok (.if_icmp .le 4, 3) := by decide +kernel
theorem dX6_die_19 : decode cX6_die 19 = .ok (.return_, 1) := by decide +kernel
theorem dX6_die_20 : decode cX6_die 20 = .ok (.aload_n 0, 1) := by decide +kernel
theorem dX6_die_21 : decode cX6_die 21 = .ok (.getfield 15, 3) := by decide +kernel
theorem dX6_die_24 : decode cX6_die 24 = .ok (.iload_n 1, 1) := by decide +kernel
theorem dX6_die_25 : decode cX6_die 25 = .ok (.isub, 1) := by decide +kernel
theorem dX6_die_26 : decode cX6_die 26 = .ok (.bipush 60, 2) := by decide +kernel
theorem dX6_die_28 : decode cX6_die 28 = .ok (.irem, 1) := by decide +kernel
theorem dX6_die_29 : decode cX6_die 29 = .ok (.istore_n 2, 1) := by decide +kernel
theorem dX6_die_30 : decode cX6_die 30 = .ok (.aload_n 0, 1) := by decide +kernel
theorem dX6_die_31 : decode cX6_die 31 = .ok (.dup, 1) := by decide +kernel
theorem dX6_die_32 : decode cX6_die 32 = .ok (.getfield 19, 3) := by decide +kernel
theorem dX6_die_35 : decode cX6_die 35 = .ok (.aload_n 0, 1) := by decide +kernel
theorem dX6_die_36 : decode cX6_die 36 = .ok (.getfield 11, 3) := by decide +kernel
theorem dX6_die_39 : decode cX6_die 39 = .ok (.iload_n 2, 1) := by decide +kernel
theorem dX6_die_40 : decode cX6_die 40 = .ok (.iaload, 1) := by decide +kernel
theorem dX6_die_41 : decode cX6_die 41 = .ok (.isub, 1) := by decide +kernel
theorem dX6_die_42 : decode cX6_die 42 = .ok (.putfield 19, 3) := by decide +kernel
theorem dX6_die_45 : decode cX6_die 45 = .ok (.aload_n 0, 1) := by decide +kernel
theorem dX6_die_46 : decode cX6_die 46 = .ok (.getfield 11, 3) := by decide +kernel
theorem dX6_die_49 : decode cX6_die 49 = .ok (.iload_n 2, 1) := by decide +kernel
theorem dX6_die_50 : decode cX6_die 50 = .ok (.iconst 0, 1) := by decide +kernel
theorem dX6_die_51 : decode cX6_die 51 = .ok (.iastore, 1) := by decide +kernel
theorem dX6_die_52 : decode cX6_die 52 = .ok (.return_, 1) := by decide +kernel
