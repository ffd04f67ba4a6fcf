theorem dX1_init_0 : decode cX1_init 0 = .ok (.aload_n 0, 1) := by decide +kernel
theorem dX1_init_1 : decode cX1_init 1 = .ok (.invokespecial 3, 3) := by decide +kernel
theorem dX1_init_4 : decode cX1_init 4 = .ok (.aload_n 0, 1) := by decide +kernel
theorem dX1_init_5 : decode cX1_init 5 = .ok (.bipush 60, 2) := by decide +kernel
theorem dX1_init_7 : decode cX1_init 7 = .ok (.newarray .int, 2) := by decide +kernel
theorem dX1_init_9 : decode cX1_init 9 = .ok (.putfield 9, 3) := by decide +kernel
theorem dX1_init_12 : decode cX1_init 12 = .ok (.aload_n 0, 1) := by decide +kernel
theorem dX1_init_13 : decode cX1_init 13 = .ok (.bipush 65, 2) := by decide +kernel
theorem dX1_init_15 : decode cX1_init 15 = .ok (.newarray .int, 2) := by decide +kernel
theorem dX1_init_17 : decode cX1_init 17 = .ok (.putfield 15, 3) := by decide +kernel
theorem dX1_init_20 : decode cX1_init 20 = .ok (.return_, 1) := by decide +kernel
theorem dX1_become_0 : decode cX1_become 0 = .ok (.aload_n 0, 1) := by decide +kernel
theorem dX1_become_1 : decode cX1_become 1 = .ok (.aload_n 1, 1) := by decide +kernel
theorem dX1_become_2 : decode cX1_become 2 = .ok (.getfield 18, 3) := by decide +kernel
theorem dX1_become_5 : decode cX1_become 5 = .ok (.putfield 24, 3) := by decide +kernel
theorem dX1_become_8 : decode cX1_become 8 = .ok (.iconst 0, 1) := by decide +kernel
theorem dX1_become_9 : decode cX1_become 9 = .ok (.istore 5, 2) := by decide +kernel
theorem dX1_become_11 : decode cX1_become 11 = .ok (.iload 5, 2) := by decide +kernel
theorem dX1_become_13 : decode cX1_become 13 = .ok (.aload_n 0, 1) := by decide +kernel
theorem dX1_become_14 : decode cX1_become 14 = .ok (.getfield 24, 3) := by decide +kernel
theorem dX1_become_17 : decode cX1_become 17 = .ok (.if_icmp .ge 24, 3) := by decide +kernel
theorem dX1_become_20 : decode cX1_become 20 = .ok (.aload_n 0, 1) := by decide +kernel
theorem dX1_become_21 : decode cX1_become 21 = .ok (.getfield 9, 3) := by decide +kernel
theorem dX1_become_24 : decode cX1_become 24 = .ok (.iload 5, 2) := by decide +kernel
theorem dX1_become_26 : decode cX1_become 26 = .ok (.aload_n 1, 1) := by decide +kernel
theorem dX1_become_27 : decode cX1_become 27 = .ok (.getfield 25, 3) := by decide +kernel
theorem dX1_become_30 : decode cX1_become 30 = .ok (.iload 5, 2) := by decide +kernel
theorem dX1_become_32 : decode cX1_become 32 = .ok (.laload, 1) := by decide +kernel
theorem dX1_become_33 : decode cX1_become 33 = .ok (.l2i, 1) := by decide +kernel
theorem dX1_become_34 : decode cX1_become 34 = .ok (.iastore, 1) := by decide +kernel
theorem dX1_become_35 : decode cX1_become 35 = .ok (.iinc 5 1, 3) := by decide +kernel
theorem dX1_become_38 : decode cX1_become 38 = .ok (.goto (-27), 3) := by decide +kernel
theorem dX1_become_41 : decode cX1_become 41 = .ok (.aload_n 0, 1) := by decide +kernel
theorem dX1_become_42 : decode cX1_become 42 = .ok (.iload_n 2, 1) := by decide +kernel
theorem dX1_become_43 : decode cX1_become 43 = .ok (.putfield 29, 3) := by decide +kernel
theorem dX1_become_46 : decode cX1_become 46 = .ok (.aload_n 0, 1) := by decide +kernel
theorem dX1_become_47 : decode cX1_become 47 = .ok (.iload_n 3, 1) := by decide +kernel
theorem dX1_become_48 : decode cX1_become 48 = .ok (.putfield 33, 3) := by decide +kernel
theorem dX1_become_51 : decode cX1_become 51 = .ok (.aload_n 0, 1) := by decide +kernel
theorem dX1_become_52 : decode cX1_become 52 = .ok (.iload 4, 2) := by decide +kernel
theorem dX1_become_54 : decode cX1_become 54 = .ok (.putfield 36, 3) := by decide +kernel
theorem dX1_become_57 : decode cX1_become 57 = .ok (.aload_n 0, 1) := by decide +kernel
theorem dX1_become_58 : decode cX1_become 58 = .ok (.iconst 0, 1) := by decide +kernel
theorem dX1_become_59 : decode cX1_become 59 = .ok (.putfield 39, 3) := by decide +kernel
theorem dX1_become_62 : decode cX1_become 62 = .ok (.return_, 1) := by decide +kernel
theorem dX1_isMake_0 : decode cX1_isMake 0 = .ok (.iload_n 0, 1) := by decide +kernel
theorem dX1_isMake_1 : decode cX1_isMake 1 = .ok (.ifCond .le 14, 3) := by decide +kernel
theorem dX1_isMake_4 : decode cX1_isMake 4 = .ok (.iload_n 0, 1) := by decide +kernel
theorem dX1_isMake_5 : decode cX1_isMake 5 = .ok (.sipush 1000, 3) := by decide +kernel
theorem dX1_isMake_8 : decode cX1_isMake 8 = .ok (.if_icmp .ge 7, 3) := by decide +kernel
theorem dX1_isMake_11 : decode cX1_isMake 11 = .ok (.iconst 1, 1) := by decide +kernel
theorem dX1_isMake_12 : decode cX1_isMake 12 = .ok (.goto 4, 3) := by decide +kernel
theorem dX1_isMake_15 : decode cX1_isMake 15 = .ok (.iconst 0, 1) := by decide +kernel
theorem dX1_isMake_16 : decode cX1_isMake 16 = .ok (.ireturn, 1) := by decide +kernel
theorem dX1_holds_0 : decode cX1_holds 0 = .ok (.aload_n 0, 1) := by decide +kernel
theorem dX1_holds_1 : decode cX1_holds 1 = .ok (.getfield 29, 3) := by decide +kernel
theorem dX1_holds_4 : decode cX1_holds 4 = .ok (.ifCond .eq 9, 3) := by decide +kernel
theorem dX1_holds_7 : decode cX1_holds 7 = .ok (.iload_n 1, 1) := by decide +kernel
theorem dX1_holds_8 : decode cX1_holds 8 = .ok (.iconst 2, 1) := by decide +kernel
theorem dX1_holds_9 : decode cX1_holds 9 = .ok (.idiv, 1) := by decide +kernel
theorem dX1_holds_10 : decode cX1_holds 10 = .ok (.goto 4, 3) := by decide +kernel
theorem dX1_holds_13 : decode cX1_holds 13 = .ok (.iload_n 1, 1) := by decide +kernel
theorem dX1_holds_14 : decode cX1_holds 14 = .ok (.ireturn, 1) := by decide +kernel
theorem dX1_roomFor_0 : decode cX1_roomFor 0 = .ok (.aload_n 0, 1) := by decide +kernel
theorem dX1_roomFor_1 : decode cX1_roomFor 1 = .ok (.getfield 29, 3) := by decide +kernel
theorem dX1_roomFor_4 : decode cX1_roomFor 4 = .ok (.ifCond .eq 9, 3) := by decide +kernel
theorem dX1_roomFor_7 : decode cX1_roomFor 7 = .ok (.iconst 2, 1) := by decide +kernel
theorem dX1_roomFor_8 : decode cX1_roomFor 8 = .ok (.iload_n 1, 1) := by decide +kernel
theorem dX1_roomFor_9 : decode cX1_roomFor 9 = .ok (.imul, 1) := by decide +kernel
theorem dX1_roomFor_10 : decode cX1_roomFor 10 = .ok (.goto 4, 3) := by decide +kernel
theorem dX1_roomFor_13 : decode cX1_roomFor 13 = .ok (.iload_n 1, 1) := by decide +kernel
theorem dX1_roomFor_14 : decode cX1_roomFor 14 = .ok (.ireturn, 1) := by decide +kernel
theorem dX1_costToCollect_0 : decode cX1_costToCollect 0 = .ok (.aload_n 0, 1) := by decide +kernel
theorem dX1_costToCollect_1 : decode cX1_costToCollect 1 = .ok (.getfield 29, 3) := by decide +kernel
theorem dX1_costToCollect_4 : decode cX1_costToCollect 4 = .ok (.ifCond .eq 11, 3) := by decide +kernel
theorem dX1_costToCollect_7 : decode cX1_costToCollect 7 = .ok (.iconst 1, 1) := by decide +kernel
theorem dX1_costToCollect_8 : decode cX1_costToCollect 8 = .ok (.iconst 2, 1) := by decide +kernel
theorem dX1_costToCollect_9 : decode cX1_costToCollect 9 = .ok (.iload_n 1, 1) := by decide +kernel
theorem dX1_costToCollect_10 : decode cX1_costToCollect 10 = .ok (.imul, 1) := by decide +kernel
theorem dX1_costToCollect_11 : decode cX1_costToCollect 11 = .ok (.iadd, 1) := by decide +kernel
theorem dX1_costToCollect_12 : decode cX1_costToCollect 12 = .ok (.goto 10, 3) := by decide +kernel
theorem dX1_costToCollect_15 : decode cX1_costToCollect 15 = .ok (.iconst 1, 1) := by decide +kernel
theorem dX1_costToCollect_16 : decode cX1_costToCollect 16 = .ok (.iload_n 1, 1) := by decide +kernel
theorem dX1_costToCollect_17 : decode cX1_costToCollect 17 = .ok (.iadd, 1) := by decide +kernel
theorem dX1_costToCollect_18 : decode cX1_costToCollect 18 = .ok (.iload_n 2, 1) := by decide +kernel
theorem dX1_costToCollect_19 : decode cX1_costToCollect 19 = .ok (.iconst 2, 1) := by decide +kernel
theorem dX1_costToCollect_20 : decode cX1_costToCollect 20 = .ok (.idiv, 1) := by decide +kernel
theorem dX1_costToCollect_21 : decode cX1_costToCollect 21 = .ok (.iadd, 1) := by decide +kernel
theorem dX1_costToCollect_22 : decode cX1_costToCollect 22 = .ok (.ireturn, 1) := by decide +kernel
theorem dX1_fallsEverSlower_0 : decode cX1_fallsEverSlower 0 = .ok (.ldc 44, 2) := by decide +kernel
theorem dX1_fallsEverSlower_2 : decode cX1_fallsEverSlower 2 = .ok (.istore_n 3, 1) := by decide +kernel
theorem dX1_fallsEverSlower_3 : decode cX1_fallsEverSlower 3 = .ok (.iload_n 1, 1) := by decide +kernel
theorem dX1_fallsEverSlower_4 : decode cX1_fallsEverSlower 4 = .ok (.istore 4, 2) := by decide +kernel
theorem dX1_fallsEverSlower_6 : decode cX1_fallsEverSlower 6 = .ok (.iload 4, 2) := by decide +kernel
theorem dX1_fallsEverSlower_8 : decode cX1_fallsEverSlower 8 = .ok (.iload_n 2, 1) := by decide +kernel
theorem dX1_fallsEverSlower_9 : decode cX1_fallsEverSlower 9 = .ok (.if_icmp .ge 44, 3) := by decide +kernel
theorem dX1_fallsEverSlower_12 : decode cX1_fallsEverSlower 12 = .ok (.aload_n 0, 1) := by decide +kernel
theorem dX1_fallsEverSlower_13 : decode cX1_fallsEverSlower 13 = .ok (.getfield 15, 3) := by decide +kernel
theorem dX1_fallsEverSlower_16 : decode cX1_fallsEverSlower 16 = .ok (.iload 4, 2) := by decide +kernel
theorem dX1_fallsEverSlower_18 : decode cX1_fallsEverSlower 18 = .ok (.iaload, 1) := by decide +kernel
theorem dX1_fallsEverSlower_19 : decode cX1_fallsEverSlower 19 = .ok (.aload_n 0, 1) := by decide +kernel
theorem dX1_fallsEverSlower_20 : decode cX1_fallsEverSlower 20 = .ok (.getfield 15, 3) := by decide +kernel
theorem dX1_fallsEverSlower_23 : decode cX1_fallsEverSlower 23 = .ok (.iload 4, 2) := by decide +kernel
theorem dX1_fallsEverSlower_25 : decode cX1_fallsEverSlower 25 = .ok (.iconst 1, 1) := by decide +kernel
theorem dX1_fallsEverSlower_26 : decode cX1_fallsEverSlower 26 = .ok (.iadd, 1) := by decide +kernel
theorem dX1_fallsEverSlower_27 : decode cX1_fallsEverSlower 27 = .ok (.iaload, 1) := by decide +kernel
theorem dX1_fallsEverSlower_28 : decode cX1_fallsEverSlower 28 = .ok (.isub, 1) := by decide +kernel
theorem dX1_fallsEverSlower_29 : decode cX1_fallsEverSlower 29 = .ok (.istore 5, 2) := by decide +kernel
theorem dX1_fallsEverSlower_31 : decode cX1_fallsEverSlower 31 = .ok (.iload 5, 2) := by decide +kernel
theorem dX1_fallsEverSlower_33 : decode cX1_fallsEverSlower 33 = .ok (.ifCond .lt 9, 3) := by decide +kernel
theorem dX1_fallsEverSlower_36 : decode cX1_fallsEverSlower 36 = .ok (.iload 5, 2) := by decide +kernel
theorem dX1_fallsEverSlower_38 : decode cX1_fallsEverSlower 38 = .ok (.iload_n 3, 1) := by decide +kernel
theorem dX1_fallsEverSlower_39 : decode cX1_fallsEverSlower 39 = .ok (.if_icmp .le 5, 3) := by decide +kernel
theorem dX1_fallsEverSlower_42 : decode cX1_fallsEverSlower 42 = .ok (.iconst 0, 1) := by decide +kernel
theorem dX1_fallsEverSlower_43 : decode cX1_fallsEverSlower 43 = .ok (.ireturn, 1) := by decide +kernel
theorem dX1_fallsEverSlower_44 : decode cX1_fallsEverSlower 44 = .ok (.iload 5, 2) := by decide +kernel
theorem dX1_fallsEverSlower_46 : decode cX1_fallsEverSlower 46 = .ok (.istore_n 3, 1) := by decide +kernel
theorem dX1_fallsEverSlower_47 : decode cX1_fallsEverSlower 47 = .ok (.iinc 4 1, 3) := by decide +kernel
theorem dX1_fallsEverSlower_50 : decode cX1_fallsEverSlower 50 = .ok (.goto (-44), 3) := by decide +kernel
theorem dX1_fallsEverSlower_53 : decode cX1_fallsEverSlower 53 = .ok (.iconst 1, 1) := by decide +kernel
theorem dX1_fallsEverSlower_54 : decode cX1_fallsEverSlower 54 = .ok (.ireturn, 1) := by decide +kernel
