theorem dX8_init_0 : decode cX8_init 0 = .ok (.aload_n 0, 1) := by decide +kernel
theorem dX8_init_1 : decode cX8_init 1 = .ok (.invokespecial 3, 3) := by decide +kernel
theorem dX8_init_4 : decode cX8_init 4 = .ok (.aload_n 0, 1) := by decide +kernel
theorem dX8_init_5 : decode cX8_init 5 = .ok (.new 9, 3) := by decide +kernel
theorem dX8_init_8 : decode cX8_init 8 = .ok (.dup, 1) := by decide +kernel
theorem dX8_init_9 : decode cX8_init 9 = .ok (.invokespecial 11, 3) := by decide +kernel
theorem dX8_init_12 : decode cX8_init 12 = .ok (.putfield 12, 3) := by decide +kernel
theorem dX8_init_15 : decode cX8_init 15 = .ok (.aload_n 0, 1) := by decide +kernel
theorem dX8_init_16 : decode cX8_init 16 = .ok (.bipush 65, 2) := by decide +kernel
theorem dX8_init_18 : decode cX8_init 18 = .ok (.newarray .int, 2) := by decide +kernel
theorem dX8_init_20 : decode cX8_init 20 = .ok (.putfield 18, 3) := by decide +kernel
theorem dX8_init_23 : decode cX8_init 23 = .ok (.aload_n 0, 1) := by decide +kernel
theorem dX8_init_24 : decode cX8_init 24 = .ok (.bipush 65, 2) := by decide +kernel
theorem dX8_init_26 : decode cX8_init 26 = .ok (.newarray .int, 2) := by decide +kernel
theorem dX8_init_28 : decode cX8_init 28 = .ok (.putfield 22, 3) := by decide +kernel
theorem dX8_init_31 : decode cX8_init 31 = .ok (.aload_n 0, 1) := by decide +kernel
theorem dX8_init_32 : decode cX8_init 32 = .ok (.bipush 65, 2) := by decide +kernel
theorem dX8_init_34 : decode cX8_init 34 = .ok (.newarray .int, 2) := by decide +kernel
theorem dX8_init_36 : decode cX8_init 36 = .ok (.putfield 25, 3) := by decide +kernel
theorem dX8_init_39 : decode cX8_init 39 = .ok (.return_, 1) := by decide +kernel
theorem dX8_pass_0 : decode cX8_pass 0 = .ok (.aload_n 0, 1) := by decide +kernel
theorem dX8_pass_1 : decode cX8_pass 1 = .ok (.iload 4, 2) := by decide +kernel
theorem dX8_pass_3 : decode cX8_pass 3 = .ok (.bipush 65, 2) := by decide +kernel
theorem dX8_pass_5 : decode cX8_pass 5 = .ok (.invokestatic 28, 3) := by decide +kernel
theorem dX8_pass_8 : decode cX8_pass 8 = .ok (.putfield 34, 3) := by decide +kernel
theorem dX8_pass_11 : decode cX8_pass 11 = .ok (.aload_n 0, 1) := by decide +kernel
theorem dX8_pass_12 : decode cX8_pass 12 = .ok (.iconst 0, 1) := by decide +kernel
theorem dX8_pass_13 : decode cX8_pass 13 = .ok (.putfield 38, 3) := by decide +kernel
theorem dX8_pass_16 : decode cX8_pass 16 = .ok (.aload_n 0, 1) := by decide +kernel
theorem dX8_pass_17 : decode cX8_pass 17 = .ok (.iconst 0, 1) := by decide +kernel
theorem dX8_pass_18 : decode cX8_pass 18 = .ok (.putfield 41, 3) := by decide +kernel
theorem dX8_pass_21 : decode cX8_pass 21 = .ok (.aload_n 0, 1) := by decide +kernel
theorem dX8_pass_22 : decode cX8_pass 22 = .ok (.getfield 12, 3) := by decide +kernel
theorem dX8_pass_25 : decode cX8_pass 25 = .ok (.invokevirtual 44, 3) := by decide +kernel
theorem dX8_pass_28 : decode cX8_pass 28 = .ok (.iconst 0, 1) := by decide +kernel
theorem dX8_pass_29 : decode cX8_pass 29 = .ok (.istore 5, 2) := by decide +kernel
theorem dX8_pass_31 : decode cX8_pass 31 = .ok (.iload 5, 2) := by decide +kernel
theorem dX8_pass_33 : decode cX8_pass 33 = .ok (.aload_n 0, 1) := by decide +kernel
theorem dX8_pass_34 : decode cX8_pass 34 = .ok (.getfield 34, 3) := by decide +kernel
theorem dX8_pass_37 : decode cX8_pass 37 = .ok (.if_icmp .ge 42, 3) := by decide +kernel
theorem dX8_pass_40 : decode cX8_pass 40 = .ok (.aload_n 0, 1) := by decide +kernel
theorem dX8_pass_41 : decode cX8_pass 41 = .ok (.getfield 18, 3) := by decide +kernel
theorem dX8_pass_44 : decode cX8_pass 44 = .ok (.iload 5, 2) := by decide +kernel
theorem dX8_pass_46 : decode cX8_pass 46 = .ok (.aload_n 1, 1) := by decide +kernel
theorem dX8_pass_47 : decode cX8_pass 47 = .ok (.iload_n 2, 1) := by decide +kernel
theorem dX8_pass_48 : decode cX8_pass 48 = .ok (.iload 5, 2) := by decide +kernel
theorem dX8_pass_50 : decode cX8_pass 50 = .ok (.iload_n 3, 1) := by decide +kernel
theorem dX8_pass_51 : decode cX8_pass 51 = .ok (.imul, 1) := by decide +kernel
theorem dX8_pass_52 : decode cX8_pass 52 = .ok (.iadd, 1) := by decide +kernel
theorem dX8_pass_53 : decode cX8_pass 53 = .ok (.invokevirtual 47, 3) := by decide +kernel
theorem dX8_pass_56 : decode cX8_pass 56 = .ok (.iastore, 1) := by decide +kernel
theorem dX8_pass_57 : decode cX8_pass 57 = .ok (.aload_n 0, 1) := by decide +kernel
theorem dX8_pass_58 : decode cX8_pass 58 = .ok (.getfield 22, 3) := by decide +kernel
theorem dX8_pass_61 : decode cX8_pass 61 = .ok (.iload 5, 2) := by decide +kernel
theorem dX8_pass_63 : decode cX8_pass 63 = .ok (.iconst 0, 1) := by decide +kernel
theorem dX8_pass_64 : decode cX8_pass 64 = .ok (.iastore, 1) := by decide +kernel
theorem dX8_pass_65 : decode cX8_pass 65 = .ok (.aload_n 0, 1) := by decide +kernel
theorem dX8_pass_66 : decode cX8_pass 66 = .ok (.getfield 25, 3) := by decide +kernel
theorem dX8_pass_69 : decode cX8_pass 69 = .ok (.iload 5, 2) := by decide +kernel
theorem dX8_pass_71 : decode cX8_pass 71 = .ok (.iconst 0, 1) := by decide +kernel
theorem dX8_pass_72 : decode cX8_pass 72 = .ok (.iastore, 1) := by decide +kernel
theorem dX8_pass_73 : decode cX8_pass 73 = .ok (.iinc 5 1, 3) := by decide +kernel
theorem dX8_pass_76 : decode cX8_pass 76 = .ok (.goto (-45), 3) := by decide +kernel
theorem dX8_pass_79 : decode cX8_pass 79 = .ok (.iconst 0, 1) := by decide +kernel
theorem dX8_pass_80 : decode cX8_pass 80 = .ok (.istore 5, 2) := by decide +kernel
theorem dX8_pass_82 : decode cX8_pass 82 = .ok (.iload 5, 2) := by decide +kernel
theorem dX8_pass_84 : decode cX8_pass 84 = .ok (.aload_n 1, 1) := by decide +kernel
theorem dX8_pass_85 : decode cX8_pass 85 = .ok (.getfield 52, 3) := by decide +kernel
theorem dX8_pass_88 : decode cX8_pass 88 = .ok (.if_icmp .ge 25, 3) := by decide +kernel
theorem dX8_pass_91 : decode cX8_pass 91 = .ok (.aload_n 0, 1) := by decide +kernel
theorem dX8_pass_92 : decode cX8_pass 92 = .ok (.getfield 38, 3) := by decide +kernel
theorem dX8_pass_95 : decode cX8_pass 95 = .ok (.aload_n 0, 1) := by decide +kernel
theorem dX8_pass_96 : decode cX8_pass 96 = .ok (.getfield 34, 3) := by decide +kernel
theorem dX8_pass_99 : decode cX8_pass 99 = .ok (.if_icmp .ge 14, 3) := by decide +kernel
theorem dX8_pass_102 : decode cX8_pass 102 = .ok (.aload_n 0, 1) := by decide +kernel
theorem dX8_pass_103 : decode cX8_pass 103 = .ok (.aload_n 1, 1) := by decide +kernel
theorem dX8_pass_104 : decode cX8_pass 104 = .ok (.invokevirtual 55, 3) := by decide +kernel
theorem dX8_pass_107 : decode cX8_pass 107 = .ok (.iinc 5 1, 3) := by decide +kernel
theorem dX8_pass_110 : decode cX8_pass 110 = .ok (.goto (-28), 3) := by decide +kernel
theorem dX8_pass_113 : decode cX8_pass 113 = .ok (.return_, 1) := by decide +kernel
theorem dX8_passRound_0 : decode cX8_passRound 0 = .ok (.iconst 0, 1) := by decide +kernel
theorem dX8_passRound_1 : decode cX8_passRound 1 = .ok (.istore_n 2, 1) := by decide +kernel
theorem dX8_passRound_2 : decode cX8_passRound 2 = .ok (.iload_n 2, 1) := by decide +kernel
theorem dX8_passRound_3 : decode cX8_passRound 3 = .ok (.aload_n 1, 1) := by decide +kernel
theorem dX8_passRound_4 : decode cX8_passRound 4 = .ok (.getfield 59, 3) := by decide +kernel
theorem dX8_passRound_7 : decode cX8_passRound 7 = .ok (.if_icmp .ge 70, 3) := by decide +kernel
theorem dX8_passRound_10 : decode cX8_passRound 10 = .ok (.aload_n 1, 1) := by decide +kernel
theorem dX8_passRound_11 : decode cX8_passRound 11 = .ok (.getfield 62, 3) := by decide +kernel
theorem dX8_passRound_14 : decode cX8_passRound 14 = .ok (.iload_n 2, 1) := by decide +kernel
theorem dX8_passRound_15 : decode cX8_passRound 15 = .ok (.iaload, 1) := by decide +kernel
theorem dX8_passRound_16 : decode cX8_passRound 16 = .ok (.istore_n 3, 1) := by decide +kernel
theorem dX8_passRound_17 : decode cX8_passRound 17 = .ok (.aload_n 0, 1) := by decide +kernel
theorem dX8_passRound_18 : decode cX8_passRound 18 = .ok (.dup, 1) := by decide +kernel
theorem dX8_passRound_19 : decode cX8_passRound 19 = .ok (.getfield 41, 3) := by decide +kernel
theorem dX8_passRound_22 : decode cX8_passRound 22 = .ok (.iload_n 3, 1) := by decide +kernel
theorem dX8_passRound_23 : decode cX8_passRound 23 = .ok (.sipush 1000, 3) := by decide +kernel
theorem dX8_passRound_26 : decode cX8_passRound 26 = .ok (.if_icmp .le 11, 3) := by decide +kernel
theorem dX8_passRound_29 : decode cX8_passRound 29 = .ok (.iload_n 3, 1) := by decide +kernel
theorem dX8_passRound_30 : decode cX8_passRound 30 = .ok (.sipush 1000, 3) := by decide +kernel
theorem dX8_passRound_33 : decode cX8_passRound 33 = .ok (.isub, 1) := by decide +kernel
theorem dX8_passRound_34 : decode cX8_passRound 34 = .ok (.goto 4, 3) := by decide +kernel
theorem dX8_passRound_37 : decode cX8_passRound 37 = .ok (.iconst 1, 1) := by decide +kernel
theorem dX8_passRound_38 : decode cX8_passRound 38 = .ok (.iadd, 1) := by decide +kernel
theorem dX8_passRound_39 : decode cX8_passRound 39 = .ok (.putfield 41, 3) := by decide +kernel
theorem dX8_passRound_42 : decode cX8_passRound 42 = .ok (.iload_n 3, 1) := by decide +kernel
theorem dX8_passRound_43 : decode cX8_passRound 43 = .ok (.ifCond .ge 15, 3) := by decide +kernel
theorem dX8_passRound_46 : decode cX8_passRound 46 = .ok (.aload_n 0, 1) := by decide +kernel
theorem dX8_passRound_47 : decode cX8_passRound 47 = .ok (.getfield 12, 3) := by decide +kernel
theorem dX8_passRound_50 : decode cX8_passRound 50 = .ok (.iload_n 3, 1) := by decide +kernel
theorem dX8_passRound_51 : decode cX8_passRound 51 = .ok (.ineg, 1) := by decide +kernel
theorem dX8_passRound_52 : decode cX8_passRound 52 = .ok (.invokevirtual 65, 3) := by decide +kernel
theorem dX8_passRound_55 : decode cX8_passRound 55 = .ok (.goto 16, 3) := by decide +kernel
theorem dX8_passRound_58 : decode cX8_passRound 58 = .ok (.iload_n 3, 1) := by decide +kernel
theorem dX8_passRound_59 : decode cX8_passRound 59 = .ok (.invokestatic 69, 3) := by decide +kernel
theorem dX8_passRound_62 : decode cX8_passRound 62 = .ok (.ifCond .eq 9, 3) := by decide +kernel
theorem dX8_passRound_65 : decode cX8_passRound 65 = .ok (.aload_n 0, 1) := by decide +kernel
theorem dX8_passRound_66 : decode cX8_passRound 66 = .ok (.aload_n 1, 1) := by decide +kernel
theorem dX8_passRound_67 : decode cX8_passRound 67 = .ok (.iload_n 3, 1) := by decide +kernel
theorem dX8_passRound_68 : decode cX8_passRound 68 = .ok (.invokevirtual 73, 3) := by decide +kernel
theorem dX8_passRound_71 : decode cX8_passRound 71 = .ok (.iinc 2 1, 3) := by decide +kernel
theorem dX8_passRound_74 : decode cX8_passRound 74 = .ok (.goto (-72), 3) := by decide +kernel
theorem dX8_passRound_77 : decode cX8_passRound 77 = .ok (.return_, 1) := by decide +kernel
theorem dX8_makeInAll_0 : decode cX8_makeInAll 0 = .ok (.aload_n 0, 1) := by decide +kernel
theorem dX8_makeInAll_1 : decode cX8_makeInAll 1 = .ok (.getfield 12, 3) := by decide +kernel
theorem dX8_makeInAll_4 : decode cX8_makeInAll 4 = .ok (.getfield 77, 3) := by decide +kernel
theorem dX8_makeInAll_7 : decode cX8_makeInAll 7 = .ok (.istore_n 3, 1) := by decide +kernel
theorem dX8_makeInAll_8 : decode cX8_makeInAll 8 = .ok (.aload_n 0, 1) := by decide +kernel
theorem dX8_makeInAll_9 : decode cX8_makeInAll 9 = .ok (.getfield 38, 3) := by decide +kernel
theorem dX8_makeInAll_12 : decode cX8_makeInAll 12 = .ok (.aload_n 0, 1) := by decide +kernel
theorem dX8_makeInAll_13 : decode cX8_makeInAll 13 = .ok (.getfield 34, 3) := by decide +kernel
theorem dX8_makeInAll_16 : decode cX8_makeInAll 16 = .ok (.if_icmp .ge 31, 3) := by decide +kernel
theorem dX8_makeInAll_19 : decode cX8_makeInAll 19 = .ok (.iload_n 3, 1) := by decide +kernel
theorem dX8_makeInAll_20 : decode cX8_makeInAll 20 = .ok (.iload_n 2, 1) := by decide +kernel
theorem dX8_makeInAll_21 : decode cX8_makeInAll 21 = .ok (.iadd, 1) := by decide +kernel
theorem dX8_makeInAll_22 : decode cX8_makeInAll 22 = .ok (.aload_n 0, 1) := by decide +kernel
theorem dX8_makeInAll_23 : decode cX8_makeInAll 23 = .ok (.getfield 18, 3) := by decide +kernel
theorem dX8_makeInAll_26 : decode cX8_makeInAll 26 = .ok (.aload_n 0, 1) := by decide +kernel
theorem dX8_makeInAll_27 : decode cX8_makeInAll 27 = .ok (.getfield 38, 3) := by decide +kernel
theorem dX8_makeInAll_30 : decode cX8_makeInAll 30 = .ok (.iaload, 1) := by decide +kernel
theorem dX8_makeInAll_31 : decode cX8_makeInAll 31 = .ok (.if_icmp .le 16, 3) := by decide +kernel
theorem dX8_makeInAll_34 : decode cX8_makeInAll 34 = .ok (.aload_n 0, 1) := by decide +kernel
theorem dX8_makeInAll_35 : decode cX8_makeInAll 35 = .ok (.dup, 1) := by decide +kernel
theorem dX8_makeInAll_36 : decode cX8_makeInAll 36 = .ok (.getfield 38, 3) := by decide +kernel
theorem dX8_makeInAll_39 : decode cX8_makeInAll 39 = .ok (.iconst 1, 1) := by decide +kernel
theorem dX8_makeInAll_40 : decode cX8_makeInAll 40 = .ok (.iadd, 1) := by decide +kernel
theorem dX8_makeInAll_41 : decode cX8_makeInAll 41 = .ok (.putfield 38, 3) := by decide +kernel
theorem dX8_makeInAll_44 : decode cX8_makeInAll 44 = .ok (.goto (-36), 3) := by decide +kernel
theorem dX8_makeInAll_47 : decode cX8_makeInAll 47 = .ok (.aload_n 0, 1) := by decide +kernel
theorem dX8_makeInAll_48 : decode cX8_makeInAll 48 = .ok (.getfield 38, 3) := by decide +kernel
theorem dX8_makeInAll_51 : decode cX8_makeInAll 51 = .ok (.istore 4, 2) := by decide +kernel
theorem dX8_makeInAll_53 : decode cX8_makeInAll 53 = .ok (.iload 4, 2) := by decide +kernel
theorem dX8_makeInAll_55 : decode cX8_makeInAll 55 = .ok (.aload_n 0, 1) := by decide +kernel
theorem dX8_makeInAll_56 : decode cX8_makeInAll 56 = .ok (.getfield 34, 3) := by decide +kernel
theorem dX8_makeInAll_59 : decode cX8_makeInAll 59 = .ok (.if_icmp .ge 69, 3) := by decide +kernel
theorem dX8_makeInAll_62 : decode cX8_makeInAll 62 = .ok (.aload_n 0, 1) := by decide +kernel
theorem dX8_makeInAll_63 : decode cX8_makeInAll 63 = .ok (.getfield 22, 3) := by decide +kernel
theorem dX8_makeInAll_66 : decode cX8_makeInAll 66 = .ok (.iload 4, 2) := by decide +kernel
theorem dX8_makeInAll_68 : decode cX8_makeInAll 68 = .ok (.iaload, 1) := by decide +kernel
theorem dX8_makeInAll_69 : decode cX8_makeInAll 69 = .ok (.iload_n 2, 1) := by decide +kernel
theorem dX8_makeInAll_70 : decode cX8_makeInAll 70 = .ok (.iadd, 1) := by decide +kernel
theorem dX8_makeInAll_71 : decode cX8_makeInAll 71 = .ok (.aload_n 0, 1) := by decide +kernel
theorem dX8_makeInAll_72 : decode cX8_makeInAll 72 = .ok (.getfield 18, 3) := by decide +kernel
theorem dX8_makeInAll_75 : decode cX8_makeInAll 75 = .ok (.iload 4, 2) := by decide +kernel
theorem dX8_makeInAll_77 : decode cX8_makeInAll 77 = .ok (.iaload, 1) := by decide +kernel
theorem dX8_makeInAll_78 : decode cX8_makeInAll 78 = .ok (.if_icmp .le 33, 3) := by decide +kernel
theorem dX8_makeInAll_81 : decode cX8_makeInAll 81 = .ok (.aload_n 0, 1) := by decide +kernel
theorem dX8_makeInAll_82 : decode cX8_makeInAll 82 = .ok (.getfield 25, 3) := by decide +kernel
theorem dX8_makeInAll_85 : decode cX8_makeInAll 85 = .ok (.iload 4, 2) := by decide +kernel
theorem dX8_makeInAll_87 : decode cX8_makeInAll 87 = .ok (.dup2, 1) := by decide +kernel
theorem dX8_makeInAll_88 : decode cX8_makeInAll 88 = .ok (.iaload, 1) := by decide +kernel
theorem dX8_makeInAll_89 : decode cX8_makeInAll 89 = .ok (.aload_n 1, 1) := by decide +kernel
theorem dX8_makeInAll_90 : decode cX8_makeInAll 90 = .ok (.iload_n 3, 1) := by decide +kernel
theorem dX8_makeInAll_91 : decode cX8_makeInAll 91 = .ok (.aload_n 0, 1) := by decide +kernel
theorem dX8_makeInAll_92 : decode cX8_makeInAll 92 = .ok (.getfield 22, 3) := by decide +kernel
theorem dX8_makeInAll_95 : decode cX8_makeInAll 95 = .ok (.iload 4, 2) := by decide +kernel
theorem dX8_makeInAll_97 : decode cX8_makeInAll 97 = .ok (.iaload, 1) := by decide +kernel
theorem dX8_makeInAll_98 : decode cX8_makeInAll 98 = .ok (.invokevirtual 80, 3) := by decide +kernel
theorem dX8_makeInAll_101 : decode cX8_makeInAll 101 = .ok (.iadd, 1) := by decide +kernel
theorem dX8_makeInAll_102 : decode cX8_makeInAll 102 = .ok (.iastore, 1) := by decide +kernel
theorem dX8_makeInAll_103 : decode cX8_makeInAll 103 = .ok (.aload_n 0, 1) := by decide +kernel
theorem dX8_makeInAll_104 : decode cX8_makeInAll 104 = .ok (.getfield 22, 3) := by decide +kernel
theorem dX8_makeInAll_107 : decode cX8_makeInAll 107 = .ok (.iload 4, 2) := by decide +kernel
theorem dX8_makeInAll_109 : decode cX8_makeInAll 109 = .ok (.iload_n 3, 1) := by decide +kernel
theorem dX8_makeInAll_110 : decode cX8_makeInAll 110 = .ok (.iastore, 1) := by decide +kernel
theorem dX8_makeInAll_111 : decode cX8_makeInAll 111 = .ok (.aload_n 0, 1) := by decide +kernel
theorem dX8_makeInAll_112 : decode cX8_makeInAll 112 = .ok (.getfield 22, 3) := by decide +kernel
theorem dX8_makeInAll_115 : decode cX8_makeInAll 115 = .ok (.iload 4, 2) := by decide +kernel
theorem dX8_makeInAll_117 : decode cX8_makeInAll 117 = .ok (.dup2, 1) := by decide +kernel
theorem dX8_makeInAll_118 : decode cX8_makeInAll 118 = .ok (.iaload, 1) := by decide +kernel
theorem dX8_makeInAll_119 : decode cX8_makeInAll 119 = .ok (.iload_n 2, 1) := by decide +kernel
theorem dX8_makeInAll_120 : decode cX8_makeInAll 120 = .ok (.iadd, 1) := by decide +kernel
theorem dX8_makeInAll_121 : decode cX8_makeInAll 121 = .ok (.iastore, 1) := by decide +kernel
theorem dX8_makeInAll_122 : decode cX8_makeInAll 122 = .ok (.iinc 4 1, 3) := by decide +kernel
theorem dX8_makeInAll_125 : decode cX8_makeInAll 125 = .ok (.goto (-72), 3) := by decide +kernel
theorem dX8_makeInAll_128 : decode cX8_makeInAll 128 = .ok (.aload_n 0, 1) := by decide +kernel
theorem dX8_makeInAll_129 : decode cX8_makeInAll 129 = .ok (.getfield 12, 3) := by decide +kernel
theorem dX8_makeInAll_132 : decode cX8_makeInAll 132 = .ok (.iload_n 2, 1) := by decide +kernel
theorem dX8_makeInAll_133 : decode cX8_makeInAll 133 = .ok (.invokevirtual 83, 3) := by decide +kernel
theorem dX8_makeInAll_136 : decode cX8_makeInAll 136 = .ok (.return_, 1) := by decide +kernel
theorem dX8_timeOf_0 : decode cX8_timeOf 0 = .ok (.iload_n 1, 1) := by decide +kernel
theorem dX8_timeOf_1 : decode cX8_timeOf 1 = .ok (.aload_n 0, 1) := by decide +kernel
theorem dX8_timeOf_2 : decode cX8_timeOf 2 = .ok (.getfield 38, 3) := by decide +kernel
theorem dX8_timeOf_5 : decode cX8_timeOf 5 = .ok (.if_icmp .lt 11, 3) := by decide +kernel
theorem dX8_timeOf_8 : decode cX8_timeOf 8 = .ok (.iload_n 1, 1) := by decide +kernel
theorem dX8_timeOf_9 : decode cX8_timeOf 9 = .ok (.aload_n 0, 1) := by decide +kernel
theorem dX8_timeOf_10 : decode cX8_timeOf 10 = .ok (.getfield 34, 3) := by decide +kernel
theorem dX8_timeOf_13 : decode cX8_timeOf 13 = .ok (.if_icmp .lt 7, 3) := by decide +kernel
theorem dX8_timeOf_16 : decode cX8_timeOf 16 = .ok (.iconst (-1), 1) := by decide +kernel
theorem dX8_timeOf_17 : decode cX8_timeOf 17 = .ok (.goto 14, 3) := by decide +kernel
theorem dX8_timeOf_20 : decode cX8_timeOf 20 = .ok (.aload_n 0, 1) := by decide +kernel
theorem dX8_timeOf_21 : decode cX8_timeOf 21 = .ok (.getfield 41, 3) := by decide +kernel
theorem dX8_timeOf_24 : decode cX8_timeOf 24 = .ok (.aload_n 0, 1) := by decide +kernel
theorem dX8_timeOf_25 : decode cX8_timeOf 25 = .ok (.getfield 25, 3) := by decide +kernel
theorem dX8_timeOf_28 : decode cX8_timeOf 28 = .ok (.iload_n 1, 1) := by decide +kernel
theorem dX8_timeOf_29 : decode cX8_timeOf 29 = .ok (.iaload, 1) := by decide +kernel
theorem dX8_timeOf_30 : decode cX8_timeOf 30 = .ok (.iadd, 1) := by decide +kernel
theorem dX8_timeOf_31 : decode cX8_timeOf 31 = .ok (.ireturn, 1) := by decide +kernel
