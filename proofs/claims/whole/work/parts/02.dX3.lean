theorem dX3_init_0 : decode cX3_init 0 = .ok (.aload_n 0, 1) := by decide +kernel
theorem dX3_init_1 : decode cX3_init 1 = .ok (.invokespecial 3, 3) := by decide +kernel
theorem dX3_init_4 : decode cX3_init 4 = .ok (.aload_n 0, 1) := by decide +kernel
theorem dX3_init_5 : decode cX3_init 5 = .ok (.bipush 60, 2) := by decide +kernel
theorem dX3_init_7 : decode cX3_init 7 = .ok (.newarray .long, 2) := by decide +kernel
theorem dX3_init_9 : decode cX3_init 9 = .ok (.putfield 9, 3) := by decide +kernel
theorem dX3_init_12 : decode cX3_init 12 = .ok (.aload_n 0, 1) := by decide +kernel
theorem dX3_init_13 : decode cX3_init 13 = .ok (.iconst (-1), 1) := by decide +kernel
theorem dX3_init_14 : decode cX3_init 14 = .ok (.putfield 15, 3) := by decide +kernel
theorem dX3_init_17 : decode cX3_init 17 = .ok (.aload_n 0, 1) := by decide +kernel
theorem dX3_init_18 : decode cX3_init 18 = .ok (.iconst 0, 1) := by decide +kernel
theorem dX3_init_19 : decode cX3_init 19 = .ok (.putfield 19, 3) := by decide +kernel
theorem dX3_init_22 : decode cX3_init 22 = .ok (.return_, 1) := by decide +kernel
theorem dX3_isBare_0 : decode cX3_isBare 0 = .ok (.aload_n 0, 1) := by decide +kernel
theorem dX3_isBare_1 : decode cX3_isBare 1 = .ok (.getfield 15, 3) := by decide +kernel
theorem dX3_isBare_4 : decode cX3_isBare 4 = .ok (.iconst (-1), 1) := by decide +kernel
theorem dX3_isBare_5 : decode cX3_isBare 5 = .ok (.if_icmp .ne 7, 3) := by decide +kernel
theorem dX3_isBare_8 : decode cX3_isBare 8 = .ok (.iconst 1, 1) := by decide +kernel
theorem dX3_isBare_9 : decode cX3_isBare 9 = .ok (.goto 4, 3) := by decide +kernel
theorem dX3_isBare_12 : decode cX3_isBare 12 = .ok (.iconst 0, 1) := by decide +kernel
theorem dX3_isBare_13 : decode cX3_isBare 13 = .ok (.ireturn, 1) := by decide +kernel
theorem dX3_lay_0 : decode cX3_lay 0 = .ok (.aload_n 0, 1) := by decide +kernel
theorem dX3_lay_1 : decode cX3_lay 1 = .ok (.iload_n 1, 1) := by decide +kernel
theorem dX3_lay_2 : decode cX3_lay 2 = .ok (.putfield 15, 3) := by decide +kernel
theorem dX3_lay_5 : decode cX3_lay 5 = .ok (.aload_n 0, 1) := by decide +kernel
theorem dX3_lay_6 : decode cX3_lay 6 = .ok (.iload_n 2, 1) := by decide +kernel
theorem dX3_lay_7 : decode cX3_lay 7 = .ok (.putfield 19, 3) := by decide +kernel
theorem dX3_lay_10 : decode cX3_lay 10 = .ok (.iconst 0, 1) := by decide +kernel
theorem dX3_lay_11 : decode cX3_lay 11 = .ok (.istore_n 3, 1) := by decide +kernel
theorem dX3_lay_12 : decode cX3_lay 12 = .ok (.iload_n 3, 1) := by decide +kernel
theorem dX3_lay_13 : decode cX3_lay 13 = .ok (.bipush 60, 2) := by decide +kernel
theorem dX3_lay_15 : decode cX3_lay 15 = .ok (.if_icmp .ge 16, 3) := by decide +kernel
theorem dX3_lay_18 : decode cX3_lay 18 = .ok (.aload_n 0, 1) := by decide +kernel
theorem dX3_lay_19 : decode cX3_lay 19 = .ok (.getfield 9, 3) := by decide +kernel
theorem dX3_lay_22 : decode cX3_lay 22 = .ok (.iload_n 3, 1) := by decide +kernel
theorem dX3_lay_23 : decode cX3_lay 23 = .ok (.lconst 0, 1) := by decide +kernel
theorem dX3_lay_24 : decode cX3_lay 24 = .ok (.lastore, 1) := by decide +kernel
theorem dX3_lay_25 : decode cX3_lay 25 = .ok (.iinc 3 1, 3) := by decide +kernel
theorem dX3_lay_28 : decode cX3_lay 28 = .ok (.goto (-16), 3) := by decide +kernel
theorem dX3_lay_31 : decode cX3_lay 31 = .ok (.return_, 1) := by decide +kernel
theorem dX3_strip_0 : decode cX3_strip 0 = .ok (.aload_n 0, 1) := by decide +kernel
theorem dX3_strip_1 : decode cX3_strip 1 = .ok (.iconst (-1), 1) := by decide +kernel
theorem dX3_strip_2 : decode cX3_strip 2 = .ok (.putfield 15, 3) := by decide +kernel
theorem dX3_strip_5 : decode cX3_strip 5 = .ok (.aload_n 0, 1) := by decide +kernel
theorem dX3_strip_6 : decode cX3_strip 6 = .ok (.iconst 0, 1) := by decide +kernel
theorem dX3_strip_7 : decode cX3_strip 7 = .ok (.putfield 19, 3) := by decide +kernel
theorem dX3_strip_10 : decode cX3_strip 10 = .ok (.return_, 1) := by decide +kernel
theorem dX3_cut_0 : decode cX3_cut 0 = .ok (.aload_n 0, 1) := by decide +kernel
theorem dX3_cut_1 : decode cX3_cut 1 = .ok (.getfield 15, 3) := by decide +kernel
theorem dX3_cut_4 : decode cX3_cut 4 = .ok (.tableswitch 42 0 2 #[28, 33, 38], 28) := by decide +kernel
theorem dX3_cut_32 : decode cX3_cut 32 = .ok (.lload_n 1, 1) := by decide +kernel
theorem dX3_cut_33 : decode cX3_cut 33 = .ok (.l2i, 1) := by decide +kernel
theorem dX3_cut_34 : decode cX3_cut 34 = .ok (.i2b, 1) := by decide +kernel
theorem dX3_cut_35 : decode cX3_cut 35 = .ok (.i2l, 1) := by decide +kernel
theorem dX3_cut_36 : decode cX3_cut 36 = .ok (.lreturn, 1) := by decide +kernel
theorem dX3_cut_37 : decode cX3_cut 37 = .ok (.lload_n 1, 1) := by decide +kernel
theorem dX3_cut_38 : decode cX3_cut 38 = .ok (.l2i, 1) := by decide +kernel
theorem dX3_cut_39 : decode cX3_cut 39 = .ok (.i2s, 1) := by decide +kernel
theorem dX3_cut_40 : decode cX3_cut 40 = .ok (.i2l, 1) := by decide +kernel
theorem dX3_cut_41 : decode cX3_cut 41 = .ok (.lreturn, 1) := by decide +kernel
theorem dX3_cut_42 : decode cX3_cut 42 = .ok (.lload_n 1, 1) := by decide +kernel
theorem dX3_cut_43 : decode cX3_cut 43 = .ok (.l2i, 1) := by decide +kernel
theorem dX3_cut_44 : decode cX3_cut 44 = .ok (.i2l, 1) := by decide +kernel
theorem dX3_cut_45 : decode cX3_cut 45 = .ok (.lreturn, 1) := by decide +kernel
theorem dX3_cut_46 : decode cX3_cut 46 = .ok (.lload_n 1, 1) := by decide +kernel
theorem dX3_cut_47 : decode cX3_cut 47 = .ok (.lreturn, 1) := by decide +kernel
theorem dX3_hasPlaces_0 : decode cX3_hasPlaces 0 = .ok (.iload_n 1, 1) := by decide +kernel
theorem dX3_hasPlaces_1 : decode cX3_hasPlaces 1 = .ok (.ifCond .lt 29, 3) := by decide +kernel
theorem dX3_hasPlaces_4 : decode cX3_hasPlaces 4 = .ok (.iload_n 2, 1) := by decide +kernel
theorem dX3_hasPlaces_5 : decode cX3_hasPlaces 5 = .ok (.ifCond .lt 25, 3) := by decide +kernel
theorem dX3_hasPlaces_8 : decode cX3_hasPlaces 8 = .ok (.iload_n 1, 1) := by decide +kernel
theorem dX3_hasPlaces_9 : decode cX3_hasPlaces 9 = .ok (.aload_n 0, 1) := by decide +kernel
theorem dX3_hasPlaces_10 : decode cX3_hasPlaces 10 = .ok (.getfield 19, 3) := by decide +kernel
theorem dX3_hasPlaces_13 : decode cX3_hasPlaces 13 = .ok (.if_icmp .gt 17, 3) := by decide +kernel
theorem dX3_hasPlaces_16 : decode cX3_hasPlaces 16 = .ok (.iload_n 2, 1) := by decide +kernel
theorem dX3_hasPlaces_17 : decode cX3_hasPlaces 17 = .ok (.aload_n 0, 1) := by decide +kernel
theorem dX3_hasPlaces_18 : decode cX3_hasPlaces 18 = .ok (.getfield 19, 3) := by decide +kernel
theorem dX3_hasPlaces_21 : decode cX3_hasPlaces 21 = .ok (.iload_n 1, 1) := by decide +kernel
theorem dX3_hasPlaces_22 : decode cX3_hasPlaces 22 = .ok (.isub, 1) := by decide +kernel
theorem dX3_hasPlaces_23 : decode cX3_hasPlaces 23 = .ok (.if_icmp .gt 7, 3) := by decide +kernel
theorem dX3_hasPlaces_26 : decode cX3_hasPlaces 26 = .ok (.iconst 1, 1) := by decide +kernel
theorem dX3_hasPlaces_27 : decode cX3_hasPlaces 27 = .ok (.goto 4, 3) := by decide +kernel
theorem dX3_hasPlaces_30 : decode cX3_hasPlaces 30 = .ok (.iconst 0, 1) := by decide +kernel
theorem dX3_hasPlaces_31 : decode cX3_hasPlaces 31 = .ok (.ireturn, 1) := by decide +kernel
theorem dX3_holdsActsAlone_0 : decode cX3_holdsActsAlone 0 = .ok (.iconst 0, 1) := by decide +kernel
theorem dX3_holdsActsAlone_1 : decode cX3_holdsActsAlone 1 = .ok (.istore_n 1, 1) := by decide +kernel
theorem dX3_holdsActsAlone_2 : decode cX3_holdsActsAlone 2 = .ok (.iload_n 1, 1) := by decide +kernel
theorem dX3_holdsActsAlone_3 : decode cX3_holdsActsAlone 3 = .ok (.aload_n 0, 1) := by decide +kernel
theorem dX3_holdsActsAlone_4 : decode cX3_holdsActsAlone 4 = .ok (.getfield 19, 3) := by decide +kernel
theorem dX3_holdsActsAlone_7 : decode cX3_holdsActsAlone 7 = .ok (.if_icmp .ge 23, 3) := by decide +kernel
theorem dX3_holdsActsAlone_10 : decode cX3_holdsActsAlone 10 = .ok (.aload_n 0, 1) := by decide +kernel
theorem dX3_holdsActsAlone_11 : decode cX3_holdsActsAlone 11 = .ok (.getfield 9, 3) := by decide +kernel
theorem dX3_holdsActsAlone_14 : decode cX3_holdsActsAlone 14 = .ok (.iload_n 1, 1) := by decide +kernel
theorem dX3_holdsActsAlone_15 : decode cX3_holdsActsAlone 15 = .ok (.laload, 1) := by decide +kernel
theorem dX3_holdsActsAlone_16 : decode cX3_holdsActsAlone 16 = .ok (.invokestatic 22, 3) := by decide +kernel
theorem dX3_holdsActsAlone_19 : decode cX3_holdsActsAlone 19 = .ok (.ifCond .ne 5, 3) := by decide +kernel
theorem dX3_holdsActsAlone_22 : decode cX3_holdsActsAlone 22 = .ok (.iconst 0, 1) := by decide +kernel
theorem dX3_holdsActsAlone_23 : decode cX3_holdsActsAlone 23 = .ok (.ireturn, 1) := by decide +kernel
theorem dX3_holdsActsAlone_24 : decode cX3_holdsActsAlone 24 = .ok (.iinc 1 1, 3) := by decide +kernel
theorem dX3_holdsActsAlone_27 : decode cX3_holdsActsAlone 27 = .ok (.goto (-25), 3) := by decide +kernel
theorem dX3_holdsActsAlone_30 : decode cX3_holdsActsAlone 30 = .ok (.iconst 1, 1) := by decide +kernel
theorem dX3_holdsActsAlone_31 : decode cX3_holdsActsAlone 31 = .ok (.ireturn, 1) := by decide +kernel
theorem dX3_isAct_0 : decode cX3_isAct 0 = .ok (.lload_n 0, 1) := by decide +kernel
theorem dX3_isAct_1 : decode cX3_isAct 1 = .ok (.ldc2_w 26, 3) := by decide +kernel
theorem dX3_isAct_4 : decode cX3_isAct 4 = .ok (.lcmp, 1) := by decide +kernel
theorem dX3_isAct_5 : decode cX3_isAct 5 = .ok (.ifCond .lt 11, 3) := by decide +kernel
theorem dX3_isAct_8 : decode cX3_isAct 8 = .ok (.lload_n 0, 1) := by decide +kernel
theorem dX3_isAct_9 : decode cX3_isAct 9 = .ok (.ldc2_w 28, 3) := by decide +kernel
theorem dX3_isAct_12 : decode cX3_isAct 12 = .ok (.lcmp, 1) := by decide +kernel
theorem dX3_isAct_13 : decode cX3_isAct 13 = .ok (.ifCond .le 19, 3) := by decide +kernel
theorem dX3_isAct_16 : decode cX3_isAct 16 = .ok (.lload_n 0, 1) := by decide +kernel
theorem dX3_isAct_17 : decode cX3_isAct 17 = .ok (.ldc2_w 30, 3) := by decide +kernel
theorem dX3_isAct_20 : decode cX3_isAct 20 = .ok (.lcmp, 1) := by decide +kernel
theorem dX3_isAct_21 : decode cX3_isAct 21 = .ok (.ifCond .le 15, 3) := by decide +kernel
theorem dX3_isAct_24 : decode cX3_isAct 24 = .ok (.lload_n 0, 1) := by decide +kernel
theorem dX3_isAct_25 : decode cX3_isAct 25 = .ok (.ldc2_w 32, 3) := by decide +kernel
theorem dX3_isAct_28 : decode cX3_isAct 28 = .ok (.lcmp, 1) := by decide +kernel
theorem dX3_isAct_29 : decode cX3_isAct 29 = .ok (.ifCond .gt 7, 3) := by decide +kernel
theorem dX3_isAct_32 : decode cX3_isAct 32 = .ok (.iconst 1, 1) := by decide +kernel
theorem dX3_isAct_33 : decode cX3_isAct 33 = .ok (.goto 4, 3) := by decide +kernel
theorem dX3_isAct_36 : decode cX3_isAct 36 = .ok (.iconst 0, 1) := by decide +kernel
theorem dX3_isAct_37 : decode cX3_isAct 37 = .ok (.ireturn, 1) := by decide +kernel
