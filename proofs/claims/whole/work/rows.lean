section
-- ===== PART A: goes FIRST, ahead of the names: the tables' words, and 'selects' of the private methods out of them =====
/-- a private method of a class that the tables say can be made, by its rows of tables_1 -/
def lw_okq (q : MethodName × Nat) : Prop := (q.1.cls ≠ "java/lang/invoke/MethodHandle" ∧ q.1.cls ≠ "java/lang/invoke/VarHandle") ∧ Cond.instantiable q.1.cls q.2 ∈ tables_1 ∧ Cond.privateMethod q.1 ∈ tables_1 ∧ Cond.instanceMethod q.1 ∈ tables_1
theorem lw_p0 : lw_okq (⟨"RoomDealer", "isSlot", "(I)Z"⟩, 6) := ⟨⟨by decide +kernel, by decide +kernel⟩, List.mem_of_getElem? (i := 15) (by decide +kernel), List.mem_of_getElem? (i := 355) (by decide +kernel), List.mem_of_getElem? (i := 356) (by decide +kernel)⟩
theorem lw_p1 : lw_okq (⟨"RoomDealer", "isProgram", "(I)Z"⟩, 6) := ⟨⟨by decide +kernel, by decide +kernel⟩, List.mem_of_getElem? (i := 15) (by decide +kernel), List.mem_of_getElem? (i := 428) (by decide +kernel), List.mem_of_getElem? (i := 429) (by decide +kernel)⟩
theorem lw_p2 : lw_okq (⟨"RoomDealer$Trial", "passRound", "(LRoomDealer$Program;)V"⟩, 7) := ⟨⟨by decide +kernel, by decide +kernel⟩, List.mem_of_getElem? (i := 129) (by decide +kernel), List.mem_of_getElem? (i := 451) (by decide +kernel), List.mem_of_getElem? (i := 452) (by decide +kernel)⟩
theorem lw_p3 : lw_okq (⟨"RoomDealer$Trial", "makeInAll", "(LRoomDealer$Program;I)V"⟩, 7) := ⟨⟨by decide +kernel, by decide +kernel⟩, List.mem_of_getElem? (i := 129) (by decide +kernel), List.mem_of_getElem? (i := 462) (by decide +kernel), List.mem_of_getElem? (i := 463) (by decide +kernel)⟩
theorem lw_p4 : lw_okq (⟨"RoomDealer$Dealer", "learnTimes", "(LRoomDealer$Program;)V"⟩, 6) := ⟨⟨by decide +kernel, by decide +kernel⟩, List.mem_of_getElem? (i := 123) (by decide +kernel), List.mem_of_getElem? (i := 486) (by decide +kernel), List.mem_of_getElem? (i := 487) (by decide +kernel)⟩
theorem lw_p5 : lw_okq (⟨"RoomDealer$Dealer", "whoSavesMost", "([LRoomDealer$Program;I)I"⟩, 6) := ⟨⟨by decide +kernel, by decide +kernel⟩, List.mem_of_getElem? (i := 123) (by decide +kernel), List.mem_of_getElem? (i := 521) (by decide +kernel), List.mem_of_getElem? (i := 522) (by decide +kernel)⟩
theorem lw_p6 : lw_okq (⟨"RoomDealer$Dealer", "sumOfTimes", "([LRoomDealer$Program;I)I"⟩, 6) := ⟨⟨by decide +kernel, by decide +kernel⟩, List.mem_of_getElem? (i := 123) (by decide +kernel), List.mem_of_getElem? (i := 525) (by decide +kernel), List.mem_of_getElem? (i := 526) (by decide +kernel)⟩
theorem lw_p7 : lw_okq (⟨"RoomDealer$Dealer", "firstBestShare", "(LRoomDealer$Program;II)I"⟩, 6) := ⟨⟨by decide +kernel, by decide +kernel⟩, List.mem_of_getElem? (i := 123) (by decide +kernel), List.mem_of_getElem? (i := 537) (by decide +kernel), List.mem_of_getElem? (i := 538) (by decide +kernel)⟩
theorem lw_p8 : lw_okq (⟨"RoomDealer$Dealer", "sumWith", "(LRoomDealer$Program;III)I"⟩, 6) := ⟨⟨by decide +kernel, by decide +kernel⟩, List.mem_of_getElem? (i := 123) (by decide +kernel), List.mem_of_getElem? (i := 541) (by decide +kernel), List.mem_of_getElem? (i := 542) (by decide +kernel)⟩
theorem lw_p9 : lw_okq (⟨"RoomDealer$Dealer", "takeFirstBest", "([LRoomDealer$Program;II)V"⟩, 6) := ⟨⟨by decide +kernel, by decide +kernel⟩, List.mem_of_getElem? (i := 123) (by decide +kernel), List.mem_of_getElem? (i := 545) (by decide +kernel), List.mem_of_getElem? (i := 546) (by decide +kernel)⟩
theorem lw_p10 : lw_okq (⟨"RoomDealer$Together", "tryMake", "(LRoomDealer$Runner;)V"⟩, 7) := ⟨⟨by decide +kernel, by decide +kernel⟩, List.mem_of_getElem? (i := 200) (by decide +kernel), List.mem_of_getElem? (i := 602) (by decide +kernel), List.mem_of_getElem? (i := 603) (by decide +kernel)⟩
theorem lw_p11 : lw_okq (⟨"RoomDealer$Together", "collect", "(LRoomDealer$Runner;)I"⟩, 7) := ⟨⟨by decide +kernel, by decide +kernel⟩, List.mem_of_getElem? (i := 200) (by decide +kernel), List.mem_of_getElem? (i := 612) (by decide +kernel), List.mem_of_getElem? (i := 613) (by decide +kernel)⟩
theorem lw_p12 : lw_okq (⟨"RoomDealer$Together", "getsByAsking", "(LRoomDealer$Runner;I)Z"⟩, 7) := ⟨⟨by decide +kernel, by decide +kernel⟩, List.mem_of_getElem? (i := 200) (by decide +kernel), List.mem_of_getElem? (i := 629) (by decide +kernel), List.mem_of_getElem? (i := 630) (by decide +kernel)⟩
theorem lw_p13 : lw_okq (⟨"RoomDealer$Together", "spareOfOthers", "(LRoomDealer$Runner;)I"⟩, 7) := ⟨⟨by decide +kernel, by decide +kernel⟩, List.mem_of_getElem? (i := 200) (by decide +kernel), List.mem_of_getElem? (i := 638) (by decide +kernel), List.mem_of_getElem? (i := 639) (by decide +kernel)⟩
theorem lw_p14 : lw_okq (⟨"RoomDealer$Together", "fairPart", "()I"⟩, 7) := ⟨⟨by decide +kernel, by decide +kernel⟩, List.mem_of_getElem? (i := 200) (by decide +kernel), List.mem_of_getElem? (i := 654) (by decide +kernel), List.mem_of_getElem? (i := 655) (by decide +kernel)⟩
theorem lw_p15 : lw_okq (⟨"RoomDealer$Together", "give", "(LRoomDealer$Runner;I)V"⟩, 7) := ⟨⟨by decide +kernel, by decide +kernel⟩, List.mem_of_getElem? (i := 200) (by decide +kernel), List.mem_of_getElem? (i := 659) (by decide +kernel), List.mem_of_getElem? (i := 660) (by decide +kernel)⟩
def lw_privs_1 : List (MethodName × Nat) := [(⟨"RoomDealer", "isSlot", "(I)Z"⟩, 6), (⟨"RoomDealer", "isProgram", "(I)Z"⟩, 6), (⟨"RoomDealer$Trial", "passRound", "(LRoomDealer$Program;)V"⟩, 7), (⟨"RoomDealer$Trial", "makeInAll", "(LRoomDealer$Program;I)V"⟩, 7), (⟨"RoomDealer$Dealer", "learnTimes", "(LRoomDealer$Program;)V"⟩, 6), (⟨"RoomDealer$Dealer", "whoSavesMost", "([LRoomDealer$Program;I)I"⟩, 6), (⟨"RoomDealer$Dealer", "sumOfTimes", "([LRoomDealer$Program;I)I"⟩, 6), (⟨"RoomDealer$Dealer", "firstBestShare", "(LRoomDealer$Program;II)I"⟩, 6), (⟨"RoomDealer$Dealer", "sumWith", "(LRoomDealer$Program;III)I"⟩, 6), (⟨"RoomDealer$Dealer", "takeFirstBest", "([LRoomDealer$Program;II)V"⟩, 6), (⟨"RoomDealer$Together", "tryMake", "(LRoomDealer$Runner;)V"⟩, 7), (⟨"RoomDealer$Together", "collect", "(LRoomDealer$Runner;)I"⟩, 7), (⟨"RoomDealer$Together", "getsByAsking", "(LRoomDealer$Runner;I)Z"⟩, 7), (⟨"RoomDealer$Together", "spareOfOthers", "(LRoomDealer$Runner;)I"⟩, 7), (⟨"RoomDealer$Together", "fairPart", "()I"⟩, 7), (⟨"RoomDealer$Together", "give", "(LRoomDealer$Runner;I)V"⟩, 7)]
theorem lw_r1 : ∀ q ∈ lw_privs_1, lw_okq q := List.forall_mem_cons.mpr ⟨lw_p0, List.forall_mem_cons.mpr ⟨lw_p1, List.forall_mem_cons.mpr ⟨lw_p2, List.forall_mem_cons.mpr ⟨lw_p3, List.forall_mem_cons.mpr ⟨lw_p4, List.forall_mem_cons.mpr ⟨lw_p5, List.forall_mem_cons.mpr ⟨lw_p6, List.forall_mem_cons.mpr ⟨lw_p7, List.forall_mem_cons.mpr ⟨lw_p8, List.forall_mem_cons.mpr ⟨lw_p9, List.forall_mem_cons.mpr ⟨lw_p10, List.forall_mem_cons.mpr ⟨lw_p11, List.forall_mem_cons.mpr ⟨lw_p12, List.forall_mem_cons.mpr ⟨lw_p13, List.forall_mem_cons.mpr ⟨lw_p14, List.forall_mem_cons.mpr ⟨lw_p15, fun _ h => absurd h List.not_mem_nil⟩⟩⟩⟩⟩⟩⟩⟩⟩⟩⟩⟩⟩⟩⟩⟩
theorem lw_p16 : lw_okq (⟨"RoomDealer$Together", "whoSparesMost", "(LRoomDealer$Runner;)I"⟩, 7) := ⟨⟨by decide +kernel, by decide +kernel⟩, List.mem_of_getElem? (i := 200) (by decide +kernel), List.mem_of_getElem? (i := 664) (by decide +kernel), List.mem_of_getElem? (i := 665) (by decide +kernel)⟩
theorem lw_p17 : lw_okq (⟨"RoomDealer$Together", "leave", "(LRoomDealer$Runner;II)V"⟩, 7) := ⟨⟨by decide +kernel, by decide +kernel⟩, List.mem_of_getElem? (i := 200) (by decide +kernel), List.mem_of_getElem? (i := 668) (by decide +kernel), List.mem_of_getElem? (i := 669) (by decide +kernel)⟩
theorem lw_p18 : lw_okq (⟨"RoomDealer$Together", "endAct", "(LRoomDealer$Runner;)V"⟩, 7) := ⟨⟨by decide +kernel, by decide +kernel⟩, List.mem_of_getElem? (i := 200) (by decide +kernel), List.mem_of_getElem? (i := 681) (by decide +kernel), List.mem_of_getElem? (i := 682) (by decide +kernel)⟩
theorem lw_p19 : lw_okq (⟨"RoomDealer$Together", "doOtherAct", "(LRoomDealer$Runner;)V"⟩, 7) := ⟨⟨by decide +kernel, by decide +kernel⟩, List.mem_of_getElem? (i := 200) (by decide +kernel), List.mem_of_getElem? (i := 689) (by decide +kernel), List.mem_of_getElem? (i := 690) (by decide +kernel)⟩
theorem lw_p20 : lw_okq (⟨"RoomDealer$Together", "passTick", "(LRoomDealer$Runner;)V"⟩, 7) := ⟨⟨by decide +kernel, by decide +kernel⟩, List.mem_of_getElem? (i := 200) (by decide +kernel), List.mem_of_getElem? (i := 694) (by decide +kernel), List.mem_of_getElem? (i := 695) (by decide +kernel)⟩
theorem lw_p21 : lw_okq (⟨"RoomDealer$Together", "wake", "(LRoomDealer$Runner;)V"⟩, 7) := ⟨⟨by decide +kernel, by decide +kernel⟩, List.mem_of_getElem? (i := 200) (by decide +kernel), List.mem_of_getElem? (i := 698) (by decide +kernel), List.mem_of_getElem? (i := 699) (by decide +kernel)⟩
theorem lw_p22 : lw_okq (⟨"RoomDealer$Together", "redeal", "()V"⟩, 7) := ⟨⟨by decide +kernel, by decide +kernel⟩, List.mem_of_getElem? (i := 200) (by decide +kernel), List.mem_of_getElem? (i := 703) (by decide +kernel), List.mem_of_getElem? (i := 704) (by decide +kernel)⟩
theorem lw_p23 : lw_okq (⟨"RoomDealer$Together", "squeeze", "(LRoomDealer$Runner;)V"⟩, 7) := ⟨⟨by decide +kernel, by decide +kernel⟩, List.mem_of_getElem? (i := 200) (by decide +kernel), List.mem_of_getElem? (i := 707) (by decide +kernel), List.mem_of_getElem? (i := 708) (by decide +kernel)⟩
theorem lw_p24 : lw_okq (⟨"RoomDealer$Together", "movesStep", "()Z"⟩, 7) := ⟨⟨by decide +kernel, by decide +kernel⟩, List.mem_of_getElem? (i := 200) (by decide +kernel), List.mem_of_getElem? (i := 711) (by decide +kernel), List.mem_of_getElem? (i := 712) (by decide +kernel)⟩
theorem lw_p25 : lw_okq (⟨"RoomDealer$Together", "whoGainsMost", "()I"⟩, 7) := ⟨⟨by decide +kernel, by decide +kernel⟩, List.mem_of_getElem? (i := 200) (by decide +kernel), List.mem_of_getElem? (i := 715) (by decide +kernel), List.mem_of_getElem? (i := 716) (by decide +kernel)⟩
theorem lw_p26 : lw_okq (⟨"RoomDealer$Runner", "cellsOfStep", "(I)I"⟩, 17) := ⟨⟨by decide +kernel, by decide +kernel⟩, List.mem_of_getElem? (i := 230) (by decide +kernel), List.mem_of_getElem? (i := 727) (by decide +kernel), List.mem_of_getElem? (i := 728) (by decide +kernel)⟩
theorem lw_p27 : lw_okq (⟨"RoomDealer$Together", "whoLosesLeast", "(I)I"⟩, 7) := ⟨⟨by decide +kernel, by decide +kernel⟩, List.mem_of_getElem? (i := 200) (by decide +kernel), List.mem_of_getElem? (i := 731) (by decide +kernel), List.mem_of_getElem? (i := 732) (by decide +kernel)⟩
theorem lw_p28 : lw_okq (⟨"RoomDealer", "rowsThere", "()I"⟩, 6) := ⟨⟨by decide +kernel, by decide +kernel⟩, List.mem_of_getElem? (i := 15) (by decide +kernel), List.mem_of_getElem? (i := 758) (by decide +kernel), List.mem_of_getElem? (i := 759) (by decide +kernel)⟩
theorem lw_p29 : lw_okq (⟨"RoomDealerModel", "isProgram", "(I)Z"⟩, 46) := ⟨⟨by decide +kernel, by decide +kernel⟩, List.mem_of_getElem? (i := 771) (by decide +kernel), List.mem_of_getElem? (i := 962) (by decide +kernel), List.mem_of_getElem? (i := 963) (by decide +kernel)⟩
theorem lw_p30 : lw_okq (⟨"RoomDealerModel", "alone", "(II)I"⟩, 46) := ⟨⟨by decide +kernel, by decide +kernel⟩, List.mem_of_getElem? (i := 771) (by decide +kernel), List.mem_of_getElem? (i := 966) (by decide +kernel), List.mem_of_getElem? (i := 967) (by decide +kernel)⟩
theorem lw_p31 : lw_okq (⟨"RoomDealerModel", "needOf", "(I)I"⟩, 46) := ⟨⟨by decide +kernel, by decide +kernel⟩, List.mem_of_getElem? (i := 771) (by decide +kernel), List.mem_of_getElem? (i := 980) (by decide +kernel), List.mem_of_getElem? (i := 981) (by decide +kernel)⟩
def lw_privs_2 : List (MethodName × Nat) := [(⟨"RoomDealer$Together", "whoSparesMost", "(LRoomDealer$Runner;)I"⟩, 7), (⟨"RoomDealer$Together", "leave", "(LRoomDealer$Runner;II)V"⟩, 7), (⟨"RoomDealer$Together", "endAct", "(LRoomDealer$Runner;)V"⟩, 7), (⟨"RoomDealer$Together", "doOtherAct", "(LRoomDealer$Runner;)V"⟩, 7), (⟨"RoomDealer$Together", "passTick", "(LRoomDealer$Runner;)V"⟩, 7), (⟨"RoomDealer$Together", "wake", "(LRoomDealer$Runner;)V"⟩, 7), (⟨"RoomDealer$Together", "redeal", "()V"⟩, 7), (⟨"RoomDealer$Together", "squeeze", "(LRoomDealer$Runner;)V"⟩, 7), (⟨"RoomDealer$Together", "movesStep", "()Z"⟩, 7), (⟨"RoomDealer$Together", "whoGainsMost", "()I"⟩, 7), (⟨"RoomDealer$Runner", "cellsOfStep", "(I)I"⟩, 17), (⟨"RoomDealer$Together", "whoLosesLeast", "(I)I"⟩, 7), (⟨"RoomDealer", "rowsThere", "()I"⟩, 6), (⟨"RoomDealerModel", "isProgram", "(I)Z"⟩, 46), (⟨"RoomDealerModel", "alone", "(II)I"⟩, 46), (⟨"RoomDealerModel", "needOf", "(I)I"⟩, 46)]
theorem lw_r2 : ∀ q ∈ lw_privs_2, lw_okq q := List.forall_mem_cons.mpr ⟨lw_p16, List.forall_mem_cons.mpr ⟨lw_p17, List.forall_mem_cons.mpr ⟨lw_p18, List.forall_mem_cons.mpr ⟨lw_p19, List.forall_mem_cons.mpr ⟨lw_p20, List.forall_mem_cons.mpr ⟨lw_p21, List.forall_mem_cons.mpr ⟨lw_p22, List.forall_mem_cons.mpr ⟨lw_p23, List.forall_mem_cons.mpr ⟨lw_p24, List.forall_mem_cons.mpr ⟨lw_p25, List.forall_mem_cons.mpr ⟨lw_p26, List.forall_mem_cons.mpr ⟨lw_p27, List.forall_mem_cons.mpr ⟨lw_p28, List.forall_mem_cons.mpr ⟨lw_p29, List.forall_mem_cons.mpr ⟨lw_p30, List.forall_mem_cons.mpr ⟨lw_p31, fun _ h => absurd h List.not_mem_nil⟩⟩⟩⟩⟩⟩⟩⟩⟩⟩⟩⟩⟩⟩⟩⟩
theorem lw_p32 : lw_okq (⟨"RoomDealerModel", "up", "(I)I"⟩, 46) := ⟨⟨by decide +kernel, by decide +kernel⟩, List.mem_of_getElem? (i := 771) (by decide +kernel), List.mem_of_getElem? (i := 984) (by decide +kernel), List.mem_of_getElem? (i := 985) (by decide +kernel)⟩
theorem lw_p33 : lw_okq (⟨"RoomDealerModel", "dealt", "()I"⟩, 46) := ⟨⟨by decide +kernel, by decide +kernel⟩, List.mem_of_getElem? (i := 771) (by decide +kernel), List.mem_of_getElem? (i := 997) (by decide +kernel), List.mem_of_getElem? (i := 998) (by decide +kernel)⟩
theorem lw_p34 : lw_okq (⟨"RoomDealerModel", "areNeeds", "()Z"⟩, 46) := ⟨⟨by decide +kernel, by decide +kernel⟩, List.mem_of_getElem? (i := 771) (by decide +kernel), List.mem_of_getElem? (i := 1001) (by decide +kernel), List.mem_of_getElem? (i := 1002) (by decide +kernel)⟩
theorem lw_p35 : lw_okq (⟨"RoomDealerModel", "sum", "()I"⟩, 46) := ⟨⟨by decide +kernel, by decide +kernel⟩, List.mem_of_getElem? (i := 771) (by decide +kernel), List.mem_of_getElem? (i := 1005) (by decide +kernel), List.mem_of_getElem? (i := 1006) (by decide +kernel)⟩
theorem lw_p36 : lw_okq (⟨"RoomDealerModel", "isAny", "()Z"⟩, 46) := ⟨⟨by decide +kernel, by decide +kernel⟩, List.mem_of_getElem? (i := 771) (by decide +kernel), List.mem_of_getElem? (i := 1033) (by decide +kernel), List.mem_of_getElem? (i := 1034) (by decide +kernel)⟩
theorem lw_p37 : lw_okq (⟨"RoomDealerModel", "isThere", "(I)Z"⟩, 46) := ⟨⟨by decide +kernel, by decide +kernel⟩, List.mem_of_getElem? (i := 771) (by decide +kernel), List.mem_of_getElem? (i := 1037) (by decide +kernel), List.mem_of_getElem? (i := 1038) (by decide +kernel)⟩
theorem lw_p38 : lw_okq (⟨"RoomDealerModel", "ticks", "()V"⟩, 46) := ⟨⟨by decide +kernel, by decide +kernel⟩, List.mem_of_getElem? (i := 771) (by decide +kernel), List.mem_of_getElem? (i := 1041) (by decide +kernel), List.mem_of_getElem? (i := 1042) (by decide +kernel)⟩
theorem lw_p39 : lw_okq (⟨"RoomDealerModel", "acts", "(I)V"⟩, 46) := ⟨⟨by decide +kernel, by decide +kernel⟩, List.mem_of_getElem? (i := 771) (by decide +kernel), List.mem_of_getElem? (i := 1045) (by decide +kernel), List.mem_of_getElem? (i := 1046) (by decide +kernel)⟩
theorem lw_p40 : lw_okq (⟨"RoomDealerModel", "passes", "(I)V"⟩, 46) := ⟨⟨by decide +kernel, by decide +kernel⟩, List.mem_of_getElem? (i := 771) (by decide +kernel), List.mem_of_getElem? (i := 1049) (by decide +kernel), List.mem_of_getElem? (i := 1050) (by decide +kernel)⟩
theorem lw_p41 : lw_okq (⟨"RoomDealerModel", "tells", "(III)V"⟩, 46) := ⟨⟨by decide +kernel, by decide +kernel⟩, List.mem_of_getElem? (i := 771) (by decide +kernel), List.mem_of_getElem? (i := 1054) (by decide +kernel), List.mem_of_getElem? (i := 1055) (by decide +kernel)⟩
theorem lw_p42 : lw_okq (⟨"RoomDealerModel", "isOver", "(II)V"⟩, 46) := ⟨⟨by decide +kernel, by decide +kernel⟩, List.mem_of_getElem? (i := 771) (by decide +kernel), List.mem_of_getElem? (i := 1058) (by decide +kernel), List.mem_of_getElem? (i := 1059) (by decide +kernel)⟩
theorem lw_p43 : lw_okq (⟨"RoomDealerModel", "makes", "(II)V"⟩, 46) := ⟨⟨by decide +kernel, by decide +kernel⟩, List.mem_of_getElem? (i := 771) (by decide +kernel), List.mem_of_getElem? (i := 1062) (by decide +kernel), List.mem_of_getElem? (i := 1063) (by decide +kernel)⟩
theorem lw_p44 : lw_okq (⟨"RoomDealerModel", "collects", "(I)I"⟩, 46) := ⟨⟨by decide +kernel, by decide +kernel⟩, List.mem_of_getElem? (i := 771) (by decide +kernel), List.mem_of_getElem? (i := 1066) (by decide +kernel), List.mem_of_getElem? (i := 1067) (by decide +kernel)⟩
theorem lw_p45 : lw_okq (⟨"RoomDealerModel", "asks", "(II)Z"⟩, 46) := ⟨⟨by decide +kernel, by decide +kernel⟩, List.mem_of_getElem? (i := 771) (by decide +kernel), List.mem_of_getElem? (i := 1070) (by decide +kernel), List.mem_of_getElem? (i := 1071) (by decide +kernel)⟩
theorem lw_p46 : lw_okq (⟨"RoomDealerModel", "spare", "(I)I"⟩, 46) := ⟨⟨by decide +kernel, by decide +kernel⟩, List.mem_of_getElem? (i := 771) (by decide +kernel), List.mem_of_getElem? (i := 1074) (by decide +kernel), List.mem_of_getElem? (i := 1075) (by decide +kernel)⟩
theorem lw_p47 : lw_okq (⟨"RoomDealerModel", "gives", "(II)V"⟩, 46) := ⟨⟨by decide +kernel, by decide +kernel⟩, List.mem_of_getElem? (i := 771) (by decide +kernel), List.mem_of_getElem? (i := 1079) (by decide +kernel), List.mem_of_getElem? (i := 1080) (by decide +kernel)⟩
def lw_privs_3 : List (MethodName × Nat) := [(⟨"RoomDealerModel", "up", "(I)I"⟩, 46), (⟨"RoomDealerModel", "dealt", "()I"⟩, 46), (⟨"RoomDealerModel", "areNeeds", "()Z"⟩, 46), (⟨"RoomDealerModel", "sum", "()I"⟩, 46), (⟨"RoomDealerModel", "isAny", "()Z"⟩, 46), (⟨"RoomDealerModel", "isThere", "(I)Z"⟩, 46), (⟨"RoomDealerModel", "ticks", "()V"⟩, 46), (⟨"RoomDealerModel", "acts", "(I)V"⟩, 46), (⟨"RoomDealerModel", "passes", "(I)V"⟩, 46), (⟨"RoomDealerModel", "tells", "(III)V"⟩, 46), (⟨"RoomDealerModel", "isOver", "(II)V"⟩, 46), (⟨"RoomDealerModel", "makes", "(II)V"⟩, 46), (⟨"RoomDealerModel", "collects", "(I)I"⟩, 46), (⟨"RoomDealerModel", "asks", "(II)Z"⟩, 46), (⟨"RoomDealerModel", "spare", "(I)I"⟩, 46), (⟨"RoomDealerModel", "gives", "(II)V"⟩, 46)]
theorem lw_r3 : ∀ q ∈ lw_privs_3, lw_okq q := List.forall_mem_cons.mpr ⟨lw_p32, List.forall_mem_cons.mpr ⟨lw_p33, List.forall_mem_cons.mpr ⟨lw_p34, List.forall_mem_cons.mpr ⟨lw_p35, List.forall_mem_cons.mpr ⟨lw_p36, List.forall_mem_cons.mpr ⟨lw_p37, List.forall_mem_cons.mpr ⟨lw_p38, List.forall_mem_cons.mpr ⟨lw_p39, List.forall_mem_cons.mpr ⟨lw_p40, List.forall_mem_cons.mpr ⟨lw_p41, List.forall_mem_cons.mpr ⟨lw_p42, List.forall_mem_cons.mpr ⟨lw_p43, List.forall_mem_cons.mpr ⟨lw_p44, List.forall_mem_cons.mpr ⟨lw_p45, List.forall_mem_cons.mpr ⟨lw_p46, List.forall_mem_cons.mpr ⟨lw_p47, fun _ h => absurd h List.not_mem_nil⟩⟩⟩⟩⟩⟩⟩⟩⟩⟩⟩⟩⟩⟩⟩⟩
theorem lw_p48 : lw_okq (⟨"RoomDealerModel", "isUp", "(I)Z"⟩, 46) := ⟨⟨by decide +kernel, by decide +kernel⟩, List.mem_of_getElem? (i := 771) (by decide +kernel), List.mem_of_getElem? (i := 1083) (by decide +kernel), List.mem_of_getElem? (i := 1084) (by decide +kernel)⟩
theorem lw_p49 : lw_okq (⟨"RoomDealerModel", "redeals", "()V"⟩, 46) := ⟨⟨by decide +kernel, by decide +kernel⟩, List.mem_of_getElem? (i := 771) (by decide +kernel), List.mem_of_getElem? (i := 1087) (by decide +kernel), List.mem_of_getElem? (i := 1088) (by decide +kernel)⟩
theorem lw_p50 : lw_okq (⟨"RoomDealerModel", "swung", "()Z"⟩, 46) := ⟨⟨by decide +kernel, by decide +kernel⟩, List.mem_of_getElem? (i := 771) (by decide +kernel), List.mem_of_getElem? (i := 1091) (by decide +kernel), List.mem_of_getElem? (i := 1092) (by decide +kernel)⟩
theorem lw_p51 : lw_okq (⟨"RoomDealerModel", "s", "(I)I"⟩, 46) := ⟨⟨by decide +kernel, by decide +kernel⟩, List.mem_of_getElem? (i := 771) (by decide +kernel), List.mem_of_getElem? (i := 1095) (by decide +kernel), List.mem_of_getElem? (i := 1096) (by decide +kernel)⟩
def lw_privs_4 : List (MethodName × Nat) := [(⟨"RoomDealerModel", "isUp", "(I)Z"⟩, 46), (⟨"RoomDealerModel", "redeals", "()V"⟩, 46), (⟨"RoomDealerModel", "swung", "()Z"⟩, 46), (⟨"RoomDealerModel", "s", "(I)I"⟩, 46)]
theorem lw_r4 : ∀ q ∈ lw_privs_4, lw_okq q := List.forall_mem_cons.mpr ⟨lw_p48, List.forall_mem_cons.mpr ⟨lw_p49, List.forall_mem_cons.mpr ⟨lw_p50, List.forall_mem_cons.mpr ⟨lw_p51, fun _ h => absurd h List.not_mem_nil⟩⟩⟩⟩
def lw_privs : List (MethodName × Nat) := lw_privs_1 ++ (lw_privs_2 ++ (lw_privs_3 ++ (lw_privs_4)))
def lw_tbl : List Cond := k2_sels lw_privs ++ tables_1
theorem lw_privs_ok : ∀ q ∈ lw_privs, lw_okq q := by
  show ∀ q ∈ lw_privs_1 ++ (lw_privs_2 ++ (lw_privs_3 ++ (lw_privs_4))), lw_okq q
  exact List.forall_mem_append.mpr ⟨lw_r1, List.forall_mem_append.mpr ⟨lw_r2, List.forall_mem_append.mpr ⟨lw_r3, lw_r4⟩⟩⟩
-- ===== end of PART A; then your names; then what follows =====
/-! THE CLAIM OUT OF ONE WALK OF THE LAW'S BODY. Your part is whole_start (and what it stands on); all else here is the same for every law, but numbers. -/
def R_law : String := "RoomDealerLaw"
def lw_P (b : Addr) (xs : List Int32) (args : Array Value) (s : State) : Prop := args = #[.ref b] ∧ s.IntsAt b xs ∧ xs.length ≤ 3072 ∧ (Jvm.Cond.and given_1 narrow_1).before args s = true
def lw_Q (_ : Array Value) (s : State) (o : Outcome) (t : State) : Prop := o = .returned (some (.int 1)) ∧ Framed s o t [] 600000 7302249
def lw_Z (below : List Frame) (a : Array Value) (s : State) : State → Prop := fun t => ∃ o, t.status = .running ∧ Ended t below o ∧ lw_Q a s o t
/-- the law's own end, with 1 on the stack, nothing written that was there before, its room as the claim has it -/
theorem lw_ret {p : Program} {l : Launch} {e : Env} {s : State} {m : MethodId} {below : List Frame} {meth : Method} {c : Code} {b : Nat} (hx : p.tables.exec = Jvm.exec) (hb : c.code = code) (hr : meth.sig.returnType = ret) (hlocks : meth.locks = false) {pc : Nat} {H : Heap} {ls : Array Slot} (hdg : decode code pc = .ok (.ireturn, 1)) : W p l e room_1 s m #[Value.ref b] below meth c H [] 600000 7302249 (lw_Z below #[Value.ref b] s) (F0 m pc ls [.int 1]) := by
  intro T hT X
  obtain ⟨fs, hret, hrun, hended, hW, hframe⟩ := X.leave (v := some (.int 1)) (hlocks := hlocks) (fun h => by rw [hr] at h; cases h)
  have hmeth' : T.vm.method? m = some meth := X.method'
  refine ⟨T.setFrames fs, ?_, .returned (some (.int 1)), hrun, hended, rfl, ⟨_, rfl⟩, hW, hframe⟩
  jvm_step X.here [X.here.top, hx, hb, hdg, hmeth', hr, ret, narrow_b1]
  (try refine ⟨rfl, ?_⟩); (try refine ⟨rfl, ?_⟩)
  first | (intro acts; rw [hret _ acts rfl rfl rfl]) | rw [hret _ _ rfl rfl rfl]
  exact Steps.refl _
/-- what holds at the law's entry: the machine, the code, the tables' words (any of lw_tbl by 'hts w (by decide +kernel)'), the script of L ints xs at the cell b, what the Statement gives of the start (any of its parts by flat_of_before) -/
def lw_At (p : Program) (s : State) (m : MethodId) (meth : Method) (c : Code) (b L : Nat) (xs : Nat → Int32) : Prop :=
  p.tables.exec = Jvm.exec ∧ c.code = code ∧ meth.sig.returnType = ret ∧ c.maxLocals = 4 ∧ s.vm.findClass R_law = some m.cls ∧ (∀ w ∈ lw_tbl, w.before #[Value.ref b] s = true) ∧ va_X b L xs s s.heap ∧ b < s.heap.size ∧ meth.locks = false ∧ (Jvm.Cond.and given_1 narrow_1).before #[Value.ref b] s = true
end
section
def RX0 : String := "RoomDealer$Dealer"
def TX0 : u_T := fun k => match k with
  | 0 => ("RoomDealer$Dealer", "terms", "LRoomDealer$Terms;", true)
  | 1 => ("RoomDealer$Dealer", "trial", "LRoomDealer$Trial;", true)
  | 2 => ("RoomDealer$Dealer", "shares", "[I", true)
  | 3 => ("RoomDealer$Dealer", "needs", "[I", true)
  | 4 => ("RoomDealer$Dealer", "dealt", "Z", false)
  | _ => ("RoomDealer$Dealer", "least", "[[I", true)
def tyX0 : Nat → FieldType := fun k => match k with
  | 0 => .object "RoomDealer$Terms"
  | 1 => .object "RoomDealer$Trial"
  | 2 => .array .int
  | 3 => .array .int
  | 4 => .boolean
  | _ => .array (.array .int)
abbrev wsX00 : List Cond := u_ws RX0 TX0 6
theorem nmX0 : ∀ a, a < 6 → ∀ b, b < 6 → a ≠ b → (TX0 a).2.1 ≠ (TX0 b).2.1 := by decide +kernel
theorem tyX0_ok : ∀ k, k < 6 → parseFieldDescriptor (TX0 k).2.2.1 = some (tyX0 k) := by decide +kernel
abbrev cX0_init : ByteArray := prog_2_method_1_code
def yX0_init : MethodName := ⟨RX0, "<init>", "(LRoomDealer$Terms;)V"⟩
abbrev cX0_timeByRoom : ByteArray := prog_2_method_2_code
def yX0_timeByRoom : MethodName := ⟨RX0, "timeByRoom", "(LRoomDealer$Program;I)I"⟩
abbrev cX0_needInSteps : ByteArray := prog_2_method_3_code
def yX0_needInSteps : MethodName := ⟨RX0, "needInSteps", "(LRoomDealer$Program;)I"⟩
abbrev cX0_learnTimes : ByteArray := prog_2_method_4_code
def yX0_learnTimes : MethodName := ⟨RX0, "learnTimes", "(LRoomDealer$Program;)V"⟩
abbrev cX0_bySavings : ByteArray := prog_2_method_5_code
def yX0_bySavings : MethodName := ⟨RX0, "bySavings", "([LRoomDealer$Program;I)I"⟩
abbrev cX0_whoSavesMost : ByteArray := prog_2_method_6_code
def yX0_whoSavesMost : MethodName := ⟨RX0, "whoSavesMost", "([LRoomDealer$Program;I)I"⟩
abbrev cX0_sumOfTimes : ByteArray := prog_2_method_7_code
def yX0_sumOfTimes : MethodName := ⟨RX0, "sumOfTimes", "([LRoomDealer$Program;I)I"⟩
abbrev cX0_atBest : ByteArray := prog_2_method_8_code
def yX0_atBest : MethodName := ⟨RX0, "atBest", "([LRoomDealer$Program;I)I"⟩
abbrev cX0_takeFirstBest : ByteArray := prog_2_method_9_code
def yX0_takeFirstBest : MethodName := ⟨RX0, "takeFirstBest", "([LRoomDealer$Program;II)V"⟩
abbrev cX0_firstBestShare : ByteArray := prog_2_method_10_code
def yX0_firstBestShare : MethodName := ⟨RX0, "firstBestShare", "(LRoomDealer$Program;II)I"⟩
abbrev cX0_sumWith : ByteArray := prog_2_method_11_code
def yX0_sumWith : MethodName := ⟨RX0, "sumWith", "(LRoomDealer$Program;III)I"⟩
def RX1 : String := "RoomDealer$Program"
def TX1 : u_T := fun k => match k with
  | 0 => ("RoomDealer$Program", "acts", "[I", true)
  | 1 => ("RoomDealer$Program", "length", "I", false)
  | 2 => ("RoomDealer$Program", "copies", "Z", false)
  | 3 => ("RoomDealer$Program", "rounds", "I", false)
  | 4 => ("RoomDealer$Program", "floor", "I", false)
  | 5 => ("RoomDealer$Program", "times", "[I", true)
  | _ => ("RoomDealer$Program", "timesKnown", "Z", false)
def tyX1 : Nat → FieldType := fun k => match k with
  | 0 => .array .int
  | 1 => .int
  | 2 => .boolean
  | 3 => .int
  | 4 => .int
  | 5 => .array .int
  | _ => .boolean
abbrev wsX10 : List Cond := u_ws RX1 TX1 7
theorem nmX1 : ∀ a, a < 7 → ∀ b, b < 7 → a ≠ b → (TX1 a).2.1 ≠ (TX1 b).2.1 := by decide +kernel
theorem tyX1_ok : ∀ k, k < 7 → parseFieldDescriptor (TX1 k).2.2.1 = some (tyX1 k) := by decide +kernel
abbrev cX1_init : ByteArray := prog_3_method_1_code
def yX1_init : MethodName := ⟨RX1, "<init>", "()V"⟩
abbrev cX1_become : ByteArray := prog_3_method_2_code
def yX1_become : MethodName := ⟨RX1, "become", "(LRoomDealer$Slot;ZII)V"⟩
abbrev cX1_isMake : ByteArray := prog_3_method_3_code
def yX1_isMake : MethodName := ⟨RX1, "isMake", "(I)Z"⟩
abbrev cX1_holds : ByteArray := prog_3_method_4_code
def yX1_holds : MethodName := ⟨RX1, "holds", "(I)I"⟩
abbrev cX1_roomFor : ByteArray := prog_3_method_5_code
def yX1_roomFor : MethodName := ⟨RX1, "roomFor", "(I)I"⟩
abbrev cX1_costToCollect : ByteArray := prog_3_method_6_code
def yX1_costToCollect : MethodName := ⟨RX1, "costToCollect", "(II)I"⟩
abbrev cX1_fallsEverSlower : ByteArray := prog_3_method_7_code
def yX1_fallsEverSlower : MethodName := ⟨RX1, "fallsEverSlower", "(II)Z"⟩
def RX2 : String := "RoomDealer$Runner"
def TX2 : u_T := fun k => match k with
  | 0 => ("RoomDealer$Runner", "things", "LRoomDealer$Things;", true)
  | 1 => ("RoomDealer$Runner", "number", "I", true)
  | 2 => ("RoomDealer$Runner", "program", "LRoomDealer$Program;", false)
  | 3 => ("RoomDealer$Runner", "how", "I", false)
  | 4 => ("RoomDealer$Runner", "room", "I", false)
  | 5 => ("RoomDealer$Runner", "used", "I", false)
  | 6 => ("RoomDealer$Runner", "roundsOver", "I", false)
  | 7 => ("RoomDealer$Runner", "place", "I", false)
  | 8 => ("RoomDealer$Runner", "costs", "I", false)
  | 9 => ("RoomDealer$Runner", "costsSinceRedeal", "I", false)
  | 10 => ("RoomDealer$Runner", "endedAt", "I", false)
  | 11 => ("RoomDealer$Runner", "waits", "I", false)
  | 12 => ("RoomDealer$Runner", "leaker", "Z", false)
  | 13 => ("RoomDealer$Runner", "squeezed", "Z", false)
  | 14 => ("RoomDealer$Runner", "roomAheadOfSqueeze", "I", false)
  | 15 => ("RoomDealer$Runner", "liveAtRoundEnd", "I", false)
  | _ => ("RoomDealer$Runner", "rises", "I", false)
def tyX2 : Nat → FieldType := fun k => match k with
  | 0 => .object "RoomDealer$Things"
  | 1 => .int
  | 2 => .object "RoomDealer$Program"
  | 3 => .int
  | 4 => .int
  | 5 => .int
  | 6 => .int
  | 7 => .int
  | 8 => .int
  | 9 => .int
  | 10 => .int
  | 11 => .int
  | 12 => .boolean
  | 13 => .boolean
  | 14 => .int
  | 15 => .int
  | _ => .int
abbrev wsX20 : List Cond := u_ws RX2 TX2 17
theorem nmX2 : ∀ a, a < 17 → ∀ b, b < 17 → a ≠ b → (TX2 a).2.1 ≠ (TX2 b).2.1 := by decide +kernel
theorem tyX2_ok : ∀ k, k < 17 → parseFieldDescriptor (TX2 k).2.2.1 = some (tyX2 k) := by decide +kernel
abbrev cX2_init : ByteArray := prog_4_method_1_code
def yX2_init : MethodName := ⟨RX2, "<init>", "(I)V"⟩
abbrev cX2_start : ByteArray := prog_4_method_2_code
def yX2_start : MethodName := ⟨RX2, "start", "(LRoomDealer$Program;I)V"⟩
abbrev cX2_goesOn : ByteArray := prog_4_method_3_code
def yX2_goesOn : MethodName := ⟨RX2, "goesOn", "()Z"⟩
abbrev cX2_isAwake : ByteArray := prog_4_method_4_code
def yX2_isAwake : MethodName := ⟨RX2, "isAwake", "()Z"⟩
abbrev cX2_nextAct : ByteArray := prog_4_method_5_code
def yX2_nextAct : MethodName := ⟨RX2, "nextAct", "()I"⟩
abbrev cX2_isAboutToMake : ByteArray := prog_4_method_6_code
def yX2_isAboutToMake : MethodName := ⟨RX2, "isAboutToMake", "()Z"⟩
abbrev cX2_fits : ByteArray := prog_4_method_7_code
def yX2_fits : MethodName := ⟨RX2, "fits", "(I)Z"⟩
abbrev cX2_keep : ByteArray := prog_4_method_8_code
def yX2_keep : MethodName := ⟨RX2, "keep", "(LRoomDealer$Terms;)I"⟩
abbrev cX2_spare : ByteArray := prog_4_method_9_code
def yX2_spare : MethodName := ⟨RX2, "spare", "(LRoomDealer$Terms;)I"⟩
abbrev cX2_collectNow : ByteArray := prog_4_method_10_code
def yX2_collectNow : MethodName := ⟨RX2, "collectNow", "()I"⟩
abbrev cX2_makeNow : ByteArray := prog_4_method_11_code
def yX2_makeNow : MethodName := ⟨RX2, "makeNow", "(I)V"⟩
abbrev cX2_waitFor : ByteArray := prog_4_method_12_code
def yX2_waitFor : MethodName := ⟨RX2, "waitFor", "(II)V"⟩
abbrev cX2_endRound : ByteArray := prog_4_method_13_code
def yX2_endRound : MethodName := ⟨RX2, "endRound", "()V"⟩
abbrev cX2_leave : ByteArray := prog_4_method_14_code
def yX2_leave : MethodName := ⟨RX2, "leave", "(II)I"⟩
abbrev cX2_cellsOfStep : ByteArray := prog_4_method_15_code
def yX2_cellsOfStep : MethodName := ⟨RX2, "cellsOfStep", "(I)I"⟩
abbrev cX2_gain : ByteArray := prog_4_method_16_code
def yX2_gain : MethodName := ⟨RX2, "gain", "(LRoomDealer$Terms;)J"⟩
abbrev cX2_loss : ByteArray := prog_4_method_17_code
def yX2_loss : MethodName := ⟨RX2, "loss", "(LRoomDealer$Terms;)J"⟩
abbrev cX2_told : ByteArray := prog_4_method_18_code
def yX2_told : MethodName := ⟨RX2, "told", "(I)I"⟩
def RX3 : String := "RoomDealer$Slot"
def TX3 : u_T := fun k => match k with
  | 0 => ("RoomDealer$Slot", "numbers", "[J", true)
  | 1 => ("RoomDealer$Slot", "width", "I", false)
  | _ => ("RoomDealer$Slot", "length", "I", false)
def tyX3 : Nat → FieldType := fun k => match k with
  | 0 => .array .long
  | 1 => .int
  | _ => .int
abbrev wsX30 : List Cond := u_ws RX3 TX3 3
theorem nmX3 : ∀ a, a < 3 → ∀ b, b < 3 → a ≠ b → (TX3 a).2.1 ≠ (TX3 b).2.1 := by decide +kernel
theorem tyX3_ok : ∀ k, k < 3 → parseFieldDescriptor (TX3 k).2.2.1 = some (tyX3 k) := by decide +kernel
abbrev cX3_init : ByteArray := prog_5_method_1_code
def yX3_init : MethodName := ⟨RX3, "<init>", "()V"⟩
abbrev cX3_isBare : ByteArray := prog_5_method_2_code
def yX3_isBare : MethodName := ⟨RX3, "isBare", "()Z"⟩
abbrev cX3_lay : ByteArray := prog_5_method_3_code
def yX3_lay : MethodName := ⟨RX3, "lay", "(II)V"⟩
abbrev cX3_strip : ByteArray := prog_5_method_4_code
def yX3_strip : MethodName := ⟨RX3, "strip", "()V"⟩
abbrev cX3_cut : ByteArray := prog_5_method_5_code
def yX3_cut : MethodName := ⟨RX3, "cut", "(J)J"⟩
abbrev cX3_hasPlaces : ByteArray := prog_5_method_6_code
def yX3_hasPlaces : MethodName := ⟨RX3, "hasPlaces", "(II)Z"⟩
abbrev cX3_holdsActsAlone : ByteArray := prog_5_method_7_code
def yX3_holdsActsAlone : MethodName := ⟨RX3, "holdsActsAlone", "()Z"⟩
abbrev cX3_isAct : ByteArray := prog_5_method_8_code
def yX3_isAct : MethodName := ⟨RX3, "isAct", "(J)Z"⟩
def RX4 : String := "RoomDealer$Story"
def TX4 : u_T := fun k => match k with
  | 0 => ("RoomDealer$Story", "when", "[I", true)
  | 1 => ("RoomDealer$Story", "who", "[I", true)
  | 2 => ("RoomDealer$Story", "whats", "[I", true)
  | 3 => ("RoomDealer$Story", "amounts", "[I", true)
  | _ => ("RoomDealer$Story", "came", "I", false)
def tyX4 : Nat → FieldType := fun k => match k with
  | 0 => .array .int
  | 1 => .array .int
  | 2 => .array .int
  | 3 => .array .int
  | _ => .int
abbrev wsX40 : List Cond := u_ws RX4 TX4 5
theorem nmX4 : ∀ a, a < 5 → ∀ b, b < 5 → a ≠ b → (TX4 a).2.1 ≠ (TX4 b).2.1 := by decide +kernel
theorem tyX4_ok : ∀ k, k < 5 → parseFieldDescriptor (TX4 k).2.2.1 = some (tyX4 k) := by decide +kernel
abbrev cX4_init : ByteArray := prog_6_method_1_code
def yX4_init : MethodName := ⟨RX4, "<init>", "()V"⟩
abbrev cX4_forget : ByteArray := prog_6_method_2_code
def yX4_forget : MethodName := ⟨RX4, "forget", "()V"⟩
abbrev cX4_kept : ByteArray := prog_6_method_3_code
def yX4_kept : MethodName := ⟨RX4, "kept", "()I"⟩
abbrev cX4_add : ByteArray := prog_6_method_4_code
def yX4_add : MethodName := ⟨RX4, "add", "(IIII)V"⟩
abbrev cX4_told : ByteArray := prog_6_method_5_code
def yX4_told : MethodName := ⟨RX4, "told", "(II)I"⟩
def RX5 : String := "RoomDealer$Terms"
def TX5 : u_T := fun k => match k with
  | 0 => ("RoomDealer$Terms", "step", "I", false)
  | 1 => ("RoomDealer$Terms", "all", "I", false)
  | 2 => ("RoomDealer$Terms", "reserve", "I", false)
  | 3 => ("RoomDealer$Terms", "each", "I", false)
  | _ => ("RoomDealer$Terms", "swing", "I", false)
def tyX5 : Nat → FieldType := fun k => match k with
  | 0 => .int
  | 1 => .int
  | 2 => .int
  | 3 => .int
  | _ => .int
abbrev wsX50 : List Cond := u_ws RX5 TX5 5
theorem nmX5 : ∀ a, a < 5 → ∀ b, b < 5 → a ≠ b → (TX5 a).2.1 ≠ (TX5 b).2.1 := by decide +kernel
theorem tyX5_ok : ∀ k, k < 5 → parseFieldDescriptor (TX5 k).2.2.1 = some (tyX5 k) := by decide +kernel
abbrev cX5_init : ByteArray := prog_7_method_1_code
def yX5_init : MethodName := ⟨RX5, "<init>", "()V"⟩
abbrev cX5_areSound : ByteArray := prog_7_method_2_code
def yX5_areSound : MethodName := ⟨RX5, "areSound", "(III)Z"⟩
abbrev cX5_allSteps : ByteArray := prog_7_method_3_code
def yX5_allSteps : MethodName := ⟨RX5, "allSteps", "()I"⟩
abbrev cX5_dealtSteps : ByteArray := prog_7_method_4_code
def yX5_dealtSteps : MethodName := ⟨RX5, "dealtSteps", "()I"⟩
abbrev cX5_stepsFor : ByteArray := prog_7_method_5_code
def yX5_stepsFor : MethodName := ⟨RX5, "stepsFor", "(I)I"⟩
def RX6 : String := "RoomDealer$Things"
def TX6 : u_T := fun k => match k with
  | 0 => ("RoomDealer$Things", "cells", "[I", true)
  | 1 => ("RoomDealer$Things", "makes", "I", false)
  | _ => ("RoomDealer$Things", "live", "I", false)
def tyX6 : Nat → FieldType := fun k => match k with
  | 0 => .array .int
  | 1 => .int
  | _ => .int
abbrev wsX60 : List Cond := u_ws RX6 TX6 3
theorem nmX6 : ∀ a, a < 3 → ∀ b, b < 3 → a ≠ b → (TX6 a).2.1 ≠ (TX6 b).2.1 := by decide +kernel
theorem tyX6_ok : ∀ k, k < 3 → parseFieldDescriptor (TX6 k).2.2.1 = some (tyX6 k) := by decide +kernel
abbrev cX6_init : ByteArray := prog_8_method_1_code
def yX6_init : MethodName := ⟨RX6, "<init>", "()V"⟩
abbrev cX6_forget : ByteArray := prog_8_method_2_code
def yX6_forget : MethodName := ⟨RX6, "forget", "()V"⟩
abbrev cX6_add : ByteArray := prog_8_method_3_code
def yX6_add : MethodName := ⟨RX6, "add", "(I)V"⟩
abbrev cX6_die : ByteArray := prog_8_method_4_code
def yX6_die : MethodName := ⟨RX6, "die", "(I)V"⟩
def RX7 : String := "RoomDealer$Together"
def TX7 : u_T := fun k => match k with
  | 0 => ("RoomDealer$Together", "terms", "LRoomDealer$Terms;", true)
  | 1 => ("RoomDealer$Together", "story", "LRoomDealer$Story;", true)
  | 2 => ("RoomDealer$Together", "runners", "[LRoomDealer$Runner;", true)
  | 3 => ("RoomDealer$Together", "count", "I", false)
  | 4 => ("RoomDealer$Together", "runs", "Z", false)
  | 5 => ("RoomDealer$Together", "now", "I", false)
  | _ => ("RoomDealer$Together", "pool", "I", false)
def tyX7 : Nat → FieldType := fun k => match k with
  | 0 => .object "RoomDealer$Terms"
  | 1 => .object "RoomDealer$Story"
  | 2 => .array (.object "RoomDealer$Runner")
  | 3 => .int
  | 4 => .boolean
  | 5 => .int
  | _ => .int
abbrev wsX70 : List Cond := u_ws RX7 TX7 7
theorem nmX7 : ∀ a, a < 7 → ∀ b, b < 7 → a ≠ b → (TX7 a).2.1 ≠ (TX7 b).2.1 := by decide +kernel
theorem tyX7_ok : ∀ k, k < 7 → parseFieldDescriptor (TX7 k).2.2.1 = some (tyX7 k) := by decide +kernel
abbrev cX7_init : ByteArray := prog_9_method_1_code
def yX7_init : MethodName := ⟨RX7, "<init>", "(LRoomDealer$Terms;)V"⟩
abbrev cX7_start : ByteArray := prog_9_method_2_code
def yX7_start : MethodName := ⟨RX7, "start", "([LRoomDealer$Program;I[I)V"⟩
abbrev cX7_someGoOn : ByteArray := prog_9_method_3_code
def yX7_someGoOn : MethodName := ⟨RX7, "someGoOn", "()Z"⟩
abbrev cX7_tick : ByteArray := prog_9_method_4_code
def yX7_tick : MethodName := ⟨RX7, "tick", "()V"⟩
abbrev cX7_passTick : ByteArray := prog_9_method_5_code
def yX7_passTick : MethodName := ⟨RX7, "passTick", "(LRoomDealer$Runner;)V"⟩
abbrev cX7_doOtherAct : ByteArray := prog_9_method_6_code
def yX7_doOtherAct : MethodName := ⟨RX7, "doOtherAct", "(LRoomDealer$Runner;)V"⟩
abbrev cX7_tryMake : ByteArray := prog_9_method_7_code
def yX7_tryMake : MethodName := ⟨RX7, "tryMake", "(LRoomDealer$Runner;)V"⟩
abbrev cX7_wake : ByteArray := prog_9_method_8_code
def yX7_wake : MethodName := ⟨RX7, "wake", "(LRoomDealer$Runner;)V"⟩
abbrev cX7_endAct : ByteArray := prog_9_method_9_code
def yX7_endAct : MethodName := ⟨RX7, "endAct", "(LRoomDealer$Runner;)V"⟩
abbrev cX7_leave : ByteArray := prog_9_method_10_code
def yX7_leave : MethodName := ⟨RX7, "leave", "(LRoomDealer$Runner;II)V"⟩
abbrev cX7_collect : ByteArray := prog_9_method_11_code
def yX7_collect : MethodName := ⟨RX7, "collect", "(LRoomDealer$Runner;)I"⟩
abbrev cX7_getsByAsking : ByteArray := prog_9_method_12_code
def yX7_getsByAsking : MethodName := ⟨RX7, "getsByAsking", "(LRoomDealer$Runner;I)Z"⟩
abbrev cX7_fairPart : ByteArray := prog_9_method_13_code
def yX7_fairPart : MethodName := ⟨RX7, "fairPart", "()I"⟩
abbrev cX7_spareOfOthers : ByteArray := prog_9_method_14_code
def yX7_spareOfOthers : MethodName := ⟨RX7, "spareOfOthers", "(LRoomDealer$Runner;)I"⟩
abbrev cX7_whoSparesMost : ByteArray := prog_9_method_15_code
def yX7_whoSparesMost : MethodName := ⟨RX7, "whoSparesMost", "(LRoomDealer$Runner;)I"⟩
abbrev cX7_give : ByteArray := prog_9_method_16_code
def yX7_give : MethodName := ⟨RX7, "give", "(LRoomDealer$Runner;I)V"⟩
abbrev cX7_redeal : ByteArray := prog_9_method_17_code
def yX7_redeal : MethodName := ⟨RX7, "redeal", "()V"⟩
abbrev cX7_squeeze : ByteArray := prog_9_method_18_code
def yX7_squeeze : MethodName := ⟨RX7, "squeeze", "(LRoomDealer$Runner;)V"⟩
abbrev cX7_movesStep : ByteArray := prog_9_method_19_code
def yX7_movesStep : MethodName := ⟨RX7, "movesStep", "()Z"⟩
abbrev cX7_whoGainsMost : ByteArray := prog_9_method_20_code
def yX7_whoGainsMost : MethodName := ⟨RX7, "whoGainsMost", "()I"⟩
abbrev cX7_whoLosesLeast : ByteArray := prog_9_method_21_code
def yX7_whoLosesLeast : MethodName := ⟨RX7, "whoLosesLeast", "(I)I"⟩
def RX8 : String := "RoomDealer$Trial"
def TX8 : u_T := fun k => match k with
  | 0 => ("RoomDealer$Trial", "things", "LRoomDealer$Things;", true)
  | 1 => ("RoomDealer$Trial", "holds", "[I", true)
  | 2 => ("RoomDealer$Trial", "used", "[I", true)
  | 3 => ("RoomDealer$Trial", "costs", "[I", true)
  | 4 => ("RoomDealer$Trial", "lanes", "I", false)
  | 5 => ("RoomDealer$Trial", "firstAlive", "I", false)
  | _ => ("RoomDealer$Trial", "ticks", "I", false)
def tyX8 : Nat → FieldType := fun k => match k with
  | 0 => .object "RoomDealer$Things"
  | 1 => .array .int
  | 2 => .array .int
  | 3 => .array .int
  | 4 => .int
  | 5 => .int
  | _ => .int
abbrev wsX80 : List Cond := u_ws RX8 TX8 7
theorem nmX8 : ∀ a, a < 7 → ∀ b, b < 7 → a ≠ b → (TX8 a).2.1 ≠ (TX8 b).2.1 := by decide +kernel
theorem tyX8_ok : ∀ k, k < 7 → parseFieldDescriptor (TX8 k).2.2.1 = some (tyX8 k) := by decide +kernel
abbrev cX8_init : ByteArray := prog_10_method_1_code
def yX8_init : MethodName := ⟨RX8, "<init>", "()V"⟩
abbrev cX8_pass : ByteArray := prog_10_method_2_code
def yX8_pass : MethodName := ⟨RX8, "pass", "(LRoomDealer$Program;III)V"⟩
abbrev cX8_passRound : ByteArray := prog_10_method_3_code
def yX8_passRound : MethodName := ⟨RX8, "passRound", "(LRoomDealer$Program;)V"⟩
abbrev cX8_makeInAll : ByteArray := prog_10_method_4_code
def yX8_makeInAll : MethodName := ⟨RX8, "makeInAll", "(LRoomDealer$Program;I)V"⟩
abbrev cX8_timeOf : ByteArray := prog_10_method_5_code
def yX8_timeOf : MethodName := ⟨RX8, "timeOf", "(I)I"⟩
def RX9 : String := "RoomDealer"
def TX9 : u_T := fun k => match k with
  | 0 => ("RoomDealer", "slots", "[LRoomDealer$Slot;", true)
  | 1 => ("RoomDealer", "agreed", "LRoomDealer$Terms;", true)
  | 2 => ("RoomDealer", "programs", "[LRoomDealer$Program;", true)
  | 3 => ("RoomDealer", "dealer", "LRoomDealer$Dealer;", true)
  | 4 => ("RoomDealer", "together", "LRoomDealer$Together;", true)
  | _ => ("RoomDealer", "programCount", "I", false)
def tyX9 : Nat → FieldType := fun k => match k with
  | 0 => .array (.object "RoomDealer$Slot")
  | 1 => .object "RoomDealer$Terms"
  | 2 => .array (.object "RoomDealer$Program")
  | 3 => .object "RoomDealer$Dealer"
  | 4 => .object "RoomDealer$Together"
  | _ => .int
abbrev wsX90 : List Cond := u_ws RX9 TX9 6
theorem nmX9 : ∀ a, a < 6 → ∀ b, b < 6 → a ≠ b → (TX9 a).2.1 ≠ (TX9 b).2.1 := by decide +kernel
theorem tyX9_ok : ∀ k, k < 6 → parseFieldDescriptor (TX9 k).2.2.1 = some (tyX9 k) := by decide +kernel
abbrev cX9_init : ByteArray := prog_1_method_1_code
def yX9_init : MethodName := ⟨RX9, "<init>", "()V"⟩
abbrev cX9_row : ByteArray := prog_1_method_2_code
def yX9_row : MethodName := ⟨RX9, "row", "(III)I"⟩
abbrev cX9_tear : ByteArray := prog_1_method_3_code
def yX9_tear : MethodName := ⟨RX9, "tear", "(I)Z"⟩
abbrev cX9_write : ByteArray := prog_1_method_4_code
def yX9_write : MethodName := ⟨RX9, "write", "(IIJ)I"⟩
abbrev cX9_paste : ByteArray := prog_1_method_5_code
def yX9_paste : MethodName := ⟨RX9, "paste", "(IIIII)I"⟩
abbrev cX9_terms : ByteArray := prog_1_method_6_code
def yX9_terms : MethodName := ⟨RX9, "terms", "(IIIII)I"⟩
abbrev cX9_program : ByteArray := prog_1_method_7_code
def yX9_program : MethodName := ⟨RX9, "program", "(IIII)I"⟩
abbrev cX9_clear : ByteArray := prog_1_method_8_code
def yX9_clear : MethodName := ⟨RX9, "clear", "()I"⟩
abbrev cX9_time : ByteArray := prog_1_method_9_code
def yX9_time : MethodName := ⟨RX9, "time", "(II)I"⟩
abbrev cX9_need : ByteArray := prog_1_method_10_code
def yX9_need : MethodName := ⟨RX9, "need", "(I)I"⟩
abbrev cX9_falls : ByteArray := prog_1_method_11_code
def yX9_falls : MethodName := ⟨RX9, "falls", "(I)I"⟩
abbrev cX9_deal : ByteArray := prog_1_method_12_code
def yX9_deal : MethodName := ⟨RX9, "deal", "()I"⟩
abbrev cX9_best : ByteArray := prog_1_method_13_code
def yX9_best : MethodName := ⟨RX9, "best", "()I"⟩
abbrev cX9_share : ByteArray := prog_1_method_14_code
def yX9_share : MethodName := ⟨RX9, "share", "(I)I"⟩
abbrev cX9_begin : ByteArray := prog_1_method_15_code
def yX9_begin : MethodName := ⟨RX9, "begin", "()Z"⟩
abbrev cX9_stop : ByteArray := prog_1_method_16_code
def yX9_stop : MethodName := ⟨RX9, "stop", "()Z"⟩
abbrev cX9_run : ByteArray := prog_1_method_17_code
def yX9_run : MethodName := ⟨RX9, "run", "(I)I"⟩
abbrev cX9_of : ByteArray := prog_1_method_18_code
def yX9_of : MethodName := ⟨RX9, "of", "(II)I"⟩
abbrev cX9_count : ByteArray := prog_1_method_19_code
def yX9_count : MethodName := ⟨RX9, "count", "(I)I"⟩
abbrev cX9_log : ByteArray := prog_1_method_20_code
def yX9_log : MethodName := ⟨RX9, "log", "(II)I"⟩
abbrev cX9_isSlot : ByteArray := prog_1_method_21_code
def yX9_isSlot : MethodName := ⟨RX9, "isSlot", "(I)Z"⟩
abbrev cX9_isProgram : ByteArray := prog_1_method_22_code
def yX9_isProgram : MethodName := ⟨RX9, "isProgram", "(I)Z"⟩
abbrev cX9_rowsThere : ByteArray := prog_1_method_23_code
def yX9_rowsThere : MethodName := ⟨RX9, "rowsThere", "()I"⟩
def RX10 : String := "RoomDealerModel"
def TX10 : u_T := fun k => match k with
  | 0 => ("RoomDealerModel", "thrown", "I", false)
  | 1 => ("RoomDealerModel", "width", "[I", true)
  | 2 => ("RoomDealerModel", "size", "[I", true)
  | 3 => ("RoomDealerModel", "cells", "[J", true)
  | 4 => ("RoomDealerModel", "moved", "[J", true)
  | 5 => ("RoomDealerModel", "step", "I", false)
  | 6 => ("RoomDealerModel", "all", "I", false)
  | 7 => ("RoomDealerModel", "reserve", "I", false)
  | 8 => ("RoomDealerModel", "each", "I", false)
  | 9 => ("RoomDealerModel", "swing", "I", false)
  | 10 => ("RoomDealerModel", "programs", "I", false)
  | 11 => ("RoomDealerModel", "many", "[I", true)
  | 12 => ("RoomDealerModel", "act", "[I", true)
  | 13 => ("RoomDealerModel", "collector", "[I", true)
  | 14 => ("RoomDealerModel", "rounds", "[I", true)
  | 15 => ("RoomDealerModel", "floor", "[I", true)
  | 16 => ("RoomDealerModel", "own", "[I", true)
  | 17 => ("RoomDealerModel", "hasShares", "Z", false)
  | 18 => ("RoomDealerModel", "share", "[I", true)
  | 19 => ("RoomDealerModel", "needs", "[I", true)
  | 20 => ("RoomDealerModel", "table", "[I", true)
  | 21 => ("RoomDealerModel", "least", "[J", true)
  | 22 => ("RoomDealerModel", "runs", "Z", false)
  | 23 => ("RoomDealerModel", "ran", "I", false)
  | 24 => ("RoomDealerModel", "now", "I", false)
  | 25 => ("RoomDealerModel", "pool", "I", false)
  | 26 => ("RoomDealerModel", "logged", "I", false)
  | 27 => ("RoomDealerModel", "told", "I", false)
  | 28 => ("RoomDealerModel", "how", "[I", true)
  | 29 => ("RoomDealerModel", "room", "[I", true)
  | 30 => ("RoomDealerModel", "used", "[I", true)
  | 31 => ("RoomDealerModel", "live", "[I", true)
  | 32 => ("RoomDealerModel", "over", "[I", true)
  | 33 => ("RoomDealerModel", "at", "[I", true)
  | 34 => ("RoomDealerModel", "makes", "[I", true)
  | 35 => ("RoomDealerModel", "costs", "[I", true)
  | 36 => ("RoomDealerModel", "since", "[I", true)
  | 37 => ("RoomDealerModel", "left", "[I", true)
  | 38 => ("RoomDealerModel", "end", "[I", true)
  | 39 => ("RoomDealerModel", "had", "[I", true)
  | 40 => ("RoomDealerModel", "rises", "[I", true)
  | 41 => ("RoomDealerModel", "last", "[I", true)
  | 42 => ("RoomDealerModel", "leaks", "[Z", true)
  | 43 => ("RoomDealerModel", "squeezed", "[Z", true)
  | 44 => ("RoomDealerModel", "made", "[I", true)
  | _ => ("RoomDealerModel", "log", "[I", true)
def tyX10 : Nat → FieldType := fun k => match k with
  | 0 => .int
  | 1 => .array .int
  | 2 => .array .int
  | 3 => .array .long
  | 4 => .array .long
  | 5 => .int
  | 6 => .int
  | 7 => .int
  | 8 => .int
  | 9 => .int
  | 10 => .int
  | 11 => .array .int
  | 12 => .array .int
  | 13 => .array .int
  | 14 => .array .int
  | 15 => .array .int
  | 16 => .array .int
  | 17 => .boolean
  | 18 => .array .int
  | 19 => .array .int
  | 20 => .array .int
  | 21 => .array .long
  | 22 => .boolean
  | 23 => .int
  | 24 => .int
  | 25 => .int
  | 26 => .int
  | 27 => .int
  | 28 => .array .int
  | 29 => .array .int
  | 30 => .array .int
  | 31 => .array .int
  | 32 => .array .int
  | 33 => .array .int
  | 34 => .array .int
  | 35 => .array .int
  | 36 => .array .int
  | 37 => .array .int
  | 38 => .array .int
  | 39 => .array .int
  | 40 => .array .int
  | 41 => .array .int
  | 42 => .array .boolean
  | 43 => .array .boolean
  | 44 => .array .int
  | _ => .array .int
abbrev wsX100 : List Cond := u_ws RX10 TX10 46
theorem nmX10 : ∀ a, a < 46 → ∀ b, b < 46 → a ≠ b → (TX10 a).2.1 ≠ (TX10 b).2.1 := by decide +kernel
theorem tyX10_ok : ∀ k, k < 46 → parseFieldDescriptor (TX10 k).2.2.1 = some (tyX10 k) := by decide +kernel
abbrev cX10_init : ByteArray := prog_12_method_1_code
def yX10_init : MethodName := ⟨RX10, "<init>", "()V"⟩
abbrev cX10_in : ByteArray := prog_12_method_3_code
def yX10_in : MethodName := ⟨RX10, "in", "(III)Z"⟩
abbrev cX10_isSlot : ByteArray := prog_12_method_4_code
def yX10_isSlot : MethodName := ⟨RX10, "isSlot", "(I)Z"⟩
abbrev cX10_cut : ByteArray := prog_12_method_5_code
def yX10_cut : MethodName := ⟨RX10, "cut", "(IJ)J"⟩
abbrev cX10_row : ByteArray := prog_12_method_6_code
def yX10_row : MethodName := ⟨RX10, "row", "(III)I"⟩
abbrev cX10_tear : ByteArray := prog_12_method_7_code
def yX10_tear : MethodName := ⟨RX10, "tear", "(I)Z"⟩
abbrev cX10_write : ByteArray := prog_12_method_8_code
def yX10_write : MethodName := ⟨RX10, "write", "(IIJ)I"⟩
abbrev cX10_paste : ByteArray := prog_12_method_9_code
def yX10_paste : MethodName := ⟨RX10, "paste", "(IIIII)I"⟩
abbrev cX10_terms : ByteArray := prog_12_method_10_code
def yX10_terms : MethodName := ⟨RX10, "terms", "(IIIII)I"⟩
abbrev cX10_program : ByteArray := prog_12_method_11_code
def yX10_program : MethodName := ⟨RX10, "program", "(IIII)I"⟩
abbrev cX10_clear : ByteArray := prog_12_method_12_code
def yX10_clear : MethodName := ⟨RX10, "clear", "()I"⟩
abbrev cX10_isProgram : ByteArray := prog_12_method_13_code
def yX10_isProgram : MethodName := ⟨RX10, "isProgram", "(I)Z"⟩
abbrev cX10_holds : ByteArray := prog_12_method_14_code
def yX10_holds : MethodName := ⟨RX10, "holds", "(II)I"⟩
abbrev cX10_cost : ByteArray := prog_12_method_15_code
def yX10_cost : MethodName := ⟨RX10, "cost", "(III)I"⟩
abbrev cX10_alone : ByteArray := prog_12_method_16_code
def yX10_alone : MethodName := ⟨RX10, "alone", "(II)I"⟩
abbrev cX10_time : ByteArray := prog_12_method_17_code
def yX10_time : MethodName := ⟨RX10, "time", "(II)I"⟩
abbrev cX10_up : ByteArray := prog_12_method_18_code
def yX10_up : MethodName := ⟨RX10, "up", "(I)I"⟩
abbrev cX10_needOf : ByteArray := prog_12_method_19_code
def yX10_needOf : MethodName := ⟨RX10, "needOf", "(I)I"⟩
abbrev cX10_need : ByteArray := prog_12_method_20_code
def yX10_need : MethodName := ⟨RX10, "need", "(I)I"⟩
abbrev cX10_falls : ByteArray := prog_12_method_21_code
def yX10_falls : MethodName := ⟨RX10, "falls", "(I)I"⟩
abbrev cX10_areNeeds : ByteArray := prog_12_method_22_code
def yX10_areNeeds : MethodName := ⟨RX10, "areNeeds", "()Z"⟩
abbrev cX10_dealt : ByteArray := prog_12_method_23_code
def yX10_dealt : MethodName := ⟨RX10, "dealt", "()I"⟩
abbrev cX10_sum : ByteArray := prog_12_method_24_code
def yX10_sum : MethodName := ⟨RX10, "sum", "()I"⟩
abbrev cX10_deal : ByteArray := prog_12_method_25_code
def yX10_deal : MethodName := ⟨RX10, "deal", "()I"⟩
abbrev cX10_best : ByteArray := prog_12_method_26_code
def yX10_best : MethodName := ⟨RX10, "best", "()I"⟩
abbrev cX10_share : ByteArray := prog_12_method_27_code
def yX10_share : MethodName := ⟨RX10, "share", "(I)I"⟩
abbrev cX10_begin : ByteArray := prog_12_method_28_code
def yX10_begin : MethodName := ⟨RX10, "begin", "()Z"⟩
abbrev cX10_stop : ByteArray := prog_12_method_29_code
def yX10_stop : MethodName := ⟨RX10, "stop", "()Z"⟩
abbrev cX10_tells : ByteArray := prog_12_method_30_code
def yX10_tells : MethodName := ⟨RX10, "tells", "(III)V"⟩
abbrev cX10_isThere : ByteArray := prog_12_method_31_code
def yX10_isThere : MethodName := ⟨RX10, "isThere", "(I)Z"⟩
abbrev cX10_isUp : ByteArray := prog_12_method_32_code
def yX10_isUp : MethodName := ⟨RX10, "isUp", "(I)Z"⟩
abbrev cX10_collects : ByteArray := prog_12_method_33_code
def yX10_collects : MethodName := ⟨RX10, "collects", "(I)I"⟩
abbrev cX10_spare : ByteArray := prog_12_method_34_code
def yX10_spare : MethodName := ⟨RX10, "spare", "(I)I"⟩
abbrev cX10_gives : ByteArray := prog_12_method_35_code
def yX10_gives : MethodName := ⟨RX10, "gives", "(II)V"⟩
abbrev cX10_isOver : ByteArray := prog_12_method_36_code
def yX10_isOver : MethodName := ⟨RX10, "isOver", "(II)V"⟩
abbrev cX10_passes : ByteArray := prog_12_method_37_code
def yX10_passes : MethodName := ⟨RX10, "passes", "(I)V"⟩
abbrev cX10_makes : ByteArray := prog_12_method_38_code
def yX10_makes : MethodName := ⟨RX10, "makes", "(II)V"⟩
abbrev cX10_asks : ByteArray := prog_12_method_39_code
def yX10_asks : MethodName := ⟨RX10, "asks", "(II)Z"⟩
abbrev cX10_acts : ByteArray := prog_12_method_40_code
def yX10_acts : MethodName := ⟨RX10, "acts", "(I)V"⟩
abbrev cX10_ticks : ByteArray := prog_12_method_41_code
def yX10_ticks : MethodName := ⟨RX10, "ticks", "()V"⟩
abbrev cX10_redeals : ByteArray := prog_12_method_42_code
def yX10_redeals : MethodName := ⟨RX10, "redeals", "()V"⟩
abbrev cX10_s : ByteArray := prog_12_method_43_code
def yX10_s : MethodName := ⟨RX10, "s", "(I)I"⟩
abbrev cX10_swung : ByteArray := prog_12_method_44_code
def yX10_swung : MethodName := ⟨RX10, "swung", "()Z"⟩
abbrev cX10_run : ByteArray := prog_12_method_45_code
def yX10_run : MethodName := ⟨RX10, "run", "(I)I"⟩
abbrev cX10_isAny : ByteArray := prog_12_method_46_code
def yX10_isAny : MethodName := ⟨RX10, "isAny", "()Z"⟩
abbrev cX10_of : ByteArray := prog_12_method_47_code
def yX10_of : MethodName := ⟨RX10, "of", "(II)I"⟩
abbrev cX10_count : ByteArray := prog_12_method_48_code
def yX10_count : MethodName := ⟨RX10, "count", "(I)I"⟩
abbrev cX10_log : ByteArray := prog_12_method_49_code
def yX10_log : MethodName := ⟨RX10, "log", "(II)I"⟩
def RJ9 : String := "java/lang/Math"
def TJ9 : u_T := fun k => match k with
  | _ => ("", "", "", false)
def tyJ9 : Nat → FieldType := fun k => match k with
  | _ => .int
abbrev wsJ90 : List Cond := u_ws RJ9 TJ9 0
theorem nmJ9 : ∀ a, a < 0 → ∀ b, b < 0 → a ≠ b → (TJ9 a).2.1 ≠ (TJ9 b).2.1 := by decide +kernel
theorem tyJ9_ok : ∀ k, k < 0 → parseFieldDescriptor (TJ9 k).2.2.1 = some (tyJ9 k) := by decide +kernel
abbrev cJ9_max_7cf53 : ByteArray := prog_13_method_65_code
def yJ9_max_7cf53 : MethodName := ⟨RJ9, "max", "(II)I"⟩
abbrev cJ9_min_7cf53 : ByteArray := prog_13_method_69_code
def yJ9_min_7cf53 : MethodName := ⟨RJ9, "min", "(II)I"⟩
abbrev cJ9_min_f86c9 : ByteArray := prog_13_method_70_code
def yJ9_min_f86c9 : MethodName := ⟨RJ9, "min", "(JJ)J"⟩
def RJ10 : String := "java/lang/System"
def TJ10 : u_T := fun k => match k with
  | _ => ("", "", "", false)
def tyJ10 : Nat → FieldType := fun k => match k with
  | _ => .int
abbrev wsJ100 : List Cond := u_ws RJ10 TJ10 0
theorem nmJ10 : ∀ a, a < 0 → ∀ b, b < 0 → a ≠ b → (TJ10 a).2.1 ≠ (TJ10 b).2.1 := by decide +kernel
theorem tyJ10_ok : ∀ k, k < 0 → parseFieldDescriptor (TJ10 k).2.2.1 = some (tyJ10 k) := by decide +kernel
def RL : String := "RoomDealerLaw"
abbrev cL_law : ByteArray := code
def yL_law : MethodName := ⟨RL, "law", "([I)Z"⟩
abbrev vwCl : List vw_C := [(RX0, TX0, 6), (RX1, TX1, 7), (RX2, TX2, 17), (RX3, TX3, 3), (RX4, TX4, 5), (RX5, TX5, 5), (RX6, TX6, 3), (RX7, TX7, 7), (RX8, TX8, 7), (RX9, TX9, 6), (RX10, TX10, 46)]
end
section
theorem dJ9_max_7cf53_0 : decode cJ9_max_7cf53 0 = .ok (.iload_n 0, 1) := by decide +kernel
theorem dJ9_max_7cf53_1 : decode cJ9_max_7cf53 1 = .ok (.iload_n 1, 1) := by decide +kernel
theorem dJ9_max_7cf53_2 : decode cJ9_max_7cf53 2 = .ok (.if_icmp .lt 7, 3) := by decide +kernel
theorem dJ9_max_7cf53_5 : decode cJ9_max_7cf53 5 = .ok (.iload_n 0, 1) := by decide +kernel
theorem dJ9_max_7cf53_6 : decode cJ9_max_7cf53 6 = .ok (.goto 4, 3) := by decide +kernel
theorem dJ9_max_7cf53_9 : decode cJ9_max_7cf53 9 = .ok (.iload_n 1, 1) := by decide +kernel
theorem dJ9_max_7cf53_10 : decode cJ9_max_7cf53 10 = .ok (.ireturn, 1) := by decide +kernel
theorem dJ9_min_7cf53_0 : decode cJ9_min_7cf53 0 = .ok (.iload_n 0, 1) := by decide +kernel
theorem dJ9_min_7cf53_1 : decode cJ9_min_7cf53 1 = .ok (.iload_n 1, 1) := by decide +kernel
theorem dJ9_min_7cf53_2 : decode cJ9_min_7cf53 2 = .ok (.if_icmp .gt 7, 3) := by decide +kernel
theorem dJ9_min_7cf53_5 : decode cJ9_min_7cf53 5 = .ok (.iload_n 0, 1) := by decide +kernel
theorem dJ9_min_7cf53_6 : decode cJ9_min_7cf53 6 = .ok (.goto 4, 3) := by decide +kernel
theorem dJ9_min_7cf53_9 : decode cJ9_min_7cf53 9 = .ok (.iload_n 1, 1) := by decide +kernel
theorem dJ9_min_7cf53_10 : decode cJ9_min_7cf53 10 = .ok (.ireturn, 1) := by decide +kernel
theorem dJ9_min_f86c9_0 : decode cJ9_min_f86c9 0 = .ok (.lload_n 0, 1) := by decide +kernel
theorem dJ9_min_f86c9_1 : decode cJ9_min_f86c9 1 = .ok (.lload_n 2, 1) := by decide +kernel
theorem dJ9_min_f86c9_2 : decode cJ9_min_f86c9 2 = .ok (.lcmp, 1) := by decide +kernel
theorem dJ9_min_f86c9_3 : decode cJ9_min_f86c9 3 = .ok (.ifCond .gt 7, 3) := by decide +kernel
theorem dJ9_min_f86c9_6 : decode cJ9_min_f86c9 6 = .ok (.lload_n 0, 1) := by decide +kernel
theorem dJ9_min_f86c9_7 : decode cJ9_min_f86c9 7 = .ok (.goto 4, 3) := by decide +kernel
theorem dJ9_min_f86c9_10 : decode cJ9_min_f86c9 10 = .ok (.lload_n 2, 1) := by decide +kernel
theorem dJ9_min_f86c9_11 : decode cJ9_min_f86c9 11 = .ok (.lreturn, 1) := by decide +kernel
end
section
theorem dL_law_0 : decode cL_law 0 = .ok (.new 7, 3) := by decide +kernel
theorem dL_law_3 : decode cL_law 3 = .ok (.dup, 1) := by decide +kernel
theorem dL_law_4 : decode cL_law 4 = .ok (.invokespecial 9, 3) := by decide +kernel
theorem dL_law_7 : decode cL_law 7 = .ok (.astore_n 1, 1) := by decide +kernel
theorem dL_law_8 : decode cL_law 8 = .ok (.new 10, 3) := by decide +kernel
theorem dL_law_11 : decode cL_law 11 = .ok (.dup, 1) := by decide +kernel
theorem dL_law_12 : decode cL_law 12 = .ok (.invokespecial 12, 3) := by decide +kernel
theorem dL_law_15 : decode cL_law 15 = .ok (.astore_n 2, 1) := by decide +kernel
theorem dL_law_16 : decode cL_law 16 = .ok (.iconst 0, 1) := by decide +kernel
theorem dL_law_17 : decode cL_law 17 = .ok (.istore_n 3, 1) := by decide +kernel
theorem dL_law_18 : decode cL_law 18 = .ok (.iload_n 3, 1) := by decide +kernel
theorem dL_law_19 : decode cL_law 19 = .ok (.aload_n 0, 1) := by decide +kernel
theorem dL_law_20 : decode cL_law 20 = .ok (.arraylength, 1) := by decide +kernel
theorem dL_law_21 : decode cL_law 21 = .ok (.bipush 6, 2) := by decide +kernel
theorem dL_law_23 : decode cL_law 23 = .ok (.isub, 1) := by decide +kernel
theorem dL_law_24 : decode cL_law 24 = .ok (.if_icmp .gt 703, 3) := by decide +kernel
theorem dL_law_27 : decode cL_law 27 = .ok (.aload_n 0, 1) := by decide +kernel
theorem dL_law_28 : decode cL_law 28 = .ok (.iload_n 3, 1) := by decide +kernel
theorem dL_law_29 : decode cL_law 29 = .ok (.iaload, 1) := by decide +kernel
theorem dL_law_30 : decode cL_law 30 = .ok (.bipush 31, 2) := by decide +kernel
theorem dL_law_32 : decode cL_law 32 = .ok (.iand, 1) := by decide +kernel
theorem dL_law_33 : decode cL_law 33 = .ok (.tableswitch 688 0 18 #[91, 134, 157, 230, 293, 356, 409, 422, 455, 478, 501, 514, 527, 550, 563, 576, 599, 632, 655], 91) := by decide +kernel
theorem dL_law_124 : decode cL_law 124 = .ok (.aload_n 1, 1) := by decide +kernel
theorem dL_law_125 : decode cL_law 125 = .ok (.aload_n 0, 1) := by decide +kernel
theorem dL_law_126 : decode cL_law 126 = .ok (.iload_n 3, 1) := by decide +kernel
theorem dL_law_127 : decode cL_law 127 = .ok (.iconst 1, 1) := by decide +kernel
theorem dL_law_128 : decode cL_law 128 = .ok (.iadd, 1) := by decide +kernel
theorem dL_law_129 : decode cL_law 129 = .ok (.iaload, 1) := by decide +kernel
theorem dL_law_130 : decode cL_law 130 = .ok (.aload_n 0, 1) := by decide +kernel
theorem dL_law_131 : decode cL_law 131 = .ok (.iload_n 3, 1) := by decide +kernel
theorem dL_law_132 : decode cL_law 132 = .ok (.iconst 2, 1) := by decide +kernel
theorem dL_law_133 : decode cL_law 133 = .ok (.iadd, 1) := by decide +kernel
theorem dL_law_134 : decode cL_law 134 = .ok (.iaload, 1) := by decide +kernel
theorem dL_law_135 : decode cL_law 135 = .ok (.aload_n 0, 1) := by decide +kernel
theorem dL_law_136 : decode cL_law 136 = .ok (.iload_n 3, 1) := by decide +kernel
theorem dL_law_137 : decode cL_law 137 = .ok (.iconst 3, 1) := by decide +kernel
theorem dL_law_138 : decode cL_law 138 = .ok (.iadd, 1) := by decide +kernel
theorem dL_law_139 : decode cL_law 139 = .ok (.iaload, 1) := by decide +kernel
theorem dL_law_140 : decode cL_law 140 = .ok (.invokevirtual 13, 3) := by decide +kernel
theorem dL_law_143 : decode cL_law 143 = .ok (.aload_n 2, 1) := by decide +kernel
theorem dL_law_144 : decode cL_law 144 = .ok (.aload_n 0, 1) := by decide +kernel
theorem dL_law_145 : decode cL_law 145 = .ok (.iload_n 3, 1) := by decide +kernel
theorem dL_law_146 : decode cL_law 146 = .ok (.iconst 1, 1) := by decide +kernel
theorem dL_law_147 : decode cL_law 147 = .ok (.iadd, 1) := by decide +kernel
theorem dL_law_148 : decode cL_law 148 = .ok (.iaload, 1) := by decide +kernel
theorem dL_law_149 : decode cL_law 149 = .ok (.aload_n 0, 1) := by decide +kernel
theorem dL_law_150 : decode cL_law 150 = .ok (.iload_n 3, 1) := by decide +kernel
theorem dL_law_151 : decode cL_law 151 = .ok (.iconst 2, 1) := by decide +kernel
theorem dL_law_152 : decode cL_law 152 = .ok (.iadd, 1) := by decide +kernel
theorem dL_law_153 : decode cL_law 153 = .ok (.iaload, 1) := by decide +kernel
theorem dL_law_154 : decode cL_law 154 = .ok (.aload_n 0, 1) := by decide +kernel
theorem dL_law_155 : decode cL_law 155 = .ok (.iload_n 3, 1) := by decide +kernel
theorem dL_law_156 : decode cL_law 156 = .ok (.iconst 3, 1) := by decide +kernel
theorem dL_law_157 : decode cL_law 157 = .ok (.iadd, 1) := by decide +kernel
theorem dL_law_158 : decode cL_law 158 = .ok (.iaload, 1) := by decide +kernel
theorem dL_law_159 : decode cL_law 159 = .ok (.invokevirtual 17, 3) := by decide +kernel
theorem dL_law_162 : decode cL_law 162 = .ok (.if_icmp .eq 559, 3) := by decide +kernel
theorem dL_law_165 : decode cL_law 165 = .ok (.iconst 0, 1) := by decide +kernel
theorem dL_law_166 : decode cL_law 166 = .ok (.ireturn, 1) := by decide +kernel
theorem dL_law_167 : decode cL_law 167 = .ok (.aload_n 1, 1) := by decide +kernel
theorem dL_law_168 : decode cL_law 168 = .ok (.aload_n 0, 1) := by decide +kernel
theorem dL_law_169 : decode cL_law 169 = .ok (.iload_n 3, 1) := by decide +kernel
theorem dL_law_170 : decode cL_law 170 = .ok (.iconst 1, 1) := by decide +kernel
theorem dL_law_171 : decode cL_law 171 = .ok (.iadd, 1) := by decide +kernel
theorem dL_law_172 : decode cL_law 172 = .ok (.iaload, 1) := by decide +kernel
theorem dL_law_173 : decode cL_law 173 = .ok (.invokevirtual 18, 3) := by decide +kernel
theorem dL_law_176 : decode cL_law 176 = .ok (.aload_n 2, 1) := by decide +kernel
theorem dL_law_177 : decode cL_law 177 = .ok (.aload_n 0, 1) := by decide +kernel
theorem dL_law_178 : decode cL_law 178 = .ok (.iload_n 3, 1) := by decide +kernel
theorem dL_law_179 : decode cL_law 179 = .ok (.iconst 1, 1) := by decide +kernel
theorem dL_law_180 : decode cL_law 180 = .ok (.iadd, 1) := by decide +kernel
theorem dL_law_181 : decode cL_law 181 = .ok (.iaload, 1) := by decide +kernel
theorem dL_law_182 : decode cL_law 182 = .ok (.invokevirtual 22, 3) := by decide +kernel
theorem dL_law_185 : decode cL_law 185 = .ok (.if_icmp .eq 536, 3) := by decide +kernel
theorem dL_law_188 : decode cL_law 188 = .ok (.iconst 0, 1) := by decide +kernel
theorem dL_law_189 : decode cL_law 189 = .ok (.ireturn, 1) := by decide +kernel
theorem dL_law_190 : decode cL_law 190 = .ok (.aload_n 1, 1) := by decide +kernel
theorem dL_law_191 : decode cL_law 191 = .ok (.aload_n 0, 1) := by decide +kernel
theorem dL_law_192 : decode cL_law 192 = .ok (.iload_n 3, 1) := by decide +kernel
theorem dL_law_193 : decode cL_law 193 = .ok (.iconst 1, 1) := by decide +kernel
theorem dL_law_194 : decode cL_law 194 = .ok (.iadd, 1) := by decide +kernel
theorem dL_law_195 : decode cL_law 195 = .ok (.iaload, 1) := by decide +kernel
theorem dL_law_196 : decode cL_law 196 = .ok (.aload_n 0, 1) := by decide +kernel
theorem dL_law_197 : decode cL_law 197 = .ok (.iload_n 3, 1) := by decide +kernel
theorem dL_law_198 : decode cL_law 198 = .ok (.iconst 2, 1) := by decide +kernel
theorem dL_law_199 : decode cL_law 199 = .ok (.iadd, 1) := by decide +kernel
theorem dL_law_200 : decode cL_law 200 = .ok (.iaload, 1) := by decide +kernel
theorem dL_law_201 : decode cL_law 201 = .ok (.aload_n 0, 1) := by decide +kernel
theorem dL_law_202 : decode cL_law 202 = .ok (.iload_n 3, 1) := by decide +kernel
theorem dL_law_203 : decode cL_law 203 = .ok (.iconst 3, 1) := by decide +kernel
theorem dL_law_204 : decode cL_law 204 = .ok (.iadd, 1) := by decide +kernel
theorem dL_law_205 : decode cL_law 205 = .ok (.iaload, 1) := by decide +kernel
theorem dL_law_206 : decode cL_law 206 = .ok (.i2l, 1) := by decide +kernel
theorem dL_law_207 : decode cL_law 207 = .ok (.bipush 32, 2) := by decide +kernel
theorem dL_law_209 : decode cL_law 209 = .ok (.lshl, 1) := by decide +kernel
theorem dL_law_210 : decode cL_law 210 = .ok (.aload_n 0, 1) := by decide +kernel
theorem dL_law_211 : decode cL_law 211 = .ok (.iload_n 3, 1) := by decide +kernel
theorem dL_law_212 : decode cL_law 212 = .ok (.iconst 4, 1) := by decide +kernel
theorem dL_law_213 : decode cL_law 213 = .ok (.iadd, 1) := by decide +kernel
theorem dL_law_214 : decode cL_law 214 = .ok (.iaload, 1) := by decide +kernel
theorem dL_law_215 : decode cL_law 215 = .ok (.i2l, 1) := by decide +kernel
theorem dL_law_216 : decode cL_law 216 = .ok (.ldc2_w 23, 3) := by decide +kernel
theorem dL_law_219 : decode cL_law 219 = .ok (.land, 1) := by decide +kernel
theorem dL_law_220 : decode cL_law 220 = .ok (.lor, 1) := by decide +kernel
theorem dL_law_221 : decode cL_law 221 = .ok (.invokevirtual 25, 3) := by decide +kernel
theorem dL_law_224 : decode cL_law 224 = .ok (.aload_n 2, 1) := by decide +kernel
theorem dL_law_225 : decode cL_law 225 = .ok (.aload_n 0, 1) := by decide +kernel
theorem dL_law_226 : decode cL_law 226 = .ok (.iload_n 3, 1) := by decide +kernel
theorem dL_law_227 : decode cL_law 227 = .ok (.iconst 1, 1) := by decide +kernel
theorem dL_law_228 : decode cL_law 228 = .ok (.iadd, 1) := by decide +kernel
theorem dL_law_229 : decode cL_law 229 = .ok (.iaload, 1) := by decide +kernel
theorem dL_law_230 : decode cL_law 230 = .ok (.aload_n 0, 1) := by decide +kernel
theorem dL_law_231 : decode cL_law 231 = .ok (.iload_n 3, 1) := by decide +kernel
theorem dL_law_232 : decode cL_law 232 = .ok (.iconst 2, 1) := by decide +kernel
theorem dL_law_233 : decode cL_law 233 = .ok (.iadd, 1) := by decide +kernel
theorem dL_law_234 : decode cL_law 234 = .ok (.iaload, 1) := by decide +kernel
theorem dL_law_235 : decode cL_law 235 = .ok (.aload_n 0, 1) := by decide +kernel
theorem dL_law_236 : decode cL_law 236 = .ok (.iload_n 3, 1) := by decide +kernel
theorem dL_law_237 : decode cL_law 237 = .ok (.iconst 3, 1) := by decide +kernel
theorem dL_law_238 : decode cL_law 238 = .ok (.iadd, 1) := by decide +kernel
theorem dL_law_239 : decode cL_law 239 = .ok (.iaload, 1) := by decide +kernel
theorem dL_law_240 : decode cL_law 240 = .ok (.i2l, 1) := by decide +kernel
theorem dL_law_241 : decode cL_law 241 = .ok (.bipush 32, 2) := by decide +kernel
theorem dL_law_243 : decode cL_law 243 = .ok (.lshl, 1) := by decide +kernel
theorem dL_law_244 : decode cL_law 244 = .ok (.aload_n 0, 1) := by decide +kernel
theorem dL_law_245 : decode cL_law 245 = .ok (.iload_n 3, 1) := by decide +kernel
theorem dL_law_246 : decode cL_law 246 = .ok (.iconst 4, 1) := by decide +kernel
theorem dL_law_247 : decode cL_law 247 = .ok (.iadd, 1) := by decide +kernel
theorem dL_law_248 : decode cL_law 248 = .ok (.iaload, 1) := by decide +kernel
theorem dL_law_249 : decode cL_law 249 = .ok (.i2l, 1) := by decide +kernel
theorem dL_law_250 : decode cL_law 250 = .ok (.ldc2_w 23, 3) := by decide +kernel
theorem dL_law_253 : decode cL_law 253 = .ok (.land, 1) := by decide +kernel
theorem dL_law_254 : decode cL_law 254 = .ok (.lor, 1) := by decide +kernel
theorem dL_law_255 : decode cL_law 255 = .ok (.invokevirtual 29, 3) := by decide +kernel
theorem dL_law_258 : decode cL_law 258 = .ok (.if_icmp .eq 463, 3) := by decide +kernel
theorem dL_law_261 : decode cL_law 261 = .ok (.iconst 0, 1) := by decide +kernel
theorem dL_law_262 : decode cL_law 262 = .ok (.ireturn, 1) := by decide +kernel
theorem dL_law_263 : decode cL_law 263 = .ok (.aload_n 1, 1) := by decide +kernel
theorem dL_law_264 : decode cL_law 264 = .ok (.aload_n 0, 1) := by decide +kernel
theorem dL_law_265 : decode cL_law 265 = .ok (.iload_n 3, 1) := by decide +kernel
theorem dL_law_266 : decode cL_law 266 = .ok (.iconst 1, 1) := by decide +kernel
theorem dL_law_267 : decode cL_law 267 = .ok (.iadd, 1) := by decide +kernel
theorem dL_law_268 : decode cL_law 268 = .ok (.iaload, 1) := by decide +kernel
theorem dL_law_269 : decode cL_law 269 = .ok (.aload_n 0, 1) := by decide +kernel
theorem dL_law_270 : decode cL_law 270 = .ok (.iload_n 3, 1) := by decide +kernel
theorem dL_law_271 : decode cL_law 271 = .ok (.iconst 2, 1) := by decide +kernel
theorem dL_law_272 : decode cL_law 272 = .ok (.iadd, 1) := by decide +kernel
theorem dL_law_273 : decode cL_law 273 = .ok (.iaload, 1) := by decide +kernel
theorem dL_law_274 : decode cL_law 274 = .ok (.aload_n 0, 1) := by decide +kernel
theorem dL_law_275 : decode cL_law 275 = .ok (.iload_n 3, 1) := by decide +kernel
theorem dL_law_276 : decode cL_law 276 = .ok (.iconst 3, 1) := by decide +kernel
theorem dL_law_277 : decode cL_law 277 = .ok (.iadd, 1) := by decide +kernel
theorem dL_law_278 : decode cL_law 278 = .ok (.iaload, 1) := by decide +kernel
theorem dL_law_279 : decode cL_law 279 = .ok (.aload_n 0, 1) := by decide +kernel
theorem dL_law_280 : decode cL_law 280 = .ok (.iload_n 3, 1) := by decide +kernel
theorem dL_law_281 : decode cL_law 281 = .ok (.iconst 4, 1) := by decide +kernel
theorem dL_law_282 : decode cL_law 282 = .ok (.iadd, 1) := by decide +kernel
theorem dL_law_283 : decode cL_law 283 = .ok (.iaload, 1) := by decide +kernel
theorem dL_law_284 : decode cL_law 284 = .ok (.aload_n 0, 1) := by decide +kernel
theorem dL_law_285 : decode cL_law 285 = .ok (.iload_n 3, 1) := by decide +kernel
theorem dL_law_286 : decode cL_law 286 = .ok (.iconst 5, 1) := by decide +kernel
theorem dL_law_287 : decode cL_law 287 = .ok (.iadd, 1) := by decide +kernel
theorem dL_law_288 : decode cL_law 288 = .ok (.iaload, 1) := by decide +kernel
theorem dL_law_289 : decode cL_law 289 = .ok (.invokevirtual 30, 3) := by decide +kernel
theorem dL_law_292 : decode cL_law 292 = .ok (.aload_n 2, 1) := by decide +kernel
theorem dL_law_293 : decode cL_law 293 = .ok (.aload_n 0, 1) := by decide +kernel
theorem dL_law_294 : decode cL_law 294 = .ok (.iload_n 3, 1) := by decide +kernel
theorem dL_law_295 : decode cL_law 295 = .ok (.iconst 1, 1) := by decide +kernel
theorem dL_law_296 : decode cL_law 296 = .ok (.iadd, 1) := by decide +kernel
theorem dL_law_297 : decode cL_law 297 = .ok (.iaload, 1) := by decide +kernel
theorem dL_law_298 : decode cL_law 298 = .ok (.aload_n 0, 1) := by decide +kernel
theorem dL_law_299 : decode cL_law 299 = .ok (.iload_n 3, 1) := by decide +kernel
theorem dL_law_300 : decode cL_law 300 = .ok (.iconst 2, 1) := by decide +kernel
theorem dL_law_301 : decode cL_law 301 = .ok (.iadd, 1) := by decide +kernel
theorem dL_law_302 : decode cL_law 302 = .ok (.iaload, 1) := by decide +kernel
theorem dL_law_303 : decode cL_law 303 = .ok (.aload_n 0, 1) := by decide +kernel
theorem dL_law_304 : decode cL_law 304 = .ok (.iload_n 3, 1) := by decide +kernel
theorem dL_law_305 : decode cL_law 305 = .ok (.iconst 3, 1) := by decide +kernel
theorem dL_law_306 : decode cL_law 306 = .ok (.iadd, 1) := by decide +kernel
theorem dL_law_307 : decode cL_law 307 = .ok (.iaload, 1) := by decide +kernel
theorem dL_law_308 : decode cL_law 308 = .ok (.aload_n 0, 1) := by decide +kernel
theorem dL_law_309 : decode cL_law 309 = .ok (.iload_n 3, 1) := by decide +kernel
theorem dL_law_310 : decode cL_law 310 = .ok (.iconst 4, 1) := by decide +kernel
theorem dL_law_311 : decode cL_law 311 = .ok (.iadd, 1) := by decide +kernel
theorem dL_law_312 : decode cL_law 312 = .ok (.iaload, 1) := by decide +kernel
theorem dL_law_313 : decode cL_law 313 = .ok (.aload_n 0, 1) := by decide +kernel
theorem dL_law_314 : decode cL_law 314 = .ok (.iload_n 3, 1) := by decide +kernel
theorem dL_law_315 : decode cL_law 315 = .ok (.iconst 5, 1) := by decide +kernel
theorem dL_law_316 : decode cL_law 316 = .ok (.iadd, 1) := by decide +kernel
theorem dL_law_317 : decode cL_law 317 = .ok (.iaload, 1) := by decide +kernel
theorem dL_law_318 : decode cL_law 318 = .ok (.invokevirtual 34, 3) := by decide +kernel
theorem dL_law_321 : decode cL_law 321 = .ok (.if_icmp .eq 400, 3) := by decide +kernel
theorem dL_law_324 : decode cL_law 324 = .ok (.iconst 0, 1) := by decide +kernel
theorem dL_law_325 : decode cL_law 325 = .ok (.ireturn, 1) := by decide +kernel
theorem dL_law_326 : decode cL_law 326 = .ok (.aload_n 1, 1) := by decide +kernel
theorem dL_law_327 : decode cL_law 327 = .ok (.aload_n 0, 1) := by decide +kernel
theorem dL_law_328 : decode cL_law 328 = .ok (.iload_n 3, 1) := by decide +kernel
theorem dL_law_329 : decode cL_law 329 = .ok (.iconst 1, 1) := by decide +kernel
theorem dL_law_330 : decode cL_law 330 = .ok (.iadd, 1) := by decide +kernel
theorem dL_law_331 : decode cL_law 331 = .ok (.iaload, 1) := by decide +kernel
theorem dL_law_332 : decode cL_law 332 = .ok (.aload_n 0, 1) := by decide +kernel
theorem dL_law_333 : decode cL_law 333 = .ok (.iload_n 3, 1) := by decide +kernel
theorem dL_law_334 : decode cL_law 334 = .ok (.iconst 2, 1) := by decide +kernel
theorem dL_law_335 : decode cL_law 335 = .ok (.iadd, 1) := by decide +kernel
theorem dL_law_336 : decode cL_law 336 = .ok (.iaload, 1) := by decide +kernel
theorem dL_law_337 : decode cL_law 337 = .ok (.aload_n 0, 1) := by decide +kernel
theorem dL_law_338 : decode cL_law 338 = .ok (.iload_n 3, 1) := by decide +kernel
theorem dL_law_339 : decode cL_law 339 = .ok (.iconst 3, 1) := by decide +kernel
theorem dL_law_340 : decode cL_law 340 = .ok (.iadd, 1) := by decide +kernel
theorem dL_law_341 : decode cL_law 341 = .ok (.iaload, 1) := by decide +kernel
theorem dL_law_342 : decode cL_law 342 = .ok (.aload_n 0, 1) := by decide +kernel
theorem dL_law_343 : decode cL_law 343 = .ok (.iload_n 3, 1) := by decide +kernel
theorem dL_law_344 : decode cL_law 344 = .ok (.iconst 4, 1) := by decide +kernel
theorem dL_law_345 : decode cL_law 345 = .ok (.iadd, 1) := by decide +kernel
theorem dL_law_346 : decode cL_law 346 = .ok (.iaload, 1) := by decide +kernel
theorem dL_law_347 : decode cL_law 347 = .ok (.aload_n 0, 1) := by decide +kernel
theorem dL_law_348 : decode cL_law 348 = .ok (.iload_n 3, 1) := by decide +kernel
theorem dL_law_349 : decode cL_law 349 = .ok (.iconst 5, 1) := by decide +kernel
theorem dL_law_350 : decode cL_law 350 = .ok (.iadd, 1) := by decide +kernel
theorem dL_law_351 : decode cL_law 351 = .ok (.iaload, 1) := by decide +kernel
theorem dL_law_352 : decode cL_law 352 = .ok (.invokevirtual 35, 3) := by decide +kernel
theorem dL_law_355 : decode cL_law 355 = .ok (.aload_n 2, 1) := by decide +kernel
theorem dL_law_356 : decode cL_law 356 = .ok (.aload_n 0, 1) := by decide +kernel
theorem dL_law_357 : decode cL_law 357 = .ok (.iload_n 3, 1) := by decide +kernel
theorem dL_law_358 : decode cL_law 358 = .ok (.iconst 1, 1) := by decide +kernel
theorem dL_law_359 : decode cL_law 359 = .ok (.iadd, 1) := by decide +kernel
theorem dL_law_360 : decode cL_law 360 = .ok (.iaload, 1) := by decide +kernel
theorem dL_law_361 : decode cL_law 361 = .ok (.aload_n 0, 1) := by decide +kernel
theorem dL_law_362 : decode cL_law 362 = .ok (.iload_n 3, 1) := by decide +kernel
theorem dL_law_363 : decode cL_law 363 = .ok (.iconst 2, 1) := by decide +kernel
theorem dL_law_364 : decode cL_law 364 = .ok (.iadd, 1) := by decide +kernel
theorem dL_law_365 : decode cL_law 365 = .ok (.iaload, 1) := by decide +kernel
theorem dL_law_366 : decode cL_law 366 = .ok (.aload_n 0, 1) := by decide +kernel
theorem dL_law_367 : decode cL_law 367 = .ok (.iload_n 3, 1) := by decide +kernel
theorem dL_law_368 : decode cL_law 368 = .ok (.iconst 3, 1) := by decide +kernel
theorem dL_law_369 : decode cL_law 369 = .ok (.iadd, 1) := by decide +kernel
theorem dL_law_370 : decode cL_law 370 = .ok (.iaload, 1) := by decide +kernel
theorem dL_law_371 : decode cL_law 371 = .ok (.aload_n 0, 1) := by decide +kernel
theorem dL_law_372 : decode cL_law 372 = .ok (.iload_n 3, 1) := by decide +kernel
theorem dL_law_373 : decode cL_law 373 = .ok (.iconst 4, 1) := by decide +kernel
theorem dL_law_374 : decode cL_law 374 = .ok (.iadd, 1) := by decide +kernel
theorem dL_law_375 : decode cL_law 375 = .ok (.iaload, 1) := by decide +kernel
theorem dL_law_376 : decode cL_law 376 = .ok (.aload_n 0, 1) := by decide +kernel
theorem dL_law_377 : decode cL_law 377 = .ok (.iload_n 3, 1) := by decide +kernel
theorem dL_law_378 : decode cL_law 378 = .ok (.iconst 5, 1) := by decide +kernel
theorem dL_law_379 : decode cL_law 379 = .ok (.iadd, 1) := by decide +kernel
theorem dL_law_380 : decode cL_law 380 = .ok (.iaload, 1) := by decide +kernel
theorem dL_law_381 : decode cL_law 381 = .ok (.invokevirtual 38, 3) := by decide +kernel
theorem dL_law_384 : decode cL_law 384 = .ok (.if_icmp .eq 337, 3) := by decide +kernel
theorem dL_law_387 : decode cL_law 387 = .ok (.iconst 0, 1) := by decide +kernel
theorem dL_law_388 : decode cL_law 388 = .ok (.ireturn, 1) := by decide +kernel
theorem dL_law_389 : decode cL_law 389 = .ok (.aload_n 1, 1) := by decide +kernel
theorem dL_law_390 : decode cL_law 390 = .ok (.aload_n 0, 1) := by decide +kernel
theorem dL_law_391 : decode cL_law 391 = .ok (.iload_n 3, 1) := by decide +kernel
theorem dL_law_392 : decode cL_law 392 = .ok (.iconst 1, 1) := by decide +kernel
theorem dL_law_393 : decode cL_law 393 = .ok (.iadd, 1) := by decide +kernel
theorem dL_law_394 : decode cL_law 394 = .ok (.iaload, 1) := by decide +kernel
theorem dL_law_395 : decode cL_law 395 = .ok (.aload_n 0, 1) := by decide +kernel
theorem dL_law_396 : decode cL_law 396 = .ok (.iload_n 3, 1) := by decide +kernel
theorem dL_law_397 : decode cL_law 397 = .ok (.iconst 2, 1) := by decide +kernel
theorem dL_law_398 : decode cL_law 398 = .ok (.iadd, 1) := by decide +kernel
theorem dL_law_399 : decode cL_law 399 = .ok (.iaload, 1) := by decide +kernel
theorem dL_law_400 : decode cL_law 400 = .ok (.aload_n 0, 1) := by decide +kernel
theorem dL_law_401 : decode cL_law 401 = .ok (.iload_n 3, 1) := by decide +kernel
theorem dL_law_402 : decode cL_law 402 = .ok (.iconst 3, 1) := by decide +kernel
theorem dL_law_403 : decode cL_law 403 = .ok (.iadd, 1) := by decide +kernel
theorem dL_law_404 : decode cL_law 404 = .ok (.iaload, 1) := by decide +kernel
theorem dL_law_405 : decode cL_law 405 = .ok (.aload_n 0, 1) := by decide +kernel
theorem dL_law_406 : decode cL_law 406 = .ok (.iload_n 3, 1) := by decide +kernel
theorem dL_law_407 : decode cL_law 407 = .ok (.iconst 4, 1) := by decide +kernel
theorem dL_law_408 : decode cL_law 408 = .ok (.iadd, 1) := by decide +kernel
theorem dL_law_409 : decode cL_law 409 = .ok (.iaload, 1) := by decide +kernel
theorem dL_law_410 : decode cL_law 410 = .ok (.invokevirtual 39, 3) := by decide +kernel
theorem dL_law_413 : decode cL_law 413 = .ok (.aload_n 2, 1) := by decide +kernel
theorem dL_law_414 : decode cL_law 414 = .ok (.aload_n 0, 1) := by decide +kernel
theorem dL_law_415 : decode cL_law 415 = .ok (.iload_n 3, 1) := by decide +kernel
theorem dL_law_416 : decode cL_law 416 = .ok (.iconst 1, 1) := by decide +kernel
theorem dL_law_417 : decode cL_law 417 = .ok (.iadd, 1) := by decide +kernel
theorem dL_law_418 : decode cL_law 418 = .ok (.iaload, 1) := by decide +kernel
theorem dL_law_419 : decode cL_law 419 = .ok (.aload_n 0, 1) := by decide +kernel
theorem dL_law_420 : decode cL_law 420 = .ok (.iload_n 3, 1) := by decide +kernel
theorem dL_law_421 : decode cL_law 421 = .ok (.iconst 2, 1) := by decide +kernel
theorem dL_law_422 : decode cL_law 422 = .ok (.iadd, 1) := by decide +kernel
theorem dL_law_423 : decode cL_law 423 = .ok (.iaload, 1) := by decide +kernel
theorem dL_law_424 : decode cL_law 424 = .ok (.aload_n 0, 1) := by decide +kernel
theorem dL_law_425 : decode cL_law 425 = .ok (.iload_n 3, 1) := by decide +kernel
theorem dL_law_426 : decode cL_law 426 = .ok (.iconst 3, 1) := by decide +kernel
theorem dL_law_427 : decode cL_law 427 = .ok (.iadd, 1) := by decide +kernel
theorem dL_law_428 : decode cL_law 428 = .ok (.iaload, 1) := by decide +kernel
theorem dL_law_429 : decode cL_law 429 = .ok (.aload_n 0, 1) := by decide +kernel
theorem dL_law_430 : decode cL_law 430 = .ok (.iload_n 3, 1) := by decide +kernel
theorem dL_law_431 : decode cL_law 431 = .ok (.iconst 4, 1) := by decide +kernel
theorem dL_law_432 : decode cL_law 432 = .ok (.iadd, 1) := by decide +kernel
theorem dL_law_433 : decode cL_law 433 = .ok (.iaload, 1) := by decide +kernel
theorem dL_law_434 : decode cL_law 434 = .ok (.invokevirtual 43, 3) := by decide +kernel
theorem dL_law_437 : decode cL_law 437 = .ok (.if_icmp .eq 284, 3) := by decide +kernel
theorem dL_law_440 : decode cL_law 440 = .ok (.iconst 0, 1) := by decide +kernel
theorem dL_law_441 : decode cL_law 441 = .ok (.ireturn, 1) := by decide +kernel
theorem dL_law_442 : decode cL_law 442 = .ok (.aload_n 1, 1) := by decide +kernel
theorem dL_law_443 : decode cL_law 443 = .ok (.invokevirtual 44, 3) := by decide +kernel
theorem dL_law_446 : decode cL_law 446 = .ok (.aload_n 2, 1) := by decide +kernel
theorem dL_law_447 : decode cL_law 447 = .ok (.invokevirtual 48, 3) := by decide +kernel
theorem dL_law_450 : decode cL_law 450 = .ok (.if_icmp .eq 271, 3) := by decide +kernel
theorem dL_law_453 : decode cL_law 453 = .ok (.iconst 0, 1) := by decide +kernel
theorem dL_law_454 : decode cL_law 454 = .ok (.ireturn, 1) := by decide +kernel
theorem dL_law_455 : decode cL_law 455 = .ok (.aload_n 1, 1) := by decide +kernel
theorem dL_law_456 : decode cL_law 456 = .ok (.aload_n 0, 1) := by decide +kernel
theorem dL_law_457 : decode cL_law 457 = .ok (.iload_n 3, 1) := by decide +kernel
theorem dL_law_458 : decode cL_law 458 = .ok (.iconst 1, 1) := by decide +kernel
theorem dL_law_459 : decode cL_law 459 = .ok (.iadd, 1) := by decide +kernel
theorem dL_law_460 : decode cL_law 460 = .ok (.iaload, 1) := by decide +kernel
theorem dL_law_461 : decode cL_law 461 = .ok (.aload_n 0, 1) := by decide +kernel
theorem dL_law_462 : decode cL_law 462 = .ok (.iload_n 3, 1) := by decide +kernel
theorem dL_law_463 : decode cL_law 463 = .ok (.iconst 2, 1) := by decide +kernel
theorem dL_law_464 : decode cL_law 464 = .ok (.iadd, 1) := by decide +kernel
theorem dL_law_465 : decode cL_law 465 = .ok (.iaload, 1) := by decide +kernel
theorem dL_law_466 : decode cL_law 466 = .ok (.invokevirtual 49, 3) := by decide +kernel
theorem dL_law_469 : decode cL_law 469 = .ok (.aload_n 2, 1) := by decide +kernel
theorem dL_law_470 : decode cL_law 470 = .ok (.aload_n 0, 1) := by decide +kernel
theorem dL_law_471 : decode cL_law 471 = .ok (.iload_n 3, 1) := by decide +kernel
theorem dL_law_472 : decode cL_law 472 = .ok (.iconst 1, 1) := by decide +kernel
theorem dL_law_473 : decode cL_law 473 = .ok (.iadd, 1) := by decide +kernel
theorem dL_law_474 : decode cL_law 474 = .ok (.iaload, 1) := by decide +kernel
theorem dL_law_475 : decode cL_law 475 = .ok (.aload_n 0, 1) := by decide +kernel
theorem dL_law_476 : decode cL_law 476 = .ok (.iload_n 3, 1) := by decide +kernel
theorem dL_law_477 : decode cL_law 477 = .ok (.iconst 2, 1) := by decide +kernel
theorem dL_law_478 : decode cL_law 478 = .ok (.iadd, 1) := by decide +kernel
theorem dL_law_479 : decode cL_law 479 = .ok (.iaload, 1) := by decide +kernel
theorem dL_law_480 : decode cL_law 480 = .ok (.invokevirtual 53, 3) := by decide +kernel
theorem dL_law_483 : decode cL_law 483 = .ok (.if_icmp .eq 238, 3) := by decide +kernel
theorem dL_law_486 : decode cL_law 486 = .ok (.iconst 0, 1) := by decide +kernel
theorem dL_law_487 : decode cL_law 487 = .ok (.ireturn, 1) := by decide +kernel
theorem dL_law_488 : decode cL_law 488 = .ok (.aload_n 1, 1) := by decide +kernel
theorem dL_law_489 : decode cL_law 489 = .ok (.aload_n 0, 1) := by decide +kernel
theorem dL_law_490 : decode cL_law 490 = .ok (.iload_n 3, 1) := by decide +kernel
theorem dL_law_491 : decode cL_law 491 = .ok (.iconst 1, 1) := by decide +kernel
theorem dL_law_492 : decode cL_law 492 = .ok (.iadd, 1) := by decide +kernel
theorem dL_law_493 : decode cL_law 493 = .ok (.iaload, 1) := by decide +kernel
theorem dL_law_494 : decode cL_law 494 = .ok (.invokevirtual 54, 3) := by decide +kernel
theorem dL_law_497 : decode cL_law 497 = .ok (.aload_n 2, 1) := by decide +kernel
theorem dL_law_498 : decode cL_law 498 = .ok (.aload_n 0, 1) := by decide +kernel
theorem dL_law_499 : decode cL_law 499 = .ok (.iload_n 3, 1) := by decide +kernel
theorem dL_law_500 : decode cL_law 500 = .ok (.iconst 1, 1) := by decide +kernel
theorem dL_law_501 : decode cL_law 501 = .ok (.iadd, 1) := by decide +kernel
theorem dL_law_502 : decode cL_law 502 = .ok (.iaload, 1) := by decide +kernel
theorem dL_law_503 : decode cL_law 503 = .ok (.invokevirtual 58, 3) := by decide +kernel
theorem dL_law_506 : decode cL_law 506 = .ok (.if_icmp .eq 215, 3) := by decide +kernel
theorem dL_law_509 : decode cL_law 509 = .ok (.iconst 0, 1) := by decide +kernel
theorem dL_law_510 : decode cL_law 510 = .ok (.ireturn, 1) := by decide +kernel
theorem dL_law_511 : decode cL_law 511 = .ok (.aload_n 1, 1) := by decide +kernel
theorem dL_law_512 : decode cL_law 512 = .ok (.aload_n 0, 1) := by decide +kernel
theorem dL_law_513 : decode cL_law 513 = .ok (.iload_n 3, 1) := by decide +kernel
theorem dL_law_514 : decode cL_law 514 = .ok (.iconst 1, 1) := by decide +kernel
theorem dL_law_515 : decode cL_law 515 = .ok (.iadd, 1) := by decide +kernel
theorem dL_law_516 : decode cL_law 516 = .ok (.iaload, 1) := by decide +kernel
theorem dL_law_517 : decode cL_law 517 = .ok (.invokevirtual 59, 3) := by decide +kernel
theorem dL_law_520 : decode cL_law 520 = .ok (.aload_n 2, 1) := by decide +kernel
theorem dL_law_521 : decode cL_law 521 = .ok (.aload_n 0, 1) := by decide +kernel
theorem dL_law_522 : decode cL_law 522 = .ok (.iload_n 3, 1) := by decide +kernel
theorem dL_law_523 : decode cL_law 523 = .ok (.iconst 1, 1) := by decide +kernel
theorem dL_law_524 : decode cL_law 524 = .ok (.iadd, 1) := by decide +kernel
theorem dL_law_525 : decode cL_law 525 = .ok (.iaload, 1) := by decide +kernel
theorem dL_law_526 : decode cL_law 526 = .ok (.invokevirtual 62, 3) := by decide +kernel
theorem dL_law_529 : decode cL_law 529 = .ok (.if_icmp .eq 192, 3) := by decide +kernel
theorem dL_law_532 : decode cL_law 532 = .ok (.iconst 0, 1) := by decide +kernel
theorem dL_law_533 : decode cL_law 533 = .ok (.ireturn, 1) := by decide +kernel
theorem dL_law_534 : decode cL_law 534 = .ok (.aload_n 1, 1) := by decide +kernel
theorem dL_law_535 : decode cL_law 535 = .ok (.invokevirtual 63, 3) := by decide +kernel
theorem dL_law_538 : decode cL_law 538 = .ok (.aload_n 2, 1) := by decide +kernel
theorem dL_law_539 : decode cL_law 539 = .ok (.invokevirtual 66, 3) := by decide +kernel
theorem dL_law_542 : decode cL_law 542 = .ok (.if_icmp .eq 179, 3) := by decide +kernel
theorem dL_law_545 : decode cL_law 545 = .ok (.iconst 0, 1) := by decide +kernel
theorem dL_law_546 : decode cL_law 546 = .ok (.ireturn, 1) := by decide +kernel
theorem dL_law_547 : decode cL_law 547 = .ok (.aload_n 1, 1) := by decide +kernel
theorem dL_law_548 : decode cL_law 548 = .ok (.invokevirtual 67, 3) := by decide +kernel
theorem dL_law_551 : decode cL_law 551 = .ok (.aload_n 2, 1) := by decide +kernel
theorem dL_law_552 : decode cL_law 552 = .ok (.invokevirtual 70, 3) := by decide +kernel
theorem dL_law_555 : decode cL_law 555 = .ok (.if_icmp .eq 166, 3) := by decide +kernel
theorem dL_law_558 : decode cL_law 558 = .ok (.iconst 0, 1) := by decide +kernel
theorem dL_law_559 : decode cL_law 559 = .ok (.ireturn, 1) := by decide +kernel
theorem dL_law_560 : decode cL_law 560 = .ok (.aload_n 1, 1) := by decide +kernel
theorem dL_law_561 : decode cL_law 561 = .ok (.aload_n 0, 1) := by decide +kernel
theorem dL_law_562 : decode cL_law 562 = .ok (.iload_n 3, 1) := by decide +kernel
theorem dL_law_563 : decode cL_law 563 = .ok (.iconst 1, 1) := by decide +kernel
theorem dL_law_564 : decode cL_law 564 = .ok (.iadd, 1) := by decide +kernel
theorem dL_law_565 : decode cL_law 565 = .ok (.iaload, 1) := by decide +kernel
theorem dL_law_566 : decode cL_law 566 = .ok (.invokevirtual 71, 3) := by decide +kernel
theorem dL_law_569 : decode cL_law 569 = .ok (.aload_n 2, 1) := by decide +kernel
theorem dL_law_570 : decode cL_law 570 = .ok (.aload_n 0, 1) := by decide +kernel
theorem dL_law_571 : decode cL_law 571 = .ok (.iload_n 3, 1) := by decide +kernel
theorem dL_law_572 : decode cL_law 572 = .ok (.iconst 1, 1) := by decide +kernel
theorem dL_law_573 : decode cL_law 573 = .ok (.iadd, 1) := by decide +kernel
theorem dL_law_574 : decode cL_law 574 = .ok (.iaload, 1) := by decide +kernel
theorem dL_law_575 : decode cL_law 575 = .ok (.invokevirtual 74, 3) := by decide +kernel
theorem dL_law_578 : decode cL_law 578 = .ok (.if_icmp .eq 143, 3) := by decide +kernel
theorem dL_law_581 : decode cL_law 581 = .ok (.iconst 0, 1) := by decide +kernel
theorem dL_law_582 : decode cL_law 582 = .ok (.ireturn, 1) := by decide +kernel
theorem dL_law_583 : decode cL_law 583 = .ok (.aload_n 1, 1) := by decide +kernel
theorem dL_law_584 : decode cL_law 584 = .ok (.invokevirtual 75, 3) := by decide +kernel
theorem dL_law_587 : decode cL_law 587 = .ok (.aload_n 2, 1) := by decide +kernel
theorem dL_law_588 : decode cL_law 588 = .ok (.invokevirtual 79, 3) := by decide +kernel
theorem dL_law_591 : decode cL_law 591 = .ok (.if_icmp .eq 130, 3) := by decide +kernel
theorem dL_law_594 : decode cL_law 594 = .ok (.iconst 0, 1) := by decide +kernel
theorem dL_law_595 : decode cL_law 595 = .ok (.ireturn, 1) := by decide +kernel
theorem dL_law_596 : decode cL_law 596 = .ok (.aload_n 1, 1) := by decide +kernel
theorem dL_law_597 : decode cL_law 597 = .ok (.invokevirtual 80, 3) := by decide +kernel
theorem dL_law_600 : decode cL_law 600 = .ok (.aload_n 2, 1) := by decide +kernel
theorem dL_law_601 : decode cL_law 601 = .ok (.invokevirtual 83, 3) := by decide +kernel
theorem dL_law_604 : decode cL_law 604 = .ok (.if_icmp .eq 117, 3) := by decide +kernel
theorem dL_law_607 : decode cL_law 607 = .ok (.iconst 0, 1) := by decide +kernel
theorem dL_law_608 : decode cL_law 608 = .ok (.ireturn, 1) := by decide +kernel
theorem dL_law_609 : decode cL_law 609 = .ok (.aload_n 1, 1) := by decide +kernel
theorem dL_law_610 : decode cL_law 610 = .ok (.aload_n 0, 1) := by decide +kernel
theorem dL_law_611 : decode cL_law 611 = .ok (.iload_n 3, 1) := by decide +kernel
theorem dL_law_612 : decode cL_law 612 = .ok (.iconst 1, 1) := by decide +kernel
theorem dL_law_613 : decode cL_law 613 = .ok (.iadd, 1) := by decide +kernel
theorem dL_law_614 : decode cL_law 614 = .ok (.iaload, 1) := by decide +kernel
theorem dL_law_615 : decode cL_law 615 = .ok (.invokevirtual 84, 3) := by decide +kernel
theorem dL_law_618 : decode cL_law 618 = .ok (.aload_n 2, 1) := by decide +kernel
theorem dL_law_619 : decode cL_law 619 = .ok (.aload_n 0, 1) := by decide +kernel
theorem dL_law_620 : decode cL_law 620 = .ok (.iload_n 3, 1) := by decide +kernel
theorem dL_law_621 : decode cL_law 621 = .ok (.iconst 1, 1) := by decide +kernel
theorem dL_law_622 : decode cL_law 622 = .ok (.iadd, 1) := by decide +kernel
theorem dL_law_623 : decode cL_law 623 = .ok (.iaload, 1) := by decide +kernel
theorem dL_law_624 : decode cL_law 624 = .ok (.invokevirtual 87, 3) := by decide +kernel
theorem dL_law_627 : decode cL_law 627 = .ok (.if_icmp .eq 94, 3) := by decide +kernel
theorem dL_law_630 : decode cL_law 630 = .ok (.iconst 0, 1) := by decide +kernel
theorem dL_law_631 : decode cL_law 631 = .ok (.ireturn, 1) := by decide +kernel
theorem dL_law_632 : decode cL_law 632 = .ok (.aload_n 1, 1) := by decide +kernel
theorem dL_law_633 : decode cL_law 633 = .ok (.aload_n 0, 1) := by decide +kernel
theorem dL_law_634 : decode cL_law 634 = .ok (.iload_n 3, 1) := by decide +kernel
theorem dL_law_635 : decode cL_law 635 = .ok (.iconst 1, 1) := by decide +kernel
theorem dL_law_636 : decode cL_law 636 = .ok (.iadd, 1) := by decide +kernel
theorem dL_law_637 : decode cL_law 637 = .ok (.iaload, 1) := by decide +kernel
theorem dL_law_638 : decode cL_law 638 = .ok (.aload_n 0, 1) := by decide +kernel
theorem dL_law_639 : decode cL_law 639 = .ok (.iload_n 3, 1) := by decide +kernel
theorem dL_law_640 : decode cL_law 640 = .ok (.iconst 2, 1) := by decide +kernel
theorem dL_law_641 : decode cL_law 641 = .ok (.iadd, 1) := by decide +kernel
theorem dL_law_642 : decode cL_law 642 = .ok (.iaload, 1) := by decide +kernel
theorem dL_law_643 : decode cL_law 643 = .ok (.invokevirtual 88, 3) := by decide +kernel
theorem dL_law_646 : decode cL_law 646 = .ok (.aload_n 2, 1) := by decide +kernel
theorem dL_law_647 : decode cL_law 647 = .ok (.aload_n 0, 1) := by decide +kernel
theorem dL_law_648 : decode cL_law 648 = .ok (.iload_n 3, 1) := by decide +kernel
theorem dL_law_649 : decode cL_law 649 = .ok (.iconst 1, 1) := by decide +kernel
theorem dL_law_650 : decode cL_law 650 = .ok (.iadd, 1) := by decide +kernel
theorem dL_law_651 : decode cL_law 651 = .ok (.iaload, 1) := by decide +kernel
theorem dL_law_652 : decode cL_law 652 = .ok (.aload_n 0, 1) := by decide +kernel
theorem dL_law_653 : decode cL_law 653 = .ok (.iload_n 3, 1) := by decide +kernel
theorem dL_law_654 : decode cL_law 654 = .ok (.iconst 2, 1) := by decide +kernel
theorem dL_law_655 : decode cL_law 655 = .ok (.iadd, 1) := by decide +kernel
theorem dL_law_656 : decode cL_law 656 = .ok (.iaload, 1) := by decide +kernel
theorem dL_law_657 : decode cL_law 657 = .ok (.invokevirtual 91, 3) := by decide +kernel
theorem dL_law_660 : decode cL_law 660 = .ok (.if_icmp .eq 61, 3) := by decide +kernel
theorem dL_law_663 : decode cL_law 663 = .ok (.iconst 0, 1) := by decide +kernel
theorem dL_law_664 : decode cL_law 664 = .ok (.ireturn, 1) := by decide +kernel
theorem dL_law_665 : decode cL_law 665 = .ok (.aload_n 1, 1) := by decide +kernel
theorem dL_law_666 : decode cL_law 666 = .ok (.aload_n 0, 1) := by decide +kernel
theorem dL_law_667 : decode cL_law 667 = .ok (.iload_n 3, 1) := by decide +kernel
theorem dL_law_668 : decode cL_law 668 = .ok (.iconst 1, 1) := by decide +kernel
theorem dL_law_669 : decode cL_law 669 = .ok (.iadd, 1) := by decide +kernel
theorem dL_law_670 : decode cL_law 670 = .ok (.iaload, 1) := by decide +kernel
theorem dL_law_671 : decode cL_law 671 = .ok (.invokevirtual 92, 3) := by decide +kernel
theorem dL_law_674 : decode cL_law 674 = .ok (.aload_n 2, 1) := by decide +kernel
theorem dL_law_675 : decode cL_law 675 = .ok (.aload_n 0, 1) := by decide +kernel
theorem dL_law_676 : decode cL_law 676 = .ok (.iload_n 3, 1) := by decide +kernel
theorem dL_law_677 : decode cL_law 677 = .ok (.iconst 1, 1) := by decide +kernel
theorem dL_law_678 : decode cL_law 678 = .ok (.iadd, 1) := by decide +kernel
theorem dL_law_679 : decode cL_law 679 = .ok (.iaload, 1) := by decide +kernel
theorem dL_law_680 : decode cL_law 680 = .ok (.invokevirtual 95, 3) := by decide +kernel
theorem dL_law_683 : decode cL_law 683 = .ok (.if_icmp .eq 38, 3) := by decide +kernel
theorem dL_law_686 : decode cL_law 686 = .ok (.iconst 0, 1) := by decide +kernel
theorem dL_law_687 : decode cL_law 687 = .ok (.ireturn, 1) := by decide +kernel
theorem dL_law_688 : decode cL_law 688 = .ok (.aload_n 1, 1) := by decide +kernel
theorem dL_law_689 : decode cL_law 689 = .ok (.aload_n 0, 1) := by decide +kernel
theorem dL_law_690 : decode cL_law 690 = .ok (.iload_n 3, 1) := by decide +kernel
theorem dL_law_691 : decode cL_law 691 = .ok (.iconst 1, 1) := by decide +kernel
theorem dL_law_692 : decode cL_law 692 = .ok (.iadd, 1) := by decide +kernel
theorem dL_law_693 : decode cL_law 693 = .ok (.iaload, 1) := by decide +kernel
theorem dL_law_694 : decode cL_law 694 = .ok (.aload_n 0, 1) := by decide +kernel
theorem dL_law_695 : decode cL_law 695 = .ok (.iload_n 3, 1) := by decide +kernel
theorem dL_law_696 : decode cL_law 696 = .ok (.iconst 2, 1) := by decide +kernel
theorem dL_law_697 : decode cL_law 697 = .ok (.iadd, 1) := by decide +kernel
theorem dL_law_698 : decode cL_law 698 = .ok (.iaload, 1) := by decide +kernel
theorem dL_law_699 : decode cL_law 699 = .ok (.invokevirtual 96, 3) := by decide +kernel
theorem dL_law_702 : decode cL_law 702 = .ok (.aload_n 2, 1) := by decide +kernel
theorem dL_law_703 : decode cL_law 703 = .ok (.aload_n 0, 1) := by decide +kernel
theorem dL_law_704 : decode cL_law 704 = .ok (.iload_n 3, 1) := by decide +kernel
theorem dL_law_705 : decode cL_law 705 = .ok (.iconst 1, 1) := by decide +kernel
theorem dL_law_706 : decode cL_law 706 = .ok (.iadd, 1) := by decide +kernel
theorem dL_law_707 : decode cL_law 707 = .ok (.iaload, 1) := by decide +kernel
theorem dL_law_708 : decode cL_law 708 = .ok (.aload_n 0, 1) := by decide +kernel
theorem dL_law_709 : decode cL_law 709 = .ok (.iload_n 3, 1) := by decide +kernel
theorem dL_law_710 : decode cL_law 710 = .ok (.iconst 2, 1) := by decide +kernel
theorem dL_law_711 : decode cL_law 711 = .ok (.iadd, 1) := by decide +kernel
theorem dL_law_712 : decode cL_law 712 = .ok (.iaload, 1) := by decide +kernel
theorem dL_law_713 : decode cL_law 713 = .ok (.invokevirtual 99, 3) := by decide +kernel
theorem dL_law_716 : decode cL_law 716 = .ok (.if_icmp .eq 5, 3) := by decide +kernel
theorem dL_law_719 : decode cL_law 719 = .ok (.iconst 0, 1) := by decide +kernel
theorem dL_law_720 : decode cL_law 720 = .ok (.ireturn, 1) := by decide +kernel
theorem dL_law_721 : decode cL_law 721 = .ok (.iinc 3 6, 3) := by decide +kernel
theorem dL_law_724 : decode cL_law 724 = .ok (.goto (-706), 3) := by decide +kernel
theorem dL_law_727 : decode cL_law 727 = .ok (.iconst 1, 1) := by decide +kernel
theorem dL_law_728 : decode cL_law 728 = .ok (.ireturn, 1) := by decide +kernel
end
section
theorem dX0_init_0 : decode cX0_init 0 = .ok (.aload_n 0, 1) := by decide +kernel
theorem dX0_init_1 : decode cX0_init 1 = .ok (.invokespecial 3, 3) := by decide +kernel
theorem dX0_init_4 : decode cX0_init 4 = .ok (.aload_n 0, 1) := by decide +kernel
theorem dX0_init_5 : decode cX0_init 5 = .ok (.new 9, 3) := by decide +kernel
theorem dX0_init_8 : decode cX0_init 8 = .ok (.dup, 1) := by decide +kernel
theorem dX0_init_9 : decode cX0_init 9 = .ok (.invokespecial 11, 3) := by decide +kernel
theorem dX0_init_12 : decode cX0_init 12 = .ok (.putfield 12, 3) := by decide +kernel
theorem dX0_init_15 : decode cX0_init 15 = .ok (.aload_n 0, 1) := by decide +kernel
theorem dX0_init_16 : decode cX0_init 16 = .ok (.bipush 6, 2) := by decide +kernel
theorem dX0_init_18 : decode cX0_init 18 = .ok (.newarray .int, 2) := by decide +kernel
theorem dX0_init_20 : decode cX0_init 20 = .ok (.putfield 18, 3) := by decide +kernel
theorem dX0_init_23 : decode cX0_init 23 = .ok (.aload_n 0, 1) := by decide +kernel
theorem dX0_init_24 : decode cX0_init 24 = .ok (.bipush 6, 2) := by decide +kernel
theorem dX0_init_26 : decode cX0_init 26 = .ok (.newarray .int, 2) := by decide +kernel
theorem dX0_init_28 : decode cX0_init 28 = .ok (.putfield 22, 3) := by decide +kernel
theorem dX0_init_31 : decode cX0_init 31 = .ok (.aload_n 0, 1) := by decide +kernel
theorem dX0_init_32 : decode cX0_init 32 = .ok (.iconst 0, 1) := by decide +kernel
theorem dX0_init_33 : decode cX0_init 33 = .ok (.putfield 25, 3) := by decide +kernel
theorem dX0_init_36 : decode cX0_init 36 = .ok (.aload_n 0, 1) := by decide +kernel
theorem dX0_init_37 : decode cX0_init 37 = .ok (.bipush 7, 2) := by decide +kernel
theorem dX0_init_39 : decode cX0_init 39 = .ok (.bipush 65, 2) := by decide +kernel
theorem dX0_init_41 : decode cX0_init 41 = .ok (.multianewarray 29 2, 4) := by decide +kernel
theorem dX0_init_45 : decode cX0_init 45 = .ok (.putfield 31, 3) := by decide +kernel
theorem dX0_init_48 : decode cX0_init 48 = .ok (.aload_n 0, 1) := by decide +kernel
theorem dX0_init_49 : decode cX0_init 49 = .ok (.aload_n 1, 1) := by decide +kernel
theorem dX0_init_50 : decode cX0_init 50 = .ok (.putfield 34, 3) := by decide +kernel
theorem dX0_init_53 : decode cX0_init 53 = .ok (.return_, 1) := by decide +kernel
theorem dX0_timeByRoom_0 : decode cX0_timeByRoom 0 = .ok (.aload_n 0, 1) := by decide +kernel
theorem dX0_timeByRoom_1 : decode cX0_timeByRoom 1 = .ok (.getfield 12, 3) := by decide +kernel
theorem dX0_timeByRoom_4 : decode cX0_timeByRoom 4 = .ok (.aload_n 1, 1) := by decide +kernel
theorem dX0_timeByRoom_5 : decode cX0_timeByRoom 5 = .ok (.iload_n 2, 1) := by decide +kernel
theorem dX0_timeByRoom_6 : decode cX0_timeByRoom 6 = .ok (.iconst 0, 1) := by decide +kernel
theorem dX0_timeByRoom_7 : decode cX0_timeByRoom 7 = .ok (.iconst 1, 1) := by decide +kernel
theorem dX0_timeByRoom_8 : decode cX0_timeByRoom 8 = .ok (.invokevirtual 38, 3) := by decide +kernel
theorem dX0_timeByRoom_11 : decode cX0_timeByRoom 11 = .ok (.aload_n 0, 1) := by decide +kernel
theorem dX0_timeByRoom_12 : decode cX0_timeByRoom 12 = .ok (.getfield 12, 3) := by decide +kernel
theorem dX0_timeByRoom_15 : decode cX0_timeByRoom 15 = .ok (.iconst 0, 1) := by decide +kernel
theorem dX0_timeByRoom_16 : decode cX0_timeByRoom 16 = .ok (.invokevirtual 42, 3) := by decide +kernel
theorem dX0_timeByRoom_19 : decode cX0_timeByRoom 19 = .ok (.ireturn, 1) := by decide +kernel
theorem dX0_needInSteps_0 : decode cX0_needInSteps 0 = .ok (.aload_n 0, 1) := by decide +kernel
theorem dX0_needInSteps_1 : decode cX0_needInSteps 1 = .ok (.aload_n 1, 1) := by decide +kernel
theorem dX0_needInSteps_2 : decode cX0_needInSteps 2 = .ok (.invokevirtual 46, 3) := by decide +kernel
theorem dX0_needInSteps_5 : decode cX0_needInSteps 5 = .ok (.aload_n 0, 1) := by decide +kernel
theorem dX0_needInSteps_6 : decode cX0_needInSteps 6 = .ok (.getfield 34, 3) := by decide +kernel
theorem dX0_needInSteps_9 : decode cX0_needInSteps 9 = .ok (.aload_n 1, 1) := by decide +kernel
theorem dX0_needInSteps_10 : decode cX0_needInSteps 10 = .ok (.getfield 50, 3) := by decide +kernel
theorem dX0_needInSteps_13 : decode cX0_needInSteps 13 = .ok (.invokevirtual 56, 3) := by decide +kernel
theorem dX0_needInSteps_16 : decode cX0_needInSteps 16 = .ok (.istore_n 2, 1) := by decide +kernel
theorem dX0_needInSteps_17 : decode cX0_needInSteps 17 = .ok (.iload_n 2, 1) := by decide +kernel
theorem dX0_needInSteps_18 : decode cX0_needInSteps 18 = .ok (.aload_n 0, 1) := by decide +kernel
theorem dX0_needInSteps_19 : decode cX0_needInSteps 19 = .ok (.getfield 34, 3) := by decide +kernel
theorem dX0_needInSteps_22 : decode cX0_needInSteps 22 = .ok (.invokevirtual 61, 3) := by decide +kernel
theorem dX0_needInSteps_25 : decode cX0_needInSteps 25 = .ok (.if_icmp .gt 21, 3) := by decide +kernel
theorem dX0_needInSteps_28 : decode cX0_needInSteps 28 = .ok (.aload_n 1, 1) := by decide +kernel
theorem dX0_needInSteps_29 : decode cX0_needInSteps 29 = .ok (.getfield 65, 3) := by decide +kernel
theorem dX0_needInSteps_32 : decode cX0_needInSteps 32 = .ok (.iload_n 2, 1) := by decide +kernel
theorem dX0_needInSteps_33 : decode cX0_needInSteps 33 = .ok (.iaload, 1) := by decide +kernel
theorem dX0_needInSteps_34 : decode cX0_needInSteps 34 = .ok (.iconst (-1), 1) := by decide +kernel
theorem dX0_needInSteps_35 : decode cX0_needInSteps 35 = .ok (.if_icmp .eq 5, 3) := by decide +kernel
theorem dX0_needInSteps_38 : decode cX0_needInSteps 38 = .ok (.iload_n 2, 1) := by decide +kernel
theorem dX0_needInSteps_39 : decode cX0_needInSteps 39 = .ok (.ireturn, 1) := by decide +kernel
theorem dX0_needInSteps_40 : decode cX0_needInSteps 40 = .ok (.iinc 2 1, 3) := by decide +kernel
theorem dX0_needInSteps_43 : decode cX0_needInSteps 43 = .ok (.goto (-26), 3) := by decide +kernel
theorem dX0_needInSteps_46 : decode cX0_needInSteps 46 = .ok (.iconst (-1), 1) := by decide +kernel
theorem dX0_needInSteps_47 : decode cX0_needInSteps 47 = .ok (.ireturn, 1) := by decide +kernel
theorem dX0_learnTimes_0 : decode cX0_learnTimes 0 = .ok (.aload_n 1, 1) := by decide +kernel
theorem dX0_learnTimes_1 : decode cX0_learnTimes 1 = .ok (.getfield 68, 3) := by decide +kernel
theorem dX0_learnTimes_4 : decode cX0_learnTimes 4 = .ok (.ifCond .eq 4, 3) := by decide +kernel
theorem dX0_learnTimes_7 : decode cX0_learnTimes 7 = .ok (.return_, 1) := by decide +kernel
theorem dX0_learnTimes_8 : decode cX0_learnTimes 8 = .ok (.aload_n 0, 1) := by decide +kernel
theorem dX0_learnTimes_9 : decode cX0_learnTimes 9 = .ok (.getfield 34, 3) := by decide +kernel
theorem dX0_learnTimes_12 : decode cX0_learnTimes 12 = .ok (.invokevirtual 61, 3) := by decide +kernel
theorem dX0_learnTimes_15 : decode cX0_learnTimes 15 = .ok (.istore_n 2, 1) := by decide +kernel
theorem dX0_learnTimes_16 : decode cX0_learnTimes 16 = .ok (.aload_n 0, 1) := by decide +kernel
theorem dX0_learnTimes_17 : decode cX0_learnTimes 17 = .ok (.getfield 12, 3) := by decide +kernel
theorem dX0_learnTimes_20 : decode cX0_learnTimes 20 = .ok (.aload_n 1, 1) := by decide +kernel
theorem dX0_learnTimes_21 : decode cX0_learnTimes 21 = .ok (.iconst 0, 1) := by decide +kernel
theorem dX0_learnTimes_22 : decode cX0_learnTimes 22 = .ok (.aload_n 0, 1) := by decide +kernel
theorem dX0_learnTimes_23 : decode cX0_learnTimes 23 = .ok (.getfield 34, 3) := by decide +kernel
theorem dX0_learnTimes_26 : decode cX0_learnTimes 26 = .ok (.getfield 71, 3) := by decide +kernel
theorem dX0_learnTimes_29 : decode cX0_learnTimes 29 = .ok (.iload_n 2, 1) := by decide +kernel
theorem dX0_learnTimes_30 : decode cX0_learnTimes 30 = .ok (.iconst 1, 1) := by decide +kernel
theorem dX0_learnTimes_31 : decode cX0_learnTimes 31 = .ok (.iadd, 1) := by decide +kernel
theorem dX0_learnTimes_32 : decode cX0_learnTimes 32 = .ok (.invokevirtual 38, 3) := by decide +kernel
theorem dX0_learnTimes_35 : decode cX0_learnTimes 35 = .ok (.iconst 0, 1) := by decide +kernel
theorem dX0_learnTimes_36 : decode cX0_learnTimes 36 = .ok (.istore_n 3, 1) := by decide +kernel
theorem dX0_learnTimes_37 : decode cX0_learnTimes 37 = .ok (.iload_n 3, 1) := by decide +kernel
theorem dX0_learnTimes_38 : decode cX0_learnTimes 38 = .ok (.iload_n 2, 1) := by decide +kernel
theorem dX0_learnTimes_39 : decode cX0_learnTimes 39 = .ok (.if_icmp .gt 23, 3) := by decide +kernel
theorem dX0_learnTimes_42 : decode cX0_learnTimes 42 = .ok (.aload_n 1, 1) := by decide +kernel
theorem dX0_learnTimes_43 : decode cX0_learnTimes 43 = .ok (.getfield 65, 3) := by decide +kernel
theorem dX0_learnTimes_46 : decode cX0_learnTimes 46 = .ok (.iload_n 3, 1) := by decide +kernel
theorem dX0_learnTimes_47 : decode cX0_learnTimes 47 = .ok (.aload_n 0, 1) := by decide +kernel
theorem dX0_learnTimes_48 : decode cX0_learnTimes 48 = .ok (.getfield 12, 3) := by decide +kernel
theorem dX0_learnTimes_51 : decode cX0_learnTimes 51 = .ok (.iload_n 3, 1) := by decide +kernel
theorem dX0_learnTimes_52 : decode cX0_learnTimes 52 = .ok (.invokevirtual 42, 3) := by decide +kernel
theorem dX0_learnTimes_55 : decode cX0_learnTimes 55 = .ok (.iastore, 1) := by decide +kernel
theorem dX0_learnTimes_56 : decode cX0_learnTimes 56 = .ok (.iinc 3 1, 3) := by decide +kernel
theorem dX0_learnTimes_59 : decode cX0_learnTimes 59 = .ok (.goto (-22), 3) := by decide +kernel
theorem dX0_learnTimes_62 : decode cX0_learnTimes 62 = .ok (.aload_n 1, 1) := by decide +kernel
theorem dX0_learnTimes_63 : decode cX0_learnTimes 63 = .ok (.iconst 1, 1) := by decide +kernel
theorem dX0_learnTimes_64 : decode cX0_learnTimes 64 = .ok (.putfield 68, 3) := by decide +kernel
theorem dX0_learnTimes_67 : decode cX0_learnTimes 67 = .ok (.return_, 1) := by decide +kernel
theorem dX0_bySavings_0 : decode cX0_bySavings 0 = .ok (.aload_n 0, 1) := by decide +kernel
theorem dX0_bySavings_1 : decode cX0_bySavings 1 = .ok (.iconst 0, 1) := by decide +kernel
theorem dX0_bySavings_2 : decode cX0_bySavings 2 = .ok (.putfield 25, 3) := by decide +kernel
theorem dX0_bySavings_5 : decode cX0_bySavings 5 = .ok (.aload_n 0, 1) := by decide +kernel
theorem dX0_bySavings_6 : decode cX0_bySavings 6 = .ok (.getfield 34, 3) := by decide +kernel
theorem dX0_bySavings_9 : decode cX0_bySavings 9 = .ok (.invokevirtual 74, 3) := by decide +kernel
theorem dX0_bySavings_12 : decode cX0_bySavings 12 = .ok (.istore_n 3, 1) := by decide +kernel
theorem dX0_bySavings_13 : decode cX0_bySavings 13 = .ok (.iconst 0, 1) := by decide +kernel
theorem dX0_bySavings_14 : decode cX0_bySavings 14 = .ok (.istore 4, 2) := by decide +kernel
theorem dX0_bySavings_16 : decode cX0_bySavings 16 = .ok (.iload 4, 2) := by decide +kernel
theorem dX0_bySavings_18 : decode cX0_bySavings 18 = .ok (.iload_n 2, 1) := by decide +kernel
theorem dX0_bySavings_19 : decode cX0_bySavings 19 = .ok (.if_icmp .ge 47, 3) := by decide +kernel
theorem dX0_bySavings_22 : decode cX0_bySavings 22 = .ok (.aload_n 0, 1) := by decide +kernel
theorem dX0_bySavings_23 : decode cX0_bySavings 23 = .ok (.aload_n 1, 1) := by decide +kernel
theorem dX0_bySavings_24 : decode cX0_bySavings 24 = .ok (.iload 4, 2) := by decide +kernel
theorem dX0_bySavings_26 : decode cX0_bySavings 26 = .ok (.aaload, 1) := by decide +kernel
theorem dX0_bySavings_27 : decode cX0_bySavings 27 = .ok (.invokevirtual 77, 3) := by decide +kernel
theorem dX0_bySavings_30 : decode cX0_bySavings 30 = .ok (.istore 5, 2) := by decide +kernel
theorem dX0_bySavings_32 : decode cX0_bySavings 32 = .ok (.iload 5, 2) := by decide +kernel
theorem dX0_bySavings_34 : decode cX0_bySavings 34 = .ok (.iconst (-1), 1) := by decide +kernel
theorem dX0_bySavings_35 : decode cX0_bySavings 35 = .ok (.if_icmp .eq 9, 3) := by decide +kernel
theorem dX0_bySavings_38 : decode cX0_bySavings 38 = .ok (.iload 5, 2) := by decide +kernel
theorem dX0_bySavings_40 : decode cX0_bySavings 40 = .ok (.iload_n 3, 1) := by decide +kernel
theorem dX0_bySavings_41 : decode cX0_bySavings 41 = .ok (.if_icmp .le 5, 3) := by decide +kernel
theorem dX0_bySavings_44 : decode cX0_bySavings 44 = .ok (.iconst (-1), 1) := by decide +kernel
theorem dX0_bySavings_45 : decode cX0_bySavings 45 = .ok (.ireturn, 1) := by decide +kernel
theorem dX0_bySavings_46 : decode cX0_bySavings 46 = .ok (.aload_n 0, 1) := by decide +kernel
theorem dX0_bySavings_47 : decode cX0_bySavings 47 = .ok (.getfield 18, 3) := by decide +kernel
theorem dX0_bySavings_50 : decode cX0_bySavings 50 = .ok (.iload 4, 2) := by decide +kernel
theorem dX0_bySavings_52 : decode cX0_bySavings 52 = .ok (.iload 5, 2) := by decide +kernel
theorem dX0_bySavings_54 : decode cX0_bySavings 54 = .ok (.iastore, 1) := by decide +kernel
theorem dX0_bySavings_55 : decode cX0_bySavings 55 = .ok (.iload_n 3, 1) := by decide +kernel
theorem dX0_bySavings_56 : decode cX0_bySavings 56 = .ok (.iload 5, 2) := by decide +kernel
theorem dX0_bySavings_58 : decode cX0_bySavings 58 = .ok (.isub, 1) := by decide +kernel
theorem dX0_bySavings_59 : decode cX0_bySavings 59 = .ok (.istore_n 3, 1) := by decide +kernel
theorem dX0_bySavings_60 : decode cX0_bySavings 60 = .ok (.iinc 4 1, 3) := by decide +kernel
theorem dX0_bySavings_63 : decode cX0_bySavings 63 = .ok (.goto (-47), 3) := by decide +kernel
theorem dX0_bySavings_66 : decode cX0_bySavings 66 = .ok (.iload_n 3, 1) := by decide +kernel
theorem dX0_bySavings_67 : decode cX0_bySavings 67 = .ok (.ifCond .le 37, 3) := by decide +kernel
theorem dX0_bySavings_70 : decode cX0_bySavings 70 = .ok (.aload_n 0, 1) := by decide +kernel
theorem dX0_bySavings_71 : decode cX0_bySavings 71 = .ok (.aload_n 1, 1) := by decide +kernel
theorem dX0_bySavings_72 : decode cX0_bySavings 72 = .ok (.iload_n 2, 1) := by decide +kernel
theorem dX0_bySavings_73 : decode cX0_bySavings 73 = .ok (.invokevirtual 81, 3) := by decide +kernel
theorem dX0_bySavings_76 : decode cX0_bySavings 76 = .ok (.istore 4, 2) := by decide +kernel
theorem dX0_bySavings_78 : decode cX0_bySavings 78 = .ok (.iload 4, 2) := by decide +kernel
theorem dX0_bySavings_80 : decode cX0_bySavings 80 = .ok (.iconst (-1), 1) := by decide +kernel
theorem dX0_bySavings_81 : decode cX0_bySavings 81 = .ok (.if_icmp .ne 6, 3) := by decide +kernel
theorem dX0_bySavings_84 : decode cX0_bySavings 84 = .ok (.goto 20, 3) := by decide +kernel
theorem dX0_bySavings_87 : decode cX0_bySavings 87 = .ok (.aload_n 0, 1) := by decide +kernel
theorem dX0_bySavings_88 : decode cX0_bySavings 88 = .ok (.getfield 18, 3) := by decide +kernel
theorem dX0_bySavings_91 : decode cX0_bySavings 91 = .ok (.iload 4, 2) := by decide +kernel
theorem dX0_bySavings_93 : decode cX0_bySavings 93 = .ok (.dup2, 1) := by decide +kernel
theorem dX0_bySavings_94 : decode cX0_bySavings 94 = .ok (.iaload, 1) := by decide +kernel
theorem dX0_bySavings_95 : decode cX0_bySavings 95 = .ok (.iconst 1, 1) := by decide +kernel
theorem dX0_bySavings_96 : decode cX0_bySavings 96 = .ok (.iadd, 1) := by decide +kernel
theorem dX0_bySavings_97 : decode cX0_bySavings 97 = .ok (.iastore, 1) := by decide +kernel
theorem dX0_bySavings_98 : decode cX0_bySavings 98 = .ok (.iinc 3 (-1), 3) := by decide +kernel
theorem dX0_bySavings_101 : decode cX0_bySavings 101 = .ok (.goto (-35), 3) := by decide +kernel
theorem dX0_bySavings_104 : decode cX0_bySavings 104 = .ok (.aload_n 0, 1) := by decide +kernel
theorem dX0_bySavings_105 : decode cX0_bySavings 105 = .ok (.iconst 1, 1) := by decide +kernel
theorem dX0_bySavings_106 : decode cX0_bySavings 106 = .ok (.putfield 25, 3) := by decide +kernel
theorem dX0_bySavings_109 : decode cX0_bySavings 109 = .ok (.aload_n 0, 1) := by decide +kernel
theorem dX0_bySavings_110 : decode cX0_bySavings 110 = .ok (.aload_n 1, 1) := by decide +kernel
theorem dX0_bySavings_111 : decode cX0_bySavings 111 = .ok (.iload_n 2, 1) := by decide +kernel
theorem dX0_bySavings_112 : decode cX0_bySavings 112 = .ok (.invokevirtual 85, 3) := by decide +kernel
theorem dX0_bySavings_115 : decode cX0_bySavings 115 = .ok (.ireturn, 1) := by decide +kernel
theorem dX0_whoSavesMost_0 : decode cX0_whoSavesMost 0 = .ok (.iconst (-1), 1) := by decide +kernel
theorem dX0_whoSavesMost_1 : decode cX0_whoSavesMost 1 = .ok (.istore_n 3, 1) := by decide +kernel
theorem dX0_whoSavesMost_2 : decode cX0_whoSavesMost 2 = .ok (.iconst 0, 1) := by decide +kernel
theorem dX0_whoSavesMost_3 : decode cX0_whoSavesMost 3 = .ok (.istore 4, 2) := by decide +kernel
theorem dX0_whoSavesMost_5 : decode cX0_whoSavesMost 5 = .ok (.iconst 0, 1) := by decide +kernel
theorem dX0_whoSavesMost_6 : decode cX0_whoSavesMost 6 = .ok (.istore 5, 2) := by decide +kernel
theorem dX0_whoSavesMost_8 : decode cX0_whoSavesMost 8 = .ok (.iload 5, 2) := by decide +kernel
theorem dX0_whoSavesMost_10 : decode cX0_whoSavesMost 10 = .ok (.iload_n 2, 1) := by decide +kernel
theorem dX0_whoSavesMost_11 : decode cX0_whoSavesMost 11 = .ok (.if_icmp .ge 69, 3) := by decide +kernel
theorem dX0_whoSavesMost_14 : decode cX0_whoSavesMost 14 = .ok (.aload_n 0, 1) := by decide +kernel
theorem dX0_whoSavesMost_15 : decode cX0_whoSavesMost 15 = .ok (.getfield 18, 3) := by decide +kernel
theorem dX0_whoSavesMost_18 : decode cX0_whoSavesMost 18 = .ok (.iload 5, 2) := by decide +kernel
theorem dX0_whoSavesMost_20 : decode cX0_whoSavesMost 20 = .ok (.iaload, 1) := by decide +kernel
theorem dX0_whoSavesMost_21 : decode cX0_whoSavesMost 21 = .ok (.istore 6, 2) := by decide +kernel
theorem dX0_whoSavesMost_23 : decode cX0_whoSavesMost 23 = .ok (.iload 6, 2) := by decide +kernel
theorem dX0_whoSavesMost_25 : decode cX0_whoSavesMost 25 = .ok (.aload_n 0, 1) := by decide +kernel
theorem dX0_whoSavesMost_26 : decode cX0_whoSavesMost 26 = .ok (.getfield 34, 3) := by decide +kernel
theorem dX0_whoSavesMost_29 : decode cX0_whoSavesMost 29 = .ok (.invokevirtual 61, 3) := by decide +kernel
theorem dX0_whoSavesMost_32 : decode cX0_whoSavesMost 32 = .ok (.if_icmp .ge 42, 3) := by decide +kernel
theorem dX0_whoSavesMost_35 : decode cX0_whoSavesMost 35 = .ok (.aload_n 1, 1) := by decide +kernel
theorem dX0_whoSavesMost_36 : decode cX0_whoSavesMost 36 = .ok (.iload 5, 2) := by decide +kernel
theorem dX0_whoSavesMost_38 : decode cX0_whoSavesMost 38 = .ok (.aaload, 1) := by decide +kernel
theorem dX0_whoSavesMost_39 : decode cX0_whoSavesMost 39 = .ok (.getfield 65, 3) := by decide +kernel
theorem dX0_whoSavesMost_42 : decode cX0_whoSavesMost 42 = .ok (.iload 6, 2) := by decide +kernel
theorem dX0_whoSavesMost_44 : decode cX0_whoSavesMost 44 = .ok (.iaload, 1) := by decide +kernel
theorem dX0_whoSavesMost_45 : decode cX0_whoSavesMost 45 = .ok (.aload_n 1, 1) := by decide +kernel
theorem dX0_whoSavesMost_46 : decode cX0_whoSavesMost 46 = .ok (.iload 5, 2) := by decide +kernel
theorem dX0_whoSavesMost_48 : decode cX0_whoSavesMost 48 = .ok (.aaload, 1) := by decide +kernel
theorem dX0_whoSavesMost_49 : decode cX0_whoSavesMost 49 = .ok (.getfield 65, 3) := by decide +kernel
theorem dX0_whoSavesMost_52 : decode cX0_whoSavesMost 52 = .ok (.iload 6, 2) := by decide +kernel
theorem dX0_whoSavesMost_54 : decode cX0_whoSavesMost 54 = .ok (.iconst 1, 1) := by decide +kernel
theorem dX0_whoSavesMost_55 : decode cX0_whoSavesMost 55 = .ok (.iadd, 1) := by decide +kernel
theorem dX0_whoSavesMost_56 : decode cX0_whoSavesMost 56 = .ok (.iaload, 1) := by decide +kernel
theorem dX0_whoSavesMost_57 : decode cX0_whoSavesMost 57 = .ok (.isub, 1) := by decide +kernel
theorem dX0_whoSavesMost_58 : decode cX0_whoSavesMost 58 = .ok (.istore 7, 2) := by decide +kernel
theorem dX0_whoSavesMost_60 : decode cX0_whoSavesMost 60 = .ok (.iload 7, 2) := by decide +kernel
theorem dX0_whoSavesMost_62 : decode cX0_whoSavesMost 62 = .ok (.iload 4, 2) := by decide +kernel
theorem dX0_whoSavesMost_64 : decode cX0_whoSavesMost 64 = .ok (.if_icmp .le 10, 3) := by decide +kernel
theorem dX0_whoSavesMost_67 : decode cX0_whoSavesMost 67 = .ok (.iload 7, 2) := by decide +kernel
theorem dX0_whoSavesMost_69 : decode cX0_whoSavesMost 69 = .ok (.istore 4, 2) := by decide +kernel
theorem dX0_whoSavesMost_71 : decode cX0_whoSavesMost 71 = .ok (.iload 5, 2) := by decide +kernel
theorem dX0_whoSavesMost_73 : decode cX0_whoSavesMost 73 = .ok (.istore_n 3, 1) := by decide +kernel
theorem dX0_whoSavesMost_74 : decode cX0_whoSavesMost 74 = .ok (.iinc 5 1, 3) := by decide +kernel
theorem dX0_whoSavesMost_77 : decode cX0_whoSavesMost 77 = .ok (.goto (-69), 3) := by decide +kernel
theorem dX0_whoSavesMost_80 : decode cX0_whoSavesMost 80 = .ok (.iload_n 3, 1) := by decide +kernel
theorem dX0_whoSavesMost_81 : decode cX0_whoSavesMost 81 = .ok (.ireturn, 1) := by decide +kernel
theorem dX0_sumOfTimes_0 : decode cX0_sumOfTimes 0 = .ok (.iconst 0, 1) := by decide +kernel
theorem dX0_sumOfTimes_1 : decode cX0_sumOfTimes 1 = .ok (.istore_n 3, 1) := by decide +kernel
theorem dX0_sumOfTimes_2 : decode cX0_sumOfTimes 2 = .ok (.iconst 0, 1) := by decide +kernel
theorem dX0_sumOfTimes_3 : decode cX0_sumOfTimes 3 = .ok (.istore 4, 2) := by decide +kernel
theorem dX0_sumOfTimes_5 : decode cX0_sumOfTimes 5 = .ok (.iload 4, 2) := by decide +kernel
theorem dX0_sumOfTimes_7 : decode cX0_sumOfTimes 7 = .ok (.iload_n 2, 1) := by decide +kernel
theorem dX0_sumOfTimes_8 : decode cX0_sumOfTimes 8 = .ok (.if_icmp .ge 27, 3) := by decide +kernel
theorem dX0_sumOfTimes_11 : decode cX0_sumOfTimes 11 = .ok (.iload_n 3, 1) := by decide +kernel
theorem dX0_sumOfTimes_12 : decode cX0_sumOfTimes 12 = .ok (.aload_n 1, 1) := by decide +kernel
theorem dX0_sumOfTimes_13 : decode cX0_sumOfTimes 13 = .ok (.iload 4, 2) := by decide +kernel
theorem dX0_sumOfTimes_15 : decode cX0_sumOfTimes 15 = .ok (.aaload, 1) := by decide +kernel
theorem dX0_sumOfTimes_16 : decode cX0_sumOfTimes 16 = .ok (.getfield 65, 3) := by decide +kernel
theorem dX0_sumOfTimes_19 : decode cX0_sumOfTimes 19 = .ok (.aload_n 0, 1) := by decide +kernel
theorem dX0_sumOfTimes_20 : decode cX0_sumOfTimes 20 = .ok (.getfield 18, 3) := by decide +kernel
theorem dX0_sumOfTimes_23 : decode cX0_sumOfTimes 23 = .ok (.iload 4, 2) := by decide +kernel
theorem dX0_sumOfTimes_25 : decode cX0_sumOfTimes 25 = .ok (.iaload, 1) := by decide +kernel
theorem dX0_sumOfTimes_26 : decode cX0_sumOfTimes 26 = .ok (.iaload, 1) := by decide +kernel
theorem dX0_sumOfTimes_27 : decode cX0_sumOfTimes 27 = .ok (.iadd, 1) := by decide +kernel
theorem dX0_sumOfTimes_28 : decode cX0_sumOfTimes 28 = .ok (.istore_n 3, 1) := by decide +kernel
theorem dX0_sumOfTimes_29 : decode cX0_sumOfTimes 29 = .ok (.iinc 4 1, 3) := by decide +kernel
theorem dX0_sumOfTimes_32 : decode cX0_sumOfTimes 32 = .ok (.goto (-27), 3) := by decide +kernel
theorem dX0_sumOfTimes_35 : decode cX0_sumOfTimes 35 = .ok (.iload_n 3, 1) := by decide +kernel
theorem dX0_sumOfTimes_36 : decode cX0_sumOfTimes 36 = .ok (.ireturn, 1) := by decide +kernel
theorem dX0_atBest_0 : decode cX0_atBest 0 = .ok (.aload_n 0, 1) := by decide +kernel
theorem dX0_atBest_1 : decode cX0_atBest 1 = .ok (.iconst 0, 1) := by decide +kernel
theorem dX0_atBest_2 : decode cX0_atBest 2 = .ok (.putfield 25, 3) := by decide +kernel
theorem dX0_atBest_5 : decode cX0_atBest 5 = .ok (.aload_n 0, 1) := by decide +kernel
theorem dX0_atBest_6 : decode cX0_atBest 6 = .ok (.getfield 34, 3) := by decide +kernel
theorem dX0_atBest_9 : decode cX0_atBest 9 = .ok (.invokevirtual 74, 3) := by decide +kernel
theorem dX0_atBest_12 : decode cX0_atBest 12 = .ok (.istore_n 3, 1) := by decide +kernel
theorem dX0_atBest_13 : decode cX0_atBest 13 = .ok (.iconst 0, 1) := by decide +kernel
theorem dX0_atBest_14 : decode cX0_atBest 14 = .ok (.istore 4, 2) := by decide +kernel
theorem dX0_atBest_16 : decode cX0_atBest 16 = .ok (.iload 4, 2) := by decide +kernel
theorem dX0_atBest_18 : decode cX0_atBest 18 = .ok (.iload_n 3, 1) := by decide +kernel
theorem dX0_atBest_19 : decode cX0_atBest 19 = .ok (.if_icmp .gt 19, 3) := by decide +kernel
theorem dX0_atBest_22 : decode cX0_atBest 22 = .ok (.aload_n 0, 1) := by decide +kernel
theorem dX0_atBest_23 : decode cX0_atBest 23 = .ok (.getfield 31, 3) := by decide +kernel
theorem dX0_atBest_26 : decode cX0_atBest 26 = .ok (.iload_n 2, 1) := by decide +kernel
theorem dX0_atBest_27 : decode cX0_atBest 27 = .ok (.aaload, 1) := by decide +kernel
theorem dX0_atBest_28 : decode cX0_atBest 28 = .ok (.iload 4, 2) := by decide +kernel
theorem dX0_atBest_30 : decode cX0_atBest 30 = .ok (.iconst 0, 1) := by decide +kernel
theorem dX0_atBest_31 : decode cX0_atBest 31 = .ok (.iastore, 1) := by decide +kernel
theorem dX0_atBest_32 : decode cX0_atBest 32 = .ok (.iinc 4 1, 3) := by decide +kernel
theorem dX0_atBest_35 : decode cX0_atBest 35 = .ok (.goto (-19), 3) := by decide +kernel
theorem dX0_atBest_38 : decode cX0_atBest 38 = .ok (.iload_n 2, 1) := by decide +kernel
theorem dX0_atBest_39 : decode cX0_atBest 39 = .ok (.iconst 1, 1) := by decide +kernel
theorem dX0_atBest_40 : decode cX0_atBest 40 = .ok (.isub, 1) := by decide +kernel
theorem dX0_atBest_41 : decode cX0_atBest 41 = .ok (.istore 4, 2) := by decide +kernel
theorem dX0_atBest_43 : decode cX0_atBest 43 = .ok (.iload 4, 2) := by decide +kernel
theorem dX0_atBest_45 : decode cX0_atBest 45 = .ok (.ifCond .lt 87, 3) := by decide +kernel
theorem dX0_atBest_48 : decode cX0_atBest 48 = .ok (.aload_n 0, 1) := by decide +kernel
theorem dX0_atBest_49 : decode cX0_atBest 49 = .ok (.getfield 22, 3) := by decide +kernel
theorem dX0_atBest_52 : decode cX0_atBest 52 = .ok (.iload 4, 2) := by decide +kernel
theorem dX0_atBest_54 : decode cX0_atBest 54 = .ok (.aload_n 0, 1) := by decide +kernel
theorem dX0_atBest_55 : decode cX0_atBest 55 = .ok (.aload_n 1, 1) := by decide +kernel
theorem dX0_atBest_56 : decode cX0_atBest 56 = .ok (.iload 4, 2) := by decide +kernel
theorem dX0_atBest_58 : decode cX0_atBest 58 = .ok (.aaload, 1) := by decide +kernel
theorem dX0_atBest_59 : decode cX0_atBest 59 = .ok (.invokevirtual 77, 3) := by decide +kernel
theorem dX0_atBest_62 : decode cX0_atBest 62 = .ok (.iastore, 1) := by decide +kernel
theorem dX0_atBest_63 : decode cX0_atBest 63 = .ok (.iconst 0, 1) := by decide +kernel
theorem dX0_atBest_64 : decode cX0_atBest 64 = .ok (.istore 5, 2) := by decide +kernel
theorem dX0_atBest_66 : decode cX0_atBest 66 = .ok (.iload 5, 2) := by decide +kernel
theorem dX0_atBest_68 : decode cX0_atBest 68 = .ok (.iload_n 3, 1) := by decide +kernel
theorem dX0_atBest_69 : decode cX0_atBest 69 = .ok (.if_icmp .gt 57, 3) := by decide +kernel
theorem dX0_atBest_72 : decode cX0_atBest 72 = .ok (.aload_n 0, 1) := by decide +kernel
theorem dX0_atBest_73 : decode cX0_atBest 73 = .ok (.aload_n 1, 1) := by decide +kernel
theorem dX0_atBest_74 : decode cX0_atBest 74 = .ok (.iload 4, 2) := by decide +kernel
theorem dX0_atBest_76 : decode cX0_atBest 76 = .ok (.aaload, 1) := by decide +kernel
theorem dX0_atBest_77 : decode cX0_atBest 77 = .ok (.iload 4, 2) := by decide +kernel
theorem dX0_atBest_79 : decode cX0_atBest 79 = .ok (.iload 5, 2) := by decide +kernel
theorem dX0_atBest_81 : decode cX0_atBest 81 = .ok (.invokevirtual 88, 3) := by decide +kernel
theorem dX0_atBest_84 : decode cX0_atBest 84 = .ok (.istore 6, 2) := by decide +kernel
theorem dX0_atBest_86 : decode cX0_atBest 86 = .ok (.aload_n 0, 1) := by decide +kernel
theorem dX0_atBest_87 : decode cX0_atBest 87 = .ok (.getfield 31, 3) := by decide +kernel
theorem dX0_atBest_90 : decode cX0_atBest 90 = .ok (.iload 4, 2) := by decide +kernel
theorem dX0_atBest_92 : decode cX0_atBest 92 = .ok (.aaload, 1) := by decide +kernel
theorem dX0_atBest_93 : decode cX0_atBest 93 = .ok (.iload 5, 2) := by decide +kernel
theorem dX0_atBest_95 : decode cX0_atBest 95 = .ok (.iload 6, 2) := by decide +kernel
theorem dX0_atBest_97 : decode cX0_atBest 97 = .ok (.iconst (-1), 1) := by decide +kernel
theorem dX0_atBest_98 : decode cX0_atBest 98 = .ok (.if_icmp .ne 7, 3) := by decide +kernel
theorem dX0_atBest_101 : decode cX0_atBest 101 = .ok (.iconst (-1), 1) := by decide +kernel
theorem dX0_atBest_102 : decode cX0_atBest 102 = .ok (.goto 17, 3) := by decide +kernel
theorem dX0_atBest_105 : decode cX0_atBest 105 = .ok (.aload_n 0, 1) := by decide +kernel
theorem dX0_atBest_106 : decode cX0_atBest 106 = .ok (.aload_n 1, 1) := by decide +kernel
theorem dX0_atBest_107 : decode cX0_atBest 107 = .ok (.iload 4, 2) := by decide +kernel
theorem dX0_atBest_109 : decode cX0_atBest 109 = .ok (.aaload, 1) := by decide +kernel
theorem dX0_atBest_110 : decode cX0_atBest 110 = .ok (.iload 4, 2) := by decide +kernel
theorem dX0_atBest_112 : decode cX0_atBest 112 = .ok (.iload 6, 2) := by decide +kernel
theorem dX0_atBest_114 : decode cX0_atBest 114 = .ok (.iload 5, 2) := by decide +kernel
theorem dX0_atBest_116 : decode cX0_atBest 116 = .ok (.invokevirtual 92, 3) := by decide +kernel
theorem dX0_atBest_119 : decode cX0_atBest 119 = .ok (.iastore, 1) := by decide +kernel
theorem dX0_atBest_120 : decode cX0_atBest 120 = .ok (.iinc 5 1, 3) := by decide +kernel
theorem dX0_atBest_123 : decode cX0_atBest 123 = .ok (.goto (-57), 3) := by decide +kernel
theorem dX0_atBest_126 : decode cX0_atBest 126 = .ok (.iinc 4 (-1), 3) := by decide +kernel
theorem dX0_atBest_129 : decode cX0_atBest 129 = .ok (.goto (-86), 3) := by decide +kernel
theorem dX0_atBest_132 : decode cX0_atBest 132 = .ok (.aload_n 0, 1) := by decide +kernel
theorem dX0_atBest_133 : decode cX0_atBest 133 = .ok (.getfield 31, 3) := by decide +kernel
theorem dX0_atBest_136 : decode cX0_atBest 136 = .ok (.iconst 0, 1) := by decide +kernel
theorem dX0_atBest_137 : decode cX0_atBest 137 = .ok (.aaload, 1) := by decide +kernel
theorem dX0_atBest_138 : decode cX0_atBest 138 = .ok (.iload_n 3, 1) := by decide +kernel
theorem dX0_atBest_139 : decode cX0_atBest 139 = .ok (.iaload, 1) := by decide +kernel
theorem dX0_atBest_140 : decode cX0_atBest 140 = .ok (.iconst (-1), 1) := by decide +kernel
theorem dX0_atBest_141 : decode cX0_atBest 141 = .ok (.if_icmp .ne 5, 3) := by decide +kernel
theorem dX0_atBest_144 : decode cX0_atBest 144 = .ok (.iconst (-1), 1) := by decide +kernel
theorem dX0_atBest_145 : decode cX0_atBest 145 = .ok (.ireturn, 1) := by decide +kernel
theorem dX0_atBest_146 : decode cX0_atBest 146 = .ok (.aload_n 0, 1) := by decide +kernel
theorem dX0_atBest_147 : decode cX0_atBest 147 = .ok (.aload_n 1, 1) := by decide +kernel
theorem dX0_atBest_148 : decode cX0_atBest 148 = .ok (.iload_n 2, 1) := by decide +kernel
theorem dX0_atBest_149 : decode cX0_atBest 149 = .ok (.iload_n 3, 1) := by decide +kernel
theorem dX0_atBest_150 : decode cX0_atBest 150 = .ok (.invokevirtual 96, 3) := by decide +kernel
theorem dX0_atBest_153 : decode cX0_atBest 153 = .ok (.aload_n 0, 1) := by decide +kernel
theorem dX0_atBest_154 : decode cX0_atBest 154 = .ok (.iconst 1, 1) := by decide +kernel
theorem dX0_atBest_155 : decode cX0_atBest 155 = .ok (.putfield 25, 3) := by decide +kernel
theorem dX0_atBest_158 : decode cX0_atBest 158 = .ok (.aload_n 0, 1) := by decide +kernel
theorem dX0_atBest_159 : decode cX0_atBest 159 = .ok (.getfield 31, 3) := by decide +kernel
theorem dX0_atBest_162 : decode cX0_atBest 162 = .ok (.iconst 0, 1) := by decide +kernel
theorem dX0_atBest_163 : decode cX0_atBest 163 = .ok (.aaload, 1) := by decide +kernel
theorem dX0_atBest_164 : decode cX0_atBest 164 = .ok (.iload_n 3, 1) := by decide +kernel
theorem dX0_atBest_165 : decode cX0_atBest 165 = .ok (.iaload, 1) := by decide +kernel
theorem dX0_atBest_166 : decode cX0_atBest 166 = .ok (.ireturn, 1) := by decide +kernel
theorem dX0_takeFirstBest_0 : decode cX0_takeFirstBest 0 = .ok (.iload_n 3, 1) := by decide +kernel
theorem dX0_takeFirstBest_1 : decode cX0_takeFirstBest 1 = .ok (.istore 4, 2) := by decide +kernel
theorem dX0_takeFirstBest_3 : decode cX0_takeFirstBest 3 = .ok (.iconst 0, 1) := by decide +kernel
theorem dX0_takeFirstBest_4 : decode cX0_takeFirstBest 4 = .ok (.istore 5, 2) := by decide +kernel
theorem dX0_takeFirstBest_6 : decode cX0_takeFirstBest 6 = .ok (.iload 5, 2) := by decide +kernel
theorem dX0_takeFirstBest_8 : decode cX0_takeFirstBest 8 = .ok (.iload_n 2, 1) := by decide +kernel
theorem dX0_takeFirstBest_9 : decode cX0_takeFirstBest 9 = .ok (.if_icmp .ge 48, 3) := by decide +kernel
theorem dX0_takeFirstBest_12 : decode cX0_takeFirstBest 12 = .ok (.aload_n 0, 1) := by decide +kernel
theorem dX0_takeFirstBest_13 : decode cX0_takeFirstBest 13 = .ok (.aload_n 1, 1) := by decide +kernel
theorem dX0_takeFirstBest_14 : decode cX0_takeFirstBest 14 = .ok (.iload 5, 2) := by decide +kernel
theorem dX0_takeFirstBest_16 : decode cX0_takeFirstBest 16 = .ok (.aaload, 1) := by decide +kernel
theorem dX0_takeFirstBest_17 : decode cX0_takeFirstBest 17 = .ok (.iload 5, 2) := by decide +kernel
theorem dX0_takeFirstBest_19 : decode cX0_takeFirstBest 19 = .ok (.iload 4, 2) := by decide +kernel
theorem dX0_takeFirstBest_21 : decode cX0_takeFirstBest 21 = .ok (.invokevirtual 88, 3) := by decide +kernel
theorem dX0_takeFirstBest_24 : decode cX0_takeFirstBest 24 = .ok (.istore 6, 2) := by decide +kernel
theorem dX0_takeFirstBest_26 : decode cX0_takeFirstBest 26 = .ok (.aload_n 0, 1) := by decide +kernel
theorem dX0_takeFirstBest_27 : decode cX0_takeFirstBest 27 = .ok (.getfield 18, 3) := by decide +kernel
theorem dX0_takeFirstBest_30 : decode cX0_takeFirstBest 30 = .ok (.iload 5, 2) := by decide +kernel
theorem dX0_takeFirstBest_32 : decode cX0_takeFirstBest 32 = .ok (.iload 6, 2) := by decide +kernel
theorem dX0_takeFirstBest_34 : decode cX0_takeFirstBest 34 = .ok (.iconst 0, 1) := by decide +kernel
theorem dX0_takeFirstBest_35 : decode cX0_takeFirstBest 35 = .ok (.invokestatic 100, 3) := by decide +kernel
theorem dX0_takeFirstBest_38 : decode cX0_takeFirstBest 38 = .ok (.iastore, 1) := by decide +kernel
theorem dX0_takeFirstBest_39 : decode cX0_takeFirstBest 39 = .ok (.iload 4, 2) := by decide +kernel
theorem dX0_takeFirstBest_41 : decode cX0_takeFirstBest 41 = .ok (.aload_n 0, 1) := by decide +kernel
theorem dX0_takeFirstBest_42 : decode cX0_takeFirstBest 42 = .ok (.getfield 18, 3) := by decide +kernel
theorem dX0_takeFirstBest_45 : decode cX0_takeFirstBest 45 = .ok (.iload 5, 2) := by decide +kernel
theorem dX0_takeFirstBest_47 : decode cX0_takeFirstBest 47 = .ok (.iaload, 1) := by decide +kernel
theorem dX0_takeFirstBest_48 : decode cX0_takeFirstBest 48 = .ok (.isub, 1) := by decide +kernel
theorem dX0_takeFirstBest_49 : decode cX0_takeFirstBest 49 = .ok (.istore 4, 2) := by decide +kernel
theorem dX0_takeFirstBest_51 : decode cX0_takeFirstBest 51 = .ok (.iinc 5 1, 3) := by decide +kernel
theorem dX0_takeFirstBest_54 : decode cX0_takeFirstBest 54 = .ok (.goto (-48), 3) := by decide +kernel
theorem dX0_takeFirstBest_57 : decode cX0_takeFirstBest 57 = .ok (.return_, 1) := by decide +kernel
theorem dX0_firstBestShare_0 : decode cX0_firstBestShare 0 = .ok (.iconst (-1), 1) := by decide +kernel
theorem dX0_firstBestShare_1 : decode cX0_firstBestShare 1 = .ok (.istore 4, 2) := by decide +kernel
theorem dX0_firstBestShare_3 : decode cX0_firstBestShare 3 = .ok (.iconst 0, 1) := by decide +kernel
theorem dX0_firstBestShare_4 : decode cX0_firstBestShare 4 = .ok (.istore 5, 2) := by decide +kernel
theorem dX0_firstBestShare_6 : decode cX0_firstBestShare 6 = .ok (.aload_n 0, 1) := by decide +kernel
theorem dX0_firstBestShare_7 : decode cX0_firstBestShare 7 = .ok (.getfield 22, 3) := by decide +kernel
theorem dX0_firstBestShare_10 : decode cX0_firstBestShare 10 = .ok (.iload_n 2, 1) := by decide +kernel
theorem dX0_firstBestShare_11 : decode cX0_firstBestShare 11 = .ok (.iaload, 1) := by decide +kernel
theorem dX0_firstBestShare_12 : decode cX0_firstBestShare 12 = .ok (.iconst (-1), 1) := by decide +kernel
theorem dX0_firstBestShare_13 : decode cX0_firstBestShare 13 = .ok (.if_icmp .ne 5, 3) := by decide +kernel
theorem dX0_firstBestShare_16 : decode cX0_firstBestShare 16 = .ok (.iconst (-1), 1) := by decide +kernel
theorem dX0_firstBestShare_17 : decode cX0_firstBestShare 17 = .ok (.ireturn, 1) := by decide +kernel
theorem dX0_firstBestShare_18 : decode cX0_firstBestShare 18 = .ok (.aload_n 0, 1) := by decide +kernel
theorem dX0_firstBestShare_19 : decode cX0_firstBestShare 19 = .ok (.getfield 22, 3) := by decide +kernel
theorem dX0_firstBestShare_22 : decode cX0_firstBestShare 22 = .ok (.iload_n 2, 1) := by decide +kernel
theorem dX0_firstBestShare_23 : decode cX0_firstBestShare 23 = .ok (.iaload, 1) := by decide +kernel
theorem dX0_firstBestShare_24 : decode cX0_firstBestShare 24 = .ok (.istore 6, 2) := by decide +kernel
theorem dX0_firstBestShare_26 : decode cX0_firstBestShare 26 = .ok (.iload 6, 2) := by decide +kernel
theorem dX0_firstBestShare_28 : decode cX0_firstBestShare 28 = .ok (.iload_n 3, 1) := by decide +kernel
theorem dX0_firstBestShare_29 : decode cX0_firstBestShare 29 = .ok (.if_icmp .gt 47, 3) := by decide +kernel
theorem dX0_firstBestShare_32 : decode cX0_firstBestShare 32 = .ok (.aload_n 0, 1) := by decide +kernel
theorem dX0_firstBestShare_33 : decode cX0_firstBestShare 33 = .ok (.aload_n 1, 1) := by decide +kernel
theorem dX0_firstBestShare_34 : decode cX0_firstBestShare 34 = .ok (.iload_n 2, 1) := by decide +kernel
theorem dX0_firstBestShare_35 : decode cX0_firstBestShare 35 = .ok (.iload 6, 2) := by decide +kernel
theorem dX0_firstBestShare_37 : decode cX0_firstBestShare 37 = .ok (.iload_n 3, 1) := by decide +kernel
theorem dX0_firstBestShare_38 : decode cX0_firstBestShare 38 = .ok (.invokevirtual 92, 3) := by decide +kernel
theorem dX0_firstBestShare_41 : decode cX0_firstBestShare 41 = .ok (.istore 7, 2) := by decide +kernel
theorem dX0_firstBestShare_43 : decode cX0_firstBestShare 43 = .ok (.iload 7, 2) := by decide +kernel
theorem dX0_firstBestShare_45 : decode cX0_firstBestShare 45 = .ok (.iconst (-1), 1) := by decide +kernel
theorem dX0_firstBestShare_46 : decode cX0_firstBestShare 46 = .ok (.if_icmp .eq 24, 3) := by decide +kernel
theorem dX0_firstBestShare_49 : decode cX0_firstBestShare 49 = .ok (.iload 4, 2) := by decide +kernel
theorem dX0_firstBestShare_51 : decode cX0_firstBestShare 51 = .ok (.iconst (-1), 1) := by decide +kernel
theorem dX0_firstBestShare_52 : decode cX0_firstBestShare 52 = .ok (.if_icmp .eq 10, 3) := by decide +kernel
theorem dX0_firstBestShare_55 : decode cX0_firstBestShare 55 = .ok (.iload 7, 2) := by decide +kernel
theorem dX0_firstBestShare_57 : decode cX0_firstBestShare 57 = .ok (.iload 5, 2) := by decide +kernel
theorem dX0_firstBestShare_59 : decode cX0_firstBestShare 59 = .ok (.if_icmp .ge 11, 3) := by decide +kernel
theorem dX0_firstBestShare_62 : decode cX0_firstBestShare 62 = .ok (.iload 6, 2) := by decide +kernel
theorem dX0_firstBestShare_64 : decode cX0_firstBestShare 64 = .ok (.istore 4, 2) := by decide +kernel
theorem dX0_firstBestShare_66 : decode cX0_firstBestShare 66 = .ok (.iload 7, 2) := by decide +kernel
theorem dX0_firstBestShare_68 : decode cX0_firstBestShare 68 = .ok (.istore 5, 2) := by decide +kernel
theorem dX0_firstBestShare_70 : decode cX0_firstBestShare 70 = .ok (.iinc 6 1, 3) := by decide +kernel
theorem dX0_firstBestShare_73 : decode cX0_firstBestShare 73 = .ok (.goto (-47), 3) := by decide +kernel
theorem dX0_firstBestShare_76 : decode cX0_firstBestShare 76 = .ok (.iload 4, 2) := by decide +kernel
theorem dX0_firstBestShare_78 : decode cX0_firstBestShare 78 = .ok (.ireturn, 1) := by decide +kernel
theorem dX0_sumWith_0 : decode cX0_sumWith 0 = .ok (.aload_n 0, 1) := by decide +kernel
theorem dX0_sumWith_1 : decode cX0_sumWith 1 = .ok (.getfield 31, 3) := by decide +kernel
theorem dX0_sumWith_4 : decode cX0_sumWith 4 = .ok (.iload_n 2, 1) := by decide +kernel
theorem dX0_sumWith_5 : decode cX0_sumWith 5 = .ok (.iconst 1, 1) := by decide +kernel
theorem dX0_sumWith_6 : decode cX0_sumWith 6 = .ok (.iadd, 1) := by decide +kernel
theorem dX0_sumWith_7 : decode cX0_sumWith 7 = .ok (.aaload, 1) := by decide +kernel
theorem dX0_sumWith_8 : decode cX0_sumWith 8 = .ok (.iload 4, 2) := by decide +kernel
theorem dX0_sumWith_10 : decode cX0_sumWith 10 = .ok (.iload_n 3, 1) := by decide +kernel
theorem dX0_sumWith_11 : decode cX0_sumWith 11 = .ok (.isub, 1) := by decide +kernel
theorem dX0_sumWith_12 : decode cX0_sumWith 12 = .ok (.iaload, 1) := by decide +kernel
theorem dX0_sumWith_13 : decode cX0_sumWith 13 = .ok (.istore 5, 2) := by decide +kernel
theorem dX0_sumWith_15 : decode cX0_sumWith 15 = .ok (.iload 5, 2) := by decide +kernel
theorem dX0_sumWith_17 : decode cX0_sumWith 17 = .ok (.iconst (-1), 1) := by decide +kernel
theorem dX0_sumWith_18 : decode cX0_sumWith 18 = .ok (.if_icmp .eq 13, 3) := by decide +kernel
theorem dX0_sumWith_21 : decode cX0_sumWith 21 = .ok (.aload_n 1, 1) := by decide +kernel
theorem dX0_sumWith_22 : decode cX0_sumWith 22 = .ok (.getfield 65, 3) := by decide +kernel
theorem dX0_sumWith_25 : decode cX0_sumWith 25 = .ok (.iload_n 3, 1) := by decide +kernel
theorem dX0_sumWith_26 : decode cX0_sumWith 26 = .ok (.iaload, 1) := by decide +kernel
theorem dX0_sumWith_27 : decode cX0_sumWith 27 = .ok (.iconst (-1), 1) := by decide +kernel
theorem dX0_sumWith_28 : decode cX0_sumWith 28 = .ok (.if_icmp .ne 7, 3) := by decide +kernel
theorem dX0_sumWith_31 : decode cX0_sumWith 31 = .ok (.iconst (-1), 1) := by decide +kernel
theorem dX0_sumWith_32 : decode cX0_sumWith 32 = .ok (.goto 12, 3) := by decide +kernel
theorem dX0_sumWith_35 : decode cX0_sumWith 35 = .ok (.aload_n 1, 1) := by decide +kernel
theorem dX0_sumWith_36 : decode cX0_sumWith 36 = .ok (.getfield 65, 3) := by decide +kernel
theorem dX0_sumWith_39 : decode cX0_sumWith 39 = .ok (.iload_n 3, 1) := by decide +kernel
theorem dX0_sumWith_40 : decode cX0_sumWith 40 = .ok (.iaload, 1) := by decide +kernel
theorem dX0_sumWith_41 : decode cX0_sumWith 41 = .ok (.iload 5, 2) := by decide +kernel
theorem dX0_sumWith_43 : decode cX0_sumWith 43 = .ok (.iadd, 1) := by decide +kernel
theorem dX0_sumWith_44 : decode cX0_sumWith 44 = .ok (.ireturn, 1) := by decide +kernel
end
section
theorem dX1_init_0 : decode cX1_init 0 = .ok (.aload_n 0, 1) := by decide +kernel
theorem dX1_init_1 : decode cX1_init 1 = .ok (.invokespecial 3, 3) := by decide +kernel
theorem dX1_init_4 : decode cX1_init 4 = .ok (.aload_n 0, 1) := by decide +kernel
theorem dX1_init_5 : decode cX1_init 5 = .ok (.bipush 60, 2) := by decide +kernel
theorem dX1_init_7 : decode cX1_init 7 = .ok (.newarray .int, 2) := by decide +kernel
theorem dX1_init_9 : decode cX1_init 9 = .ok (.putfield 9, 3) := by decide +kernel
theorem dX1_init_12 : decode cX1_init 12 = .ok (.aload_n 0, 1) := by decide +kernel
theorem dX1_init_13 : decode cX1_init 13 = .ok (.bipush 65, 2) := by decide +kernel
theorem dX1_init_15 : decode cX1_init 15 = .ok (.newarray .int, 2) := by decide +kernel
theorem dX1_init_17 : decode cX1_init 17 = .ok (.putfield 15, 3) := by decide +kernel
theorem dX1_init_20 : decode cX1_init 20 = .ok (.return_, 1) := by decide +kernel
theorem dX1_become_0 : decode cX1_become 0 = .ok (.aload_n 0, 1) := by decide +kernel
theorem dX1_become_1 : decode cX1_become 1 = .ok (.aload_n 1, 1) := by decide +kernel
theorem dX1_become_2 : decode cX1_become 2 = .ok (.getfield 18, 3) := by decide +kernel
theorem dX1_become_5 : decode cX1_become 5 = .ok (.putfield 24, 3) := by decide +kernel
theorem dX1_become_8 : decode cX1_become 8 = .ok (.iconst 0, 1) := by decide +kernel
theorem dX1_become_9 : decode cX1_become 9 = .ok (.istore 5, 2) := by decide +kernel
theorem dX1_become_11 : decode cX1_become 11 = .ok (.iload 5, 2) := by decide +kernel
theorem dX1_become_13 : decode cX1_become 13 = .ok (.aload_n 0, 1) := by decide +kernel
theorem dX1_become_14 : decode cX1_become 14 = .ok (.getfield 24, 3) := by decide +kernel
theorem dX1_become_17 : decode cX1_become 17 = .ok (.if_icmp .ge 24, 3) := by decide +kernel
theorem dX1_become_20 : decode cX1_become 20 = .ok (.aload_n 0, 1) := by decide +kernel
theorem dX1_become_21 : decode cX1_become 21 = .ok (.getfield 9, 3) := by decide +kernel
theorem dX1_become_24 : decode cX1_become 24 = .ok (.iload 5, 2) := by decide +kernel
theorem dX1_become_26 : decode cX1_become 26 = .ok (.aload_n 1, 1) := by decide +kernel
theorem dX1_become_27 : decode cX1_become 27 = .ok (.getfield 25, 3) := by decide +kernel
theorem dX1_become_30 : decode cX1_become 30 = .ok (.iload 5, 2) := by decide +kernel
theorem dX1_become_32 : decode cX1_become 32 = .ok (.laload, 1) := by decide +kernel
theorem dX1_become_33 : decode cX1_become 33 = .ok (.l2i, 1) := by decide +kernel
theorem dX1_become_34 : decode cX1_become 34 = .ok (.iastore, 1) := by decide +kernel
theorem dX1_become_35 : decode cX1_become 35 = .ok (.iinc 5 1, 3) := by decide +kernel
theorem dX1_become_38 : decode cX1_become 38 = .ok (.goto (-27), 3) := by decide +kernel
theorem dX1_become_41 : decode cX1_become 41 = .ok (.aload_n 0, 1) := by decide +kernel
theorem dX1_become_42 : decode cX1_become 42 = .ok (.iload_n 2, 1) := by decide +kernel
theorem dX1_become_43 : decode cX1_become 43 = .ok (.putfield 29, 3) := by decide +kernel
theorem dX1_become_46 : decode cX1_become 46 = .ok (.aload_n 0, 1) := by decide +kernel
theorem dX1_become_47 : decode cX1_become 47 = .ok (.iload_n 3, 1) := by decide +kernel
theorem dX1_become_48 : decode cX1_become 48 = .ok (.putfield 33, 3) := by decide +kernel
theorem dX1_become_51 : decode cX1_become 51 = .ok (.aload_n 0, 1) := by decide +kernel
theorem dX1_become_52 : decode cX1_become 52 = .ok (.iload 4, 2) := by decide +kernel
theorem dX1_become_54 : decode cX1_become 54 = .ok (.putfield 36, 3) := by decide +kernel
theorem dX1_become_57 : decode cX1_become 57 = .ok (.aload_n 0, 1) := by decide +kernel
theorem dX1_become_58 : decode cX1_become 58 = .ok (.iconst 0, 1) := by decide +kernel
theorem dX1_become_59 : decode cX1_become 59 = .ok (.putfield 39, 3) := by decide +kernel
theorem dX1_become_62 : decode cX1_become 62 = .ok (.return_, 1) := by decide +kernel
theorem dX1_isMake_0 : decode cX1_isMake 0 = .ok (.iload_n 0, 1) := by decide +kernel
theorem dX1_isMake_1 : decode cX1_isMake 1 = .ok (.ifCond .le 14, 3) := by decide +kernel
theorem dX1_isMake_4 : decode cX1_isMake 4 = .ok (.iload_n 0, 1) := by decide +kernel
theorem dX1_isMake_5 : decode cX1_isMake 5 = .ok (.sipush 1000, 3) := by decide +kernel
theorem dX1_isMake_8 : decode cX1_isMake 8 = .ok (.if_icmp .ge 7, 3) := by decide +kernel
theorem dX1_isMake_11 : decode cX1_isMake 11 = .ok (.iconst 1, 1) := by decide +kernel
theorem dX1_isMake_12 : decode cX1_isMake 12 = .ok (.goto 4, 3) := by decide +kernel
theorem dX1_isMake_15 : decode cX1_isMake 15 = .ok (.iconst 0, 1) := by decide +kernel
theorem dX1_isMake_16 : decode cX1_isMake 16 = .ok (.ireturn, 1) := by decide +kernel
theorem dX1_holds_0 : decode cX1_holds 0 = .ok (.aload_n 0, 1) := by decide +kernel
theorem dX1_holds_1 : decode cX1_holds 1 = .ok (.getfield 29, 3) := by decide +kernel
theorem dX1_holds_4 : decode cX1_holds 4 = .ok (.ifCond .eq 9, 3) := by decide +kernel
theorem dX1_holds_7 : decode cX1_holds 7 = .ok (.iload_n 1, 1) := by decide +kernel
theorem dX1_holds_8 : decode cX1_holds 8 = .ok (.iconst 2, 1) := by decide +kernel
theorem dX1_holds_9 : decode cX1_holds 9 = .ok (.idiv, 1) := by decide +kernel
theorem dX1_holds_10 : decode cX1_holds 10 = .ok (.goto 4, 3) := by decide +kernel
theorem dX1_holds_13 : decode cX1_holds 13 = .ok (.iload_n 1, 1) := by decide +kernel
theorem dX1_holds_14 : decode cX1_holds 14 = .ok (.ireturn, 1) := by decide +kernel
theorem dX1_roomFor_0 : decode cX1_roomFor 0 = .ok (.aload_n 0, 1) := by decide +kernel
theorem dX1_roomFor_1 : decode cX1_roomFor 1 = .ok (.getfield 29, 3) := by decide +kernel
theorem dX1_roomFor_4 : decode cX1_roomFor 4 = .ok (.ifCond .eq 9, 3) := by decide +kernel
theorem dX1_roomFor_7 : decode cX1_roomFor 7 = .ok (.iconst 2, 1) := by decide +kernel
theorem dX1_roomFor_8 : decode cX1_roomFor 8 = .ok (.iload_n 1, 1) := by decide +kernel
theorem dX1_roomFor_9 : decode cX1_roomFor 9 = .ok (.imul, 1) := by decide +kernel
theorem dX1_roomFor_10 : decode cX1_roomFor 10 = .ok (.goto 4, 3) := by decide +kernel
theorem dX1_roomFor_13 : decode cX1_roomFor 13 = .ok (.iload_n 1, 1) := by decide +kernel
theorem dX1_roomFor_14 : decode cX1_roomFor 14 = .ok (.ireturn, 1) := by decide +kernel
theorem dX1_costToCollect_0 : decode cX1_costToCollect 0 = .ok (.aload_n 0, 1) := by decide +kernel
theorem dX1_costToCollect_1 : decode cX1_costToCollect 1 = .ok (.getfield 29, 3) := by decide +kernel
theorem dX1_costToCollect_4 : decode cX1_costToCollect 4 = .ok (.ifCond .eq 11, 3) := by decide +kernel
theorem dX1_costToCollect_7 : decode cX1_costToCollect 7 = .ok (.iconst 1, 1) := by decide +kernel
theorem dX1_costToCollect_8 : decode cX1_costToCollect 8 = .ok (.iconst 2, 1) := by decide +kernel
theorem dX1_costToCollect_9 : decode cX1_costToCollect 9 = .ok (.iload_n 1, 1) := by decide +kernel
theorem dX1_costToCollect_10 : decode cX1_costToCollect 10 = .ok (.imul, 1) := by decide +kernel
theorem dX1_costToCollect_11 : decode cX1_costToCollect 11 = .ok (.iadd, 1) := by decide +kernel
theorem dX1_costToCollect_12 : decode cX1_costToCollect 12 = .ok (.goto 10, 3) := by decide +kernel
theorem dX1_costToCollect_15 : decode cX1_costToCollect 15 = .ok (.iconst 1, 1) := by decide +kernel
theorem dX1_costToCollect_16 : decode cX1_costToCollect 16 = .ok (.iload_n 1, 1) := by decide +kernel
theorem dX1_costToCollect_17 : decode cX1_costToCollect 17 = .ok (.iadd, 1) := by decide +kernel
theorem dX1_costToCollect_18 : decode cX1_costToCollect 18 = .ok (.iload_n 2, 1) := by decide +kernel
theorem dX1_costToCollect_19 : decode cX1_costToCollect 19 = .ok (.iconst 2, 1) := by decide +kernel
theorem dX1_costToCollect_20 : decode cX1_costToCollect 20 = .ok (.idiv, 1) := by decide +kernel
theorem dX1_costToCollect_21 : decode cX1_costToCollect 21 = .ok (.iadd, 1) := by decide +kernel
theorem dX1_costToCollect_22 : decode cX1_costToCollect 22 = .ok (.ireturn, 1) := by decide +kernel
theorem dX1_fallsEverSlower_0 : decode cX1_fallsEverSlower 0 = .ok (.ldc 44, 2) := by decide +kernel
theorem dX1_fallsEverSlower_2 : decode cX1_fallsEverSlower 2 = .ok (.istore_n 3, 1) := by decide +kernel
theorem dX1_fallsEverSlower_3 : decode cX1_fallsEverSlower 3 = .ok (.iload_n 1, 1) := by decide +kernel
theorem dX1_fallsEverSlower_4 : decode cX1_fallsEverSlower 4 = .ok (.istore 4, 2) := by decide +kernel
theorem dX1_fallsEverSlower_6 : decode cX1_fallsEverSlower 6 = .ok (.iload 4, 2) := by decide +kernel
theorem dX1_fallsEverSlower_8 : decode cX1_fallsEverSlower 8 = .ok (.iload_n 2, 1) := by decide +kernel
theorem dX1_fallsEverSlower_9 : decode cX1_fallsEverSlower 9 = .ok (.if_icmp .ge 44, 3) := by decide +kernel
theorem dX1_fallsEverSlower_12 : decode cX1_fallsEverSlower 12 = .ok (.aload_n 0, 1) := by decide +kernel
theorem dX1_fallsEverSlower_13 : decode cX1_fallsEverSlower 13 = .ok (.getfield 15, 3) := by decide +kernel
theorem dX1_fallsEverSlower_16 : decode cX1_fallsEverSlower 16 = .ok (.iload 4, 2) := by decide +kernel
theorem dX1_fallsEverSlower_18 : decode cX1_fallsEverSlower 18 = .ok (.iaload, 1) := by decide +kernel
theorem dX1_fallsEverSlower_19 : decode cX1_fallsEverSlower 19 = .ok (.aload_n 0, 1) := by decide +kernel
theorem dX1_fallsEverSlower_20 : decode cX1_fallsEverSlower 20 = .ok (.getfield 15, 3) := by decide +kernel
theorem dX1_fallsEverSlower_23 : decode cX1_fallsEverSlower 23 = .ok (.iload 4, 2) := by decide +kernel
theorem dX1_fallsEverSlower_25 : decode cX1_fallsEverSlower 25 = .ok (.iconst 1, 1) := by decide +kernel
theorem dX1_fallsEverSlower_26 : decode cX1_fallsEverSlower 26 = .ok (.iadd, 1) := by decide +kernel
theorem dX1_fallsEverSlower_27 : decode cX1_fallsEverSlower 27 = .ok (.iaload, 1) := by decide +kernel
theorem dX1_fallsEverSlower_28 : decode cX1_fallsEverSlower 28 = .ok (.isub, 1) := by decide +kernel
theorem dX1_fallsEverSlower_29 : decode cX1_fallsEverSlower 29 = .ok (.istore 5, 2) := by decide +kernel
theorem dX1_fallsEverSlower_31 : decode cX1_fallsEverSlower 31 = .ok (.iload 5, 2) := by decide +kernel
theorem dX1_fallsEverSlower_33 : decode cX1_fallsEverSlower 33 = .ok (.ifCond .lt 9, 3) := by decide +kernel
theorem dX1_fallsEverSlower_36 : decode cX1_fallsEverSlower 36 = .ok (.iload 5, 2) := by decide +kernel
theorem dX1_fallsEverSlower_38 : decode cX1_fallsEverSlower 38 = .ok (.iload_n 3, 1) := by decide +kernel
theorem dX1_fallsEverSlower_39 : decode cX1_fallsEverSlower 39 = .ok (.if_icmp .le 5, 3) := by decide +kernel
theorem dX1_fallsEverSlower_42 : decode cX1_fallsEverSlower 42 = .ok (.iconst 0, 1) := by decide +kernel
theorem dX1_fallsEverSlower_43 : decode cX1_fallsEverSlower 43 = .ok (.ireturn, 1) := by decide +kernel
theorem dX1_fallsEverSlower_44 : decode cX1_fallsEverSlower 44 = .ok (.iload 5, 2) := by decide +kernel
theorem dX1_fallsEverSlower_46 : decode cX1_fallsEverSlower 46 = .ok (.istore_n 3, 1) := by decide +kernel
theorem dX1_fallsEverSlower_47 : decode cX1_fallsEverSlower 47 = .ok (.iinc 4 1, 3) := by decide +kernel
theorem dX1_fallsEverSlower_50 : decode cX1_fallsEverSlower 50 = .ok (.goto (-44), 3) := by decide +kernel
theorem dX1_fallsEverSlower_53 : decode cX1_fallsEverSlower 53 = .ok (.iconst 1, 1) := by decide +kernel
theorem dX1_fallsEverSlower_54 : decode cX1_fallsEverSlower 54 = .ok (.ireturn, 1) := by decide +kernel
end
section
theorem dX10_init_0 : decode cX10_init 0 = .ok (.aload_n 0, 1) := by decide +kernel
theorem dX10_init_1 : decode cX10_init 1 = .ok (.invokespecial 1, 3) := by decide +kernel
theorem dX10_init_4 : decode cX10_init 4 = .ok (.aload_n 0, 1) := by decide +kernel
theorem dX10_init_5 : decode cX10_init 5 = .ok (.iconst 4, 1) := by decide +kernel
theorem dX10_init_6 : decode cX10_init 6 = .ok (.newarray .int, 2) := by decide +kernel
theorem dX10_init_8 : decode cX10_init 8 = .ok (.dup, 1) := by decide +kernel
theorem dX10_init_9 : decode cX10_init 9 = .ok (.iconst 0, 1) := by decide +kernel
theorem dX10_init_10 : decode cX10_init 10 = .ok (.iconst (-1), 1) := by decide +kernel
theorem dX10_init_11 : decode cX10_init 11 = .ok (.iastore, 1) := by decide +kernel
theorem dX10_init_12 : decode cX10_init 12 = .ok (.dup, 1) := by decide +kernel
theorem dX10_init_13 : decode cX10_init 13 = .ok (.iconst 1, 1) := by decide +kernel
theorem dX10_init_14 : decode cX10_init 14 = .ok (.iconst (-1), 1) := by decide +kernel
theorem dX10_init_15 : decode cX10_init 15 = .ok (.iastore, 1) := by decide +kernel
theorem dX10_init_16 : decode cX10_init 16 = .ok (.dup, 1) := by decide +kernel
theorem dX10_init_17 : decode cX10_init 17 = .ok (.iconst 2, 1) := by decide +kernel
theorem dX10_init_18 : decode cX10_init 18 = .ok (.iconst (-1), 1) := by decide +kernel
theorem dX10_init_19 : decode cX10_init 19 = .ok (.iastore, 1) := by decide +kernel
theorem dX10_init_20 : decode cX10_init 20 = .ok (.dup, 1) := by decide +kernel
theorem dX10_init_21 : decode cX10_init 21 = .ok (.iconst 3, 1) := by decide +kernel
theorem dX10_init_22 : decode cX10_init 22 = .ok (.iconst (-1), 1) := by decide +kernel
theorem dX10_init_23 : decode cX10_init 23 = .ok (.iastore, 1) := by decide +kernel
theorem dX10_init_24 : decode cX10_init 24 = .ok (.putfield 9, 3) := by decide +kernel
theorem dX10_init_27 : decode cX10_init 27 = .ok (.aload_n 0, 1) := by decide +kernel
theorem dX10_init_28 : decode cX10_init 28 = .ok (.iconst 4, 1) := by decide +kernel
theorem dX10_init_29 : decode cX10_init 29 = .ok (.newarray .int, 2) := by decide +kernel
theorem dX10_init_31 : decode cX10_init 31 = .ok (.putfield 13, 3) := by decide +kernel
theorem dX10_init_34 : decode cX10_init 34 = .ok (.aload_n 0, 1) := by decide +kernel
theorem dX10_init_35 : decode cX10_init 35 = .ok (.sipush 240, 3) := by decide +kernel
theorem dX10_init_38 : decode cX10_init 38 = .ok (.newarray .long, 2) := by decide +kernel
theorem dX10_init_40 : decode cX10_init 40 = .ok (.putfield 16, 3) := by decide +kernel
theorem dX10_init_43 : decode cX10_init 43 = .ok (.aload_n 0, 1) := by decide +kernel
theorem dX10_init_44 : decode cX10_init 44 = .ok (.bipush 60, 2) := by decide +kernel
theorem dX10_init_46 : decode cX10_init 46 = .ok (.newarray .long, 2) := by decide +kernel
theorem dX10_init_48 : decode cX10_init 48 = .ok (.putfield 20, 3) := by decide +kernel
theorem dX10_init_51 : decode cX10_init 51 = .ok (.aload_n 0, 1) := by decide +kernel
theorem dX10_init_52 : decode cX10_init 52 = .ok (.bipush 8, 2) := by decide +kernel
theorem dX10_init_54 : decode cX10_init 54 = .ok (.putfield 23, 3) := by decide +kernel
theorem dX10_init_57 : decode cX10_init 57 = .ok (.aload_n 0, 1) := by decide +kernel
theorem dX10_init_58 : decode cX10_init 58 = .ok (.sipush 256, 3) := by decide +kernel
theorem dX10_init_61 : decode cX10_init 61 = .ok (.putfield 27, 3) := by decide +kernel
theorem dX10_init_64 : decode cX10_init 64 = .ok (.aload_n 0, 1) := by decide +kernel
theorem dX10_init_65 : decode cX10_init 65 = .ok (.bipush 50, 2) := by decide +kernel
theorem dX10_init_67 : decode cX10_init 67 = .ok (.putfield 30, 3) := by decide +kernel
theorem dX10_init_70 : decode cX10_init 70 = .ok (.aload_n 0, 1) := by decide +kernel
theorem dX10_init_71 : decode cX10_init 71 = .ok (.iconst 2, 1) := by decide +kernel
theorem dX10_init_72 : decode cX10_init 72 = .ok (.putfield 33, 3) := by decide +kernel
theorem dX10_init_75 : decode cX10_init 75 = .ok (.aload_n 0, 1) := by decide +kernel
theorem dX10_init_76 : decode cX10_init 76 = .ok (.bipush 6, 2) := by decide +kernel
theorem dX10_init_78 : decode cX10_init 78 = .ok (.newarray .int, 2) := by decide +kernel
theorem dX10_init_80 : decode cX10_init 80 = .ok (.putfield 36, 3) := by decide +kernel
theorem dX10_init_83 : decode cX10_init 83 = .ok (.aload_n 0, 1) := by decide +kernel
theorem dX10_init_84 : decode cX10_init 84 = .ok (.sipush 360, 3) := by decide +kernel
theorem dX10_init_87 : decode cX10_init 87 = .ok (.newarray .int, 2) := by decide +kernel
theorem dX10_init_89 : decode cX10_init 89 = .ok (.putfield 39, 3) := by decide +kernel
theorem dX10_init_92 : decode cX10_init 92 = .ok (.aload_n 0, 1) := by decide +kernel
theorem dX10_init_93 : decode cX10_init 93 = .ok (.bipush 6, 2) := by decide +kernel
theorem dX10_init_95 : decode cX10_init 95 = .ok (.newarray .int, 2) := by decide +kernel
theorem dX10_init_97 : decode cX10_init 97 = .ok (.putfield 42, 3) := by decide +kernel
theorem dX10_init_100 : decode cX10_init 100 = .ok (.aload_n 0, 1) := by decide +kernel
theorem dX10_init_101 : decode cX10_init 101 = .ok (.bipush 6, 2) := by decide +kernel
theorem dX10_init_103 : decode cX10_init 103 = .ok (.newarray .int, 2) := by decide +kernel
theorem dX10_init_105 : decode cX10_init 105 = .ok (.putfield 45, 3) := by decide +kernel
theorem dX10_init_108 : decode cX10_init 108 = .ok (.aload_n 0, 1) := by decide +kernel
theorem dX10_init_109 : decode cX10_init 109 = .ok (.bipush 6, 2) := by decide +kernel
theorem dX10_init_111 : decode cX10_init 111 = .ok (.newarray .int, 2) := by decide +kernel
theorem dX10_init_113 : decode cX10_init 113 = .ok (.putfield 48, 3) := by decide +kernel
theorem dX10_init_116 : decode cX10_init 116 = .ok (.aload_n 0, 1) := by decide +kernel
theorem dX10_init_117 : decode cX10_init 117 = .ok (.sipush 2400, 3) := by decide +kernel
theorem dX10_init_120 : decode cX10_init 120 = .ok (.newarray .int, 2) := by decide +kernel
theorem dX10_init_122 : decode cX10_init 122 = .ok (.putfield 51, 3) := by decide +kernel
theorem dX10_init_125 : decode cX10_init 125 = .ok (.aload_n 0, 1) := by decide +kernel
theorem dX10_init_126 : decode cX10_init 126 = .ok (.bipush 6, 2) := by decide +kernel
theorem dX10_init_128 : decode cX10_init 128 = .ok (.newarray .int, 2) := by decide +kernel
theorem dX10_init_130 : decode cX10_init 130 = .ok (.putfield 54, 3) := by decide +kernel
theorem dX10_init_133 : decode cX10_init 133 = .ok (.aload_n 0, 1) := by decide +kernel
theorem dX10_init_134 : decode cX10_init 134 = .ok (.bipush 6, 2) := by decide +kernel
theorem dX10_init_136 : decode cX10_init 136 = .ok (.newarray .int, 2) := by decide +kernel
theorem dX10_init_138 : decode cX10_init 138 = .ok (.putfield 57, 3) := by decide +kernel
theorem dX10_init_141 : decode cX10_init 141 = .ok (.aload_n 0, 1) := by decide +kernel
theorem dX10_init_142 : decode cX10_init 142 = .ok (.sipush 390, 3) := by decide +kernel
theorem dX10_init_145 : decode cX10_init 145 = .ok (.newarray .int, 2) := by decide +kernel
theorem dX10_init_147 : decode cX10_init 147 = .ok (.putfield 60, 3) := by decide +kernel
theorem dX10_init_150 : decode cX10_init 150 = .ok (.aload_n 0, 1) := by decide +kernel
theorem dX10_init_151 : decode cX10_init 151 = .ok (.sipush 455, 3) := by decide +kernel
theorem dX10_init_154 : decode cX10_init 154 = .ok (.newarray .long, 2) := by decide +kernel
theorem dX10_init_156 : decode cX10_init 156 = .ok (.putfield 63, 3) := by decide +kernel
theorem dX10_init_159 : decode cX10_init 159 = .ok (.aload_n 0, 1) := by decide +kernel
theorem dX10_init_160 : decode cX10_init 160 = .ok (.bipush 6, 2) := by decide +kernel
theorem dX10_init_162 : decode cX10_init 162 = .ok (.newarray .int, 2) := by decide +kernel
theorem dX10_init_164 : decode cX10_init 164 = .ok (.putfield 66, 3) := by decide +kernel
theorem dX10_init_167 : decode cX10_init 167 = .ok (.aload_n 0, 1) := by decide +kernel
theorem dX10_init_168 : decode cX10_init 168 = .ok (.bipush 6, 2) := by decide +kernel
theorem dX10_init_170 : decode cX10_init 170 = .ok (.newarray .int, 2) := by decide +kernel
theorem dX10_init_172 : decode cX10_init 172 = .ok (.putfield 69, 3) := by decide +kernel
theorem dX10_init_175 : decode cX10_init 175 = .ok (.aload_n 0, 1) := by decide +kernel
theorem dX10_init_176 : decode cX10_init 176 = .ok (.bipush 6, 2) := by decide +kernel
theorem dX10_init_178 : decode cX10_init 178 = .ok (.newarray .int, 2) := by decide +kernel
theorem dX10_init_180 : decode cX10_init 180 = .ok (.putfield 72, 3) := by decide +kernel
theorem dX10_init_183 : decode cX10_init 183 = .ok (.aload_n 0, 1) := by decide +kernel
theorem dX10_init_184 : decode cX10_init 184 = .ok (.bipush 6, 2) := by decide +kernel
theorem dX10_init_186 : decode cX10_init 186 = .ok (.newarray .int, 2) := by decide +kernel
theorem dX10_init_188 : decode cX10_init 188 = .ok (.putfield 75, 3) := by decide +kernel
theorem dX10_init_191 : decode cX10_init 191 = .ok (.aload_n 0, 1) := by decide +kernel
theorem dX10_init_192 : decode cX10_init 192 = .ok (.bipush 6, 2) := by decide +kernel
theorem dX10_init_194 : decode cX10_init 194 = .ok (.newarray .int, 2) := by decide +kernel
theorem dX10_init_196 : decode cX10_init 196 = .ok (.putfield 78, 3) := by decide +kernel
theorem dX10_init_199 : decode cX10_init 199 = .ok (.aload_n 0, 1) := by decide +kernel
theorem dX10_init_200 : decode cX10_init 200 = .ok (.bipush 6, 2) := by decide +kernel
theorem dX10_init_202 : decode cX10_init 202 = .ok (.newarray .int, 2) := by decide +kernel
theorem dX10_init_204 : decode cX10_init 204 = .ok (.putfield 81, 3) := by decide +kernel
theorem dX10_init_207 : decode cX10_init 207 = .ok (.aload_n 0, 1) := by decide +kernel
theorem dX10_init_208 : decode cX10_init 208 = .ok (.bipush 6, 2) := by decide +kernel
theorem dX10_init_210 : decode cX10_init 210 = .ok (.newarray .int, 2) := by decide +kernel
theorem dX10_init_212 : decode cX10_init 212 = .ok (.putfield 84, 3) := by decide +kernel
theorem dX10_init_215 : decode cX10_init 215 = .ok (.aload_n 0, 1) := by decide +kernel
theorem dX10_init_216 : decode cX10_init 216 = .ok (.bipush 6, 2) := by decide +kernel
theorem dX10_init_218 : decode cX10_init 218 = .ok (.newarray .int, 2) := by decide +kernel
theorem dX10_init_220 : decode cX10_init 220 = .ok (.putfield 87, 3) := by decide +kernel
theorem dX10_init_223 : decode cX10_init 223 = .ok (.aload_n 0, 1) := by decide +kernel
theorem dX10_init_224 : decode cX10_init 224 = .ok (.bipush 6, 2) := by decide +kernel
theorem dX10_init_226 : decode cX10_init 226 = .ok (.newarray .int, 2) := by decide +kernel
theorem dX10_init_228 : decode cX10_init 228 = .ok (.putfield 90, 3) := by decide +kernel
theorem dX10_init_231 : decode cX10_init 231 = .ok (.aload_n 0, 1) := by decide +kernel
theorem dX10_init_232 : decode cX10_init 232 = .ok (.bipush 6, 2) := by decide +kernel
theorem dX10_init_234 : decode cX10_init 234 = .ok (.newarray .int, 2) := by decide +kernel
theorem dX10_init_236 : decode cX10_init 236 = .ok (.putfield 93, 3) := by decide +kernel
theorem dX10_init_239 : decode cX10_init 239 = .ok (.aload_n 0, 1) := by decide +kernel
theorem dX10_init_240 : decode cX10_init 240 = .ok (.bipush 6, 2) := by decide +kernel
theorem dX10_init_242 : decode cX10_init 242 = .ok (.newarray .int, 2) := by decide +kernel
theorem dX10_init_244 : decode cX10_init 244 = .ok (.putfield 96, 3) := by decide +kernel
theorem dX10_init_247 : decode cX10_init 247 = .ok (.aload_n 0, 1) := by decide +kernel
theorem dX10_init_248 : decode cX10_init 248 = .ok (.bipush 6, 2) := by decide +kernel
theorem dX10_init_250 : decode cX10_init 250 = .ok (.newarray .int, 2) := by decide +kernel
theorem dX10_init_252 : decode cX10_init 252 = .ok (.putfield 99, 3) := by decide +kernel
theorem dX10_init_255 : decode cX10_init 255 = .ok (.aload_n 0, 1) := by decide +kernel
theorem dX10_init_256 : decode cX10_init 256 = .ok (.bipush 6, 2) := by decide +kernel
theorem dX10_init_258 : decode cX10_init 258 = .ok (.newarray .int, 2) := by decide +kernel
theorem dX10_init_260 : decode cX10_init 260 = .ok (.putfield 102, 3) := by decide +kernel
theorem dX10_init_263 : decode cX10_init 263 = .ok (.aload_n 0, 1) := by decide +kernel
theorem dX10_init_264 : decode cX10_init 264 = .ok (.bipush 6, 2) := by decide +kernel
theorem dX10_init_266 : decode cX10_init 266 = .ok (.newarray .int, 2) := by decide +kernel
theorem dX10_init_268 : decode cX10_init 268 = .ok (.putfield 105, 3) := by decide +kernel
theorem dX10_init_271 : decode cX10_init 271 = .ok (.aload_n 0, 1) := by decide +kernel
theorem dX10_init_272 : decode cX10_init 272 = .ok (.bipush 6, 2) := by decide +kernel
theorem dX10_init_274 : decode cX10_init 274 = .ok (.newarray .boolean, 2) := by decide +kernel
theorem dX10_init_276 : decode cX10_init 276 = .ok (.putfield 108, 3) := by decide +kernel
theorem dX10_init_279 : decode cX10_init 279 = .ok (.aload_n 0, 1) := by decide +kernel
theorem dX10_init_280 : decode cX10_init 280 = .ok (.bipush 6, 2) := by decide +kernel
theorem dX10_init_282 : decode cX10_init 282 = .ok (.newarray .boolean, 2) := by decide +kernel
theorem dX10_init_284 : decode cX10_init 284 = .ok (.putfield 112, 3) := by decide +kernel
theorem dX10_init_287 : decode cX10_init 287 = .ok (.aload_n 0, 1) := by decide +kernel
theorem dX10_init_288 : decode cX10_init 288 = .ok (.sipush 14400, 3) := by decide +kernel
theorem dX10_init_291 : decode cX10_init 291 = .ok (.newarray .int, 2) := by decide +kernel
theorem dX10_init_293 : decode cX10_init 293 = .ok (.putfield 115, 3) := by decide +kernel
theorem dX10_init_296 : decode cX10_init 296 = .ok (.aload_n 0, 1) := by decide +kernel
theorem dX10_init_297 : decode cX10_init 297 = .ok (.sipush 240, 3) := by decide +kernel
theorem dX10_init_300 : decode cX10_init 300 = .ok (.newarray .int, 2) := by decide +kernel
theorem dX10_init_302 : decode cX10_init 302 = .ok (.putfield 118, 3) := by decide +kernel
theorem dX10_init_305 : decode cX10_init 305 = .ok (.return_, 1) := by decide +kernel
theorem dX10_in_0 : decode cX10_in 0 = .ok (.iload_n 0, 1) := by decide +kernel
theorem dX10_in_1 : decode cX10_in 1 = .ok (.iload_n 1, 1) := by decide +kernel
theorem dX10_in_2 : decode cX10_in 2 = .ok (.if_icmp .lt 12, 3) := by decide +kernel
theorem dX10_in_5 : decode cX10_in 5 = .ok (.iload_n 0, 1) := by decide +kernel
theorem dX10_in_6 : decode cX10_in 6 = .ok (.iload_n 2, 1) := by decide +kernel
theorem dX10_in_7 : decode cX10_in 7 = .ok (.if_icmp .gt 7, 3) := by decide +kernel
theorem dX10_in_10 : decode cX10_in 10 = .ok (.iconst 1, 1) := by decide +kernel
theorem dX10_in_11 : decode cX10_in 11 = .ok (.goto 4, 3) := by decide +kernel
theorem dX10_in_14 : decode cX10_in 14 = .ok (.iconst 0, 1) := by decide +kernel
theorem dX10_in_15 : decode cX10_in 15 = .ok (.ireturn, 1) := by decide +kernel
theorem dX10_isSlot_0 : decode cX10_isSlot 0 = .ok (.iload_n 0, 1) := by decide +kernel
theorem dX10_isSlot_1 : decode cX10_isSlot 1 = .ok (.iconst 0, 1) := by decide +kernel
theorem dX10_isSlot_2 : decode cX10_isSlot 2 = .ok (.iconst 3, 1) := by decide +kernel
theorem dX10_isSlot_3 : decode cX10_isSlot 3 = .ok (.invokestatic 124, 3) := by decide +kernel
theorem dX10_isSlot_6 : decode cX10_isSlot 6 = .ok (.ireturn, 1) := by decide +kernel
theorem dX10_cut_0 : decode cX10_cut 0 = .ok (.iload_n 0, 1) := by decide +kernel
theorem dX10_cut_1 : decode cX10_cut 1 = .ok (.ifCond .ne 10, 3) := by decide +kernel
theorem dX10_cut_4 : decode cX10_cut 4 = .ok (.lload_n 1, 1) := by decide +kernel
theorem dX10_cut_5 : decode cX10_cut 5 = .ok (.l2i, 1) := by decide +kernel
theorem dX10_cut_6 : decode cX10_cut 6 = .ok (.i2b, 1) := by decide +kernel
theorem dX10_cut_7 : decode cX10_cut 7 = .ok (.i2l, 1) := by decide +kernel
theorem dX10_cut_8 : decode cX10_cut 8 = .ok (.goto 27, 3) := by decide +kernel
theorem dX10_cut_11 : decode cX10_cut 11 = .ok (.iload_n 0, 1) := by decide +kernel
theorem dX10_cut_12 : decode cX10_cut 12 = .ok (.iconst 1, 1) := by decide +kernel
theorem dX10_cut_13 : decode cX10_cut 13 = .ok (.if_icmp .ne 10, 3) := by decide +kernel
theorem dX10_cut_16 : decode cX10_cut 16 = .ok (.lload_n 1, 1) := by decide +kernel
theorem dX10_cut_17 : decode cX10_cut 17 = .ok (.l2i, 1) := by decide +kernel
theorem dX10_cut_18 : decode cX10_cut 18 = .ok (.i2s, 1) := by decide +kernel
theorem dX10_cut_19 : decode cX10_cut 19 = .ok (.i2l, 1) := by decide +kernel
theorem dX10_cut_20 : decode cX10_cut 20 = .ok (.goto 15, 3) := by decide +kernel
theorem dX10_cut_23 : decode cX10_cut 23 = .ok (.iload_n 0, 1) := by decide +kernel
theorem dX10_cut_24 : decode cX10_cut 24 = .ok (.iconst 2, 1) := by decide +kernel
theorem dX10_cut_25 : decode cX10_cut 25 = .ok (.if_icmp .ne 9, 3) := by decide +kernel
theorem dX10_cut_28 : decode cX10_cut 28 = .ok (.lload_n 1, 1) := by decide +kernel
theorem dX10_cut_29 : decode cX10_cut 29 = .ok (.l2i, 1) := by decide +kernel
theorem dX10_cut_30 : decode cX10_cut 30 = .ok (.i2l, 1) := by decide +kernel
theorem dX10_cut_31 : decode cX10_cut 31 = .ok (.goto 4, 3) := by decide +kernel
theorem dX10_cut_34 : decode cX10_cut 34 = .ok (.lload_n 1, 1) := by decide +kernel
theorem dX10_cut_35 : decode cX10_cut 35 = .ok (.lreturn, 1) := by decide +kernel
theorem dX10_row_0 : decode cX10_row 0 = .ok (.aload_n 0, 1) := by decide +kernel
theorem dX10_row_1 : decode cX10_row 1 = .ok (.iconst 0, 1) := by decide +kernel
theorem dX10_row_2 : decode cX10_row 2 = .ok (.putfield 121, 3) := by decide +kernel
theorem dX10_row_5 : decode cX10_row 5 = .ok (.iload_n 1, 1) := by decide +kernel
theorem dX10_row_6 : decode cX10_row 6 = .ok (.invokestatic 128, 3) := by decide +kernel
theorem dX10_row_9 : decode cX10_row 9 = .ok (.ifCond .eq 18, 3) := by decide +kernel
theorem dX10_row_12 : decode cX10_row 12 = .ok (.iload_n 2, 1) := by decide +kernel
theorem dX10_row_13 : decode cX10_row 13 = .ok (.iconst 0, 1) := by decide +kernel
theorem dX10_row_14 : decode cX10_row 14 = .ok (.iconst 3, 1) := by decide +kernel
theorem dX10_row_15 : decode cX10_row 15 = .ok (.invokestatic 124, 3) := by decide +kernel
theorem dX10_row_18 : decode cX10_row 18 = .ok (.ifCond .eq 9, 3) := by decide +kernel
theorem dX10_row_21 : decode cX10_row 21 = .ok (.iload_n 3, 1) := by decide +kernel
theorem dX10_row_22 : decode cX10_row 22 = .ok (.bipush 60, 2) := by decide +kernel
theorem dX10_row_24 : decode cX10_row 24 = .ok (.if_icmp .le 6, 3) := by decide +kernel
theorem dX10_row_27 : decode cX10_row 27 = .ok (.bipush (-2), 2) := by decide +kernel
theorem dX10_row_29 : decode cX10_row 29 = .ok (.ireturn, 1) := by decide +kernel
theorem dX10_row_30 : decode cX10_row 30 = .ok (.iload_n 3, 1) := by decide +kernel
theorem dX10_row_31 : decode cX10_row 31 = .ok (.ifCond .ge 6, 3) := by decide +kernel
theorem dX10_row_34 : decode cX10_row 34 = .ok (.bipush (-3), 2) := by decide +kernel
theorem dX10_row_36 : decode cX10_row 36 = .ok (.ireturn, 1) := by decide +kernel
theorem dX10_row_37 : decode cX10_row 37 = .ok (.aload_n 0, 1) := by decide +kernel
theorem dX10_row_38 : decode cX10_row 38 = .ok (.getfield 9, 3) := by decide +kernel
theorem dX10_row_41 : decode cX10_row 41 = .ok (.iload_n 1, 1) := by decide +kernel
theorem dX10_row_42 : decode cX10_row 42 = .ok (.iload_n 2, 1) := by decide +kernel
theorem dX10_row_43 : decode cX10_row 43 = .ok (.iastore, 1) := by decide +kernel
theorem dX10_row_44 : decode cX10_row 44 = .ok (.aload_n 0, 1) := by decide +kernel
theorem dX10_row_45 : decode cX10_row 45 = .ok (.getfield 13, 3) := by decide +kernel
theorem dX10_row_48 : decode cX10_row 48 = .ok (.iload_n 1, 1) := by decide +kernel
theorem dX10_row_49 : decode cX10_row 49 = .ok (.iload_n 3, 1) := by decide +kernel
theorem dX10_row_50 : decode cX10_row 50 = .ok (.iastore, 1) := by decide +kernel
theorem dX10_row_51 : decode cX10_row 51 = .ok (.iconst 0, 1) := by decide +kernel
theorem dX10_row_52 : decode cX10_row 52 = .ok (.istore 4, 2) := by decide +kernel
theorem dX10_row_54 : decode cX10_row 54 = .ok (.iload 4, 2) := by decide +kernel
theorem dX10_row_56 : decode cX10_row 56 = .ok (.bipush 60, 2) := by decide +kernel
theorem dX10_row_58 : decode cX10_row 58 = .ok (.if_icmp .ge 22, 3) := by decide +kernel
theorem dX10_row_61 : decode cX10_row 61 = .ok (.aload_n 0, 1) := by decide +kernel
theorem dX10_row_62 : decode cX10_row 62 = .ok (.getfield 16, 3) := by decide +kernel
theorem dX10_row_65 : decode cX10_row 65 = .ok (.bipush 60, 2) := by decide +kernel
theorem dX10_row_67 : decode cX10_row 67 = .ok (.iload_n 1, 1) := by decide +kernel
theorem dX10_row_68 : decode cX10_row 68 = .ok (.imul, 1) := by decide +kernel
theorem dX10_row_69 : decode cX10_row 69 = .ok (.iload 4, 2) := by decide +kernel
theorem dX10_row_71 : decode cX10_row 71 = .ok (.iadd, 1) := by decide +kernel
theorem dX10_row_72 : decode cX10_row 72 = .ok (.lconst 0, 1) := by decide +kernel
theorem dX10_row_73 : decode cX10_row 73 = .ok (.lastore, 1) := by decide +kernel
theorem dX10_row_74 : decode cX10_row 74 = .ok (.iinc 4 1, 3) := by decide +kernel
theorem dX10_row_77 : decode cX10_row 77 = .ok (.goto (-23), 3) := by decide +kernel
theorem dX10_row_80 : decode cX10_row 80 = .ok (.iconst 0, 1) := by decide +kernel
theorem dX10_row_81 : decode cX10_row 81 = .ok (.ireturn, 1) := by decide +kernel
theorem dX10_tear_0 : decode cX10_tear 0 = .ok (.aload_n 0, 1) := by decide +kernel
theorem dX10_tear_1 : decode cX10_tear 1 = .ok (.iconst 0, 1) := by decide +kernel
theorem dX10_tear_2 : decode cX10_tear 2 = .ok (.putfield 121, 3) := by decide +kernel
theorem dX10_tear_5 : decode cX10_tear 5 = .ok (.iload_n 1, 1) := by decide +kernel
theorem dX10_tear_6 : decode cX10_tear 6 = .ok (.invokestatic 128, 3) := by decide +kernel
theorem dX10_tear_9 : decode cX10_tear 9 = .ok (.ifCond .eq 12, 3) := by decide +kernel
theorem dX10_tear_12 : decode cX10_tear 12 = .ok (.aload_n 0, 1) := by decide +kernel
theorem dX10_tear_13 : decode cX10_tear 13 = .ok (.getfield 9, 3) := by decide +kernel
theorem dX10_tear_16 : decode cX10_tear 16 = .ok (.iload_n 1, 1) := by decide +kernel
theorem dX10_tear_17 : decode cX10_tear 17 = .ok (.iaload, 1) := by decide +kernel
theorem dX10_tear_18 : decode cX10_tear 18 = .ok (.ifCond .ge 5, 3) := by decide +kernel
theorem dX10_tear_21 : decode cX10_tear 21 = .ok (.iconst 0, 1) := by decide +kernel
theorem dX10_tear_22 : decode cX10_tear 22 = .ok (.ireturn, 1) := by decide +kernel
theorem dX10_tear_23 : decode cX10_tear 23 = .ok (.aload_n 0, 1) := by decide +kernel
theorem dX10_tear_24 : decode cX10_tear 24 = .ok (.getfield 9, 3) := by decide +kernel
theorem dX10_tear_27 : decode cX10_tear 27 = .ok (.iload_n 1, 1) := by decide +kernel
theorem dX10_tear_28 : decode cX10_tear 28 = .ok (.iconst (-1), 1) := by decide +kernel
theorem dX10_tear_29 : decode cX10_tear 29 = .ok (.iastore, 1) := by decide +kernel
theorem dX10_tear_30 : decode cX10_tear 30 = .ok (.iconst 1, 1) := by decide +kernel
theorem dX10_tear_31 : decode cX10_tear 31 = .ok (.ireturn, 1) := by decide +kernel
theorem dX10_write_0 : decode cX10_write 0 = .ok (.aload_n 0, 1) := by decide +kernel
theorem dX10_write_1 : decode cX10_write 1 = .ok (.iconst 0, 1) := by decide +kernel
theorem dX10_write_2 : decode cX10_write 2 = .ok (.putfield 121, 3) := by decide +kernel
theorem dX10_write_5 : decode cX10_write 5 = .ok (.iload_n 1, 1) := by decide +kernel
theorem dX10_write_6 : decode cX10_write 6 = .ok (.invokestatic 128, 3) := by decide +kernel
theorem dX10_write_9 : decode cX10_write 9 = .ok (.ifCond .ne 6, 3) := by decide +kernel
theorem dX10_write_12 : decode cX10_write 12 = .ok (.bipush (-2), 2) := by decide +kernel
theorem dX10_write_14 : decode cX10_write 14 = .ok (.ireturn, 1) := by decide +kernel
theorem dX10_write_15 : decode cX10_write 15 = .ok (.aload_n 0, 1) := by decide +kernel
theorem dX10_write_16 : decode cX10_write 16 = .ok (.getfield 9, 3) := by decide +kernel
theorem dX10_write_19 : decode cX10_write 19 = .ok (.iload_n 1, 1) := by decide +kernel
theorem dX10_write_20 : decode cX10_write 20 = .ok (.iaload, 1) := by decide +kernel
theorem dX10_write_21 : decode cX10_write 21 = .ok (.ifCond .ge 6, 3) := by decide +kernel
theorem dX10_write_24 : decode cX10_write 24 = .ok (.bipush (-5), 2) := by decide +kernel
theorem dX10_write_26 : decode cX10_write 26 = .ok (.ireturn, 1) := by decide +kernel
theorem dX10_write_27 : decode cX10_write 27 = .ok (.iload_n 2, 1) := by decide +kernel
theorem dX10_write_28 : decode cX10_write 28 = .ok (.iconst 0, 1) := by decide +kernel
theorem dX10_write_29 : decode cX10_write 29 = .ok (.aload_n 0, 1) := by decide +kernel
theorem dX10_write_30 : decode cX10_write 30 = .ok (.getfield 13, 3) := by decide +kernel
theorem dX10_write_33 : decode cX10_write 33 = .ok (.iload_n 1, 1) := by decide +kernel
theorem dX10_write_34 : decode cX10_write 34 = .ok (.iaload, 1) := by decide +kernel
theorem dX10_write_35 : decode cX10_write 35 = .ok (.iconst 1, 1) := by decide +kernel
theorem dX10_write_36 : decode cX10_write 36 = .ok (.isub, 1) := by decide +kernel
theorem dX10_write_37 : decode cX10_write 37 = .ok (.invokestatic 124, 3) := by decide +kernel
theorem dX10_write_40 : decode cX10_write 40 = .ok (.ifCond .ne 6, 3) := by decide +kernel
theorem dX10_write_43 : decode cX10_write 43 = .ok (.bipush (-6), 2) := by decide +kernel
theorem dX10_write_45 : decode cX10_write 45 = .ok (.ireturn, 1) := by decide +kernel
theorem dX10_write_46 : decode cX10_write 46 = .ok (.aload_n 0, 1) := by decide +kernel
theorem dX10_write_47 : decode cX10_write 47 = .ok (.getfield 16, 3) := by decide +kernel
theorem dX10_write_50 : decode cX10_write 50 = .ok (.bipush 60, 2) := by decide +kernel
theorem dX10_write_52 : decode cX10_write 52 = .ok (.iload_n 1, 1) := by decide +kernel
theorem dX10_write_53 : decode cX10_write 53 = .ok (.imul, 1) := by decide +kernel
theorem dX10_write_54 : decode cX10_write 54 = .ok (.iload_n 2, 1) := by decide +kernel
theorem dX10_write_55 : decode cX10_write 55 = .ok (.iadd, 1) := by decide +kernel
theorem dX10_write_56 : decode cX10_write 56 = .ok (.aload_n 0, 1) := by decide +kernel
theorem dX10_write_57 : decode cX10_write 57 = .ok (.getfield 9, 3) := by decide +kernel
theorem dX10_write_60 : decode cX10_write 60 = .ok (.iload_n 1, 1) := by decide +kernel
theorem dX10_write_61 : decode cX10_write 61 = .ok (.iaload, 1) := by decide +kernel
theorem dX10_write_62 : decode cX10_write 62 = .ok (.lload_n 3, 1) := by decide +kernel
theorem dX10_write_63 : decode cX10_write 63 = .ok (.invokestatic 132, 3) := by decide +kernel
theorem dX10_write_66 : decode cX10_write 66 = .ok (.lastore, 1) := by decide +kernel
theorem dX10_write_67 : decode cX10_write 67 = .ok (.iconst 0, 1) := by decide +kernel
theorem dX10_write_68 : decode cX10_write 68 = .ok (.ireturn, 1) := by decide +kernel
theorem dX10_paste_0 : decode cX10_paste 0 = .ok (.aload_n 0, 1) := by decide +kernel
theorem dX10_paste_1 : decode cX10_paste 1 = .ok (.iconst 0, 1) := by decide +kernel
theorem dX10_paste_2 : decode cX10_paste 2 = .ok (.putfield 121, 3) := by decide +kernel
theorem dX10_paste_5 : decode cX10_paste 5 = .ok (.iload_n 1, 1) := by decide +kernel
theorem dX10_paste_6 : decode cX10_paste 6 = .ok (.invokestatic 128, 3) := by decide +kernel
theorem dX10_paste_9 : decode cX10_paste 9 = .ok (.ifCond .eq 10, 3) := by decide +kernel
theorem dX10_paste_12 : decode cX10_paste 12 = .ok (.iload_n 3, 1) := by decide +kernel
theorem dX10_paste_13 : decode cX10_paste 13 = .ok (.invokestatic 128, 3) := by decide +kernel
theorem dX10_paste_16 : decode cX10_paste 16 = .ok (.ifCond .ne 6, 3) := by decide +kernel
theorem dX10_paste_19 : decode cX10_paste 19 = .ok (.bipush (-2), 2) := by decide +kernel
theorem dX10_paste_21 : decode cX10_paste 21 = .ok (.ireturn, 1) := by decide +kernel
theorem dX10_paste_22 : decode cX10_paste 22 = .ok (.aload_n 0, 1) := by decide +kernel
theorem dX10_paste_23 : decode cX10_paste 23 = .ok (.getfield 9, 3) := by decide +kernel
theorem dX10_paste_26 : decode cX10_paste 26 = .ok (.iload_n 1, 1) := by decide +kernel
theorem dX10_paste_27 : decode cX10_paste 27 = .ok (.iaload, 1) := by decide +kernel
theorem dX10_paste_28 : decode cX10_paste 28 = .ok (.ifCond .lt 12, 3) := by decide +kernel
theorem dX10_paste_31 : decode cX10_paste 31 = .ok (.aload_n 0, 1) := by decide +kernel
theorem dX10_paste_32 : decode cX10_paste 32 = .ok (.getfield 9, 3) := by decide +kernel
theorem dX10_paste_35 : decode cX10_paste 35 = .ok (.iload_n 3, 1) := by decide +kernel
theorem dX10_paste_36 : decode cX10_paste 36 = .ok (.iaload, 1) := by decide +kernel
theorem dX10_paste_37 : decode cX10_paste 37 = .ok (.ifCond .ge 6, 3) := by decide +kernel
theorem dX10_paste_40 : decode cX10_paste 40 = .ok (.bipush (-5), 2) := by decide +kernel
theorem dX10_paste_42 : decode cX10_paste 42 = .ok (.ireturn, 1) := by decide +kernel
theorem dX10_paste_43 : decode cX10_paste 43 = .ok (.aload_n 0, 1) := by decide +kernel
theorem dX10_paste_44 : decode cX10_paste 44 = .ok (.getfield 9, 3) := by decide +kernel
theorem dX10_paste_47 : decode cX10_paste 47 = .ok (.iload_n 1, 1) := by decide +kernel
theorem dX10_paste_48 : decode cX10_paste 48 = .ok (.iaload, 1) := by decide +kernel
theorem dX10_paste_49 : decode cX10_paste 49 = .ok (.aload_n 0, 1) := by decide +kernel
theorem dX10_paste_50 : decode cX10_paste 50 = .ok (.getfield 9, 3) := by decide +kernel
theorem dX10_paste_53 : decode cX10_paste 53 = .ok (.iload_n 3, 1) := by decide +kernel
theorem dX10_paste_54 : decode cX10_paste 54 = .ok (.iaload, 1) := by decide +kernel
theorem dX10_paste_55 : decode cX10_paste 55 = .ok (.if_icmp .eq 6, 3) := by decide +kernel
theorem dX10_paste_58 : decode cX10_paste 58 = .ok (.bipush (-7), 2) := by decide +kernel
theorem dX10_paste_60 : decode cX10_paste 60 = .ok (.ireturn, 1) := by decide +kernel
theorem dX10_paste_61 : decode cX10_paste 61 = .ok (.iload_n 2, 1) := by decide +kernel
theorem dX10_paste_62 : decode cX10_paste 62 = .ok (.ifCond .lt 48, 3) := by decide +kernel
theorem dX10_paste_65 : decode cX10_paste 65 = .ok (.iload 4, 2) := by decide +kernel
theorem dX10_paste_67 : decode cX10_paste 67 = .ok (.ifCond .lt 43, 3) := by decide +kernel
theorem dX10_paste_70 : decode cX10_paste 70 = .ok (.iload 5, 2) := by decide +kernel
theorem dX10_paste_72 : decode cX10_paste 72 = .ok (.ifCond .lt 38, 3) := by decide +kernel
theorem dX10_paste_75 : decode cX10_paste 75 = .ok (.iload_n 2, 1) := by decide +kernel
theorem dX10_paste_76 : decode cX10_paste 76 = .ok (.i2l, 1) := by decide +kernel
theorem dX10_paste_77 : decode cX10_paste 77 = .ok (.iload 5, 2) := by decide +kernel
theorem dX10_paste_79 : decode cX10_paste 79 = .ok (.i2l, 1) := by decide +kernel
theorem dX10_paste_80 : decode cX10_paste 80 = .ok (.ladd, 1) := by decide +kernel
theorem dX10_paste_81 : decode cX10_paste 81 = .ok (.aload_n 0, 1) := by decide +kernel
theorem dX10_paste_82 : decode cX10_paste 82 = .ok (.getfield 13, 3) := by decide +kernel
theorem dX10_paste_85 : decode cX10_paste 85 = .ok (.iload_n 1, 1) := by decide +kernel
theorem dX10_paste_86 : decode cX10_paste 86 = .ok (.iaload, 1) := by decide +kernel
theorem dX10_paste_87 : decode cX10_paste 87 = .ok (.i2l, 1) := by decide +kernel
theorem dX10_paste_88 : decode cX10_paste 88 = .ok (.lcmp, 1) := by decide +kernel
theorem dX10_paste_89 : decode cX10_paste 89 = .ok (.ifCond .gt 21, 3) := by decide +kernel
theorem dX10_paste_92 : decode cX10_paste 92 = .ok (.iload 4, 2) := by decide +kernel
theorem dX10_paste_94 : decode cX10_paste 94 = .ok (.i2l, 1) := by decide +kernel
theorem dX10_paste_95 : decode cX10_paste 95 = .ok (.iload 5, 2) := by decide +kernel
theorem dX10_paste_97 : decode cX10_paste 97 = .ok (.i2l, 1) := by decide +kernel
theorem dX10_paste_98 : decode cX10_paste 98 = .ok (.ladd, 1) := by decide +kernel
theorem dX10_paste_99 : decode cX10_paste 99 = .ok (.aload_n 0, 1) := by decide +kernel
theorem dX10_paste_100 : decode cX10_paste 100 = .ok (.getfield 13, 3) := by decide +kernel
theorem dX10_paste_103 : decode cX10_paste 103 = .ok (.iload_n 3, 1) := by decide +kernel
theorem dX10_paste_104 : decode cX10_paste 104 = .ok (.iaload, 1) := by decide +kernel
theorem dX10_paste_105 : decode cX10_paste 105 = .ok (.i2l, 1) := by decide +kernel
theorem dX10_paste_106 : decode cX10_paste 106 = .ok (.lcmp, 1) := by decide +kernel
theorem dX10_paste_107 : decode cX10_paste 107 = .ok (.ifCond .le 6, 3) := by decide +kernel
theorem dX10_paste_110 : decode cX10_paste 110 = .ok (.bipush (-6), 2) := by decide +kernel
theorem dX10_paste_112 : decode cX10_paste 112 = .ok (.ireturn, 1) := by decide +kernel
theorem dX10_paste_113 : decode cX10_paste 113 = .ok (.iconst 0, 1) := by decide +kernel
theorem dX10_paste_114 : decode cX10_paste 114 = .ok (.istore 6, 2) := by decide +kernel
theorem dX10_paste_116 : decode cX10_paste 116 = .ok (.iload 6, 2) := by decide +kernel
theorem dX10_paste_118 : decode cX10_paste 118 = .ok (.iload 5, 2) := by decide +kernel
theorem dX10_paste_120 : decode cX10_paste 120 = .ok (.if_icmp .ge 30, 3) := by decide +kernel
theorem dX10_paste_123 : decode cX10_paste 123 = .ok (.aload_n 0, 1) := by decide +kernel
theorem dX10_paste_124 : decode cX10_paste 124 = .ok (.getfield 20, 3) := by decide +kernel
theorem dX10_paste_127 : decode cX10_paste 127 = .ok (.iload 6, 2) := by decide +kernel
theorem dX10_paste_129 : decode cX10_paste 129 = .ok (.aload_n 0, 1) := by decide +kernel
theorem dX10_paste_130 : decode cX10_paste 130 = .ok (.getfield 16, 3) := by decide +kernel
theorem dX10_paste_133 : decode cX10_paste 133 = .ok (.bipush 60, 2) := by decide +kernel
theorem dX10_paste_135 : decode cX10_paste 135 = .ok (.iload_n 1, 1) := by decide +kernel
theorem dX10_paste_136 : decode cX10_paste 136 = .ok (.imul, 1) := by decide +kernel
theorem dX10_paste_137 : decode cX10_paste 137 = .ok (.iload_n 2, 1) := by decide +kernel
theorem dX10_paste_138 : decode cX10_paste 138 = .ok (.iadd, 1) := by decide +kernel
theorem dX10_paste_139 : decode cX10_paste 139 = .ok (.iload 6, 2) := by decide +kernel
theorem dX10_paste_141 : decode cX10_paste 141 = .ok (.iadd, 1) := by decide +kernel
theorem dX10_paste_142 : decode cX10_paste 142 = .ok (.laload, 1) := by decide +kernel
theorem dX10_paste_143 : decode cX10_paste 143 = .ok (.lastore, 1) := by decide +kernel
theorem dX10_paste_144 : decode cX10_paste 144 = .ok (.iinc 6 1, 3) := by decide +kernel
theorem dX10_paste_147 : decode cX10_paste 147 = .ok (.goto (-31), 3) := by decide +kernel
theorem dX10_paste_150 : decode cX10_paste 150 = .ok (.iconst 0, 1) := by decide +kernel
theorem dX10_paste_151 : decode cX10_paste 151 = .ok (.istore 6, 2) := by decide +kernel
theorem dX10_paste_153 : decode cX10_paste 153 = .ok (.iload 6, 2) := by decide +kernel
theorem dX10_paste_155 : decode cX10_paste 155 = .ok (.iload 5, 2) := by decide +kernel
theorem dX10_paste_157 : decode cX10_paste 157 = .ok (.if_icmp .ge 31, 3) := by decide +kernel
theorem dX10_paste_160 : decode cX10_paste 160 = .ok (.aload_n 0, 1) := by decide +kernel
theorem dX10_paste_161 : decode cX10_paste 161 = .ok (.getfield 16, 3) := by decide +kernel
theorem dX10_paste_164 : decode cX10_paste 164 = .ok (.bipush 60, 2) := by decide +kernel
theorem dX10_paste_166 : decode cX10_paste 166 = .ok (.iload_n 3, 1) := by decide +kernel
theorem dX10_paste_167 : decode cX10_paste 167 = .ok (.imul, 1) := by decide +kernel
theorem dX10_paste_168 : decode cX10_paste 168 = .ok (.iload 4, 2) := by decide +kernel
theorem dX10_paste_170 : decode cX10_paste 170 = .ok (.iadd, 1) := by decide +kernel
theorem dX10_paste_171 : decode cX10_paste 171 = .ok (.iload 6, 2) := by decide +kernel
theorem dX10_paste_173 : decode cX10_paste 173 = .ok (.iadd, 1) := by decide +kernel
theorem dX10_paste_174 : decode cX10_paste 174 = .ok (.aload_n 0, 1) := by decide +kernel
theorem dX10_paste_175 : decode cX10_paste 175 = .ok (.getfield 20, 3) := by decide +kernel
theorem dX10_paste_178 : decode cX10_paste 178 = .ok (.iload 6, 2) := by decide +kernel
theorem dX10_paste_180 : decode cX10_paste 180 = .ok (.laload, 1) := by decide +kernel
theorem dX10_paste_181 : decode cX10_paste 181 = .ok (.lastore, 1) := by decide +kernel
theorem dX10_paste_182 : decode cX10_paste 182 = .ok (.iinc 6 1, 3) := by decide +kernel
theorem dX10_paste_185 : decode cX10_paste 185 = .ok (.goto (-32), 3) := by decide +kernel
theorem dX10_paste_188 : decode cX10_paste 188 = .ok (.iconst 0, 1) := by decide +kernel
theorem dX10_paste_189 : decode cX10_paste 189 = .ok (.ireturn, 1) := by decide +kernel
theorem dX10_terms_0 : decode cX10_terms 0 = .ok (.aload_n 0, 1) := by decide +kernel
theorem dX10_terms_1 : decode cX10_terms 1 = .ok (.iconst 0, 1) := by decide +kernel
theorem dX10_terms_2 : decode cX10_terms 2 = .ok (.putfield 121, 3) := by decide +kernel
theorem dX10_terms_5 : decode cX10_terms 5 = .ok (.aload_n 0, 1) := by decide +kernel
theorem dX10_terms_6 : decode cX10_terms 6 = .ok (.getfield 136, 3) := by decide +kernel
theorem dX10_terms_9 : decode cX10_terms 9 = .ok (.ifCond .eq 6, 3) := by decide +kernel
theorem dX10_terms_12 : decode cX10_terms 12 = .ok (.bipush (-9), 2) := by decide +kernel
theorem dX10_terms_14 : decode cX10_terms 14 = .ok (.ireturn, 1) := by decide +kernel
theorem dX10_terms_15 : decode cX10_terms 15 = .ok (.iload_n 1, 1) := by decide +kernel
theorem dX10_terms_16 : decode cX10_terms 16 = .ok (.iconst 1, 1) := by decide +kernel
theorem dX10_terms_17 : decode cX10_terms 17 = .ok (.bipush 64, 2) := by decide +kernel
theorem dX10_terms_19 : decode cX10_terms 19 = .ok (.invokestatic 124, 3) := by decide +kernel
theorem dX10_terms_22 : decode cX10_terms 22 = .ok (.ifCond .eq 66, 3) := by decide +kernel
theorem dX10_terms_25 : decode cX10_terms 25 = .ok (.iload_n 2, 1) := by decide +kernel
theorem dX10_terms_26 : decode cX10_terms 26 = .ok (.iload_n 1, 1) := by decide +kernel
theorem dX10_terms_27 : decode cX10_terms 27 = .ok (.sipush 4096, 3) := by decide +kernel
theorem dX10_terms_30 : decode cX10_terms 30 = .ok (.invokestatic 124, 3) := by decide +kernel
theorem dX10_terms_33 : decode cX10_terms 33 = .ok (.ifCond .eq 55, 3) := by decide +kernel
theorem dX10_terms_36 : decode cX10_terms 36 = .ok (.iload_n 2, 1) := by decide +kernel
theorem dX10_terms_37 : decode cX10_terms 37 = .ok (.iload_n 1, 1) := by decide +kernel
theorem dX10_terms_38 : decode cX10_terms 38 = .ok (.irem, 1) := by decide +kernel
theorem dX10_terms_39 : decode cX10_terms 39 = .ok (.ifCond .ne 49, 3) := by decide +kernel
theorem dX10_terms_42 : decode cX10_terms 42 = .ok (.iload_n 2, 1) := by decide +kernel
theorem dX10_terms_43 : decode cX10_terms 43 = .ok (.iload_n 1, 1) := by decide +kernel
theorem dX10_terms_44 : decode cX10_terms 44 = .ok (.idiv, 1) := by decide +kernel
theorem dX10_terms_45 : decode cX10_terms 45 = .ok (.bipush 64, 2) := by decide +kernel
theorem dX10_terms_47 : decode cX10_terms 47 = .ok (.if_icmp .gt 41, 3) := by decide +kernel
theorem dX10_terms_50 : decode cX10_terms 50 = .ok (.iload_n 3, 1) := by decide +kernel
theorem dX10_terms_51 : decode cX10_terms 51 = .ok (.iconst 0, 1) := by decide +kernel
theorem dX10_terms_52 : decode cX10_terms 52 = .ok (.iload_n 2, 1) := by decide +kernel
theorem dX10_terms_53 : decode cX10_terms 53 = .ok (.invokestatic 124, 3) := by decide +kernel
theorem dX10_terms_56 : decode cX10_terms 56 = .ok (.ifCond .eq 32, 3) := by decide +kernel
theorem dX10_terms_59 : decode cX10_terms 59 = .ok (.iload_n 3, 1) := by decide +kernel
theorem dX10_terms_60 : decode cX10_terms 60 = .ok (.iload_n 1, 1) := by decide +kernel
theorem dX10_terms_61 : decode cX10_terms 61 = .ok (.irem, 1) := by decide +kernel
theorem dX10_terms_62 : decode cX10_terms 62 = .ok (.ifCond .ne 26, 3) := by decide +kernel
theorem dX10_terms_65 : decode cX10_terms 65 = .ok (.iload 4, 2) := by decide +kernel
theorem dX10_terms_67 : decode cX10_terms 67 = .ok (.iconst 1, 1) := by decide +kernel
theorem dX10_terms_68 : decode cX10_terms 68 = .ok (.sipush 1000, 3) := by decide +kernel
theorem dX10_terms_71 : decode cX10_terms 71 = .ok (.invokestatic 124, 3) := by decide +kernel
theorem dX10_terms_74 : decode cX10_terms 74 = .ok (.ifCond .eq 14, 3) := by decide +kernel
theorem dX10_terms_77 : decode cX10_terms 77 = .ok (.iload 5, 2) := by decide +kernel
theorem dX10_terms_79 : decode cX10_terms 79 = .ok (.iconst 0, 1) := by decide +kernel
theorem dX10_terms_80 : decode cX10_terms 80 = .ok (.bipush 9, 2) := by decide +kernel
theorem dX10_terms_82 : decode cX10_terms 82 = .ok (.invokestatic 124, 3) := by decide +kernel
theorem dX10_terms_85 : decode cX10_terms 85 = .ok (.ifCond .ne 6, 3) := by decide +kernel
theorem dX10_terms_88 : decode cX10_terms 88 = .ok (.bipush (-2), 2) := by decide +kernel
theorem dX10_terms_90 : decode cX10_terms 90 = .ok (.ireturn, 1) := by decide +kernel
theorem dX10_terms_91 : decode cX10_terms 91 = .ok (.aload_n 0, 1) := by decide +kernel
theorem dX10_terms_92 : decode cX10_terms 92 = .ok (.iload_n 1, 1) := by decide +kernel
theorem dX10_terms_93 : decode cX10_terms 93 = .ok (.putfield 23, 3) := by decide +kernel
theorem dX10_terms_96 : decode cX10_terms 96 = .ok (.aload_n 0, 1) := by decide +kernel
theorem dX10_terms_97 : decode cX10_terms 97 = .ok (.iload_n 2, 1) := by decide +kernel
theorem dX10_terms_98 : decode cX10_terms 98 = .ok (.putfield 27, 3) := by decide +kernel
theorem dX10_terms_101 : decode cX10_terms 101 = .ok (.aload_n 0, 1) := by decide +kernel
theorem dX10_terms_102 : decode cX10_terms 102 = .ok (.iload_n 3, 1) := by decide +kernel
theorem dX10_terms_103 : decode cX10_terms 103 = .ok (.putfield 140, 3) := by decide +kernel
theorem dX10_terms_106 : decode cX10_terms 106 = .ok (.aload_n 0, 1) := by decide +kernel
theorem dX10_terms_107 : decode cX10_terms 107 = .ok (.iload 4, 2) := by decide +kernel
theorem dX10_terms_109 : decode cX10_terms 109 = .ok (.putfield 30, 3) := by decide +kernel
theorem dX10_terms_112 : decode cX10_terms 112 = .ok (.aload_n 0, 1) := by decide +kernel
theorem dX10_terms_113 : decode cX10_terms 113 = .ok (.iload 5, 2) := by decide +kernel
theorem dX10_terms_115 : decode cX10_terms 115 = .ok (.putfield 33, 3) := by decide +kernel
theorem dX10_terms_118 : decode cX10_terms 118 = .ok (.aload_n 0, 1) := by decide +kernel
theorem dX10_terms_119 : decode cX10_terms 119 = .ok (.iconst 0, 1) := by decide +kernel
theorem dX10_terms_120 : decode cX10_terms 120 = .ok (.putfield 143, 3) := by decide +kernel
theorem dX10_terms_123 : decode cX10_terms 123 = .ok (.iconst 0, 1) := by decide +kernel
theorem dX10_terms_124 : decode cX10_terms 124 = .ok (.ireturn, 1) := by decide +kernel
theorem dX10_program_0 : decode cX10_program 0 = .ok (.aload_n 0, 1) := by decide +kernel
theorem dX10_program_1 : decode cX10_program 1 = .ok (.iconst 0, 1) := by decide +kernel
theorem dX10_program_2 : decode cX10_program 2 = .ok (.putfield 121, 3) := by decide +kernel
theorem dX10_program_5 : decode cX10_program 5 = .ok (.aload_n 0, 1) := by decide +kernel
theorem dX10_program_6 : decode cX10_program 6 = .ok (.getfield 136, 3) := by decide +kernel
theorem dX10_program_9 : decode cX10_program 9 = .ok (.ifCond .eq 6, 3) := by decide +kernel
theorem dX10_program_12 : decode cX10_program 12 = .ok (.bipush (-9), 2) := by decide +kernel
theorem dX10_program_14 : decode cX10_program 14 = .ok (.ireturn, 1) := by decide +kernel
theorem dX10_program_15 : decode cX10_program 15 = .ok (.iload_n 1, 1) := by decide +kernel
theorem dX10_program_16 : decode cX10_program 16 = .ok (.invokestatic 128, 3) := by decide +kernel
theorem dX10_program_19 : decode cX10_program 19 = .ok (.ifCond .eq 34, 3) := by decide +kernel
theorem dX10_program_22 : decode cX10_program 22 = .ok (.iload_n 2, 1) := by decide +kernel
theorem dX10_program_23 : decode cX10_program 23 = .ok (.iconst 0, 1) := by decide +kernel
theorem dX10_program_24 : decode cX10_program 24 = .ok (.iconst 1, 1) := by decide +kernel
theorem dX10_program_25 : decode cX10_program 25 = .ok (.invokestatic 124, 3) := by decide +kernel
theorem dX10_program_28 : decode cX10_program 28 = .ok (.ifCond .eq 25, 3) := by decide +kernel
theorem dX10_program_31 : decode cX10_program 31 = .ok (.iload_n 3, 1) := by decide +kernel
theorem dX10_program_32 : decode cX10_program 32 = .ok (.iconst 1, 1) := by decide +kernel
theorem dX10_program_33 : decode cX10_program 33 = .ok (.bipush 40, 2) := by decide +kernel
theorem dX10_program_35 : decode cX10_program 35 = .ok (.invokestatic 124, 3) := by decide +kernel
theorem dX10_program_38 : decode cX10_program 38 = .ok (.ifCond .eq 15, 3) := by decide +kernel
theorem dX10_program_41 : decode cX10_program 41 = .ok (.iload 4, 2) := by decide +kernel
theorem dX10_program_43 : decode cX10_program 43 = .ok (.iconst 0, 1) := by decide +kernel
theorem dX10_program_44 : decode cX10_program 44 = .ok (.sipush 1000, 3) := by decide +kernel
theorem dX10_program_47 : decode cX10_program 47 = .ok (.invokestatic 124, 3) := by decide +kernel
theorem dX10_program_50 : decode cX10_program 50 = .ok (.ifCond .ne 6, 3) := by decide +kernel
theorem dX10_program_53 : decode cX10_program 53 = .ok (.bipush (-2), 2) := by decide +kernel
theorem dX10_program_55 : decode cX10_program 55 = .ok (.ireturn, 1) := by decide +kernel
theorem dX10_program_56 : decode cX10_program 56 = .ok (.aload_n 0, 1) := by decide +kernel
theorem dX10_program_57 : decode cX10_program 57 = .ok (.getfield 146, 3) := by decide +kernel
theorem dX10_program_60 : decode cX10_program 60 = .ok (.bipush 6, 2) := by decide +kernel
theorem dX10_program_62 : decode cX10_program 62 = .ok (.if_icmp .ne 6, 3) := by decide +kernel
theorem dX10_program_65 : decode cX10_program 65 = .ok (.bipush (-3), 2) := by decide +kernel
theorem dX10_program_67 : decode cX10_program 67 = .ok (.ireturn, 1) := by decide +kernel
theorem dX10_program_68 : decode cX10_program 68 = .ok (.aload_n 0, 1) := by decide +kernel
theorem dX10_program_69 : decode cX10_program 69 = .ok (.getfield 9, 3) := by decide +kernel
theorem dX10_program_72 : decode cX10_program 72 = .ok (.iload_n 1, 1) := by decide +kernel
theorem dX10_program_73 : decode cX10_program 73 = .ok (.iaload, 1) := by decide +kernel
theorem dX10_program_74 : decode cX10_program 74 = .ok (.ifCond .ge 6, 3) := by decide +kernel
theorem dX10_program_77 : decode cX10_program 77 = .ok (.bipush (-5), 2) := by decide +kernel
theorem dX10_program_79 : decode cX10_program 79 = .ok (.ireturn, 1) := by decide +kernel
theorem dX10_program_80 : decode cX10_program 80 = .ok (.aload_n 0, 1) := by decide +kernel
theorem dX10_program_81 : decode cX10_program 81 = .ok (.getfield 13, 3) := by decide +kernel
theorem dX10_program_84 : decode cX10_program 84 = .ok (.iload_n 1, 1) := by decide +kernel
theorem dX10_program_85 : decode cX10_program 85 = .ok (.iaload, 1) := by decide +kernel
theorem dX10_program_86 : decode cX10_program 86 = .ok (.ifCond .ne 6, 3) := by decide +kernel
theorem dX10_program_89 : decode cX10_program 89 = .ok (.bipush (-8), 2) := by decide +kernel
theorem dX10_program_91 : decode cX10_program 91 = .ok (.ireturn, 1) := by decide +kernel
theorem dX10_program_92 : decode cX10_program 92 = .ok (.iconst 0, 1) := by decide +kernel
theorem dX10_program_93 : decode cX10_program 93 = .ok (.istore 5, 2) := by decide +kernel
theorem dX10_program_95 : decode cX10_program 95 = .ok (.iload 5, 2) := by decide +kernel
theorem dX10_program_97 : decode cX10_program 97 = .ok (.aload_n 0, 1) := by decide +kernel
theorem dX10_program_98 : decode cX10_program 98 = .ok (.getfield 13, 3) := by decide +kernel
theorem dX10_program_101 : decode cX10_program 101 = .ok (.iload_n 1, 1) := by decide +kernel
theorem dX10_program_102 : decode cX10_program 102 = .ok (.iaload, 1) := by decide +kernel
theorem dX10_program_103 : decode cX10_program 103 = .ok (.if_icmp .ge 62, 3) := by decide +kernel
theorem dX10_program_106 : decode cX10_program 106 = .ok (.aload_n 0, 1) := by decide +kernel
theorem dX10_program_107 : decode cX10_program 107 = .ok (.getfield 16, 3) := by decide +kernel
theorem dX10_program_110 : decode cX10_program 110 = .ok (.bipush 60, 2) := by decide +kernel
theorem dX10_program_112 : decode cX10_program 112 = .ok (.iload_n 1, 1) := by decide +kernel
theorem dX10_program_113 : decode cX10_program 113 = .ok (.imul, 1) := by decide +kernel
theorem dX10_program_114 : decode cX10_program 114 = .ok (.iload 5, 2) := by decide +kernel
theorem dX10_program_116 : decode cX10_program 116 = .ok (.iadd, 1) := by decide +kernel
theorem dX10_program_117 : decode cX10_program 117 = .ok (.laload, 1) := by decide +kernel
theorem dX10_program_118 : decode cX10_program 118 = .ok (.lstore 6, 2) := by decide +kernel
theorem dX10_program_120 : decode cX10_program 120 = .ok (.lload 6, 2) := by decide +kernel
theorem dX10_program_122 : decode cX10_program 122 = .ok (.ldc2_w 149, 3) := by decide +kernel
theorem dX10_program_125 : decode cX10_program 125 = .ok (.lcmp, 1) := by decide +kernel
theorem dX10_program_126 : decode cX10_program 126 = .ok (.ifCond .lt 30, 3) := by decide +kernel
theorem dX10_program_129 : decode cX10_program 129 = .ok (.lload 6, 2) := by decide +kernel
theorem dX10_program_131 : decode cX10_program 131 = .ok (.ldc2_w 151, 3) := by decide +kernel
theorem dX10_program_134 : decode cX10_program 134 = .ok (.lcmp, 1) := by decide +kernel
theorem dX10_program_135 : decode cX10_program 135 = .ok (.ifCond .le 12, 3) := by decide +kernel
theorem dX10_program_138 : decode cX10_program 138 = .ok (.lload 6, 2) := by decide +kernel
theorem dX10_program_140 : decode cX10_program 140 = .ok (.ldc2_w 153, 3) := by decide +kernel
theorem dX10_program_143 : decode cX10_program 143 = .ok (.lcmp, 1) := by decide +kernel
theorem dX10_program_144 : decode cX10_program 144 = .ok (.ifCond .lt 12, 3) := by decide +kernel
theorem dX10_program_147 : decode cX10_program 147 = .ok (.lload 6, 2) := by decide +kernel
theorem dX10_program_149 : decode cX10_program 149 = .ok (.ldc2_w 155, 3) := by decide +kernel
theorem dX10_program_152 : decode cX10_program 152 = .ok (.lcmp, 1) := by decide +kernel
theorem dX10_program_153 : decode cX10_program 153 = .ok (.ifCond .le 6, 3) := by decide +kernel
theorem dX10_program_156 : decode cX10_program 156 = .ok (.bipush (-4), 2) := by decide +kernel
theorem dX10_program_158 : decode cX10_program 158 = .ok (.ireturn, 1) := by decide +kernel
theorem dX10_program_159 : decode cX10_program 159 = .ok (.iinc 5 1, 3) := by decide +kernel
theorem dX10_program_162 : decode cX10_program 162 = .ok (.goto (-67), 3) := by decide +kernel
theorem dX10_program_165 : decode cX10_program 165 = .ok (.iconst 0, 1) := by decide +kernel
theorem dX10_program_166 : decode cX10_program 166 = .ok (.istore 5, 2) := by decide +kernel
theorem dX10_program_168 : decode cX10_program 168 = .ok (.iload 5, 2) := by decide +kernel
theorem dX10_program_170 : decode cX10_program 170 = .ok (.aload_n 0, 1) := by decide +kernel
theorem dX10_program_171 : decode cX10_program 171 = .ok (.getfield 13, 3) := by decide +kernel
theorem dX10_program_174 : decode cX10_program 174 = .ok (.iload_n 1, 1) := by decide +kernel
theorem dX10_program_175 : decode cX10_program 175 = .ok (.iaload, 1) := by decide +kernel
theorem dX10_program_176 : decode cX10_program 176 = .ok (.if_icmp .ge 37, 3) := by decide +kernel
theorem dX10_program_179 : decode cX10_program 179 = .ok (.aload_n 0, 1) := by decide +kernel
theorem dX10_program_180 : decode cX10_program 180 = .ok (.getfield 39, 3) := by decide +kernel
theorem dX10_program_183 : decode cX10_program 183 = .ok (.bipush 60, 2) := by decide +kernel
theorem dX10_program_185 : decode cX10_program 185 = .ok (.aload_n 0, 1) := by decide +kernel
theorem dX10_program_186 : decode cX10_program 186 = .ok (.getfield 146, 3) := by decide +kernel
theorem dX10_program_189 : decode cX10_program 189 = .ok (.imul, 1) := by decide +kernel
theorem dX10_program_190 : decode cX10_program 190 = .ok (.iload 5, 2) := by decide +kernel
theorem dX10_program_192 : decode cX10_program 192 = .ok (.iadd, 1) := by decide +kernel
theorem dX10_program_193 : decode cX10_program 193 = .ok (.aload_n 0, 1) := by decide +kernel
theorem dX10_program_194 : decode cX10_program 194 = .ok (.getfield 16, 3) := by decide +kernel
theorem dX10_program_197 : decode cX10_program 197 = .ok (.bipush 60, 2) := by decide +kernel
theorem dX10_program_199 : decode cX10_program 199 = .ok (.iload_n 1, 1) := by decide +kernel
theorem dX10_program_200 : decode cX10_program 200 = .ok (.imul, 1) := by decide +kernel
theorem dX10_program_201 : decode cX10_program 201 = .ok (.iload 5, 2) := by decide +kernel
theorem dX10_program_203 : decode cX10_program 203 = .ok (.iadd, 1) := by decide +kernel
theorem dX10_program_204 : decode cX10_program 204 = .ok (.laload, 1) := by decide +kernel
theorem dX10_program_205 : decode cX10_program 205 = .ok (.l2i, 1) := by decide +kernel
theorem dX10_program_206 : decode cX10_program 206 = .ok (.iastore, 1) := by decide +kernel
theorem dX10_program_207 : decode cX10_program 207 = .ok (.iinc 5 1, 3) := by decide +kernel
theorem dX10_program_210 : decode cX10_program 210 = .ok (.goto (-42), 3) := by decide +kernel
theorem dX10_program_213 : decode cX10_program 213 = .ok (.aload_n 0, 1) := by decide +kernel
theorem dX10_program_214 : decode cX10_program 214 = .ok (.getfield 36, 3) := by decide +kernel
theorem dX10_program_217 : decode cX10_program 217 = .ok (.aload_n 0, 1) := by decide +kernel
theorem dX10_program_218 : decode cX10_program 218 = .ok (.getfield 146, 3) := by decide +kernel
theorem dX10_program_221 : decode cX10_program 221 = .ok (.aload_n 0, 1) := by decide +kernel
theorem dX10_program_222 : decode cX10_program 222 = .ok (.getfield 13, 3) := by decide +kernel
theorem dX10_program_225 : decode cX10_program 225 = .ok (.iload_n 1, 1) := by decide +kernel
theorem dX10_program_226 : decode cX10_program 226 = .ok (.iaload, 1) := by decide +kernel
theorem dX10_program_227 : decode cX10_program 227 = .ok (.iastore, 1) := by decide +kernel
theorem dX10_program_228 : decode cX10_program 228 = .ok (.aload_n 0, 1) := by decide +kernel
theorem dX10_program_229 : decode cX10_program 229 = .ok (.getfield 42, 3) := by decide +kernel
theorem dX10_program_232 : decode cX10_program 232 = .ok (.aload_n 0, 1) := by decide +kernel
theorem dX10_program_233 : decode cX10_program 233 = .ok (.getfield 146, 3) := by decide +kernel
theorem dX10_program_236 : decode cX10_program 236 = .ok (.iload_n 2, 1) := by decide +kernel
theorem dX10_program_237 : decode cX10_program 237 = .ok (.iastore, 1) := by decide +kernel
theorem dX10_program_238 : decode cX10_program 238 = .ok (.aload_n 0, 1) := by decide +kernel
theorem dX10_program_239 : decode cX10_program 239 = .ok (.getfield 45, 3) := by decide +kernel
theorem dX10_program_242 : decode cX10_program 242 = .ok (.aload_n 0, 1) := by decide +kernel
theorem dX10_program_243 : decode cX10_program 243 = .ok (.getfield 146, 3) := by decide +kernel
theorem dX10_program_246 : decode cX10_program 246 = .ok (.iload_n 3, 1) := by decide +kernel
theorem dX10_program_247 : decode cX10_program 247 = .ok (.iastore, 1) := by decide +kernel
theorem dX10_program_248 : decode cX10_program 248 = .ok (.aload_n 0, 1) := by decide +kernel
theorem dX10_program_249 : decode cX10_program 249 = .ok (.getfield 48, 3) := by decide +kernel
theorem dX10_program_252 : decode cX10_program 252 = .ok (.aload_n 0, 1) := by decide +kernel
theorem dX10_program_253 : decode cX10_program 253 = .ok (.getfield 146, 3) := by decide +kernel
theorem dX10_program_256 : decode cX10_program 256 = .ok (.iload 4, 2) := by decide +kernel
theorem dX10_program_258 : decode cX10_program 258 = .ok (.iastore, 1) := by decide +kernel
theorem dX10_program_259 : decode cX10_program 259 = .ok (.aload_n 0, 1) := by decide +kernel
theorem dX10_program_260 : decode cX10_program 260 = .ok (.dup, 1) := by decide +kernel
theorem dX10_program_261 : decode cX10_program 261 = .ok (.getfield 146, 3) := by decide +kernel
theorem dX10_program_264 : decode cX10_program 264 = .ok (.iconst 1, 1) := by decide +kernel
theorem dX10_program_265 : decode cX10_program 265 = .ok (.iadd, 1) := by decide +kernel
theorem dX10_program_266 : decode cX10_program 266 = .ok (.putfield 146, 3) := by decide +kernel
theorem dX10_program_269 : decode cX10_program 269 = .ok (.aload_n 0, 1) := by decide +kernel
theorem dX10_program_270 : decode cX10_program 270 = .ok (.iconst 0, 1) := by decide +kernel
theorem dX10_program_271 : decode cX10_program 271 = .ok (.putfield 143, 3) := by decide +kernel
theorem dX10_program_274 : decode cX10_program 274 = .ok (.aload_n 0, 1) := by decide +kernel
theorem dX10_program_275 : decode cX10_program 275 = .ok (.getfield 146, 3) := by decide +kernel
theorem dX10_program_278 : decode cX10_program 278 = .ok (.iconst 1, 1) := by decide +kernel
theorem dX10_program_279 : decode cX10_program 279 = .ok (.isub, 1) := by decide +kernel
theorem dX10_program_280 : decode cX10_program 280 = .ok (.ireturn, 1) := by decide +kernel
theorem dX10_clear_0 : decode cX10_clear 0 = .ok (.aload_n 0, 1) := by decide +kernel
theorem dX10_clear_1 : decode cX10_clear 1 = .ok (.iconst 0, 1) := by decide +kernel
theorem dX10_clear_2 : decode cX10_clear 2 = .ok (.putfield 121, 3) := by decide +kernel
theorem dX10_clear_5 : decode cX10_clear 5 = .ok (.aload_n 0, 1) := by decide +kernel
theorem dX10_clear_6 : decode cX10_clear 6 = .ok (.getfield 146, 3) := by decide +kernel
theorem dX10_clear_9 : decode cX10_clear 9 = .ok (.istore_n 1, 1) := by decide +kernel
theorem dX10_clear_10 : decode cX10_clear 10 = .ok (.aload_n 0, 1) := by decide +kernel
theorem dX10_clear_11 : decode cX10_clear 11 = .ok (.iconst 0, 1) := by decide +kernel
theorem dX10_clear_12 : decode cX10_clear 12 = .ok (.putfield 146, 3) := by decide +kernel
theorem dX10_clear_15 : decode cX10_clear 15 = .ok (.aload_n 0, 1) := by decide +kernel
theorem dX10_clear_16 : decode cX10_clear 16 = .ok (.iconst 0, 1) := by decide +kernel
theorem dX10_clear_17 : decode cX10_clear 17 = .ok (.putfield 157, 3) := by decide +kernel
theorem dX10_clear_20 : decode cX10_clear 20 = .ok (.aload_n 0, 1) := by decide +kernel
theorem dX10_clear_21 : decode cX10_clear 21 = .ok (.iconst 0, 1) := by decide +kernel
theorem dX10_clear_22 : decode cX10_clear 22 = .ok (.putfield 136, 3) := by decide +kernel
theorem dX10_clear_25 : decode cX10_clear 25 = .ok (.aload_n 0, 1) := by decide +kernel
theorem dX10_clear_26 : decode cX10_clear 26 = .ok (.iconst 0, 1) := by decide +kernel
theorem dX10_clear_27 : decode cX10_clear 27 = .ok (.putfield 143, 3) := by decide +kernel
theorem dX10_clear_30 : decode cX10_clear 30 = .ok (.iload_n 1, 1) := by decide +kernel
theorem dX10_clear_31 : decode cX10_clear 31 = .ok (.ireturn, 1) := by decide +kernel
theorem dX10_isProgram_0 : decode cX10_isProgram 0 = .ok (.iload_n 1, 1) := by decide +kernel
theorem dX10_isProgram_1 : decode cX10_isProgram 1 = .ok (.iconst 0, 1) := by decide +kernel
theorem dX10_isProgram_2 : decode cX10_isProgram 2 = .ok (.aload_n 0, 1) := by decide +kernel
theorem dX10_isProgram_3 : decode cX10_isProgram 3 = .ok (.getfield 146, 3) := by decide +kernel
theorem dX10_isProgram_6 : decode cX10_isProgram 6 = .ok (.iconst 1, 1) := by decide +kernel
theorem dX10_isProgram_7 : decode cX10_isProgram 7 = .ok (.isub, 1) := by decide +kernel
theorem dX10_isProgram_8 : decode cX10_isProgram 8 = .ok (.invokestatic 124, 3) := by decide +kernel
theorem dX10_isProgram_11 : decode cX10_isProgram 11 = .ok (.ireturn, 1) := by decide +kernel
theorem dX10_holds_0 : decode cX10_holds 0 = .ok (.iload_n 0, 1) := by decide +kernel
theorem dX10_holds_1 : decode cX10_holds 1 = .ok (.ifCond .ne 9, 3) := by decide +kernel
theorem dX10_holds_4 : decode cX10_holds 4 = .ok (.iload_n 1, 1) := by decide +kernel
theorem dX10_holds_5 : decode cX10_holds 5 = .ok (.iconst 2, 1) := by decide +kernel
theorem dX10_holds_6 : decode cX10_holds 6 = .ok (.idiv, 1) := by decide +kernel
theorem dX10_holds_7 : decode cX10_holds 7 = .ok (.goto 4, 3) := by decide +kernel
theorem dX10_holds_10 : decode cX10_holds 10 = .ok (.iload_n 1, 1) := by decide +kernel
theorem dX10_holds_11 : decode cX10_holds 11 = .ok (.ireturn, 1) := by decide +kernel
theorem dX10_cost_0 : decode cX10_cost 0 = .ok (.iload_n 0, 1) := by decide +kernel
theorem dX10_cost_1 : decode cX10_cost 1 = .ok (.ifCond .ne 11, 3) := by decide +kernel
theorem dX10_cost_4 : decode cX10_cost 4 = .ok (.iconst 1, 1) := by decide +kernel
theorem dX10_cost_5 : decode cX10_cost 5 = .ok (.iconst 2, 1) := by decide +kernel
theorem dX10_cost_6 : decode cX10_cost 6 = .ok (.iload_n 1, 1) := by decide +kernel
theorem dX10_cost_7 : decode cX10_cost 7 = .ok (.imul, 1) := by decide +kernel
theorem dX10_cost_8 : decode cX10_cost 8 = .ok (.iadd, 1) := by decide +kernel
theorem dX10_cost_9 : decode cX10_cost 9 = .ok (.goto 10, 3) := by decide +kernel
theorem dX10_cost_12 : decode cX10_cost 12 = .ok (.iconst 1, 1) := by decide +kernel
theorem dX10_cost_13 : decode cX10_cost 13 = .ok (.iload_n 1, 1) := by decide +kernel
theorem dX10_cost_14 : decode cX10_cost 14 = .ok (.iadd, 1) := by decide +kernel
theorem dX10_cost_15 : decode cX10_cost 15 = .ok (.iload_n 2, 1) := by decide +kernel
theorem dX10_cost_16 : decode cX10_cost 16 = .ok (.iconst 2, 1) := by decide +kernel
theorem dX10_cost_17 : decode cX10_cost 17 = .ok (.idiv, 1) := by decide +kernel
theorem dX10_cost_18 : decode cX10_cost 18 = .ok (.iadd, 1) := by decide +kernel
theorem dX10_cost_19 : decode cX10_cost 19 = .ok (.ireturn, 1) := by decide +kernel
theorem dX10_alone_0 : decode cX10_alone 0 = .ok (.aload_n 0, 1) := by decide +kernel
theorem dX10_alone_1 : decode cX10_alone 1 = .ok (.getfield 42, 3) := by decide +kernel
theorem dX10_alone_4 : decode cX10_alone 4 = .ok (.iload_n 1, 1) := by decide +kernel
theorem dX10_alone_5 : decode cX10_alone 5 = .ok (.iaload, 1) := by decide +kernel
theorem dX10_alone_6 : decode cX10_alone 6 = .ok (.iload_n 2, 1) := by decide +kernel
theorem dX10_alone_7 : decode cX10_alone 7 = .ok (.invokestatic 160, 3) := by decide +kernel
theorem dX10_alone_10 : decode cX10_alone 10 = .ok (.istore_n 3, 1) := by decide +kernel
theorem dX10_alone_11 : decode cX10_alone 11 = .ok (.iconst 0, 1) := by decide +kernel
theorem dX10_alone_12 : decode cX10_alone 12 = .ok (.istore 4, 2) := by decide +kernel
theorem dX10_alone_14 : decode cX10_alone 14 = .ok (.iconst 0, 1) := by decide +kernel
theorem dX10_alone_15 : decode cX10_alone 15 = .ok (.istore 5, 2) := by decide +kernel
theorem dX10_alone_17 : decode cX10_alone 17 = .ok (.iconst 0, 1) := by decide +kernel
theorem dX10_alone_18 : decode cX10_alone 18 = .ok (.istore 6, 2) := by decide +kernel
theorem dX10_alone_20 : decode cX10_alone 20 = .ok (.iconst 0, 1) := by decide +kernel
theorem dX10_alone_21 : decode cX10_alone 21 = .ok (.istore 7, 2) := by decide +kernel
theorem dX10_alone_23 : decode cX10_alone 23 = .ok (.iconst 0, 1) := by decide +kernel
theorem dX10_alone_24 : decode cX10_alone 24 = .ok (.istore 8, 2) := by decide +kernel
theorem dX10_alone_26 : decode cX10_alone 26 = .ok (.iload 8, 2) := by decide +kernel
theorem dX10_alone_28 : decode cX10_alone 28 = .ok (.aload_n 0, 1) := by decide +kernel
theorem dX10_alone_29 : decode cX10_alone 29 = .ok (.getfield 45, 3) := by decide +kernel
theorem dX10_alone_32 : decode cX10_alone 32 = .ok (.iload_n 1, 1) := by decide +kernel
theorem dX10_alone_33 : decode cX10_alone 33 = .ok (.iaload, 1) := by decide +kernel
theorem dX10_alone_34 : decode cX10_alone 34 = .ok (.if_icmp .ge 202, 3) := by decide +kernel
theorem dX10_alone_37 : decode cX10_alone 37 = .ok (.iconst 0, 1) := by decide +kernel
theorem dX10_alone_38 : decode cX10_alone 38 = .ok (.istore 9, 2) := by decide +kernel
theorem dX10_alone_40 : decode cX10_alone 40 = .ok (.iload 9, 2) := by decide +kernel
theorem dX10_alone_42 : decode cX10_alone 42 = .ok (.aload_n 0, 1) := by decide +kernel
theorem dX10_alone_43 : decode cX10_alone 43 = .ok (.getfield 36, 3) := by decide +kernel
theorem dX10_alone_46 : decode cX10_alone 46 = .ok (.iload_n 1, 1) := by decide +kernel
theorem dX10_alone_47 : decode cX10_alone 47 = .ok (.iaload, 1) := by decide +kernel
theorem dX10_alone_48 : decode cX10_alone 48 = .ok (.if_icmp .ge 182, 3) := by decide +kernel
theorem dX10_alone_51 : decode cX10_alone 51 = .ok (.aload_n 0, 1) := by decide +kernel
theorem dX10_alone_52 : decode cX10_alone 52 = .ok (.getfield 39, 3) := by decide +kernel
theorem dX10_alone_55 : decode cX10_alone 55 = .ok (.bipush 60, 2) := by decide +kernel
theorem dX10_alone_57 : decode cX10_alone 57 = .ok (.iload_n 1, 1) := by decide +kernel
theorem dX10_alone_58 : decode cX10_alone 58 = .ok (.imul, 1) := by decide +kernel
theorem dX10_alone_59 : decode cX10_alone 59 = .ok (.iload 9, 2) := by decide +kernel
theorem dX10_alone_61 : decode cX10_alone 61 = .ok (.iadd, 1) := by decide +kernel
theorem dX10_alone_62 : decode cX10_alone 62 = .ok (.iaload, 1) := by decide +kernel
theorem dX10_alone_63 : decode cX10_alone 63 = .ok (.istore 10, 2) := by decide +kernel
theorem dX10_alone_65 : decode cX10_alone 65 = .ok (.iload 4, 2) := by decide +kernel
theorem dX10_alone_67 : decode cX10_alone 67 = .ok (.iload 10, 2) := by decide +kernel
theorem dX10_alone_69 : decode cX10_alone 69 = .ok (.sipush 1000, 3) := by decide +kernel
theorem dX10_alone_72 : decode cX10_alone 72 = .ok (.if_icmp .le 12, 3) := by decide +kernel
theorem dX10_alone_75 : decode cX10_alone 75 = .ok (.iload 10, 2) := by decide +kernel
theorem dX10_alone_77 : decode cX10_alone 77 = .ok (.sipush 1000, 3) := by decide +kernel
theorem dX10_alone_80 : decode cX10_alone 80 = .ok (.isub, 1) := by decide +kernel
theorem dX10_alone_81 : decode cX10_alone 81 = .ok (.goto 4, 3) := by decide +kernel
theorem dX10_alone_84 : decode cX10_alone 84 = .ok (.iconst 1, 1) := by decide +kernel
theorem dX10_alone_85 : decode cX10_alone 85 = .ok (.iadd, 1) := by decide +kernel
theorem dX10_alone_86 : decode cX10_alone 86 = .ok (.istore 4, 2) := by decide +kernel
theorem dX10_alone_88 : decode cX10_alone 88 = .ok (.iload 10, 2) := by decide +kernel
theorem dX10_alone_90 : decode cX10_alone 90 = .ok (.sipush 1000, 3) := by decide +kernel
theorem dX10_alone_93 : decode cX10_alone 93 = .ok (.if_icmp .gt 131, 3) := by decide +kernel
theorem dX10_alone_96 : decode cX10_alone 96 = .ok (.iload 10, 2) := by decide +kernel
theorem dX10_alone_98 : decode cX10_alone 98 = .ok (.ifCond .ne 6, 3) := by decide +kernel
theorem dX10_alone_101 : decode cX10_alone 101 = .ok (.goto 123, 3) := by decide +kernel
theorem dX10_alone_104 : decode cX10_alone 104 = .ok (.iload 10, 2) := by decide +kernel
theorem dX10_alone_106 : decode cX10_alone 106 = .ok (.ifCond .ge 43, 3) := by decide +kernel
theorem dX10_alone_109 : decode cX10_alone 109 = .ok (.iload 5, 2) := by decide +kernel
theorem dX10_alone_111 : decode cX10_alone 111 = .ok (.iload 10, 2) := by decide +kernel
theorem dX10_alone_113 : decode cX10_alone 113 = .ok (.iadd, 1) := by decide +kernel
theorem dX10_alone_114 : decode cX10_alone 114 = .ok (.ifCond .ge 6, 3) := by decide +kernel
theorem dX10_alone_117 : decode cX10_alone 117 = .ok (.goto 107, 3) := by decide +kernel
theorem dX10_alone_120 : decode cX10_alone 120 = .ok (.iload 6, 2) := by decide +kernel
theorem dX10_alone_122 : decode cX10_alone 122 = .ok (.aload_n 0, 1) := by decide +kernel
theorem dX10_alone_123 : decode cX10_alone 123 = .ok (.getfield 51, 3) := by decide +kernel
theorem dX10_alone_126 : decode cX10_alone 126 = .ok (.iload 5, 2) := by decide +kernel
theorem dX10_alone_128 : decode cX10_alone 128 = .ok (.iload 10, 2) := by decide +kernel
theorem dX10_alone_130 : decode cX10_alone 130 = .ok (.iadd, 1) := by decide +kernel
theorem dX10_alone_131 : decode cX10_alone 131 = .ok (.iaload, 1) := by decide +kernel
theorem dX10_alone_132 : decode cX10_alone 132 = .ok (.isub, 1) := by decide +kernel
theorem dX10_alone_133 : decode cX10_alone 133 = .ok (.istore 6, 2) := by decide +kernel
theorem dX10_alone_135 : decode cX10_alone 135 = .ok (.aload_n 0, 1) := by decide +kernel
theorem dX10_alone_136 : decode cX10_alone 136 = .ok (.getfield 51, 3) := by decide +kernel
theorem dX10_alone_139 : decode cX10_alone 139 = .ok (.iload 5, 2) := by decide +kernel
theorem dX10_alone_141 : decode cX10_alone 141 = .ok (.iload 10, 2) := by decide +kernel
theorem dX10_alone_143 : decode cX10_alone 143 = .ok (.iadd, 1) := by decide +kernel
theorem dX10_alone_144 : decode cX10_alone 144 = .ok (.iconst 0, 1) := by decide +kernel
theorem dX10_alone_145 : decode cX10_alone 145 = .ok (.iastore, 1) := by decide +kernel
theorem dX10_alone_146 : decode cX10_alone 146 = .ok (.goto 78, 3) := by decide +kernel
theorem dX10_alone_149 : decode cX10_alone 149 = .ok (.iload 7, 2) := by decide +kernel
theorem dX10_alone_151 : decode cX10_alone 151 = .ok (.iload 10, 2) := by decide +kernel
theorem dX10_alone_153 : decode cX10_alone 153 = .ok (.iadd, 1) := by decide +kernel
theorem dX10_alone_154 : decode cX10_alone 154 = .ok (.iload_n 3, 1) := by decide +kernel
theorem dX10_alone_155 : decode cX10_alone 155 = .ok (.if_icmp .le 32, 3) := by decide +kernel
theorem dX10_alone_158 : decode cX10_alone 158 = .ok (.iload 7, 2) := by decide +kernel
theorem dX10_alone_160 : decode cX10_alone 160 = .ok (.iload 6, 2) := by decide +kernel
theorem dX10_alone_162 : decode cX10_alone 162 = .ok (.if_icmp .le 25, 3) := by decide +kernel
theorem dX10_alone_165 : decode cX10_alone 165 = .ok (.iload 4, 2) := by decide +kernel
theorem dX10_alone_167 : decode cX10_alone 167 = .ok (.aload_n 0, 1) := by decide +kernel
theorem dX10_alone_168 : decode cX10_alone 168 = .ok (.getfield 42, 3) := by decide +kernel
theorem dX10_alone_171 : decode cX10_alone 171 = .ok (.iload_n 1, 1) := by decide +kernel
theorem dX10_alone_172 : decode cX10_alone 172 = .ok (.iaload, 1) := by decide +kernel
theorem dX10_alone_173 : decode cX10_alone 173 = .ok (.iload 6, 2) := by decide +kernel
theorem dX10_alone_175 : decode cX10_alone 175 = .ok (.iload 7, 2) := by decide +kernel
theorem dX10_alone_177 : decode cX10_alone 177 = .ok (.invokestatic 164, 3) := by decide +kernel
theorem dX10_alone_180 : decode cX10_alone 180 = .ok (.iadd, 1) := by decide +kernel
theorem dX10_alone_181 : decode cX10_alone 181 = .ok (.istore 4, 2) := by decide +kernel
theorem dX10_alone_183 : decode cX10_alone 183 = .ok (.iload 6, 2) := by decide +kernel
theorem dX10_alone_185 : decode cX10_alone 185 = .ok (.istore 7, 2) := by decide +kernel
theorem dX10_alone_187 : decode cX10_alone 187 = .ok (.iload 7, 2) := by decide +kernel
theorem dX10_alone_189 : decode cX10_alone 189 = .ok (.iload 10, 2) := by decide +kernel
theorem dX10_alone_191 : decode cX10_alone 191 = .ok (.iadd, 1) := by decide +kernel
theorem dX10_alone_192 : decode cX10_alone 192 = .ok (.iload_n 3, 1) := by decide +kernel
theorem dX10_alone_193 : decode cX10_alone 193 = .ok (.if_icmp .le 5, 3) := by decide +kernel
theorem dX10_alone_196 : decode cX10_alone 196 = .ok (.iconst (-1), 1) := by decide +kernel
theorem dX10_alone_197 : decode cX10_alone 197 = .ok (.ireturn, 1) := by decide +kernel
theorem dX10_alone_198 : decode cX10_alone 198 = .ok (.aload_n 0, 1) := by decide +kernel
theorem dX10_alone_199 : decode cX10_alone 199 = .ok (.getfield 51, 3) := by decide +kernel
theorem dX10_alone_202 : decode cX10_alone 202 = .ok (.iload 5, 2) := by decide +kernel
theorem dX10_alone_204 : decode cX10_alone 204 = .ok (.iload 10, 2) := by decide +kernel
theorem dX10_alone_206 : decode cX10_alone 206 = .ok (.iastore, 1) := by decide +kernel
theorem dX10_alone_207 : decode cX10_alone 207 = .ok (.iinc 5 1, 3) := by decide +kernel
theorem dX10_alone_210 : decode cX10_alone 210 = .ok (.iload 6, 2) := by decide +kernel
theorem dX10_alone_212 : decode cX10_alone 212 = .ok (.iload 10, 2) := by decide +kernel
theorem dX10_alone_214 : decode cX10_alone 214 = .ok (.iadd, 1) := by decide +kernel
theorem dX10_alone_215 : decode cX10_alone 215 = .ok (.istore 6, 2) := by decide +kernel
theorem dX10_alone_217 : decode cX10_alone 217 = .ok (.iload 7, 2) := by decide +kernel
theorem dX10_alone_219 : decode cX10_alone 219 = .ok (.iload 10, 2) := by decide +kernel
theorem dX10_alone_221 : decode cX10_alone 221 = .ok (.iadd, 1) := by decide +kernel
theorem dX10_alone_222 : decode cX10_alone 222 = .ok (.istore 7, 2) := by decide +kernel
theorem dX10_alone_224 : decode cX10_alone 224 = .ok (.iinc 9 1, 3) := by decide +kernel
theorem dX10_alone_227 : decode cX10_alone 227 = .ok (.goto (-187), 3) := by decide +kernel
theorem dX10_alone_230 : decode cX10_alone 230 = .ok (.iinc 8 1, 3) := by decide +kernel
theorem dX10_alone_233 : decode cX10_alone 233 = .ok (.goto (-207), 3) := by decide +kernel
theorem dX10_alone_236 : decode cX10_alone 236 = .ok (.iload 4, 2) := by decide +kernel
theorem dX10_alone_238 : decode cX10_alone 238 = .ok (.ireturn, 1) := by decide +kernel
theorem dX10_time_0 : decode cX10_time 0 = .ok (.aload_n 0, 1) := by decide +kernel
theorem dX10_time_1 : decode cX10_time 1 = .ok (.iconst 0, 1) := by decide +kernel
theorem dX10_time_2 : decode cX10_time 2 = .ok (.putfield 121, 3) := by decide +kernel
theorem dX10_time_5 : decode cX10_time 5 = .ok (.aload_n 0, 1) := by decide +kernel
theorem dX10_time_6 : decode cX10_time 6 = .ok (.iload_n 1, 1) := by decide +kernel
theorem dX10_time_7 : decode cX10_time 7 = .ok (.invokevirtual 168, 3) := by decide +kernel
theorem dX10_time_10 : decode cX10_time 10 = .ok (.ifCond .eq 23, 3) := by decide +kernel
theorem dX10_time_13 : decode cX10_time 13 = .ok (.iload_n 2, 1) := by decide +kernel
theorem dX10_time_14 : decode cX10_time 14 = .ok (.iconst 0, 1) := by decide +kernel
theorem dX10_time_15 : decode cX10_time 15 = .ok (.sipush 4096, 3) := by decide +kernel
theorem dX10_time_18 : decode cX10_time 18 = .ok (.invokestatic 124, 3) := by decide +kernel
theorem dX10_time_21 : decode cX10_time 21 = .ok (.ifCond .eq 12, 3) := by decide +kernel
theorem dX10_time_24 : decode cX10_time 24 = .ok (.aload_n 0, 1) := by decide +kernel
theorem dX10_time_25 : decode cX10_time 25 = .ok (.iload_n 1, 1) := by decide +kernel
theorem dX10_time_26 : decode cX10_time 26 = .ok (.iload_n 2, 1) := by decide +kernel
theorem dX10_time_27 : decode cX10_time 27 = .ok (.invokevirtual 171, 3) := by decide +kernel
theorem dX10_time_30 : decode cX10_time 30 = .ok (.goto 5, 3) := by decide +kernel
theorem dX10_time_33 : decode cX10_time 33 = .ok (.bipush (-2), 2) := by decide +kernel
theorem dX10_time_35 : decode cX10_time 35 = .ok (.ireturn, 1) := by decide +kernel
theorem dX10_up_0 : decode cX10_up 0 = .ok (.iload_n 1, 1) := by decide +kernel
theorem dX10_up_1 : decode cX10_up 1 = .ok (.aload_n 0, 1) := by decide +kernel
theorem dX10_up_2 : decode cX10_up 2 = .ok (.getfield 23, 3) := by decide +kernel
theorem dX10_up_5 : decode cX10_up 5 = .ok (.iadd, 1) := by decide +kernel
theorem dX10_up_6 : decode cX10_up 6 = .ok (.iconst 1, 1) := by decide +kernel
theorem dX10_up_7 : decode cX10_up 7 = .ok (.isub, 1) := by decide +kernel
theorem dX10_up_8 : decode cX10_up 8 = .ok (.aload_n 0, 1) := by decide +kernel
theorem dX10_up_9 : decode cX10_up 9 = .ok (.getfield 23, 3) := by decide +kernel
theorem dX10_up_12 : decode cX10_up 12 = .ok (.idiv, 1) := by decide +kernel
theorem dX10_up_13 : decode cX10_up 13 = .ok (.aload_n 0, 1) := by decide +kernel
theorem dX10_up_14 : decode cX10_up 14 = .ok (.getfield 23, 3) := by decide +kernel
theorem dX10_up_17 : decode cX10_up 17 = .ok (.imul, 1) := by decide +kernel
theorem dX10_up_18 : decode cX10_up 18 = .ok (.ireturn, 1) := by decide +kernel
theorem dX10_needOf_0 : decode cX10_needOf 0 = .ok (.aload_n 0, 1) := by decide +kernel
theorem dX10_needOf_1 : decode cX10_needOf 1 = .ok (.aload_n 0, 1) := by decide +kernel
theorem dX10_needOf_2 : decode cX10_needOf 2 = .ok (.getfield 48, 3) := by decide +kernel
theorem dX10_needOf_5 : decode cX10_needOf 5 = .ok (.iload_n 1, 1) := by decide +kernel
theorem dX10_needOf_6 : decode cX10_needOf 6 = .ok (.iaload, 1) := by decide +kernel
theorem dX10_needOf_7 : decode cX10_needOf 7 = .ok (.invokevirtual 174, 3) := by decide +kernel
theorem dX10_needOf_10 : decode cX10_needOf 10 = .ok (.istore_n 2, 1) := by decide +kernel
theorem dX10_needOf_11 : decode cX10_needOf 11 = .ok (.iload_n 2, 1) := by decide +kernel
theorem dX10_needOf_12 : decode cX10_needOf 12 = .ok (.aload_n 0, 1) := by decide +kernel
theorem dX10_needOf_13 : decode cX10_needOf 13 = .ok (.getfield 27, 3) := by decide +kernel
theorem dX10_needOf_16 : decode cX10_needOf 16 = .ok (.if_icmp .gt 25, 3) := by decide +kernel
theorem dX10_needOf_19 : decode cX10_needOf 19 = .ok (.aload_n 0, 1) := by decide +kernel
theorem dX10_needOf_20 : decode cX10_needOf 20 = .ok (.iload_n 1, 1) := by decide +kernel
theorem dX10_needOf_21 : decode cX10_needOf 21 = .ok (.iload_n 2, 1) := by decide +kernel
theorem dX10_needOf_22 : decode cX10_needOf 22 = .ok (.invokevirtual 171, 3) := by decide +kernel
theorem dX10_needOf_25 : decode cX10_needOf 25 = .ok (.iconst (-1), 1) := by decide +kernel
theorem dX10_needOf_26 : decode cX10_needOf 26 = .ok (.if_icmp .eq 5, 3) := by decide +kernel
theorem dX10_needOf_29 : decode cX10_needOf 29 = .ok (.iload_n 2, 1) := by decide +kernel
theorem dX10_needOf_30 : decode cX10_needOf 30 = .ok (.ireturn, 1) := by decide +kernel
theorem dX10_needOf_31 : decode cX10_needOf 31 = .ok (.iload_n 2, 1) := by decide +kernel
theorem dX10_needOf_32 : decode cX10_needOf 32 = .ok (.aload_n 0, 1) := by decide +kernel
theorem dX10_needOf_33 : decode cX10_needOf 33 = .ok (.getfield 23, 3) := by decide +kernel
theorem dX10_needOf_36 : decode cX10_needOf 36 = .ok (.iadd, 1) := by decide +kernel
theorem dX10_needOf_37 : decode cX10_needOf 37 = .ok (.istore_n 2, 1) := by decide +kernel
theorem dX10_needOf_38 : decode cX10_needOf 38 = .ok (.goto (-27), 3) := by decide +kernel
theorem dX10_needOf_41 : decode cX10_needOf 41 = .ok (.iconst (-1), 1) := by decide +kernel
theorem dX10_needOf_42 : decode cX10_needOf 42 = .ok (.ireturn, 1) := by decide +kernel
theorem dX10_need_0 : decode cX10_need 0 = .ok (.aload_n 0, 1) := by decide +kernel
theorem dX10_need_1 : decode cX10_need 1 = .ok (.iconst 0, 1) := by decide +kernel
theorem dX10_need_2 : decode cX10_need 2 = .ok (.putfield 121, 3) := by decide +kernel
theorem dX10_need_5 : decode cX10_need 5 = .ok (.aload_n 0, 1) := by decide +kernel
theorem dX10_need_6 : decode cX10_need 6 = .ok (.iload_n 1, 1) := by decide +kernel
theorem dX10_need_7 : decode cX10_need 7 = .ok (.invokevirtual 168, 3) := by decide +kernel
theorem dX10_need_10 : decode cX10_need 10 = .ok (.ifCond .eq 11, 3) := by decide +kernel
theorem dX10_need_13 : decode cX10_need 13 = .ok (.aload_n 0, 1) := by decide +kernel
theorem dX10_need_14 : decode cX10_need 14 = .ok (.iload_n 1, 1) := by decide +kernel
theorem dX10_need_15 : decode cX10_need 15 = .ok (.invokevirtual 178, 3) := by decide +kernel
theorem dX10_need_18 : decode cX10_need 18 = .ok (.goto 5, 3) := by decide +kernel
theorem dX10_need_21 : decode cX10_need 21 = .ok (.bipush (-2), 2) := by decide +kernel
theorem dX10_need_23 : decode cX10_need 23 = .ok (.ireturn, 1) := by decide +kernel
theorem dX10_falls_0 : decode cX10_falls 0 = .ok (.aload_n 0, 1) := by decide +kernel
theorem dX10_falls_1 : decode cX10_falls 1 = .ok (.iconst 0, 1) := by decide +kernel
theorem dX10_falls_2 : decode cX10_falls 2 = .ok (.putfield 121, 3) := by decide +kernel
theorem dX10_falls_5 : decode cX10_falls 5 = .ok (.aload_n 0, 1) := by decide +kernel
theorem dX10_falls_6 : decode cX10_falls 6 = .ok (.iload_n 1, 1) := by decide +kernel
theorem dX10_falls_7 : decode cX10_falls 7 = .ok (.invokevirtual 168, 3) := by decide +kernel
theorem dX10_falls_10 : decode cX10_falls 10 = .ok (.ifCond .ne 6, 3) := by decide +kernel
theorem dX10_falls_13 : decode cX10_falls 13 = .ok (.bipush (-2), 2) := by decide +kernel
theorem dX10_falls_15 : decode cX10_falls 15 = .ok (.ireturn, 1) := by decide +kernel
theorem dX10_falls_16 : decode cX10_falls 16 = .ok (.aload_n 0, 1) := by decide +kernel
theorem dX10_falls_17 : decode cX10_falls 17 = .ok (.iload_n 1, 1) := by decide +kernel
theorem dX10_falls_18 : decode cX10_falls 18 = .ok (.invokevirtual 178, 3) := by decide +kernel
theorem dX10_falls_21 : decode cX10_falls 21 = .ok (.istore_n 2, 1) := by decide +kernel
theorem dX10_falls_22 : decode cX10_falls 22 = .ok (.iload_n 2, 1) := by decide +kernel
theorem dX10_falls_23 : decode cX10_falls 23 = .ok (.iconst (-1), 1) := by decide +kernel
theorem dX10_falls_24 : decode cX10_falls 24 = .ok (.if_icmp .ne 5, 3) := by decide +kernel
theorem dX10_falls_27 : decode cX10_falls 27 = .ok (.iconst (-1), 1) := by decide +kernel
theorem dX10_falls_28 : decode cX10_falls 28 = .ok (.ireturn, 1) := by decide +kernel
theorem dX10_falls_29 : decode cX10_falls 29 = .ok (.ldc 183, 2) := by decide +kernel
theorem dX10_falls_31 : decode cX10_falls 31 = .ok (.istore_n 3, 1) := by decide +kernel
theorem dX10_falls_32 : decode cX10_falls 32 = .ok (.aload_n 0, 1) := by decide +kernel
theorem dX10_falls_33 : decode cX10_falls 33 = .ok (.iload_n 1, 1) := by decide +kernel
theorem dX10_falls_34 : decode cX10_falls 34 = .ok (.iload_n 2, 1) := by decide +kernel
theorem dX10_falls_35 : decode cX10_falls 35 = .ok (.invokevirtual 171, 3) := by decide +kernel
theorem dX10_falls_38 : decode cX10_falls 38 = .ok (.istore 4, 2) := by decide +kernel
theorem dX10_falls_40 : decode cX10_falls 40 = .ok (.iload_n 2, 1) := by decide +kernel
theorem dX10_falls_41 : decode cX10_falls 41 = .ok (.aload_n 0, 1) := by decide +kernel
theorem dX10_falls_42 : decode cX10_falls 42 = .ok (.getfield 23, 3) := by decide +kernel
theorem dX10_falls_45 : decode cX10_falls 45 = .ok (.iadd, 1) := by decide +kernel
theorem dX10_falls_46 : decode cX10_falls 46 = .ok (.aload_n 0, 1) := by decide +kernel
theorem dX10_falls_47 : decode cX10_falls 47 = .ok (.getfield 27, 3) := by decide +kernel
theorem dX10_falls_50 : decode cX10_falls 50 = .ok (.if_icmp .gt 48, 3) := by decide +kernel
theorem dX10_falls_53 : decode cX10_falls 53 = .ok (.iload_n 2, 1) := by decide +kernel
theorem dX10_falls_54 : decode cX10_falls 54 = .ok (.aload_n 0, 1) := by decide +kernel
theorem dX10_falls_55 : decode cX10_falls 55 = .ok (.getfield 23, 3) := by decide +kernel
theorem dX10_falls_58 : decode cX10_falls 58 = .ok (.iadd, 1) := by decide +kernel
theorem dX10_falls_59 : decode cX10_falls 59 = .ok (.istore_n 2, 1) := by decide +kernel
theorem dX10_falls_60 : decode cX10_falls 60 = .ok (.aload_n 0, 1) := by decide +kernel
theorem dX10_falls_61 : decode cX10_falls 61 = .ok (.iload_n 1, 1) := by decide +kernel
theorem dX10_falls_62 : decode cX10_falls 62 = .ok (.iload_n 2, 1) := by decide +kernel
theorem dX10_falls_63 : decode cX10_falls 63 = .ok (.invokevirtual 171, 3) := by decide +kernel
theorem dX10_falls_66 : decode cX10_falls 66 = .ok (.istore 5, 2) := by decide +kernel
theorem dX10_falls_68 : decode cX10_falls 68 = .ok (.iload 4, 2) := by decide +kernel
theorem dX10_falls_70 : decode cX10_falls 70 = .ok (.iload 5, 2) := by decide +kernel
theorem dX10_falls_72 : decode cX10_falls 72 = .ok (.isub, 1) := by decide +kernel
theorem dX10_falls_73 : decode cX10_falls 73 = .ok (.istore 6, 2) := by decide +kernel
theorem dX10_falls_75 : decode cX10_falls 75 = .ok (.iload 6, 2) := by decide +kernel
theorem dX10_falls_77 : decode cX10_falls 77 = .ok (.ifCond .lt 9, 3) := by decide +kernel
theorem dX10_falls_80 : decode cX10_falls 80 = .ok (.iload 6, 2) := by decide +kernel
theorem dX10_falls_82 : decode cX10_falls 82 = .ok (.iload_n 3, 1) := by decide +kernel
theorem dX10_falls_83 : decode cX10_falls 83 = .ok (.if_icmp .le 5, 3) := by decide +kernel
theorem dX10_falls_86 : decode cX10_falls 86 = .ok (.iconst 0, 1) := by decide +kernel
theorem dX10_falls_87 : decode cX10_falls 87 = .ok (.ireturn, 1) := by decide +kernel
theorem dX10_falls_88 : decode cX10_falls 88 = .ok (.iload 6, 2) := by decide +kernel
theorem dX10_falls_90 : decode cX10_falls 90 = .ok (.istore_n 3, 1) := by decide +kernel
theorem dX10_falls_91 : decode cX10_falls 91 = .ok (.iload 5, 2) := by decide +kernel
theorem dX10_falls_93 : decode cX10_falls 93 = .ok (.istore 4, 2) := by decide +kernel
theorem dX10_falls_95 : decode cX10_falls 95 = .ok (.goto (-55), 3) := by decide +kernel
theorem dX10_falls_98 : decode cX10_falls 98 = .ok (.iconst 1, 1) := by decide +kernel
theorem dX10_falls_99 : decode cX10_falls 99 = .ok (.ireturn, 1) := by decide +kernel
theorem dX10_areNeeds_0 : decode cX10_areNeeds 0 = .ok (.iconst 0, 1) := by decide +kernel
theorem dX10_areNeeds_1 : decode cX10_areNeeds 1 = .ok (.istore_n 1, 1) := by decide +kernel
theorem dX10_areNeeds_2 : decode cX10_areNeeds 2 = .ok (.iconst 0, 1) := by decide +kernel
theorem dX10_areNeeds_3 : decode cX10_areNeeds 3 = .ok (.istore_n 2, 1) := by decide +kernel
theorem dX10_areNeeds_4 : decode cX10_areNeeds 4 = .ok (.iload_n 2, 1) := by decide +kernel
theorem dX10_areNeeds_5 : decode cX10_areNeeds 5 = .ok (.aload_n 0, 1) := by decide +kernel
theorem dX10_areNeeds_6 : decode cX10_areNeeds 6 = .ok (.getfield 146, 3) := by decide +kernel
theorem dX10_areNeeds_9 : decode cX10_areNeeds 9 = .ok (.if_icmp .ge 41, 3) := by decide +kernel
theorem dX10_areNeeds_12 : decode cX10_areNeeds 12 = .ok (.aload_n 0, 1) := by decide +kernel
theorem dX10_areNeeds_13 : decode cX10_areNeeds 13 = .ok (.getfield 57, 3) := by decide +kernel
theorem dX10_areNeeds_16 : decode cX10_areNeeds 16 = .ok (.iload_n 2, 1) := by decide +kernel
theorem dX10_areNeeds_17 : decode cX10_areNeeds 17 = .ok (.aload_n 0, 1) := by decide +kernel
theorem dX10_areNeeds_18 : decode cX10_areNeeds 18 = .ok (.iload_n 2, 1) := by decide +kernel
theorem dX10_areNeeds_19 : decode cX10_areNeeds 19 = .ok (.invokevirtual 178, 3) := by decide +kernel
theorem dX10_areNeeds_22 : decode cX10_areNeeds 22 = .ok (.iastore, 1) := by decide +kernel
theorem dX10_areNeeds_23 : decode cX10_areNeeds 23 = .ok (.aload_n 0, 1) := by decide +kernel
theorem dX10_areNeeds_24 : decode cX10_areNeeds 24 = .ok (.getfield 57, 3) := by decide +kernel
theorem dX10_areNeeds_27 : decode cX10_areNeeds 27 = .ok (.iload_n 2, 1) := by decide +kernel
theorem dX10_areNeeds_28 : decode cX10_areNeeds 28 = .ok (.iaload, 1) := by decide +kernel
theorem dX10_areNeeds_29 : decode cX10_areNeeds 29 = .ok (.iconst (-1), 1) := by decide +kernel
theorem dX10_areNeeds_30 : decode cX10_areNeeds 30 = .ok (.if_icmp .ne 5, 3) := by decide +kernel
theorem dX10_areNeeds_33 : decode cX10_areNeeds 33 = .ok (.iconst 0, 1) := by decide +kernel
theorem dX10_areNeeds_34 : decode cX10_areNeeds 34 = .ok (.ireturn, 1) := by decide +kernel
theorem dX10_areNeeds_35 : decode cX10_areNeeds 35 = .ok (.iload_n 1, 1) := by decide +kernel
theorem dX10_areNeeds_36 : decode cX10_areNeeds 36 = .ok (.aload_n 0, 1) := by decide +kernel
theorem dX10_areNeeds_37 : decode cX10_areNeeds 37 = .ok (.getfield 57, 3) := by decide +kernel
theorem dX10_areNeeds_40 : decode cX10_areNeeds 40 = .ok (.iload_n 2, 1) := by decide +kernel
theorem dX10_areNeeds_41 : decode cX10_areNeeds 41 = .ok (.iaload, 1) := by decide +kernel
theorem dX10_areNeeds_42 : decode cX10_areNeeds 42 = .ok (.iadd, 1) := by decide +kernel
theorem dX10_areNeeds_43 : decode cX10_areNeeds 43 = .ok (.istore_n 1, 1) := by decide +kernel
theorem dX10_areNeeds_44 : decode cX10_areNeeds 44 = .ok (.iinc 2 1, 3) := by decide +kernel
theorem dX10_areNeeds_47 : decode cX10_areNeeds 47 = .ok (.goto (-43), 3) := by decide +kernel
theorem dX10_areNeeds_50 : decode cX10_areNeeds 50 = .ok (.iload_n 1, 1) := by decide +kernel
theorem dX10_areNeeds_51 : decode cX10_areNeeds 51 = .ok (.aload_n 0, 1) := by decide +kernel
theorem dX10_areNeeds_52 : decode cX10_areNeeds 52 = .ok (.getfield 27, 3) := by decide +kernel
theorem dX10_areNeeds_55 : decode cX10_areNeeds 55 = .ok (.aload_n 0, 1) := by decide +kernel
theorem dX10_areNeeds_56 : decode cX10_areNeeds 56 = .ok (.getfield 140, 3) := by decide +kernel
theorem dX10_areNeeds_59 : decode cX10_areNeeds 59 = .ok (.isub, 1) := by decide +kernel
theorem dX10_areNeeds_60 : decode cX10_areNeeds 60 = .ok (.if_icmp .gt 7, 3) := by decide +kernel
theorem dX10_areNeeds_63 : decode cX10_areNeeds 63 = .ok (.iconst 1, 1) := by decide +kernel
theorem dX10_areNeeds_64 : decode cX10_areNeeds 64 = .ok (.goto 4, 3) := by decide +kernel
theorem dX10_areNeeds_67 : decode cX10_areNeeds 67 = .ok (.iconst 0, 1) := by decide +kernel
theorem dX10_areNeeds_68 : decode cX10_areNeeds 68 = .ok (.ireturn, 1) := by decide +kernel
theorem dX10_dealt_0 : decode cX10_dealt 0 = .ok (.aload_n 0, 1) := by decide +kernel
theorem dX10_dealt_1 : decode cX10_dealt 1 = .ok (.aload_n 0, 1) := by decide +kernel
theorem dX10_dealt_2 : decode cX10_dealt 2 = .ok (.invokevirtual 184, 3) := by decide +kernel
theorem dX10_dealt_5 : decode cX10_dealt 5 = .ok (.putfield 143, 3) := by decide +kernel
theorem dX10_dealt_8 : decode cX10_dealt 8 = .ok (.aload_n 0, 1) := by decide +kernel
theorem dX10_dealt_9 : decode cX10_dealt 9 = .ok (.getfield 143, 3) := by decide +kernel
theorem dX10_dealt_12 : decode cX10_dealt 12 = .ok (.ifCond .ne 5, 3) := by decide +kernel
theorem dX10_dealt_15 : decode cX10_dealt 15 = .ok (.iconst (-1), 1) := by decide +kernel
theorem dX10_dealt_16 : decode cX10_dealt 16 = .ok (.ireturn, 1) := by decide +kernel
theorem dX10_dealt_17 : decode cX10_dealt 17 = .ok (.aload_n 0, 1) := by decide +kernel
theorem dX10_dealt_18 : decode cX10_dealt 18 = .ok (.getfield 27, 3) := by decide +kernel
theorem dX10_dealt_21 : decode cX10_dealt 21 = .ok (.aload_n 0, 1) := by decide +kernel
theorem dX10_dealt_22 : decode cX10_dealt 22 = .ok (.getfield 140, 3) := by decide +kernel
theorem dX10_dealt_25 : decode cX10_dealt 25 = .ok (.isub, 1) := by decide +kernel
theorem dX10_dealt_26 : decode cX10_dealt 26 = .ok (.istore_n 1, 1) := by decide +kernel
theorem dX10_dealt_27 : decode cX10_dealt 27 = .ok (.iconst 0, 1) := by decide +kernel
theorem dX10_dealt_28 : decode cX10_dealt 28 = .ok (.istore_n 2, 1) := by decide +kernel
theorem dX10_dealt_29 : decode cX10_dealt 29 = .ok (.iload_n 2, 1) := by decide +kernel
theorem dX10_dealt_30 : decode cX10_dealt 30 = .ok (.aload_n 0, 1) := by decide +kernel
theorem dX10_dealt_31 : decode cX10_dealt 31 = .ok (.getfield 146, 3) := by decide +kernel
theorem dX10_dealt_34 : decode cX10_dealt 34 = .ok (.if_icmp .ge 30, 3) := by decide +kernel
theorem dX10_dealt_37 : decode cX10_dealt 37 = .ok (.aload_n 0, 1) := by decide +kernel
theorem dX10_dealt_38 : decode cX10_dealt 38 = .ok (.getfield 54, 3) := by decide +kernel
theorem dX10_dealt_41 : decode cX10_dealt 41 = .ok (.iload_n 2, 1) := by decide +kernel
theorem dX10_dealt_42 : decode cX10_dealt 42 = .ok (.aload_n 0, 1) := by decide +kernel
theorem dX10_dealt_43 : decode cX10_dealt 43 = .ok (.getfield 57, 3) := by decide +kernel
theorem dX10_dealt_46 : decode cX10_dealt 46 = .ok (.iload_n 2, 1) := by decide +kernel
theorem dX10_dealt_47 : decode cX10_dealt 47 = .ok (.iaload, 1) := by decide +kernel
theorem dX10_dealt_48 : decode cX10_dealt 48 = .ok (.iastore, 1) := by decide +kernel
theorem dX10_dealt_49 : decode cX10_dealt 49 = .ok (.iload_n 1, 1) := by decide +kernel
theorem dX10_dealt_50 : decode cX10_dealt 50 = .ok (.aload_n 0, 1) := by decide +kernel
theorem dX10_dealt_51 : decode cX10_dealt 51 = .ok (.getfield 57, 3) := by decide +kernel
theorem dX10_dealt_54 : decode cX10_dealt 54 = .ok (.iload_n 2, 1) := by decide +kernel
theorem dX10_dealt_55 : decode cX10_dealt 55 = .ok (.iaload, 1) := by decide +kernel
theorem dX10_dealt_56 : decode cX10_dealt 56 = .ok (.isub, 1) := by decide +kernel
theorem dX10_dealt_57 : decode cX10_dealt 57 = .ok (.istore_n 1, 1) := by decide +kernel
theorem dX10_dealt_58 : decode cX10_dealt 58 = .ok (.iinc 2 1, 3) := by decide +kernel
theorem dX10_dealt_61 : decode cX10_dealt 61 = .ok (.goto (-32), 3) := by decide +kernel
theorem dX10_dealt_64 : decode cX10_dealt 64 = .ok (.iconst 1, 1) := by decide +kernel
theorem dX10_dealt_65 : decode cX10_dealt 65 = .ok (.istore_n 2, 1) := by decide +kernel
theorem dX10_dealt_66 : decode cX10_dealt 66 = .ok (.iload_n 2, 1) := by decide +kernel
theorem dX10_dealt_67 : decode cX10_dealt 67 = .ok (.ifCond .eq 126, 3) := by decide +kernel
theorem dX10_dealt_70 : decode cX10_dealt 70 = .ok (.iload_n 1, 1) := by decide +kernel
theorem dX10_dealt_71 : decode cX10_dealt 71 = .ok (.aload_n 0, 1) := by decide +kernel
theorem dX10_dealt_72 : decode cX10_dealt 72 = .ok (.getfield 23, 3) := by decide +kernel
theorem dX10_dealt_75 : decode cX10_dealt 75 = .ok (.if_icmp .lt 118, 3) := by decide +kernel
theorem dX10_dealt_78 : decode cX10_dealt 78 = .ok (.iconst (-1), 1) := by decide +kernel
theorem dX10_dealt_79 : decode cX10_dealt 79 = .ok (.istore_n 3, 1) := by decide +kernel
theorem dX10_dealt_80 : decode cX10_dealt 80 = .ok (.iconst 0, 1) := by decide +kernel
theorem dX10_dealt_81 : decode cX10_dealt 81 = .ok (.istore 4, 2) := by decide +kernel
theorem dX10_dealt_83 : decode cX10_dealt 83 = .ok (.iconst 0, 1) := by decide +kernel
theorem dX10_dealt_84 : decode cX10_dealt 84 = .ok (.istore 5, 2) := by decide +kernel
theorem dX10_dealt_86 : decode cX10_dealt 86 = .ok (.iload 5, 2) := by decide +kernel
theorem dX10_dealt_88 : decode cX10_dealt 88 = .ok (.aload_n 0, 1) := by decide +kernel
theorem dX10_dealt_89 : decode cX10_dealt 89 = .ok (.getfield 146, 3) := by decide +kernel
theorem dX10_dealt_92 : decode cX10_dealt 92 = .ok (.if_icmp .ge 60, 3) := by decide +kernel
theorem dX10_dealt_95 : decode cX10_dealt 95 = .ok (.aload_n 0, 1) := by decide +kernel
theorem dX10_dealt_96 : decode cX10_dealt 96 = .ok (.iload 5, 2) := by decide +kernel
theorem dX10_dealt_98 : decode cX10_dealt 98 = .ok (.aload_n 0, 1) := by decide +kernel
theorem dX10_dealt_99 : decode cX10_dealt 99 = .ok (.getfield 54, 3) := by decide +kernel
theorem dX10_dealt_102 : decode cX10_dealt 102 = .ok (.iload 5, 2) := by decide +kernel
theorem dX10_dealt_104 : decode cX10_dealt 104 = .ok (.iaload, 1) := by decide +kernel
theorem dX10_dealt_105 : decode cX10_dealt 105 = .ok (.invokevirtual 171, 3) := by decide +kernel
theorem dX10_dealt_108 : decode cX10_dealt 108 = .ok (.aload_n 0, 1) := by decide +kernel
theorem dX10_dealt_109 : decode cX10_dealt 109 = .ok (.iload 5, 2) := by decide +kernel
theorem dX10_dealt_111 : decode cX10_dealt 111 = .ok (.aload_n 0, 1) := by decide +kernel
theorem dX10_dealt_112 : decode cX10_dealt 112 = .ok (.getfield 54, 3) := by decide +kernel
theorem dX10_dealt_115 : decode cX10_dealt 115 = .ok (.iload 5, 2) := by decide +kernel
theorem dX10_dealt_117 : decode cX10_dealt 117 = .ok (.iaload, 1) := by decide +kernel
theorem dX10_dealt_118 : decode cX10_dealt 118 = .ok (.aload_n 0, 1) := by decide +kernel
theorem dX10_dealt_119 : decode cX10_dealt 119 = .ok (.getfield 23, 3) := by decide +kernel
theorem dX10_dealt_122 : decode cX10_dealt 122 = .ok (.iadd, 1) := by decide +kernel
theorem dX10_dealt_123 : decode cX10_dealt 123 = .ok (.invokevirtual 171, 3) := by decide +kernel
theorem dX10_dealt_126 : decode cX10_dealt 126 = .ok (.isub, 1) := by decide +kernel
theorem dX10_dealt_127 : decode cX10_dealt 127 = .ok (.istore 6, 2) := by decide +kernel
theorem dX10_dealt_129 : decode cX10_dealt 129 = .ok (.iload 6, 2) := by decide +kernel
theorem dX10_dealt_131 : decode cX10_dealt 131 = .ok (.iload 4, 2) := by decide +kernel
theorem dX10_dealt_133 : decode cX10_dealt 133 = .ok (.if_icmp .gt 6, 3) := by decide +kernel
theorem dX10_dealt_136 : decode cX10_dealt 136 = .ok (.goto 10, 3) := by decide +kernel
theorem dX10_dealt_139 : decode cX10_dealt 139 = .ok (.iload 6, 2) := by decide +kernel
theorem dX10_dealt_141 : decode cX10_dealt 141 = .ok (.istore 4, 2) := by decide +kernel
theorem dX10_dealt_143 : decode cX10_dealt 143 = .ok (.iload 5, 2) := by decide +kernel
theorem dX10_dealt_145 : decode cX10_dealt 145 = .ok (.istore_n 3, 1) := by decide +kernel
theorem dX10_dealt_146 : decode cX10_dealt 146 = .ok (.iinc 5 1, 3) := by decide +kernel
theorem dX10_dealt_149 : decode cX10_dealt 149 = .ok (.goto (-63), 3) := by decide +kernel
theorem dX10_dealt_152 : decode cX10_dealt 152 = .ok (.iload_n 3, 1) := by decide +kernel
theorem dX10_dealt_153 : decode cX10_dealt 153 = .ok (.iconst (-1), 1) := by decide +kernel
theorem dX10_dealt_154 : decode cX10_dealt 154 = .ok (.if_icmp .eq 7, 3) := by decide +kernel
theorem dX10_dealt_157 : decode cX10_dealt 157 = .ok (.iconst 1, 1) := by decide +kernel
theorem dX10_dealt_158 : decode cX10_dealt 158 = .ok (.goto 4, 3) := by decide +kernel
theorem dX10_dealt_161 : decode cX10_dealt 161 = .ok (.iconst 0, 1) := by decide +kernel
theorem dX10_dealt_162 : decode cX10_dealt 162 = .ok (.istore_n 2, 1) := by decide +kernel
theorem dX10_dealt_163 : decode cX10_dealt 163 = .ok (.iload_n 2, 1) := by decide +kernel
theorem dX10_dealt_164 : decode cX10_dealt 164 = .ok (.ifCond .ne 6, 3) := by decide +kernel
theorem dX10_dealt_167 : decode cX10_dealt 167 = .ok (.goto (-101), 3) := by decide +kernel
theorem dX10_dealt_170 : decode cX10_dealt 170 = .ok (.aload_n 0, 1) := by decide +kernel
theorem dX10_dealt_171 : decode cX10_dealt 171 = .ok (.getfield 54, 3) := by decide +kernel
theorem dX10_dealt_174 : decode cX10_dealt 174 = .ok (.iload_n 3, 1) := by decide +kernel
theorem dX10_dealt_175 : decode cX10_dealt 175 = .ok (.dup2, 1) := by decide +kernel
theorem dX10_dealt_176 : decode cX10_dealt 176 = .ok (.iaload, 1) := by decide +kernel
theorem dX10_dealt_177 : decode cX10_dealt 177 = .ok (.aload_n 0, 1) := by decide +kernel
theorem dX10_dealt_178 : decode cX10_dealt 178 = .ok (.getfield 23, 3) := by decide +kernel
theorem dX10_dealt_181 : decode cX10_dealt 181 = .ok (.iadd, 1) := by decide +kernel
theorem dX10_dealt_182 : decode cX10_dealt 182 = .ok (.iastore, 1) := by decide +kernel
theorem dX10_dealt_183 : decode cX10_dealt 183 = .ok (.iload_n 1, 1) := by decide +kernel
theorem dX10_dealt_184 : decode cX10_dealt 184 = .ok (.aload_n 0, 1) := by decide +kernel
theorem dX10_dealt_185 : decode cX10_dealt 185 = .ok (.getfield 23, 3) := by decide +kernel
theorem dX10_dealt_188 : decode cX10_dealt 188 = .ok (.isub, 1) := by decide +kernel
theorem dX10_dealt_189 : decode cX10_dealt 189 = .ok (.istore_n 1, 1) := by decide +kernel
theorem dX10_dealt_190 : decode cX10_dealt 190 = .ok (.goto (-124), 3) := by decide +kernel
theorem dX10_dealt_193 : decode cX10_dealt 193 = .ok (.aload_n 0, 1) := by decide +kernel
theorem dX10_dealt_194 : decode cX10_dealt 194 = .ok (.invokevirtual 188, 3) := by decide +kernel
theorem dX10_dealt_197 : decode cX10_dealt 197 = .ok (.ireturn, 1) := by decide +kernel
theorem dX10_sum_0 : decode cX10_sum 0 = .ok (.iconst 0, 1) := by decide +kernel
theorem dX10_sum_1 : decode cX10_sum 1 = .ok (.istore_n 1, 1) := by decide +kernel
theorem dX10_sum_2 : decode cX10_sum 2 = .ok (.iconst 0, 1) := by decide +kernel
theorem dX10_sum_3 : decode cX10_sum 3 = .ok (.istore_n 2, 1) := by decide +kernel
theorem dX10_sum_4 : decode cX10_sum 4 = .ok (.iload_n 2, 1) := by decide +kernel
theorem dX10_sum_5 : decode cX10_sum 5 = .ok (.aload_n 0, 1) := by decide +kernel
theorem dX10_sum_6 : decode cX10_sum 6 = .ok (.getfield 146, 3) := by decide +kernel
theorem dX10_sum_9 : decode cX10_sum 9 = .ok (.if_icmp .ge 23, 3) := by decide +kernel
theorem dX10_sum_12 : decode cX10_sum 12 = .ok (.iload_n 1, 1) := by decide +kernel
theorem dX10_sum_13 : decode cX10_sum 13 = .ok (.aload_n 0, 1) := by decide +kernel
theorem dX10_sum_14 : decode cX10_sum 14 = .ok (.iload_n 2, 1) := by decide +kernel
theorem dX10_sum_15 : decode cX10_sum 15 = .ok (.aload_n 0, 1) := by decide +kernel
theorem dX10_sum_16 : decode cX10_sum 16 = .ok (.getfield 54, 3) := by decide +kernel
theorem dX10_sum_19 : decode cX10_sum 19 = .ok (.iload_n 2, 1) := by decide +kernel
theorem dX10_sum_20 : decode cX10_sum 20 = .ok (.iaload, 1) := by decide +kernel
theorem dX10_sum_21 : decode cX10_sum 21 = .ok (.invokevirtual 171, 3) := by decide +kernel
theorem dX10_sum_24 : decode cX10_sum 24 = .ok (.iadd, 1) := by decide +kernel
theorem dX10_sum_25 : decode cX10_sum 25 = .ok (.istore_n 1, 1) := by decide +kernel
theorem dX10_sum_26 : decode cX10_sum 26 = .ok (.iinc 2 1, 3) := by decide +kernel
theorem dX10_sum_29 : decode cX10_sum 29 = .ok (.goto (-25), 3) := by decide +kernel
theorem dX10_sum_32 : decode cX10_sum 32 = .ok (.iload_n 1, 1) := by decide +kernel
theorem dX10_sum_33 : decode cX10_sum 33 = .ok (.ireturn, 1) := by decide +kernel
theorem dX10_deal_0 : decode cX10_deal 0 = .ok (.aload_n 0, 1) := by decide +kernel
theorem dX10_deal_1 : decode cX10_deal 1 = .ok (.iconst 0, 1) := by decide +kernel
theorem dX10_deal_2 : decode cX10_deal 2 = .ok (.putfield 121, 3) := by decide +kernel
theorem dX10_deal_5 : decode cX10_deal 5 = .ok (.aload_n 0, 1) := by decide +kernel
theorem dX10_deal_6 : decode cX10_deal 6 = .ok (.invokevirtual 192, 3) := by decide +kernel
theorem dX10_deal_9 : decode cX10_deal 9 = .ok (.ireturn, 1) := by decide +kernel
theorem dX10_best_0 : decode cX10_best 0 = .ok (.aload_n 0, 1) := by decide +kernel
theorem dX10_best_1 : decode cX10_best 1 = .ok (.iconst 0, 1) := by decide +kernel
theorem dX10_best_2 : decode cX10_best 2 = .ok (.putfield 121, 3) := by decide +kernel
theorem dX10_best_5 : decode cX10_best 5 = .ok (.aload_n 0, 1) := by decide +kernel
theorem dX10_best_6 : decode cX10_best 6 = .ok (.aload_n 0, 1) := by decide +kernel
theorem dX10_best_7 : decode cX10_best 7 = .ok (.invokevirtual 184, 3) := by decide +kernel
theorem dX10_best_10 : decode cX10_best 10 = .ok (.putfield 143, 3) := by decide +kernel
theorem dX10_best_13 : decode cX10_best 13 = .ok (.aload_n 0, 1) := by decide +kernel
theorem dX10_best_14 : decode cX10_best 14 = .ok (.getfield 143, 3) := by decide +kernel
theorem dX10_best_17 : decode cX10_best 17 = .ok (.ifCond .ne 5, 3) := by decide +kernel
theorem dX10_best_20 : decode cX10_best 20 = .ok (.iconst (-1), 1) := by decide +kernel
theorem dX10_best_21 : decode cX10_best 21 = .ok (.ireturn, 1) := by decide +kernel
theorem dX10_best_22 : decode cX10_best 22 = .ok (.aload_n 0, 1) := by decide +kernel
theorem dX10_best_23 : decode cX10_best 23 = .ok (.getfield 27, 3) := by decide +kernel
theorem dX10_best_26 : decode cX10_best 26 = .ok (.aload_n 0, 1) := by decide +kernel
theorem dX10_best_27 : decode cX10_best 27 = .ok (.getfield 140, 3) := by decide +kernel
theorem dX10_best_30 : decode cX10_best 30 = .ok (.isub, 1) := by decide +kernel
theorem dX10_best_31 : decode cX10_best 31 = .ok (.aload_n 0, 1) := by decide +kernel
theorem dX10_best_32 : decode cX10_best 32 = .ok (.getfield 23, 3) := by decide +kernel
theorem dX10_best_35 : decode cX10_best 35 = .ok (.idiv, 1) := by decide +kernel
theorem dX10_best_36 : decode cX10_best 36 = .ok (.istore_n 1, 1) := by decide +kernel
theorem dX10_best_37 : decode cX10_best 37 = .ok (.ldc2_w 195, 3) := by decide +kernel
theorem dX10_best_40 : decode cX10_best 40 = .ok (.lstore_n 2, 1) := by decide +kernel
theorem dX10_best_41 : decode cX10_best 41 = .ok (.iconst 0, 1) := by decide +kernel
theorem dX10_best_42 : decode cX10_best 42 = .ok (.istore 4, 2) := by decide +kernel
theorem dX10_best_44 : decode cX10_best 44 = .ok (.iload 4, 2) := by decide +kernel
theorem dX10_best_46 : decode cX10_best 46 = .ok (.aload_n 0, 1) := by decide +kernel
theorem dX10_best_47 : decode cX10_best 47 = .ok (.getfield 146, 3) := by decide +kernel
theorem dX10_best_50 : decode cX10_best 50 = .ok (.if_icmp .ge 71, 3) := by decide +kernel
theorem dX10_best_53 : decode cX10_best 53 = .ok (.iconst 0, 1) := by decide +kernel
theorem dX10_best_54 : decode cX10_best 54 = .ok (.istore 5, 2) := by decide +kernel
theorem dX10_best_56 : decode cX10_best 56 = .ok (.iload 5, 2) := by decide +kernel
theorem dX10_best_58 : decode cX10_best 58 = .ok (.iload_n 1, 1) := by decide +kernel
theorem dX10_best_59 : decode cX10_best 59 = .ok (.if_icmp .gt 56, 3) := by decide +kernel
theorem dX10_best_62 : decode cX10_best 62 = .ok (.aload_n 0, 1) := by decide +kernel
theorem dX10_best_63 : decode cX10_best 63 = .ok (.getfield 60, 3) := by decide +kernel
theorem dX10_best_66 : decode cX10_best 66 = .ok (.bipush 65, 2) := by decide +kernel
theorem dX10_best_68 : decode cX10_best 68 = .ok (.iload 4, 2) := by decide +kernel
theorem dX10_best_70 : decode cX10_best 70 = .ok (.imul, 1) := by decide +kernel
theorem dX10_best_71 : decode cX10_best 71 = .ok (.iload 5, 2) := by decide +kernel
theorem dX10_best_73 : decode cX10_best 73 = .ok (.iadd, 1) := by decide +kernel
theorem dX10_best_74 : decode cX10_best 74 = .ok (.iload 5, 2) := by decide +kernel
theorem dX10_best_76 : decode cX10_best 76 = .ok (.aload_n 0, 1) := by decide +kernel
theorem dX10_best_77 : decode cX10_best 77 = .ok (.getfield 23, 3) := by decide +kernel
theorem dX10_best_80 : decode cX10_best 80 = .ok (.imul, 1) := by decide +kernel
theorem dX10_best_81 : decode cX10_best 81 = .ok (.aload_n 0, 1) := by decide +kernel
theorem dX10_best_82 : decode cX10_best 82 = .ok (.getfield 57, 3) := by decide +kernel
theorem dX10_best_85 : decode cX10_best 85 = .ok (.iload 4, 2) := by decide +kernel
theorem dX10_best_87 : decode cX10_best 87 = .ok (.iaload, 1) := by decide +kernel
theorem dX10_best_88 : decode cX10_best 88 = .ok (.if_icmp .ge 7, 3) := by decide +kernel
theorem dX10_best_91 : decode cX10_best 91 = .ok (.iconst (-1), 1) := by decide +kernel
theorem dX10_best_92 : decode cX10_best 92 = .ok (.goto 16, 3) := by decide +kernel
theorem dX10_best_95 : decode cX10_best 95 = .ok (.aload_n 0, 1) := by decide +kernel
theorem dX10_best_96 : decode cX10_best 96 = .ok (.iload 4, 2) := by decide +kernel
theorem dX10_best_98 : decode cX10_best 98 = .ok (.iload 5, 2) := by decide +kernel
theorem dX10_best_100 : decode cX10_best 100 = .ok (.aload_n 0, 1) := by decide +kernel
theorem dX10_best_101 : decode cX10_best 101 = .ok (.getfield 23, 3) := by decide +kernel
theorem dX10_best_104 : decode cX10_best 104 = .ok (.imul, 1) := by decide +kernel
theorem dX10_best_105 : decode cX10_best 105 = .ok (.invokevirtual 171, 3) := by decide +kernel
theorem dX10_best_108 : decode cX10_best 108 = .ok (.iastore, 1) := by decide +kernel
theorem dX10_best_109 : decode cX10_best 109 = .ok (.iinc 5 1, 3) := by decide +kernel
theorem dX10_best_112 : decode cX10_best 112 = .ok (.goto (-56), 3) := by decide +kernel
theorem dX10_best_115 : decode cX10_best 115 = .ok (.iinc 4 1, 3) := by decide +kernel
theorem dX10_best_118 : decode cX10_best 118 = .ok (.goto (-74), 3) := by decide +kernel
theorem dX10_best_121 : decode cX10_best 121 = .ok (.iconst 0, 1) := by decide +kernel
theorem dX10_best_122 : decode cX10_best 122 = .ok (.istore 4, 2) := by decide +kernel
theorem dX10_best_124 : decode cX10_best 124 = .ok (.iload 4, 2) := by decide +kernel
theorem dX10_best_126 : decode cX10_best 126 = .ok (.iload_n 1, 1) := by decide +kernel
theorem dX10_best_127 : decode cX10_best 127 = .ok (.if_icmp .gt 25, 3) := by decide +kernel
theorem dX10_best_130 : decode cX10_best 130 = .ok (.aload_n 0, 1) := by decide +kernel
theorem dX10_best_131 : decode cX10_best 131 = .ok (.getfield 63, 3) := by decide +kernel
theorem dX10_best_134 : decode cX10_best 134 = .ok (.bipush 65, 2) := by decide +kernel
theorem dX10_best_136 : decode cX10_best 136 = .ok (.aload_n 0, 1) := by decide +kernel
theorem dX10_best_137 : decode cX10_best 137 = .ok (.getfield 146, 3) := by decide +kernel
theorem dX10_best_140 : decode cX10_best 140 = .ok (.imul, 1) := by decide +kernel
theorem dX10_best_141 : decode cX10_best 141 = .ok (.iload 4, 2) := by decide +kernel
theorem dX10_best_143 : decode cX10_best 143 = .ok (.iadd, 1) := by decide +kernel
theorem dX10_best_144 : decode cX10_best 144 = .ok (.lconst 0, 1) := by decide +kernel
theorem dX10_best_145 : decode cX10_best 145 = .ok (.lastore, 1) := by decide +kernel
theorem dX10_best_146 : decode cX10_best 146 = .ok (.iinc 4 1, 3) := by decide +kernel
theorem dX10_best_149 : decode cX10_best 149 = .ok (.goto (-25), 3) := by decide +kernel
theorem dX10_best_152 : decode cX10_best 152 = .ok (.aload_n 0, 1) := by decide +kernel
theorem dX10_best_153 : decode cX10_best 153 = .ok (.getfield 146, 3) := by decide +kernel
theorem dX10_best_156 : decode cX10_best 156 = .ok (.iconst 1, 1) := by decide +kernel
theorem dX10_best_157 : decode cX10_best 157 = .ok (.isub, 1) := by decide +kernel
theorem dX10_best_158 : decode cX10_best 158 = .ok (.istore 4, 2) := by decide +kernel
theorem dX10_best_160 : decode cX10_best 160 = .ok (.iload 4, 2) := by decide +kernel
theorem dX10_best_162 : decode cX10_best 162 = .ok (.ifCond .lt 115, 3) := by decide +kernel
theorem dX10_best_165 : decode cX10_best 165 = .ok (.iconst 0, 1) := by decide +kernel
theorem dX10_best_166 : decode cX10_best 166 = .ok (.istore 5, 2) := by decide +kernel
theorem dX10_best_168 : decode cX10_best 168 = .ok (.iload 5, 2) := by decide +kernel
theorem dX10_best_170 : decode cX10_best 170 = .ok (.iload_n 1, 1) := by decide +kernel
theorem dX10_best_171 : decode cX10_best 171 = .ok (.if_icmp .gt 100, 3) := by decide +kernel
theorem dX10_best_174 : decode cX10_best 174 = .ok (.lload_n 2, 1) := by decide +kernel
theorem dX10_best_175 : decode cX10_best 175 = .ok (.lstore 6, 2) := by decide +kernel
theorem dX10_best_177 : decode cX10_best 177 = .ok (.iconst 0, 1) := by decide +kernel
theorem dX10_best_178 : decode cX10_best 178 = .ok (.istore 8, 2) := by decide +kernel
theorem dX10_best_180 : decode cX10_best 180 = .ok (.iload 8, 2) := by decide +kernel
theorem dX10_best_182 : decode cX10_best 182 = .ok (.iload 5, 2) := by decide +kernel
theorem dX10_best_184 : decode cX10_best 184 = .ok (.if_icmp .gt 66, 3) := by decide +kernel
theorem dX10_best_187 : decode cX10_best 187 = .ok (.aload_n 0, 1) := by decide +kernel
theorem dX10_best_188 : decode cX10_best 188 = .ok (.getfield 60, 3) := by decide +kernel
theorem dX10_best_191 : decode cX10_best 191 = .ok (.bipush 65, 2) := by decide +kernel
theorem dX10_best_193 : decode cX10_best 193 = .ok (.iload 4, 2) := by decide +kernel
theorem dX10_best_195 : decode cX10_best 195 = .ok (.imul, 1) := by decide +kernel
theorem dX10_best_196 : decode cX10_best 196 = .ok (.iload 8, 2) := by decide +kernel
theorem dX10_best_198 : decode cX10_best 198 = .ok (.iadd, 1) := by decide +kernel
theorem dX10_best_199 : decode cX10_best 199 = .ok (.iaload, 1) := by decide +kernel
theorem dX10_best_200 : decode cX10_best 200 = .ok (.iconst (-1), 1) := by decide +kernel
theorem dX10_best_201 : decode cX10_best 201 = .ok (.if_icmp .eq 43, 3) := by decide +kernel
theorem dX10_best_204 : decode cX10_best 204 = .ok (.lload 6, 2) := by decide +kernel
theorem dX10_best_206 : decode cX10_best 206 = .ok (.aload_n 0, 1) := by decide +kernel
theorem dX10_best_207 : decode cX10_best 207 = .ok (.getfield 60, 3) := by decide +kernel
theorem dX10_best_210 : decode cX10_best 210 = .ok (.bipush 65, 2) := by decide +kernel
theorem dX10_best_212 : decode cX10_best 212 = .ok (.iload 4, 2) := by decide +kernel
theorem dX10_best_214 : decode cX10_best 214 = .ok (.imul, 1) := by decide +kernel
theorem dX10_best_215 : decode cX10_best 215 = .ok (.iload 8, 2) := by decide +kernel
theorem dX10_best_217 : decode cX10_best 217 = .ok (.iadd, 1) := by decide +kernel
theorem dX10_best_218 : decode cX10_best 218 = .ok (.iaload, 1) := by decide +kernel
theorem dX10_best_219 : decode cX10_best 219 = .ok (.i2l, 1) := by decide +kernel
theorem dX10_best_220 : decode cX10_best 220 = .ok (.aload_n 0, 1) := by decide +kernel
theorem dX10_best_221 : decode cX10_best 221 = .ok (.getfield 63, 3) := by decide +kernel
theorem dX10_best_224 : decode cX10_best 224 = .ok (.bipush 65, 2) := by decide +kernel
theorem dX10_best_226 : decode cX10_best 226 = .ok (.iload 4, 2) := by decide +kernel
theorem dX10_best_228 : decode cX10_best 228 = .ok (.iconst 1, 1) := by decide +kernel
theorem dX10_best_229 : decode cX10_best 229 = .ok (.iadd, 1) := by decide +kernel
theorem dX10_best_230 : decode cX10_best 230 = .ok (.imul, 1) := by decide +kernel
theorem dX10_best_231 : decode cX10_best 231 = .ok (.iload 5, 2) := by decide +kernel
theorem dX10_best_233 : decode cX10_best 233 = .ok (.iadd, 1) := by decide +kernel
theorem dX10_best_234 : decode cX10_best 234 = .ok (.iload 8, 2) := by decide +kernel
theorem dX10_best_236 : decode cX10_best 236 = .ok (.isub, 1) := by decide +kernel
theorem dX10_best_237 : decode cX10_best 237 = .ok (.laload, 1) := by decide +kernel
theorem dX10_best_238 : decode cX10_best 238 = .ok (.ladd, 1) := by decide +kernel
theorem dX10_best_239 : decode cX10_best 239 = .ok (.invokestatic 197, 3) := by decide +kernel
theorem dX10_best_242 : decode cX10_best 242 = .ok (.lstore 6, 2) := by decide +kernel
theorem dX10_best_244 : decode cX10_best 244 = .ok (.iinc 8 1, 3) := by decide +kernel
theorem dX10_best_247 : decode cX10_best 247 = .ok (.goto (-67), 3) := by decide +kernel
theorem dX10_best_250 : decode cX10_best 250 = .ok (.aload_n 0, 1) := by decide +kernel
theorem dX10_best_251 : decode cX10_best 251 = .ok (.getfield 63, 3) := by decide +kernel
theorem dX10_best_254 : decode cX10_best 254 = .ok (.bipush 65, 2) := by decide +kernel
theorem dX10_best_256 : decode cX10_best 256 = .ok (.iload 4, 2) := by decide +kernel
theorem dX10_best_258 : decode cX10_best 258 = .ok (.imul, 1) := by decide +kernel
theorem dX10_best_259 : decode cX10_best 259 = .ok (.iload 5, 2) := by decide +kernel
theorem dX10_best_261 : decode cX10_best 261 = .ok (.iadd, 1) := by decide +kernel
theorem dX10_best_262 : decode cX10_best 262 = .ok (.lload 6, 2) := by decide +kernel
theorem dX10_best_264 : decode cX10_best 264 = .ok (.lastore, 1) := by decide +kernel
theorem dX10_best_265 : decode cX10_best 265 = .ok (.iinc 5 1, 3) := by decide +kernel
theorem dX10_best_268 : decode cX10_best 268 = .ok (.goto (-100), 3) := by decide +kernel
theorem dX10_best_271 : decode cX10_best 271 = .ok (.iinc 4 (-1), 3) := by decide +kernel
theorem dX10_best_274 : decode cX10_best 274 = .ok (.goto (-114), 3) := by decide +kernel
theorem dX10_best_277 : decode cX10_best 277 = .ok (.iload_n 1, 1) := by decide +kernel
theorem dX10_best_278 : decode cX10_best 278 = .ok (.istore 4, 2) := by decide +kernel
theorem dX10_best_280 : decode cX10_best 280 = .ok (.iconst 0, 1) := by decide +kernel
theorem dX10_best_281 : decode cX10_best 281 = .ok (.istore 5, 2) := by decide +kernel
theorem dX10_best_283 : decode cX10_best 283 = .ok (.iload 5, 2) := by decide +kernel
theorem dX10_best_285 : decode cX10_best 285 = .ok (.aload_n 0, 1) := by decide +kernel
theorem dX10_best_286 : decode cX10_best 286 = .ok (.getfield 146, 3) := by decide +kernel
theorem dX10_best_289 : decode cX10_best 289 = .ok (.if_icmp .ge 106, 3) := by decide +kernel
theorem dX10_best_292 : decode cX10_best 292 = .ok (.iconst 0, 1) := by decide +kernel
theorem dX10_best_293 : decode cX10_best 293 = .ok (.istore 6, 2) := by decide +kernel
theorem dX10_best_295 : decode cX10_best 295 = .ok (.aload_n 0, 1) := by decide +kernel
theorem dX10_best_296 : decode cX10_best 296 = .ok (.getfield 60, 3) := by decide +kernel
theorem dX10_best_299 : decode cX10_best 299 = .ok (.bipush 65, 2) := by decide +kernel
theorem dX10_best_301 : decode cX10_best 301 = .ok (.iload 5, 2) := by decide +kernel
theorem dX10_best_303 : decode cX10_best 303 = .ok (.imul, 1) := by decide +kernel
theorem dX10_best_304 : decode cX10_best 304 = .ok (.iload 6, 2) := by decide +kernel
theorem dX10_best_306 : decode cX10_best 306 = .ok (.iadd, 1) := by decide +kernel
theorem dX10_best_307 : decode cX10_best 307 = .ok (.iaload, 1) := by decide +kernel
theorem dX10_best_308 : decode cX10_best 308 = .ok (.iconst (-1), 1) := by decide +kernel
theorem dX10_best_309 : decode cX10_best 309 = .ok (.if_icmp .eq 53, 3) := by decide +kernel
theorem dX10_best_312 : decode cX10_best 312 = .ok (.aload_n 0, 1) := by decide +kernel
theorem dX10_best_313 : decode cX10_best 313 = .ok (.getfield 60, 3) := by decide +kernel
theorem dX10_best_316 : decode cX10_best 316 = .ok (.bipush 65, 2) := by decide +kernel
theorem dX10_best_318 : decode cX10_best 318 = .ok (.iload 5, 2) := by decide +kernel
theorem dX10_best_320 : decode cX10_best 320 = .ok (.imul, 1) := by decide +kernel
theorem dX10_best_321 : decode cX10_best 321 = .ok (.iload 6, 2) := by decide +kernel
theorem dX10_best_323 : decode cX10_best 323 = .ok (.iadd, 1) := by decide +kernel
theorem dX10_best_324 : decode cX10_best 324 = .ok (.iaload, 1) := by decide +kernel
theorem dX10_best_325 : decode cX10_best 325 = .ok (.i2l, 1) := by decide +kernel
theorem dX10_best_326 : decode cX10_best 326 = .ok (.aload_n 0, 1) := by decide +kernel
theorem dX10_best_327 : decode cX10_best 327 = .ok (.getfield 63, 3) := by decide +kernel
theorem dX10_best_330 : decode cX10_best 330 = .ok (.bipush 65, 2) := by decide +kernel
theorem dX10_best_332 : decode cX10_best 332 = .ok (.iload 5, 2) := by decide +kernel
theorem dX10_best_334 : decode cX10_best 334 = .ok (.iconst 1, 1) := by decide +kernel
theorem dX10_best_335 : decode cX10_best 335 = .ok (.iadd, 1) := by decide +kernel
theorem dX10_best_336 : decode cX10_best 336 = .ok (.imul, 1) := by decide +kernel
theorem dX10_best_337 : decode cX10_best 337 = .ok (.iload 4, 2) := by decide +kernel
theorem dX10_best_339 : decode cX10_best 339 = .ok (.iadd, 1) := by decide +kernel
theorem dX10_best_340 : decode cX10_best 340 = .ok (.iload 6, 2) := by decide +kernel
theorem dX10_best_342 : decode cX10_best 342 = .ok (.isub, 1) := by decide +kernel
theorem dX10_best_343 : decode cX10_best 343 = .ok (.laload, 1) := by decide +kernel
theorem dX10_best_344 : decode cX10_best 344 = .ok (.ladd, 1) := by decide +kernel
theorem dX10_best_345 : decode cX10_best 345 = .ok (.aload_n 0, 1) := by decide +kernel
theorem dX10_best_346 : decode cX10_best 346 = .ok (.getfield 63, 3) := by decide +kernel
theorem dX10_best_349 : decode cX10_best 349 = .ok (.bipush 65, 2) := by decide +kernel
theorem dX10_best_351 : decode cX10_best 351 = .ok (.iload 5, 2) := by decide +kernel
theorem dX10_best_353 : decode cX10_best 353 = .ok (.imul, 1) := by decide +kernel
theorem dX10_best_354 : decode cX10_best 354 = .ok (.iload 4, 2) := by decide +kernel
theorem dX10_best_356 : decode cX10_best 356 = .ok (.iadd, 1) := by decide +kernel
theorem dX10_best_357 : decode cX10_best 357 = .ok (.laload, 1) := by decide +kernel
theorem dX10_best_358 : decode cX10_best 358 = .ok (.lcmp, 1) := by decide +kernel
theorem dX10_best_359 : decode cX10_best 359 = .ok (.ifCond .eq 9, 3) := by decide +kernel
theorem dX10_best_362 : decode cX10_best 362 = .ok (.iinc 6 1, 3) := by decide +kernel
theorem dX10_best_365 : decode cX10_best 365 = .ok (.goto (-70), 3) := by decide +kernel
theorem dX10_best_368 : decode cX10_best 368 = .ok (.aload_n 0, 1) := by decide +kernel
theorem dX10_best_369 : decode cX10_best 369 = .ok (.getfield 54, 3) := by decide +kernel
theorem dX10_best_372 : decode cX10_best 372 = .ok (.iload 5, 2) := by decide +kernel
theorem dX10_best_374 : decode cX10_best 374 = .ok (.iload 6, 2) := by decide +kernel
theorem dX10_best_376 : decode cX10_best 376 = .ok (.aload_n 0, 1) := by decide +kernel
theorem dX10_best_377 : decode cX10_best 377 = .ok (.getfield 23, 3) := by decide +kernel
theorem dX10_best_380 : decode cX10_best 380 = .ok (.imul, 1) := by decide +kernel
theorem dX10_best_381 : decode cX10_best 381 = .ok (.iastore, 1) := by decide +kernel
theorem dX10_best_382 : decode cX10_best 382 = .ok (.iload 4, 2) := by decide +kernel
theorem dX10_best_384 : decode cX10_best 384 = .ok (.iload 6, 2) := by decide +kernel
theorem dX10_best_386 : decode cX10_best 386 = .ok (.isub, 1) := by decide +kernel
theorem dX10_best_387 : decode cX10_best 387 = .ok (.istore 4, 2) := by decide +kernel
theorem dX10_best_389 : decode cX10_best 389 = .ok (.iinc 5 1, 3) := by decide +kernel
theorem dX10_best_392 : decode cX10_best 392 = .ok (.goto (-109), 3) := by decide +kernel
theorem dX10_best_395 : decode cX10_best 395 = .ok (.aload_n 0, 1) := by decide +kernel
theorem dX10_best_396 : decode cX10_best 396 = .ok (.invokevirtual 188, 3) := by decide +kernel
theorem dX10_best_399 : decode cX10_best 399 = .ok (.ireturn, 1) := by decide +kernel
theorem dX10_share_0 : decode cX10_share 0 = .ok (.aload_n 0, 1) := by decide +kernel
theorem dX10_share_1 : decode cX10_share 1 = .ok (.iconst 0, 1) := by decide +kernel
theorem dX10_share_2 : decode cX10_share 2 = .ok (.putfield 121, 3) := by decide +kernel
theorem dX10_share_5 : decode cX10_share 5 = .ok (.aload_n 0, 1) := by decide +kernel
theorem dX10_share_6 : decode cX10_share 6 = .ok (.getfield 143, 3) := by decide +kernel
theorem dX10_share_9 : decode cX10_share 9 = .ok (.ifCond .eq 20, 3) := by decide +kernel
theorem dX10_share_12 : decode cX10_share 12 = .ok (.aload_n 0, 1) := by decide +kernel
theorem dX10_share_13 : decode cX10_share 13 = .ok (.iload_n 1, 1) := by decide +kernel
theorem dX10_share_14 : decode cX10_share 14 = .ok (.invokevirtual 168, 3) := by decide +kernel
theorem dX10_share_17 : decode cX10_share 17 = .ok (.ifCond .eq 12, 3) := by decide +kernel
theorem dX10_share_20 : decode cX10_share 20 = .ok (.aload_n 0, 1) := by decide +kernel
theorem dX10_share_21 : decode cX10_share 21 = .ok (.getfield 54, 3) := by decide +kernel
theorem dX10_share_24 : decode cX10_share 24 = .ok (.iload_n 1, 1) := by decide +kernel
theorem dX10_share_25 : decode cX10_share 25 = .ok (.iaload, 1) := by decide +kernel
theorem dX10_share_26 : decode cX10_share 26 = .ok (.goto 4, 3) := by decide +kernel
theorem dX10_share_29 : decode cX10_share 29 = .ok (.iconst (-1), 1) := by decide +kernel
theorem dX10_share_30 : decode cX10_share 30 = .ok (.ireturn, 1) := by decide +kernel
theorem dX10_begin_0 : decode cX10_begin 0 = .ok (.aload_n 0, 1) := by decide +kernel
theorem dX10_begin_1 : decode cX10_begin 1 = .ok (.iconst 0, 1) := by decide +kernel
theorem dX10_begin_2 : decode cX10_begin 2 = .ok (.putfield 121, 3) := by decide +kernel
theorem dX10_begin_5 : decode cX10_begin 5 = .ok (.aload_n 0, 1) := by decide +kernel
theorem dX10_begin_6 : decode cX10_begin 6 = .ok (.invokevirtual 192, 3) := by decide +kernel
theorem dX10_begin_9 : decode cX10_begin 9 = .ok (.istore_n 1, 1) := by decide +kernel
theorem dX10_begin_10 : decode cX10_begin 10 = .ok (.aload_n 0, 1) := by decide +kernel
theorem dX10_begin_11 : decode cX10_begin 11 = .ok (.getfield 143, 3) := by decide +kernel
theorem dX10_begin_14 : decode cX10_begin 14 = .ok (.ifCond .eq 10, 3) := by decide +kernel
theorem dX10_begin_17 : decode cX10_begin 17 = .ok (.aload_n 0, 1) := by decide +kernel
theorem dX10_begin_18 : decode cX10_begin 18 = .ok (.getfield 146, 3) := by decide +kernel
theorem dX10_begin_21 : decode cX10_begin 21 = .ok (.ifCond .ne 5, 3) := by decide +kernel
theorem dX10_begin_24 : decode cX10_begin 24 = .ok (.iconst 0, 1) := by decide +kernel
theorem dX10_begin_25 : decode cX10_begin 25 = .ok (.ireturn, 1) := by decide +kernel
theorem dX10_begin_26 : decode cX10_begin 26 = .ok (.aload_n 0, 1) := by decide +kernel
theorem dX10_begin_27 : decode cX10_begin 27 = .ok (.iconst 1, 1) := by decide +kernel
theorem dX10_begin_28 : decode cX10_begin 28 = .ok (.putfield 136, 3) := by decide +kernel
theorem dX10_begin_31 : decode cX10_begin 31 = .ok (.aload_n 0, 1) := by decide +kernel
theorem dX10_begin_32 : decode cX10_begin 32 = .ok (.aload_n 0, 1) := by decide +kernel
theorem dX10_begin_33 : decode cX10_begin 33 = .ok (.getfield 146, 3) := by decide +kernel
theorem dX10_begin_36 : decode cX10_begin 36 = .ok (.putfield 157, 3) := by decide +kernel
theorem dX10_begin_39 : decode cX10_begin 39 = .ok (.aload_n 0, 1) := by decide +kernel
theorem dX10_begin_40 : decode cX10_begin 40 = .ok (.iconst 0, 1) := by decide +kernel
theorem dX10_begin_41 : decode cX10_begin 41 = .ok (.putfield 203, 3) := by decide +kernel
theorem dX10_begin_44 : decode cX10_begin 44 = .ok (.aload_n 0, 1) := by decide +kernel
theorem dX10_begin_45 : decode cX10_begin 45 = .ok (.aload_n 0, 1) := by decide +kernel
theorem dX10_begin_46 : decode cX10_begin 46 = .ok (.getfield 27, 3) := by decide +kernel
theorem dX10_begin_49 : decode cX10_begin 49 = .ok (.putfield 206, 3) := by decide +kernel
theorem dX10_begin_52 : decode cX10_begin 52 = .ok (.aload_n 0, 1) := by decide +kernel
theorem dX10_begin_53 : decode cX10_begin 53 = .ok (.iconst 0, 1) := by decide +kernel
theorem dX10_begin_54 : decode cX10_begin 54 = .ok (.putfield 209, 3) := by decide +kernel
theorem dX10_begin_57 : decode cX10_begin 57 = .ok (.aload_n 0, 1) := by decide +kernel
theorem dX10_begin_58 : decode cX10_begin 58 = .ok (.iconst 0, 1) := by decide +kernel
theorem dX10_begin_59 : decode cX10_begin 59 = .ok (.putfield 212, 3) := by decide +kernel
theorem dX10_begin_62 : decode cX10_begin 62 = .ok (.iconst 0, 1) := by decide +kernel
theorem dX10_begin_63 : decode cX10_begin 63 = .ok (.istore_n 2, 1) := by decide +kernel
theorem dX10_begin_64 : decode cX10_begin 64 = .ok (.iload_n 2, 1) := by decide +kernel
theorem dX10_begin_65 : decode cX10_begin 65 = .ok (.aload_n 0, 1) := by decide +kernel
theorem dX10_begin_66 : decode cX10_begin 66 = .ok (.getfield 157, 3) := by decide +kernel
theorem dX10_begin_69 : decode cX10_begin 69 = .ok (.if_icmp .ge 141, 3) := by decide +kernel
theorem dX10_begin_72 : decode cX10_begin 72 = .ok (.aload_n 0, 1) := by decide +kernel
theorem dX10_begin_73 : decode cX10_begin 73 = .ok (.getfield 66, 3) := by decide +kernel
theorem dX10_begin_76 : decode cX10_begin 76 = .ok (.iload_n 2, 1) := by decide +kernel
theorem dX10_begin_77 : decode cX10_begin 77 = .ok (.iconst 0, 1) := by decide +kernel
theorem dX10_begin_78 : decode cX10_begin 78 = .ok (.iastore, 1) := by decide +kernel
theorem dX10_begin_79 : decode cX10_begin 79 = .ok (.aload_n 0, 1) := by decide +kernel
theorem dX10_begin_80 : decode cX10_begin 80 = .ok (.getfield 69, 3) := by decide +kernel
theorem dX10_begin_83 : decode cX10_begin 83 = .ok (.iload_n 2, 1) := by decide +kernel
theorem dX10_begin_84 : decode cX10_begin 84 = .ok (.aload_n 0, 1) := by decide +kernel
theorem dX10_begin_85 : decode cX10_begin 85 = .ok (.getfield 54, 3) := by decide +kernel
theorem dX10_begin_88 : decode cX10_begin 88 = .ok (.iload_n 2, 1) := by decide +kernel
theorem dX10_begin_89 : decode cX10_begin 89 = .ok (.iaload, 1) := by decide +kernel
theorem dX10_begin_90 : decode cX10_begin 90 = .ok (.iastore, 1) := by decide +kernel
theorem dX10_begin_91 : decode cX10_begin 91 = .ok (.aload_n 0, 1) := by decide +kernel
theorem dX10_begin_92 : decode cX10_begin 92 = .ok (.dup, 1) := by decide +kernel
theorem dX10_begin_93 : decode cX10_begin 93 = .ok (.getfield 206, 3) := by decide +kernel
theorem dX10_begin_96 : decode cX10_begin 96 = .ok (.aload_n 0, 1) := by decide +kernel
theorem dX10_begin_97 : decode cX10_begin 97 = .ok (.getfield 54, 3) := by decide +kernel
theorem dX10_begin_100 : decode cX10_begin 100 = .ok (.iload_n 2, 1) := by decide +kernel
theorem dX10_begin_101 : decode cX10_begin 101 = .ok (.iaload, 1) := by decide +kernel
theorem dX10_begin_102 : decode cX10_begin 102 = .ok (.isub, 1) := by decide +kernel
theorem dX10_begin_103 : decode cX10_begin 103 = .ok (.putfield 206, 3) := by decide +kernel
theorem dX10_begin_106 : decode cX10_begin 106 = .ok (.aload_n 0, 1) := by decide +kernel
theorem dX10_begin_107 : decode cX10_begin 107 = .ok (.getfield 72, 3) := by decide +kernel
theorem dX10_begin_110 : decode cX10_begin 110 = .ok (.iload_n 2, 1) := by decide +kernel
theorem dX10_begin_111 : decode cX10_begin 111 = .ok (.iconst 0, 1) := by decide +kernel
theorem dX10_begin_112 : decode cX10_begin 112 = .ok (.iastore, 1) := by decide +kernel
theorem dX10_begin_113 : decode cX10_begin 113 = .ok (.aload_n 0, 1) := by decide +kernel
theorem dX10_begin_114 : decode cX10_begin 114 = .ok (.getfield 75, 3) := by decide +kernel
theorem dX10_begin_117 : decode cX10_begin 117 = .ok (.iload_n 2, 1) := by decide +kernel
theorem dX10_begin_118 : decode cX10_begin 118 = .ok (.iconst 0, 1) := by decide +kernel
theorem dX10_begin_119 : decode cX10_begin 119 = .ok (.iastore, 1) := by decide +kernel
theorem dX10_begin_120 : decode cX10_begin 120 = .ok (.aload_n 0, 1) := by decide +kernel
theorem dX10_begin_121 : decode cX10_begin 121 = .ok (.getfield 78, 3) := by decide +kernel
theorem dX10_begin_124 : decode cX10_begin 124 = .ok (.iload_n 2, 1) := by decide +kernel
theorem dX10_begin_125 : decode cX10_begin 125 = .ok (.iconst 0, 1) := by decide +kernel
theorem dX10_begin_126 : decode cX10_begin 126 = .ok (.iastore, 1) := by decide +kernel
theorem dX10_begin_127 : decode cX10_begin 127 = .ok (.aload_n 0, 1) := by decide +kernel
theorem dX10_begin_128 : decode cX10_begin 128 = .ok (.getfield 81, 3) := by decide +kernel
theorem dX10_begin_131 : decode cX10_begin 131 = .ok (.iload_n 2, 1) := by decide +kernel
theorem dX10_begin_132 : decode cX10_begin 132 = .ok (.iconst 0, 1) := by decide +kernel
theorem dX10_begin_133 : decode cX10_begin 133 = .ok (.iastore, 1) := by decide +kernel
theorem dX10_begin_134 : decode cX10_begin 134 = .ok (.aload_n 0, 1) := by decide +kernel
theorem dX10_begin_135 : decode cX10_begin 135 = .ok (.getfield 84, 3) := by decide +kernel
theorem dX10_begin_138 : decode cX10_begin 138 = .ok (.iload_n 2, 1) := by decide +kernel
theorem dX10_begin_139 : decode cX10_begin 139 = .ok (.iconst 0, 1) := by decide +kernel
theorem dX10_begin_140 : decode cX10_begin 140 = .ok (.iastore, 1) := by decide +kernel
theorem dX10_begin_141 : decode cX10_begin 141 = .ok (.aload_n 0, 1) := by decide +kernel
theorem dX10_begin_142 : decode cX10_begin 142 = .ok (.getfield 87, 3) := by decide +kernel
theorem dX10_begin_145 : decode cX10_begin 145 = .ok (.iload_n 2, 1) := by decide +kernel
theorem dX10_begin_146 : decode cX10_begin 146 = .ok (.iconst 0, 1) := by decide +kernel
theorem dX10_begin_147 : decode cX10_begin 147 = .ok (.iastore, 1) := by decide +kernel
theorem dX10_begin_148 : decode cX10_begin 148 = .ok (.aload_n 0, 1) := by decide +kernel
theorem dX10_begin_149 : decode cX10_begin 149 = .ok (.getfield 90, 3) := by decide +kernel
theorem dX10_begin_152 : decode cX10_begin 152 = .ok (.iload_n 2, 1) := by decide +kernel
theorem dX10_begin_153 : decode cX10_begin 153 = .ok (.iconst 0, 1) := by decide +kernel
theorem dX10_begin_154 : decode cX10_begin 154 = .ok (.iastore, 1) := by decide +kernel
theorem dX10_begin_155 : decode cX10_begin 155 = .ok (.aload_n 0, 1) := by decide +kernel
theorem dX10_begin_156 : decode cX10_begin 156 = .ok (.getfield 93, 3) := by decide +kernel
theorem dX10_begin_159 : decode cX10_begin 159 = .ok (.iload_n 2, 1) := by decide +kernel
theorem dX10_begin_160 : decode cX10_begin 160 = .ok (.iconst 0, 1) := by decide +kernel
theorem dX10_begin_161 : decode cX10_begin 161 = .ok (.iastore, 1) := by decide +kernel
theorem dX10_begin_162 : decode cX10_begin 162 = .ok (.aload_n 0, 1) := by decide +kernel
theorem dX10_begin_163 : decode cX10_begin 163 = .ok (.getfield 96, 3) := by decide +kernel
theorem dX10_begin_166 : decode cX10_begin 166 = .ok (.iload_n 2, 1) := by decide +kernel
theorem dX10_begin_167 : decode cX10_begin 167 = .ok (.iconst (-1), 1) := by decide +kernel
theorem dX10_begin_168 : decode cX10_begin 168 = .ok (.iastore, 1) := by decide +kernel
theorem dX10_begin_169 : decode cX10_begin 169 = .ok (.aload_n 0, 1) := by decide +kernel
theorem dX10_begin_170 : decode cX10_begin 170 = .ok (.getfield 99, 3) := by decide +kernel
theorem dX10_begin_173 : decode cX10_begin 173 = .ok (.iload_n 2, 1) := by decide +kernel
theorem dX10_begin_174 : decode cX10_begin 174 = .ok (.iconst 0, 1) := by decide +kernel
theorem dX10_begin_175 : decode cX10_begin 175 = .ok (.iastore, 1) := by decide +kernel
theorem dX10_begin_176 : decode cX10_begin 176 = .ok (.aload_n 0, 1) := by decide +kernel
theorem dX10_begin_177 : decode cX10_begin 177 = .ok (.getfield 102, 3) := by decide +kernel
theorem dX10_begin_180 : decode cX10_begin 180 = .ok (.iload_n 2, 1) := by decide +kernel
theorem dX10_begin_181 : decode cX10_begin 181 = .ok (.iconst 0, 1) := by decide +kernel
theorem dX10_begin_182 : decode cX10_begin 182 = .ok (.iastore, 1) := by decide +kernel
theorem dX10_begin_183 : decode cX10_begin 183 = .ok (.aload_n 0, 1) := by decide +kernel
theorem dX10_begin_184 : decode cX10_begin 184 = .ok (.getfield 105, 3) := by decide +kernel
theorem dX10_begin_187 : decode cX10_begin 187 = .ok (.iload_n 2, 1) := by decide +kernel
theorem dX10_begin_188 : decode cX10_begin 188 = .ok (.iconst 0, 1) := by decide +kernel
theorem dX10_begin_189 : decode cX10_begin 189 = .ok (.iastore, 1) := by decide +kernel
theorem dX10_begin_190 : decode cX10_begin 190 = .ok (.aload_n 0, 1) := by decide +kernel
theorem dX10_begin_191 : decode cX10_begin 191 = .ok (.getfield 108, 3) := by decide +kernel
theorem dX10_begin_194 : decode cX10_begin 194 = .ok (.iload_n 2, 1) := by decide +kernel
theorem dX10_begin_195 : decode cX10_begin 195 = .ok (.iconst 0, 1) := by decide +kernel
theorem dX10_begin_196 : decode cX10_begin 196 = .ok (.bastore, 1) := by decide +kernel
theorem dX10_begin_197 : decode cX10_begin 197 = .ok (.aload_n 0, 1) := by decide +kernel
theorem dX10_begin_198 : decode cX10_begin 198 = .ok (.getfield 112, 3) := by decide +kernel
theorem dX10_begin_201 : decode cX10_begin 201 = .ok (.iload_n 2, 1) := by decide +kernel
theorem dX10_begin_202 : decode cX10_begin 202 = .ok (.iconst 0, 1) := by decide +kernel
theorem dX10_begin_203 : decode cX10_begin 203 = .ok (.bastore, 1) := by decide +kernel
theorem dX10_begin_204 : decode cX10_begin 204 = .ok (.iinc 2 1, 3) := by decide +kernel
theorem dX10_begin_207 : decode cX10_begin 207 = .ok (.goto (-143), 3) := by decide +kernel
theorem dX10_begin_210 : decode cX10_begin 210 = .ok (.iconst 1, 1) := by decide +kernel
theorem dX10_begin_211 : decode cX10_begin 211 = .ok (.ireturn, 1) := by decide +kernel
theorem dX10_stop_0 : decode cX10_stop 0 = .ok (.aload_n 0, 1) := by decide +kernel
theorem dX10_stop_1 : decode cX10_stop 1 = .ok (.iconst 0, 1) := by decide +kernel
theorem dX10_stop_2 : decode cX10_stop 2 = .ok (.putfield 121, 3) := by decide +kernel
theorem dX10_stop_5 : decode cX10_stop 5 = .ok (.aload_n 0, 1) := by decide +kernel
theorem dX10_stop_6 : decode cX10_stop 6 = .ok (.getfield 136, 3) := by decide +kernel
theorem dX10_stop_9 : decode cX10_stop 9 = .ok (.istore_n 1, 1) := by decide +kernel
theorem dX10_stop_10 : decode cX10_stop 10 = .ok (.aload_n 0, 1) := by decide +kernel
theorem dX10_stop_11 : decode cX10_stop 11 = .ok (.iconst 0, 1) := by decide +kernel
theorem dX10_stop_12 : decode cX10_stop 12 = .ok (.putfield 136, 3) := by decide +kernel
theorem dX10_stop_15 : decode cX10_stop 15 = .ok (.iload_n 1, 1) := by decide +kernel
theorem dX10_stop_16 : decode cX10_stop 16 = .ok (.ireturn, 1) := by decide +kernel
theorem dX10_tells_0 : decode cX10_tells 0 = .ok (.aload_n 0, 1) := by decide +kernel
theorem dX10_tells_1 : decode cX10_tells 1 = .ok (.getfield 209, 3) := by decide +kernel
theorem dX10_tells_4 : decode cX10_tells 4 = .ok (.bipush 60, 2) := by decide +kernel
theorem dX10_tells_6 : decode cX10_tells 6 = .ok (.if_icmp .ne 46, 3) := by decide +kernel
theorem dX10_tells_9 : decode cX10_tells 9 = .ok (.iconst 0, 1) := by decide +kernel
theorem dX10_tells_10 : decode cX10_tells 10 = .ok (.istore 4, 2) := by decide +kernel
theorem dX10_tells_12 : decode cX10_tells 12 = .ok (.iload 4, 2) := by decide +kernel
theorem dX10_tells_14 : decode cX10_tells 14 = .ok (.sipush 236, 3) := by decide +kernel
theorem dX10_tells_17 : decode cX10_tells 17 = .ok (.if_icmp .ge 25, 3) := by decide +kernel
theorem dX10_tells_20 : decode cX10_tells 20 = .ok (.aload_n 0, 1) := by decide +kernel
theorem dX10_tells_21 : decode cX10_tells 21 = .ok (.getfield 118, 3) := by decide +kernel
theorem dX10_tells_24 : decode cX10_tells 24 = .ok (.iload 4, 2) := by decide +kernel
theorem dX10_tells_26 : decode cX10_tells 26 = .ok (.aload_n 0, 1) := by decide +kernel
theorem dX10_tells_27 : decode cX10_tells 27 = .ok (.getfield 118, 3) := by decide +kernel
theorem dX10_tells_30 : decode cX10_tells 30 = .ok (.iload 4, 2) := by decide +kernel
theorem dX10_tells_32 : decode cX10_tells 32 = .ok (.iconst 4, 1) := by decide +kernel
theorem dX10_tells_33 : decode cX10_tells 33 = .ok (.iadd, 1) := by decide +kernel
theorem dX10_tells_34 : decode cX10_tells 34 = .ok (.iaload, 1) := by decide +kernel
theorem dX10_tells_35 : decode cX10_tells 35 = .ok (.iastore, 1) := by decide +kernel
theorem dX10_tells_36 : decode cX10_tells 36 = .ok (.iinc 4 1, 3) := by decide +kernel
theorem dX10_tells_39 : decode cX10_tells 39 = .ok (.goto (-27), 3) := by decide +kernel
theorem dX10_tells_42 : decode cX10_tells 42 = .ok (.aload_n 0, 1) := by decide +kernel
theorem dX10_tells_43 : decode cX10_tells 43 = .ok (.dup, 1) := by decide +kernel
theorem dX10_tells_44 : decode cX10_tells 44 = .ok (.getfield 209, 3) := by decide +kernel
theorem dX10_tells_47 : decode cX10_tells 47 = .ok (.iconst 1, 1) := by decide +kernel
theorem dX10_tells_48 : decode cX10_tells 48 = .ok (.isub, 1) := by decide +kernel
theorem dX10_tells_49 : decode cX10_tells 49 = .ok (.putfield 209, 3) := by decide +kernel
theorem dX10_tells_52 : decode cX10_tells 52 = .ok (.aload_n 0, 1) := by decide +kernel
theorem dX10_tells_53 : decode cX10_tells 53 = .ok (.getfield 118, 3) := by decide +kernel
theorem dX10_tells_56 : decode cX10_tells 56 = .ok (.iconst 4, 1) := by decide +kernel
theorem dX10_tells_57 : decode cX10_tells 57 = .ok (.aload_n 0, 1) := by decide +kernel
theorem dX10_tells_58 : decode cX10_tells 58 = .ok (.getfield 209, 3) := by decide +kernel
theorem dX10_tells_61 : decode cX10_tells 61 = .ok (.imul, 1) := by decide +kernel
theorem dX10_tells_62 : decode cX10_tells 62 = .ok (.aload_n 0, 1) := by decide +kernel
theorem dX10_tells_63 : decode cX10_tells 63 = .ok (.getfield 203, 3) := by decide +kernel
theorem dX10_tells_66 : decode cX10_tells 66 = .ok (.iastore, 1) := by decide +kernel
theorem dX10_tells_67 : decode cX10_tells 67 = .ok (.aload_n 0, 1) := by decide +kernel
theorem dX10_tells_68 : decode cX10_tells 68 = .ok (.getfield 118, 3) := by decide +kernel
theorem dX10_tells_71 : decode cX10_tells 71 = .ok (.iconst 4, 1) := by decide +kernel
theorem dX10_tells_72 : decode cX10_tells 72 = .ok (.aload_n 0, 1) := by decide +kernel
theorem dX10_tells_73 : decode cX10_tells 73 = .ok (.getfield 209, 3) := by decide +kernel
theorem dX10_tells_76 : decode cX10_tells 76 = .ok (.imul, 1) := by decide +kernel
theorem dX10_tells_77 : decode cX10_tells 77 = .ok (.iconst 1, 1) := by decide +kernel
theorem dX10_tells_78 : decode cX10_tells 78 = .ok (.iadd, 1) := by decide +kernel
theorem dX10_tells_79 : decode cX10_tells 79 = .ok (.iload_n 1, 1) := by decide +kernel
theorem dX10_tells_80 : decode cX10_tells 80 = .ok (.iastore, 1) := by decide +kernel
theorem dX10_tells_81 : decode cX10_tells 81 = .ok (.aload_n 0, 1) := by decide +kernel
theorem dX10_tells_82 : decode cX10_tells 82 = .ok (.getfield 118, 3) := by decide +kernel
theorem dX10_tells_85 : decode cX10_tells 85 = .ok (.iconst 4, 1) := by decide +kernel
theorem dX10_tells_86 : decode cX10_tells 86 = .ok (.aload_n 0, 1) := by decide +kernel
theorem dX10_tells_87 : decode cX10_tells 87 = .ok (.getfield 209, 3) := by decide +kernel
theorem dX10_tells_90 : decode cX10_tells 90 = .ok (.imul, 1) := by decide +kernel
theorem dX10_tells_91 : decode cX10_tells 91 = .ok (.iconst 2, 1) := by decide +kernel
theorem dX10_tells_92 : decode cX10_tells 92 = .ok (.iadd, 1) := by decide +kernel
theorem dX10_tells_93 : decode cX10_tells 93 = .ok (.iload_n 2, 1) := by decide +kernel
theorem dX10_tells_94 : decode cX10_tells 94 = .ok (.iastore, 1) := by decide +kernel
theorem dX10_tells_95 : decode cX10_tells 95 = .ok (.aload_n 0, 1) := by decide +kernel
theorem dX10_tells_96 : decode cX10_tells 96 = .ok (.getfield 118, 3) := by decide +kernel
theorem dX10_tells_99 : decode cX10_tells 99 = .ok (.iconst 4, 1) := by decide +kernel
theorem dX10_tells_100 : decode cX10_tells 100 = .ok (.aload_n 0, 1) := by decide +kernel
theorem dX10_tells_101 : decode cX10_tells 101 = .ok (.getfield 209, 3) := by decide +kernel
theorem dX10_tells_104 : decode cX10_tells 104 = .ok (.imul, 1) := by decide +kernel
theorem dX10_tells_105 : decode cX10_tells 105 = .ok (.iconst 3, 1) := by decide +kernel
theorem dX10_tells_106 : decode cX10_tells 106 = .ok (.iadd, 1) := by decide +kernel
theorem dX10_tells_107 : decode cX10_tells 107 = .ok (.iload_n 3, 1) := by decide +kernel
theorem dX10_tells_108 : decode cX10_tells 108 = .ok (.iastore, 1) := by decide +kernel
theorem dX10_tells_109 : decode cX10_tells 109 = .ok (.aload_n 0, 1) := by decide +kernel
theorem dX10_tells_110 : decode cX10_tells 110 = .ok (.dup, 1) := by decide +kernel
theorem dX10_tells_111 : decode cX10_tells 111 = .ok (.getfield 209, 3) := by decide +kernel
theorem dX10_tells_114 : decode cX10_tells 114 = .ok (.iconst 1, 1) := by decide +kernel
theorem dX10_tells_115 : decode cX10_tells 115 = .ok (.iadd, 1) := by decide +kernel
theorem dX10_tells_116 : decode cX10_tells 116 = .ok (.putfield 209, 3) := by decide +kernel
theorem dX10_tells_119 : decode cX10_tells 119 = .ok (.aload_n 0, 1) := by decide +kernel
theorem dX10_tells_120 : decode cX10_tells 120 = .ok (.dup, 1) := by decide +kernel
theorem dX10_tells_121 : decode cX10_tells 121 = .ok (.getfield 212, 3) := by decide +kernel
theorem dX10_tells_124 : decode cX10_tells 124 = .ok (.iconst 1, 1) := by decide +kernel
theorem dX10_tells_125 : decode cX10_tells 125 = .ok (.iadd, 1) := by decide +kernel
theorem dX10_tells_126 : decode cX10_tells 126 = .ok (.putfield 212, 3) := by decide +kernel
theorem dX10_tells_129 : decode cX10_tells 129 = .ok (.return_, 1) := by decide +kernel
theorem dX10_isThere_0 : decode cX10_isThere 0 = .ok (.aload_n 0, 1) := by decide +kernel
theorem dX10_isThere_1 : decode cX10_isThere 1 = .ok (.getfield 66, 3) := by decide +kernel
theorem dX10_isThere_4 : decode cX10_isThere 4 = .ok (.iload_n 1, 1) := by decide +kernel
theorem dX10_isThere_5 : decode cX10_isThere 5 = .ok (.iaload, 1) := by decide +kernel
theorem dX10_isThere_6 : decode cX10_isThere 6 = .ok (.iconst 3, 1) := by decide +kernel
theorem dX10_isThere_7 : decode cX10_isThere 7 = .ok (.if_icmp .ge 7, 3) := by decide +kernel
theorem dX10_isThere_10 : decode cX10_isThere 10 = .ok (.iconst 1, 1) := by decide +kernel
theorem dX10_isThere_11 : decode cX10_isThere 11 = .ok (.goto 4, 3) := by decide +kernel
theorem dX10_isThere_14 : decode cX10_isThere 14 = .ok (.iconst 0, 1) := by decide +kernel
theorem dX10_isThere_15 : decode cX10_isThere 15 = .ok (.ireturn, 1) := by decide +kernel
theorem dX10_isUp_0 : decode cX10_isUp 0 = .ok (.aload_n 0, 1) := by decide +kernel
theorem dX10_isUp_1 : decode cX10_isUp 1 = .ok (.getfield 66, 3) := by decide +kernel
theorem dX10_isUp_4 : decode cX10_isUp 4 = .ok (.iload_n 1, 1) := by decide +kernel
theorem dX10_isUp_5 : decode cX10_isUp 5 = .ok (.iaload, 1) := by decide +kernel
theorem dX10_isUp_6 : decode cX10_isUp 6 = .ok (.ifCond .eq 13, 3) := by decide +kernel
theorem dX10_isUp_9 : decode cX10_isUp 9 = .ok (.aload_n 0, 1) := by decide +kernel
theorem dX10_isUp_10 : decode cX10_isUp 10 = .ok (.getfield 66, 3) := by decide +kernel
theorem dX10_isUp_13 : decode cX10_isUp 13 = .ok (.iload_n 1, 1) := by decide +kernel
theorem dX10_isUp_14 : decode cX10_isUp 14 = .ok (.iaload, 1) := by decide +kernel
theorem dX10_isUp_15 : decode cX10_isUp 15 = .ok (.iconst 1, 1) := by decide +kernel
theorem dX10_isUp_16 : decode cX10_isUp 16 = .ok (.if_icmp .ne 7, 3) := by decide +kernel
theorem dX10_isUp_19 : decode cX10_isUp 19 = .ok (.iconst 1, 1) := by decide +kernel
theorem dX10_isUp_20 : decode cX10_isUp 20 = .ok (.goto 4, 3) := by decide +kernel
theorem dX10_isUp_23 : decode cX10_isUp 23 = .ok (.iconst 0, 1) := by decide +kernel
theorem dX10_isUp_24 : decode cX10_isUp 24 = .ok (.ireturn, 1) := by decide +kernel
theorem dX10_collects_0 : decode cX10_collects 0 = .ok (.aload_n 0, 1) := by decide +kernel
theorem dX10_collects_1 : decode cX10_collects 1 = .ok (.getfield 42, 3) := by decide +kernel
theorem dX10_collects_4 : decode cX10_collects 4 = .ok (.iload_n 1, 1) := by decide +kernel
theorem dX10_collects_5 : decode cX10_collects 5 = .ok (.iaload, 1) := by decide +kernel
theorem dX10_collects_6 : decode cX10_collects 6 = .ok (.aload_n 0, 1) := by decide +kernel
theorem dX10_collects_7 : decode cX10_collects 7 = .ok (.getfield 75, 3) := by decide +kernel
theorem dX10_collects_10 : decode cX10_collects 10 = .ok (.iload_n 1, 1) := by decide +kernel
theorem dX10_collects_11 : decode cX10_collects 11 = .ok (.iaload, 1) := by decide +kernel
theorem dX10_collects_12 : decode cX10_collects 12 = .ok (.aload_n 0, 1) := by decide +kernel
theorem dX10_collects_13 : decode cX10_collects 13 = .ok (.getfield 72, 3) := by decide +kernel
theorem dX10_collects_16 : decode cX10_collects 16 = .ok (.iload_n 1, 1) := by decide +kernel
theorem dX10_collects_17 : decode cX10_collects 17 = .ok (.iaload, 1) := by decide +kernel
theorem dX10_collects_18 : decode cX10_collects 18 = .ok (.invokestatic 164, 3) := by decide +kernel
theorem dX10_collects_21 : decode cX10_collects 21 = .ok (.istore_n 2, 1) := by decide +kernel
theorem dX10_collects_22 : decode cX10_collects 22 = .ok (.aload_n 0, 1) := by decide +kernel
theorem dX10_collects_23 : decode cX10_collects 23 = .ok (.getfield 87, 3) := by decide +kernel
theorem dX10_collects_26 : decode cX10_collects 26 = .ok (.iload_n 1, 1) := by decide +kernel
theorem dX10_collects_27 : decode cX10_collects 27 = .ok (.dup2, 1) := by decide +kernel
theorem dX10_collects_28 : decode cX10_collects 28 = .ok (.iaload, 1) := by decide +kernel
theorem dX10_collects_29 : decode cX10_collects 29 = .ok (.iload_n 2, 1) := by decide +kernel
theorem dX10_collects_30 : decode cX10_collects 30 = .ok (.iadd, 1) := by decide +kernel
theorem dX10_collects_31 : decode cX10_collects 31 = .ok (.iastore, 1) := by decide +kernel
theorem dX10_collects_32 : decode cX10_collects 32 = .ok (.aload_n 0, 1) := by decide +kernel
theorem dX10_collects_33 : decode cX10_collects 33 = .ok (.getfield 90, 3) := by decide +kernel
theorem dX10_collects_36 : decode cX10_collects 36 = .ok (.iload_n 1, 1) := by decide +kernel
theorem dX10_collects_37 : decode cX10_collects 37 = .ok (.dup2, 1) := by decide +kernel
theorem dX10_collects_38 : decode cX10_collects 38 = .ok (.iaload, 1) := by decide +kernel
theorem dX10_collects_39 : decode cX10_collects 39 = .ok (.iload_n 2, 1) := by decide +kernel
theorem dX10_collects_40 : decode cX10_collects 40 = .ok (.iadd, 1) := by decide +kernel
theorem dX10_collects_41 : decode cX10_collects 41 = .ok (.iastore, 1) := by decide +kernel
theorem dX10_collects_42 : decode cX10_collects 42 = .ok (.aload_n 0, 1) := by decide +kernel
theorem dX10_collects_43 : decode cX10_collects 43 = .ok (.getfield 72, 3) := by decide +kernel
theorem dX10_collects_46 : decode cX10_collects 46 = .ok (.iload_n 1, 1) := by decide +kernel
theorem dX10_collects_47 : decode cX10_collects 47 = .ok (.aload_n 0, 1) := by decide +kernel
theorem dX10_collects_48 : decode cX10_collects 48 = .ok (.getfield 75, 3) := by decide +kernel
theorem dX10_collects_51 : decode cX10_collects 51 = .ok (.iload_n 1, 1) := by decide +kernel
theorem dX10_collects_52 : decode cX10_collects 52 = .ok (.iaload, 1) := by decide +kernel
theorem dX10_collects_53 : decode cX10_collects 53 = .ok (.iastore, 1) := by decide +kernel
theorem dX10_collects_54 : decode cX10_collects 54 = .ok (.aload_n 0, 1) := by decide +kernel
theorem dX10_collects_55 : decode cX10_collects 55 = .ok (.iload_n 1, 1) := by decide +kernel
theorem dX10_collects_56 : decode cX10_collects 56 = .ok (.iconst 0, 1) := by decide +kernel
theorem dX10_collects_57 : decode cX10_collects 57 = .ok (.iload_n 2, 1) := by decide +kernel
theorem dX10_collects_58 : decode cX10_collects 58 = .ok (.invokevirtual 215, 3) := by decide +kernel
theorem dX10_collects_61 : decode cX10_collects 61 = .ok (.iload_n 2, 1) := by decide +kernel
theorem dX10_collects_62 : decode cX10_collects 62 = .ok (.ireturn, 1) := by decide +kernel
theorem dX10_spare_0 : decode cX10_spare 0 = .ok (.aload_n 0, 1) := by decide +kernel
theorem dX10_spare_1 : decode cX10_spare 1 = .ok (.iload_n 1, 1) := by decide +kernel
theorem dX10_spare_2 : decode cX10_spare 2 = .ok (.invokevirtual 219, 3) := by decide +kernel
theorem dX10_spare_5 : decode cX10_spare 5 = .ok (.ifCond .ne 5, 3) := by decide +kernel
theorem dX10_spare_8 : decode cX10_spare 8 = .ok (.iconst 0, 1) := by decide +kernel
theorem dX10_spare_9 : decode cX10_spare 9 = .ok (.ireturn, 1) := by decide +kernel
theorem dX10_spare_10 : decode cX10_spare 10 = .ok (.aload_n 0, 1) := by decide +kernel
theorem dX10_spare_11 : decode cX10_spare 11 = .ok (.aload_n 0, 1) := by decide +kernel
theorem dX10_spare_12 : decode cX10_spare 12 = .ok (.getfield 48, 3) := by decide +kernel
theorem dX10_spare_15 : decode cX10_spare 15 = .ok (.iload_n 1, 1) := by decide +kernel
theorem dX10_spare_16 : decode cX10_spare 16 = .ok (.iaload, 1) := by decide +kernel
theorem dX10_spare_17 : decode cX10_spare 17 = .ok (.aload_n 0, 1) := by decide +kernel
theorem dX10_spare_18 : decode cX10_spare 18 = .ok (.getfield 42, 3) := by decide +kernel
theorem dX10_spare_21 : decode cX10_spare 21 = .ok (.iload_n 1, 1) := by decide +kernel
theorem dX10_spare_22 : decode cX10_spare 22 = .ok (.iaload, 1) := by decide +kernel
theorem dX10_spare_23 : decode cX10_spare 23 = .ok (.ifCond .ne 14, 3) := by decide +kernel
theorem dX10_spare_26 : decode cX10_spare 26 = .ok (.iconst 2, 1) := by decide +kernel
theorem dX10_spare_27 : decode cX10_spare 27 = .ok (.aload_n 0, 1) := by decide +kernel
theorem dX10_spare_28 : decode cX10_spare 28 = .ok (.getfield 75, 3) := by decide +kernel
theorem dX10_spare_31 : decode cX10_spare 31 = .ok (.iload_n 1, 1) := by decide +kernel
theorem dX10_spare_32 : decode cX10_spare 32 = .ok (.iaload, 1) := by decide +kernel
theorem dX10_spare_33 : decode cX10_spare 33 = .ok (.imul, 1) := by decide +kernel
theorem dX10_spare_34 : decode cX10_spare 34 = .ok (.goto 9, 3) := by decide +kernel
theorem dX10_spare_37 : decode cX10_spare 37 = .ok (.aload_n 0, 1) := by decide +kernel
theorem dX10_spare_38 : decode cX10_spare 38 = .ok (.getfield 75, 3) := by decide +kernel
theorem dX10_spare_41 : decode cX10_spare 41 = .ok (.iload_n 1, 1) := by decide +kernel
theorem dX10_spare_42 : decode cX10_spare 42 = .ok (.iaload, 1) := by decide +kernel
theorem dX10_spare_43 : decode cX10_spare 43 = .ok (.invokestatic 222, 3) := by decide +kernel
theorem dX10_spare_46 : decode cX10_spare 46 = .ok (.invokevirtual 174, 3) := by decide +kernel
theorem dX10_spare_49 : decode cX10_spare 49 = .ok (.istore_n 2, 1) := by decide +kernel
theorem dX10_spare_50 : decode cX10_spare 50 = .ok (.iconst 0, 1) := by decide +kernel
theorem dX10_spare_51 : decode cX10_spare 51 = .ok (.aload_n 0, 1) := by decide +kernel
theorem dX10_spare_52 : decode cX10_spare 52 = .ok (.getfield 69, 3) := by decide +kernel
theorem dX10_spare_55 : decode cX10_spare 55 = .ok (.iload_n 1, 1) := by decide +kernel
theorem dX10_spare_56 : decode cX10_spare 56 = .ok (.iaload, 1) := by decide +kernel
theorem dX10_spare_57 : decode cX10_spare 57 = .ok (.iload_n 2, 1) := by decide +kernel
theorem dX10_spare_58 : decode cX10_spare 58 = .ok (.isub, 1) := by decide +kernel
theorem dX10_spare_59 : decode cX10_spare 59 = .ok (.invokestatic 222, 3) := by decide +kernel
theorem dX10_spare_62 : decode cX10_spare 62 = .ok (.ireturn, 1) := by decide +kernel
theorem dX10_gives_0 : decode cX10_gives 0 = .ok (.aload_n 0, 1) := by decide +kernel
theorem dX10_gives_1 : decode cX10_gives 1 = .ok (.getfield 72, 3) := by decide +kernel
theorem dX10_gives_4 : decode cX10_gives 4 = .ok (.iload_n 1, 1) := by decide +kernel
theorem dX10_gives_5 : decode cX10_gives 5 = .ok (.iaload, 1) := by decide +kernel
theorem dX10_gives_6 : decode cX10_gives 6 = .ok (.aload_n 0, 1) := by decide +kernel
theorem dX10_gives_7 : decode cX10_gives 7 = .ok (.getfield 42, 3) := by decide +kernel
theorem dX10_gives_10 : decode cX10_gives 10 = .ok (.iload_n 1, 1) := by decide +kernel
theorem dX10_gives_11 : decode cX10_gives 11 = .ok (.iaload, 1) := by decide +kernel
theorem dX10_gives_12 : decode cX10_gives 12 = .ok (.aload_n 0, 1) := by decide +kernel
theorem dX10_gives_13 : decode cX10_gives 13 = .ok (.getfield 69, 3) := by decide +kernel
theorem dX10_gives_16 : decode cX10_gives 16 = .ok (.iload_n 1, 1) := by decide +kernel
theorem dX10_gives_17 : decode cX10_gives 17 = .ok (.iaload, 1) := by decide +kernel
theorem dX10_gives_18 : decode cX10_gives 18 = .ok (.iload_n 2, 1) := by decide +kernel
theorem dX10_gives_19 : decode cX10_gives 19 = .ok (.isub, 1) := by decide +kernel
theorem dX10_gives_20 : decode cX10_gives 20 = .ok (.invokestatic 160, 3) := by decide +kernel
theorem dX10_gives_23 : decode cX10_gives 23 = .ok (.if_icmp .le 36, 3) := by decide +kernel
theorem dX10_gives_26 : decode cX10_gives 26 = .ok (.aload_n 0, 1) := by decide +kernel
theorem dX10_gives_27 : decode cX10_gives 27 = .ok (.iload_n 1, 1) := by decide +kernel
theorem dX10_gives_28 : decode cX10_gives 28 = .ok (.invokevirtual 225, 3) := by decide +kernel
theorem dX10_gives_31 : decode cX10_gives 31 = .ok (.istore_n 3, 1) := by decide +kernel
theorem dX10_gives_32 : decode cX10_gives 32 = .ok (.aload_n 0, 1) := by decide +kernel
theorem dX10_gives_33 : decode cX10_gives 33 = .ok (.getfield 66, 3) := by decide +kernel
theorem dX10_gives_36 : decode cX10_gives 36 = .ok (.iload_n 1, 1) := by decide +kernel
theorem dX10_gives_37 : decode cX10_gives 37 = .ok (.iaload, 1) := by decide +kernel
theorem dX10_gives_38 : decode cX10_gives 38 = .ok (.iconst 2, 1) := by decide +kernel
theorem dX10_gives_39 : decode cX10_gives 39 = .ok (.if_icmp .eq 20, 3) := by decide +kernel
theorem dX10_gives_42 : decode cX10_gives 42 = .ok (.aload_n 0, 1) := by decide +kernel
theorem dX10_gives_43 : decode cX10_gives 43 = .ok (.getfield 66, 3) := by decide +kernel
theorem dX10_gives_46 : decode cX10_gives 46 = .ok (.iload_n 1, 1) := by decide +kernel
theorem dX10_gives_47 : decode cX10_gives 47 = .ok (.iconst 1, 1) := by decide +kernel
theorem dX10_gives_48 : decode cX10_gives 48 = .ok (.iastore, 1) := by decide +kernel
theorem dX10_gives_49 : decode cX10_gives 49 = .ok (.aload_n 0, 1) := by decide +kernel
theorem dX10_gives_50 : decode cX10_gives 50 = .ok (.getfield 93, 3) := by decide +kernel
theorem dX10_gives_53 : decode cX10_gives 53 = .ok (.iload_n 1, 1) := by decide +kernel
theorem dX10_gives_54 : decode cX10_gives 54 = .ok (.dup2, 1) := by decide +kernel
theorem dX10_gives_55 : decode cX10_gives 55 = .ok (.iaload, 1) := by decide +kernel
theorem dX10_gives_56 : decode cX10_gives 56 = .ok (.iload_n 3, 1) := by decide +kernel
theorem dX10_gives_57 : decode cX10_gives 57 = .ok (.iadd, 1) := by decide +kernel
theorem dX10_gives_58 : decode cX10_gives 58 = .ok (.iastore, 1) := by decide +kernel
theorem dX10_gives_59 : decode cX10_gives 59 = .ok (.aload_n 0, 1) := by decide +kernel
theorem dX10_gives_60 : decode cX10_gives 60 = .ok (.getfield 69, 3) := by decide +kernel
theorem dX10_gives_63 : decode cX10_gives 63 = .ok (.iload_n 1, 1) := by decide +kernel
theorem dX10_gives_64 : decode cX10_gives 64 = .ok (.dup2, 1) := by decide +kernel
theorem dX10_gives_65 : decode cX10_gives 65 = .ok (.iaload, 1) := by decide +kernel
theorem dX10_gives_66 : decode cX10_gives 66 = .ok (.iload_n 2, 1) := by decide +kernel
theorem dX10_gives_67 : decode cX10_gives 67 = .ok (.isub, 1) := by decide +kernel
theorem dX10_gives_68 : decode cX10_gives 68 = .ok (.iastore, 1) := by decide +kernel
theorem dX10_gives_69 : decode cX10_gives 69 = .ok (.aload_n 0, 1) := by decide +kernel
theorem dX10_gives_70 : decode cX10_gives 70 = .ok (.iload_n 1, 1) := by decide +kernel
theorem dX10_gives_71 : decode cX10_gives 71 = .ok (.iconst 3, 1) := by decide +kernel
theorem dX10_gives_72 : decode cX10_gives 72 = .ok (.iload_n 2, 1) := by decide +kernel
theorem dX10_gives_73 : decode cX10_gives 73 = .ok (.invokevirtual 215, 3) := by decide +kernel
theorem dX10_gives_76 : decode cX10_gives 76 = .ok (.return_, 1) := by decide +kernel
theorem dX10_isOver_0 : decode cX10_isOver 0 = .ok (.aload_n 0, 1) := by decide +kernel
theorem dX10_isOver_1 : decode cX10_isOver 1 = .ok (.getfield 66, 3) := by decide +kernel
theorem dX10_isOver_4 : decode cX10_isOver 4 = .ok (.iload_n 1, 1) := by decide +kernel
theorem dX10_isOver_5 : decode cX10_isOver 5 = .ok (.iload_n 2, 1) := by decide +kernel
theorem dX10_isOver_6 : decode cX10_isOver 6 = .ok (.iastore, 1) := by decide +kernel
theorem dX10_isOver_7 : decode cX10_isOver 7 = .ok (.aload_n 0, 1) := by decide +kernel
theorem dX10_isOver_8 : decode cX10_isOver 8 = .ok (.getfield 96, 3) := by decide +kernel
theorem dX10_isOver_11 : decode cX10_isOver 11 = .ok (.iload_n 1, 1) := by decide +kernel
theorem dX10_isOver_12 : decode cX10_isOver 12 = .ok (.aload_n 0, 1) := by decide +kernel
theorem dX10_isOver_13 : decode cX10_isOver 13 = .ok (.getfield 203, 3) := by decide +kernel
theorem dX10_isOver_16 : decode cX10_isOver 16 = .ok (.iastore, 1) := by decide +kernel
theorem dX10_isOver_17 : decode cX10_isOver 17 = .ok (.aload_n 0, 1) := by decide +kernel
theorem dX10_isOver_18 : decode cX10_isOver 18 = .ok (.getfield 93, 3) := by decide +kernel
theorem dX10_isOver_21 : decode cX10_isOver 21 = .ok (.iload_n 1, 1) := by decide +kernel
theorem dX10_isOver_22 : decode cX10_isOver 22 = .ok (.iconst 0, 1) := by decide +kernel
theorem dX10_isOver_23 : decode cX10_isOver 23 = .ok (.iastore, 1) := by decide +kernel
theorem dX10_isOver_24 : decode cX10_isOver 24 = .ok (.aload_n 0, 1) := by decide +kernel
theorem dX10_isOver_25 : decode cX10_isOver 25 = .ok (.getfield 69, 3) := by decide +kernel
theorem dX10_isOver_28 : decode cX10_isOver 28 = .ok (.iload_n 1, 1) := by decide +kernel
theorem dX10_isOver_29 : decode cX10_isOver 29 = .ok (.iaload, 1) := by decide +kernel
theorem dX10_isOver_30 : decode cX10_isOver 30 = .ok (.istore_n 3, 1) := by decide +kernel
theorem dX10_isOver_31 : decode cX10_isOver 31 = .ok (.aload_n 0, 1) := by decide +kernel
theorem dX10_isOver_32 : decode cX10_isOver 32 = .ok (.dup, 1) := by decide +kernel
theorem dX10_isOver_33 : decode cX10_isOver 33 = .ok (.getfield 206, 3) := by decide +kernel
theorem dX10_isOver_36 : decode cX10_isOver 36 = .ok (.iload_n 3, 1) := by decide +kernel
theorem dX10_isOver_37 : decode cX10_isOver 37 = .ok (.iadd, 1) := by decide +kernel
theorem dX10_isOver_38 : decode cX10_isOver 38 = .ok (.putfield 206, 3) := by decide +kernel
theorem dX10_isOver_41 : decode cX10_isOver 41 = .ok (.aload_n 0, 1) := by decide +kernel
theorem dX10_isOver_42 : decode cX10_isOver 42 = .ok (.getfield 69, 3) := by decide +kernel
theorem dX10_isOver_45 : decode cX10_isOver 45 = .ok (.iload_n 1, 1) := by decide +kernel
theorem dX10_isOver_46 : decode cX10_isOver 46 = .ok (.iconst 0, 1) := by decide +kernel
theorem dX10_isOver_47 : decode cX10_isOver 47 = .ok (.iastore, 1) := by decide +kernel
theorem dX10_isOver_48 : decode cX10_isOver 48 = .ok (.aload_n 0, 1) := by decide +kernel
theorem dX10_isOver_49 : decode cX10_isOver 49 = .ok (.getfield 72, 3) := by decide +kernel
theorem dX10_isOver_52 : decode cX10_isOver 52 = .ok (.iload_n 1, 1) := by decide +kernel
theorem dX10_isOver_53 : decode cX10_isOver 53 = .ok (.iconst 0, 1) := by decide +kernel
theorem dX10_isOver_54 : decode cX10_isOver 54 = .ok (.iastore, 1) := by decide +kernel
theorem dX10_isOver_55 : decode cX10_isOver 55 = .ok (.aload_n 0, 1) := by decide +kernel
theorem dX10_isOver_56 : decode cX10_isOver 56 = .ok (.getfield 75, 3) := by decide +kernel
theorem dX10_isOver_59 : decode cX10_isOver 59 = .ok (.iload_n 1, 1) := by decide +kernel
theorem dX10_isOver_60 : decode cX10_isOver 60 = .ok (.iconst 0, 1) := by decide +kernel
theorem dX10_isOver_61 : decode cX10_isOver 61 = .ok (.iastore, 1) := by decide +kernel
theorem dX10_isOver_62 : decode cX10_isOver 62 = .ok (.aload_n 0, 1) := by decide +kernel
theorem dX10_isOver_63 : decode cX10_isOver 63 = .ok (.iload_n 1, 1) := by decide +kernel
theorem dX10_isOver_64 : decode cX10_isOver 64 = .ok (.iload_n 2, 1) := by decide +kernel
theorem dX10_isOver_65 : decode cX10_isOver 65 = .ok (.iconst 3, 1) := by decide +kernel
theorem dX10_isOver_66 : decode cX10_isOver 66 = .ok (.if_icmp .ne 8, 3) := by decide +kernel
theorem dX10_isOver_69 : decode cX10_isOver 69 = .ok (.bipush 6, 2) := by decide +kernel
theorem dX10_isOver_71 : decode cX10_isOver 71 = .ok (.goto 4, 3) := by decide +kernel
theorem dX10_isOver_74 : decode cX10_isOver 74 = .ok (.iconst 2, 1) := by decide +kernel
theorem dX10_isOver_75 : decode cX10_isOver 75 = .ok (.iload_n 3, 1) := by decide +kernel
theorem dX10_isOver_76 : decode cX10_isOver 76 = .ok (.invokevirtual 215, 3) := by decide +kernel
theorem dX10_isOver_79 : decode cX10_isOver 79 = .ok (.return_, 1) := by decide +kernel
theorem dX10_passes_0 : decode cX10_passes 0 = .ok (.aload_n 0, 1) := by decide +kernel
theorem dX10_passes_1 : decode cX10_passes 1 = .ok (.getfield 66, 3) := by decide +kernel
theorem dX10_passes_4 : decode cX10_passes 4 = .ok (.iload_n 1, 1) := by decide +kernel
theorem dX10_passes_5 : decode cX10_passes 5 = .ok (.iaload, 1) := by decide +kernel
theorem dX10_passes_6 : decode cX10_passes 6 = .ok (.iconst 2, 1) := by decide +kernel
theorem dX10_passes_7 : decode cX10_passes 7 = .ok (.if_icmp .ne 77, 3) := by decide +kernel
theorem dX10_passes_10 : decode cX10_passes 10 = .ok (.aload_n 0, 1) := by decide +kernel
theorem dX10_passes_11 : decode cX10_passes 11 = .ok (.getfield 112, 3) := by decide +kernel
theorem dX10_passes_14 : decode cX10_passes 14 = .ok (.iload_n 1, 1) := by decide +kernel
theorem dX10_passes_15 : decode cX10_passes 15 = .ok (.baload, 1) := by decide +kernel
theorem dX10_passes_16 : decode cX10_passes 16 = .ok (.ifCond .eq 68, 3) := by decide +kernel
theorem dX10_passes_19 : decode cX10_passes 19 = .ok (.aload_n 0, 1) := by decide +kernel
theorem dX10_passes_20 : decode cX10_passes 20 = .ok (.getfield 206, 3) := by decide +kernel
theorem dX10_passes_23 : decode cX10_passes 23 = .ok (.aload_n 0, 1) := by decide +kernel
theorem dX10_passes_24 : decode cX10_passes 24 = .ok (.getfield 23, 3) := by decide +kernel
theorem dX10_passes_27 : decode cX10_passes 27 = .ok (.idiv, 1) := by decide +kernel
theorem dX10_passes_28 : decode cX10_passes 28 = .ok (.aload_n 0, 1) := by decide +kernel
theorem dX10_passes_29 : decode cX10_passes 29 = .ok (.getfield 23, 3) := by decide +kernel
theorem dX10_passes_32 : decode cX10_passes 32 = .ok (.imul, 1) := by decide +kernel
theorem dX10_passes_33 : decode cX10_passes 33 = .ok (.aload_n 0, 1) := by decide +kernel
theorem dX10_passes_34 : decode cX10_passes 34 = .ok (.getfield 99, 3) := by decide +kernel
theorem dX10_passes_37 : decode cX10_passes 37 = .ok (.iload_n 1, 1) := by decide +kernel
theorem dX10_passes_38 : decode cX10_passes 38 = .ok (.iaload, 1) := by decide +kernel
theorem dX10_passes_39 : decode cX10_passes 39 = .ok (.aload_n 0, 1) := by decide +kernel
theorem dX10_passes_40 : decode cX10_passes 40 = .ok (.getfield 69, 3) := by decide +kernel
theorem dX10_passes_43 : decode cX10_passes 43 = .ok (.iload_n 1, 1) := by decide +kernel
theorem dX10_passes_44 : decode cX10_passes 44 = .ok (.iaload, 1) := by decide +kernel
theorem dX10_passes_45 : decode cX10_passes 45 = .ok (.isub, 1) := by decide +kernel
theorem dX10_passes_46 : decode cX10_passes 46 = .ok (.invokestatic 228, 3) := by decide +kernel
theorem dX10_passes_49 : decode cX10_passes 49 = .ok (.istore_n 2, 1) := by decide +kernel
theorem dX10_passes_50 : decode cX10_passes 50 = .ok (.aload_n 0, 1) := by decide +kernel
theorem dX10_passes_51 : decode cX10_passes 51 = .ok (.dup, 1) := by decide +kernel
theorem dX10_passes_52 : decode cX10_passes 52 = .ok (.getfield 206, 3) := by decide +kernel
theorem dX10_passes_55 : decode cX10_passes 55 = .ok (.iload_n 2, 1) := by decide +kernel
theorem dX10_passes_56 : decode cX10_passes 56 = .ok (.isub, 1) := by decide +kernel
theorem dX10_passes_57 : decode cX10_passes 57 = .ok (.putfield 206, 3) := by decide +kernel
theorem dX10_passes_60 : decode cX10_passes 60 = .ok (.aload_n 0, 1) := by decide +kernel
theorem dX10_passes_61 : decode cX10_passes 61 = .ok (.getfield 69, 3) := by decide +kernel
theorem dX10_passes_64 : decode cX10_passes 64 = .ok (.iload_n 1, 1) := by decide +kernel
theorem dX10_passes_65 : decode cX10_passes 65 = .ok (.dup2, 1) := by decide +kernel
theorem dX10_passes_66 : decode cX10_passes 66 = .ok (.iaload, 1) := by decide +kernel
theorem dX10_passes_67 : decode cX10_passes 67 = .ok (.iload_n 2, 1) := by decide +kernel
theorem dX10_passes_68 : decode cX10_passes 68 = .ok (.iadd, 1) := by decide +kernel
theorem dX10_passes_69 : decode cX10_passes 69 = .ok (.iastore, 1) := by decide +kernel
theorem dX10_passes_70 : decode cX10_passes 70 = .ok (.aload_n 0, 1) := by decide +kernel
theorem dX10_passes_71 : decode cX10_passes 71 = .ok (.getfield 112, 3) := by decide +kernel
theorem dX10_passes_74 : decode cX10_passes 74 = .ok (.iload_n 1, 1) := by decide +kernel
theorem dX10_passes_75 : decode cX10_passes 75 = .ok (.iconst 0, 1) := by decide +kernel
theorem dX10_passes_76 : decode cX10_passes 76 = .ok (.bastore, 1) := by decide +kernel
theorem dX10_passes_77 : decode cX10_passes 77 = .ok (.aload_n 0, 1) := by decide +kernel
theorem dX10_passes_78 : decode cX10_passes 78 = .ok (.iload_n 1, 1) := by decide +kernel
theorem dX10_passes_79 : decode cX10_passes 79 = .ok (.iconst 5, 1) := by decide +kernel
theorem dX10_passes_80 : decode cX10_passes 80 = .ok (.iload_n 2, 1) := by decide +kernel
theorem dX10_passes_81 : decode cX10_passes 81 = .ok (.invokevirtual 215, 3) := by decide +kernel
theorem dX10_passes_84 : decode cX10_passes 84 = .ok (.aload_n 0, 1) := by decide +kernel
theorem dX10_passes_85 : decode cX10_passes 85 = .ok (.getfield 66, 3) := by decide +kernel
theorem dX10_passes_88 : decode cX10_passes 88 = .ok (.iload_n 1, 1) := by decide +kernel
theorem dX10_passes_89 : decode cX10_passes 89 = .ok (.iconst 0, 1) := by decide +kernel
theorem dX10_passes_90 : decode cX10_passes 90 = .ok (.iastore, 1) := by decide +kernel
theorem dX10_passes_91 : decode cX10_passes 91 = .ok (.aload_n 0, 1) := by decide +kernel
theorem dX10_passes_92 : decode cX10_passes 92 = .ok (.getfield 93, 3) := by decide +kernel
theorem dX10_passes_95 : decode cX10_passes 95 = .ok (.iload_n 1, 1) := by decide +kernel
theorem dX10_passes_96 : decode cX10_passes 96 = .ok (.iconst 0, 1) := by decide +kernel
theorem dX10_passes_97 : decode cX10_passes 97 = .ok (.iastore, 1) := by decide +kernel
theorem dX10_passes_98 : decode cX10_passes 98 = .ok (.aload_n 0, 1) := by decide +kernel
theorem dX10_passes_99 : decode cX10_passes 99 = .ok (.getfield 81, 3) := by decide +kernel
theorem dX10_passes_102 : decode cX10_passes 102 = .ok (.iload_n 1, 1) := by decide +kernel
theorem dX10_passes_103 : decode cX10_passes 103 = .ok (.dup2, 1) := by decide +kernel
theorem dX10_passes_104 : decode cX10_passes 104 = .ok (.iaload, 1) := by decide +kernel
theorem dX10_passes_105 : decode cX10_passes 105 = .ok (.iconst 1, 1) := by decide +kernel
theorem dX10_passes_106 : decode cX10_passes 106 = .ok (.iadd, 1) := by decide +kernel
theorem dX10_passes_107 : decode cX10_passes 107 = .ok (.iastore, 1) := by decide +kernel
theorem dX10_passes_108 : decode cX10_passes 108 = .ok (.aload_n 0, 1) := by decide +kernel
theorem dX10_passes_109 : decode cX10_passes 109 = .ok (.getfield 81, 3) := by decide +kernel
theorem dX10_passes_112 : decode cX10_passes 112 = .ok (.iload_n 1, 1) := by decide +kernel
theorem dX10_passes_113 : decode cX10_passes 113 = .ok (.iaload, 1) := by decide +kernel
theorem dX10_passes_114 : decode cX10_passes 114 = .ok (.aload_n 0, 1) := by decide +kernel
theorem dX10_passes_115 : decode cX10_passes 115 = .ok (.getfield 36, 3) := by decide +kernel
theorem dX10_passes_118 : decode cX10_passes 118 = .ok (.iload_n 1, 1) := by decide +kernel
theorem dX10_passes_119 : decode cX10_passes 119 = .ok (.iaload, 1) := by decide +kernel
theorem dX10_passes_120 : decode cX10_passes 120 = .ok (.if_icmp .ge 4, 3) := by decide +kernel
theorem dX10_passes_123 : decode cX10_passes 123 = .ok (.return_, 1) := by decide +kernel
theorem dX10_passes_124 : decode cX10_passes 124 = .ok (.aload_n 0, 1) := by decide +kernel
theorem dX10_passes_125 : decode cX10_passes 125 = .ok (.getfield 81, 3) := by decide +kernel
theorem dX10_passes_128 : decode cX10_passes 128 = .ok (.iload_n 1, 1) := by decide +kernel
theorem dX10_passes_129 : decode cX10_passes 129 = .ok (.iconst 0, 1) := by decide +kernel
theorem dX10_passes_130 : decode cX10_passes 130 = .ok (.iastore, 1) := by decide +kernel
theorem dX10_passes_131 : decode cX10_passes 131 = .ok (.aload_n 0, 1) := by decide +kernel
theorem dX10_passes_132 : decode cX10_passes 132 = .ok (.getfield 102, 3) := by decide +kernel
theorem dX10_passes_135 : decode cX10_passes 135 = .ok (.iload_n 1, 1) := by decide +kernel
theorem dX10_passes_136 : decode cX10_passes 136 = .ok (.aload_n 0, 1) := by decide +kernel
theorem dX10_passes_137 : decode cX10_passes 137 = .ok (.getfield 78, 3) := by decide +kernel
theorem dX10_passes_140 : decode cX10_passes 140 = .ok (.iload_n 1, 1) := by decide +kernel
theorem dX10_passes_141 : decode cX10_passes 141 = .ok (.iaload, 1) := by decide +kernel
theorem dX10_passes_142 : decode cX10_passes 142 = .ok (.ifCond .le 29, 3) := by decide +kernel
theorem dX10_passes_145 : decode cX10_passes 145 = .ok (.aload_n 0, 1) := by decide +kernel
theorem dX10_passes_146 : decode cX10_passes 146 = .ok (.getfield 75, 3) := by decide +kernel
theorem dX10_passes_149 : decode cX10_passes 149 = .ok (.iload_n 1, 1) := by decide +kernel
theorem dX10_passes_150 : decode cX10_passes 150 = .ok (.iaload, 1) := by decide +kernel
theorem dX10_passes_151 : decode cX10_passes 151 = .ok (.aload_n 0, 1) := by decide +kernel
theorem dX10_passes_152 : decode cX10_passes 152 = .ok (.getfield 105, 3) := by decide +kernel
theorem dX10_passes_155 : decode cX10_passes 155 = .ok (.iload_n 1, 1) := by decide +kernel
theorem dX10_passes_156 : decode cX10_passes 156 = .ok (.iaload, 1) := by decide +kernel
theorem dX10_passes_157 : decode cX10_passes 157 = .ok (.if_icmp .le 14, 3) := by decide +kernel
theorem dX10_passes_160 : decode cX10_passes 160 = .ok (.aload_n 0, 1) := by decide +kernel
theorem dX10_passes_161 : decode cX10_passes 161 = .ok (.getfield 102, 3) := by decide +kernel
theorem dX10_passes_164 : decode cX10_passes 164 = .ok (.iload_n 1, 1) := by decide +kernel
theorem dX10_passes_165 : decode cX10_passes 165 = .ok (.iaload, 1) := by decide +kernel
theorem dX10_passes_166 : decode cX10_passes 166 = .ok (.iconst 1, 1) := by decide +kernel
theorem dX10_passes_167 : decode cX10_passes 167 = .ok (.iadd, 1) := by decide +kernel
theorem dX10_passes_168 : decode cX10_passes 168 = .ok (.goto 4, 3) := by decide +kernel
theorem dX10_passes_171 : decode cX10_passes 171 = .ok (.iconst 0, 1) := by decide +kernel
theorem dX10_passes_172 : decode cX10_passes 172 = .ok (.iastore, 1) := by decide +kernel
theorem dX10_passes_173 : decode cX10_passes 173 = .ok (.aload_n 0, 1) := by decide +kernel
theorem dX10_passes_174 : decode cX10_passes 174 = .ok (.getfield 105, 3) := by decide +kernel
theorem dX10_passes_177 : decode cX10_passes 177 = .ok (.iload_n 1, 1) := by decide +kernel
theorem dX10_passes_178 : decode cX10_passes 178 = .ok (.aload_n 0, 1) := by decide +kernel
theorem dX10_passes_179 : decode cX10_passes 179 = .ok (.getfield 75, 3) := by decide +kernel
theorem dX10_passes_182 : decode cX10_passes 182 = .ok (.iload_n 1, 1) := by decide +kernel
theorem dX10_passes_183 : decode cX10_passes 183 = .ok (.iaload, 1) := by decide +kernel
theorem dX10_passes_184 : decode cX10_passes 184 = .ok (.iastore, 1) := by decide +kernel
theorem dX10_passes_185 : decode cX10_passes 185 = .ok (.aload_n 0, 1) := by decide +kernel
theorem dX10_passes_186 : decode cX10_passes 186 = .ok (.getfield 78, 3) := by decide +kernel
theorem dX10_passes_189 : decode cX10_passes 189 = .ok (.iload_n 1, 1) := by decide +kernel
theorem dX10_passes_190 : decode cX10_passes 190 = .ok (.dup2, 1) := by decide +kernel
theorem dX10_passes_191 : decode cX10_passes 191 = .ok (.iaload, 1) := by decide +kernel
theorem dX10_passes_192 : decode cX10_passes 192 = .ok (.iconst 1, 1) := by decide +kernel
theorem dX10_passes_193 : decode cX10_passes 193 = .ok (.iadd, 1) := by decide +kernel
theorem dX10_passes_194 : decode cX10_passes 194 = .ok (.iastore, 1) := by decide +kernel
theorem dX10_passes_195 : decode cX10_passes 195 = .ok (.aload_n 0, 1) := by decide +kernel
theorem dX10_passes_196 : decode cX10_passes 196 = .ok (.getfield 102, 3) := by decide +kernel
theorem dX10_passes_199 : decode cX10_passes 199 = .ok (.iload_n 1, 1) := by decide +kernel
theorem dX10_passes_200 : decode cX10_passes 200 = .ok (.iaload, 1) := by decide +kernel
theorem dX10_passes_201 : decode cX10_passes 201 = .ok (.iconst 3, 1) := by decide +kernel
theorem dX10_passes_202 : decode cX10_passes 202 = .ok (.if_icmp .lt 32, 3) := by decide +kernel
theorem dX10_passes_205 : decode cX10_passes 205 = .ok (.aload_n 0, 1) := by decide +kernel
theorem dX10_passes_206 : decode cX10_passes 206 = .ok (.getfield 108, 3) := by decide +kernel
theorem dX10_passes_209 : decode cX10_passes 209 = .ok (.iload_n 1, 1) := by decide +kernel
theorem dX10_passes_210 : decode cX10_passes 210 = .ok (.baload, 1) := by decide +kernel
theorem dX10_passes_211 : decode cX10_passes 211 = .ok (.ifCond .ne 23, 3) := by decide +kernel
theorem dX10_passes_214 : decode cX10_passes 214 = .ok (.aload_n 0, 1) := by decide +kernel
theorem dX10_passes_215 : decode cX10_passes 215 = .ok (.getfield 108, 3) := by decide +kernel
theorem dX10_passes_218 : decode cX10_passes 218 = .ok (.iload_n 1, 1) := by decide +kernel
theorem dX10_passes_219 : decode cX10_passes 219 = .ok (.iconst 1, 1) := by decide +kernel
theorem dX10_passes_220 : decode cX10_passes 220 = .ok (.bastore, 1) := by decide +kernel
theorem dX10_passes_221 : decode cX10_passes 221 = .ok (.aload_n 0, 1) := by decide +kernel
theorem dX10_passes_222 : decode cX10_passes 222 = .ok (.iload_n 1, 1) := by decide +kernel
theorem dX10_passes_223 : decode cX10_passes 223 = .ok (.bipush 7, 2) := by decide +kernel
theorem dX10_passes_225 : decode cX10_passes 225 = .ok (.aload_n 0, 1) := by decide +kernel
theorem dX10_passes_226 : decode cX10_passes 226 = .ok (.getfield 75, 3) := by decide +kernel
theorem dX10_passes_229 : decode cX10_passes 229 = .ok (.iload_n 1, 1) := by decide +kernel
theorem dX10_passes_230 : decode cX10_passes 230 = .ok (.iaload, 1) := by decide +kernel
theorem dX10_passes_231 : decode cX10_passes 231 = .ok (.invokevirtual 215, 3) := by decide +kernel
theorem dX10_passes_234 : decode cX10_passes 234 = .ok (.aload_n 0, 1) := by decide +kernel
theorem dX10_passes_235 : decode cX10_passes 235 = .ok (.getfield 78, 3) := by decide +kernel
theorem dX10_passes_238 : decode cX10_passes 238 = .ok (.iload_n 1, 1) := by decide +kernel
theorem dX10_passes_239 : decode cX10_passes 239 = .ok (.iaload, 1) := by decide +kernel
theorem dX10_passes_240 : decode cX10_passes 240 = .ok (.aload_n 0, 1) := by decide +kernel
theorem dX10_passes_241 : decode cX10_passes 241 = .ok (.getfield 45, 3) := by decide +kernel
theorem dX10_passes_244 : decode cX10_passes 244 = .ok (.iload_n 1, 1) := by decide +kernel
theorem dX10_passes_245 : decode cX10_passes 245 = .ok (.iaload, 1) := by decide +kernel
theorem dX10_passes_246 : decode cX10_passes 246 = .ok (.if_icmp .ne 9, 3) := by decide +kernel
theorem dX10_passes_249 : decode cX10_passes 249 = .ok (.aload_n 0, 1) := by decide +kernel
theorem dX10_passes_250 : decode cX10_passes 250 = .ok (.iload_n 1, 1) := by decide +kernel
theorem dX10_passes_251 : decode cX10_passes 251 = .ok (.iconst 3, 1) := by decide +kernel
theorem dX10_passes_252 : decode cX10_passes 252 = .ok (.invokevirtual 230, 3) := by decide +kernel
theorem dX10_passes_255 : decode cX10_passes 255 = .ok (.return_, 1) := by decide +kernel
theorem dX10_makes_0 : decode cX10_makes 0 = .ok (.aload_n 0, 1) := by decide +kernel
theorem dX10_makes_1 : decode cX10_makes 1 = .ok (.getfield 115, 3) := by decide +kernel
theorem dX10_makes_4 : decode cX10_makes 4 = .ok (.sipush 2400, 3) := by decide +kernel
theorem dX10_makes_7 : decode cX10_makes 7 = .ok (.iload_n 1, 1) := by decide +kernel
theorem dX10_makes_8 : decode cX10_makes 8 = .ok (.imul, 1) := by decide +kernel
theorem dX10_makes_9 : decode cX10_makes 9 = .ok (.aload_n 0, 1) := by decide +kernel
theorem dX10_makes_10 : decode cX10_makes 10 = .ok (.getfield 84, 3) := by decide +kernel
theorem dX10_makes_13 : decode cX10_makes 13 = .ok (.iload_n 1, 1) := by decide +kernel
theorem dX10_makes_14 : decode cX10_makes 14 = .ok (.iaload, 1) := by decide +kernel
theorem dX10_makes_15 : decode cX10_makes 15 = .ok (.iadd, 1) := by decide +kernel
theorem dX10_makes_16 : decode cX10_makes 16 = .ok (.iload_n 2, 1) := by decide +kernel
theorem dX10_makes_17 : decode cX10_makes 17 = .ok (.iastore, 1) := by decide +kernel
theorem dX10_makes_18 : decode cX10_makes 18 = .ok (.aload_n 0, 1) := by decide +kernel
theorem dX10_makes_19 : decode cX10_makes 19 = .ok (.getfield 84, 3) := by decide +kernel
theorem dX10_makes_22 : decode cX10_makes 22 = .ok (.iload_n 1, 1) := by decide +kernel
theorem dX10_makes_23 : decode cX10_makes 23 = .ok (.dup2, 1) := by decide +kernel
theorem dX10_makes_24 : decode cX10_makes 24 = .ok (.iaload, 1) := by decide +kernel
theorem dX10_makes_25 : decode cX10_makes 25 = .ok (.iconst 1, 1) := by decide +kernel
theorem dX10_makes_26 : decode cX10_makes 26 = .ok (.iadd, 1) := by decide +kernel
theorem dX10_makes_27 : decode cX10_makes 27 = .ok (.iastore, 1) := by decide +kernel
theorem dX10_makes_28 : decode cX10_makes 28 = .ok (.aload_n 0, 1) := by decide +kernel
theorem dX10_makes_29 : decode cX10_makes 29 = .ok (.getfield 75, 3) := by decide +kernel
theorem dX10_makes_32 : decode cX10_makes 32 = .ok (.iload_n 1, 1) := by decide +kernel
theorem dX10_makes_33 : decode cX10_makes 33 = .ok (.dup2, 1) := by decide +kernel
theorem dX10_makes_34 : decode cX10_makes 34 = .ok (.iaload, 1) := by decide +kernel
theorem dX10_makes_35 : decode cX10_makes 35 = .ok (.iload_n 2, 1) := by decide +kernel
theorem dX10_makes_36 : decode cX10_makes 36 = .ok (.iadd, 1) := by decide +kernel
theorem dX10_makes_37 : decode cX10_makes 37 = .ok (.iastore, 1) := by decide +kernel
theorem dX10_makes_38 : decode cX10_makes 38 = .ok (.aload_n 0, 1) := by decide +kernel
theorem dX10_makes_39 : decode cX10_makes 39 = .ok (.getfield 72, 3) := by decide +kernel
theorem dX10_makes_42 : decode cX10_makes 42 = .ok (.iload_n 1, 1) := by decide +kernel
theorem dX10_makes_43 : decode cX10_makes 43 = .ok (.dup2, 1) := by decide +kernel
theorem dX10_makes_44 : decode cX10_makes 44 = .ok (.iaload, 1) := by decide +kernel
theorem dX10_makes_45 : decode cX10_makes 45 = .ok (.iload_n 2, 1) := by decide +kernel
theorem dX10_makes_46 : decode cX10_makes 46 = .ok (.iadd, 1) := by decide +kernel
theorem dX10_makes_47 : decode cX10_makes 47 = .ok (.iastore, 1) := by decide +kernel
theorem dX10_makes_48 : decode cX10_makes 48 = .ok (.aload_n 0, 1) := by decide +kernel
theorem dX10_makes_49 : decode cX10_makes 49 = .ok (.iload_n 1, 1) := by decide +kernel
theorem dX10_makes_50 : decode cX10_makes 50 = .ok (.invokevirtual 234, 3) := by decide +kernel
theorem dX10_makes_53 : decode cX10_makes 53 = .ok (.return_, 1) := by decide +kernel
theorem dX10_asks_0 : decode cX10_asks 0 = .ok (.aload_n 0, 1) := by decide +kernel
theorem dX10_asks_1 : decode cX10_asks 1 = .ok (.getfield 23, 3) := by decide +kernel
theorem dX10_asks_4 : decode cX10_asks 4 = .ok (.istore_n 3, 1) := by decide +kernel
theorem dX10_asks_5 : decode cX10_asks 5 = .ok (.aload_n 0, 1) := by decide +kernel
theorem dX10_asks_6 : decode cX10_asks 6 = .ok (.getfield 42, 3) := by decide +kernel
theorem dX10_asks_9 : decode cX10_asks 9 = .ok (.iload_n 1, 1) := by decide +kernel
theorem dX10_asks_10 : decode cX10_asks 10 = .ok (.iaload, 1) := by decide +kernel
theorem dX10_asks_11 : decode cX10_asks 11 = .ok (.aload_n 0, 1) := by decide +kernel
theorem dX10_asks_12 : decode cX10_asks 12 = .ok (.getfield 69, 3) := by decide +kernel
theorem dX10_asks_15 : decode cX10_asks 15 = .ok (.iload_n 1, 1) := by decide +kernel
theorem dX10_asks_16 : decode cX10_asks 16 = .ok (.iaload, 1) := by decide +kernel
theorem dX10_asks_17 : decode cX10_asks 17 = .ok (.iload_n 3, 1) := by decide +kernel
theorem dX10_asks_18 : decode cX10_asks 18 = .ok (.iadd, 1) := by decide +kernel
theorem dX10_asks_19 : decode cX10_asks 19 = .ok (.invokestatic 160, 3) := by decide +kernel
theorem dX10_asks_22 : decode cX10_asks 22 = .ok (.aload_n 0, 1) := by decide +kernel
theorem dX10_asks_23 : decode cX10_asks 23 = .ok (.getfield 72, 3) := by decide +kernel
theorem dX10_asks_26 : decode cX10_asks 26 = .ok (.iload_n 1, 1) := by decide +kernel
theorem dX10_asks_27 : decode cX10_asks 27 = .ok (.iaload, 1) := by decide +kernel
theorem dX10_asks_28 : decode cX10_asks 28 = .ok (.iload_n 2, 1) := by decide +kernel
theorem dX10_asks_29 : decode cX10_asks 29 = .ok (.iadd, 1) := by decide +kernel
theorem dX10_asks_30 : decode cX10_asks 30 = .ok (.if_icmp .ge 13, 3) := by decide +kernel
theorem dX10_asks_33 : decode cX10_asks 33 = .ok (.iload_n 3, 1) := by decide +kernel
theorem dX10_asks_34 : decode cX10_asks 34 = .ok (.aload_n 0, 1) := by decide +kernel
theorem dX10_asks_35 : decode cX10_asks 35 = .ok (.getfield 23, 3) := by decide +kernel
theorem dX10_asks_38 : decode cX10_asks 38 = .ok (.iadd, 1) := by decide +kernel
theorem dX10_asks_39 : decode cX10_asks 39 = .ok (.istore_n 3, 1) := by decide +kernel
theorem dX10_asks_40 : decode cX10_asks 40 = .ok (.goto (-35), 3) := by decide +kernel
theorem dX10_asks_43 : decode cX10_asks 43 = .ok (.aload_n 0, 1) := by decide +kernel
theorem dX10_asks_44 : decode cX10_asks 44 = .ok (.getfield 206, 3) := by decide +kernel
theorem dX10_asks_47 : decode cX10_asks 47 = .ok (.istore 4, 2) := by decide +kernel
theorem dX10_asks_49 : decode cX10_asks 49 = .ok (.iconst 0, 1) := by decide +kernel
theorem dX10_asks_50 : decode cX10_asks 50 = .ok (.istore 5, 2) := by decide +kernel
theorem dX10_asks_52 : decode cX10_asks 52 = .ok (.iload 5, 2) := by decide +kernel
theorem dX10_asks_54 : decode cX10_asks 54 = .ok (.aload_n 0, 1) := by decide +kernel
theorem dX10_asks_55 : decode cX10_asks 55 = .ok (.getfield 157, 3) := by decide +kernel
theorem dX10_asks_58 : decode cX10_asks 58 = .ok (.if_icmp .ge 30, 3) := by decide +kernel
theorem dX10_asks_61 : decode cX10_asks 61 = .ok (.iload 4, 2) := by decide +kernel
theorem dX10_asks_63 : decode cX10_asks 63 = .ok (.iload 5, 2) := by decide +kernel
theorem dX10_asks_65 : decode cX10_asks 65 = .ok (.iload_n 1, 1) := by decide +kernel
theorem dX10_asks_66 : decode cX10_asks 66 = .ok (.if_icmp .ne 7, 3) := by decide +kernel
theorem dX10_asks_69 : decode cX10_asks 69 = .ok (.iconst 0, 1) := by decide +kernel
theorem dX10_asks_70 : decode cX10_asks 70 = .ok (.goto 9, 3) := by decide +kernel
theorem dX10_asks_73 : decode cX10_asks 73 = .ok (.aload_n 0, 1) := by decide +kernel
theorem dX10_asks_74 : decode cX10_asks 74 = .ok (.iload 5, 2) := by decide +kernel
theorem dX10_asks_76 : decode cX10_asks 76 = .ok (.invokevirtual 238, 3) := by decide +kernel
theorem dX10_asks_79 : decode cX10_asks 79 = .ok (.iadd, 1) := by decide +kernel
theorem dX10_asks_80 : decode cX10_asks 80 = .ok (.istore 4, 2) := by decide +kernel
theorem dX10_asks_82 : decode cX10_asks 82 = .ok (.iinc 5 1, 3) := by decide +kernel
theorem dX10_asks_85 : decode cX10_asks 85 = .ok (.goto (-33), 3) := by decide +kernel
theorem dX10_asks_88 : decode cX10_asks 88 = .ok (.iload 4, 2) := by decide +kernel
theorem dX10_asks_90 : decode cX10_asks 90 = .ok (.iload_n 3, 1) := by decide +kernel
theorem dX10_asks_91 : decode cX10_asks 91 = .ok (.if_icmp .lt 32, 3) := by decide +kernel
theorem dX10_asks_94 : decode cX10_asks 94 = .ok (.aload_n 0, 1) := by decide +kernel
theorem dX10_asks_95 : decode cX10_asks 95 = .ok (.getfield 108, 3) := by decide +kernel
theorem dX10_asks_98 : decode cX10_asks 98 = .ok (.iload_n 1, 1) := by decide +kernel
theorem dX10_asks_99 : decode cX10_asks 99 = .ok (.baload, 1) := by decide +kernel
theorem dX10_asks_100 : decode cX10_asks 100 = .ok (.ifCond .eq 25, 3) := by decide +kernel
theorem dX10_asks_103 : decode cX10_asks 103 = .ok (.aload_n 0, 1) := by decide +kernel
theorem dX10_asks_104 : decode cX10_asks 104 = .ok (.getfield 69, 3) := by decide +kernel
theorem dX10_asks_107 : decode cX10_asks 107 = .ok (.iload_n 1, 1) := by decide +kernel
theorem dX10_asks_108 : decode cX10_asks 108 = .ok (.iaload, 1) := by decide +kernel
theorem dX10_asks_109 : decode cX10_asks 109 = .ok (.iload_n 3, 1) := by decide +kernel
theorem dX10_asks_110 : decode cX10_asks 110 = .ok (.iadd, 1) := by decide +kernel
theorem dX10_asks_111 : decode cX10_asks 111 = .ok (.aload_n 0, 1) := by decide +kernel
theorem dX10_asks_112 : decode cX10_asks 112 = .ok (.getfield 27, 3) := by decide +kernel
theorem dX10_asks_115 : decode cX10_asks 115 = .ok (.aload_n 0, 1) := by decide +kernel
theorem dX10_asks_116 : decode cX10_asks 116 = .ok (.getfield 157, 3) := by decide +kernel
theorem dX10_asks_119 : decode cX10_asks 119 = .ok (.idiv, 1) := by decide +kernel
theorem dX10_asks_120 : decode cX10_asks 120 = .ok (.if_icmp .le 5, 3) := by decide +kernel
theorem dX10_asks_123 : decode cX10_asks 123 = .ok (.iconst 0, 1) := by decide +kernel
theorem dX10_asks_124 : decode cX10_asks 124 = .ok (.ireturn, 1) := by decide +kernel
theorem dX10_asks_125 : decode cX10_asks 125 = .ok (.aload_n 0, 1) := by decide +kernel
theorem dX10_asks_126 : decode cX10_asks 126 = .ok (.getfield 206, 3) := by decide +kernel
theorem dX10_asks_129 : decode cX10_asks 129 = .ok (.iload_n 3, 1) := by decide +kernel
theorem dX10_asks_130 : decode cX10_asks 130 = .ok (.invokestatic 228, 3) := by decide +kernel
theorem dX10_asks_133 : decode cX10_asks 133 = .ok (.istore 5, 2) := by decide +kernel
theorem dX10_asks_135 : decode cX10_asks 135 = .ok (.aload_n 0, 1) := by decide +kernel
theorem dX10_asks_136 : decode cX10_asks 136 = .ok (.dup, 1) := by decide +kernel
theorem dX10_asks_137 : decode cX10_asks 137 = .ok (.getfield 206, 3) := by decide +kernel
theorem dX10_asks_140 : decode cX10_asks 140 = .ok (.iload 5, 2) := by decide +kernel
theorem dX10_asks_142 : decode cX10_asks 142 = .ok (.isub, 1) := by decide +kernel
theorem dX10_asks_143 : decode cX10_asks 143 = .ok (.putfield 206, 3) := by decide +kernel
theorem dX10_asks_146 : decode cX10_asks 146 = .ok (.iload_n 3, 1) := by decide +kernel
theorem dX10_asks_147 : decode cX10_asks 147 = .ok (.iload 5, 2) := by decide +kernel
theorem dX10_asks_149 : decode cX10_asks 149 = .ok (.isub, 1) := by decide +kernel
theorem dX10_asks_150 : decode cX10_asks 150 = .ok (.istore 6, 2) := by decide +kernel
theorem dX10_asks_152 : decode cX10_asks 152 = .ok (.iconst 0, 1) := by decide +kernel
theorem dX10_asks_153 : decode cX10_asks 153 = .ok (.istore 7, 2) := by decide +kernel
theorem dX10_asks_155 : decode cX10_asks 155 = .ok (.iload 7, 2) := by decide +kernel
theorem dX10_asks_157 : decode cX10_asks 157 = .ok (.aload_n 0, 1) := by decide +kernel
theorem dX10_asks_158 : decode cX10_asks 158 = .ok (.getfield 157, 3) := by decide +kernel
theorem dX10_asks_161 : decode cX10_asks 161 = .ok (.if_icmp .ge 71, 3) := by decide +kernel
theorem dX10_asks_164 : decode cX10_asks 164 = .ok (.iload 6, 2) := by decide +kernel
theorem dX10_asks_166 : decode cX10_asks 166 = .ok (.ifCond .le 66, 3) := by decide +kernel
theorem dX10_asks_169 : decode cX10_asks 169 = .ok (.iload 7, 2) := by decide +kernel
theorem dX10_asks_171 : decode cX10_asks 171 = .ok (.iload_n 1, 1) := by decide +kernel
theorem dX10_asks_172 : decode cX10_asks 172 = .ok (.if_icmp .eq 54, 3) := by decide +kernel
theorem dX10_asks_175 : decode cX10_asks 175 = .ok (.aload_n 0, 1) := by decide +kernel
theorem dX10_asks_176 : decode cX10_asks 176 = .ok (.getfield 66, 3) := by decide +kernel
theorem dX10_asks_179 : decode cX10_asks 179 = .ok (.iload 7, 2) := by decide +kernel
theorem dX10_asks_181 : decode cX10_asks 181 = .ok (.iaload, 1) := by decide +kernel
theorem dX10_asks_182 : decode cX10_asks 182 = .ok (.iconst 2, 1) := by decide +kernel
theorem dX10_asks_183 : decode cX10_asks 183 = .ok (.if_icmp .ne 43, 3) := by decide +kernel
theorem dX10_asks_186 : decode cX10_asks 186 = .ok (.aload_n 0, 1) := by decide +kernel
theorem dX10_asks_187 : decode cX10_asks 187 = .ok (.iload 7, 2) := by decide +kernel
theorem dX10_asks_189 : decode cX10_asks 189 = .ok (.invokevirtual 238, 3) := by decide +kernel
theorem dX10_asks_192 : decode cX10_asks 192 = .ok (.ifCond .ne 6, 3) := by decide +kernel
theorem dX10_asks_195 : decode cX10_asks 195 = .ok (.goto 31, 3) := by decide +kernel
theorem dX10_asks_198 : decode cX10_asks 198 = .ok (.aload_n 0, 1) := by decide +kernel
theorem dX10_asks_199 : decode cX10_asks 199 = .ok (.iload 7, 2) := by decide +kernel
theorem dX10_asks_201 : decode cX10_asks 201 = .ok (.invokevirtual 238, 3) := by decide +kernel
theorem dX10_asks_204 : decode cX10_asks 204 = .ok (.iload 6, 2) := by decide +kernel
theorem dX10_asks_206 : decode cX10_asks 206 = .ok (.invokestatic 228, 3) := by decide +kernel
theorem dX10_asks_209 : decode cX10_asks 209 = .ok (.istore 5, 2) := by decide +kernel
theorem dX10_asks_211 : decode cX10_asks 211 = .ok (.aload_n 0, 1) := by decide +kernel
theorem dX10_asks_212 : decode cX10_asks 212 = .ok (.iload 7, 2) := by decide +kernel
theorem dX10_asks_214 : decode cX10_asks 214 = .ok (.iload 5, 2) := by decide +kernel
theorem dX10_asks_216 : decode cX10_asks 216 = .ok (.invokevirtual 241, 3) := by decide +kernel
theorem dX10_asks_219 : decode cX10_asks 219 = .ok (.iload 6, 2) := by decide +kernel
theorem dX10_asks_221 : decode cX10_asks 221 = .ok (.iload 5, 2) := by decide +kernel
theorem dX10_asks_223 : decode cX10_asks 223 = .ok (.isub, 1) := by decide +kernel
theorem dX10_asks_224 : decode cX10_asks 224 = .ok (.istore 6, 2) := by decide +kernel
theorem dX10_asks_226 : decode cX10_asks 226 = .ok (.iinc 7 1, 3) := by decide +kernel
theorem dX10_asks_229 : decode cX10_asks 229 = .ok (.goto (-74), 3) := by decide +kernel
theorem dX10_asks_232 : decode cX10_asks 232 = .ok (.iload 6, 2) := by decide +kernel
theorem dX10_asks_234 : decode cX10_asks 234 = .ok (.ifCond .le 94, 3) := by decide +kernel
theorem dX10_asks_237 : decode cX10_asks 237 = .ok (.iconst (-1), 1) := by decide +kernel
theorem dX10_asks_238 : decode cX10_asks 238 = .ok (.istore 7, 2) := by decide +kernel
theorem dX10_asks_240 : decode cX10_asks 240 = .ok (.iconst 0, 1) := by decide +kernel
theorem dX10_asks_241 : decode cX10_asks 241 = .ok (.istore 8, 2) := by decide +kernel
theorem dX10_asks_243 : decode cX10_asks 243 = .ok (.iload 8, 2) := by decide +kernel
theorem dX10_asks_245 : decode cX10_asks 245 = .ok (.aload_n 0, 1) := by decide +kernel
theorem dX10_asks_246 : decode cX10_asks 246 = .ok (.getfield 157, 3) := by decide +kernel
theorem dX10_asks_249 : decode cX10_asks 249 = .ok (.if_icmp .ge 57, 3) := by decide +kernel
theorem dX10_asks_252 : decode cX10_asks 252 = .ok (.iload 8, 2) := by decide +kernel
theorem dX10_asks_254 : decode cX10_asks 254 = .ok (.iload_n 1, 1) := by decide +kernel
theorem dX10_asks_255 : decode cX10_asks 255 = .ok (.if_icmp .eq 45, 3) := by decide +kernel
theorem dX10_asks_258 : decode cX10_asks 258 = .ok (.aload_n 0, 1) := by decide +kernel
theorem dX10_asks_259 : decode cX10_asks 259 = .ok (.iload 8, 2) := by decide +kernel
theorem dX10_asks_261 : decode cX10_asks 261 = .ok (.invokevirtual 244, 3) := by decide +kernel
theorem dX10_asks_264 : decode cX10_asks 264 = .ok (.ifCond .eq 36, 3) := by decide +kernel
theorem dX10_asks_267 : decode cX10_asks 267 = .ok (.aload_n 0, 1) := by decide +kernel
theorem dX10_asks_268 : decode cX10_asks 268 = .ok (.iload 8, 2) := by decide +kernel
theorem dX10_asks_270 : decode cX10_asks 270 = .ok (.invokevirtual 238, 3) := by decide +kernel
theorem dX10_asks_273 : decode cX10_asks 273 = .ok (.ifCond .le 27, 3) := by decide +kernel
theorem dX10_asks_276 : decode cX10_asks 276 = .ok (.iload 7, 2) := by decide +kernel
theorem dX10_asks_278 : decode cX10_asks 278 = .ok (.ifCond .lt 18, 3) := by decide +kernel
theorem dX10_asks_281 : decode cX10_asks 281 = .ok (.aload_n 0, 1) := by decide +kernel
theorem dX10_asks_282 : decode cX10_asks 282 = .ok (.iload 8, 2) := by decide +kernel
theorem dX10_asks_284 : decode cX10_asks 284 = .ok (.invokevirtual 238, 3) := by decide +kernel
theorem dX10_asks_287 : decode cX10_asks 287 = .ok (.aload_n 0, 1) := by decide +kernel
theorem dX10_asks_288 : decode cX10_asks 288 = .ok (.iload 7, 2) := by decide +kernel
theorem dX10_asks_290 : decode cX10_asks 290 = .ok (.invokevirtual 238, 3) := by decide +kernel
theorem dX10_asks_293 : decode cX10_asks 293 = .ok (.if_icmp .le 7, 3) := by decide +kernel
theorem dX10_asks_296 : decode cX10_asks 296 = .ok (.iload 8, 2) := by decide +kernel
theorem dX10_asks_298 : decode cX10_asks 298 = .ok (.istore 7, 2) := by decide +kernel
theorem dX10_asks_300 : decode cX10_asks 300 = .ok (.iinc 8 1, 3) := by decide +kernel
theorem dX10_asks_303 : decode cX10_asks 303 = .ok (.goto (-60), 3) := by decide +kernel
theorem dX10_asks_306 : decode cX10_asks 306 = .ok (.aload_n 0, 1) := by decide +kernel
theorem dX10_asks_307 : decode cX10_asks 307 = .ok (.iload 7, 2) := by decide +kernel
theorem dX10_asks_309 : decode cX10_asks 309 = .ok (.aload_n 0, 1) := by decide +kernel
theorem dX10_asks_310 : decode cX10_asks 310 = .ok (.getfield 23, 3) := by decide +kernel
theorem dX10_asks_313 : decode cX10_asks 313 = .ok (.invokevirtual 241, 3) := by decide +kernel
theorem dX10_asks_316 : decode cX10_asks 316 = .ok (.iload 6, 2) := by decide +kernel
theorem dX10_asks_318 : decode cX10_asks 318 = .ok (.aload_n 0, 1) := by decide +kernel
theorem dX10_asks_319 : decode cX10_asks 319 = .ok (.getfield 23, 3) := by decide +kernel
theorem dX10_asks_322 : decode cX10_asks 322 = .ok (.isub, 1) := by decide +kernel
theorem dX10_asks_323 : decode cX10_asks 323 = .ok (.istore 6, 2) := by decide +kernel
theorem dX10_asks_325 : decode cX10_asks 325 = .ok (.goto (-93), 3) := by decide +kernel
theorem dX10_asks_328 : decode cX10_asks 328 = .ok (.aload_n 0, 1) := by decide +kernel
theorem dX10_asks_329 : decode cX10_asks 329 = .ok (.getfield 69, 3) := by decide +kernel
theorem dX10_asks_332 : decode cX10_asks 332 = .ok (.iload_n 1, 1) := by decide +kernel
theorem dX10_asks_333 : decode cX10_asks 333 = .ok (.dup2, 1) := by decide +kernel
theorem dX10_asks_334 : decode cX10_asks 334 = .ok (.iaload, 1) := by decide +kernel
theorem dX10_asks_335 : decode cX10_asks 335 = .ok (.iload_n 3, 1) := by decide +kernel
theorem dX10_asks_336 : decode cX10_asks 336 = .ok (.iadd, 1) := by decide +kernel
theorem dX10_asks_337 : decode cX10_asks 337 = .ok (.iastore, 1) := by decide +kernel
theorem dX10_asks_338 : decode cX10_asks 338 = .ok (.aload_n 0, 1) := by decide +kernel
theorem dX10_asks_339 : decode cX10_asks 339 = .ok (.iload_n 1, 1) := by decide +kernel
theorem dX10_asks_340 : decode cX10_asks 340 = .ok (.iconst 1, 1) := by decide +kernel
theorem dX10_asks_341 : decode cX10_asks 341 = .ok (.iload_n 3, 1) := by decide +kernel
theorem dX10_asks_342 : decode cX10_asks 342 = .ok (.invokevirtual 215, 3) := by decide +kernel
theorem dX10_asks_345 : decode cX10_asks 345 = .ok (.iconst 1, 1) := by decide +kernel
theorem dX10_asks_346 : decode cX10_asks 346 = .ok (.ireturn, 1) := by decide +kernel
theorem dX10_acts_0 : decode cX10_acts 0 = .ok (.aload_n 0, 1) := by decide +kernel
theorem dX10_acts_1 : decode cX10_acts 1 = .ok (.getfield 39, 3) := by decide +kernel
theorem dX10_acts_4 : decode cX10_acts 4 = .ok (.bipush 60, 2) := by decide +kernel
theorem dX10_acts_6 : decode cX10_acts 6 = .ok (.iload_n 1, 1) := by decide +kernel
theorem dX10_acts_7 : decode cX10_acts 7 = .ok (.imul, 1) := by decide +kernel
theorem dX10_acts_8 : decode cX10_acts 8 = .ok (.aload_n 0, 1) := by decide +kernel
theorem dX10_acts_9 : decode cX10_acts 9 = .ok (.getfield 81, 3) := by decide +kernel
theorem dX10_acts_12 : decode cX10_acts 12 = .ok (.iload_n 1, 1) := by decide +kernel
theorem dX10_acts_13 : decode cX10_acts 13 = .ok (.iaload, 1) := by decide +kernel
theorem dX10_acts_14 : decode cX10_acts 14 = .ok (.iadd, 1) := by decide +kernel
theorem dX10_acts_15 : decode cX10_acts 15 = .ok (.iaload, 1) := by decide +kernel
theorem dX10_acts_16 : decode cX10_acts 16 = .ok (.istore_n 2, 1) := by decide +kernel
theorem dX10_acts_17 : decode cX10_acts 17 = .ok (.iload_n 2, 1) := by decide +kernel
theorem dX10_acts_18 : decode cX10_acts 18 = .ok (.sipush 1001, 3) := by decide +kernel
theorem dX10_acts_21 : decode cX10_acts 21 = .ok (.if_icmp .le 22, 3) := by decide +kernel
theorem dX10_acts_24 : decode cX10_acts 24 = .ok (.aload_n 0, 1) := by decide +kernel
theorem dX10_acts_25 : decode cX10_acts 25 = .ok (.getfield 66, 3) := by decide +kernel
theorem dX10_acts_28 : decode cX10_acts 28 = .ok (.iload_n 1, 1) := by decide +kernel
theorem dX10_acts_29 : decode cX10_acts 29 = .ok (.iconst 2, 1) := by decide +kernel
theorem dX10_acts_30 : decode cX10_acts 30 = .ok (.iastore, 1) := by decide +kernel
theorem dX10_acts_31 : decode cX10_acts 31 = .ok (.aload_n 0, 1) := by decide +kernel
theorem dX10_acts_32 : decode cX10_acts 32 = .ok (.getfield 93, 3) := by decide +kernel
theorem dX10_acts_35 : decode cX10_acts 35 = .ok (.iload_n 1, 1) := by decide +kernel
theorem dX10_acts_36 : decode cX10_acts 36 = .ok (.iload_n 2, 1) := by decide +kernel
theorem dX10_acts_37 : decode cX10_acts 37 = .ok (.sipush 1001, 3) := by decide +kernel
theorem dX10_acts_40 : decode cX10_acts 40 = .ok (.isub, 1) := by decide +kernel
theorem dX10_acts_41 : decode cX10_acts 41 = .ok (.iastore, 1) := by decide +kernel
theorem dX10_acts_42 : decode cX10_acts 42 = .ok (.return_, 1) := by decide +kernel
theorem dX10_acts_43 : decode cX10_acts 43 = .ok (.iload_n 2, 1) := by decide +kernel
theorem dX10_acts_44 : decode cX10_acts 44 = .ok (.ifCond .ge 62, 3) := by decide +kernel
theorem dX10_acts_47 : decode cX10_acts 47 = .ok (.aload_n 0, 1) := by decide +kernel
theorem dX10_acts_48 : decode cX10_acts 48 = .ok (.getfield 84, 3) := by decide +kernel
theorem dX10_acts_51 : decode cX10_acts 51 = .ok (.iload_n 1, 1) := by decide +kernel
theorem dX10_acts_52 : decode cX10_acts 52 = .ok (.iaload, 1) := by decide +kernel
theorem dX10_acts_53 : decode cX10_acts 53 = .ok (.iload_n 2, 1) := by decide +kernel
theorem dX10_acts_54 : decode cX10_acts 54 = .ok (.iadd, 1) := by decide +kernel
theorem dX10_acts_55 : decode cX10_acts 55 = .ok (.ifCond .lt 51, 3) := by decide +kernel
theorem dX10_acts_58 : decode cX10_acts 58 = .ok (.aload_n 0, 1) := by decide +kernel
theorem dX10_acts_59 : decode cX10_acts 59 = .ok (.getfield 75, 3) := by decide +kernel
theorem dX10_acts_62 : decode cX10_acts 62 = .ok (.iload_n 1, 1) := by decide +kernel
theorem dX10_acts_63 : decode cX10_acts 63 = .ok (.dup2, 1) := by decide +kernel
theorem dX10_acts_64 : decode cX10_acts 64 = .ok (.iaload, 1) := by decide +kernel
theorem dX10_acts_65 : decode cX10_acts 65 = .ok (.aload_n 0, 1) := by decide +kernel
theorem dX10_acts_66 : decode cX10_acts 66 = .ok (.getfield 115, 3) := by decide +kernel
theorem dX10_acts_69 : decode cX10_acts 69 = .ok (.sipush 2400, 3) := by decide +kernel
theorem dX10_acts_72 : decode cX10_acts 72 = .ok (.iload_n 1, 1) := by decide +kernel
theorem dX10_acts_73 : decode cX10_acts 73 = .ok (.imul, 1) := by decide +kernel
theorem dX10_acts_74 : decode cX10_acts 74 = .ok (.aload_n 0, 1) := by decide +kernel
theorem dX10_acts_75 : decode cX10_acts 75 = .ok (.getfield 84, 3) := by decide +kernel
theorem dX10_acts_78 : decode cX10_acts 78 = .ok (.iload_n 1, 1) := by decide +kernel
theorem dX10_acts_79 : decode cX10_acts 79 = .ok (.iaload, 1) := by decide +kernel
theorem dX10_acts_80 : decode cX10_acts 80 = .ok (.iadd, 1) := by decide +kernel
theorem dX10_acts_81 : decode cX10_acts 81 = .ok (.iload_n 2, 1) := by decide +kernel
theorem dX10_acts_82 : decode cX10_acts 82 = .ok (.iadd, 1) := by decide +kernel
theorem dX10_acts_83 : decode cX10_acts 83 = .ok (.iaload, 1) := by decide +kernel
theorem dX10_acts_84 : decode cX10_acts 84 = .ok (.isub, 1) := by decide +kernel
theorem dX10_acts_85 : decode cX10_acts 85 = .ok (.iastore, 1) := by decide +kernel
theorem dX10_acts_86 : decode cX10_acts 86 = .ok (.aload_n 0, 1) := by decide +kernel
theorem dX10_acts_87 : decode cX10_acts 87 = .ok (.getfield 115, 3) := by decide +kernel
theorem dX10_acts_90 : decode cX10_acts 90 = .ok (.sipush 2400, 3) := by decide +kernel
theorem dX10_acts_93 : decode cX10_acts 93 = .ok (.iload_n 1, 1) := by decide +kernel
theorem dX10_acts_94 : decode cX10_acts 94 = .ok (.imul, 1) := by decide +kernel
theorem dX10_acts_95 : decode cX10_acts 95 = .ok (.aload_n 0, 1) := by decide +kernel
theorem dX10_acts_96 : decode cX10_acts 96 = .ok (.getfield 84, 3) := by decide +kernel
theorem dX10_acts_99 : decode cX10_acts 99 = .ok (.iload_n 1, 1) := by decide +kernel
theorem dX10_acts_100 : decode cX10_acts 100 = .ok (.iaload, 1) := by decide +kernel
theorem dX10_acts_101 : decode cX10_acts 101 = .ok (.iadd, 1) := by decide +kernel
theorem dX10_acts_102 : decode cX10_acts 102 = .ok (.iload_n 2, 1) := by decide +kernel
theorem dX10_acts_103 : decode cX10_acts 103 = .ok (.iadd, 1) := by decide +kernel
theorem dX10_acts_104 : decode cX10_acts 104 = .ok (.iconst 0, 1) := by decide +kernel
theorem dX10_acts_105 : decode cX10_acts 105 = .ok (.iastore, 1) := by decide +kernel
theorem dX10_acts_106 : decode cX10_acts 106 = .ok (.iload_n 2, 1) := by decide +kernel
theorem dX10_acts_107 : decode cX10_acts 107 = .ok (.ifCond .le 10, 3) := by decide +kernel
theorem dX10_acts_110 : decode cX10_acts 110 = .ok (.iload_n 2, 1) := by decide +kernel
theorem dX10_acts_111 : decode cX10_acts 111 = .ok (.sipush 1001, 3) := by decide +kernel
theorem dX10_acts_114 : decode cX10_acts 114 = .ok (.if_icmp .ne 9, 3) := by decide +kernel
theorem dX10_acts_117 : decode cX10_acts 117 = .ok (.aload_n 0, 1) := by decide +kernel
theorem dX10_acts_118 : decode cX10_acts 118 = .ok (.iload_n 1, 1) := by decide +kernel
theorem dX10_acts_119 : decode cX10_acts 119 = .ok (.invokevirtual 234, 3) := by decide +kernel
theorem dX10_acts_122 : decode cX10_acts 122 = .ok (.return_, 1) := by decide +kernel
theorem dX10_acts_123 : decode cX10_acts 123 = .ok (.aload_n 0, 1) := by decide +kernel
theorem dX10_acts_124 : decode cX10_acts 124 = .ok (.getfield 72, 3) := by decide +kernel
theorem dX10_acts_127 : decode cX10_acts 127 = .ok (.iload_n 1, 1) := by decide +kernel
theorem dX10_acts_128 : decode cX10_acts 128 = .ok (.iaload, 1) := by decide +kernel
theorem dX10_acts_129 : decode cX10_acts 129 = .ok (.iload_n 2, 1) := by decide +kernel
theorem dX10_acts_130 : decode cX10_acts 130 = .ok (.iadd, 1) := by decide +kernel
theorem dX10_acts_131 : decode cX10_acts 131 = .ok (.aload_n 0, 1) := by decide +kernel
theorem dX10_acts_132 : decode cX10_acts 132 = .ok (.getfield 42, 3) := by decide +kernel
theorem dX10_acts_135 : decode cX10_acts 135 = .ok (.iload_n 1, 1) := by decide +kernel
theorem dX10_acts_136 : decode cX10_acts 136 = .ok (.iaload, 1) := by decide +kernel
theorem dX10_acts_137 : decode cX10_acts 137 = .ok (.aload_n 0, 1) := by decide +kernel
theorem dX10_acts_138 : decode cX10_acts 138 = .ok (.getfield 69, 3) := by decide +kernel
theorem dX10_acts_141 : decode cX10_acts 141 = .ok (.iload_n 1, 1) := by decide +kernel
theorem dX10_acts_142 : decode cX10_acts 142 = .ok (.iaload, 1) := by decide +kernel
theorem dX10_acts_143 : decode cX10_acts 143 = .ok (.invokestatic 160, 3) := by decide +kernel
theorem dX10_acts_146 : decode cX10_acts 146 = .ok (.if_icmp .gt 12, 3) := by decide +kernel
theorem dX10_acts_149 : decode cX10_acts 149 = .ok (.aload_n 0, 1) := by decide +kernel
theorem dX10_acts_150 : decode cX10_acts 150 = .ok (.iload_n 1, 1) := by decide +kernel
theorem dX10_acts_151 : decode cX10_acts 151 = .ok (.iload_n 2, 1) := by decide +kernel
theorem dX10_acts_152 : decode cX10_acts 152 = .ok (.invokevirtual 247, 3) := by decide +kernel
theorem dX10_acts_155 : decode cX10_acts 155 = .ok (.goto 78, 3) := by decide +kernel
theorem dX10_acts_158 : decode cX10_acts 158 = .ok (.aload_n 0, 1) := by decide +kernel
theorem dX10_acts_159 : decode cX10_acts 159 = .ok (.getfield 72, 3) := by decide +kernel
theorem dX10_acts_162 : decode cX10_acts 162 = .ok (.iload_n 1, 1) := by decide +kernel
theorem dX10_acts_163 : decode cX10_acts 163 = .ok (.iaload, 1) := by decide +kernel
theorem dX10_acts_164 : decode cX10_acts 164 = .ok (.aload_n 0, 1) := by decide +kernel
theorem dX10_acts_165 : decode cX10_acts 165 = .ok (.getfield 75, 3) := by decide +kernel
theorem dX10_acts_168 : decode cX10_acts 168 = .ok (.iload_n 1, 1) := by decide +kernel
theorem dX10_acts_169 : decode cX10_acts 169 = .ok (.iaload, 1) := by decide +kernel
theorem dX10_acts_170 : decode cX10_acts 170 = .ok (.if_icmp .le 39, 3) := by decide +kernel
theorem dX10_acts_173 : decode cX10_acts 173 = .ok (.aload_n 0, 1) := by decide +kernel
theorem dX10_acts_174 : decode cX10_acts 174 = .ok (.getfield 93, 3) := by decide +kernel
theorem dX10_acts_177 : decode cX10_acts 177 = .ok (.iload_n 1, 1) := by decide +kernel
theorem dX10_acts_178 : decode cX10_acts 178 = .ok (.aload_n 0, 1) := by decide +kernel
theorem dX10_acts_179 : decode cX10_acts 179 = .ok (.iload_n 1, 1) := by decide +kernel
theorem dX10_acts_180 : decode cX10_acts 180 = .ok (.invokevirtual 225, 3) := by decide +kernel
theorem dX10_acts_183 : decode cX10_acts 183 = .ok (.iconst 1, 1) := by decide +kernel
theorem dX10_acts_184 : decode cX10_acts 184 = .ok (.isub, 1) := by decide +kernel
theorem dX10_acts_185 : decode cX10_acts 185 = .ok (.iastore, 1) := by decide +kernel
theorem dX10_acts_186 : decode cX10_acts 186 = .ok (.aload_n 0, 1) := by decide +kernel
theorem dX10_acts_187 : decode cX10_acts 187 = .ok (.getfield 66, 3) := by decide +kernel
theorem dX10_acts_190 : decode cX10_acts 190 = .ok (.iload_n 1, 1) := by decide +kernel
theorem dX10_acts_191 : decode cX10_acts 191 = .ok (.aload_n 0, 1) := by decide +kernel
theorem dX10_acts_192 : decode cX10_acts 192 = .ok (.getfield 93, 3) := by decide +kernel
theorem dX10_acts_195 : decode cX10_acts 195 = .ok (.iload_n 1, 1) := by decide +kernel
theorem dX10_acts_196 : decode cX10_acts 196 = .ok (.iaload, 1) := by decide +kernel
theorem dX10_acts_197 : decode cX10_acts 197 = .ok (.ifCond .le 7, 3) := by decide +kernel
theorem dX10_acts_200 : decode cX10_acts 200 = .ok (.iconst 1, 1) := by decide +kernel
theorem dX10_acts_201 : decode cX10_acts 201 = .ok (.goto 4, 3) := by decide +kernel
theorem dX10_acts_204 : decode cX10_acts 204 = .ok (.iconst 0, 1) := by decide +kernel
theorem dX10_acts_205 : decode cX10_acts 205 = .ok (.iastore, 1) := by decide +kernel
theorem dX10_acts_206 : decode cX10_acts 206 = .ok (.goto 27, 3) := by decide +kernel
theorem dX10_acts_209 : decode cX10_acts 209 = .ok (.aload_n 0, 1) := by decide +kernel
theorem dX10_acts_210 : decode cX10_acts 210 = .ok (.iload_n 1, 1) := by decide +kernel
theorem dX10_acts_211 : decode cX10_acts 211 = .ok (.iload_n 2, 1) := by decide +kernel
theorem dX10_acts_212 : decode cX10_acts 212 = .ok (.invokevirtual 249, 3) := by decide +kernel
theorem dX10_acts_215 : decode cX10_acts 215 = .ok (.ifCond .eq 12, 3) := by decide +kernel
theorem dX10_acts_218 : decode cX10_acts 218 = .ok (.aload_n 0, 1) := by decide +kernel
theorem dX10_acts_219 : decode cX10_acts 219 = .ok (.iload_n 1, 1) := by decide +kernel
theorem dX10_acts_220 : decode cX10_acts 220 = .ok (.iload_n 2, 1) := by decide +kernel
theorem dX10_acts_221 : decode cX10_acts 221 = .ok (.invokevirtual 247, 3) := by decide +kernel
theorem dX10_acts_224 : decode cX10_acts 224 = .ok (.goto 9, 3) := by decide +kernel
theorem dX10_acts_227 : decode cX10_acts 227 = .ok (.aload_n 0, 1) := by decide +kernel
theorem dX10_acts_228 : decode cX10_acts 228 = .ok (.iload_n 1, 1) := by decide +kernel
theorem dX10_acts_229 : decode cX10_acts 229 = .ok (.iconst 4, 1) := by decide +kernel
theorem dX10_acts_230 : decode cX10_acts 230 = .ok (.invokevirtual 230, 3) := by decide +kernel
theorem dX10_acts_233 : decode cX10_acts 233 = .ok (.return_, 1) := by decide +kernel
theorem dX10_ticks_0 : decode cX10_ticks 0 = .ok (.aload_n 0, 1) := by decide +kernel
theorem dX10_ticks_1 : decode cX10_ticks 1 = .ok (.dup, 1) := by decide +kernel
theorem dX10_ticks_2 : decode cX10_ticks 2 = .ok (.getfield 203, 3) := by decide +kernel
theorem dX10_ticks_5 : decode cX10_ticks 5 = .ok (.iconst 1, 1) := by decide +kernel
theorem dX10_ticks_6 : decode cX10_ticks 6 = .ok (.iadd, 1) := by decide +kernel
theorem dX10_ticks_7 : decode cX10_ticks 7 = .ok (.putfield 203, 3) := by decide +kernel
theorem dX10_ticks_10 : decode cX10_ticks 10 = .ok (.iconst 0, 1) := by decide +kernel
theorem dX10_ticks_11 : decode cX10_ticks 11 = .ok (.istore_n 1, 1) := by decide +kernel
theorem dX10_ticks_12 : decode cX10_ticks 12 = .ok (.iload_n 1, 1) := by decide +kernel
theorem dX10_ticks_13 : decode cX10_ticks 13 = .ok (.aload_n 0, 1) := by decide +kernel
theorem dX10_ticks_14 : decode cX10_ticks 14 = .ok (.getfield 157, 3) := by decide +kernel
theorem dX10_ticks_17 : decode cX10_ticks 17 = .ok (.if_icmp .ge 99, 3) := by decide +kernel
theorem dX10_ticks_20 : decode cX10_ticks 20 = .ok (.aload_n 0, 1) := by decide +kernel
theorem dX10_ticks_21 : decode cX10_ticks 21 = .ok (.getfield 66, 3) := by decide +kernel
theorem dX10_ticks_24 : decode cX10_ticks 24 = .ok (.iload_n 1, 1) := by decide +kernel
theorem dX10_ticks_25 : decode cX10_ticks 25 = .ok (.iaload, 1) := by decide +kernel
theorem dX10_ticks_26 : decode cX10_ticks 26 = .ok (.ifCond .ne 11, 3) := by decide +kernel
theorem dX10_ticks_29 : decode cX10_ticks 29 = .ok (.aload_n 0, 1) := by decide +kernel
theorem dX10_ticks_30 : decode cX10_ticks 30 = .ok (.iload_n 1, 1) := by decide +kernel
theorem dX10_ticks_31 : decode cX10_ticks 31 = .ok (.invokevirtual 253, 3) := by decide +kernel
theorem dX10_ticks_34 : decode cX10_ticks 34 = .ok (.goto 76, 3) := by decide +kernel
theorem dX10_ticks_37 : decode cX10_ticks 37 = .ok (.aload_n 0, 1) := by decide +kernel
theorem dX10_ticks_38 : decode cX10_ticks 38 = .ok (.getfield 66, 3) := by decide +kernel
theorem dX10_ticks_41 : decode cX10_ticks 41 = .ok (.iload_n 1, 1) := by decide +kernel
theorem dX10_ticks_42 : decode cX10_ticks 42 = .ok (.iaload, 1) := by decide +kernel
theorem dX10_ticks_43 : decode cX10_ticks 43 = .ok (.iconst 1, 1) := by decide +kernel
theorem dX10_ticks_44 : decode cX10_ticks 44 = .ok (.if_icmp .ne 32, 3) := by decide +kernel
theorem dX10_ticks_47 : decode cX10_ticks 47 = .ok (.aload_n 0, 1) := by decide +kernel
theorem dX10_ticks_48 : decode cX10_ticks 48 = .ok (.getfield 93, 3) := by decide +kernel
theorem dX10_ticks_51 : decode cX10_ticks 51 = .ok (.iload_n 1, 1) := by decide +kernel
theorem dX10_ticks_52 : decode cX10_ticks 52 = .ok (.dup2, 1) := by decide +kernel
theorem dX10_ticks_53 : decode cX10_ticks 53 = .ok (.iaload, 1) := by decide +kernel
theorem dX10_ticks_54 : decode cX10_ticks 54 = .ok (.iconst 1, 1) := by decide +kernel
theorem dX10_ticks_55 : decode cX10_ticks 55 = .ok (.isub, 1) := by decide +kernel
theorem dX10_ticks_56 : decode cX10_ticks 56 = .ok (.iastore, 1) := by decide +kernel
theorem dX10_ticks_57 : decode cX10_ticks 57 = .ok (.aload_n 0, 1) := by decide +kernel
theorem dX10_ticks_58 : decode cX10_ticks 58 = .ok (.getfield 93, 3) := by decide +kernel
theorem dX10_ticks_61 : decode cX10_ticks 61 = .ok (.iload_n 1, 1) := by decide +kernel
theorem dX10_ticks_62 : decode cX10_ticks 62 = .ok (.iaload, 1) := by decide +kernel
theorem dX10_ticks_63 : decode cX10_ticks 63 = .ok (.ifCond .ne 47, 3) := by decide +kernel
theorem dX10_ticks_66 : decode cX10_ticks 66 = .ok (.aload_n 0, 1) := by decide +kernel
theorem dX10_ticks_67 : decode cX10_ticks 67 = .ok (.getfield 66, 3) := by decide +kernel
theorem dX10_ticks_70 : decode cX10_ticks 70 = .ok (.iload_n 1, 1) := by decide +kernel
theorem dX10_ticks_71 : decode cX10_ticks 71 = .ok (.iconst 0, 1) := by decide +kernel
theorem dX10_ticks_72 : decode cX10_ticks 72 = .ok (.iastore, 1) := by decide +kernel
theorem dX10_ticks_73 : decode cX10_ticks 73 = .ok (.goto 37, 3) := by decide +kernel
theorem dX10_ticks_76 : decode cX10_ticks 76 = .ok (.aload_n 0, 1) := by decide +kernel
theorem dX10_ticks_77 : decode cX10_ticks 77 = .ok (.getfield 66, 3) := by decide +kernel
theorem dX10_ticks_80 : decode cX10_ticks 80 = .ok (.iload_n 1, 1) := by decide +kernel
theorem dX10_ticks_81 : decode cX10_ticks 81 = .ok (.iaload, 1) := by decide +kernel
theorem dX10_ticks_82 : decode cX10_ticks 82 = .ok (.iconst 2, 1) := by decide +kernel
theorem dX10_ticks_83 : decode cX10_ticks 83 = .ok (.if_icmp .ne 27, 3) := by decide +kernel
theorem dX10_ticks_86 : decode cX10_ticks 86 = .ok (.aload_n 0, 1) := by decide +kernel
theorem dX10_ticks_87 : decode cX10_ticks 87 = .ok (.getfield 93, 3) := by decide +kernel
theorem dX10_ticks_90 : decode cX10_ticks 90 = .ok (.iload_n 1, 1) := by decide +kernel
theorem dX10_ticks_91 : decode cX10_ticks 91 = .ok (.dup2, 1) := by decide +kernel
theorem dX10_ticks_92 : decode cX10_ticks 92 = .ok (.iaload, 1) := by decide +kernel
theorem dX10_ticks_93 : decode cX10_ticks 93 = .ok (.iconst 1, 1) := by decide +kernel
theorem dX10_ticks_94 : decode cX10_ticks 94 = .ok (.isub, 1) := by decide +kernel
theorem dX10_ticks_95 : decode cX10_ticks 95 = .ok (.iastore, 1) := by decide +kernel
theorem dX10_ticks_96 : decode cX10_ticks 96 = .ok (.aload_n 0, 1) := by decide +kernel
theorem dX10_ticks_97 : decode cX10_ticks 97 = .ok (.getfield 93, 3) := by decide +kernel
theorem dX10_ticks_100 : decode cX10_ticks 100 = .ok (.iload_n 1, 1) := by decide +kernel
theorem dX10_ticks_101 : decode cX10_ticks 101 = .ok (.iaload, 1) := by decide +kernel
theorem dX10_ticks_102 : decode cX10_ticks 102 = .ok (.ifCond .ne 8, 3) := by decide +kernel
theorem dX10_ticks_105 : decode cX10_ticks 105 = .ok (.aload_n 0, 1) := by decide +kernel
theorem dX10_ticks_106 : decode cX10_ticks 106 = .ok (.iload_n 1, 1) := by decide +kernel
theorem dX10_ticks_107 : decode cX10_ticks 107 = .ok (.invokevirtual 234, 3) := by decide +kernel
theorem dX10_ticks_110 : decode cX10_ticks 110 = .ok (.iinc 1 1, 3) := by decide +kernel
theorem dX10_ticks_113 : decode cX10_ticks 113 = .ok (.goto (-101), 3) := by decide +kernel
theorem dX10_ticks_116 : decode cX10_ticks 116 = .ok (.aload_n 0, 1) := by decide +kernel
theorem dX10_ticks_117 : decode cX10_ticks 117 = .ok (.getfield 203, 3) := by decide +kernel
theorem dX10_ticks_120 : decode cX10_ticks 120 = .ok (.aload_n 0, 1) := by decide +kernel
theorem dX10_ticks_121 : decode cX10_ticks 121 = .ok (.getfield 30, 3) := by decide +kernel
theorem dX10_ticks_124 : decode cX10_ticks 124 = .ok (.irem, 1) := by decide +kernel
theorem dX10_ticks_125 : decode cX10_ticks 125 = .ok (.ifCond .ne 7, 3) := by decide +kernel
theorem dX10_ticks_128 : decode cX10_ticks 128 = .ok (.aload_n 0, 1) := by decide +kernel
theorem dX10_ticks_129 : decode cX10_ticks 129 = .ok (.invokevirtual 256, 3) := by decide +kernel
theorem dX10_ticks_132 : decode cX10_ticks 132 = .ok (.return_, 1) := by decide +kernel
theorem dX10_redeals_0 : decode cX10_redeals 0 = .ok (.iconst 0, 1) := by decide +kernel
theorem dX10_redeals_1 : decode cX10_redeals 1 = .ok (.istore_n 1, 1) := by decide +kernel
theorem dX10_redeals_2 : decode cX10_redeals 2 = .ok (.iload_n 1, 1) := by decide +kernel
theorem dX10_redeals_3 : decode cX10_redeals 3 = .ok (.aload_n 0, 1) := by decide +kernel
theorem dX10_redeals_4 : decode cX10_redeals 4 = .ok (.getfield 157, 3) := by decide +kernel
theorem dX10_redeals_7 : decode cX10_redeals 7 = .ok (.if_icmp .ge 104, 3) := by decide +kernel
theorem dX10_redeals_10 : decode cX10_redeals 10 = .ok (.aload_n 0, 1) := by decide +kernel
theorem dX10_redeals_11 : decode cX10_redeals 11 = .ok (.getfield 66, 3) := by decide +kernel
theorem dX10_redeals_14 : decode cX10_redeals 14 = .ok (.iload_n 1, 1) := by decide +kernel
theorem dX10_redeals_15 : decode cX10_redeals 15 = .ok (.iaload, 1) := by decide +kernel
theorem dX10_redeals_16 : decode cX10_redeals 16 = .ok (.iconst 2, 1) := by decide +kernel
theorem dX10_redeals_17 : decode cX10_redeals 17 = .ok (.if_icmp .ne 88, 3) := by decide +kernel
theorem dX10_redeals_20 : decode cX10_redeals 20 = .ok (.aload_n 0, 1) := by decide +kernel
theorem dX10_redeals_21 : decode cX10_redeals 21 = .ok (.getfield 112, 3) := by decide +kernel
theorem dX10_redeals_24 : decode cX10_redeals 24 = .ok (.iload_n 1, 1) := by decide +kernel
theorem dX10_redeals_25 : decode cX10_redeals 25 = .ok (.baload, 1) := by decide +kernel
theorem dX10_redeals_26 : decode cX10_redeals 26 = .ok (.ifCond .eq 6, 3) := by decide +kernel
theorem dX10_redeals_29 : decode cX10_redeals 29 = .ok (.goto 76, 3) := by decide +kernel
theorem dX10_redeals_32 : decode cX10_redeals 32 = .ok (.aload_n 0, 1) := by decide +kernel
theorem dX10_redeals_33 : decode cX10_redeals 33 = .ok (.getfield 112, 3) := by decide +kernel
theorem dX10_redeals_36 : decode cX10_redeals 36 = .ok (.iload_n 1, 1) := by decide +kernel
theorem dX10_redeals_37 : decode cX10_redeals 37 = .ok (.iconst 1, 1) := by decide +kernel
theorem dX10_redeals_38 : decode cX10_redeals 38 = .ok (.bastore, 1) := by decide +kernel
theorem dX10_redeals_39 : decode cX10_redeals 39 = .ok (.aload_n 0, 1) := by decide +kernel
theorem dX10_redeals_40 : decode cX10_redeals 40 = .ok (.getfield 99, 3) := by decide +kernel
theorem dX10_redeals_43 : decode cX10_redeals 43 = .ok (.iload_n 1, 1) := by decide +kernel
theorem dX10_redeals_44 : decode cX10_redeals 44 = .ok (.aload_n 0, 1) := by decide +kernel
theorem dX10_redeals_45 : decode cX10_redeals 45 = .ok (.getfield 69, 3) := by decide +kernel
theorem dX10_redeals_48 : decode cX10_redeals 48 = .ok (.iload_n 1, 1) := by decide +kernel
theorem dX10_redeals_49 : decode cX10_redeals 49 = .ok (.iaload, 1) := by decide +kernel
theorem dX10_redeals_50 : decode cX10_redeals 50 = .ok (.iastore, 1) := by decide +kernel
theorem dX10_redeals_51 : decode cX10_redeals 51 = .ok (.aload_n 0, 1) := by decide +kernel
theorem dX10_redeals_52 : decode cX10_redeals 52 = .ok (.getfield 72, 3) := by decide +kernel
theorem dX10_redeals_55 : decode cX10_redeals 55 = .ok (.iload_n 1, 1) := by decide +kernel
theorem dX10_redeals_56 : decode cX10_redeals 56 = .ok (.iaload, 1) := by decide +kernel
theorem dX10_redeals_57 : decode cX10_redeals 57 = .ok (.aload_n 0, 1) := by decide +kernel
theorem dX10_redeals_58 : decode cX10_redeals 58 = .ok (.getfield 75, 3) := by decide +kernel
theorem dX10_redeals_61 : decode cX10_redeals 61 = .ok (.iload_n 1, 1) := by decide +kernel
theorem dX10_redeals_62 : decode cX10_redeals 62 = .ok (.iaload, 1) := by decide +kernel
theorem dX10_redeals_63 : decode cX10_redeals 63 = .ok (.if_icmp .le 9, 3) := by decide +kernel
theorem dX10_redeals_66 : decode cX10_redeals 66 = .ok (.aload_n 0, 1) := by decide +kernel
theorem dX10_redeals_67 : decode cX10_redeals 67 = .ok (.iload_n 1, 1) := by decide +kernel
theorem dX10_redeals_68 : decode cX10_redeals 68 = .ok (.invokevirtual 225, 3) := by decide +kernel
theorem dX10_redeals_71 : decode cX10_redeals 71 = .ok (.istore_n 2, 1) := by decide +kernel
theorem dX10_redeals_72 : decode cX10_redeals 72 = .ok (.aload_n 0, 1) := by decide +kernel
theorem dX10_redeals_73 : decode cX10_redeals 73 = .ok (.iload_n 1, 1) := by decide +kernel
theorem dX10_redeals_74 : decode cX10_redeals 74 = .ok (.invokevirtual 238, 3) := by decide +kernel
theorem dX10_redeals_77 : decode cX10_redeals 77 = .ok (.istore_n 2, 1) := by decide +kernel
theorem dX10_redeals_78 : decode cX10_redeals 78 = .ok (.aload_n 0, 1) := by decide +kernel
theorem dX10_redeals_79 : decode cX10_redeals 79 = .ok (.getfield 69, 3) := by decide +kernel
theorem dX10_redeals_82 : decode cX10_redeals 82 = .ok (.iload_n 1, 1) := by decide +kernel
theorem dX10_redeals_83 : decode cX10_redeals 83 = .ok (.dup2, 1) := by decide +kernel
theorem dX10_redeals_84 : decode cX10_redeals 84 = .ok (.iaload, 1) := by decide +kernel
theorem dX10_redeals_85 : decode cX10_redeals 85 = .ok (.iload_n 2, 1) := by decide +kernel
theorem dX10_redeals_86 : decode cX10_redeals 86 = .ok (.isub, 1) := by decide +kernel
theorem dX10_redeals_87 : decode cX10_redeals 87 = .ok (.iastore, 1) := by decide +kernel
theorem dX10_redeals_88 : decode cX10_redeals 88 = .ok (.aload_n 0, 1) := by decide +kernel
theorem dX10_redeals_89 : decode cX10_redeals 89 = .ok (.dup, 1) := by decide +kernel
theorem dX10_redeals_90 : decode cX10_redeals 90 = .ok (.getfield 206, 3) := by decide +kernel
theorem dX10_redeals_93 : decode cX10_redeals 93 = .ok (.iload_n 2, 1) := by decide +kernel
theorem dX10_redeals_94 : decode cX10_redeals 94 = .ok (.iadd, 1) := by decide +kernel
theorem dX10_redeals_95 : decode cX10_redeals 95 = .ok (.putfield 206, 3) := by decide +kernel
theorem dX10_redeals_98 : decode cX10_redeals 98 = .ok (.aload_n 0, 1) := by decide +kernel
theorem dX10_redeals_99 : decode cX10_redeals 99 = .ok (.iload_n 1, 1) := by decide +kernel
theorem dX10_redeals_100 : decode cX10_redeals 100 = .ok (.iconst 4, 1) := by decide +kernel
theorem dX10_redeals_101 : decode cX10_redeals 101 = .ok (.iload_n 2, 1) := by decide +kernel
theorem dX10_redeals_102 : decode cX10_redeals 102 = .ok (.invokevirtual 215, 3) := by decide +kernel
theorem dX10_redeals_105 : decode cX10_redeals 105 = .ok (.iinc 1 1, 3) := by decide +kernel
theorem dX10_redeals_108 : decode cX10_redeals 108 = .ok (.goto (-106), 3) := by decide +kernel
theorem dX10_redeals_111 : decode cX10_redeals 111 = .ok (.iconst 0, 1) := by decide +kernel
theorem dX10_redeals_112 : decode cX10_redeals 112 = .ok (.istore_n 1, 1) := by decide +kernel
theorem dX10_redeals_113 : decode cX10_redeals 113 = .ok (.iload_n 1, 1) := by decide +kernel
theorem dX10_redeals_114 : decode cX10_redeals 114 = .ok (.aload_n 0, 1) := by decide +kernel
theorem dX10_redeals_115 : decode cX10_redeals 115 = .ok (.getfield 33, 3) := by decide +kernel
theorem dX10_redeals_118 : decode cX10_redeals 118 = .ok (.if_icmp .ge 16, 3) := by decide +kernel
theorem dX10_redeals_121 : decode cX10_redeals 121 = .ok (.aload_n 0, 1) := by decide +kernel
theorem dX10_redeals_122 : decode cX10_redeals 122 = .ok (.invokevirtual 259, 3) := by decide +kernel
theorem dX10_redeals_125 : decode cX10_redeals 125 = .ok (.ifCond .eq 9, 3) := by decide +kernel
theorem dX10_redeals_128 : decode cX10_redeals 128 = .ok (.iinc 1 1, 3) := by decide +kernel
theorem dX10_redeals_131 : decode cX10_redeals 131 = .ok (.goto (-18), 3) := by decide +kernel
theorem dX10_redeals_134 : decode cX10_redeals 134 = .ok (.iconst 0, 1) := by decide +kernel
theorem dX10_redeals_135 : decode cX10_redeals 135 = .ok (.istore_n 2, 1) := by decide +kernel
theorem dX10_redeals_136 : decode cX10_redeals 136 = .ok (.iload_n 2, 1) := by decide +kernel
theorem dX10_redeals_137 : decode cX10_redeals 137 = .ok (.aload_n 0, 1) := by decide +kernel
theorem dX10_redeals_138 : decode cX10_redeals 138 = .ok (.getfield 157, 3) := by decide +kernel
theorem dX10_redeals_141 : decode cX10_redeals 141 = .ok (.if_icmp .ge 16, 3) := by decide +kernel
theorem dX10_redeals_144 : decode cX10_redeals 144 = .ok (.aload_n 0, 1) := by decide +kernel
theorem dX10_redeals_145 : decode cX10_redeals 145 = .ok (.getfield 90, 3) := by decide +kernel
theorem dX10_redeals_148 : decode cX10_redeals 148 = .ok (.iload_n 2, 1) := by decide +kernel
theorem dX10_redeals_149 : decode cX10_redeals 149 = .ok (.iconst 0, 1) := by decide +kernel
theorem dX10_redeals_150 : decode cX10_redeals 150 = .ok (.iastore, 1) := by decide +kernel
theorem dX10_redeals_151 : decode cX10_redeals 151 = .ok (.iinc 2 1, 3) := by decide +kernel
theorem dX10_redeals_154 : decode cX10_redeals 154 = .ok (.goto (-18), 3) := by decide +kernel
theorem dX10_redeals_157 : decode cX10_redeals 157 = .ok (.return_, 1) := by decide +kernel
theorem dX10_s_0 : decode cX10_s 0 = .ok (.aload_n 0, 1) := by decide +kernel
theorem dX10_s_1 : decode cX10_s 1 = .ok (.getfield 42, 3) := by decide +kernel
theorem dX10_s_4 : decode cX10_s 4 = .ok (.iload_n 1, 1) := by decide +kernel
theorem dX10_s_5 : decode cX10_s 5 = .ok (.iaload, 1) := by decide +kernel
theorem dX10_s_6 : decode cX10_s 6 = .ok (.ifCond .ne 16, 3) := by decide +kernel
theorem dX10_s_9 : decode cX10_s 9 = .ok (.iconst 1, 1) := by decide +kernel
theorem dX10_s_10 : decode cX10_s 10 = .ok (.aload_n 0, 1) := by decide +kernel
theorem dX10_s_11 : decode cX10_s 11 = .ok (.getfield 23, 3) := by decide +kernel
theorem dX10_s_14 : decode cX10_s 14 = .ok (.iconst 2, 1) := by decide +kernel
theorem dX10_s_15 : decode cX10_s 15 = .ok (.idiv, 1) := by decide +kernel
theorem dX10_s_16 : decode cX10_s 16 = .ok (.invokestatic 222, 3) := by decide +kernel
theorem dX10_s_19 : decode cX10_s 19 = .ok (.goto 7, 3) := by decide +kernel
theorem dX10_s_22 : decode cX10_s 22 = .ok (.aload_n 0, 1) := by decide +kernel
theorem dX10_s_23 : decode cX10_s 23 = .ok (.getfield 23, 3) := by decide +kernel
theorem dX10_s_26 : decode cX10_s 26 = .ok (.ireturn, 1) := by decide +kernel
theorem dX10_swung_0 : decode cX10_swung 0 = .ok (.iconst (-1), 1) := by decide +kernel
theorem dX10_swung_1 : decode cX10_swung 1 = .ok (.istore_n 1, 1) := by decide +kernel
theorem dX10_swung_2 : decode cX10_swung 2 = .ok (.lconst 0, 1) := by decide +kernel
theorem dX10_swung_3 : decode cX10_swung 3 = .ok (.lstore_n 2, 1) := by decide +kernel
theorem dX10_swung_4 : decode cX10_swung 4 = .ok (.iconst 0, 1) := by decide +kernel
theorem dX10_swung_5 : decode cX10_swung 5 = .ok (.istore 4, 2) := by decide +kernel
theorem dX10_swung_7 : decode cX10_swung 7 = .ok (.iload 4, 2) := by decide +kernel
theorem dX10_swung_9 : decode cX10_swung 9 = .ok (.aload_n 0, 1) := by decide +kernel
theorem dX10_swung_10 : decode cX10_swung 10 = .ok (.getfield 157, 3) := by decide +kernel
theorem dX10_swung_13 : decode cX10_swung 13 = .ok (.if_icmp .ge 99, 3) := by decide +kernel
theorem dX10_swung_16 : decode cX10_swung 16 = .ok (.aload_n 0, 1) := by decide +kernel
theorem dX10_swung_17 : decode cX10_swung 17 = .ok (.iload 4, 2) := by decide +kernel
theorem dX10_swung_19 : decode cX10_swung 19 = .ok (.invokevirtual 244, 3) := by decide +kernel
theorem dX10_swung_22 : decode cX10_swung 22 = .ok (.ifCond .eq 84, 3) := by decide +kernel
theorem dX10_swung_25 : decode cX10_swung 25 = .ok (.aload_n 0, 1) := by decide +kernel
theorem dX10_swung_26 : decode cX10_swung 26 = .ok (.getfield 108, 3) := by decide +kernel
theorem dX10_swung_29 : decode cX10_swung 29 = .ok (.iload 4, 2) := by decide +kernel
theorem dX10_swung_31 : decode cX10_swung 31 = .ok (.baload, 1) := by decide +kernel
theorem dX10_swung_32 : decode cX10_swung 32 = .ok (.ifCond .eq 6, 3) := by decide +kernel
theorem dX10_swung_35 : decode cX10_swung 35 = .ok (.goto 71, 3) := by decide +kernel
theorem dX10_swung_38 : decode cX10_swung 38 = .ok (.aload_n 0, 1) := by decide +kernel
theorem dX10_swung_39 : decode cX10_swung 39 = .ok (.getfield 90, 3) := by decide +kernel
theorem dX10_swung_42 : decode cX10_swung 42 = .ok (.iload 4, 2) := by decide +kernel
theorem dX10_swung_44 : decode cX10_swung 44 = .ok (.iaload, 1) := by decide +kernel
theorem dX10_swung_45 : decode cX10_swung 45 = .ok (.i2l, 1) := by decide +kernel
theorem dX10_swung_46 : decode cX10_swung 46 = .ok (.aload_n 0, 1) := by decide +kernel
theorem dX10_swung_47 : decode cX10_swung 47 = .ok (.iload 4, 2) := by decide +kernel
theorem dX10_swung_49 : decode cX10_swung 49 = .ok (.invokevirtual 262, 3) := by decide +kernel
theorem dX10_swung_52 : decode cX10_swung 52 = .ok (.i2l, 1) := by decide +kernel
theorem dX10_swung_53 : decode cX10_swung 53 = .ok (.lmul, 1) := by decide +kernel
theorem dX10_swung_54 : decode cX10_swung 54 = .ok (.aload_n 0, 1) := by decide +kernel
theorem dX10_swung_55 : decode cX10_swung 55 = .ok (.getfield 42, 3) := by decide +kernel
theorem dX10_swung_58 : decode cX10_swung 58 = .ok (.iload 4, 2) := by decide +kernel
theorem dX10_swung_60 : decode cX10_swung 60 = .ok (.iaload, 1) := by decide +kernel
theorem dX10_swung_61 : decode cX10_swung 61 = .ok (.aload_n 0, 1) := by decide +kernel
theorem dX10_swung_62 : decode cX10_swung 62 = .ok (.getfield 69, 3) := by decide +kernel
theorem dX10_swung_65 : decode cX10_swung 65 = .ok (.iload 4, 2) := by decide +kernel
theorem dX10_swung_67 : decode cX10_swung 67 = .ok (.iaload, 1) := by decide +kernel
theorem dX10_swung_68 : decode cX10_swung 68 = .ok (.invokestatic 160, 3) := by decide +kernel
theorem dX10_swung_71 : decode cX10_swung 71 = .ok (.aload_n 0, 1) := by decide +kernel
theorem dX10_swung_72 : decode cX10_swung 72 = .ok (.getfield 75, 3) := by decide +kernel
theorem dX10_swung_75 : decode cX10_swung 75 = .ok (.iload 4, 2) := by decide +kernel
theorem dX10_swung_77 : decode cX10_swung 77 = .ok (.iaload, 1) := by decide +kernel
theorem dX10_swung_78 : decode cX10_swung 78 = .ok (.isub, 1) := by decide +kernel
theorem dX10_swung_79 : decode cX10_swung 79 = .ok (.aload_n 0, 1) := by decide +kernel
theorem dX10_swung_80 : decode cX10_swung 80 = .ok (.iload 4, 2) := by decide +kernel
theorem dX10_swung_82 : decode cX10_swung 82 = .ok (.invokevirtual 262, 3) := by decide +kernel
theorem dX10_swung_85 : decode cX10_swung 85 = .ok (.iadd, 1) := by decide +kernel
theorem dX10_swung_86 : decode cX10_swung 86 = .ok (.i2l, 1) := by decide +kernel
theorem dX10_swung_87 : decode cX10_swung 87 = .ok (.ldiv, 1) := by decide +kernel
theorem dX10_swung_88 : decode cX10_swung 88 = .ok (.lstore 5, 2) := by decide +kernel
theorem dX10_swung_90 : decode cX10_swung 90 = .ok (.lload 5, 2) := by decide +kernel
theorem dX10_swung_92 : decode cX10_swung 92 = .ok (.lload_n 2, 1) := by decide +kernel
theorem dX10_swung_93 : decode cX10_swung 93 = .ok (.lcmp, 1) := by decide +kernel
theorem dX10_swung_94 : decode cX10_swung 94 = .ok (.ifCond .gt 6, 3) := by decide +kernel
theorem dX10_swung_97 : decode cX10_swung 97 = .ok (.goto 9, 3) := by decide +kernel
theorem dX10_swung_100 : decode cX10_swung 100 = .ok (.lload 5, 2) := by decide +kernel
theorem dX10_swung_102 : decode cX10_swung 102 = .ok (.lstore_n 2, 1) := by decide +kernel
theorem dX10_swung_103 : decode cX10_swung 103 = .ok (.iload 4, 2) := by decide +kernel
theorem dX10_swung_105 : decode cX10_swung 105 = .ok (.istore_n 1, 1) := by decide +kernel
theorem dX10_swung_106 : decode cX10_swung 106 = .ok (.iinc 4 1, 3) := by decide +kernel
theorem dX10_swung_109 : decode cX10_swung 109 = .ok (.goto (-102), 3) := by decide +kernel
theorem dX10_swung_112 : decode cX10_swung 112 = .ok (.iload_n 1, 1) := by decide +kernel
theorem dX10_swung_113 : decode cX10_swung 113 = .ok (.iconst (-1), 1) := by decide +kernel
theorem dX10_swung_114 : decode cX10_swung 114 = .ok (.if_icmp .ne 5, 3) := by decide +kernel
theorem dX10_swung_117 : decode cX10_swung 117 = .ok (.iconst 0, 1) := by decide +kernel
theorem dX10_swung_118 : decode cX10_swung 118 = .ok (.ireturn, 1) := by decide +kernel
theorem dX10_swung_119 : decode cX10_swung 119 = .ok (.aload_n 0, 1) := by decide +kernel
theorem dX10_swung_120 : decode cX10_swung 120 = .ok (.getfield 206, 3) := by decide +kernel
theorem dX10_swung_123 : decode cX10_swung 123 = .ok (.aload_n 0, 1) := by decide +kernel
theorem dX10_swung_124 : decode cX10_swung 124 = .ok (.getfield 140, 3) := by decide +kernel
theorem dX10_swung_127 : decode cX10_swung 127 = .ok (.aload_n 0, 1) := by decide +kernel
theorem dX10_swung_128 : decode cX10_swung 128 = .ok (.getfield 23, 3) := by decide +kernel
theorem dX10_swung_131 : decode cX10_swung 131 = .ok (.iadd, 1) := by decide +kernel
theorem dX10_swung_132 : decode cX10_swung 132 = .ok (.if_icmp .lt 19, 3) := by decide +kernel
theorem dX10_swung_135 : decode cX10_swung 135 = .ok (.aload_n 0, 1) := by decide +kernel
theorem dX10_swung_136 : decode cX10_swung 136 = .ok (.dup, 1) := by decide +kernel
theorem dX10_swung_137 : decode cX10_swung 137 = .ok (.getfield 206, 3) := by decide +kernel
theorem dX10_swung_140 : decode cX10_swung 140 = .ok (.aload_n 0, 1) := by decide +kernel
theorem dX10_swung_141 : decode cX10_swung 141 = .ok (.getfield 23, 3) := by decide +kernel
theorem dX10_swung_144 : decode cX10_swung 144 = .ok (.isub, 1) := by decide +kernel
theorem dX10_swung_145 : decode cX10_swung 145 = .ok (.putfield 206, 3) := by decide +kernel
theorem dX10_swung_148 : decode cX10_swung 148 = .ok (.goto 162, 3) := by decide +kernel
theorem dX10_swung_151 : decode cX10_swung 151 = .ok (.iconst (-1), 1) := by decide +kernel
theorem dX10_swung_152 : decode cX10_swung 152 = .ok (.istore 4, 2) := by decide +kernel
theorem dX10_swung_154 : decode cX10_swung 154 = .ok (.lload_n 2, 1) := by decide +kernel
theorem dX10_swung_155 : decode cX10_swung 155 = .ok (.lstore 5, 2) := by decide +kernel
theorem dX10_swung_157 : decode cX10_swung 157 = .ok (.iconst 0, 1) := by decide +kernel
theorem dX10_swung_158 : decode cX10_swung 158 = .ok (.istore 7, 2) := by decide +kernel
theorem dX10_swung_160 : decode cX10_swung 160 = .ok (.iload 7, 2) := by decide +kernel
theorem dX10_swung_162 : decode cX10_swung 162 = .ok (.aload_n 0, 1) := by decide +kernel
theorem dX10_swung_163 : decode cX10_swung 163 = .ok (.getfield 157, 3) := by decide +kernel
theorem dX10_swung_166 : decode cX10_swung 166 = .ok (.if_icmp .ge 126, 3) := by decide +kernel
theorem dX10_swung_169 : decode cX10_swung 169 = .ok (.aload_n 0, 1) := by decide +kernel
theorem dX10_swung_170 : decode cX10_swung 170 = .ok (.getfield 42, 3) := by decide +kernel
theorem dX10_swung_173 : decode cX10_swung 173 = .ok (.iload 7, 2) := by decide +kernel
theorem dX10_swung_175 : decode cX10_swung 175 = .ok (.iaload, 1) := by decide +kernel
theorem dX10_swung_176 : decode cX10_swung 176 = .ok (.aload_n 0, 1) := by decide +kernel
theorem dX10_swung_177 : decode cX10_swung 177 = .ok (.getfield 69, 3) := by decide +kernel
theorem dX10_swung_180 : decode cX10_swung 180 = .ok (.iload 7, 2) := by decide +kernel
theorem dX10_swung_182 : decode cX10_swung 182 = .ok (.iaload, 1) := by decide +kernel
theorem dX10_swung_183 : decode cX10_swung 183 = .ok (.invokestatic 160, 3) := by decide +kernel
theorem dX10_swung_186 : decode cX10_swung 186 = .ok (.aload_n 0, 1) := by decide +kernel
theorem dX10_swung_187 : decode cX10_swung 187 = .ok (.getfield 75, 3) := by decide +kernel
theorem dX10_swung_190 : decode cX10_swung 190 = .ok (.iload 7, 2) := by decide +kernel
theorem dX10_swung_192 : decode cX10_swung 192 = .ok (.iaload, 1) := by decide +kernel
theorem dX10_swung_193 : decode cX10_swung 193 = .ok (.isub, 1) := by decide +kernel
theorem dX10_swung_194 : decode cX10_swung 194 = .ok (.istore 8, 2) := by decide +kernel
theorem dX10_swung_196 : decode cX10_swung 196 = .ok (.iload 7, 2) := by decide +kernel
theorem dX10_swung_198 : decode cX10_swung 198 = .ok (.iload_n 1, 1) := by decide +kernel
theorem dX10_swung_199 : decode cX10_swung 199 = .ok (.if_icmp .eq 87, 3) := by decide +kernel
theorem dX10_swung_202 : decode cX10_swung 202 = .ok (.aload_n 0, 1) := by decide +kernel
theorem dX10_swung_203 : decode cX10_swung 203 = .ok (.iload 7, 2) := by decide +kernel
theorem dX10_swung_205 : decode cX10_swung 205 = .ok (.invokevirtual 244, 3) := by decide +kernel
theorem dX10_swung_208 : decode cX10_swung 208 = .ok (.ifCond .eq 78, 3) := by decide +kernel
theorem dX10_swung_211 : decode cX10_swung 211 = .ok (.aload_n 0, 1) := by decide +kernel
theorem dX10_swung_212 : decode cX10_swung 212 = .ok (.iload 7, 2) := by decide +kernel
theorem dX10_swung_214 : decode cX10_swung 214 = .ok (.invokevirtual 238, 3) := by decide +kernel
theorem dX10_swung_217 : decode cX10_swung 217 = .ok (.aload_n 0, 1) := by decide +kernel
theorem dX10_swung_218 : decode cX10_swung 218 = .ok (.getfield 23, 3) := by decide +kernel
theorem dX10_swung_221 : decode cX10_swung 221 = .ok (.if_icmp .lt 65, 3) := by decide +kernel
theorem dX10_swung_224 : decode cX10_swung 224 = .ok (.iload 8, 2) := by decide +kernel
theorem dX10_swung_226 : decode cX10_swung 226 = .ok (.aload_n 0, 1) := by decide +kernel
theorem dX10_swung_227 : decode cX10_swung 227 = .ok (.iload 7, 2) := by decide +kernel
theorem dX10_swung_229 : decode cX10_swung 229 = .ok (.invokevirtual 262, 3) := by decide +kernel
theorem dX10_swung_232 : decode cX10_swung 232 = .ok (.if_icmp .gt 6, 3) := by decide +kernel
theorem dX10_swung_235 : decode cX10_swung 235 = .ok (.goto 51, 3) := by decide +kernel
theorem dX10_swung_238 : decode cX10_swung 238 = .ok (.aload_n 0, 1) := by decide +kernel
theorem dX10_swung_239 : decode cX10_swung 239 = .ok (.getfield 90, 3) := by decide +kernel
theorem dX10_swung_242 : decode cX10_swung 242 = .ok (.iload 7, 2) := by decide +kernel
theorem dX10_swung_244 : decode cX10_swung 244 = .ok (.iaload, 1) := by decide +kernel
theorem dX10_swung_245 : decode cX10_swung 245 = .ok (.i2l, 1) := by decide +kernel
theorem dX10_swung_246 : decode cX10_swung 246 = .ok (.aload_n 0, 1) := by decide +kernel
theorem dX10_swung_247 : decode cX10_swung 247 = .ok (.iload 7, 2) := by decide +kernel
theorem dX10_swung_249 : decode cX10_swung 249 = .ok (.invokevirtual 262, 3) := by decide +kernel
theorem dX10_swung_252 : decode cX10_swung 252 = .ok (.i2l, 1) := by decide +kernel
theorem dX10_swung_253 : decode cX10_swung 253 = .ok (.lmul, 1) := by decide +kernel
theorem dX10_swung_254 : decode cX10_swung 254 = .ok (.iload 8, 2) := by decide +kernel
theorem dX10_swung_256 : decode cX10_swung 256 = .ok (.aload_n 0, 1) := by decide +kernel
theorem dX10_swung_257 : decode cX10_swung 257 = .ok (.iload 7, 2) := by decide +kernel
theorem dX10_swung_259 : decode cX10_swung 259 = .ok (.invokevirtual 262, 3) := by decide +kernel
theorem dX10_swung_262 : decode cX10_swung 262 = .ok (.isub, 1) := by decide +kernel
theorem dX10_swung_263 : decode cX10_swung 263 = .ok (.i2l, 1) := by decide +kernel
theorem dX10_swung_264 : decode cX10_swung 264 = .ok (.ldiv, 1) := by decide +kernel
theorem dX10_swung_265 : decode cX10_swung 265 = .ok (.lstore 9, 2) := by decide +kernel
theorem dX10_swung_267 : decode cX10_swung 267 = .ok (.lload 9, 2) := by decide +kernel
theorem dX10_swung_269 : decode cX10_swung 269 = .ok (.lload 5, 2) := by decide +kernel
theorem dX10_swung_271 : decode cX10_swung 271 = .ok (.lcmp, 1) := by decide +kernel
theorem dX10_swung_272 : decode cX10_swung 272 = .ok (.ifCond .lt 6, 3) := by decide +kernel
theorem dX10_swung_275 : decode cX10_swung 275 = .ok (.goto 11, 3) := by decide +kernel
theorem dX10_swung_278 : decode cX10_swung 278 = .ok (.lload 9, 2) := by decide +kernel
theorem dX10_swung_280 : decode cX10_swung 280 = .ok (.lstore 5, 2) := by decide +kernel
theorem dX10_swung_282 : decode cX10_swung 282 = .ok (.iload 7, 2) := by decide +kernel
theorem dX10_swung_284 : decode cX10_swung 284 = .ok (.istore 4, 2) := by decide +kernel
theorem dX10_swung_286 : decode cX10_swung 286 = .ok (.iinc 7 1, 3) := by decide +kernel
theorem dX10_swung_289 : decode cX10_swung 289 = .ok (.goto (-129), 3) := by decide +kernel
theorem dX10_swung_292 : decode cX10_swung 292 = .ok (.iload 4, 2) := by decide +kernel
theorem dX10_swung_294 : decode cX10_swung 294 = .ok (.iconst (-1), 1) := by decide +kernel
theorem dX10_swung_295 : decode cX10_swung 295 = .ok (.if_icmp .ne 5, 3) := by decide +kernel
theorem dX10_swung_298 : decode cX10_swung 298 = .ok (.iconst 0, 1) := by decide +kernel
theorem dX10_swung_299 : decode cX10_swung 299 = .ok (.ireturn, 1) := by decide +kernel
theorem dX10_swung_300 : decode cX10_swung 300 = .ok (.aload_n 0, 1) := by decide +kernel
theorem dX10_swung_301 : decode cX10_swung 301 = .ok (.iload 4, 2) := by decide +kernel
theorem dX10_swung_303 : decode cX10_swung 303 = .ok (.aload_n 0, 1) := by decide +kernel
theorem dX10_swung_304 : decode cX10_swung 304 = .ok (.getfield 23, 3) := by decide +kernel
theorem dX10_swung_307 : decode cX10_swung 307 = .ok (.invokevirtual 241, 3) := by decide +kernel
theorem dX10_swung_310 : decode cX10_swung 310 = .ok (.aload_n 0, 1) := by decide +kernel
theorem dX10_swung_311 : decode cX10_swung 311 = .ok (.getfield 69, 3) := by decide +kernel
theorem dX10_swung_314 : decode cX10_swung 314 = .ok (.iload_n 1, 1) := by decide +kernel
theorem dX10_swung_315 : decode cX10_swung 315 = .ok (.dup2, 1) := by decide +kernel
theorem dX10_swung_316 : decode cX10_swung 316 = .ok (.iaload, 1) := by decide +kernel
theorem dX10_swung_317 : decode cX10_swung 317 = .ok (.aload_n 0, 1) := by decide +kernel
theorem dX10_swung_318 : decode cX10_swung 318 = .ok (.getfield 23, 3) := by decide +kernel
theorem dX10_swung_321 : decode cX10_swung 321 = .ok (.iadd, 1) := by decide +kernel
theorem dX10_swung_322 : decode cX10_swung 322 = .ok (.iastore, 1) := by decide +kernel
theorem dX10_swung_323 : decode cX10_swung 323 = .ok (.aload_n 0, 1) := by decide +kernel
theorem dX10_swung_324 : decode cX10_swung 324 = .ok (.iload_n 1, 1) := by decide +kernel
theorem dX10_swung_325 : decode cX10_swung 325 = .ok (.bipush 8, 2) := by decide +kernel
theorem dX10_swung_327 : decode cX10_swung 327 = .ok (.aload_n 0, 1) := by decide +kernel
theorem dX10_swung_328 : decode cX10_swung 328 = .ok (.getfield 23, 3) := by decide +kernel
theorem dX10_swung_331 : decode cX10_swung 331 = .ok (.invokevirtual 215, 3) := by decide +kernel
theorem dX10_swung_334 : decode cX10_swung 334 = .ok (.iconst 1, 1) := by decide +kernel
theorem dX10_swung_335 : decode cX10_swung 335 = .ok (.ireturn, 1) := by decide +kernel
theorem dX10_run_0 : decode cX10_run 0 = .ok (.aload_n 0, 1) := by decide +kernel
theorem dX10_run_1 : decode cX10_run 1 = .ok (.iconst 0, 1) := by decide +kernel
theorem dX10_run_2 : decode cX10_run 2 = .ok (.putfield 121, 3) := by decide +kernel
theorem dX10_run_5 : decode cX10_run 5 = .ok (.iload_n 1, 1) := by decide +kernel
theorem dX10_run_6 : decode cX10_run 6 = .ok (.iconst 1, 1) := by decide +kernel
theorem dX10_run_7 : decode cX10_run 7 = .ok (.sipush 2000, 3) := by decide +kernel
theorem dX10_run_10 : decode cX10_run 10 = .ok (.invokestatic 124, 3) := by decide +kernel
theorem dX10_run_13 : decode cX10_run 13 = .ok (.ifCond .ne 6, 3) := by decide +kernel
theorem dX10_run_16 : decode cX10_run 16 = .ok (.bipush (-2), 2) := by decide +kernel
theorem dX10_run_18 : decode cX10_run 18 = .ok (.ireturn, 1) := by decide +kernel
theorem dX10_run_19 : decode cX10_run 19 = .ok (.aload_n 0, 1) := by decide +kernel
theorem dX10_run_20 : decode cX10_run 20 = .ok (.getfield 136, 3) := by decide +kernel
theorem dX10_run_23 : decode cX10_run 23 = .ok (.ifCond .ne 6, 3) := by decide +kernel
theorem dX10_run_26 : decode cX10_run 26 = .ok (.bipush (-9), 2) := by decide +kernel
theorem dX10_run_28 : decode cX10_run 28 = .ok (.ireturn, 1) := by decide +kernel
theorem dX10_run_29 : decode cX10_run 29 = .ok (.iconst 0, 1) := by decide +kernel
theorem dX10_run_30 : decode cX10_run 30 = .ok (.istore_n 2, 1) := by decide +kernel
theorem dX10_run_31 : decode cX10_run 31 = .ok (.iload_n 2, 1) := by decide +kernel
theorem dX10_run_32 : decode cX10_run 32 = .ok (.iload_n 1, 1) := by decide +kernel
theorem dX10_run_33 : decode cX10_run 33 = .ok (.if_icmp .ge 20, 3) := by decide +kernel
theorem dX10_run_36 : decode cX10_run 36 = .ok (.aload_n 0, 1) := by decide +kernel
theorem dX10_run_37 : decode cX10_run 37 = .ok (.invokevirtual 265, 3) := by decide +kernel
theorem dX10_run_40 : decode cX10_run 40 = .ok (.ifCond .eq 13, 3) := by decide +kernel
theorem dX10_run_43 : decode cX10_run 43 = .ok (.aload_n 0, 1) := by decide +kernel
theorem dX10_run_44 : decode cX10_run 44 = .ok (.invokevirtual 268, 3) := by decide +kernel
theorem dX10_run_47 : decode cX10_run 47 = .ok (.iinc 2 1, 3) := by decide +kernel
theorem dX10_run_50 : decode cX10_run 50 = .ok (.goto (-19), 3) := by decide +kernel
theorem dX10_run_53 : decode cX10_run 53 = .ok (.aload_n 0, 1) := by decide +kernel
theorem dX10_run_54 : decode cX10_run 54 = .ok (.getfield 203, 3) := by decide +kernel
theorem dX10_run_57 : decode cX10_run 57 = .ok (.ireturn, 1) := by decide +kernel
theorem dX10_isAny_0 : decode cX10_isAny 0 = .ok (.iconst 0, 1) := by decide +kernel
theorem dX10_isAny_1 : decode cX10_isAny 1 = .ok (.istore_n 1, 1) := by decide +kernel
theorem dX10_isAny_2 : decode cX10_isAny 2 = .ok (.iload_n 1, 1) := by decide +kernel
theorem dX10_isAny_3 : decode cX10_isAny 3 = .ok (.aload_n 0, 1) := by decide +kernel
theorem dX10_isAny_4 : decode cX10_isAny 4 = .ok (.getfield 157, 3) := by decide +kernel
theorem dX10_isAny_7 : decode cX10_isAny 7 = .ok (.if_icmp .ge 19, 3) := by decide +kernel
theorem dX10_isAny_10 : decode cX10_isAny 10 = .ok (.aload_n 0, 1) := by decide +kernel
theorem dX10_isAny_11 : decode cX10_isAny 11 = .ok (.iload_n 1, 1) := by decide +kernel
theorem dX10_isAny_12 : decode cX10_isAny 12 = .ok (.invokevirtual 219, 3) := by decide +kernel
theorem dX10_isAny_15 : decode cX10_isAny 15 = .ok (.ifCond .eq 5, 3) := by decide +kernel
theorem dX10_isAny_18 : decode cX10_isAny 18 = .ok (.iconst 1, 1) := by decide +kernel
theorem dX10_isAny_19 : decode cX10_isAny 19 = .ok (.ireturn, 1) := by decide +kernel
theorem dX10_isAny_20 : decode cX10_isAny 20 = .ok (.iinc 1 1, 3) := by decide +kernel
theorem dX10_isAny_23 : decode cX10_isAny 23 = .ok (.goto (-21), 3) := by decide +kernel
theorem dX10_isAny_26 : decode cX10_isAny 26 = .ok (.iconst 0, 1) := by decide +kernel
theorem dX10_isAny_27 : decode cX10_isAny 27 = .ok (.ireturn, 1) := by decide +kernel
theorem dX10_of_0 : decode cX10_of 0 = .ok (.aload_n 0, 1) := by decide +kernel
theorem dX10_of_1 : decode cX10_of 1 = .ok (.iconst 0, 1) := by decide +kernel
theorem dX10_of_2 : decode cX10_of 2 = .ok (.putfield 121, 3) := by decide +kernel
theorem dX10_of_5 : decode cX10_of 5 = .ok (.iload_n 1, 1) := by decide +kernel
theorem dX10_of_6 : decode cX10_of 6 = .ok (.iconst 0, 1) := by decide +kernel
theorem dX10_of_7 : decode cX10_of 7 = .ok (.aload_n 0, 1) := by decide +kernel
theorem dX10_of_8 : decode cX10_of 8 = .ok (.getfield 157, 3) := by decide +kernel
theorem dX10_of_11 : decode cX10_of 11 = .ok (.iconst 1, 1) := by decide +kernel
theorem dX10_of_12 : decode cX10_of 12 = .ok (.isub, 1) := by decide +kernel
theorem dX10_of_13 : decode cX10_of 13 = .ok (.invokestatic 124, 3) := by decide +kernel
theorem dX10_of_16 : decode cX10_of 16 = .ok (.ifCond .ne 6, 3) := by decide +kernel
theorem dX10_of_19 : decode cX10_of 19 = .ok (.bipush (-2), 2) := by decide +kernel
theorem dX10_of_21 : decode cX10_of 21 = .ok (.ireturn, 1) := by decide +kernel
theorem dX10_of_22 : decode cX10_of 22 = .ok (.iload_n 2, 1) := by decide +kernel
theorem dX10_of_23 : decode cX10_of 23 = .ok (.tableswitch 187 0 12 #[65, 72, 79, 86, 93, 100, 122, 129, 136, 143, 150, 165, 180], 65) := by decide +kernel
theorem dX10_of_88 : decode cX10_of 88 = .ok (.aload_n 0, 1) := by decide +kernel
theorem dX10_of_89 : decode cX10_of 89 = .ok (.getfield 66, 3) := by decide +kernel
theorem dX10_of_92 : decode cX10_of 92 = .ok (.iload_n 1, 1) := by decide +kernel
theorem dX10_of_93 : decode cX10_of 93 = .ok (.iaload, 1) := by decide +kernel
theorem dX10_of_94 : decode cX10_of 94 = .ok (.ireturn, 1) := by decide +kernel
theorem dX10_of_95 : decode cX10_of 95 = .ok (.aload_n 0, 1) := by decide +kernel
theorem dX10_of_96 : decode cX10_of 96 = .ok (.getfield 69, 3) := by decide +kernel
theorem dX10_of_99 : decode cX10_of 99 = .ok (.iload_n 1, 1) := by decide +kernel
theorem dX10_of_100 : decode cX10_of 100 = .ok (.iaload, 1) := by decide +kernel
theorem dX10_of_101 : decode cX10_of 101 = .ok (.ireturn, 1) := by decide +kernel
theorem dX10_of_102 : decode cX10_of 102 = .ok (.aload_n 0, 1) := by decide +kernel
theorem dX10_of_103 : decode cX10_of 103 = .ok (.getfield 72, 3) := by decide +kernel
theorem dX10_of_106 : decode cX10_of 106 = .ok (.iload_n 1, 1) := by decide +kernel
theorem dX10_of_107 : decode cX10_of 107 = .ok (.iaload, 1) := by decide +kernel
theorem dX10_of_108 : decode cX10_of 108 = .ok (.ireturn, 1) := by decide +kernel
theorem dX10_of_109 : decode cX10_of 109 = .ok (.aload_n 0, 1) := by decide +kernel
theorem dX10_of_110 : decode cX10_of 110 = .ok (.getfield 75, 3) := by decide +kernel
theorem dX10_of_113 : decode cX10_of 113 = .ok (.iload_n 1, 1) := by decide +kernel
theorem dX10_of_114 : decode cX10_of 114 = .ok (.iaload, 1) := by decide +kernel
theorem dX10_of_115 : decode cX10_of 115 = .ok (.ireturn, 1) := by decide +kernel
theorem dX10_of_116 : decode cX10_of 116 = .ok (.aload_n 0, 1) := by decide +kernel
theorem dX10_of_117 : decode cX10_of 117 = .ok (.getfield 78, 3) := by decide +kernel
theorem dX10_of_120 : decode cX10_of 120 = .ok (.iload_n 1, 1) := by decide +kernel
theorem dX10_of_121 : decode cX10_of 121 = .ok (.iaload, 1) := by decide +kernel
theorem dX10_of_122 : decode cX10_of 122 = .ok (.ireturn, 1) := by decide +kernel
theorem dX10_of_123 : decode cX10_of 123 = .ok (.aload_n 0, 1) := by decide +kernel
theorem dX10_of_124 : decode cX10_of 124 = .ok (.getfield 66, 3) := by decide +kernel
theorem dX10_of_127 : decode cX10_of 127 = .ok (.iload_n 1, 1) := by decide +kernel
theorem dX10_of_128 : decode cX10_of 128 = .ok (.iaload, 1) := by decide +kernel
theorem dX10_of_129 : decode cX10_of 129 = .ok (.iconst 3, 1) := by decide +kernel
theorem dX10_of_130 : decode cX10_of 130 = .ok (.if_icmp .ne 8, 3) := by decide +kernel
theorem dX10_of_133 : decode cX10_of 133 = .ok (.bipush (-2), 2) := by decide +kernel
theorem dX10_of_135 : decode cX10_of 135 = .ok (.goto 9, 3) := by decide +kernel
theorem dX10_of_138 : decode cX10_of 138 = .ok (.aload_n 0, 1) := by decide +kernel
theorem dX10_of_139 : decode cX10_of 139 = .ok (.getfield 81, 3) := by decide +kernel
theorem dX10_of_142 : decode cX10_of 142 = .ok (.iload_n 1, 1) := by decide +kernel
theorem dX10_of_143 : decode cX10_of 143 = .ok (.iaload, 1) := by decide +kernel
theorem dX10_of_144 : decode cX10_of 144 = .ok (.ireturn, 1) := by decide +kernel
theorem dX10_of_145 : decode cX10_of 145 = .ok (.aload_n 0, 1) := by decide +kernel
theorem dX10_of_146 : decode cX10_of 146 = .ok (.getfield 84, 3) := by decide +kernel
theorem dX10_of_149 : decode cX10_of 149 = .ok (.iload_n 1, 1) := by decide +kernel
theorem dX10_of_150 : decode cX10_of 150 = .ok (.iaload, 1) := by decide +kernel
theorem dX10_of_151 : decode cX10_of 151 = .ok (.ireturn, 1) := by decide +kernel
theorem dX10_of_152 : decode cX10_of 152 = .ok (.aload_n 0, 1) := by decide +kernel
theorem dX10_of_153 : decode cX10_of 153 = .ok (.getfield 87, 3) := by decide +kernel
theorem dX10_of_156 : decode cX10_of 156 = .ok (.iload_n 1, 1) := by decide +kernel
theorem dX10_of_157 : decode cX10_of 157 = .ok (.iaload, 1) := by decide +kernel
theorem dX10_of_158 : decode cX10_of 158 = .ok (.ireturn, 1) := by decide +kernel
theorem dX10_of_159 : decode cX10_of 159 = .ok (.aload_n 0, 1) := by decide +kernel
theorem dX10_of_160 : decode cX10_of 160 = .ok (.getfield 90, 3) := by decide +kernel
theorem dX10_of_163 : decode cX10_of 163 = .ok (.iload_n 1, 1) := by decide +kernel
theorem dX10_of_164 : decode cX10_of 164 = .ok (.iaload, 1) := by decide +kernel
theorem dX10_of_165 : decode cX10_of 165 = .ok (.ireturn, 1) := by decide +kernel
theorem dX10_of_166 : decode cX10_of 166 = .ok (.aload_n 0, 1) := by decide +kernel
theorem dX10_of_167 : decode cX10_of 167 = .ok (.getfield 96, 3) := by decide +kernel
theorem dX10_of_170 : decode cX10_of 170 = .ok (.iload_n 1, 1) := by decide +kernel
theorem dX10_of_171 : decode cX10_of 171 = .ok (.iaload, 1) := by decide +kernel
theorem dX10_of_172 : decode cX10_of 172 = .ok (.ireturn, 1) := by decide +kernel
theorem dX10_of_173 : decode cX10_of 173 = .ok (.aload_n 0, 1) := by decide +kernel
theorem dX10_of_174 : decode cX10_of 174 = .ok (.getfield 108, 3) := by decide +kernel
theorem dX10_of_177 : decode cX10_of 177 = .ok (.iload_n 1, 1) := by decide +kernel
theorem dX10_of_178 : decode cX10_of 178 = .ok (.baload, 1) := by decide +kernel
theorem dX10_of_179 : decode cX10_of 179 = .ok (.ifCond .eq 7, 3) := by decide +kernel
theorem dX10_of_182 : decode cX10_of 182 = .ok (.iconst 1, 1) := by decide +kernel
theorem dX10_of_183 : decode cX10_of 183 = .ok (.goto 4, 3) := by decide +kernel
theorem dX10_of_186 : decode cX10_of 186 = .ok (.iconst 0, 1) := by decide +kernel
theorem dX10_of_187 : decode cX10_of 187 = .ok (.ireturn, 1) := by decide +kernel
theorem dX10_of_188 : decode cX10_of 188 = .ok (.aload_n 0, 1) := by decide +kernel
theorem dX10_of_189 : decode cX10_of 189 = .ok (.getfield 112, 3) := by decide +kernel
theorem dX10_of_192 : decode cX10_of 192 = .ok (.iload_n 1, 1) := by decide +kernel
theorem dX10_of_193 : decode cX10_of 193 = .ok (.baload, 1) := by decide +kernel
theorem dX10_of_194 : decode cX10_of 194 = .ok (.ifCond .eq 7, 3) := by decide +kernel
theorem dX10_of_197 : decode cX10_of 197 = .ok (.iconst 1, 1) := by decide +kernel
theorem dX10_of_198 : decode cX10_of 198 = .ok (.goto 4, 3) := by decide +kernel
theorem dX10_of_201 : decode cX10_of 201 = .ok (.iconst 0, 1) := by decide +kernel
theorem dX10_of_202 : decode cX10_of 202 = .ok (.ireturn, 1) := by decide +kernel
theorem dX10_of_203 : decode cX10_of 203 = .ok (.aload_n 0, 1) := by decide +kernel
theorem dX10_of_204 : decode cX10_of 204 = .ok (.getfield 93, 3) := by decide +kernel
theorem dX10_of_207 : decode cX10_of 207 = .ok (.iload_n 1, 1) := by decide +kernel
theorem dX10_of_208 : decode cX10_of 208 = .ok (.iaload, 1) := by decide +kernel
theorem dX10_of_209 : decode cX10_of 209 = .ok (.ireturn, 1) := by decide +kernel
theorem dX10_of_210 : decode cX10_of 210 = .ok (.bipush (-2), 2) := by decide +kernel
theorem dX10_of_212 : decode cX10_of 212 = .ok (.ireturn, 1) := by decide +kernel
theorem dX10_count_0 : decode cX10_count 0 = .ok (.aload_n 0, 1) := by decide +kernel
theorem dX10_count_1 : decode cX10_count 1 = .ok (.iconst 0, 1) := by decide +kernel
theorem dX10_count_2 : decode cX10_count 2 = .ok (.putfield 121, 3) := by decide +kernel
theorem dX10_count_5 : decode cX10_count 5 = .ok (.iload_n 1, 1) := by decide +kernel
theorem dX10_count_6 : decode cX10_count 6 = .ok (.tableswitch 159 0 11 #[62, 67, 72, 77, 82, 87, 92, 105, 110, 115, 120, 125], 62) := by decide +kernel
theorem dX10_count_68 : decode cX10_count 68 = .ok (.aload_n 0, 1) := by decide +kernel
theorem dX10_count_69 : decode cX10_count 69 = .ok (.getfield 146, 3) := by decide +kernel
theorem dX10_count_72 : decode cX10_count 72 = .ok (.ireturn, 1) := by decide +kernel
theorem dX10_count_73 : decode cX10_count 73 = .ok (.aload_n 0, 1) := by decide +kernel
theorem dX10_count_74 : decode cX10_count 74 = .ok (.getfield 23, 3) := by decide +kernel
theorem dX10_count_77 : decode cX10_count 77 = .ok (.ireturn, 1) := by decide +kernel
theorem dX10_count_78 : decode cX10_count 78 = .ok (.aload_n 0, 1) := by decide +kernel
theorem dX10_count_79 : decode cX10_count 79 = .ok (.getfield 27, 3) := by decide +kernel
theorem dX10_count_82 : decode cX10_count 82 = .ok (.ireturn, 1) := by decide +kernel
theorem dX10_count_83 : decode cX10_count 83 = .ok (.aload_n 0, 1) := by decide +kernel
theorem dX10_count_84 : decode cX10_count 84 = .ok (.getfield 140, 3) := by decide +kernel
theorem dX10_count_87 : decode cX10_count 87 = .ok (.ireturn, 1) := by decide +kernel
theorem dX10_count_88 : decode cX10_count 88 = .ok (.aload_n 0, 1) := by decide +kernel
theorem dX10_count_89 : decode cX10_count 89 = .ok (.getfield 30, 3) := by decide +kernel
theorem dX10_count_92 : decode cX10_count 92 = .ok (.ireturn, 1) := by decide +kernel
theorem dX10_count_93 : decode cX10_count 93 = .ok (.aload_n 0, 1) := by decide +kernel
theorem dX10_count_94 : decode cX10_count 94 = .ok (.getfield 33, 3) := by decide +kernel
theorem dX10_count_97 : decode cX10_count 97 = .ok (.ireturn, 1) := by decide +kernel
theorem dX10_count_98 : decode cX10_count 98 = .ok (.aload_n 0, 1) := by decide +kernel
theorem dX10_count_99 : decode cX10_count 99 = .ok (.getfield 136, 3) := by decide +kernel
theorem dX10_count_102 : decode cX10_count 102 = .ok (.ifCond .eq 7, 3) := by decide +kernel
theorem dX10_count_105 : decode cX10_count 105 = .ok (.iconst 1, 1) := by decide +kernel
theorem dX10_count_106 : decode cX10_count 106 = .ok (.goto 4, 3) := by decide +kernel
theorem dX10_count_109 : decode cX10_count 109 = .ok (.iconst 0, 1) := by decide +kernel
theorem dX10_count_110 : decode cX10_count 110 = .ok (.ireturn, 1) := by decide +kernel
theorem dX10_count_111 : decode cX10_count 111 = .ok (.aload_n 0, 1) := by decide +kernel
theorem dX10_count_112 : decode cX10_count 112 = .ok (.getfield 203, 3) := by decide +kernel
theorem dX10_count_115 : decode cX10_count 115 = .ok (.ireturn, 1) := by decide +kernel
theorem dX10_count_116 : decode cX10_count 116 = .ok (.aload_n 0, 1) := by decide +kernel
theorem dX10_count_117 : decode cX10_count 117 = .ok (.getfield 206, 3) := by decide +kernel
theorem dX10_count_120 : decode cX10_count 120 = .ok (.ireturn, 1) := by decide +kernel
theorem dX10_count_121 : decode cX10_count 121 = .ok (.aload_n 0, 1) := by decide +kernel
theorem dX10_count_122 : decode cX10_count 122 = .ok (.getfield 209, 3) := by decide +kernel
theorem dX10_count_125 : decode cX10_count 125 = .ok (.ireturn, 1) := by decide +kernel
theorem dX10_count_126 : decode cX10_count 126 = .ok (.aload_n 0, 1) := by decide +kernel
theorem dX10_count_127 : decode cX10_count 127 = .ok (.getfield 212, 3) := by decide +kernel
theorem dX10_count_130 : decode cX10_count 130 = .ok (.ireturn, 1) := by decide +kernel
theorem dX10_count_131 : decode cX10_count 131 = .ok (.iconst 0, 1) := by decide +kernel
theorem dX10_count_132 : decode cX10_count 132 = .ok (.istore_n 2, 1) := by decide +kernel
theorem dX10_count_133 : decode cX10_count 133 = .ok (.iconst 0, 1) := by decide +kernel
theorem dX10_count_134 : decode cX10_count 134 = .ok (.istore_n 3, 1) := by decide +kernel
theorem dX10_count_135 : decode cX10_count 135 = .ok (.iload_n 3, 1) := by decide +kernel
theorem dX10_count_136 : decode cX10_count 136 = .ok (.iconst 4, 1) := by decide +kernel
theorem dX10_count_137 : decode cX10_count 137 = .ok (.if_icmp .ge 26, 3) := by decide +kernel
theorem dX10_count_140 : decode cX10_count 140 = .ok (.iload_n 2, 1) := by decide +kernel
theorem dX10_count_141 : decode cX10_count 141 = .ok (.aload_n 0, 1) := by decide +kernel
theorem dX10_count_142 : decode cX10_count 142 = .ok (.getfield 9, 3) := by decide +kernel
theorem dX10_count_145 : decode cX10_count 145 = .ok (.iload_n 3, 1) := by decide +kernel
theorem dX10_count_146 : decode cX10_count 146 = .ok (.iaload, 1) := by decide +kernel
theorem dX10_count_147 : decode cX10_count 147 = .ok (.ifCond .lt 7, 3) := by decide +kernel
theorem dX10_count_150 : decode cX10_count 150 = .ok (.iconst 1, 1) := by decide +kernel
theorem dX10_count_151 : decode cX10_count 151 = .ok (.goto 4, 3) := by decide +kernel
theorem dX10_count_154 : decode cX10_count 154 = .ok (.iconst 0, 1) := by decide +kernel
theorem dX10_count_155 : decode cX10_count 155 = .ok (.iadd, 1) := by decide +kernel
theorem dX10_count_156 : decode cX10_count 156 = .ok (.istore_n 2, 1) := by decide +kernel
theorem dX10_count_157 : decode cX10_count 157 = .ok (.iinc 3 1, 3) := by decide +kernel
theorem dX10_count_160 : decode cX10_count 160 = .ok (.goto (-25), 3) := by decide +kernel
theorem dX10_count_163 : decode cX10_count 163 = .ok (.iload_n 2, 1) := by decide +kernel
theorem dX10_count_164 : decode cX10_count 164 = .ok (.ireturn, 1) := by decide +kernel
theorem dX10_count_165 : decode cX10_count 165 = .ok (.iconst (-1), 1) := by decide +kernel
theorem dX10_count_166 : decode cX10_count 166 = .ok (.ireturn, 1) := by decide +kernel
theorem dX10_log_0 : decode cX10_log 0 = .ok (.aload_n 0, 1) := by decide +kernel
theorem dX10_log_1 : decode cX10_log 1 = .ok (.iconst 0, 1) := by decide +kernel
theorem dX10_log_2 : decode cX10_log 2 = .ok (.putfield 121, 3) := by decide +kernel
theorem dX10_log_5 : decode cX10_log 5 = .ok (.iload_n 1, 1) := by decide +kernel
theorem dX10_log_6 : decode cX10_log 6 = .ok (.iconst 0, 1) := by decide +kernel
theorem dX10_log_7 : decode cX10_log 7 = .ok (.aload_n 0, 1) := by decide +kernel
theorem dX10_log_8 : decode cX10_log 8 = .ok (.getfield 209, 3) := by decide +kernel
theorem dX10_log_11 : decode cX10_log 11 = .ok (.iconst 1, 1) := by decide +kernel
theorem dX10_log_12 : decode cX10_log 12 = .ok (.isub, 1) := by decide +kernel
theorem dX10_log_13 : decode cX10_log 13 = .ok (.invokestatic 124, 3) := by decide +kernel
theorem dX10_log_16 : decode cX10_log 16 = .ok (.ifCond .eq 25, 3) := by decide +kernel
theorem dX10_log_19 : decode cX10_log 19 = .ok (.iload_n 2, 1) := by decide +kernel
theorem dX10_log_20 : decode cX10_log 20 = .ok (.iconst 0, 1) := by decide +kernel
theorem dX10_log_21 : decode cX10_log 21 = .ok (.iconst 3, 1) := by decide +kernel
theorem dX10_log_22 : decode cX10_log 22 = .ok (.invokestatic 124, 3) := by decide +kernel
theorem dX10_log_25 : decode cX10_log 25 = .ok (.ifCond .eq 16, 3) := by decide +kernel
theorem dX10_log_28 : decode cX10_log 28 = .ok (.aload_n 0, 1) := by decide +kernel
theorem dX10_log_29 : decode cX10_log 29 = .ok (.getfield 118, 3) := by decide +kernel
theorem dX10_log_32 : decode cX10_log 32 = .ok (.iconst 4, 1) := by decide +kernel
theorem dX10_log_33 : decode cX10_log 33 = .ok (.iload_n 1, 1) := by decide +kernel
theorem dX10_log_34 : decode cX10_log 34 = .ok (.imul, 1) := by decide +kernel
theorem dX10_log_35 : decode cX10_log 35 = .ok (.iload_n 2, 1) := by decide +kernel
theorem dX10_log_36 : decode cX10_log 36 = .ok (.iadd, 1) := by decide +kernel
theorem dX10_log_37 : decode cX10_log 37 = .ok (.iaload, 1) := by decide +kernel
theorem dX10_log_38 : decode cX10_log 38 = .ok (.goto 5, 3) := by decide +kernel
theorem dX10_log_41 : decode cX10_log 41 = .ok (.bipush (-2), 2) := by decide +kernel
theorem dX10_log_43 : decode cX10_log 43 = .ok (.ireturn, 1) := by decide +kernel
end
section
theorem dX2_init_0 : decode cX2_init 0 = .ok (.aload_n 0, 1) := by decide +kernel
theorem dX2_init_1 : decode cX2_init 1 = .ok (.invokespecial 3, 3) := by decide +kernel
theorem dX2_init_4 : decode cX2_init 4 = .ok (.aload_n 0, 1) := by decide +kernel
theorem dX2_init_5 : decode cX2_init 5 = .ok (.new 9, 3) := by decide +kernel
theorem dX2_init_8 : decode cX2_init 8 = .ok (.dup, 1) := by decide +kernel
theorem dX2_init_9 : decode cX2_init 9 = .ok (.invokespecial 11, 3) := by decide +kernel
theorem dX2_init_12 : decode cX2_init 12 = .ok (.putfield 12, 3) := by decide +kernel
theorem dX2_init_15 : decode cX2_init 15 = .ok (.aload_n 0, 1) := by decide +kernel
theorem dX2_init_16 : decode cX2_init 16 = .ok (.iload_n 1, 1) := by decide +kernel
theorem dX2_init_17 : decode cX2_init 17 = .ok (.putfield 18, 3) := by decide +kernel
theorem dX2_init_20 : decode cX2_init 20 = .ok (.return_, 1) := by decide +kernel
theorem dX2_start_0 : decode cX2_start 0 = .ok (.aload_n 0, 1) := by decide +kernel
theorem dX2_start_1 : decode cX2_start 1 = .ok (.aload_n 1, 1) := by decide +kernel
theorem dX2_start_2 : decode cX2_start 2 = .ok (.putfield 22, 3) := by decide +kernel
theorem dX2_start_5 : decode cX2_start 5 = .ok (.aload_n 0, 1) := by decide +kernel
theorem dX2_start_6 : decode cX2_start 6 = .ok (.getfield 12, 3) := by decide +kernel
theorem dX2_start_9 : decode cX2_start 9 = .ok (.invokevirtual 26, 3) := by decide +kernel
theorem dX2_start_12 : decode cX2_start 12 = .ok (.aload_n 0, 1) := by decide +kernel
theorem dX2_start_13 : decode cX2_start 13 = .ok (.iconst 0, 1) := by decide +kernel
theorem dX2_start_14 : decode cX2_start 14 = .ok (.putfield 29, 3) := by decide +kernel
theorem dX2_start_17 : decode cX2_start 17 = .ok (.aload_n 0, 1) := by decide +kernel
theorem dX2_start_18 : decode cX2_start 18 = .ok (.iload_n 2, 1) := by decide +kernel
theorem dX2_start_19 : decode cX2_start 19 = .ok (.putfield 32, 3) := by decide +kernel
theorem dX2_start_22 : decode cX2_start 22 = .ok (.aload_n 0, 1) := by decide +kernel
theorem dX2_start_23 : decode cX2_start 23 = .ok (.iconst 0, 1) := by decide +kernel
theorem dX2_start_24 : decode cX2_start 24 = .ok (.putfield 35, 3) := by decide +kernel
theorem dX2_start_27 : decode cX2_start 27 = .ok (.aload_n 0, 1) := by decide +kernel
theorem dX2_start_28 : decode cX2_start 28 = .ok (.iconst 0, 1) := by decide +kernel
theorem dX2_start_29 : decode cX2_start 29 = .ok (.putfield 38, 3) := by decide +kernel
theorem dX2_start_32 : decode cX2_start 32 = .ok (.aload_n 0, 1) := by decide +kernel
theorem dX2_start_33 : decode cX2_start 33 = .ok (.iconst 0, 1) := by decide +kernel
theorem dX2_start_34 : decode cX2_start 34 = .ok (.putfield 41, 3) := by decide +kernel
theorem dX2_start_37 : decode cX2_start 37 = .ok (.aload_n 0, 1) := by decide +kernel
theorem dX2_start_38 : decode cX2_start 38 = .ok (.iconst 0, 1) := by decide +kernel
theorem dX2_start_39 : decode cX2_start 39 = .ok (.putfield 44, 3) := by decide +kernel
theorem dX2_start_42 : decode cX2_start 42 = .ok (.aload_n 0, 1) := by decide +kernel
theorem dX2_start_43 : decode cX2_start 43 = .ok (.iconst 0, 1) := by decide +kernel
theorem dX2_start_44 : decode cX2_start 44 = .ok (.putfield 47, 3) := by decide +kernel
theorem dX2_start_47 : decode cX2_start 47 = .ok (.aload_n 0, 1) := by decide +kernel
theorem dX2_start_48 : decode cX2_start 48 = .ok (.iconst (-1), 1) := by decide +kernel
theorem dX2_start_49 : decode cX2_start 49 = .ok (.putfield 50, 3) := by decide +kernel
theorem dX2_start_52 : decode cX2_start 52 = .ok (.aload_n 0, 1) := by decide +kernel
theorem dX2_start_53 : decode cX2_start 53 = .ok (.iconst 0, 1) := by decide +kernel
theorem dX2_start_54 : decode cX2_start 54 = .ok (.putfield 53, 3) := by decide +kernel
theorem dX2_start_57 : decode cX2_start 57 = .ok (.aload_n 0, 1) := by decide +kernel
theorem dX2_start_58 : decode cX2_start 58 = .ok (.iconst 0, 1) := by decide +kernel
theorem dX2_start_59 : decode cX2_start 59 = .ok (.putfield 56, 3) := by decide +kernel
theorem dX2_start_62 : decode cX2_start 62 = .ok (.aload_n 0, 1) := by decide +kernel
theorem dX2_start_63 : decode cX2_start 63 = .ok (.iconst 0, 1) := by decide +kernel
theorem dX2_start_64 : decode cX2_start 64 = .ok (.putfield 60, 3) := by decide +kernel
theorem dX2_start_67 : decode cX2_start 67 = .ok (.aload_n 0, 1) := by decide +kernel
theorem dX2_start_68 : decode cX2_start 68 = .ok (.iconst 0, 1) := by decide +kernel
theorem dX2_start_69 : decode cX2_start 69 = .ok (.putfield 63, 3) := by decide +kernel
theorem dX2_start_72 : decode cX2_start 72 = .ok (.aload_n 0, 1) := by decide +kernel
theorem dX2_start_73 : decode cX2_start 73 = .ok (.iconst 0, 1) := by decide +kernel
theorem dX2_start_74 : decode cX2_start 74 = .ok (.putfield 66, 3) := by decide +kernel
theorem dX2_start_77 : decode cX2_start 77 = .ok (.aload_n 0, 1) := by decide +kernel
theorem dX2_start_78 : decode cX2_start 78 = .ok (.iconst 0, 1) := by decide +kernel
theorem dX2_start_79 : decode cX2_start 79 = .ok (.putfield 69, 3) := by decide +kernel
theorem dX2_start_82 : decode cX2_start 82 = .ok (.return_, 1) := by decide +kernel
theorem dX2_goesOn_0 : decode cX2_goesOn 0 = .ok (.aload_n 0, 1) := by decide +kernel
theorem dX2_goesOn_1 : decode cX2_goesOn 1 = .ok (.getfield 29, 3) := by decide +kernel
theorem dX2_goesOn_4 : decode cX2_goesOn 4 = .ok (.iconst 3, 1) := by decide +kernel
theorem dX2_goesOn_5 : decode cX2_goesOn 5 = .ok (.if_icmp .eq 15, 3) := by decide +kernel
theorem dX2_goesOn_8 : decode cX2_goesOn 8 = .ok (.aload_n 0, 1) := by decide +kernel
theorem dX2_goesOn_9 : decode cX2_goesOn 9 = .ok (.getfield 29, 3) := by decide +kernel
theorem dX2_goesOn_12 : decode cX2_goesOn 12 = .ok (.iconst 4, 1) := by decide +kernel
theorem dX2_goesOn_13 : decode cX2_goesOn 13 = .ok (.if_icmp .eq 7, 3) := by decide +kernel
theorem dX2_goesOn_16 : decode cX2_goesOn 16 = .ok (.iconst 1, 1) := by decide +kernel
theorem dX2_goesOn_17 : decode cX2_goesOn 17 = .ok (.goto 4, 3) := by decide +kernel
theorem dX2_goesOn_20 : decode cX2_goesOn 20 = .ok (.iconst 0, 1) := by decide +kernel
theorem dX2_goesOn_21 : decode cX2_goesOn 21 = .ok (.ireturn, 1) := by decide +kernel
theorem dX2_isAwake_0 : decode cX2_isAwake 0 = .ok (.aload_n 0, 1) := by decide +kernel
theorem dX2_isAwake_1 : decode cX2_isAwake 1 = .ok (.getfield 29, 3) := by decide +kernel
theorem dX2_isAwake_4 : decode cX2_isAwake 4 = .ok (.ifCond .eq 11, 3) := by decide +kernel
theorem dX2_isAwake_7 : decode cX2_isAwake 7 = .ok (.aload_n 0, 1) := by decide +kernel
theorem dX2_isAwake_8 : decode cX2_isAwake 8 = .ok (.getfield 29, 3) := by decide +kernel
theorem dX2_isAwake_11 : decode cX2_isAwake 11 = .ok (.iconst 1, 1) := by decide +kernel
theorem dX2_isAwake_12 : decode cX2_isAwake 12 = .ok (.if_icmp .ne 7, 3) := by decide +kernel
theorem dX2_isAwake_15 : decode cX2_isAwake 15 = .ok (.iconst 1, 1) := by decide +kernel
theorem dX2_isAwake_16 : decode cX2_isAwake 16 = .ok (.goto 4, 3) := by decide +kernel
theorem dX2_isAwake_19 : decode cX2_isAwake 19 = .ok (.iconst 0, 1) := by decide +kernel
theorem dX2_isAwake_20 : decode cX2_isAwake 20 = .ok (.ireturn, 1) := by decide +kernel
theorem dX2_nextAct_0 : decode cX2_nextAct 0 = .ok (.aload_n 0, 1) := by decide +kernel
theorem dX2_nextAct_1 : decode cX2_nextAct 1 = .ok (.getfield 41, 3) := by decide +kernel
theorem dX2_nextAct_4 : decode cX2_nextAct 4 = .ok (.ifCond .lt 32, 3) := by decide +kernel
theorem dX2_nextAct_7 : decode cX2_nextAct 7 = .ok (.aload_n 0, 1) := by decide +kernel
theorem dX2_nextAct_8 : decode cX2_nextAct 8 = .ok (.getfield 41, 3) := by decide +kernel
theorem dX2_nextAct_11 : decode cX2_nextAct 11 = .ok (.aload_n 0, 1) := by decide +kernel
theorem dX2_nextAct_12 : decode cX2_nextAct 12 = .ok (.getfield 22, 3) := by decide +kernel
theorem dX2_nextAct_15 : decode cX2_nextAct 15 = .ok (.getfield 72, 3) := by decide +kernel
theorem dX2_nextAct_18 : decode cX2_nextAct 18 = .ok (.if_icmp .ge 18, 3) := by decide +kernel
theorem dX2_nextAct_21 : decode cX2_nextAct 21 = .ok (.aload_n 0, 1) := by decide +kernel
theorem dX2_nextAct_22 : decode cX2_nextAct 22 = .ok (.getfield 22, 3) := by decide +kernel
theorem dX2_nextAct_25 : decode cX2_nextAct 25 = .ok (.getfield 77, 3) := by decide +kernel
theorem dX2_nextAct_28 : decode cX2_nextAct 28 = .ok (.aload_n 0, 1) := by decide +kernel
theorem dX2_nextAct_29 : decode cX2_nextAct 29 = .ok (.getfield 41, 3) := by decide +kernel
theorem dX2_nextAct_32 : decode cX2_nextAct 32 = .ok (.iaload, 1) := by decide +kernel
theorem dX2_nextAct_33 : decode cX2_nextAct 33 = .ok (.goto 4, 3) := by decide +kernel
theorem dX2_nextAct_36 : decode cX2_nextAct 36 = .ok (.iconst 0, 1) := by decide +kernel
theorem dX2_nextAct_37 : decode cX2_nextAct 37 = .ok (.ireturn, 1) := by decide +kernel
theorem dX2_isAboutToMake_0 : decode cX2_isAboutToMake 0 = .ok (.aload_n 0, 1) := by decide +kernel
theorem dX2_isAboutToMake_1 : decode cX2_isAboutToMake 1 = .ok (.getfield 29, 3) := by decide +kernel
theorem dX2_isAboutToMake_4 : decode cX2_isAboutToMake 4 = .ok (.ifCond .ne 17, 3) := by decide +kernel
theorem dX2_isAboutToMake_7 : decode cX2_isAboutToMake 7 = .ok (.aload_n 0, 1) := by decide +kernel
theorem dX2_isAboutToMake_8 : decode cX2_isAboutToMake 8 = .ok (.invokevirtual 81, 3) := by decide +kernel
theorem dX2_isAboutToMake_11 : decode cX2_isAboutToMake 11 = .ok (.invokestatic 85, 3) := by decide +kernel
theorem dX2_isAboutToMake_14 : decode cX2_isAboutToMake 14 = .ok (.ifCond .eq 7, 3) := by decide +kernel
theorem dX2_isAboutToMake_17 : decode cX2_isAboutToMake 17 = .ok (.iconst 1, 1) := by decide +kernel
theorem dX2_isAboutToMake_18 : decode cX2_isAboutToMake 18 = .ok (.goto 4, 3) := by decide +kernel
theorem dX2_isAboutToMake_21 : decode cX2_isAboutToMake 21 = .ok (.iconst 0, 1) := by decide +kernel
theorem dX2_isAboutToMake_22 : decode cX2_isAboutToMake 22 = .ok (.ireturn, 1) := by decide +kernel
theorem dX2_fits_0 : decode cX2_fits 0 = .ok (.aload_n 0, 1) := by decide +kernel
theorem dX2_fits_1 : decode cX2_fits 1 = .ok (.getfield 35, 3) := by decide +kernel
theorem dX2_fits_4 : decode cX2_fits 4 = .ok (.iload_n 1, 1) := by decide +kernel
theorem dX2_fits_5 : decode cX2_fits 5 = .ok (.iadd, 1) := by decide +kernel
theorem dX2_fits_6 : decode cX2_fits 6 = .ok (.aload_n 0, 1) := by decide +kernel
theorem dX2_fits_7 : decode cX2_fits 7 = .ok (.getfield 22, 3) := by decide +kernel
theorem dX2_fits_10 : decode cX2_fits 10 = .ok (.aload_n 0, 1) := by decide +kernel
theorem dX2_fits_11 : decode cX2_fits 11 = .ok (.getfield 32, 3) := by decide +kernel
theorem dX2_fits_14 : decode cX2_fits 14 = .ok (.invokevirtual 89, 3) := by decide +kernel
theorem dX2_fits_17 : decode cX2_fits 17 = .ok (.if_icmp .gt 7, 3) := by decide +kernel
theorem dX2_fits_20 : decode cX2_fits 20 = .ok (.iconst 1, 1) := by decide +kernel
theorem dX2_fits_21 : decode cX2_fits 21 = .ok (.goto 4, 3) := by decide +kernel
theorem dX2_fits_24 : decode cX2_fits 24 = .ok (.iconst 0, 1) := by decide +kernel
theorem dX2_fits_25 : decode cX2_fits 25 = .ok (.ireturn, 1) := by decide +kernel
theorem dX2_keep_0 : decode cX2_keep 0 = .ok (.aload_n 1, 1) := by decide +kernel
theorem dX2_keep_1 : decode cX2_keep 1 = .ok (.getfield 93, 3) := by decide +kernel
theorem dX2_keep_4 : decode cX2_keep 4 = .ok (.aload_n 1, 1) := by decide +kernel
theorem dX2_keep_5 : decode cX2_keep 5 = .ok (.aload_n 0, 1) := by decide +kernel
theorem dX2_keep_6 : decode cX2_keep 6 = .ok (.getfield 22, 3) := by decide +kernel
theorem dX2_keep_9 : decode cX2_keep 9 = .ok (.getfield 98, 3) := by decide +kernel
theorem dX2_keep_12 : decode cX2_keep 12 = .ok (.aload_n 0, 1) := by decide +kernel
theorem dX2_keep_13 : decode cX2_keep 13 = .ok (.getfield 22, 3) := by decide +kernel
theorem dX2_keep_16 : decode cX2_keep 16 = .ok (.aload_n 0, 1) := by decide +kernel
theorem dX2_keep_17 : decode cX2_keep 17 = .ok (.getfield 12, 3) := by decide +kernel
theorem dX2_keep_20 : decode cX2_keep 20 = .ok (.getfield 101, 3) := by decide +kernel
theorem dX2_keep_23 : decode cX2_keep 23 = .ok (.invokevirtual 104, 3) := by decide +kernel
theorem dX2_keep_26 : decode cX2_keep 26 = .ok (.invokestatic 107, 3) := by decide +kernel
theorem dX2_keep_29 : decode cX2_keep 29 = .ok (.invokevirtual 113, 3) := by decide +kernel
theorem dX2_keep_32 : decode cX2_keep 32 = .ok (.imul, 1) := by decide +kernel
theorem dX2_keep_33 : decode cX2_keep 33 = .ok (.ireturn, 1) := by decide +kernel
theorem dX2_spare_0 : decode cX2_spare 0 = .ok (.aload_n 0, 1) := by decide +kernel
theorem dX2_spare_1 : decode cX2_spare 1 = .ok (.invokevirtual 116, 3) := by decide +kernel
theorem dX2_spare_4 : decode cX2_spare 4 = .ok (.ifCond .eq 20, 3) := by decide +kernel
theorem dX2_spare_7 : decode cX2_spare 7 = .ok (.aload_n 0, 1) := by decide +kernel
theorem dX2_spare_8 : decode cX2_spare 8 = .ok (.getfield 32, 3) := by decide +kernel
theorem dX2_spare_11 : decode cX2_spare 11 = .ok (.aload_n 0, 1) := by decide +kernel
theorem dX2_spare_12 : decode cX2_spare 12 = .ok (.aload_n 1, 1) := by decide +kernel
theorem dX2_spare_13 : decode cX2_spare 13 = .ok (.invokevirtual 120, 3) := by decide +kernel
theorem dX2_spare_16 : decode cX2_spare 16 = .ok (.isub, 1) := by decide +kernel
theorem dX2_spare_17 : decode cX2_spare 17 = .ok (.iconst 0, 1) := by decide +kernel
theorem dX2_spare_18 : decode cX2_spare 18 = .ok (.invokestatic 107, 3) := by decide +kernel
theorem dX2_spare_21 : decode cX2_spare 21 = .ok (.goto 4, 3) := by decide +kernel
theorem dX2_spare_24 : decode cX2_spare 24 = .ok (.iconst 0, 1) := by decide +kernel
theorem dX2_spare_25 : decode cX2_spare 25 = .ok (.ireturn, 1) := by decide +kernel
theorem dX2_collectNow_0 : decode cX2_collectNow 0 = .ok (.aload_n 0, 1) := by decide +kernel
theorem dX2_collectNow_1 : decode cX2_collectNow 1 = .ok (.getfield 22, 3) := by decide +kernel
theorem dX2_collectNow_4 : decode cX2_collectNow 4 = .ok (.aload_n 0, 1) := by decide +kernel
theorem dX2_collectNow_5 : decode cX2_collectNow 5 = .ok (.getfield 12, 3) := by decide +kernel
theorem dX2_collectNow_8 : decode cX2_collectNow 8 = .ok (.getfield 101, 3) := by decide +kernel
theorem dX2_collectNow_11 : decode cX2_collectNow 11 = .ok (.aload_n 0, 1) := by decide +kernel
theorem dX2_collectNow_12 : decode cX2_collectNow 12 = .ok (.getfield 35, 3) := by decide +kernel
theorem dX2_collectNow_15 : decode cX2_collectNow 15 = .ok (.invokevirtual 124, 3) := by decide +kernel
theorem dX2_collectNow_18 : decode cX2_collectNow 18 = .ok (.istore_n 1, 1) := by decide +kernel
theorem dX2_collectNow_19 : decode cX2_collectNow 19 = .ok (.aload_n 0, 1) := by decide +kernel
theorem dX2_collectNow_20 : decode cX2_collectNow 20 = .ok (.aload_n 0, 1) := by decide +kernel
theorem dX2_collectNow_21 : decode cX2_collectNow 21 = .ok (.getfield 12, 3) := by decide +kernel
theorem dX2_collectNow_24 : decode cX2_collectNow 24 = .ok (.getfield 101, 3) := by decide +kernel
theorem dX2_collectNow_27 : decode cX2_collectNow 27 = .ok (.putfield 35, 3) := by decide +kernel
theorem dX2_collectNow_30 : decode cX2_collectNow 30 = .ok (.aload_n 0, 1) := by decide +kernel
theorem dX2_collectNow_31 : decode cX2_collectNow 31 = .ok (.dup, 1) := by decide +kernel
theorem dX2_collectNow_32 : decode cX2_collectNow 32 = .ok (.getfield 44, 3) := by decide +kernel
theorem dX2_collectNow_35 : decode cX2_collectNow 35 = .ok (.iload_n 1, 1) := by decide +kernel
theorem dX2_collectNow_36 : decode cX2_collectNow 36 = .ok (.iadd, 1) := by decide +kernel
theorem dX2_collectNow_37 : decode cX2_collectNow 37 = .ok (.putfield 44, 3) := by decide +kernel
theorem dX2_collectNow_40 : decode cX2_collectNow 40 = .ok (.aload_n 0, 1) := by decide +kernel
theorem dX2_collectNow_41 : decode cX2_collectNow 41 = .ok (.dup, 1) := by decide +kernel
theorem dX2_collectNow_42 : decode cX2_collectNow 42 = .ok (.getfield 47, 3) := by decide +kernel
theorem dX2_collectNow_45 : decode cX2_collectNow 45 = .ok (.iload_n 1, 1) := by decide +kernel
theorem dX2_collectNow_46 : decode cX2_collectNow 46 = .ok (.iadd, 1) := by decide +kernel
theorem dX2_collectNow_47 : decode cX2_collectNow 47 = .ok (.putfield 47, 3) := by decide +kernel
theorem dX2_collectNow_50 : decode cX2_collectNow 50 = .ok (.iload_n 1, 1) := by decide +kernel
theorem dX2_collectNow_51 : decode cX2_collectNow 51 = .ok (.ireturn, 1) := by decide +kernel
theorem dX2_makeNow_0 : decode cX2_makeNow 0 = .ok (.aload_n 0, 1) := by decide +kernel
theorem dX2_makeNow_1 : decode cX2_makeNow 1 = .ok (.getfield 12, 3) := by decide +kernel
theorem dX2_makeNow_4 : decode cX2_makeNow 4 = .ok (.iload_n 1, 1) := by decide +kernel
theorem dX2_makeNow_5 : decode cX2_makeNow 5 = .ok (.invokevirtual 127, 3) := by decide +kernel
theorem dX2_makeNow_8 : decode cX2_makeNow 8 = .ok (.aload_n 0, 1) := by decide +kernel
theorem dX2_makeNow_9 : decode cX2_makeNow 9 = .ok (.dup, 1) := by decide +kernel
theorem dX2_makeNow_10 : decode cX2_makeNow 10 = .ok (.getfield 35, 3) := by decide +kernel
theorem dX2_makeNow_13 : decode cX2_makeNow 13 = .ok (.iload_n 1, 1) := by decide +kernel
theorem dX2_makeNow_14 : decode cX2_makeNow 14 = .ok (.iadd, 1) := by decide +kernel
theorem dX2_makeNow_15 : decode cX2_makeNow 15 = .ok (.putfield 35, 3) := by decide +kernel
theorem dX2_makeNow_18 : decode cX2_makeNow 18 = .ok (.return_, 1) := by decide +kernel
theorem dX2_waitFor_0 : decode cX2_waitFor 0 = .ok (.aload_n 0, 1) := by decide +kernel
theorem dX2_waitFor_1 : decode cX2_waitFor 1 = .ok (.iload_n 1, 1) := by decide +kernel
theorem dX2_waitFor_2 : decode cX2_waitFor 2 = .ok (.putfield 53, 3) := by decide +kernel
theorem dX2_waitFor_5 : decode cX2_waitFor 5 = .ok (.aload_n 0, 1) := by decide +kernel
theorem dX2_waitFor_6 : decode cX2_waitFor 6 = .ok (.iload_n 1, 1) := by decide +kernel
theorem dX2_waitFor_7 : decode cX2_waitFor 7 = .ok (.ifCond .le 7, 3) := by decide +kernel
theorem dX2_waitFor_10 : decode cX2_waitFor 10 = .ok (.iload_n 2, 1) := by decide +kernel
theorem dX2_waitFor_11 : decode cX2_waitFor 11 = .ok (.goto 4, 3) := by decide +kernel
theorem dX2_waitFor_14 : decode cX2_waitFor 14 = .ok (.iconst 0, 1) := by decide +kernel
theorem dX2_waitFor_15 : decode cX2_waitFor 15 = .ok (.putfield 29, 3) := by decide +kernel
theorem dX2_waitFor_18 : decode cX2_waitFor 18 = .ok (.return_, 1) := by decide +kernel
theorem dX2_endRound_0 : decode cX2_endRound 0 = .ok (.aload_n 0, 1) := by decide +kernel
theorem dX2_endRound_1 : decode cX2_endRound 1 = .ok (.aload_n 0, 1) := by decide +kernel
theorem dX2_endRound_2 : decode cX2_endRound 2 = .ok (.getfield 38, 3) := by decide +kernel
theorem dX2_endRound_5 : decode cX2_endRound 5 = .ok (.ifCond .le 26, 3) := by decide +kernel
theorem dX2_endRound_8 : decode cX2_endRound 8 = .ok (.aload_n 0, 1) := by decide +kernel
theorem dX2_endRound_9 : decode cX2_endRound 9 = .ok (.getfield 12, 3) := by decide +kernel
theorem dX2_endRound_12 : decode cX2_endRound 12 = .ok (.getfield 101, 3) := by decide +kernel
theorem dX2_endRound_15 : decode cX2_endRound 15 = .ok (.aload_n 0, 1) := by decide +kernel
theorem dX2_endRound_16 : decode cX2_endRound 16 = .ok (.getfield 66, 3) := by decide +kernel
theorem dX2_endRound_19 : decode cX2_endRound 19 = .ok (.if_icmp .le 12, 3) := by decide +kernel
theorem dX2_endRound_22 : decode cX2_endRound 22 = .ok (.aload_n 0, 1) := by decide +kernel
theorem dX2_endRound_23 : decode cX2_endRound 23 = .ok (.getfield 69, 3) := by decide +kernel
theorem dX2_endRound_26 : decode cX2_endRound 26 = .ok (.iconst 1, 1) := by decide +kernel
theorem dX2_endRound_27 : decode cX2_endRound 27 = .ok (.iadd, 1) := by decide +kernel
theorem dX2_endRound_28 : decode cX2_endRound 28 = .ok (.goto 4, 3) := by decide +kernel
theorem dX2_endRound_31 : decode cX2_endRound 31 = .ok (.iconst 0, 1) := by decide +kernel
theorem dX2_endRound_32 : decode cX2_endRound 32 = .ok (.putfield 69, 3) := by decide +kernel
theorem dX2_endRound_35 : decode cX2_endRound 35 = .ok (.aload_n 0, 1) := by decide +kernel
theorem dX2_endRound_36 : decode cX2_endRound 36 = .ok (.aload_n 0, 1) := by decide +kernel
theorem dX2_endRound_37 : decode cX2_endRound 37 = .ok (.getfield 12, 3) := by decide +kernel
theorem dX2_endRound_40 : decode cX2_endRound 40 = .ok (.getfield 101, 3) := by decide +kernel
theorem dX2_endRound_43 : decode cX2_endRound 43 = .ok (.putfield 66, 3) := by decide +kernel
theorem dX2_endRound_46 : decode cX2_endRound 46 = .ok (.aload_n 0, 1) := by decide +kernel
theorem dX2_endRound_47 : decode cX2_endRound 47 = .ok (.dup, 1) := by decide +kernel
theorem dX2_endRound_48 : decode cX2_endRound 48 = .ok (.getfield 38, 3) := by decide +kernel
theorem dX2_endRound_51 : decode cX2_endRound 51 = .ok (.iconst 1, 1) := by decide +kernel
theorem dX2_endRound_52 : decode cX2_endRound 52 = .ok (.iadd, 1) := by decide +kernel
theorem dX2_endRound_53 : decode cX2_endRound 53 = .ok (.putfield 38, 3) := by decide +kernel
theorem dX2_endRound_56 : decode cX2_endRound 56 = .ok (.aload_n 0, 1) := by decide +kernel
theorem dX2_endRound_57 : decode cX2_endRound 57 = .ok (.iconst 0, 1) := by decide +kernel
theorem dX2_endRound_58 : decode cX2_endRound 58 = .ok (.putfield 41, 3) := by decide +kernel
theorem dX2_endRound_61 : decode cX2_endRound 61 = .ok (.return_, 1) := by decide +kernel
theorem dX2_leave_0 : decode cX2_leave 0 = .ok (.aload_n 0, 1) := by decide +kernel
theorem dX2_leave_1 : decode cX2_leave 1 = .ok (.getfield 32, 3) := by decide +kernel
theorem dX2_leave_4 : decode cX2_leave 4 = .ok (.istore_n 3, 1) := by decide +kernel
theorem dX2_leave_5 : decode cX2_leave 5 = .ok (.aload_n 0, 1) := by decide +kernel
theorem dX2_leave_6 : decode cX2_leave 6 = .ok (.iload_n 1, 1) := by decide +kernel
theorem dX2_leave_7 : decode cX2_leave 7 = .ok (.putfield 29, 3) := by decide +kernel
theorem dX2_leave_10 : decode cX2_leave 10 = .ok (.aload_n 0, 1) := by decide +kernel
theorem dX2_leave_11 : decode cX2_leave 11 = .ok (.iload_n 2, 1) := by decide +kernel
theorem dX2_leave_12 : decode cX2_leave 12 = .ok (.putfield 50, 3) := by decide +kernel
theorem dX2_leave_15 : decode cX2_leave 15 = .ok (.aload_n 0, 1) := by decide +kernel
theorem dX2_leave_16 : decode cX2_leave 16 = .ok (.iconst 0, 1) := by decide +kernel
theorem dX2_leave_17 : decode cX2_leave 17 = .ok (.putfield 32, 3) := by decide +kernel
theorem dX2_leave_20 : decode cX2_leave 20 = .ok (.aload_n 0, 1) := by decide +kernel
theorem dX2_leave_21 : decode cX2_leave 21 = .ok (.iconst 0, 1) := by decide +kernel
theorem dX2_leave_22 : decode cX2_leave 22 = .ok (.putfield 35, 3) := by decide +kernel
theorem dX2_leave_25 : decode cX2_leave 25 = .ok (.aload_n 0, 1) := by decide +kernel
theorem dX2_leave_26 : decode cX2_leave 26 = .ok (.getfield 12, 3) := by decide +kernel
theorem dX2_leave_29 : decode cX2_leave 29 = .ok (.iconst 0, 1) := by decide +kernel
theorem dX2_leave_30 : decode cX2_leave 30 = .ok (.putfield 101, 3) := by decide +kernel
theorem dX2_leave_33 : decode cX2_leave 33 = .ok (.iload_n 3, 1) := by decide +kernel
theorem dX2_leave_34 : decode cX2_leave 34 = .ok (.ireturn, 1) := by decide +kernel
theorem dX2_cellsOfStep_0 : decode cX2_cellsOfStep 0 = .ok (.aload_n 0, 1) := by decide +kernel
theorem dX2_cellsOfStep_1 : decode cX2_cellsOfStep 1 = .ok (.getfield 22, 3) := by decide +kernel
theorem dX2_cellsOfStep_4 : decode cX2_cellsOfStep 4 = .ok (.getfield 131, 3) := by decide +kernel
theorem dX2_cellsOfStep_7 : decode cX2_cellsOfStep 7 = .ok (.ifCond .eq 13, 3) := by decide +kernel
theorem dX2_cellsOfStep_10 : decode cX2_cellsOfStep 10 = .ok (.iload_n 1, 1) := by decide +kernel
theorem dX2_cellsOfStep_11 : decode cX2_cellsOfStep 11 = .ok (.iconst 2, 1) := by decide +kernel
theorem dX2_cellsOfStep_12 : decode cX2_cellsOfStep 12 = .ok (.idiv, 1) := by decide +kernel
theorem dX2_cellsOfStep_13 : decode cX2_cellsOfStep 13 = .ok (.iconst 1, 1) := by decide +kernel
theorem dX2_cellsOfStep_14 : decode cX2_cellsOfStep 14 = .ok (.invokestatic 107, 3) := by decide +kernel
theorem dX2_cellsOfStep_17 : decode cX2_cellsOfStep 17 = .ok (.goto 4, 3) := by decide +kernel
theorem dX2_cellsOfStep_20 : decode cX2_cellsOfStep 20 = .ok (.iload_n 1, 1) := by decide +kernel
theorem dX2_cellsOfStep_21 : decode cX2_cellsOfStep 21 = .ok (.ireturn, 1) := by decide +kernel
theorem dX2_gain_0 : decode cX2_gain 0 = .ok (.aload_n 0, 1) := by decide +kernel
theorem dX2_gain_1 : decode cX2_gain 1 = .ok (.invokevirtual 134, 3) := by decide +kernel
theorem dX2_gain_4 : decode cX2_gain 4 = .ok (.ifCond .eq 10, 3) := by decide +kernel
theorem dX2_gain_7 : decode cX2_gain 7 = .ok (.aload_n 0, 1) := by decide +kernel
theorem dX2_gain_8 : decode cX2_gain 8 = .ok (.getfield 56, 3) := by decide +kernel
theorem dX2_gain_11 : decode cX2_gain 11 = .ok (.ifCond .eq 5, 3) := by decide +kernel
theorem dX2_gain_14 : decode cX2_gain 14 = .ok (.lconst 0, 1) := by decide +kernel
theorem dX2_gain_15 : decode cX2_gain 15 = .ok (.lreturn, 1) := by decide +kernel
theorem dX2_gain_16 : decode cX2_gain 16 = .ok (.aload_n 0, 1) := by decide +kernel
theorem dX2_gain_17 : decode cX2_gain 17 = .ok (.aload_n 1, 1) := by decide +kernel
theorem dX2_gain_18 : decode cX2_gain 18 = .ok (.getfield 93, 3) := by decide +kernel
theorem dX2_gain_21 : decode cX2_gain 21 = .ok (.invokevirtual 137, 3) := by decide +kernel
theorem dX2_gain_24 : decode cX2_gain 24 = .ok (.istore_n 2, 1) := by decide +kernel
theorem dX2_gain_25 : decode cX2_gain 25 = .ok (.aload_n 0, 1) := by decide +kernel
theorem dX2_gain_26 : decode cX2_gain 26 = .ok (.getfield 22, 3) := by decide +kernel
theorem dX2_gain_29 : decode cX2_gain 29 = .ok (.aload_n 0, 1) := by decide +kernel
theorem dX2_gain_30 : decode cX2_gain 30 = .ok (.getfield 32, 3) := by decide +kernel
theorem dX2_gain_33 : decode cX2_gain 33 = .ok (.invokevirtual 89, 3) := by decide +kernel
theorem dX2_gain_36 : decode cX2_gain 36 = .ok (.aload_n 0, 1) := by decide +kernel
theorem dX2_gain_37 : decode cX2_gain 37 = .ok (.getfield 12, 3) := by decide +kernel
theorem dX2_gain_40 : decode cX2_gain 40 = .ok (.getfield 101, 3) := by decide +kernel
theorem dX2_gain_43 : decode cX2_gain 43 = .ok (.isub, 1) := by decide +kernel
theorem dX2_gain_44 : decode cX2_gain 44 = .ok (.iload_n 2, 1) := by decide +kernel
theorem dX2_gain_45 : decode cX2_gain 45 = .ok (.iadd, 1) := by decide +kernel
theorem dX2_gain_46 : decode cX2_gain 46 = .ok (.istore_n 3, 1) := by decide +kernel
theorem dX2_gain_47 : decode cX2_gain 47 = .ok (.iload_n 3, 1) := by decide +kernel
theorem dX2_gain_48 : decode cX2_gain 48 = .ok (.ifCond .le 17, 3) := by decide +kernel
theorem dX2_gain_51 : decode cX2_gain 51 = .ok (.aload_n 0, 1) := by decide +kernel
theorem dX2_gain_52 : decode cX2_gain 52 = .ok (.getfield 47, 3) := by decide +kernel
theorem dX2_gain_55 : decode cX2_gain 55 = .ok (.i2l, 1) := by decide +kernel
theorem dX2_gain_56 : decode cX2_gain 56 = .ok (.iload_n 2, 1) := by decide +kernel
theorem dX2_gain_57 : decode cX2_gain 57 = .ok (.i2l, 1) := by decide +kernel
theorem dX2_gain_58 : decode cX2_gain 58 = .ok (.lmul, 1) := by decide +kernel
theorem dX2_gain_59 : decode cX2_gain 59 = .ok (.iload_n 3, 1) := by decide +kernel
theorem dX2_gain_60 : decode cX2_gain 60 = .ok (.i2l, 1) := by decide +kernel
theorem dX2_gain_61 : decode cX2_gain 61 = .ok (.ldiv, 1) := by decide +kernel
theorem dX2_gain_62 : decode cX2_gain 62 = .ok (.goto 4, 3) := by decide +kernel
theorem dX2_gain_65 : decode cX2_gain 65 = .ok (.lconst 0, 1) := by decide +kernel
theorem dX2_gain_66 : decode cX2_gain 66 = .ok (.lreturn, 1) := by decide +kernel
theorem dX2_loss_0 : decode cX2_loss 0 = .ok (.aload_n 0, 1) := by decide +kernel
theorem dX2_loss_1 : decode cX2_loss 1 = .ok (.invokevirtual 134, 3) := by decide +kernel
theorem dX2_loss_4 : decode cX2_loss 4 = .ok (.ifCond .eq 20, 3) := by decide +kernel
theorem dX2_loss_7 : decode cX2_loss 7 = .ok (.aload_n 0, 1) := by decide +kernel
theorem dX2_loss_8 : decode cX2_loss 8 = .ok (.getfield 32, 3) := by decide +kernel
theorem dX2_loss_11 : decode cX2_loss 11 = .ok (.aload_n 0, 1) := by decide +kernel
theorem dX2_loss_12 : decode cX2_loss 12 = .ok (.aload_n 1, 1) := by decide +kernel
theorem dX2_loss_13 : decode cX2_loss 13 = .ok (.invokevirtual 120, 3) := by decide +kernel
theorem dX2_loss_16 : decode cX2_loss 16 = .ok (.isub, 1) := by decide +kernel
theorem dX2_loss_17 : decode cX2_loss 17 = .ok (.aload_n 1, 1) := by decide +kernel
theorem dX2_loss_18 : decode cX2_loss 18 = .ok (.getfield 93, 3) := by decide +kernel
theorem dX2_loss_21 : decode cX2_loss 21 = .ok (.if_icmp .ge 7, 3) := by decide +kernel
theorem dX2_loss_24 : decode cX2_loss 24 = .ok (.ldc2_w 140, 3) := by decide +kernel
theorem dX2_loss_27 : decode cX2_loss 27 = .ok (.lreturn, 1) := by decide +kernel
theorem dX2_loss_28 : decode cX2_loss 28 = .ok (.aload_n 0, 1) := by decide +kernel
theorem dX2_loss_29 : decode cX2_loss 29 = .ok (.aload_n 1, 1) := by decide +kernel
theorem dX2_loss_30 : decode cX2_loss 30 = .ok (.getfield 93, 3) := by decide +kernel
theorem dX2_loss_33 : decode cX2_loss 33 = .ok (.invokevirtual 137, 3) := by decide +kernel
theorem dX2_loss_36 : decode cX2_loss 36 = .ok (.istore_n 2, 1) := by decide +kernel
theorem dX2_loss_37 : decode cX2_loss 37 = .ok (.aload_n 0, 1) := by decide +kernel
theorem dX2_loss_38 : decode cX2_loss 38 = .ok (.getfield 22, 3) := by decide +kernel
theorem dX2_loss_41 : decode cX2_loss 41 = .ok (.aload_n 0, 1) := by decide +kernel
theorem dX2_loss_42 : decode cX2_loss 42 = .ok (.getfield 32, 3) := by decide +kernel
theorem dX2_loss_45 : decode cX2_loss 45 = .ok (.invokevirtual 89, 3) := by decide +kernel
theorem dX2_loss_48 : decode cX2_loss 48 = .ok (.aload_n 0, 1) := by decide +kernel
theorem dX2_loss_49 : decode cX2_loss 49 = .ok (.getfield 12, 3) := by decide +kernel
theorem dX2_loss_52 : decode cX2_loss 52 = .ok (.getfield 101, 3) := by decide +kernel
theorem dX2_loss_55 : decode cX2_loss 55 = .ok (.isub, 1) := by decide +kernel
theorem dX2_loss_56 : decode cX2_loss 56 = .ok (.iload_n 2, 1) := by decide +kernel
theorem dX2_loss_57 : decode cX2_loss 57 = .ok (.isub, 1) := by decide +kernel
theorem dX2_loss_58 : decode cX2_loss 58 = .ok (.istore_n 3, 1) := by decide +kernel
theorem dX2_loss_59 : decode cX2_loss 59 = .ok (.iload_n 3, 1) := by decide +kernel
theorem dX2_loss_60 : decode cX2_loss 60 = .ok (.ifCond .le 17, 3) := by decide +kernel
theorem dX2_loss_63 : decode cX2_loss 63 = .ok (.aload_n 0, 1) := by decide +kernel
theorem dX2_loss_64 : decode cX2_loss 64 = .ok (.getfield 47, 3) := by decide +kernel
theorem dX2_loss_67 : decode cX2_loss 67 = .ok (.i2l, 1) := by decide +kernel
theorem dX2_loss_68 : decode cX2_loss 68 = .ok (.iload_n 2, 1) := by decide +kernel
theorem dX2_loss_69 : decode cX2_loss 69 = .ok (.i2l, 1) := by decide +kernel
theorem dX2_loss_70 : decode cX2_loss 70 = .ok (.lmul, 1) := by decide +kernel
theorem dX2_loss_71 : decode cX2_loss 71 = .ok (.iload_n 3, 1) := by decide +kernel
theorem dX2_loss_72 : decode cX2_loss 72 = .ok (.i2l, 1) := by decide +kernel
theorem dX2_loss_73 : decode cX2_loss 73 = .ok (.ldiv, 1) := by decide +kernel
theorem dX2_loss_74 : decode cX2_loss 74 = .ok (.goto 6, 3) := by decide +kernel
theorem dX2_loss_77 : decode cX2_loss 77 = .ok (.ldc2_w 140, 3) := by decide +kernel
theorem dX2_loss_80 : decode cX2_loss 80 = .ok (.lreturn, 1) := by decide +kernel
theorem dX2_told_0 : decode cX2_told 0 = .ok (.iload_n 1, 1) := by decide +kernel
theorem dX2_told_1 : decode cX2_told 1 = .ok (.tableswitch 167 0 12 #[67, 72, 77, 82, 90, 95, 113, 121, 126, 131, 136, 149, 162], 67) := by decide +kernel
theorem dX2_told_68 : decode cX2_told 68 = .ok (.aload_n 0, 1) := by decide +kernel
theorem dX2_told_69 : decode cX2_told 69 = .ok (.getfield 29, 3) := by decide +kernel
theorem dX2_told_72 : decode cX2_told 72 = .ok (.ireturn, 1) := by decide +kernel
theorem dX2_told_73 : decode cX2_told 73 = .ok (.aload_n 0, 1) := by decide +kernel
theorem dX2_told_74 : decode cX2_told 74 = .ok (.getfield 32, 3) := by decide +kernel
theorem dX2_told_77 : decode cX2_told 77 = .ok (.ireturn, 1) := by decide +kernel
theorem dX2_told_78 : decode cX2_told 78 = .ok (.aload_n 0, 1) := by decide +kernel
theorem dX2_told_79 : decode cX2_told 79 = .ok (.getfield 35, 3) := by decide +kernel
theorem dX2_told_82 : decode cX2_told 82 = .ok (.ireturn, 1) := by decide +kernel
theorem dX2_told_83 : decode cX2_told 83 = .ok (.aload_n 0, 1) := by decide +kernel
theorem dX2_told_84 : decode cX2_told 84 = .ok (.getfield 12, 3) := by decide +kernel
theorem dX2_told_87 : decode cX2_told 87 = .ok (.getfield 101, 3) := by decide +kernel
theorem dX2_told_90 : decode cX2_told 90 = .ok (.ireturn, 1) := by decide +kernel
theorem dX2_told_91 : decode cX2_told 91 = .ok (.aload_n 0, 1) := by decide +kernel
theorem dX2_told_92 : decode cX2_told 92 = .ok (.getfield 38, 3) := by decide +kernel
theorem dX2_told_95 : decode cX2_told 95 = .ok (.ireturn, 1) := by decide +kernel
theorem dX2_told_96 : decode cX2_told 96 = .ok (.aload_n 0, 1) := by decide +kernel
theorem dX2_told_97 : decode cX2_told 97 = .ok (.getfield 29, 3) := by decide +kernel
theorem dX2_told_100 : decode cX2_told 100 = .ok (.iconst 3, 1) := by decide +kernel
theorem dX2_told_101 : decode cX2_told 101 = .ok (.if_icmp .ne 8, 3) := by decide +kernel
theorem dX2_told_104 : decode cX2_told 104 = .ok (.bipush (-2), 2) := by decide +kernel
theorem dX2_told_106 : decode cX2_told 106 = .ok (.goto 7, 3) := by decide +kernel
theorem dX2_told_109 : decode cX2_told 109 = .ok (.aload_n 0, 1) := by decide +kernel
theorem dX2_told_110 : decode cX2_told 110 = .ok (.getfield 41, 3) := by decide +kernel
theorem dX2_told_113 : decode cX2_told 113 = .ok (.ireturn, 1) := by decide +kernel
theorem dX2_told_114 : decode cX2_told 114 = .ok (.aload_n 0, 1) := by decide +kernel
theorem dX2_told_115 : decode cX2_told 115 = .ok (.getfield 12, 3) := by decide +kernel
theorem dX2_told_118 : decode cX2_told 118 = .ok (.getfield 142, 3) := by decide +kernel
theorem dX2_told_121 : decode cX2_told 121 = .ok (.ireturn, 1) := by decide +kernel
theorem dX2_told_122 : decode cX2_told 122 = .ok (.aload_n 0, 1) := by decide +kernel
theorem dX2_told_123 : decode cX2_told 123 = .ok (.getfield 44, 3) := by decide +kernel
theorem dX2_told_126 : decode cX2_told 126 = .ok (.ireturn, 1) := by decide +kernel
theorem dX2_told_127 : decode cX2_told 127 = .ok (.aload_n 0, 1) := by decide +kernel
theorem dX2_told_128 : decode cX2_told 128 = .ok (.getfield 47, 3) := by decide +kernel
theorem dX2_told_131 : decode cX2_told 131 = .ok (.ireturn, 1) := by decide +kernel
theorem dX2_told_132 : decode cX2_told 132 = .ok (.aload_n 0, 1) := by decide +kernel
theorem dX2_told_133 : decode cX2_told 133 = .ok (.getfield 50, 3) := by decide +kernel
theorem dX2_told_136 : decode cX2_told 136 = .ok (.ireturn, 1) := by decide +kernel
theorem dX2_told_137 : decode cX2_told 137 = .ok (.aload_n 0, 1) := by decide +kernel
theorem dX2_told_138 : decode cX2_told 138 = .ok (.getfield 56, 3) := by decide +kernel
theorem dX2_told_141 : decode cX2_told 141 = .ok (.ifCond .eq 7, 3) := by decide +kernel
theorem dX2_told_144 : decode cX2_told 144 = .ok (.iconst 1, 1) := by decide +kernel
theorem dX2_told_145 : decode cX2_told 145 = .ok (.goto 4, 3) := by decide +kernel
theorem dX2_told_148 : decode cX2_told 148 = .ok (.iconst 0, 1) := by decide +kernel
theorem dX2_told_149 : decode cX2_told 149 = .ok (.ireturn, 1) := by decide +kernel
theorem dX2_told_150 : decode cX2_told 150 = .ok (.aload_n 0, 1) := by decide +kernel
theorem dX2_told_151 : decode cX2_told 151 = .ok (.getfield 60, 3) := by decide +kernel
theorem dX2_told_154 : decode cX2_told 154 = .ok (.ifCond .eq 7, 3) := by decide +kernel
theorem dX2_told_157 : decode cX2_told 157 = .ok (.iconst 1, 1) := by decide +kernel
theorem dX2_told_158 : decode cX2_told 158 = .ok (.goto 4, 3) := by decide +kernel
theorem dX2_told_161 : decode cX2_told 161 = .ok (.iconst 0, 1) := by decide +kernel
theorem dX2_told_162 : decode cX2_told 162 = .ok (.ireturn, 1) := by decide +kernel
theorem dX2_told_163 : decode cX2_told 163 = .ok (.aload_n 0, 1) := by decide +kernel
theorem dX2_told_164 : decode cX2_told 164 = .ok (.getfield 53, 3) := by decide +kernel
theorem dX2_told_167 : decode cX2_told 167 = .ok (.ireturn, 1) := by decide +kernel
theorem dX2_told_168 : decode cX2_told 168 = .ok (.bipush (-2), 2) := by decide +kernel
theorem dX2_told_170 : decode cX2_told 170 = .ok (.ireturn, 1) := by decide +kernel
end
section
theorem dX3_init_0 : decode cX3_init 0 = .ok (.aload_n 0, 1) := by decide +kernel
theorem dX3_init_1 : decode cX3_init 1 = .ok (.invokespecial 3, 3) := by decide +kernel
theorem dX3_init_4 : decode cX3_init 4 = .ok (.aload_n 0, 1) := by decide +kernel
theorem dX3_init_5 : decode cX3_init 5 = .ok (.bipush 60, 2) := by decide +kernel
theorem dX3_init_7 : decode cX3_init 7 = .ok (.newarray .long, 2) := by decide +kernel
theorem dX3_init_9 : decode cX3_init 9 = .ok (.putfield 9, 3) := by decide +kernel
theorem dX3_init_12 : decode cX3_init 12 = .ok (.aload_n 0, 1) := by decide +kernel
theorem dX3_init_13 : decode cX3_init 13 = .ok (.iconst (-1), 1) := by decide +kernel
theorem dX3_init_14 : decode cX3_init 14 = .ok (.putfield 15, 3) := by decide +kernel
theorem dX3_init_17 : decode cX3_init 17 = .ok (.aload_n 0, 1) := by decide +kernel
theorem dX3_init_18 : decode cX3_init 18 = .ok (.iconst 0, 1) := by decide +kernel
theorem dX3_init_19 : decode cX3_init 19 = .ok (.putfield 19, 3) := by decide +kernel
theorem dX3_init_22 : decode cX3_init 22 = .ok (.return_, 1) := by decide +kernel
theorem dX3_isBare_0 : decode cX3_isBare 0 = .ok (.aload_n 0, 1) := by decide +kernel
theorem dX3_isBare_1 : decode cX3_isBare 1 = .ok (.getfield 15, 3) := by decide +kernel
theorem dX3_isBare_4 : decode cX3_isBare 4 = .ok (.iconst (-1), 1) := by decide +kernel
theorem dX3_isBare_5 : decode cX3_isBare 5 = .ok (.if_icmp .ne 7, 3) := by decide +kernel
theorem dX3_isBare_8 : decode cX3_isBare 8 = .ok (.iconst 1, 1) := by decide +kernel
theorem dX3_isBare_9 : decode cX3_isBare 9 = .ok (.goto 4, 3) := by decide +kernel
theorem dX3_isBare_12 : decode cX3_isBare 12 = .ok (.iconst 0, 1) := by decide +kernel
theorem dX3_isBare_13 : decode cX3_isBare 13 = .ok (.ireturn, 1) := by decide +kernel
theorem dX3_lay_0 : decode cX3_lay 0 = .ok (.aload_n 0, 1) := by decide +kernel
theorem dX3_lay_1 : decode cX3_lay 1 = .ok (.iload_n 1, 1) := by decide +kernel
theorem dX3_lay_2 : decode cX3_lay 2 = .ok (.putfield 15, 3) := by decide +kernel
theorem dX3_lay_5 : decode cX3_lay 5 = .ok (.aload_n 0, 1) := by decide +kernel
theorem dX3_lay_6 : decode cX3_lay 6 = .ok (.iload_n 2, 1) := by decide +kernel
theorem dX3_lay_7 : decode cX3_lay 7 = .ok (.putfield 19, 3) := by decide +kernel
theorem dX3_lay_10 : decode cX3_lay 10 = .ok (.iconst 0, 1) := by decide +kernel
theorem dX3_lay_11 : decode cX3_lay 11 = .ok (.istore_n 3, 1) := by decide +kernel
theorem dX3_lay_12 : decode cX3_lay 12 = .ok (.iload_n 3, 1) := by decide +kernel
theorem dX3_lay_13 : decode cX3_lay 13 = .ok (.bipush 60, 2) := by decide +kernel
theorem dX3_lay_15 : decode cX3_lay 15 = .ok (.if_icmp .ge 16, 3) := by decide +kernel
theorem dX3_lay_18 : decode cX3_lay 18 = .ok (.aload_n 0, 1) := by decide +kernel
theorem dX3_lay_19 : decode cX3_lay 19 = .ok (.getfield 9, 3) := by decide +kernel
theorem dX3_lay_22 : decode cX3_lay 22 = .ok (.iload_n 3, 1) := by decide +kernel
theorem dX3_lay_23 : decode cX3_lay 23 = .ok (.lconst 0, 1) := by decide +kernel
theorem dX3_lay_24 : decode cX3_lay 24 = .ok (.lastore, 1) := by decide +kernel
theorem dX3_lay_25 : decode cX3_lay 25 = .ok (.iinc 3 1, 3) := by decide +kernel
theorem dX3_lay_28 : decode cX3_lay 28 = .ok (.goto (-16), 3) := by decide +kernel
theorem dX3_lay_31 : decode cX3_lay 31 = .ok (.return_, 1) := by decide +kernel
theorem dX3_strip_0 : decode cX3_strip 0 = .ok (.aload_n 0, 1) := by decide +kernel
theorem dX3_strip_1 : decode cX3_strip 1 = .ok (.iconst (-1), 1) := by decide +kernel
theorem dX3_strip_2 : decode cX3_strip 2 = .ok (.putfield 15, 3) := by decide +kernel
theorem dX3_strip_5 : decode cX3_strip 5 = .ok (.aload_n 0, 1) := by decide +kernel
theorem dX3_strip_6 : decode cX3_strip 6 = .ok (.iconst 0, 1) := by decide +kernel
theorem dX3_strip_7 : decode cX3_strip 7 = .ok (.putfield 19, 3) := by decide +kernel
theorem dX3_strip_10 : decode cX3_strip 10 = .ok (.return_, 1) := by decide +kernel
theorem dX3_cut_0 : decode cX3_cut 0 = .ok (.aload_n 0, 1) := by decide +kernel
theorem dX3_cut_1 : decode cX3_cut 1 = .ok (.getfield 15, 3) := by decide +kernel
theorem dX3_cut_4 : decode cX3_cut 4 = .ok (.tableswitch 42 0 2 #[28, 33, 38], 28) := by decide +kernel
theorem dX3_cut_32 : decode cX3_cut 32 = .ok (.lload_n 1, 1) := by decide +kernel
theorem dX3_cut_33 : decode cX3_cut 33 = .ok (.l2i, 1) := by decide +kernel
theorem dX3_cut_34 : decode cX3_cut 34 = .ok (.i2b, 1) := by decide +kernel
theorem dX3_cut_35 : decode cX3_cut 35 = .ok (.i2l, 1) := by decide +kernel
theorem dX3_cut_36 : decode cX3_cut 36 = .ok (.lreturn, 1) := by decide +kernel
theorem dX3_cut_37 : decode cX3_cut 37 = .ok (.lload_n 1, 1) := by decide +kernel
theorem dX3_cut_38 : decode cX3_cut 38 = .ok (.l2i, 1) := by decide +kernel
theorem dX3_cut_39 : decode cX3_cut 39 = .ok (.i2s, 1) := by decide +kernel
theorem dX3_cut_40 : decode cX3_cut 40 = .ok (.i2l, 1) := by decide +kernel
theorem dX3_cut_41 : decode cX3_cut 41 = .ok (.lreturn, 1) := by decide +kernel
theorem dX3_cut_42 : decode cX3_cut 42 = .ok (.lload_n 1, 1) := by decide +kernel
theorem dX3_cut_43 : decode cX3_cut 43 = .ok (.l2i, 1) := by decide +kernel
theorem dX3_cut_44 : decode cX3_cut 44 = .ok (.i2l, 1) := by decide +kernel
theorem dX3_cut_45 : decode cX3_cut 45 = .ok (.lreturn, 1) := by decide +kernel
theorem dX3_cut_46 : decode cX3_cut 46 = .ok (.lload_n 1, 1) := by decide +kernel
theorem dX3_cut_47 : decode cX3_cut 47 = .ok (.lreturn, 1) := by decide +kernel
theorem dX3_hasPlaces_0 : decode cX3_hasPlaces 0 = .ok (.iload_n 1, 1) := by decide +kernel
theorem dX3_hasPlaces_1 : decode cX3_hasPlaces 1 = .ok (.ifCond .lt 29, 3) := by decide +kernel
theorem dX3_hasPlaces_4 : decode cX3_hasPlaces 4 = .ok (.iload_n 2, 1) := by decide +kernel
theorem dX3_hasPlaces_5 : decode cX3_hasPlaces 5 = .ok (.ifCond .lt 25, 3) := by decide +kernel
theorem dX3_hasPlaces_8 : decode cX3_hasPlaces 8 = .ok (.iload_n 1, 1) := by decide +kernel
theorem dX3_hasPlaces_9 : decode cX3_hasPlaces 9 = .ok (.aload_n 0, 1) := by decide +kernel
theorem dX3_hasPlaces_10 : decode cX3_hasPlaces 10 = .ok (.getfield 19, 3) := by decide +kernel
theorem dX3_hasPlaces_13 : decode cX3_hasPlaces 13 = .ok (.if_icmp .gt 17, 3) := by decide +kernel
theorem dX3_hasPlaces_16 : decode cX3_hasPlaces 16 = .ok (.iload_n 2, 1) := by decide +kernel
theorem dX3_hasPlaces_17 : decode cX3_hasPlaces 17 = .ok (.aload_n 0, 1) := by decide +kernel
theorem dX3_hasPlaces_18 : decode cX3_hasPlaces 18 = .ok (.getfield 19, 3) := by decide +kernel
theorem dX3_hasPlaces_21 : decode cX3_hasPlaces 21 = .ok (.iload_n 1, 1) := by decide +kernel
theorem dX3_hasPlaces_22 : decode cX3_hasPlaces 22 = .ok (.isub, 1) := by decide +kernel
theorem dX3_hasPlaces_23 : decode cX3_hasPlaces 23 = .ok (.if_icmp .gt 7, 3) := by decide +kernel
theorem dX3_hasPlaces_26 : decode cX3_hasPlaces 26 = .ok (.iconst 1, 1) := by decide +kernel
theorem dX3_hasPlaces_27 : decode cX3_hasPlaces 27 = .ok (.goto 4, 3) := by decide +kernel
theorem dX3_hasPlaces_30 : decode cX3_hasPlaces 30 = .ok (.iconst 0, 1) := by decide +kernel
theorem dX3_hasPlaces_31 : decode cX3_hasPlaces 31 = .ok (.ireturn, 1) := by decide +kernel
theorem dX3_holdsActsAlone_0 : decode cX3_holdsActsAlone 0 = .ok (.iconst 0, 1) := by decide +kernel
theorem dX3_holdsActsAlone_1 : decode cX3_holdsActsAlone 1 = .ok (.istore_n 1, 1) := by decide +kernel
theorem dX3_holdsActsAlone_2 : decode cX3_holdsActsAlone 2 = .ok (.iload_n 1, 1) := by decide +kernel
theorem dX3_holdsActsAlone_3 : decode cX3_holdsActsAlone 3 = .ok (.aload_n 0, 1) := by decide +kernel
theorem dX3_holdsActsAlone_4 : decode cX3_holdsActsAlone 4 = .ok (.getfield 19, 3) := by decide +kernel
theorem dX3_holdsActsAlone_7 : decode cX3_holdsActsAlone 7 = .ok (.if_icmp .ge 23, 3) := by decide +kernel
theorem dX3_holdsActsAlone_10 : decode cX3_holdsActsAlone 10 = .ok (.aload_n 0, 1) := by decide +kernel
theorem dX3_holdsActsAlone_11 : decode cX3_holdsActsAlone 11 = .ok (.getfield 9, 3) := by decide +kernel
theorem dX3_holdsActsAlone_14 : decode cX3_holdsActsAlone 14 = .ok (.iload_n 1, 1) := by decide +kernel
theorem dX3_holdsActsAlone_15 : decode cX3_holdsActsAlone 15 = .ok (.laload, 1) := by decide +kernel
theorem dX3_holdsActsAlone_16 : decode cX3_holdsActsAlone 16 = .ok (.invokestatic 22, 3) := by decide +kernel
theorem dX3_holdsActsAlone_19 : decode cX3_holdsActsAlone 19 = .ok (.ifCond .ne 5, 3) := by decide +kernel
theorem dX3_holdsActsAlone_22 : decode cX3_holdsActsAlone 22 = .ok (.iconst 0, 1) := by decide +kernel
theorem dX3_holdsActsAlone_23 : decode cX3_holdsActsAlone 23 = .ok (.ireturn, 1) := by decide +kernel
theorem dX3_holdsActsAlone_24 : decode cX3_holdsActsAlone 24 = .ok (.iinc 1 1, 3) := by decide +kernel
theorem dX3_holdsActsAlone_27 : decode cX3_holdsActsAlone 27 = .ok (.goto (-25), 3) := by decide +kernel
theorem dX3_holdsActsAlone_30 : decode cX3_holdsActsAlone 30 = .ok (.iconst 1, 1) := by decide +kernel
theorem dX3_holdsActsAlone_31 : decode cX3_holdsActsAlone 31 = .ok (.ireturn, 1) := by decide +kernel
theorem dX3_isAct_0 : decode cX3_isAct 0 = .ok (.lload_n 0, 1) := by decide +kernel
theorem dX3_isAct_1 : decode cX3_isAct 1 = .ok (.ldc2_w 26, 3) := by decide +kernel
theorem dX3_isAct_4 : decode cX3_isAct 4 = .ok (.lcmp, 1) := by decide +kernel
theorem dX3_isAct_5 : decode cX3_isAct 5 = .ok (.ifCond .lt 11, 3) := by decide +kernel
theorem dX3_isAct_8 : decode cX3_isAct 8 = .ok (.lload_n 0, 1) := by decide +kernel
theorem dX3_isAct_9 : decode cX3_isAct 9 = .ok (.ldc2_w 28, 3) := by decide +kernel
theorem dX3_isAct_12 : decode cX3_isAct 12 = .ok (.lcmp, 1) := by decide +kernel
theorem dX3_isAct_13 : decode cX3_isAct 13 = .ok (.ifCond .le 19, 3) := by decide +kernel
theorem dX3_isAct_16 : decode cX3_isAct 16 = .ok (.lload_n 0, 1) := by decide +kernel
theorem dX3_isAct_17 : decode cX3_isAct 17 = .ok (.ldc2_w 30, 3) := by decide +kernel
theorem dX3_isAct_20 : decode cX3_isAct 20 = .ok (.lcmp, 1) := by decide +kernel
theorem dX3_isAct_21 : decode cX3_isAct 21 = .ok (.ifCond .le 15, 3) := by decide +kernel
theorem dX3_isAct_24 : decode cX3_isAct 24 = .ok (.lload_n 0, 1) := by decide +kernel
theorem dX3_isAct_25 : decode cX3_isAct 25 = .ok (.ldc2_w 32, 3) := by decide +kernel
theorem dX3_isAct_28 : decode cX3_isAct 28 = .ok (.lcmp, 1) := by decide +kernel
theorem dX3_isAct_29 : decode cX3_isAct 29 = .ok (.ifCond .gt 7, 3) := by decide +kernel
theorem dX3_isAct_32 : decode cX3_isAct 32 = .ok (.iconst 1, 1) := by decide +kernel
theorem dX3_isAct_33 : decode cX3_isAct 33 = .ok (.goto 4, 3) := by decide +kernel
theorem dX3_isAct_36 : decode cX3_isAct 36 = .ok (.iconst 0, 1) := by decide +kernel
theorem dX3_isAct_37 : decode cX3_isAct 37 = .ok (.ireturn, 1) := by decide +kernel
end
section
theorem dX4_init_0 : decode cX4_init 0 = .ok (.aload_n 0, 1) := by decide +kernel
theorem dX4_init_1 : decode cX4_init 1 = .ok (.invokespecial 3, 3) := by decide +kernel
theorem dX4_init_4 : decode cX4_init 4 = .ok (.aload_n 0, 1) := by decide +kernel
theorem dX4_init_5 : decode cX4_init 5 = .ok (.bipush 60, 2) := by decide +kernel
theorem dX4_init_7 : decode cX4_init 7 = .ok (.newarray .int, 2) := by decide +kernel
theorem dX4_init_9 : decode cX4_init 9 = .ok (.putfield 9, 3) := by decide +kernel
theorem dX4_init_12 : decode cX4_init 12 = .ok (.aload_n 0, 1) := by decide +kernel
theorem dX4_init_13 : decode cX4_init 13 = .ok (.bipush 60, 2) := by decide +kernel
theorem dX4_init_15 : decode cX4_init 15 = .ok (.newarray .int, 2) := by decide +kernel
theorem dX4_init_17 : decode cX4_init 17 = .ok (.putfield 15, 3) := by decide +kernel
theorem dX4_init_20 : decode cX4_init 20 = .ok (.aload_n 0, 1) := by decide +kernel
theorem dX4_init_21 : decode cX4_init 21 = .ok (.bipush 60, 2) := by decide +kernel
theorem dX4_init_23 : decode cX4_init 23 = .ok (.newarray .int, 2) := by decide +kernel
theorem dX4_init_25 : decode cX4_init 25 = .ok (.putfield 18, 3) := by decide +kernel
theorem dX4_init_28 : decode cX4_init 28 = .ok (.aload_n 0, 1) := by decide +kernel
theorem dX4_init_29 : decode cX4_init 29 = .ok (.bipush 60, 2) := by decide +kernel
theorem dX4_init_31 : decode cX4_init 31 = .ok (.newarray .int, 2) := by decide +kernel
theorem dX4_init_33 : decode cX4_init 33 = .ok (.putfield 21, 3) := by decide +kernel
theorem dX4_init_36 : decode cX4_init 36 = .ok (.aload_n 0, 1) := by decide +kernel
theorem dX4_init_37 : decode cX4_init 37 = .ok (.iconst 0, 1) := by decide +kernel
theorem dX4_init_38 : decode cX4_init 38 = .ok (.putfield 24, 3) := by decide +kernel
theorem dX4_init_41 : decode cX4_init 41 = .ok (.return_, 1) := by decide +kernel
theorem dX4_forget_0 : decode cX4_forget 0 = .ok (.aload_n 0, 1) := by decide +kernel
theorem dX4_forget_1 : decode cX4_forget 1 = .ok (.iconst 0, 1) := by decide +kernel
theorem dX4_forget_2 : decode cX4_forget 2 = .ok (.putfield 24, 3) := by decide +kernel
theorem dX4_forget_5 : decode cX4_forget 5 = .ok (.return_, 1) := by decide +kernel
theorem dX4_kept_0 : decode cX4_kept 0 = .ok (.aload_n 0, 1) := by decide +kernel
theorem dX4_kept_1 : decode cX4_kept 1 = .ok (.getfield 24, 3) := by decide +kernel
theorem dX4_kept_4 : decode cX4_kept 4 = .ok (.bipush 60, 2) := by decide +kernel
theorem dX4_kept_6 : decode cX4_kept 6 = .ok (.invokestatic 28, 3) := by decide +kernel
theorem dX4_kept_9 : decode cX4_kept 9 = .ok (.ireturn, 1) := by decide +kernel
theorem dX4_add_0 : decode cX4_add 0 = .ok (.aload_n 0, 1) := by decide +kernel
theorem dX4_add_1 : decode cX4_add 1 = .ok (.getfield 24, 3) := by decide +kernel
theorem dX4_add_4 : decode cX4_add 4 = .ok (.bipush 60, 2) := by decide +kernel
theorem dX4_add_6 : decode cX4_add 6 = .ok (.irem, 1) := by decide +kernel
theorem dX4_add_7 : decode cX4_add 7 = .ok (.istore 5, 2) := by decide +kernel
theorem dX4_add_9 : decode cX4_add 9 = .ok (.aload_n 0, 1) := by decide +kernel
theorem dX4_add_10 : decode cX4_add 10 = .ok (.getfield 9, 3) := by decide +kernel
theorem dX4_add_13 : decode cX4_add 13 = .ok (.iload 5, 2) := by decide +kernel
theorem dX4_add_15 : decode cX4_add 15 = .ok (.iload_n 1, 1) := by decide +kernel
theorem dX4_add_16 : decode cX4_add 16 = .ok (.iastore, 1) := by decide +kernel
theorem dX4_add_17 : decode cX4_add 17 = .ok (.aload_n 0, 1) := by decide +kernel
theorem dX4_add_18 : decode cX4_add 18 = .ok (.getfield 15, 3) := by decide +kernel
theorem dX4_add_21 : decode cX4_add 21 = .ok (.iload 5, 2) := by decide +kernel
theorem dX4_add_23 : decode cX4_add 23 = .ok (.iload_n 2, 1) := by decide +kernel
theorem dX4_add_24 : decode cX4_add 24 = .ok (.iastore, 1) := by decide +kernel
theorem dX4_add_25 : decode cX4_add 25 = .ok (.aload_n 0, 1) := by decide +kernel
theorem dX4_add_26 : decode cX4_add 26 = .ok (.getfield 18, 3) := by decide +kernel
theorem dX4_add_29 : decode cX4_add 29 = .ok (.iload 5, 2) := by decide +kernel
theorem dX4_add_31 : decode cX4_add 31 = .ok (.iload_n 3, 1) := by decide +kernel
theorem dX4_add_32 : decode cX4_add 32 = .ok (.iastore, 1) := by decide +kernel
theorem dX4_add_33 : decode cX4_add 33 = .ok (.aload_n 0, 1) := by decide +kernel
theorem dX4_add_34 : decode cX4_add 34 = .ok (.getfield 21, 3) := by decide +kernel
theorem dX4_add_37 : decode cX4_add 37 = .ok (.iload 5, 2) := by decide +kernel
theorem dX4_add_39 : decode cX4_add 39 = .ok (.iload 4, 2) := by decide +kernel
theorem dX4_add_41 : decode cX4_add 41 = .ok (.iastore, 1) := by decide +kernel
theorem dX4_add_42 : decode cX4_add 42 = .ok (.aload_n 0, 1) := by decide +kernel
theorem dX4_add_43 : decode cX4_add 43 = .ok (.dup, 1) := by decide +kernel
theorem dX4_add_44 : decode cX4_add 44 = .ok (.getfield 24, 3) := by decide +kernel
theorem dX4_add_47 : decode cX4_add 47 = .ok (.iconst 1, 1) := by decide +kernel
theorem dX4_add_48 : decode cX4_add 48 = .ok (.iadd, 1) := by decide +kernel
theorem dX4_add_49 : decode cX4_add 49 = .ok (.putfield 24, 3) := by decide +kernel
theorem dX4_add_52 : decode cX4_add 52 = .ok (.return_, 1) := by decide +kernel
theorem dX4_told_0 : decode cX4_told 0 = .ok (.iload_n 1, 1) := by decide +kernel
theorem dX4_told_1 : decode cX4_told 1 = .ok (.ifCond .lt 11, 3) := by decide +kernel
theorem dX4_told_4 : decode cX4_told 4 = .ok (.iload_n 1, 1) := by decide +kernel
theorem dX4_told_5 : decode cX4_told 5 = .ok (.aload_n 0, 1) := by decide +kernel
theorem dX4_told_6 : decode cX4_told 6 = .ok (.invokevirtual 34, 3) := by decide +kernel
theorem dX4_told_9 : decode cX4_told 9 = .ok (.if_icmp .lt 6, 3) := by decide +kernel
theorem dX4_told_12 : decode cX4_told 12 = .ok (.bipush (-2), 2) := by decide +kernel
theorem dX4_told_14 : decode cX4_told 14 = .ok (.ireturn, 1) := by decide +kernel
theorem dX4_told_15 : decode cX4_told 15 = .ok (.aload_n 0, 1) := by decide +kernel
theorem dX4_told_16 : decode cX4_told 16 = .ok (.getfield 24, 3) := by decide +kernel
theorem dX4_told_19 : decode cX4_told 19 = .ok (.aload_n 0, 1) := by decide +kernel
theorem dX4_told_20 : decode cX4_told 20 = .ok (.invokevirtual 34, 3) := by decide +kernel
theorem dX4_told_23 : decode cX4_told 23 = .ok (.isub, 1) := by decide +kernel
theorem dX4_told_24 : decode cX4_told 24 = .ok (.iload_n 1, 1) := by decide +kernel
theorem dX4_told_25 : decode cX4_told 25 = .ok (.iadd, 1) := by decide +kernel
theorem dX4_told_26 : decode cX4_told 26 = .ok (.bipush 60, 2) := by decide +kernel
theorem dX4_told_28 : decode cX4_told 28 = .ok (.irem, 1) := by decide +kernel
theorem dX4_told_29 : decode cX4_told 29 = .ok (.istore_n 3, 1) := by decide +kernel
theorem dX4_told_30 : decode cX4_told 30 = .ok (.iload_n 2, 1) := by decide +kernel
theorem dX4_told_31 : decode cX4_told 31 = .ok (.tableswitch 57 0 3 #[29, 36, 43, 50], 29) := by decide +kernel
theorem dX4_told_60 : decode cX4_told 60 = .ok (.aload_n 0, 1) := by decide +kernel
theorem dX4_told_61 : decode cX4_told 61 = .ok (.getfield 9, 3) := by decide +kernel
theorem dX4_told_64 : decode cX4_told 64 = .ok (.iload_n 3, 1) := by decide +kernel
theorem dX4_told_65 : decode cX4_told 65 = .ok (.iaload, 1) := by decide +kernel
theorem dX4_told_66 : decode cX4_told 66 = .ok (.ireturn, 1) := by decide +kernel
theorem dX4_told_67 : decode cX4_told 67 = .ok (.aload_n 0, 1) := by decide +kernel
theorem dX4_told_68 : decode cX4_told 68 = .ok (.getfield 15, 3) := by decide +kernel
theorem dX4_told_71 : decode cX4_told 71 = .ok (.iload_n 3, 1) := by decide +kernel
theorem dX4_told_72 : decode cX4_told 72 = .ok (.iaload, 1) := by decide +kernel
theorem dX4_told_73 : decode cX4_told 73 = .ok (.ireturn, 1) := by decide +kernel
theorem dX4_told_74 : decode cX4_told 74 = .ok (.aload_n 0, 1) := by decide +kernel
theorem dX4_told_75 : decode cX4_told 75 = .ok (.getfield 18, 3) := by decide +kernel
theorem dX4_told_78 : decode cX4_told 78 = .ok (.iload_n 3, 1) := by decide +kernel
theorem dX4_told_79 : decode cX4_told 79 = .ok (.iaload, 1) := by decide +kernel
theorem dX4_told_80 : decode cX4_told 80 = .ok (.ireturn, 1) := by decide +kernel
theorem dX4_told_81 : decode cX4_told 81 = .ok (.aload_n 0, 1) := by decide +kernel
theorem dX4_told_82 : decode cX4_told 82 = .ok (.getfield 21, 3) := by decide +kernel
theorem dX4_told_85 : decode cX4_told 85 = .ok (.iload_n 3, 1) := by decide +kernel
theorem dX4_told_86 : decode cX4_told 86 = .ok (.iaload, 1) := by decide +kernel
theorem dX4_told_87 : decode cX4_told 87 = .ok (.ireturn, 1) := by decide +kernel
theorem dX4_told_88 : decode cX4_told 88 = .ok (.bipush (-2), 2) := by decide +kernel
theorem dX4_told_90 : decode cX4_told 90 = .ok (.ireturn, 1) := by decide +kernel
end
section
theorem dX5_init_0 : decode cX5_init 0 = .ok (.aload_n 0, 1) := by decide +kernel
theorem dX5_init_1 : decode cX5_init 1 = .ok (.invokespecial 3, 3) := by decide +kernel
theorem dX5_init_4 : decode cX5_init 4 = .ok (.aload_n 0, 1) := by decide +kernel
theorem dX5_init_5 : decode cX5_init 5 = .ok (.bipush 8, 2) := by decide +kernel
theorem dX5_init_7 : decode cX5_init 7 = .ok (.putfield 9, 3) := by decide +kernel
theorem dX5_init_10 : decode cX5_init 10 = .ok (.aload_n 0, 1) := by decide +kernel
theorem dX5_init_11 : decode cX5_init 11 = .ok (.sipush 256, 3) := by decide +kernel
theorem dX5_init_14 : decode cX5_init 14 = .ok (.putfield 15, 3) := by decide +kernel
theorem dX5_init_17 : decode cX5_init 17 = .ok (.aload_n 0, 1) := by decide +kernel
theorem dX5_init_18 : decode cX5_init 18 = .ok (.iconst 0, 1) := by decide +kernel
theorem dX5_init_19 : decode cX5_init 19 = .ok (.putfield 18, 3) := by decide +kernel
theorem dX5_init_22 : decode cX5_init 22 = .ok (.aload_n 0, 1) := by decide +kernel
theorem dX5_init_23 : decode cX5_init 23 = .ok (.bipush 50, 2) := by decide +kernel
theorem dX5_init_25 : decode cX5_init 25 = .ok (.putfield 21, 3) := by decide +kernel
theorem dX5_init_28 : decode cX5_init 28 = .ok (.aload_n 0, 1) := by decide +kernel
theorem dX5_init_29 : decode cX5_init 29 = .ok (.iconst 2, 1) := by decide +kernel
theorem dX5_init_30 : decode cX5_init 30 = .ok (.putfield 24, 3) := by decide +kernel
theorem dX5_init_33 : decode cX5_init 33 = .ok (.return_, 1) := by decide +kernel
theorem dX5_areSound_0 : decode cX5_areSound 0 = .ok (.iload_n 0, 1) := by decide +kernel
theorem dX5_areSound_1 : decode cX5_areSound 1 = .ok (.iconst 1, 1) := by decide +kernel
theorem dX5_areSound_2 : decode cX5_areSound 2 = .ok (.if_icmp .lt 9, 3) := by decide +kernel
theorem dX5_areSound_5 : decode cX5_areSound 5 = .ok (.iload_n 0, 1) := by decide +kernel
theorem dX5_areSound_6 : decode cX5_areSound 6 = .ok (.bipush 64, 2) := by decide +kernel
theorem dX5_areSound_8 : decode cX5_areSound 8 = .ok (.if_icmp .le 5, 3) := by decide +kernel
theorem dX5_areSound_11 : decode cX5_areSound 11 = .ok (.iconst 0, 1) := by decide +kernel
theorem dX5_areSound_12 : decode cX5_areSound 12 = .ok (.ireturn, 1) := by decide +kernel
theorem dX5_areSound_13 : decode cX5_areSound 13 = .ok (.iload_n 1, 1) := by decide +kernel
theorem dX5_areSound_14 : decode cX5_areSound 14 = .ok (.iload_n 0, 1) := by decide +kernel
theorem dX5_areSound_15 : decode cX5_areSound 15 = .ok (.if_icmp .lt 43, 3) := by decide +kernel
theorem dX5_areSound_18 : decode cX5_areSound 18 = .ok (.iload_n 1, 1) := by decide +kernel
theorem dX5_areSound_19 : decode cX5_areSound 19 = .ok (.sipush 4096, 3) := by decide +kernel
theorem dX5_areSound_22 : decode cX5_areSound 22 = .ok (.if_icmp .gt 36, 3) := by decide +kernel
theorem dX5_areSound_25 : decode cX5_areSound 25 = .ok (.iload_n 1, 1) := by decide +kernel
theorem dX5_areSound_26 : decode cX5_areSound 26 = .ok (.iload_n 0, 1) := by decide +kernel
theorem dX5_areSound_27 : decode cX5_areSound 27 = .ok (.irem, 1) := by decide +kernel
theorem dX5_areSound_28 : decode cX5_areSound 28 = .ok (.ifCond .ne 30, 3) := by decide +kernel
theorem dX5_areSound_31 : decode cX5_areSound 31 = .ok (.iload_n 1, 1) := by decide +kernel
theorem dX5_areSound_32 : decode cX5_areSound 32 = .ok (.iload_n 0, 1) := by decide +kernel
theorem dX5_areSound_33 : decode cX5_areSound 33 = .ok (.idiv, 1) := by decide +kernel
theorem dX5_areSound_34 : decode cX5_areSound 34 = .ok (.bipush 64, 2) := by decide +kernel
theorem dX5_areSound_36 : decode cX5_areSound 36 = .ok (.if_icmp .gt 22, 3) := by decide +kernel
theorem dX5_areSound_39 : decode cX5_areSound 39 = .ok (.iload_n 2, 1) := by decide +kernel
theorem dX5_areSound_40 : decode cX5_areSound 40 = .ok (.ifCond .lt 18, 3) := by decide +kernel
theorem dX5_areSound_43 : decode cX5_areSound 43 = .ok (.iload_n 2, 1) := by decide +kernel
theorem dX5_areSound_44 : decode cX5_areSound 44 = .ok (.iload_n 1, 1) := by decide +kernel
theorem dX5_areSound_45 : decode cX5_areSound 45 = .ok (.if_icmp .gt 13, 3) := by decide +kernel
theorem dX5_areSound_48 : decode cX5_areSound 48 = .ok (.iload_n 2, 1) := by decide +kernel
theorem dX5_areSound_49 : decode cX5_areSound 49 = .ok (.iload_n 0, 1) := by decide +kernel
theorem dX5_areSound_50 : decode cX5_areSound 50 = .ok (.irem, 1) := by decide +kernel
theorem dX5_areSound_51 : decode cX5_areSound 51 = .ok (.ifCond .ne 7, 3) := by decide +kernel
theorem dX5_areSound_54 : decode cX5_areSound 54 = .ok (.iconst 1, 1) := by decide +kernel
theorem dX5_areSound_55 : decode cX5_areSound 55 = .ok (.goto 4, 3) := by decide +kernel
theorem dX5_areSound_58 : decode cX5_areSound 58 = .ok (.iconst 0, 1) := by decide +kernel
theorem dX5_areSound_59 : decode cX5_areSound 59 = .ok (.ireturn, 1) := by decide +kernel
theorem dX5_allSteps_0 : decode cX5_allSteps 0 = .ok (.aload_n 0, 1) := by decide +kernel
theorem dX5_allSteps_1 : decode cX5_allSteps 1 = .ok (.getfield 15, 3) := by decide +kernel
theorem dX5_allSteps_4 : decode cX5_allSteps 4 = .ok (.aload_n 0, 1) := by decide +kernel
theorem dX5_allSteps_5 : decode cX5_allSteps 5 = .ok (.getfield 9, 3) := by decide +kernel
theorem dX5_allSteps_8 : decode cX5_allSteps 8 = .ok (.idiv, 1) := by decide +kernel
theorem dX5_allSteps_9 : decode cX5_allSteps 9 = .ok (.ireturn, 1) := by decide +kernel
theorem dX5_dealtSteps_0 : decode cX5_dealtSteps 0 = .ok (.aload_n 0, 1) := by decide +kernel
theorem dX5_dealtSteps_1 : decode cX5_dealtSteps 1 = .ok (.getfield 15, 3) := by decide +kernel
theorem dX5_dealtSteps_4 : decode cX5_dealtSteps 4 = .ok (.aload_n 0, 1) := by decide +kernel
theorem dX5_dealtSteps_5 : decode cX5_dealtSteps 5 = .ok (.getfield 18, 3) := by decide +kernel
theorem dX5_dealtSteps_8 : decode cX5_dealtSteps 8 = .ok (.isub, 1) := by decide +kernel
theorem dX5_dealtSteps_9 : decode cX5_dealtSteps 9 = .ok (.aload_n 0, 1) := by decide +kernel
theorem dX5_dealtSteps_10 : decode cX5_dealtSteps 10 = .ok (.getfield 9, 3) := by decide +kernel
theorem dX5_dealtSteps_13 : decode cX5_dealtSteps 13 = .ok (.idiv, 1) := by decide +kernel
theorem dX5_dealtSteps_14 : decode cX5_dealtSteps 14 = .ok (.ireturn, 1) := by decide +kernel
theorem dX5_stepsFor_0 : decode cX5_stepsFor 0 = .ok (.iload_n 1, 1) := by decide +kernel
theorem dX5_stepsFor_1 : decode cX5_stepsFor 1 = .ok (.aload_n 0, 1) := by decide +kernel
theorem dX5_stepsFor_2 : decode cX5_stepsFor 2 = .ok (.getfield 9, 3) := by decide +kernel
theorem dX5_stepsFor_5 : decode cX5_stepsFor 5 = .ok (.iadd, 1) := by decide +kernel
theorem dX5_stepsFor_6 : decode cX5_stepsFor 6 = .ok (.iconst 1, 1) := by decide +kernel
theorem dX5_stepsFor_7 : decode cX5_stepsFor 7 = .ok (.isub, 1) := by decide +kernel
theorem dX5_stepsFor_8 : decode cX5_stepsFor 8 = .ok (.aload_n 0, 1) := by decide +kernel
theorem dX5_stepsFor_9 : decode cX5_stepsFor 9 = .ok (.getfield 9, 3) := by decide +kernel
theorem dX5_stepsFor_12 : decode cX5_stepsFor 12 = .ok (.idiv, 1) := by decide +kernel
theorem dX5_stepsFor_13 : decode cX5_stepsFor 13 = .ok (.ireturn, 1) := by decide +kernel
end
section
theorem dX6_init_0 : decode cX6_init 0 = .ok (.aload_n 0, 1) := by decide +kernel
theorem dX6_init_1 : decode cX6_init 1 = .ok (.invokespecial 3, 3) := by decide +kernel
theorem dX6_init_4 : decode cX6_init 4 = .ok (.aload_n 0, 1) := by decide +kernel
theorem dX6_init_5 : decode cX6_init 5 = .ok (.bipush 60, 2) := by decide +kernel
theorem dX6_init_7 : decode cX6_init 7 = .ok (.newarray .int, 2) := by decide +kernel
theorem dX6_init_9 : decode cX6_init 9 = .ok (.putfield 11, 3) := by decide +kernel
theorem dX6_init_12 : decode cX6_init 12 = .ok (.aload_n 0, 1) := by decide +kernel
theorem dX6_init_13 : decode cX6_init 13 = .ok (.iconst 0, 1) := by decide +kernel
theorem dX6_init_14 : decode cX6_init 14 = .ok (.putfield 15, 3) := by decide +kernel
theorem dX6_init_17 : decode cX6_init 17 = .ok (.aload_n 0, 1) := by decide +kernel
theorem dX6_init_18 : decode cX6_init 18 = .ok (.iconst 0, 1) := by decide +kernel
theorem dX6_init_19 : decode cX6_init 19 = .ok (.putfield 19, 3) := by decide +kernel
theorem dX6_init_22 : decode cX6_init 22 = .ok (.return_, 1) := by decide +kernel
theorem dX6_forget_0 : decode cX6_forget 0 = .ok (.aload_n 0, 1) := by decide +kernel
theorem dX6_forget_1 : decode cX6_forget 1 = .ok (.iconst 0, 1) := by decide +kernel
theorem dX6_forget_2 : decode cX6_forget 2 = .ok (.putfield 15, 3) := by decide +kernel
theorem dX6_forget_5 : decode cX6_forget 5 = .ok (.aload_n 0, 1) := by decide +kernel
theorem dX6_forget_6 : decode cX6_forget 6 = .ok (.iconst 0, 1) := by decide +kernel
theorem dX6_forget_7 : decode cX6_forget 7 = .ok (.putfield 19, 3) := by decide +kernel
theorem dX6_forget_10 : decode cX6_forget 10 = .ok (.return_, 1) := by decide +kernel
theorem dX6_add_0 : decode cX6_add 0 = .ok (.aload_n 0, 1) := by decide +kernel
theorem dX6_add_1 : decode cX6_add 1 = .ok (.getfield 11, 3) := by decide +kernel
theorem dX6_add_4 : decode cX6_add 4 = .ok (.aload_n 0, 1) := by decide +kernel
theorem dX6_add_5 : decode cX6_add 5 = .ok (.getfield 15, 3) := by decide +kernel
theorem dX6_add_8 : decode cX6_add 8 = .ok (.bipush 60, 2) := by decide +kernel
theorem dX6_add_10 : decode cX6_add 10 = .ok (.irem, 1) := by decide +kernel
theorem dX6_add_11 : decode cX6_add 11 = .ok (.iload_n 1, 1) := by decide +kernel
theorem dX6_add_12 : decode cX6_add 12 = .ok (.iastore, 1) := by decide +kernel
theorem dX6_add_13 : decode cX6_add 13 = .ok (.aload_n 0, 1) := by decide +kernel
theorem dX6_add_14 : decode cX6_add 14 = .ok (.dup, 1) := by decide +kernel
theorem dX6_add_15 : decode cX6_add 15 = .ok (.getfield 15, 3) := by decide +kernel
theorem dX6_add_18 : decode cX6_add 18 = .ok (.iconst 1, 1) := by decide +kernel
theorem dX6_add_19 : decode cX6_add 19 = .ok (.iadd, 1) := by decide +kernel
theorem dX6_add_20 : decode cX6_add 20 = .ok (.putfield 15, 3) := by decide +kernel
theorem dX6_add_23 : decode cX6_add 23 = .ok (.aload_n 0, 1) := by decide +kernel
theorem dX6_add_24 : decode cX6_add 24 = .ok (.dup, 1) := by decide +kernel
theorem dX6_add_25 : decode cX6_add 25 = .ok (.getfield 19, 3) := by decide +kernel
theorem dX6_add_28 : decode cX6_add 28 = .ok (.iload_n 1, 1) := by decide +kernel
theorem dX6_add_29 : decode cX6_add 29 = .ok (.iadd, 1) := by decide +kernel
theorem dX6_add_30 : decode cX6_add 30 = .ok (.putfield 19, 3) := by decide +kernel
theorem dX6_add_33 : decode cX6_add 33 = .ok (.return_, 1) := by decide +kernel
theorem dX6_die_0 : decode cX6_die 0 = .ok (.iload_n 1, 1) := by decide +kernel
theorem dX6_die_1 : decode cX6_die 1 = .ok (.iconst 1, 1) := by decide +kernel
theorem dX6_die_2 : decode cX6_die 2 = .ok (.if_icmp .lt 17, 3) := by decide +kernel
theorem dX6_die_5 : decode cX6_die 5 = .ok (.iload_n 1, 1) := by decide +kernel
theorem dX6_die_6 : decode cX6_die 6 = .ok (.bipush 59, 2) := by decide +kernel
theorem dX6_die_8 : decode cX6_die 8 = .ok (.if_icmp .gt 11, 3) := by decide +kernel
theorem dX6_die_11 : decode cX6_die 11 = .ok (.iload_n 1, 1) := by decide +kernel
theorem dX6_die_12 : decode cX6_die 12 = .ok (.aload_n 0, 1) := by decide +kernel
theorem dX6_die_13 : decode cX6_die 13 = .ok (.getfield 15, 3) := by decide +kernel
theorem dX6_die_16 : decode cX6_die 16 = .ok (.if_icmp .le 4, 3) := by decide +kernel
theorem dX6_die_19 : decode cX6_die 19 = .ok (.return_, 1) := by decide +kernel
theorem dX6_die_20 : decode cX6_die 20 = .ok (.aload_n 0, 1) := by decide +kernel
theorem dX6_die_21 : decode cX6_die 21 = .ok (.getfield 15, 3) := by decide +kernel
theorem dX6_die_24 : decode cX6_die 24 = .ok (.iload_n 1, 1) := by decide +kernel
theorem dX6_die_25 : decode cX6_die 25 = .ok (.isub, 1) := by decide +kernel
theorem dX6_die_26 : decode cX6_die 26 = .ok (.bipush 60, 2) := by decide +kernel
theorem dX6_die_28 : decode cX6_die 28 = .ok (.irem, 1) := by decide +kernel
theorem dX6_die_29 : decode cX6_die 29 = .ok (.istore_n 2, 1) := by decide +kernel
theorem dX6_die_30 : decode cX6_die 30 = .ok (.aload_n 0, 1) := by decide +kernel
theorem dX6_die_31 : decode cX6_die 31 = .ok (.dup, 1) := by decide +kernel
theorem dX6_die_32 : decode cX6_die 32 = .ok (.getfield 19, 3) := by decide +kernel
theorem dX6_die_35 : decode cX6_die 35 = .ok (.aload_n 0, 1) := by decide +kernel
theorem dX6_die_36 : decode cX6_die 36 = .ok (.getfield 11, 3) := by decide +kernel
theorem dX6_die_39 : decode cX6_die 39 = .ok (.iload_n 2, 1) := by decide +kernel
theorem dX6_die_40 : decode cX6_die 40 = .ok (.iaload, 1) := by decide +kernel
theorem dX6_die_41 : decode cX6_die 41 = .ok (.isub, 1) := by decide +kernel
theorem dX6_die_42 : decode cX6_die 42 = .ok (.putfield 19, 3) := by decide +kernel
theorem dX6_die_45 : decode cX6_die 45 = .ok (.aload_n 0, 1) := by decide +kernel
theorem dX6_die_46 : decode cX6_die 46 = .ok (.getfield 11, 3) := by decide +kernel
theorem dX6_die_49 : decode cX6_die 49 = .ok (.iload_n 2, 1) := by decide +kernel
theorem dX6_die_50 : decode cX6_die 50 = .ok (.iconst 0, 1) := by decide +kernel
theorem dX6_die_51 : decode cX6_die 51 = .ok (.iastore, 1) := by decide +kernel
theorem dX6_die_52 : decode cX6_die 52 = .ok (.return_, 1) := by decide +kernel
end
section
theorem dX7_init_0 : decode cX7_init 0 = .ok (.aload_n 0, 1) := by decide +kernel
theorem dX7_init_1 : decode cX7_init 1 = .ok (.invokespecial 3, 3) := by decide +kernel
theorem dX7_init_4 : decode cX7_init 4 = .ok (.aload_n 0, 1) := by decide +kernel
theorem dX7_init_5 : decode cX7_init 5 = .ok (.new 9, 3) := by decide +kernel
theorem dX7_init_8 : decode cX7_init 8 = .ok (.dup, 1) := by decide +kernel
theorem dX7_init_9 : decode cX7_init 9 = .ok (.invokespecial 11, 3) := by decide +kernel
theorem dX7_init_12 : decode cX7_init 12 = .ok (.putfield 12, 3) := by decide +kernel
theorem dX7_init_15 : decode cX7_init 15 = .ok (.aload_n 0, 1) := by decide +kernel
theorem dX7_init_16 : decode cX7_init 16 = .ok (.bipush 6, 2) := by decide +kernel
theorem dX7_init_18 : decode cX7_init 18 = .ok (.anewarray 18, 3) := by decide +kernel
theorem dX7_init_21 : decode cX7_init 21 = .ok (.putfield 20, 3) := by decide +kernel
theorem dX7_init_24 : decode cX7_init 24 = .ok (.aload_n 0, 1) := by decide +kernel
theorem dX7_init_25 : decode cX7_init 25 = .ok (.iconst 0, 1) := by decide +kernel
theorem dX7_init_26 : decode cX7_init 26 = .ok (.putfield 24, 3) := by decide +kernel
theorem dX7_init_29 : decode cX7_init 29 = .ok (.aload_n 0, 1) := by decide +kernel
theorem dX7_init_30 : decode cX7_init 30 = .ok (.iconst 0, 1) := by decide +kernel
theorem dX7_init_31 : decode cX7_init 31 = .ok (.putfield 28, 3) := by decide +kernel
theorem dX7_init_34 : decode cX7_init 34 = .ok (.aload_n 0, 1) := by decide +kernel
theorem dX7_init_35 : decode cX7_init 35 = .ok (.iconst 0, 1) := by decide +kernel
theorem dX7_init_36 : decode cX7_init 36 = .ok (.putfield 32, 3) := by decide +kernel
theorem dX7_init_39 : decode cX7_init 39 = .ok (.aload_n 0, 1) := by decide +kernel
theorem dX7_init_40 : decode cX7_init 40 = .ok (.iconst 0, 1) := by decide +kernel
theorem dX7_init_41 : decode cX7_init 41 = .ok (.putfield 35, 3) := by decide +kernel
theorem dX7_init_44 : decode cX7_init 44 = .ok (.aload_n 0, 1) := by decide +kernel
theorem dX7_init_45 : decode cX7_init 45 = .ok (.aload_n 1, 1) := by decide +kernel
theorem dX7_init_46 : decode cX7_init 46 = .ok (.putfield 38, 3) := by decide +kernel
theorem dX7_init_49 : decode cX7_init 49 = .ok (.iconst 0, 1) := by decide +kernel
theorem dX7_init_50 : decode cX7_init 50 = .ok (.istore_n 2, 1) := by decide +kernel
theorem dX7_init_51 : decode cX7_init 51 = .ok (.iload_n 2, 1) := by decide +kernel
theorem dX7_init_52 : decode cX7_init 52 = .ok (.bipush 6, 2) := by decide +kernel
theorem dX7_init_54 : decode cX7_init 54 = .ok (.if_icmp .ge 23, 3) := by decide +kernel
theorem dX7_init_57 : decode cX7_init 57 = .ok (.aload_n 0, 1) := by decide +kernel
theorem dX7_init_58 : decode cX7_init 58 = .ok (.getfield 20, 3) := by decide +kernel
theorem dX7_init_61 : decode cX7_init 61 = .ok (.iload_n 2, 1) := by decide +kernel
theorem dX7_init_62 : decode cX7_init 62 = .ok (.new 18, 3) := by decide +kernel
theorem dX7_init_65 : decode cX7_init 65 = .ok (.dup, 1) := by decide +kernel
theorem dX7_init_66 : decode cX7_init 66 = .ok (.iload_n 2, 1) := by decide +kernel
theorem dX7_init_67 : decode cX7_init 67 = .ok (.invokespecial 42, 3) := by decide +kernel
theorem dX7_init_70 : decode cX7_init 70 = .ok (.aastore, 1) := by decide +kernel
theorem dX7_init_71 : decode cX7_init 71 = .ok (.iinc 2 1, 3) := by decide +kernel
theorem dX7_init_74 : decode cX7_init 74 = .ok (.goto (-23), 3) := by decide +kernel
theorem dX7_init_77 : decode cX7_init 77 = .ok (.return_, 1) := by decide +kernel
theorem dX7_start_0 : decode cX7_start 0 = .ok (.aload_n 0, 1) := by decide +kernel
theorem dX7_start_1 : decode cX7_start 1 = .ok (.getfield 12, 3) := by decide +kernel
theorem dX7_start_4 : decode cX7_start 4 = .ok (.invokevirtual 45, 3) := by decide +kernel
theorem dX7_start_7 : decode cX7_start 7 = .ok (.aload_n 0, 1) := by decide +kernel
theorem dX7_start_8 : decode cX7_start 8 = .ok (.iconst 1, 1) := by decide +kernel
theorem dX7_start_9 : decode cX7_start 9 = .ok (.putfield 28, 3) := by decide +kernel
theorem dX7_start_12 : decode cX7_start 12 = .ok (.aload_n 0, 1) := by decide +kernel
theorem dX7_start_13 : decode cX7_start 13 = .ok (.iconst 0, 1) := by decide +kernel
theorem dX7_start_14 : decode cX7_start 14 = .ok (.putfield 32, 3) := by decide +kernel
theorem dX7_start_17 : decode cX7_start 17 = .ok (.aload_n 0, 1) := by decide +kernel
theorem dX7_start_18 : decode cX7_start 18 = .ok (.iload_n 2, 1) := by decide +kernel
theorem dX7_start_19 : decode cX7_start 19 = .ok (.putfield 24, 3) := by decide +kernel
theorem dX7_start_22 : decode cX7_start 22 = .ok (.aload_n 0, 1) := by decide +kernel
theorem dX7_start_23 : decode cX7_start 23 = .ok (.aload_n 0, 1) := by decide +kernel
theorem dX7_start_24 : decode cX7_start 24 = .ok (.getfield 38, 3) := by decide +kernel
theorem dX7_start_27 : decode cX7_start 27 = .ok (.getfield 48, 3) := by decide +kernel
theorem dX7_start_30 : decode cX7_start 30 = .ok (.putfield 35, 3) := by decide +kernel
theorem dX7_start_33 : decode cX7_start 33 = .ok (.iconst 0, 1) := by decide +kernel
theorem dX7_start_34 : decode cX7_start 34 = .ok (.istore 4, 2) := by decide +kernel
theorem dX7_start_36 : decode cX7_start 36 = .ok (.iload 4, 2) := by decide +kernel
theorem dX7_start_38 : decode cX7_start 38 = .ok (.aload_n 0, 1) := by decide +kernel
theorem dX7_start_39 : decode cX7_start 39 = .ok (.getfield 24, 3) := by decide +kernel
theorem dX7_start_42 : decode cX7_start 42 = .ok (.if_icmp .ge 50, 3) := by decide +kernel
theorem dX7_start_45 : decode cX7_start 45 = .ok (.aload_n 3, 1) := by decide +kernel
theorem dX7_start_46 : decode cX7_start 46 = .ok (.iload 4, 2) := by decide +kernel
theorem dX7_start_48 : decode cX7_start 48 = .ok (.iaload, 1) := by decide +kernel
theorem dX7_start_49 : decode cX7_start 49 = .ok (.aload_n 0, 1) := by decide +kernel
theorem dX7_start_50 : decode cX7_start 50 = .ok (.getfield 38, 3) := by decide +kernel
theorem dX7_start_53 : decode cX7_start 53 = .ok (.getfield 53, 3) := by decide +kernel
theorem dX7_start_56 : decode cX7_start 56 = .ok (.imul, 1) := by decide +kernel
theorem dX7_start_57 : decode cX7_start 57 = .ok (.istore 5, 2) := by decide +kernel
theorem dX7_start_59 : decode cX7_start 59 = .ok (.aload_n 0, 1) := by decide +kernel
theorem dX7_start_60 : decode cX7_start 60 = .ok (.getfield 20, 3) := by decide +kernel
theorem dX7_start_63 : decode cX7_start 63 = .ok (.iload 4, 2) := by decide +kernel
theorem dX7_start_65 : decode cX7_start 65 = .ok (.aaload, 1) := by decide +kernel
theorem dX7_start_66 : decode cX7_start 66 = .ok (.aload_n 1, 1) := by decide +kernel
theorem dX7_start_67 : decode cX7_start 67 = .ok (.iload 4, 2) := by decide +kernel
theorem dX7_start_69 : decode cX7_start 69 = .ok (.aaload, 1) := by decide +kernel
theorem dX7_start_70 : decode cX7_start 70 = .ok (.iload 5, 2) := by decide +kernel
theorem dX7_start_72 : decode cX7_start 72 = .ok (.invokevirtual 56, 3) := by decide +kernel
theorem dX7_start_75 : decode cX7_start 75 = .ok (.aload_n 0, 1) := by decide +kernel
theorem dX7_start_76 : decode cX7_start 76 = .ok (.dup, 1) := by decide +kernel
theorem dX7_start_77 : decode cX7_start 77 = .ok (.getfield 35, 3) := by decide +kernel
theorem dX7_start_80 : decode cX7_start 80 = .ok (.iload 5, 2) := by decide +kernel
theorem dX7_start_82 : decode cX7_start 82 = .ok (.isub, 1) := by decide +kernel
theorem dX7_start_83 : decode cX7_start 83 = .ok (.putfield 35, 3) := by decide +kernel
theorem dX7_start_86 : decode cX7_start 86 = .ok (.iinc 4 1, 3) := by decide +kernel
theorem dX7_start_89 : decode cX7_start 89 = .ok (.goto (-53), 3) := by decide +kernel
theorem dX7_start_92 : decode cX7_start 92 = .ok (.return_, 1) := by decide +kernel
theorem dX7_someGoOn_0 : decode cX7_someGoOn 0 = .ok (.iconst 0, 1) := by decide +kernel
theorem dX7_someGoOn_1 : decode cX7_someGoOn 1 = .ok (.istore_n 1, 1) := by decide +kernel
theorem dX7_someGoOn_2 : decode cX7_someGoOn 2 = .ok (.iload_n 1, 1) := by decide +kernel
theorem dX7_someGoOn_3 : decode cX7_someGoOn 3 = .ok (.aload_n 0, 1) := by decide +kernel
theorem dX7_someGoOn_4 : decode cX7_someGoOn 4 = .ok (.getfield 24, 3) := by decide +kernel
theorem dX7_someGoOn_7 : decode cX7_someGoOn 7 = .ok (.if_icmp .ge 23, 3) := by decide +kernel
theorem dX7_someGoOn_10 : decode cX7_someGoOn 10 = .ok (.aload_n 0, 1) := by decide +kernel
theorem dX7_someGoOn_11 : decode cX7_someGoOn 11 = .ok (.getfield 20, 3) := by decide +kernel
theorem dX7_someGoOn_14 : decode cX7_someGoOn 14 = .ok (.iload_n 1, 1) := by decide +kernel
theorem dX7_someGoOn_15 : decode cX7_someGoOn 15 = .ok (.aaload, 1) := by decide +kernel
theorem dX7_someGoOn_16 : decode cX7_someGoOn 16 = .ok (.invokevirtual 60, 3) := by decide +kernel
theorem dX7_someGoOn_19 : decode cX7_someGoOn 19 = .ok (.ifCond .eq 5, 3) := by decide +kernel
theorem dX7_someGoOn_22 : decode cX7_someGoOn 22 = .ok (.iconst 1, 1) := by decide +kernel
theorem dX7_someGoOn_23 : decode cX7_someGoOn 23 = .ok (.ireturn, 1) := by decide +kernel
theorem dX7_someGoOn_24 : decode cX7_someGoOn 24 = .ok (.iinc 1 1, 3) := by decide +kernel
theorem dX7_someGoOn_27 : decode cX7_someGoOn 27 = .ok (.goto (-25), 3) := by decide +kernel
theorem dX7_someGoOn_30 : decode cX7_someGoOn 30 = .ok (.iconst 0, 1) := by decide +kernel
theorem dX7_someGoOn_31 : decode cX7_someGoOn 31 = .ok (.ireturn, 1) := by decide +kernel
theorem dX7_tick_0 : decode cX7_tick 0 = .ok (.aload_n 0, 1) := by decide +kernel
theorem dX7_tick_1 : decode cX7_tick 1 = .ok (.dup, 1) := by decide +kernel
theorem dX7_tick_2 : decode cX7_tick 2 = .ok (.getfield 32, 3) := by decide +kernel
theorem dX7_tick_5 : decode cX7_tick 5 = .ok (.iconst 1, 1) := by decide +kernel
theorem dX7_tick_6 : decode cX7_tick 6 = .ok (.iadd, 1) := by decide +kernel
theorem dX7_tick_7 : decode cX7_tick 7 = .ok (.putfield 32, 3) := by decide +kernel
theorem dX7_tick_10 : decode cX7_tick 10 = .ok (.iconst 0, 1) := by decide +kernel
theorem dX7_tick_11 : decode cX7_tick 11 = .ok (.istore_n 1, 1) := by decide +kernel
theorem dX7_tick_12 : decode cX7_tick 12 = .ok (.iload_n 1, 1) := by decide +kernel
theorem dX7_tick_13 : decode cX7_tick 13 = .ok (.aload_n 0, 1) := by decide +kernel
theorem dX7_tick_14 : decode cX7_tick 14 = .ok (.getfield 24, 3) := by decide +kernel
theorem dX7_tick_17 : decode cX7_tick 17 = .ok (.if_icmp .ge 58, 3) := by decide +kernel
theorem dX7_tick_20 : decode cX7_tick 20 = .ok (.aload_n 0, 1) := by decide +kernel
theorem dX7_tick_21 : decode cX7_tick 21 = .ok (.getfield 20, 3) := by decide +kernel
theorem dX7_tick_24 : decode cX7_tick 24 = .ok (.iload_n 1, 1) := by decide +kernel
theorem dX7_tick_25 : decode cX7_tick 25 = .ok (.aaload, 1) := by decide +kernel
theorem dX7_tick_26 : decode cX7_tick 26 = .ok (.astore_n 2, 1) := by decide +kernel
theorem dX7_tick_27 : decode cX7_tick 27 = .ok (.aload_n 2, 1) := by decide +kernel
theorem dX7_tick_28 : decode cX7_tick 28 = .ok (.invokevirtual 64, 3) := by decide +kernel
theorem dX7_tick_31 : decode cX7_tick 31 = .ok (.ifCond .eq 11, 3) := by decide +kernel
theorem dX7_tick_34 : decode cX7_tick 34 = .ok (.aload_n 0, 1) := by decide +kernel
theorem dX7_tick_35 : decode cX7_tick 35 = .ok (.aload_n 2, 1) := by decide +kernel
theorem dX7_tick_36 : decode cX7_tick 36 = .ok (.invokevirtual 67, 3) := by decide +kernel
theorem dX7_tick_39 : decode cX7_tick 39 = .ok (.goto 30, 3) := by decide +kernel
theorem dX7_tick_42 : decode cX7_tick 42 = .ok (.aload_n 2, 1) := by decide +kernel
theorem dX7_tick_43 : decode cX7_tick 43 = .ok (.getfield 71, 3) := by decide +kernel
theorem dX7_tick_46 : decode cX7_tick 46 = .ok (.ifCond .ne 11, 3) := by decide +kernel
theorem dX7_tick_49 : decode cX7_tick 49 = .ok (.aload_n 0, 1) := by decide +kernel
theorem dX7_tick_50 : decode cX7_tick 50 = .ok (.aload_n 2, 1) := by decide +kernel
theorem dX7_tick_51 : decode cX7_tick 51 = .ok (.invokevirtual 74, 3) := by decide +kernel
theorem dX7_tick_54 : decode cX7_tick 54 = .ok (.goto 15, 3) := by decide +kernel
theorem dX7_tick_57 : decode cX7_tick 57 = .ok (.aload_n 2, 1) := by decide +kernel
theorem dX7_tick_58 : decode cX7_tick 58 = .ok (.invokevirtual 60, 3) := by decide +kernel
theorem dX7_tick_61 : decode cX7_tick 61 = .ok (.ifCond .eq 8, 3) := by decide +kernel
theorem dX7_tick_64 : decode cX7_tick 64 = .ok (.aload_n 0, 1) := by decide +kernel
theorem dX7_tick_65 : decode cX7_tick 65 = .ok (.aload_n 2, 1) := by decide +kernel
theorem dX7_tick_66 : decode cX7_tick 66 = .ok (.invokevirtual 77, 3) := by decide +kernel
theorem dX7_tick_69 : decode cX7_tick 69 = .ok (.iinc 1 1, 3) := by decide +kernel
theorem dX7_tick_72 : decode cX7_tick 72 = .ok (.goto (-60), 3) := by decide +kernel
theorem dX7_tick_75 : decode cX7_tick 75 = .ok (.aload_n 0, 1) := by decide +kernel
theorem dX7_tick_76 : decode cX7_tick 76 = .ok (.getfield 32, 3) := by decide +kernel
theorem dX7_tick_79 : decode cX7_tick 79 = .ok (.aload_n 0, 1) := by decide +kernel
theorem dX7_tick_80 : decode cX7_tick 80 = .ok (.getfield 38, 3) := by decide +kernel
theorem dX7_tick_83 : decode cX7_tick 83 = .ok (.getfield 80, 3) := by decide +kernel
theorem dX7_tick_86 : decode cX7_tick 86 = .ok (.irem, 1) := by decide +kernel
theorem dX7_tick_87 : decode cX7_tick 87 = .ok (.ifCond .ne 7, 3) := by decide +kernel
theorem dX7_tick_90 : decode cX7_tick 90 = .ok (.aload_n 0, 1) := by decide +kernel
theorem dX7_tick_91 : decode cX7_tick 91 = .ok (.invokevirtual 83, 3) := by decide +kernel
theorem dX7_tick_94 : decode cX7_tick 94 = .ok (.return_, 1) := by decide +kernel
theorem dX7_passTick_0 : decode cX7_passTick 0 = .ok (.aload_n 1, 1) := by decide +kernel
theorem dX7_passTick_1 : decode cX7_passTick 1 = .ok (.getfield 71, 3) := by decide +kernel
theorem dX7_passTick_4 : decode cX7_passTick 4 = .ok (.iconst 2, 1) := by decide +kernel
theorem dX7_passTick_5 : decode cX7_passTick 5 = .ok (.if_icmp .ne 7, 3) := by decide +kernel
theorem dX7_passTick_8 : decode cX7_passTick 8 = .ok (.iconst 1, 1) := by decide +kernel
theorem dX7_passTick_9 : decode cX7_passTick 9 = .ok (.goto 4, 3) := by decide +kernel
theorem dX7_passTick_12 : decode cX7_passTick 12 = .ok (.iconst 0, 1) := by decide +kernel
theorem dX7_passTick_13 : decode cX7_passTick 13 = .ok (.istore_n 2, 1) := by decide +kernel
theorem dX7_passTick_14 : decode cX7_passTick 14 = .ok (.aload_n 1, 1) := by decide +kernel
theorem dX7_passTick_15 : decode cX7_passTick 15 = .ok (.aload_n 1, 1) := by decide +kernel
theorem dX7_passTick_16 : decode cX7_passTick 16 = .ok (.getfield 86, 3) := by decide +kernel
theorem dX7_passTick_19 : decode cX7_passTick 19 = .ok (.iconst 1, 1) := by decide +kernel
theorem dX7_passTick_20 : decode cX7_passTick 20 = .ok (.isub, 1) := by decide +kernel
theorem dX7_passTick_21 : decode cX7_passTick 21 = .ok (.aload_n 1, 1) := by decide +kernel
theorem dX7_passTick_22 : decode cX7_passTick 22 = .ok (.getfield 71, 3) := by decide +kernel
theorem dX7_passTick_25 : decode cX7_passTick 25 = .ok (.invokevirtual 89, 3) := by decide +kernel
theorem dX7_passTick_28 : decode cX7_passTick 28 = .ok (.iload_n 2, 1) := by decide +kernel
theorem dX7_passTick_29 : decode cX7_passTick 29 = .ok (.ifCond .eq 20, 3) := by decide +kernel
theorem dX7_passTick_32 : decode cX7_passTick 32 = .ok (.aload_n 1, 1) := by decide +kernel
theorem dX7_passTick_33 : decode cX7_passTick 33 = .ok (.getfield 71, 3) := by decide +kernel
theorem dX7_passTick_36 : decode cX7_passTick 36 = .ok (.ifCond .ne 13, 3) := by decide +kernel
theorem dX7_passTick_39 : decode cX7_passTick 39 = .ok (.aload_n 0, 1) := by decide +kernel
theorem dX7_passTick_40 : decode cX7_passTick 40 = .ok (.aload_n 1, 1) := by decide +kernel
theorem dX7_passTick_41 : decode cX7_passTick 41 = .ok (.invokevirtual 93, 3) := by decide +kernel
theorem dX7_passTick_44 : decode cX7_passTick 44 = .ok (.aload_n 0, 1) := by decide +kernel
theorem dX7_passTick_45 : decode cX7_passTick 45 = .ok (.aload_n 1, 1) := by decide +kernel
theorem dX7_passTick_46 : decode cX7_passTick 46 = .ok (.invokevirtual 96, 3) := by decide +kernel
theorem dX7_passTick_49 : decode cX7_passTick 49 = .ok (.return_, 1) := by decide +kernel
theorem dX7_doOtherAct_0 : decode cX7_doOtherAct 0 = .ok (.aload_n 1, 1) := by decide +kernel
theorem dX7_doOtherAct_1 : decode cX7_doOtherAct 1 = .ok (.invokevirtual 99, 3) := by decide +kernel
theorem dX7_doOtherAct_4 : decode cX7_doOtherAct 4 = .ok (.istore_n 2, 1) := by decide +kernel
theorem dX7_doOtherAct_5 : decode cX7_doOtherAct 5 = .ok (.iload_n 2, 1) := by decide +kernel
theorem dX7_doOtherAct_6 : decode cX7_doOtherAct 6 = .ok (.ifCond .ge 15, 3) := by decide +kernel
theorem dX7_doOtherAct_9 : decode cX7_doOtherAct 9 = .ok (.aload_n 1, 1) := by decide +kernel
theorem dX7_doOtherAct_10 : decode cX7_doOtherAct 10 = .ok (.getfield 103, 3) := by decide +kernel
theorem dX7_doOtherAct_13 : decode cX7_doOtherAct 13 = .ok (.iload_n 2, 1) := by decide +kernel
theorem dX7_doOtherAct_14 : decode cX7_doOtherAct 14 = .ok (.ineg, 1) := by decide +kernel
theorem dX7_doOtherAct_15 : decode cX7_doOtherAct 15 = .ok (.invokevirtual 107, 3) := by decide +kernel
theorem dX7_doOtherAct_18 : decode cX7_doOtherAct 18 = .ok (.goto 22, 3) := by decide +kernel
theorem dX7_doOtherAct_21 : decode cX7_doOtherAct 21 = .ok (.iload_n 2, 1) := by decide +kernel
theorem dX7_doOtherAct_22 : decode cX7_doOtherAct 22 = .ok (.sipush 1000, 3) := by decide +kernel
theorem dX7_doOtherAct_25 : decode cX7_doOtherAct 25 = .ok (.if_icmp .le 15, 3) := by decide +kernel
theorem dX7_doOtherAct_28 : decode cX7_doOtherAct 28 = .ok (.aload_n 1, 1) := by decide +kernel
theorem dX7_doOtherAct_29 : decode cX7_doOtherAct 29 = .ok (.iload_n 2, 1) := by decide +kernel
theorem dX7_doOtherAct_30 : decode cX7_doOtherAct 30 = .ok (.sipush 1000, 3) := by decide +kernel
theorem dX7_doOtherAct_33 : decode cX7_doOtherAct 33 = .ok (.isub, 1) := by decide +kernel
theorem dX7_doOtherAct_34 : decode cX7_doOtherAct 34 = .ok (.iconst 1, 1) := by decide +kernel
theorem dX7_doOtherAct_35 : decode cX7_doOtherAct 35 = .ok (.isub, 1) := by decide +kernel
theorem dX7_doOtherAct_36 : decode cX7_doOtherAct 36 = .ok (.iconst 2, 1) := by decide +kernel
theorem dX7_doOtherAct_37 : decode cX7_doOtherAct 37 = .ok (.invokevirtual 89, 3) := by decide +kernel
theorem dX7_doOtherAct_40 : decode cX7_doOtherAct 40 = .ok (.aload_n 1, 1) := by decide +kernel
theorem dX7_doOtherAct_41 : decode cX7_doOtherAct 41 = .ok (.getfield 71, 3) := by decide +kernel
theorem dX7_doOtherAct_44 : decode cX7_doOtherAct 44 = .ok (.ifCond .ne 8, 3) := by decide +kernel
theorem dX7_doOtherAct_47 : decode cX7_doOtherAct 47 = .ok (.aload_n 0, 1) := by decide +kernel
theorem dX7_doOtherAct_48 : decode cX7_doOtherAct 48 = .ok (.aload_n 1, 1) := by decide +kernel
theorem dX7_doOtherAct_49 : decode cX7_doOtherAct 49 = .ok (.invokevirtual 96, 3) := by decide +kernel
theorem dX7_doOtherAct_52 : decode cX7_doOtherAct 52 = .ok (.return_, 1) := by decide +kernel
theorem dX7_tryMake_0 : decode cX7_tryMake 0 = .ok (.aload_n 1, 1) := by decide +kernel
theorem dX7_tryMake_1 : decode cX7_tryMake 1 = .ok (.invokevirtual 99, 3) := by decide +kernel
theorem dX7_tryMake_4 : decode cX7_tryMake 4 = .ok (.istore_n 2, 1) := by decide +kernel
theorem dX7_tryMake_5 : decode cX7_tryMake 5 = .ok (.aload_n 1, 1) := by decide +kernel
theorem dX7_tryMake_6 : decode cX7_tryMake 6 = .ok (.iload_n 2, 1) := by decide +kernel
theorem dX7_tryMake_7 : decode cX7_tryMake 7 = .ok (.invokevirtual 112, 3) := by decide +kernel
theorem dX7_tryMake_10 : decode cX7_tryMake 10 = .ok (.ifCond .ne 47, 3) := by decide +kernel
theorem dX7_tryMake_13 : decode cX7_tryMake 13 = .ok (.aload_n 1, 1) := by decide +kernel
theorem dX7_tryMake_14 : decode cX7_tryMake 14 = .ok (.getfield 116, 3) := by decide +kernel
theorem dX7_tryMake_17 : decode cX7_tryMake 17 = .ok (.aload_n 1, 1) := by decide +kernel
theorem dX7_tryMake_18 : decode cX7_tryMake 18 = .ok (.getfield 103, 3) := by decide +kernel
theorem dX7_tryMake_21 : decode cX7_tryMake 21 = .ok (.getfield 119, 3) := by decide +kernel
theorem dX7_tryMake_24 : decode cX7_tryMake 24 = .ok (.if_icmp .le 16, 3) := by decide +kernel
theorem dX7_tryMake_27 : decode cX7_tryMake 27 = .ok (.aload_n 1, 1) := by decide +kernel
theorem dX7_tryMake_28 : decode cX7_tryMake 28 = .ok (.aload_n 0, 1) := by decide +kernel
theorem dX7_tryMake_29 : decode cX7_tryMake 29 = .ok (.aload_n 1, 1) := by decide +kernel
theorem dX7_tryMake_30 : decode cX7_tryMake 30 = .ok (.invokevirtual 122, 3) := by decide +kernel
theorem dX7_tryMake_33 : decode cX7_tryMake 33 = .ok (.iconst 1, 1) := by decide +kernel
theorem dX7_tryMake_34 : decode cX7_tryMake 34 = .ok (.isub, 1) := by decide +kernel
theorem dX7_tryMake_35 : decode cX7_tryMake 35 = .ok (.iconst 1, 1) := by decide +kernel
theorem dX7_tryMake_36 : decode cX7_tryMake 36 = .ok (.invokevirtual 89, 3) := by decide +kernel
theorem dX7_tryMake_39 : decode cX7_tryMake 39 = .ok (.return_, 1) := by decide +kernel
theorem dX7_tryMake_40 : decode cX7_tryMake 40 = .ok (.aload_n 0, 1) := by decide +kernel
theorem dX7_tryMake_41 : decode cX7_tryMake 41 = .ok (.aload_n 1, 1) := by decide +kernel
theorem dX7_tryMake_42 : decode cX7_tryMake 42 = .ok (.iload_n 2, 1) := by decide +kernel
theorem dX7_tryMake_43 : decode cX7_tryMake 43 = .ok (.invokevirtual 126, 3) := by decide +kernel
theorem dX7_tryMake_46 : decode cX7_tryMake 46 = .ok (.ifCond .ne 11, 3) := by decide +kernel
theorem dX7_tryMake_49 : decode cX7_tryMake 49 = .ok (.aload_n 0, 1) := by decide +kernel
theorem dX7_tryMake_50 : decode cX7_tryMake 50 = .ok (.aload_n 1, 1) := by decide +kernel
theorem dX7_tryMake_51 : decode cX7_tryMake 51 = .ok (.iconst 4, 1) := by decide +kernel
theorem dX7_tryMake_52 : decode cX7_tryMake 52 = .ok (.iconst 2, 1) := by decide +kernel
theorem dX7_tryMake_53 : decode cX7_tryMake 53 = .ok (.invokevirtual 130, 3) := by decide +kernel
theorem dX7_tryMake_56 : decode cX7_tryMake 56 = .ok (.return_, 1) := by decide +kernel
theorem dX7_tryMake_57 : decode cX7_tryMake 57 = .ok (.aload_n 1, 1) := by decide +kernel
theorem dX7_tryMake_58 : decode cX7_tryMake 58 = .ok (.iload_n 2, 1) := by decide +kernel
theorem dX7_tryMake_59 : decode cX7_tryMake 59 = .ok (.invokevirtual 134, 3) := by decide +kernel
theorem dX7_tryMake_62 : decode cX7_tryMake 62 = .ok (.aload_n 0, 1) := by decide +kernel
theorem dX7_tryMake_63 : decode cX7_tryMake 63 = .ok (.aload_n 1, 1) := by decide +kernel
theorem dX7_tryMake_64 : decode cX7_tryMake 64 = .ok (.invokevirtual 96, 3) := by decide +kernel
theorem dX7_tryMake_67 : decode cX7_tryMake 67 = .ok (.return_, 1) := by decide +kernel
theorem dX7_wake_0 : decode cX7_wake 0 = .ok (.aload_n 1, 1) := by decide +kernel
theorem dX7_wake_1 : decode cX7_wake 1 = .ok (.getfield 137, 3) := by decide +kernel
theorem dX7_wake_4 : decode cX7_wake 4 = .ok (.ifCond .ne 4, 3) := by decide +kernel
theorem dX7_wake_7 : decode cX7_wake 7 = .ok (.return_, 1) := by decide +kernel
theorem dX7_wake_8 : decode cX7_wake 8 = .ok (.aload_n 0, 1) := by decide +kernel
theorem dX7_wake_9 : decode cX7_wake 9 = .ok (.getfield 35, 3) := by decide +kernel
theorem dX7_wake_12 : decode cX7_wake 12 = .ok (.aload_n 1, 1) := by decide +kernel
theorem dX7_wake_13 : decode cX7_wake 13 = .ok (.getfield 140, 3) := by decide +kernel
theorem dX7_wake_16 : decode cX7_wake 16 = .ok (.aload_n 1, 1) := by decide +kernel
theorem dX7_wake_17 : decode cX7_wake 17 = .ok (.getfield 143, 3) := by decide +kernel
theorem dX7_wake_20 : decode cX7_wake 20 = .ok (.isub, 1) := by decide +kernel
theorem dX7_wake_21 : decode cX7_wake 21 = .ok (.iconst 0, 1) := by decide +kernel
theorem dX7_wake_22 : decode cX7_wake 22 = .ok (.invokestatic 146, 3) := by decide +kernel
theorem dX7_wake_25 : decode cX7_wake 25 = .ok (.invokestatic 152, 3) := by decide +kernel
theorem dX7_wake_28 : decode cX7_wake 28 = .ok (.istore_n 2, 1) := by decide +kernel
theorem dX7_wake_29 : decode cX7_wake 29 = .ok (.aload_n 0, 1) := by decide +kernel
theorem dX7_wake_30 : decode cX7_wake 30 = .ok (.dup, 1) := by decide +kernel
theorem dX7_wake_31 : decode cX7_wake 31 = .ok (.getfield 35, 3) := by decide +kernel
theorem dX7_wake_34 : decode cX7_wake 34 = .ok (.iload_n 2, 1) := by decide +kernel
theorem dX7_wake_35 : decode cX7_wake 35 = .ok (.isub, 1) := by decide +kernel
theorem dX7_wake_36 : decode cX7_wake 36 = .ok (.putfield 35, 3) := by decide +kernel
theorem dX7_wake_39 : decode cX7_wake 39 = .ok (.aload_n 1, 1) := by decide +kernel
theorem dX7_wake_40 : decode cX7_wake 40 = .ok (.dup, 1) := by decide +kernel
theorem dX7_wake_41 : decode cX7_wake 41 = .ok (.getfield 143, 3) := by decide +kernel
theorem dX7_wake_44 : decode cX7_wake 44 = .ok (.iload_n 2, 1) := by decide +kernel
theorem dX7_wake_45 : decode cX7_wake 45 = .ok (.iadd, 1) := by decide +kernel
theorem dX7_wake_46 : decode cX7_wake 46 = .ok (.putfield 143, 3) := by decide +kernel
theorem dX7_wake_49 : decode cX7_wake 49 = .ok (.aload_n 1, 1) := by decide +kernel
theorem dX7_wake_50 : decode cX7_wake 50 = .ok (.iconst 0, 1) := by decide +kernel
theorem dX7_wake_51 : decode cX7_wake 51 = .ok (.putfield 137, 3) := by decide +kernel
theorem dX7_wake_54 : decode cX7_wake 54 = .ok (.aload_n 0, 1) := by decide +kernel
theorem dX7_wake_55 : decode cX7_wake 55 = .ok (.getfield 12, 3) := by decide +kernel
theorem dX7_wake_58 : decode cX7_wake 58 = .ok (.aload_n 0, 1) := by decide +kernel
theorem dX7_wake_59 : decode cX7_wake 59 = .ok (.getfield 32, 3) := by decide +kernel
theorem dX7_wake_62 : decode cX7_wake 62 = .ok (.aload_n 1, 1) := by decide +kernel
theorem dX7_wake_63 : decode cX7_wake 63 = .ok (.getfield 155, 3) := by decide +kernel
theorem dX7_wake_66 : decode cX7_wake 66 = .ok (.iconst 5, 1) := by decide +kernel
theorem dX7_wake_67 : decode cX7_wake 67 = .ok (.iload_n 2, 1) := by decide +kernel
theorem dX7_wake_68 : decode cX7_wake 68 = .ok (.invokevirtual 158, 3) := by decide +kernel
theorem dX7_wake_71 : decode cX7_wake 71 = .ok (.return_, 1) := by decide +kernel
theorem dX7_endAct_0 : decode cX7_endAct 0 = .ok (.aload_n 1, 1) := by decide +kernel
theorem dX7_endAct_1 : decode cX7_endAct 1 = .ok (.dup, 1) := by decide +kernel
theorem dX7_endAct_2 : decode cX7_endAct 2 = .ok (.getfield 162, 3) := by decide +kernel
theorem dX7_endAct_5 : decode cX7_endAct 5 = .ok (.iconst 1, 1) := by decide +kernel
theorem dX7_endAct_6 : decode cX7_endAct 6 = .ok (.iadd, 1) := by decide +kernel
theorem dX7_endAct_7 : decode cX7_endAct 7 = .ok (.putfield 162, 3) := by decide +kernel
theorem dX7_endAct_10 : decode cX7_endAct 10 = .ok (.aload_n 1, 1) := by decide +kernel
theorem dX7_endAct_11 : decode cX7_endAct 11 = .ok (.getfield 162, 3) := by decide +kernel
theorem dX7_endAct_14 : decode cX7_endAct 14 = .ok (.aload_n 1, 1) := by decide +kernel
theorem dX7_endAct_15 : decode cX7_endAct 15 = .ok (.getfield 165, 3) := by decide +kernel
theorem dX7_endAct_18 : decode cX7_endAct 18 = .ok (.getfield 169, 3) := by decide +kernel
theorem dX7_endAct_21 : decode cX7_endAct 21 = .ok (.if_icmp .ge 4, 3) := by decide +kernel
theorem dX7_endAct_24 : decode cX7_endAct 24 = .ok (.return_, 1) := by decide +kernel
theorem dX7_endAct_25 : decode cX7_endAct 25 = .ok (.aload_n 1, 1) := by decide +kernel
theorem dX7_endAct_26 : decode cX7_endAct 26 = .ok (.invokevirtual 174, 3) := by decide +kernel
theorem dX7_endAct_29 : decode cX7_endAct 29 = .ok (.aload_n 1, 1) := by decide +kernel
theorem dX7_endAct_30 : decode cX7_endAct 30 = .ok (.getfield 177, 3) := by decide +kernel
theorem dX7_endAct_33 : decode cX7_endAct 33 = .ok (.ifCond .ne 40, 3) := by decide +kernel
theorem dX7_endAct_36 : decode cX7_endAct 36 = .ok (.aload_n 1, 1) := by decide +kernel
theorem dX7_endAct_37 : decode cX7_endAct 37 = .ok (.getfield 180, 3) := by decide +kernel
theorem dX7_endAct_40 : decode cX7_endAct 40 = .ok (.iconst 3, 1) := by decide +kernel
theorem dX7_endAct_41 : decode cX7_endAct 41 = .ok (.if_icmp .lt 32, 3) := by decide +kernel
theorem dX7_endAct_44 : decode cX7_endAct 44 = .ok (.aload_n 1, 1) := by decide +kernel
theorem dX7_endAct_45 : decode cX7_endAct 45 = .ok (.iconst 1, 1) := by decide +kernel
theorem dX7_endAct_46 : decode cX7_endAct 46 = .ok (.putfield 177, 3) := by decide +kernel
theorem dX7_endAct_49 : decode cX7_endAct 49 = .ok (.aload_n 0, 1) := by decide +kernel
theorem dX7_endAct_50 : decode cX7_endAct 50 = .ok (.getfield 12, 3) := by decide +kernel
theorem dX7_endAct_53 : decode cX7_endAct 53 = .ok (.aload_n 0, 1) := by decide +kernel
theorem dX7_endAct_54 : decode cX7_endAct 54 = .ok (.getfield 32, 3) := by decide +kernel
theorem dX7_endAct_57 : decode cX7_endAct 57 = .ok (.aload_n 1, 1) := by decide +kernel
theorem dX7_endAct_58 : decode cX7_endAct 58 = .ok (.getfield 155, 3) := by decide +kernel
theorem dX7_endAct_61 : decode cX7_endAct 61 = .ok (.bipush 7, 2) := by decide +kernel
theorem dX7_endAct_63 : decode cX7_endAct 63 = .ok (.aload_n 1, 1) := by decide +kernel
theorem dX7_endAct_64 : decode cX7_endAct 64 = .ok (.getfield 103, 3) := by decide +kernel
theorem dX7_endAct_67 : decode cX7_endAct 67 = .ok (.getfield 119, 3) := by decide +kernel
theorem dX7_endAct_70 : decode cX7_endAct 70 = .ok (.invokevirtual 158, 3) := by decide +kernel
theorem dX7_endAct_73 : decode cX7_endAct 73 = .ok (.aload_n 1, 1) := by decide +kernel
theorem dX7_endAct_74 : decode cX7_endAct 74 = .ok (.getfield 183, 3) := by decide +kernel
theorem dX7_endAct_77 : decode cX7_endAct 77 = .ok (.aload_n 1, 1) := by decide +kernel
theorem dX7_endAct_78 : decode cX7_endAct 78 = .ok (.getfield 165, 3) := by decide +kernel
theorem dX7_endAct_81 : decode cX7_endAct 81 = .ok (.getfield 186, 3) := by decide +kernel
theorem dX7_endAct_84 : decode cX7_endAct 84 = .ok (.if_icmp .lt 11, 3) := by decide +kernel
theorem dX7_endAct_87 : decode cX7_endAct 87 = .ok (.aload_n 0, 1) := by decide +kernel
theorem dX7_endAct_88 : decode cX7_endAct 88 = .ok (.aload_n 1, 1) := by decide +kernel
theorem dX7_endAct_89 : decode cX7_endAct 89 = .ok (.iconst 3, 1) := by decide +kernel
theorem dX7_endAct_90 : decode cX7_endAct 90 = .ok (.bipush 6, 2) := by decide +kernel
theorem dX7_endAct_92 : decode cX7_endAct 92 = .ok (.invokevirtual 130, 3) := by decide +kernel
theorem dX7_endAct_95 : decode cX7_endAct 95 = .ok (.return_, 1) := by decide +kernel
theorem dX7_leave_0 : decode cX7_leave 0 = .ok (.aload_n 1, 1) := by decide +kernel
theorem dX7_leave_1 : decode cX7_leave 1 = .ok (.iload_n 2, 1) := by decide +kernel
theorem dX7_leave_2 : decode cX7_leave 2 = .ok (.aload_n 0, 1) := by decide +kernel
theorem dX7_leave_3 : decode cX7_leave 3 = .ok (.getfield 32, 3) := by decide +kernel
theorem dX7_leave_6 : decode cX7_leave 6 = .ok (.invokevirtual 189, 3) := by decide +kernel
theorem dX7_leave_9 : decode cX7_leave 9 = .ok (.istore 4, 2) := by decide +kernel
theorem dX7_leave_11 : decode cX7_leave 11 = .ok (.aload_n 0, 1) := by decide +kernel
theorem dX7_leave_12 : decode cX7_leave 12 = .ok (.dup, 1) := by decide +kernel
theorem dX7_leave_13 : decode cX7_leave 13 = .ok (.getfield 35, 3) := by decide +kernel
theorem dX7_leave_16 : decode cX7_leave 16 = .ok (.iload 4, 2) := by decide +kernel
theorem dX7_leave_18 : decode cX7_leave 18 = .ok (.iadd, 1) := by decide +kernel
theorem dX7_leave_19 : decode cX7_leave 19 = .ok (.putfield 35, 3) := by decide +kernel
theorem dX7_leave_22 : decode cX7_leave 22 = .ok (.aload_n 0, 1) := by decide +kernel
theorem dX7_leave_23 : decode cX7_leave 23 = .ok (.getfield 12, 3) := by decide +kernel
theorem dX7_leave_26 : decode cX7_leave 26 = .ok (.aload_n 0, 1) := by decide +kernel
theorem dX7_leave_27 : decode cX7_leave 27 = .ok (.getfield 32, 3) := by decide +kernel
theorem dX7_leave_30 : decode cX7_leave 30 = .ok (.aload_n 1, 1) := by decide +kernel
theorem dX7_leave_31 : decode cX7_leave 31 = .ok (.getfield 155, 3) := by decide +kernel
theorem dX7_leave_34 : decode cX7_leave 34 = .ok (.iload_n 3, 1) := by decide +kernel
theorem dX7_leave_35 : decode cX7_leave 35 = .ok (.iload 4, 2) := by decide +kernel
theorem dX7_leave_37 : decode cX7_leave 37 = .ok (.invokevirtual 158, 3) := by decide +kernel
theorem dX7_leave_40 : decode cX7_leave 40 = .ok (.return_, 1) := by decide +kernel
theorem dX7_collect_0 : decode cX7_collect 0 = .ok (.aload_n 1, 1) := by decide +kernel
theorem dX7_collect_1 : decode cX7_collect 1 = .ok (.invokevirtual 191, 3) := by decide +kernel
theorem dX7_collect_4 : decode cX7_collect 4 = .ok (.istore_n 2, 1) := by decide +kernel
theorem dX7_collect_5 : decode cX7_collect 5 = .ok (.aload_n 0, 1) := by decide +kernel
theorem dX7_collect_6 : decode cX7_collect 6 = .ok (.getfield 12, 3) := by decide +kernel
theorem dX7_collect_9 : decode cX7_collect 9 = .ok (.aload_n 0, 1) := by decide +kernel
theorem dX7_collect_10 : decode cX7_collect 10 = .ok (.getfield 32, 3) := by decide +kernel
theorem dX7_collect_13 : decode cX7_collect 13 = .ok (.aload_n 1, 1) := by decide +kernel
theorem dX7_collect_14 : decode cX7_collect 14 = .ok (.getfield 155, 3) := by decide +kernel
theorem dX7_collect_17 : decode cX7_collect 17 = .ok (.iconst 0, 1) := by decide +kernel
theorem dX7_collect_18 : decode cX7_collect 18 = .ok (.iload_n 2, 1) := by decide +kernel
theorem dX7_collect_19 : decode cX7_collect 19 = .ok (.invokevirtual 158, 3) := by decide +kernel
theorem dX7_collect_22 : decode cX7_collect 22 = .ok (.iload_n 2, 1) := by decide +kernel
theorem dX7_collect_23 : decode cX7_collect 23 = .ok (.ireturn, 1) := by decide +kernel
theorem dX7_getsByAsking_0 : decode cX7_getsByAsking 0 = .ok (.aload_n 0, 1) := by decide +kernel
theorem dX7_getsByAsking_1 : decode cX7_getsByAsking 1 = .ok (.getfield 38, 3) := by decide +kernel
theorem dX7_getsByAsking_4 : decode cX7_getsByAsking 4 = .ok (.getfield 53, 3) := by decide +kernel
theorem dX7_getsByAsking_7 : decode cX7_getsByAsking 7 = .ok (.aload_n 0, 1) := by decide +kernel
theorem dX7_getsByAsking_8 : decode cX7_getsByAsking 8 = .ok (.getfield 38, 3) := by decide +kernel
theorem dX7_getsByAsking_11 : decode cX7_getsByAsking 11 = .ok (.aload_n 1, 1) := by decide +kernel
theorem dX7_getsByAsking_12 : decode cX7_getsByAsking 12 = .ok (.getfield 165, 3) := by decide +kernel
theorem dX7_getsByAsking_15 : decode cX7_getsByAsking 15 = .ok (.aload_n 1, 1) := by decide +kernel
theorem dX7_getsByAsking_16 : decode cX7_getsByAsking 16 = .ok (.getfield 116, 3) := by decide +kernel
theorem dX7_getsByAsking_19 : decode cX7_getsByAsking 19 = .ok (.iload_n 2, 1) := by decide +kernel
theorem dX7_getsByAsking_20 : decode cX7_getsByAsking 20 = .ok (.iadd, 1) := by decide +kernel
theorem dX7_getsByAsking_21 : decode cX7_getsByAsking 21 = .ok (.invokevirtual 194, 3) := by decide +kernel
theorem dX7_getsByAsking_24 : decode cX7_getsByAsking 24 = .ok (.aload_n 1, 1) := by decide +kernel
theorem dX7_getsByAsking_25 : decode cX7_getsByAsking 25 = .ok (.getfield 143, 3) := by decide +kernel
theorem dX7_getsByAsking_28 : decode cX7_getsByAsking 28 = .ok (.isub, 1) := by decide +kernel
theorem dX7_getsByAsking_29 : decode cX7_getsByAsking 29 = .ok (.invokevirtual 198, 3) := by decide +kernel
theorem dX7_getsByAsking_32 : decode cX7_getsByAsking 32 = .ok (.imul, 1) := by decide +kernel
theorem dX7_getsByAsking_33 : decode cX7_getsByAsking 33 = .ok (.istore_n 3, 1) := by decide +kernel
theorem dX7_getsByAsking_34 : decode cX7_getsByAsking 34 = .ok (.aload_n 0, 1) := by decide +kernel
theorem dX7_getsByAsking_35 : decode cX7_getsByAsking 35 = .ok (.getfield 35, 3) := by decide +kernel
theorem dX7_getsByAsking_38 : decode cX7_getsByAsking 38 = .ok (.aload_n 0, 1) := by decide +kernel
theorem dX7_getsByAsking_39 : decode cX7_getsByAsking 39 = .ok (.aload_n 1, 1) := by decide +kernel
theorem dX7_getsByAsking_40 : decode cX7_getsByAsking 40 = .ok (.invokevirtual 201, 3) := by decide +kernel
theorem dX7_getsByAsking_43 : decode cX7_getsByAsking 43 = .ok (.iadd, 1) := by decide +kernel
theorem dX7_getsByAsking_44 : decode cX7_getsByAsking 44 = .ok (.iload_n 3, 1) := by decide +kernel
theorem dX7_getsByAsking_45 : decode cX7_getsByAsking 45 = .ok (.if_icmp .lt 23, 3) := by decide +kernel
theorem dX7_getsByAsking_48 : decode cX7_getsByAsking 48 = .ok (.aload_n 1, 1) := by decide +kernel
theorem dX7_getsByAsking_49 : decode cX7_getsByAsking 49 = .ok (.getfield 177, 3) := by decide +kernel
theorem dX7_getsByAsking_52 : decode cX7_getsByAsking 52 = .ok (.ifCond .eq 18, 3) := by decide +kernel
theorem dX7_getsByAsking_55 : decode cX7_getsByAsking 55 = .ok (.aload_n 1, 1) := by decide +kernel
theorem dX7_getsByAsking_56 : decode cX7_getsByAsking 56 = .ok (.getfield 143, 3) := by decide +kernel
theorem dX7_getsByAsking_59 : decode cX7_getsByAsking 59 = .ok (.iload_n 3, 1) := by decide +kernel
theorem dX7_getsByAsking_60 : decode cX7_getsByAsking 60 = .ok (.iadd, 1) := by decide +kernel
theorem dX7_getsByAsking_61 : decode cX7_getsByAsking 61 = .ok (.aload_n 0, 1) := by decide +kernel
theorem dX7_getsByAsking_62 : decode cX7_getsByAsking 62 = .ok (.invokevirtual 204, 3) := by decide +kernel
theorem dX7_getsByAsking_65 : decode cX7_getsByAsking 65 = .ok (.if_icmp .le 5, 3) := by decide +kernel
theorem dX7_getsByAsking_68 : decode cX7_getsByAsking 68 = .ok (.iconst 0, 1) := by decide +kernel
theorem dX7_getsByAsking_69 : decode cX7_getsByAsking 69 = .ok (.ireturn, 1) := by decide +kernel
theorem dX7_getsByAsking_70 : decode cX7_getsByAsking 70 = .ok (.aload_n 0, 1) := by decide +kernel
theorem dX7_getsByAsking_71 : decode cX7_getsByAsking 71 = .ok (.getfield 35, 3) := by decide +kernel
theorem dX7_getsByAsking_74 : decode cX7_getsByAsking 74 = .ok (.iload_n 3, 1) := by decide +kernel
theorem dX7_getsByAsking_75 : decode cX7_getsByAsking 75 = .ok (.invokestatic 152, 3) := by decide +kernel
theorem dX7_getsByAsking_78 : decode cX7_getsByAsking 78 = .ok (.istore 4, 2) := by decide +kernel
theorem dX7_getsByAsking_80 : decode cX7_getsByAsking 80 = .ok (.aload_n 0, 1) := by decide +kernel
theorem dX7_getsByAsking_81 : decode cX7_getsByAsking 81 = .ok (.dup, 1) := by decide +kernel
theorem dX7_getsByAsking_82 : decode cX7_getsByAsking 82 = .ok (.getfield 35, 3) := by decide +kernel
theorem dX7_getsByAsking_85 : decode cX7_getsByAsking 85 = .ok (.iload 4, 2) := by decide +kernel
theorem dX7_getsByAsking_87 : decode cX7_getsByAsking 87 = .ok (.isub, 1) := by decide +kernel
theorem dX7_getsByAsking_88 : decode cX7_getsByAsking 88 = .ok (.putfield 35, 3) := by decide +kernel
theorem dX7_getsByAsking_91 : decode cX7_getsByAsking 91 = .ok (.iload_n 3, 1) := by decide +kernel
theorem dX7_getsByAsking_92 : decode cX7_getsByAsking 92 = .ok (.iload 4, 2) := by decide +kernel
theorem dX7_getsByAsking_94 : decode cX7_getsByAsking 94 = .ok (.isub, 1) := by decide +kernel
theorem dX7_getsByAsking_95 : decode cX7_getsByAsking 95 = .ok (.istore 5, 2) := by decide +kernel
theorem dX7_getsByAsking_97 : decode cX7_getsByAsking 97 = .ok (.iconst 0, 1) := by decide +kernel
theorem dX7_getsByAsking_98 : decode cX7_getsByAsking 98 = .ok (.istore 6, 2) := by decide +kernel
theorem dX7_getsByAsking_100 : decode cX7_getsByAsking 100 = .ok (.iload 6, 2) := by decide +kernel
theorem dX7_getsByAsking_102 : decode cX7_getsByAsking 102 = .ok (.aload_n 0, 1) := by decide +kernel
theorem dX7_getsByAsking_103 : decode cX7_getsByAsking 103 = .ok (.getfield 24, 3) := by decide +kernel
theorem dX7_getsByAsking_106 : decode cX7_getsByAsking 106 = .ok (.if_icmp .ge 72, 3) := by decide +kernel
theorem dX7_getsByAsking_109 : decode cX7_getsByAsking 109 = .ok (.iload 5, 2) := by decide +kernel
theorem dX7_getsByAsking_111 : decode cX7_getsByAsking 111 = .ok (.ifCond .le 67, 3) := by decide +kernel
theorem dX7_getsByAsking_114 : decode cX7_getsByAsking 114 = .ok (.aload_n 0, 1) := by decide +kernel
theorem dX7_getsByAsking_115 : decode cX7_getsByAsking 115 = .ok (.getfield 20, 3) := by decide +kernel
theorem dX7_getsByAsking_118 : decode cX7_getsByAsking 118 = .ok (.iload 6, 2) := by decide +kernel
theorem dX7_getsByAsking_120 : decode cX7_getsByAsking 120 = .ok (.aaload, 1) := by decide +kernel
theorem dX7_getsByAsking_121 : decode cX7_getsByAsking 121 = .ok (.astore 7, 2) := by decide +kernel
theorem dX7_getsByAsking_123 : decode cX7_getsByAsking 123 = .ok (.aload 7, 2) := by decide +kernel
theorem dX7_getsByAsking_125 : decode cX7_getsByAsking 125 = .ok (.getfield 71, 3) := by decide +kernel
theorem dX7_getsByAsking_128 : decode cX7_getsByAsking 128 = .ok (.iconst 2, 1) := by decide +kernel
theorem dX7_getsByAsking_129 : decode cX7_getsByAsking 129 = .ok (.if_icmp .ne 20, 3) := by decide +kernel
theorem dX7_getsByAsking_132 : decode cX7_getsByAsking 132 = .ok (.aload 7, 2) := by decide +kernel
theorem dX7_getsByAsking_134 : decode cX7_getsByAsking 134 = .ok (.aload_n 0, 1) := by decide +kernel
theorem dX7_getsByAsking_135 : decode cX7_getsByAsking 135 = .ok (.getfield 38, 3) := by decide +kernel
theorem dX7_getsByAsking_138 : decode cX7_getsByAsking 138 = .ok (.invokevirtual 207, 3) := by decide +kernel
theorem dX7_getsByAsking_141 : decode cX7_getsByAsking 141 = .ok (.iload 5, 2) := by decide +kernel
theorem dX7_getsByAsking_143 : decode cX7_getsByAsking 143 = .ok (.invokestatic 152, 3) := by decide +kernel
theorem dX7_getsByAsking_146 : decode cX7_getsByAsking 146 = .ok (.goto 4, 3) := by decide +kernel
theorem dX7_getsByAsking_149 : decode cX7_getsByAsking 149 = .ok (.iconst 0, 1) := by decide +kernel
theorem dX7_getsByAsking_150 : decode cX7_getsByAsking 150 = .ok (.istore 8, 2) := by decide +kernel
theorem dX7_getsByAsking_152 : decode cX7_getsByAsking 152 = .ok (.iload 8, 2) := by decide +kernel
theorem dX7_getsByAsking_154 : decode cX7_getsByAsking 154 = .ok (.ifCond .le 18, 3) := by decide +kernel
theorem dX7_getsByAsking_157 : decode cX7_getsByAsking 157 = .ok (.aload_n 0, 1) := by decide +kernel
theorem dX7_getsByAsking_158 : decode cX7_getsByAsking 158 = .ok (.aload 7, 2) := by decide +kernel
theorem dX7_getsByAsking_160 : decode cX7_getsByAsking 160 = .ok (.iload 8, 2) := by decide +kernel
theorem dX7_getsByAsking_162 : decode cX7_getsByAsking 162 = .ok (.invokevirtual 211, 3) := by decide +kernel
theorem dX7_getsByAsking_165 : decode cX7_getsByAsking 165 = .ok (.iload 5, 2) := by decide +kernel
theorem dX7_getsByAsking_167 : decode cX7_getsByAsking 167 = .ok (.iload 8, 2) := by decide +kernel
theorem dX7_getsByAsking_169 : decode cX7_getsByAsking 169 = .ok (.isub, 1) := by decide +kernel
theorem dX7_getsByAsking_170 : decode cX7_getsByAsking 170 = .ok (.istore 5, 2) := by decide +kernel
theorem dX7_getsByAsking_172 : decode cX7_getsByAsking 172 = .ok (.iinc 6 1, 3) := by decide +kernel
theorem dX7_getsByAsking_175 : decode cX7_getsByAsking 175 = .ok (.goto (-75), 3) := by decide +kernel
theorem dX7_getsByAsking_178 : decode cX7_getsByAsking 178 = .ok (.aload_n 0, 1) := by decide +kernel
theorem dX7_getsByAsking_179 : decode cX7_getsByAsking 179 = .ok (.getfield 38, 3) := by decide +kernel
theorem dX7_getsByAsking_182 : decode cX7_getsByAsking 182 = .ok (.iload 5, 2) := by decide +kernel
theorem dX7_getsByAsking_184 : decode cX7_getsByAsking 184 = .ok (.invokevirtual 198, 3) := by decide +kernel
theorem dX7_getsByAsking_187 : decode cX7_getsByAsking 187 = .ok (.istore 6, 2) := by decide +kernel
theorem dX7_getsByAsking_189 : decode cX7_getsByAsking 189 = .ok (.iconst 0, 1) := by decide +kernel
theorem dX7_getsByAsking_190 : decode cX7_getsByAsking 190 = .ok (.istore 7, 2) := by decide +kernel
theorem dX7_getsByAsking_192 : decode cX7_getsByAsking 192 = .ok (.iload 7, 2) := by decide +kernel
theorem dX7_getsByAsking_194 : decode cX7_getsByAsking 194 = .ok (.iload 6, 2) := by decide +kernel
theorem dX7_getsByAsking_196 : decode cX7_getsByAsking 196 = .ok (.if_icmp .ge 40, 3) := by decide +kernel
theorem dX7_getsByAsking_199 : decode cX7_getsByAsking 199 = .ok (.aload_n 0, 1) := by decide +kernel
theorem dX7_getsByAsking_200 : decode cX7_getsByAsking 200 = .ok (.aload_n 1, 1) := by decide +kernel
theorem dX7_getsByAsking_201 : decode cX7_getsByAsking 201 = .ok (.invokevirtual 215, 3) := by decide +kernel
theorem dX7_getsByAsking_204 : decode cX7_getsByAsking 204 = .ok (.istore 8, 2) := by decide +kernel
theorem dX7_getsByAsking_206 : decode cX7_getsByAsking 206 = .ok (.iload 8, 2) := by decide +kernel
theorem dX7_getsByAsking_208 : decode cX7_getsByAsking 208 = .ok (.iconst (-1), 1) := by decide +kernel
theorem dX7_getsByAsking_209 : decode cX7_getsByAsking 209 = .ok (.if_icmp .eq 21, 3) := by decide +kernel
theorem dX7_getsByAsking_212 : decode cX7_getsByAsking 212 = .ok (.aload_n 0, 1) := by decide +kernel
theorem dX7_getsByAsking_213 : decode cX7_getsByAsking 213 = .ok (.aload_n 0, 1) := by decide +kernel
theorem dX7_getsByAsking_214 : decode cX7_getsByAsking 214 = .ok (.getfield 20, 3) := by decide +kernel
theorem dX7_getsByAsking_217 : decode cX7_getsByAsking 217 = .ok (.iload 8, 2) := by decide +kernel
theorem dX7_getsByAsking_219 : decode cX7_getsByAsking 219 = .ok (.aaload, 1) := by decide +kernel
theorem dX7_getsByAsking_220 : decode cX7_getsByAsking 220 = .ok (.aload_n 0, 1) := by decide +kernel
theorem dX7_getsByAsking_221 : decode cX7_getsByAsking 221 = .ok (.getfield 38, 3) := by decide +kernel
theorem dX7_getsByAsking_224 : decode cX7_getsByAsking 224 = .ok (.getfield 53, 3) := by decide +kernel
theorem dX7_getsByAsking_227 : decode cX7_getsByAsking 227 = .ok (.invokevirtual 211, 3) := by decide +kernel
theorem dX7_getsByAsking_230 : decode cX7_getsByAsking 230 = .ok (.iinc 7 1, 3) := by decide +kernel
theorem dX7_getsByAsking_233 : decode cX7_getsByAsking 233 = .ok (.goto (-41), 3) := by decide +kernel
theorem dX7_getsByAsking_236 : decode cX7_getsByAsking 236 = .ok (.aload_n 1, 1) := by decide +kernel
theorem dX7_getsByAsking_237 : decode cX7_getsByAsking 237 = .ok (.dup, 1) := by decide +kernel
theorem dX7_getsByAsking_238 : decode cX7_getsByAsking 238 = .ok (.getfield 143, 3) := by decide +kernel
theorem dX7_getsByAsking_241 : decode cX7_getsByAsking 241 = .ok (.iload_n 3, 1) := by decide +kernel
theorem dX7_getsByAsking_242 : decode cX7_getsByAsking 242 = .ok (.iadd, 1) := by decide +kernel
theorem dX7_getsByAsking_243 : decode cX7_getsByAsking 243 = .ok (.putfield 143, 3) := by decide +kernel
theorem dX7_getsByAsking_246 : decode cX7_getsByAsking 246 = .ok (.aload_n 0, 1) := by decide +kernel
theorem dX7_getsByAsking_247 : decode cX7_getsByAsking 247 = .ok (.getfield 12, 3) := by decide +kernel
theorem dX7_getsByAsking_250 : decode cX7_getsByAsking 250 = .ok (.aload_n 0, 1) := by decide +kernel
theorem dX7_getsByAsking_251 : decode cX7_getsByAsking 251 = .ok (.getfield 32, 3) := by decide +kernel
theorem dX7_getsByAsking_254 : decode cX7_getsByAsking 254 = .ok (.aload_n 1, 1) := by decide +kernel
theorem dX7_getsByAsking_255 : decode cX7_getsByAsking 255 = .ok (.getfield 155, 3) := by decide +kernel
theorem dX7_getsByAsking_258 : decode cX7_getsByAsking 258 = .ok (.iconst 1, 1) := by decide +kernel
theorem dX7_getsByAsking_259 : decode cX7_getsByAsking 259 = .ok (.iload_n 3, 1) := by decide +kernel
theorem dX7_getsByAsking_260 : decode cX7_getsByAsking 260 = .ok (.invokevirtual 158, 3) := by decide +kernel
theorem dX7_getsByAsking_263 : decode cX7_getsByAsking 263 = .ok (.iconst 1, 1) := by decide +kernel
theorem dX7_getsByAsking_264 : decode cX7_getsByAsking 264 = .ok (.ireturn, 1) := by decide +kernel
theorem dX7_fairPart_0 : decode cX7_fairPart 0 = .ok (.aload_n 0, 1) := by decide +kernel
theorem dX7_fairPart_1 : decode cX7_fairPart 1 = .ok (.getfield 24, 3) := by decide +kernel
theorem dX7_fairPart_4 : decode cX7_fairPart 4 = .ok (.ifCond .le 18, 3) := by decide +kernel
theorem dX7_fairPart_7 : decode cX7_fairPart 7 = .ok (.aload_n 0, 1) := by decide +kernel
theorem dX7_fairPart_8 : decode cX7_fairPart 8 = .ok (.getfield 38, 3) := by decide +kernel
theorem dX7_fairPart_11 : decode cX7_fairPart 11 = .ok (.getfield 48, 3) := by decide +kernel
theorem dX7_fairPart_14 : decode cX7_fairPart 14 = .ok (.aload_n 0, 1) := by decide +kernel
theorem dX7_fairPart_15 : decode cX7_fairPart 15 = .ok (.getfield 24, 3) := by decide +kernel
theorem dX7_fairPart_18 : decode cX7_fairPart 18 = .ok (.idiv, 1) := by decide +kernel
theorem dX7_fairPart_19 : decode cX7_fairPart 19 = .ok (.goto 4, 3) := by decide +kernel
theorem dX7_fairPart_22 : decode cX7_fairPart 22 = .ok (.iconst 0, 1) := by decide +kernel
theorem dX7_fairPart_23 : decode cX7_fairPart 23 = .ok (.ireturn, 1) := by decide +kernel
theorem dX7_spareOfOthers_0 : decode cX7_spareOfOthers 0 = .ok (.iconst 0, 1) := by decide +kernel
theorem dX7_spareOfOthers_1 : decode cX7_spareOfOthers 1 = .ok (.istore_n 2, 1) := by decide +kernel
theorem dX7_spareOfOthers_2 : decode cX7_spareOfOthers 2 = .ok (.iconst 0, 1) := by decide +kernel
theorem dX7_spareOfOthers_3 : decode cX7_spareOfOthers 3 = .ok (.istore_n 3, 1) := by decide +kernel
theorem dX7_spareOfOthers_4 : decode cX7_spareOfOthers 4 = .ok (.iload_n 3, 1) := by decide +kernel
theorem dX7_spareOfOthers_5 : decode cX7_spareOfOthers 5 = .ok (.aload_n 0, 1) := by decide +kernel
theorem dX7_spareOfOthers_6 : decode cX7_spareOfOthers 6 = .ok (.getfield 24, 3) := by decide +kernel
theorem dX7_spareOfOthers_9 : decode cX7_spareOfOthers 9 = .ok (.if_icmp .ge 33, 3) := by decide +kernel
theorem dX7_spareOfOthers_12 : decode cX7_spareOfOthers 12 = .ok (.iload_n 3, 1) := by decide +kernel
theorem dX7_spareOfOthers_13 : decode cX7_spareOfOthers 13 = .ok (.aload_n 1, 1) := by decide +kernel
theorem dX7_spareOfOthers_14 : decode cX7_spareOfOthers 14 = .ok (.getfield 155, 3) := by decide +kernel
theorem dX7_spareOfOthers_17 : decode cX7_spareOfOthers 17 = .ok (.if_icmp .eq 19, 3) := by decide +kernel
theorem dX7_spareOfOthers_20 : decode cX7_spareOfOthers 20 = .ok (.iload_n 2, 1) := by decide +kernel
theorem dX7_spareOfOthers_21 : decode cX7_spareOfOthers 21 = .ok (.aload_n 0, 1) := by decide +kernel
theorem dX7_spareOfOthers_22 : decode cX7_spareOfOthers 22 = .ok (.getfield 20, 3) := by decide +kernel
theorem dX7_spareOfOthers_25 : decode cX7_spareOfOthers 25 = .ok (.iload_n 3, 1) := by decide +kernel
theorem dX7_spareOfOthers_26 : decode cX7_spareOfOthers 26 = .ok (.aaload, 1) := by decide +kernel
theorem dX7_spareOfOthers_27 : decode cX7_spareOfOthers 27 = .ok (.aload_n 0, 1) := by decide +kernel
theorem dX7_spareOfOthers_28 : decode cX7_spareOfOthers 28 = .ok (.getfield 38, 3) := by decide +kernel
theorem dX7_spareOfOthers_31 : decode cX7_spareOfOthers 31 = .ok (.invokevirtual 207, 3) := by decide +kernel
theorem dX7_spareOfOthers_34 : decode cX7_spareOfOthers 34 = .ok (.iadd, 1) := by decide +kernel
theorem dX7_spareOfOthers_35 : decode cX7_spareOfOthers 35 = .ok (.istore_n 2, 1) := by decide +kernel
theorem dX7_spareOfOthers_36 : decode cX7_spareOfOthers 36 = .ok (.iinc 3 1, 3) := by decide +kernel
theorem dX7_spareOfOthers_39 : decode cX7_spareOfOthers 39 = .ok (.goto (-35), 3) := by decide +kernel
theorem dX7_spareOfOthers_42 : decode cX7_spareOfOthers 42 = .ok (.iload_n 2, 1) := by decide +kernel
theorem dX7_spareOfOthers_43 : decode cX7_spareOfOthers 43 = .ok (.ireturn, 1) := by decide +kernel
theorem dX7_whoSparesMost_0 : decode cX7_whoSparesMost 0 = .ok (.iconst (-1), 1) := by decide +kernel
theorem dX7_whoSparesMost_1 : decode cX7_whoSparesMost 1 = .ok (.istore_n 2, 1) := by decide +kernel
theorem dX7_whoSparesMost_2 : decode cX7_whoSparesMost 2 = .ok (.iconst 0, 1) := by decide +kernel
theorem dX7_whoSparesMost_3 : decode cX7_whoSparesMost 3 = .ok (.istore_n 3, 1) := by decide +kernel
theorem dX7_whoSparesMost_4 : decode cX7_whoSparesMost 4 = .ok (.iconst 0, 1) := by decide +kernel
theorem dX7_whoSparesMost_5 : decode cX7_whoSparesMost 5 = .ok (.istore 4, 2) := by decide +kernel
theorem dX7_whoSparesMost_7 : decode cX7_whoSparesMost 7 = .ok (.iload 4, 2) := by decide +kernel
theorem dX7_whoSparesMost_9 : decode cX7_whoSparesMost 9 = .ok (.aload_n 0, 1) := by decide +kernel
theorem dX7_whoSparesMost_10 : decode cX7_whoSparesMost 10 = .ok (.getfield 24, 3) := by decide +kernel
theorem dX7_whoSparesMost_13 : decode cX7_whoSparesMost 13 = .ok (.if_icmp .ge 50, 3) := by decide +kernel
theorem dX7_whoSparesMost_16 : decode cX7_whoSparesMost 16 = .ok (.iload 4, 2) := by decide +kernel
theorem dX7_whoSparesMost_18 : decode cX7_whoSparesMost 18 = .ok (.aload_n 1, 1) := by decide +kernel
theorem dX7_whoSparesMost_19 : decode cX7_whoSparesMost 19 = .ok (.getfield 155, 3) := by decide +kernel
theorem dX7_whoSparesMost_22 : decode cX7_whoSparesMost 22 = .ok (.if_icmp .ne 7, 3) := by decide +kernel
theorem dX7_whoSparesMost_25 : decode cX7_whoSparesMost 25 = .ok (.iconst 0, 1) := by decide +kernel
theorem dX7_whoSparesMost_26 : decode cX7_whoSparesMost 26 = .ok (.goto 17, 3) := by decide +kernel
theorem dX7_whoSparesMost_29 : decode cX7_whoSparesMost 29 = .ok (.aload_n 0, 1) := by decide +kernel
theorem dX7_whoSparesMost_30 : decode cX7_whoSparesMost 30 = .ok (.getfield 20, 3) := by decide +kernel
theorem dX7_whoSparesMost_33 : decode cX7_whoSparesMost 33 = .ok (.iload 4, 2) := by decide +kernel
theorem dX7_whoSparesMost_35 : decode cX7_whoSparesMost 35 = .ok (.aaload, 1) := by decide +kernel
theorem dX7_whoSparesMost_36 : decode cX7_whoSparesMost 36 = .ok (.aload_n 0, 1) := by decide +kernel
theorem dX7_whoSparesMost_37 : decode cX7_whoSparesMost 37 = .ok (.getfield 38, 3) := by decide +kernel
theorem dX7_whoSparesMost_40 : decode cX7_whoSparesMost 40 = .ok (.invokevirtual 207, 3) := by decide +kernel
theorem dX7_whoSparesMost_43 : decode cX7_whoSparesMost 43 = .ok (.istore 5, 2) := by decide +kernel
theorem dX7_whoSparesMost_45 : decode cX7_whoSparesMost 45 = .ok (.iload 5, 2) := by decide +kernel
theorem dX7_whoSparesMost_47 : decode cX7_whoSparesMost 47 = .ok (.iload_n 3, 1) := by decide +kernel
theorem dX7_whoSparesMost_48 : decode cX7_whoSparesMost 48 = .ok (.if_icmp .le 9, 3) := by decide +kernel
theorem dX7_whoSparesMost_51 : decode cX7_whoSparesMost 51 = .ok (.iload 5, 2) := by decide +kernel
theorem dX7_whoSparesMost_53 : decode cX7_whoSparesMost 53 = .ok (.istore_n 3, 1) := by decide +kernel
theorem dX7_whoSparesMost_54 : decode cX7_whoSparesMost 54 = .ok (.iload 4, 2) := by decide +kernel
theorem dX7_whoSparesMost_56 : decode cX7_whoSparesMost 56 = .ok (.istore_n 2, 1) := by decide +kernel
theorem dX7_whoSparesMost_57 : decode cX7_whoSparesMost 57 = .ok (.iinc 4 1, 3) := by decide +kernel
theorem dX7_whoSparesMost_60 : decode cX7_whoSparesMost 60 = .ok (.goto (-53), 3) := by decide +kernel
theorem dX7_whoSparesMost_63 : decode cX7_whoSparesMost 63 = .ok (.iload_n 2, 1) := by decide +kernel
theorem dX7_whoSparesMost_64 : decode cX7_whoSparesMost 64 = .ok (.ireturn, 1) := by decide +kernel
theorem dX7_give_0 : decode cX7_give 0 = .ok (.aload_n 1, 1) := by decide +kernel
theorem dX7_give_1 : decode cX7_give 1 = .ok (.getfield 116, 3) := by decide +kernel
theorem dX7_give_4 : decode cX7_give 4 = .ok (.aload_n 1, 1) := by decide +kernel
theorem dX7_give_5 : decode cX7_give 5 = .ok (.getfield 165, 3) := by decide +kernel
theorem dX7_give_8 : decode cX7_give 8 = .ok (.aload_n 1, 1) := by decide +kernel
theorem dX7_give_9 : decode cX7_give 9 = .ok (.getfield 143, 3) := by decide +kernel
theorem dX7_give_12 : decode cX7_give 12 = .ok (.iload_n 2, 1) := by decide +kernel
theorem dX7_give_13 : decode cX7_give 13 = .ok (.isub, 1) := by decide +kernel
theorem dX7_give_14 : decode cX7_give 14 = .ok (.invokevirtual 218, 3) := by decide +kernel
theorem dX7_give_17 : decode cX7_give 17 = .ok (.if_icmp .le 28, 3) := by decide +kernel
theorem dX7_give_20 : decode cX7_give 20 = .ok (.aload_n 0, 1) := by decide +kernel
theorem dX7_give_21 : decode cX7_give 21 = .ok (.aload_n 1, 1) := by decide +kernel
theorem dX7_give_22 : decode cX7_give 22 = .ok (.invokevirtual 122, 3) := by decide +kernel
theorem dX7_give_25 : decode cX7_give 25 = .ok (.istore_n 3, 1) := by decide +kernel
theorem dX7_give_26 : decode cX7_give 26 = .ok (.aload_n 1, 1) := by decide +kernel
theorem dX7_give_27 : decode cX7_give 27 = .ok (.getfield 71, 3) := by decide +kernel
theorem dX7_give_30 : decode cX7_give 30 = .ok (.iconst 2, 1) := by decide +kernel
theorem dX7_give_31 : decode cX7_give 31 = .ok (.if_icmp .eq 14, 3) := by decide +kernel
theorem dX7_give_34 : decode cX7_give 34 = .ok (.aload_n 1, 1) := by decide +kernel
theorem dX7_give_35 : decode cX7_give 35 = .ok (.aload_n 1, 1) := by decide +kernel
theorem dX7_give_36 : decode cX7_give 36 = .ok (.getfield 86, 3) := by decide +kernel
theorem dX7_give_39 : decode cX7_give 39 = .ok (.iload_n 3, 1) := by decide +kernel
theorem dX7_give_40 : decode cX7_give 40 = .ok (.iadd, 1) := by decide +kernel
theorem dX7_give_41 : decode cX7_give 41 = .ok (.iconst 1, 1) := by decide +kernel
theorem dX7_give_42 : decode cX7_give 42 = .ok (.invokevirtual 89, 3) := by decide +kernel
theorem dX7_give_45 : decode cX7_give 45 = .ok (.aload_n 1, 1) := by decide +kernel
theorem dX7_give_46 : decode cX7_give 46 = .ok (.dup, 1) := by decide +kernel
theorem dX7_give_47 : decode cX7_give 47 = .ok (.getfield 143, 3) := by decide +kernel
theorem dX7_give_50 : decode cX7_give 50 = .ok (.iload_n 2, 1) := by decide +kernel
theorem dX7_give_51 : decode cX7_give 51 = .ok (.isub, 1) := by decide +kernel
theorem dX7_give_52 : decode cX7_give 52 = .ok (.putfield 143, 3) := by decide +kernel
theorem dX7_give_55 : decode cX7_give 55 = .ok (.aload_n 0, 1) := by decide +kernel
theorem dX7_give_56 : decode cX7_give 56 = .ok (.getfield 12, 3) := by decide +kernel
theorem dX7_give_59 : decode cX7_give 59 = .ok (.aload_n 0, 1) := by decide +kernel
theorem dX7_give_60 : decode cX7_give 60 = .ok (.getfield 32, 3) := by decide +kernel
theorem dX7_give_63 : decode cX7_give 63 = .ok (.aload_n 1, 1) := by decide +kernel
theorem dX7_give_64 : decode cX7_give 64 = .ok (.getfield 155, 3) := by decide +kernel
theorem dX7_give_67 : decode cX7_give 67 = .ok (.iconst 3, 1) := by decide +kernel
theorem dX7_give_68 : decode cX7_give 68 = .ok (.iload_n 2, 1) := by decide +kernel
theorem dX7_give_69 : decode cX7_give 69 = .ok (.invokevirtual 158, 3) := by decide +kernel
theorem dX7_give_72 : decode cX7_give 72 = .ok (.return_, 1) := by decide +kernel
theorem dX7_redeal_0 : decode cX7_redeal 0 = .ok (.iconst 0, 1) := by decide +kernel
theorem dX7_redeal_1 : decode cX7_redeal 1 = .ok (.istore_n 1, 1) := by decide +kernel
theorem dX7_redeal_2 : decode cX7_redeal 2 = .ok (.iload_n 1, 1) := by decide +kernel
theorem dX7_redeal_3 : decode cX7_redeal 3 = .ok (.aload_n 0, 1) := by decide +kernel
theorem dX7_redeal_4 : decode cX7_redeal 4 = .ok (.getfield 24, 3) := by decide +kernel
theorem dX7_redeal_7 : decode cX7_redeal 7 = .ok (.if_icmp .ge 44, 3) := by decide +kernel
theorem dX7_redeal_10 : decode cX7_redeal 10 = .ok (.aload_n 0, 1) := by decide +kernel
theorem dX7_redeal_11 : decode cX7_redeal 11 = .ok (.getfield 20, 3) := by decide +kernel
theorem dX7_redeal_14 : decode cX7_redeal 14 = .ok (.iload_n 1, 1) := by decide +kernel
theorem dX7_redeal_15 : decode cX7_redeal 15 = .ok (.aaload, 1) := by decide +kernel
theorem dX7_redeal_16 : decode cX7_redeal 16 = .ok (.getfield 71, 3) := by decide +kernel
theorem dX7_redeal_19 : decode cX7_redeal 19 = .ok (.iconst 2, 1) := by decide +kernel
theorem dX7_redeal_20 : decode cX7_redeal 20 = .ok (.if_icmp .ne 25, 3) := by decide +kernel
theorem dX7_redeal_23 : decode cX7_redeal 23 = .ok (.aload_n 0, 1) := by decide +kernel
theorem dX7_redeal_24 : decode cX7_redeal 24 = .ok (.getfield 20, 3) := by decide +kernel
theorem dX7_redeal_27 : decode cX7_redeal 27 = .ok (.iload_n 1, 1) := by decide +kernel
theorem dX7_redeal_28 : decode cX7_redeal 28 = .ok (.aaload, 1) := by decide +kernel
theorem dX7_redeal_29 : decode cX7_redeal 29 = .ok (.getfield 137, 3) := by decide +kernel
theorem dX7_redeal_32 : decode cX7_redeal 32 = .ok (.ifCond .ne 13, 3) := by decide +kernel
theorem dX7_redeal_35 : decode cX7_redeal 35 = .ok (.aload_n 0, 1) := by decide +kernel
theorem dX7_redeal_36 : decode cX7_redeal 36 = .ok (.aload_n 0, 1) := by decide +kernel
theorem dX7_redeal_37 : decode cX7_redeal 37 = .ok (.getfield 20, 3) := by decide +kernel
theorem dX7_redeal_40 : decode cX7_redeal 40 = .ok (.iload_n 1, 1) := by decide +kernel
theorem dX7_redeal_41 : decode cX7_redeal 41 = .ok (.aaload, 1) := by decide +kernel
theorem dX7_redeal_42 : decode cX7_redeal 42 = .ok (.invokevirtual 221, 3) := by decide +kernel
theorem dX7_redeal_45 : decode cX7_redeal 45 = .ok (.iinc 1 1, 3) := by decide +kernel
theorem dX7_redeal_48 : decode cX7_redeal 48 = .ok (.goto (-46), 3) := by decide +kernel
theorem dX7_redeal_51 : decode cX7_redeal 51 = .ok (.iconst 1, 1) := by decide +kernel
theorem dX7_redeal_52 : decode cX7_redeal 52 = .ok (.istore_n 1, 1) := by decide +kernel
theorem dX7_redeal_53 : decode cX7_redeal 53 = .ok (.iconst 0, 1) := by decide +kernel
theorem dX7_redeal_54 : decode cX7_redeal 54 = .ok (.istore_n 2, 1) := by decide +kernel
theorem dX7_redeal_55 : decode cX7_redeal 55 = .ok (.iload_n 2, 1) := by decide +kernel
theorem dX7_redeal_56 : decode cX7_redeal 56 = .ok (.aload_n 0, 1) := by decide +kernel
theorem dX7_redeal_57 : decode cX7_redeal 57 = .ok (.getfield 38, 3) := by decide +kernel
theorem dX7_redeal_60 : decode cX7_redeal 60 = .ok (.getfield 224, 3) := by decide +kernel
theorem dX7_redeal_63 : decode cX7_redeal 63 = .ok (.if_icmp .ge 18, 3) := by decide +kernel
theorem dX7_redeal_66 : decode cX7_redeal 66 = .ok (.iload_n 1, 1) := by decide +kernel
theorem dX7_redeal_67 : decode cX7_redeal 67 = .ok (.ifCond .eq 14, 3) := by decide +kernel
theorem dX7_redeal_70 : decode cX7_redeal 70 = .ok (.aload_n 0, 1) := by decide +kernel
theorem dX7_redeal_71 : decode cX7_redeal 71 = .ok (.invokevirtual 227, 3) := by decide +kernel
theorem dX7_redeal_74 : decode cX7_redeal 74 = .ok (.istore_n 1, 1) := by decide +kernel
theorem dX7_redeal_75 : decode cX7_redeal 75 = .ok (.iinc 2 1, 3) := by decide +kernel
theorem dX7_redeal_78 : decode cX7_redeal 78 = .ok (.goto (-23), 3) := by decide +kernel
theorem dX7_redeal_81 : decode cX7_redeal 81 = .ok (.iconst 0, 1) := by decide +kernel
theorem dX7_redeal_82 : decode cX7_redeal 82 = .ok (.istore_n 2, 1) := by decide +kernel
theorem dX7_redeal_83 : decode cX7_redeal 83 = .ok (.iload_n 2, 1) := by decide +kernel
theorem dX7_redeal_84 : decode cX7_redeal 84 = .ok (.aload_n 0, 1) := by decide +kernel
theorem dX7_redeal_85 : decode cX7_redeal 85 = .ok (.getfield 24, 3) := by decide +kernel
theorem dX7_redeal_88 : decode cX7_redeal 88 = .ok (.if_icmp .ge 19, 3) := by decide +kernel
theorem dX7_redeal_91 : decode cX7_redeal 91 = .ok (.aload_n 0, 1) := by decide +kernel
theorem dX7_redeal_92 : decode cX7_redeal 92 = .ok (.getfield 20, 3) := by decide +kernel
theorem dX7_redeal_95 : decode cX7_redeal 95 = .ok (.iload_n 2, 1) := by decide +kernel
theorem dX7_redeal_96 : decode cX7_redeal 96 = .ok (.aaload, 1) := by decide +kernel
theorem dX7_redeal_97 : decode cX7_redeal 97 = .ok (.iconst 0, 1) := by decide +kernel
theorem dX7_redeal_98 : decode cX7_redeal 98 = .ok (.putfield 230, 3) := by decide +kernel
theorem dX7_redeal_101 : decode cX7_redeal 101 = .ok (.iinc 2 1, 3) := by decide +kernel
theorem dX7_redeal_104 : decode cX7_redeal 104 = .ok (.goto (-21), 3) := by decide +kernel
theorem dX7_redeal_107 : decode cX7_redeal 107 = .ok (.return_, 1) := by decide +kernel
theorem dX7_squeeze_0 : decode cX7_squeeze 0 = .ok (.aload_n 1, 1) := by decide +kernel
theorem dX7_squeeze_1 : decode cX7_squeeze 1 = .ok (.getfield 116, 3) := by decide +kernel
theorem dX7_squeeze_4 : decode cX7_squeeze 4 = .ok (.aload_n 1, 1) := by decide +kernel
theorem dX7_squeeze_5 : decode cX7_squeeze 5 = .ok (.getfield 103, 3) := by decide +kernel
theorem dX7_squeeze_8 : decode cX7_squeeze 8 = .ok (.getfield 119, 3) := by decide +kernel
theorem dX7_squeeze_11 : decode cX7_squeeze 11 = .ok (.if_icmp .le 9, 3) := by decide +kernel
theorem dX7_squeeze_14 : decode cX7_squeeze 14 = .ok (.aload_n 0, 1) := by decide +kernel
theorem dX7_squeeze_15 : decode cX7_squeeze 15 = .ok (.aload_n 1, 1) := by decide +kernel
theorem dX7_squeeze_16 : decode cX7_squeeze 16 = .ok (.invokevirtual 122, 3) := by decide +kernel
theorem dX7_squeeze_19 : decode cX7_squeeze 19 = .ok (.pop, 1) := by decide +kernel
theorem dX7_squeeze_20 : decode cX7_squeeze 20 = .ok (.aload_n 1, 1) := by decide +kernel
theorem dX7_squeeze_21 : decode cX7_squeeze 21 = .ok (.aload_n 0, 1) := by decide +kernel
theorem dX7_squeeze_22 : decode cX7_squeeze 22 = .ok (.getfield 38, 3) := by decide +kernel
theorem dX7_squeeze_25 : decode cX7_squeeze 25 = .ok (.invokevirtual 207, 3) := by decide +kernel
theorem dX7_squeeze_28 : decode cX7_squeeze 28 = .ok (.istore_n 2, 1) := by decide +kernel
theorem dX7_squeeze_29 : decode cX7_squeeze 29 = .ok (.aload_n 1, 1) := by decide +kernel
theorem dX7_squeeze_30 : decode cX7_squeeze 30 = .ok (.iconst 1, 1) := by decide +kernel
theorem dX7_squeeze_31 : decode cX7_squeeze 31 = .ok (.putfield 137, 3) := by decide +kernel
theorem dX7_squeeze_34 : decode cX7_squeeze 34 = .ok (.aload_n 1, 1) := by decide +kernel
theorem dX7_squeeze_35 : decode cX7_squeeze 35 = .ok (.aload_n 1, 1) := by decide +kernel
theorem dX7_squeeze_36 : decode cX7_squeeze 36 = .ok (.getfield 143, 3) := by decide +kernel
theorem dX7_squeeze_39 : decode cX7_squeeze 39 = .ok (.putfield 140, 3) := by decide +kernel
theorem dX7_squeeze_42 : decode cX7_squeeze 42 = .ok (.aload_n 1, 1) := by decide +kernel
theorem dX7_squeeze_43 : decode cX7_squeeze 43 = .ok (.dup, 1) := by decide +kernel
theorem dX7_squeeze_44 : decode cX7_squeeze 44 = .ok (.getfield 143, 3) := by decide +kernel
theorem dX7_squeeze_47 : decode cX7_squeeze 47 = .ok (.iload_n 2, 1) := by decide +kernel
theorem dX7_squeeze_48 : decode cX7_squeeze 48 = .ok (.isub, 1) := by decide +kernel
theorem dX7_squeeze_49 : decode cX7_squeeze 49 = .ok (.putfield 143, 3) := by decide +kernel
theorem dX7_squeeze_52 : decode cX7_squeeze 52 = .ok (.aload_n 0, 1) := by decide +kernel
theorem dX7_squeeze_53 : decode cX7_squeeze 53 = .ok (.dup, 1) := by decide +kernel
theorem dX7_squeeze_54 : decode cX7_squeeze 54 = .ok (.getfield 35, 3) := by decide +kernel
theorem dX7_squeeze_57 : decode cX7_squeeze 57 = .ok (.iload_n 2, 1) := by decide +kernel
theorem dX7_squeeze_58 : decode cX7_squeeze 58 = .ok (.iadd, 1) := by decide +kernel
theorem dX7_squeeze_59 : decode cX7_squeeze 59 = .ok (.putfield 35, 3) := by decide +kernel
theorem dX7_squeeze_62 : decode cX7_squeeze 62 = .ok (.aload_n 0, 1) := by decide +kernel
theorem dX7_squeeze_63 : decode cX7_squeeze 63 = .ok (.getfield 12, 3) := by decide +kernel
theorem dX7_squeeze_66 : decode cX7_squeeze 66 = .ok (.aload_n 0, 1) := by decide +kernel
theorem dX7_squeeze_67 : decode cX7_squeeze 67 = .ok (.getfield 32, 3) := by decide +kernel
theorem dX7_squeeze_70 : decode cX7_squeeze 70 = .ok (.aload_n 1, 1) := by decide +kernel
theorem dX7_squeeze_71 : decode cX7_squeeze 71 = .ok (.getfield 155, 3) := by decide +kernel
theorem dX7_squeeze_74 : decode cX7_squeeze 74 = .ok (.iconst 4, 1) := by decide +kernel
theorem dX7_squeeze_75 : decode cX7_squeeze 75 = .ok (.iload_n 2, 1) := by decide +kernel
theorem dX7_squeeze_76 : decode cX7_squeeze 76 = .ok (.invokevirtual 158, 3) := by decide +kernel
theorem dX7_squeeze_79 : decode cX7_squeeze 79 = .ok (.return_, 1) := by decide +kernel
theorem dX7_movesStep_0 : decode cX7_movesStep 0 = .ok (.aload_n 0, 1) := by decide +kernel
theorem dX7_movesStep_1 : decode cX7_movesStep 1 = .ok (.invokevirtual 233, 3) := by decide +kernel
theorem dX7_movesStep_4 : decode cX7_movesStep 4 = .ok (.istore_n 1, 1) := by decide +kernel
theorem dX7_movesStep_5 : decode cX7_movesStep 5 = .ok (.iload_n 1, 1) := by decide +kernel
theorem dX7_movesStep_6 : decode cX7_movesStep 6 = .ok (.iconst (-1), 1) := by decide +kernel
theorem dX7_movesStep_7 : decode cX7_movesStep 7 = .ok (.if_icmp .ne 5, 3) := by decide +kernel
theorem dX7_movesStep_10 : decode cX7_movesStep 10 = .ok (.iconst 0, 1) := by decide +kernel
theorem dX7_movesStep_11 : decode cX7_movesStep 11 = .ok (.ireturn, 1) := by decide +kernel
theorem dX7_movesStep_12 : decode cX7_movesStep 12 = .ok (.aload_n 0, 1) := by decide +kernel
theorem dX7_movesStep_13 : decode cX7_movesStep 13 = .ok (.getfield 35, 3) := by decide +kernel
theorem dX7_movesStep_16 : decode cX7_movesStep 16 = .ok (.aload_n 0, 1) := by decide +kernel
theorem dX7_movesStep_17 : decode cX7_movesStep 17 = .ok (.getfield 38, 3) := by decide +kernel
theorem dX7_movesStep_20 : decode cX7_movesStep 20 = .ok (.getfield 236, 3) := by decide +kernel
theorem dX7_movesStep_23 : decode cX7_movesStep 23 = .ok (.aload_n 0, 1) := by decide +kernel
theorem dX7_movesStep_24 : decode cX7_movesStep 24 = .ok (.getfield 38, 3) := by decide +kernel
theorem dX7_movesStep_27 : decode cX7_movesStep 27 = .ok (.getfield 53, 3) := by decide +kernel
theorem dX7_movesStep_30 : decode cX7_movesStep 30 = .ok (.iadd, 1) := by decide +kernel
theorem dX7_movesStep_31 : decode cX7_movesStep 31 = .ok (.if_icmp .lt 22, 3) := by decide +kernel
theorem dX7_movesStep_34 : decode cX7_movesStep 34 = .ok (.aload_n 0, 1) := by decide +kernel
theorem dX7_movesStep_35 : decode cX7_movesStep 35 = .ok (.dup, 1) := by decide +kernel
theorem dX7_movesStep_36 : decode cX7_movesStep 36 = .ok (.getfield 35, 3) := by decide +kernel
theorem dX7_movesStep_39 : decode cX7_movesStep 39 = .ok (.aload_n 0, 1) := by decide +kernel
theorem dX7_movesStep_40 : decode cX7_movesStep 40 = .ok (.getfield 38, 3) := by decide +kernel
theorem dX7_movesStep_43 : decode cX7_movesStep 43 = .ok (.getfield 53, 3) := by decide +kernel
theorem dX7_movesStep_46 : decode cX7_movesStep 46 = .ok (.isub, 1) := by decide +kernel
theorem dX7_movesStep_47 : decode cX7_movesStep 47 = .ok (.putfield 35, 3) := by decide +kernel
theorem dX7_movesStep_50 : decode cX7_movesStep 50 = .ok (.goto 63, 3) := by decide +kernel
theorem dX7_movesStep_53 : decode cX7_movesStep 53 = .ok (.aload_n 0, 1) := by decide +kernel
theorem dX7_movesStep_54 : decode cX7_movesStep 54 = .ok (.iload_n 1, 1) := by decide +kernel
theorem dX7_movesStep_55 : decode cX7_movesStep 55 = .ok (.invokevirtual 239, 3) := by decide +kernel
theorem dX7_movesStep_58 : decode cX7_movesStep 58 = .ok (.istore_n 2, 1) := by decide +kernel
theorem dX7_movesStep_59 : decode cX7_movesStep 59 = .ok (.iload_n 2, 1) := by decide +kernel
theorem dX7_movesStep_60 : decode cX7_movesStep 60 = .ok (.iconst (-1), 1) := by decide +kernel
theorem dX7_movesStep_61 : decode cX7_movesStep 61 = .ok (.if_icmp .eq 33, 3) := by decide +kernel
theorem dX7_movesStep_64 : decode cX7_movesStep 64 = .ok (.aload_n 0, 1) := by decide +kernel
theorem dX7_movesStep_65 : decode cX7_movesStep 65 = .ok (.getfield 20, 3) := by decide +kernel
theorem dX7_movesStep_68 : decode cX7_movesStep 68 = .ok (.iload_n 2, 1) := by decide +kernel
theorem dX7_movesStep_69 : decode cX7_movesStep 69 = .ok (.aaload, 1) := by decide +kernel
theorem dX7_movesStep_70 : decode cX7_movesStep 70 = .ok (.aload_n 0, 1) := by decide +kernel
theorem dX7_movesStep_71 : decode cX7_movesStep 71 = .ok (.getfield 38, 3) := by decide +kernel
theorem dX7_movesStep_74 : decode cX7_movesStep 74 = .ok (.invokevirtual 242, 3) := by decide +kernel
theorem dX7_movesStep_77 : decode cX7_movesStep 77 = .ok (.aload_n 0, 1) := by decide +kernel
theorem dX7_movesStep_78 : decode cX7_movesStep 78 = .ok (.getfield 20, 3) := by decide +kernel
theorem dX7_movesStep_81 : decode cX7_movesStep 81 = .ok (.iload_n 1, 1) := by decide +kernel
theorem dX7_movesStep_82 : decode cX7_movesStep 82 = .ok (.aaload, 1) := by decide +kernel
theorem dX7_movesStep_83 : decode cX7_movesStep 83 = .ok (.aload_n 0, 1) := by decide +kernel
theorem dX7_movesStep_84 : decode cX7_movesStep 84 = .ok (.getfield 38, 3) := by decide +kernel
theorem dX7_movesStep_87 : decode cX7_movesStep 87 = .ok (.invokevirtual 246, 3) := by decide +kernel
theorem dX7_movesStep_90 : decode cX7_movesStep 90 = .ok (.lcmp, 1) := by decide +kernel
theorem dX7_movesStep_91 : decode cX7_movesStep 91 = .ok (.ifCond .lt 5, 3) := by decide +kernel
theorem dX7_movesStep_94 : decode cX7_movesStep 94 = .ok (.iconst 0, 1) := by decide +kernel
theorem dX7_movesStep_95 : decode cX7_movesStep 95 = .ok (.ireturn, 1) := by decide +kernel
theorem dX7_movesStep_96 : decode cX7_movesStep 96 = .ok (.aload_n 0, 1) := by decide +kernel
theorem dX7_movesStep_97 : decode cX7_movesStep 97 = .ok (.aload_n 0, 1) := by decide +kernel
theorem dX7_movesStep_98 : decode cX7_movesStep 98 = .ok (.getfield 20, 3) := by decide +kernel
theorem dX7_movesStep_101 : decode cX7_movesStep 101 = .ok (.iload_n 2, 1) := by decide +kernel
theorem dX7_movesStep_102 : decode cX7_movesStep 102 = .ok (.aaload, 1) := by decide +kernel
theorem dX7_movesStep_103 : decode cX7_movesStep 103 = .ok (.aload_n 0, 1) := by decide +kernel
theorem dX7_movesStep_104 : decode cX7_movesStep 104 = .ok (.getfield 38, 3) := by decide +kernel
theorem dX7_movesStep_107 : decode cX7_movesStep 107 = .ok (.getfield 53, 3) := by decide +kernel
theorem dX7_movesStep_110 : decode cX7_movesStep 110 = .ok (.invokevirtual 211, 3) := by decide +kernel
theorem dX7_movesStep_113 : decode cX7_movesStep 113 = .ok (.aload_n 0, 1) := by decide +kernel
theorem dX7_movesStep_114 : decode cX7_movesStep 114 = .ok (.getfield 20, 3) := by decide +kernel
theorem dX7_movesStep_117 : decode cX7_movesStep 117 = .ok (.iload_n 1, 1) := by decide +kernel
theorem dX7_movesStep_118 : decode cX7_movesStep 118 = .ok (.aaload, 1) := by decide +kernel
theorem dX7_movesStep_119 : decode cX7_movesStep 119 = .ok (.dup, 1) := by decide +kernel
theorem dX7_movesStep_120 : decode cX7_movesStep 120 = .ok (.getfield 143, 3) := by decide +kernel
theorem dX7_movesStep_123 : decode cX7_movesStep 123 = .ok (.aload_n 0, 1) := by decide +kernel
theorem dX7_movesStep_124 : decode cX7_movesStep 124 = .ok (.getfield 38, 3) := by decide +kernel
theorem dX7_movesStep_127 : decode cX7_movesStep 127 = .ok (.getfield 53, 3) := by decide +kernel
theorem dX7_movesStep_130 : decode cX7_movesStep 130 = .ok (.iadd, 1) := by decide +kernel
theorem dX7_movesStep_131 : decode cX7_movesStep 131 = .ok (.putfield 143, 3) := by decide +kernel
theorem dX7_movesStep_134 : decode cX7_movesStep 134 = .ok (.aload_n 0, 1) := by decide +kernel
theorem dX7_movesStep_135 : decode cX7_movesStep 135 = .ok (.getfield 12, 3) := by decide +kernel
theorem dX7_movesStep_138 : decode cX7_movesStep 138 = .ok (.aload_n 0, 1) := by decide +kernel
theorem dX7_movesStep_139 : decode cX7_movesStep 139 = .ok (.getfield 32, 3) := by decide +kernel
theorem dX7_movesStep_142 : decode cX7_movesStep 142 = .ok (.iload_n 1, 1) := by decide +kernel
theorem dX7_movesStep_143 : decode cX7_movesStep 143 = .ok (.bipush 8, 2) := by decide +kernel
theorem dX7_movesStep_145 : decode cX7_movesStep 145 = .ok (.aload_n 0, 1) := by decide +kernel
theorem dX7_movesStep_146 : decode cX7_movesStep 146 = .ok (.getfield 38, 3) := by decide +kernel
theorem dX7_movesStep_149 : decode cX7_movesStep 149 = .ok (.getfield 53, 3) := by decide +kernel
theorem dX7_movesStep_152 : decode cX7_movesStep 152 = .ok (.invokevirtual 158, 3) := by decide +kernel
theorem dX7_movesStep_155 : decode cX7_movesStep 155 = .ok (.iconst 1, 1) := by decide +kernel
theorem dX7_movesStep_156 : decode cX7_movesStep 156 = .ok (.ireturn, 1) := by decide +kernel
theorem dX7_whoGainsMost_0 : decode cX7_whoGainsMost 0 = .ok (.iconst (-1), 1) := by decide +kernel
theorem dX7_whoGainsMost_1 : decode cX7_whoGainsMost 1 = .ok (.istore_n 1, 1) := by decide +kernel
theorem dX7_whoGainsMost_2 : decode cX7_whoGainsMost 2 = .ok (.lconst 0, 1) := by decide +kernel
theorem dX7_whoGainsMost_3 : decode cX7_whoGainsMost 3 = .ok (.lstore_n 2, 1) := by decide +kernel
theorem dX7_whoGainsMost_4 : decode cX7_whoGainsMost 4 = .ok (.iconst 0, 1) := by decide +kernel
theorem dX7_whoGainsMost_5 : decode cX7_whoGainsMost 5 = .ok (.istore 4, 2) := by decide +kernel
theorem dX7_whoGainsMost_7 : decode cX7_whoGainsMost 7 = .ok (.iload 4, 2) := by decide +kernel
theorem dX7_whoGainsMost_9 : decode cX7_whoGainsMost 9 = .ok (.aload_n 0, 1) := by decide +kernel
theorem dX7_whoGainsMost_10 : decode cX7_whoGainsMost 10 = .ok (.getfield 24, 3) := by decide +kernel
theorem dX7_whoGainsMost_13 : decode cX7_whoGainsMost 13 = .ok (.if_icmp .ge 38, 3) := by decide +kernel
theorem dX7_whoGainsMost_16 : decode cX7_whoGainsMost 16 = .ok (.aload_n 0, 1) := by decide +kernel
theorem dX7_whoGainsMost_17 : decode cX7_whoGainsMost 17 = .ok (.getfield 20, 3) := by decide +kernel
theorem dX7_whoGainsMost_20 : decode cX7_whoGainsMost 20 = .ok (.iload 4, 2) := by decide +kernel
theorem dX7_whoGainsMost_22 : decode cX7_whoGainsMost 22 = .ok (.aaload, 1) := by decide +kernel
theorem dX7_whoGainsMost_23 : decode cX7_whoGainsMost 23 = .ok (.aload_n 0, 1) := by decide +kernel
theorem dX7_whoGainsMost_24 : decode cX7_whoGainsMost 24 = .ok (.getfield 38, 3) := by decide +kernel
theorem dX7_whoGainsMost_27 : decode cX7_whoGainsMost 27 = .ok (.invokevirtual 246, 3) := by decide +kernel
theorem dX7_whoGainsMost_30 : decode cX7_whoGainsMost 30 = .ok (.lstore 5, 2) := by decide +kernel
theorem dX7_whoGainsMost_32 : decode cX7_whoGainsMost 32 = .ok (.lload 5, 2) := by decide +kernel
theorem dX7_whoGainsMost_34 : decode cX7_whoGainsMost 34 = .ok (.lload_n 2, 1) := by decide +kernel
theorem dX7_whoGainsMost_35 : decode cX7_whoGainsMost 35 = .ok (.lcmp, 1) := by decide +kernel
theorem dX7_whoGainsMost_36 : decode cX7_whoGainsMost 36 = .ok (.ifCond .le 9, 3) := by decide +kernel
theorem dX7_whoGainsMost_39 : decode cX7_whoGainsMost 39 = .ok (.lload 5, 2) := by decide +kernel
theorem dX7_whoGainsMost_41 : decode cX7_whoGainsMost 41 = .ok (.lstore_n 2, 1) := by decide +kernel
theorem dX7_whoGainsMost_42 : decode cX7_whoGainsMost 42 = .ok (.iload 4, 2) := by decide +kernel
theorem dX7_whoGainsMost_44 : decode cX7_whoGainsMost 44 = .ok (.istore_n 1, 1) := by decide +kernel
theorem dX7_whoGainsMost_45 : decode cX7_whoGainsMost 45 = .ok (.iinc 4 1, 3) := by decide +kernel
theorem dX7_whoGainsMost_48 : decode cX7_whoGainsMost 48 = .ok (.goto (-41), 3) := by decide +kernel
theorem dX7_whoGainsMost_51 : decode cX7_whoGainsMost 51 = .ok (.iload_n 1, 1) := by decide +kernel
theorem dX7_whoGainsMost_52 : decode cX7_whoGainsMost 52 = .ok (.ireturn, 1) := by decide +kernel
theorem dX7_whoLosesLeast_0 : decode cX7_whoLosesLeast 0 = .ok (.iconst (-1), 1) := by decide +kernel
theorem dX7_whoLosesLeast_1 : decode cX7_whoLosesLeast 1 = .ok (.istore_n 2, 1) := by decide +kernel
theorem dX7_whoLosesLeast_2 : decode cX7_whoLosesLeast 2 = .ok (.lconst 0, 1) := by decide +kernel
theorem dX7_whoLosesLeast_3 : decode cX7_whoLosesLeast 3 = .ok (.lstore_n 3, 1) := by decide +kernel
theorem dX7_whoLosesLeast_4 : decode cX7_whoLosesLeast 4 = .ok (.iconst 0, 1) := by decide +kernel
theorem dX7_whoLosesLeast_5 : decode cX7_whoLosesLeast 5 = .ok (.istore 5, 2) := by decide +kernel
theorem dX7_whoLosesLeast_7 : decode cX7_whoLosesLeast 7 = .ok (.iload 5, 2) := by decide +kernel
theorem dX7_whoLosesLeast_9 : decode cX7_whoLosesLeast 9 = .ok (.aload_n 0, 1) := by decide +kernel
theorem dX7_whoLosesLeast_10 : decode cX7_whoLosesLeast 10 = .ok (.getfield 24, 3) := by decide +kernel
theorem dX7_whoLosesLeast_13 : decode cX7_whoLosesLeast 13 = .ok (.if_icmp .ge 64, 3) := by decide +kernel
theorem dX7_whoLosesLeast_16 : decode cX7_whoLosesLeast 16 = .ok (.iload 5, 2) := by decide +kernel
theorem dX7_whoLosesLeast_18 : decode cX7_whoLosesLeast 18 = .ok (.iload_n 1, 1) := by decide +kernel
theorem dX7_whoLosesLeast_19 : decode cX7_whoLosesLeast 19 = .ok (.if_icmp .ne 9, 3) := by decide +kernel
theorem dX7_whoLosesLeast_22 : decode cX7_whoLosesLeast 22 = .ok (.ldc2_w 249, 3) := by decide +kernel
theorem dX7_whoLosesLeast_25 : decode cX7_whoLosesLeast 25 = .ok (.goto 17, 3) := by decide +kernel
theorem dX7_whoLosesLeast_28 : decode cX7_whoLosesLeast 28 = .ok (.aload_n 0, 1) := by decide +kernel
theorem dX7_whoLosesLeast_29 : decode cX7_whoLosesLeast 29 = .ok (.getfield 20, 3) := by decide +kernel
theorem dX7_whoLosesLeast_32 : decode cX7_whoLosesLeast 32 = .ok (.iload 5, 2) := by decide +kernel
theorem dX7_whoLosesLeast_34 : decode cX7_whoLosesLeast 34 = .ok (.aaload, 1) := by decide +kernel
theorem dX7_whoLosesLeast_35 : decode cX7_whoLosesLeast 35 = .ok (.aload_n 0, 1) := by decide +kernel
theorem dX7_whoLosesLeast_36 : decode cX7_whoLosesLeast 36 = .ok (.getfield 38, 3) := by decide +kernel
theorem dX7_whoLosesLeast_39 : decode cX7_whoLosesLeast 39 = .ok (.invokevirtual 242, 3) := by decide +kernel
theorem dX7_whoLosesLeast_42 : decode cX7_whoLosesLeast 42 = .ok (.lstore 6, 2) := by decide +kernel
theorem dX7_whoLosesLeast_44 : decode cX7_whoLosesLeast 44 = .ok (.lload 6, 2) := by decide +kernel
theorem dX7_whoLosesLeast_46 : decode cX7_whoLosesLeast 46 = .ok (.ldc2_w 249, 3) := by decide +kernel
theorem dX7_whoLosesLeast_49 : decode cX7_whoLosesLeast 49 = .ok (.lcmp, 1) := by decide +kernel
theorem dX7_whoLosesLeast_50 : decode cX7_whoLosesLeast 50 = .ok (.ifCond .eq 21, 3) := by decide +kernel
theorem dX7_whoLosesLeast_53 : decode cX7_whoLosesLeast 53 = .ok (.iload_n 2, 1) := by decide +kernel
theorem dX7_whoLosesLeast_54 : decode cX7_whoLosesLeast 54 = .ok (.iconst (-1), 1) := by decide +kernel
theorem dX7_whoLosesLeast_55 : decode cX7_whoLosesLeast 55 = .ok (.if_icmp .eq 10, 3) := by decide +kernel
theorem dX7_whoLosesLeast_58 : decode cX7_whoLosesLeast 58 = .ok (.lload 6, 2) := by decide +kernel
theorem dX7_whoLosesLeast_60 : decode cX7_whoLosesLeast 60 = .ok (.lload_n 3, 1) := by decide +kernel
theorem dX7_whoLosesLeast_61 : decode cX7_whoLosesLeast 61 = .ok (.lcmp, 1) := by decide +kernel
theorem dX7_whoLosesLeast_62 : decode cX7_whoLosesLeast 62 = .ok (.ifCond .ge 9, 3) := by decide +kernel
theorem dX7_whoLosesLeast_65 : decode cX7_whoLosesLeast 65 = .ok (.lload 6, 2) := by decide +kernel
theorem dX7_whoLosesLeast_67 : decode cX7_whoLosesLeast 67 = .ok (.lstore_n 3, 1) := by decide +kernel
theorem dX7_whoLosesLeast_68 : decode cX7_whoLosesLeast 68 = .ok (.iload 5, 2) := by decide +kernel
theorem dX7_whoLosesLeast_70 : decode cX7_whoLosesLeast 70 = .ok (.istore_n 2, 1) := by decide +kernel
theorem dX7_whoLosesLeast_71 : decode cX7_whoLosesLeast 71 = .ok (.iinc 5 1, 3) := by decide +kernel
theorem dX7_whoLosesLeast_74 : decode cX7_whoLosesLeast 74 = .ok (.goto (-67), 3) := by decide +kernel
theorem dX7_whoLosesLeast_77 : decode cX7_whoLosesLeast 77 = .ok (.iload_n 2, 1) := by decide +kernel
theorem dX7_whoLosesLeast_78 : decode cX7_whoLosesLeast 78 = .ok (.ireturn, 1) := by decide +kernel
end
section
theorem dX8_init_0 : decode cX8_init 0 = .ok (.aload_n 0, 1) := by decide +kernel
theorem dX8_init_1 : decode cX8_init 1 = .ok (.invokespecial 3, 3) := by decide +kernel
theorem dX8_init_4 : decode cX8_init 4 = .ok (.aload_n 0, 1) := by decide +kernel
theorem dX8_init_5 : decode cX8_init 5 = .ok (.new 9, 3) := by decide +kernel
theorem dX8_init_8 : decode cX8_init 8 = .ok (.dup, 1) := by decide +kernel
theorem dX8_init_9 : decode cX8_init 9 = .ok (.invokespecial 11, 3) := by decide +kernel
theorem dX8_init_12 : decode cX8_init 12 = .ok (.putfield 12, 3) := by decide +kernel
theorem dX8_init_15 : decode cX8_init 15 = .ok (.aload_n 0, 1) := by decide +kernel
theorem dX8_init_16 : decode cX8_init 16 = .ok (.bipush 65, 2) := by decide +kernel
theorem dX8_init_18 : decode cX8_init 18 = .ok (.newarray .int, 2) := by decide +kernel
theorem dX8_init_20 : decode cX8_init 20 = .ok (.putfield 18, 3) := by decide +kernel
theorem dX8_init_23 : decode cX8_init 23 = .ok (.aload_n 0, 1) := by decide +kernel
theorem dX8_init_24 : decode cX8_init 24 = .ok (.bipush 65, 2) := by decide +kernel
theorem dX8_init_26 : decode cX8_init 26 = .ok (.newarray .int, 2) := by decide +kernel
theorem dX8_init_28 : decode cX8_init 28 = .ok (.putfield 22, 3) := by decide +kernel
theorem dX8_init_31 : decode cX8_init 31 = .ok (.aload_n 0, 1) := by decide +kernel
theorem dX8_init_32 : decode cX8_init 32 = .ok (.bipush 65, 2) := by decide +kernel
theorem dX8_init_34 : decode cX8_init 34 = .ok (.newarray .int, 2) := by decide +kernel
theorem dX8_init_36 : decode cX8_init 36 = .ok (.putfield 25, 3) := by decide +kernel
theorem dX8_init_39 : decode cX8_init 39 = .ok (.return_, 1) := by decide +kernel
theorem dX8_pass_0 : decode cX8_pass 0 = .ok (.aload_n 0, 1) := by decide +kernel
theorem dX8_pass_1 : decode cX8_pass 1 = .ok (.iload 4, 2) := by decide +kernel
theorem dX8_pass_3 : decode cX8_pass 3 = .ok (.bipush 65, 2) := by decide +kernel
theorem dX8_pass_5 : decode cX8_pass 5 = .ok (.invokestatic 28, 3) := by decide +kernel
theorem dX8_pass_8 : decode cX8_pass 8 = .ok (.putfield 34, 3) := by decide +kernel
theorem dX8_pass_11 : decode cX8_pass 11 = .ok (.aload_n 0, 1) := by decide +kernel
theorem dX8_pass_12 : decode cX8_pass 12 = .ok (.iconst 0, 1) := by decide +kernel
theorem dX8_pass_13 : decode cX8_pass 13 = .ok (.putfield 38, 3) := by decide +kernel
theorem dX8_pass_16 : decode cX8_pass 16 = .ok (.aload_n 0, 1) := by decide +kernel
theorem dX8_pass_17 : decode cX8_pass 17 = .ok (.iconst 0, 1) := by decide +kernel
theorem dX8_pass_18 : decode cX8_pass 18 = .ok (.putfield 41, 3) := by decide +kernel
theorem dX8_pass_21 : decode cX8_pass 21 = .ok (.aload_n 0, 1) := by decide +kernel
theorem dX8_pass_22 : decode cX8_pass 22 = .ok (.getfield 12, 3) := by decide +kernel
theorem dX8_pass_25 : decode cX8_pass 25 = .ok (.invokevirtual 44, 3) := by decide +kernel
theorem dX8_pass_28 : decode cX8_pass 28 = .ok (.iconst 0, 1) := by decide +kernel
theorem dX8_pass_29 : decode cX8_pass 29 = .ok (.istore 5, 2) := by decide +kernel
theorem dX8_pass_31 : decode cX8_pass 31 = .ok (.iload 5, 2) := by decide +kernel
theorem dX8_pass_33 : decode cX8_pass 33 = .ok (.aload_n 0, 1) := by decide +kernel
theorem dX8_pass_34 : decode cX8_pass 34 = .ok (.getfield 34, 3) := by decide +kernel
theorem dX8_pass_37 : decode cX8_pass 37 = .ok (.if_icmp .ge 42, 3) := by decide +kernel
theorem dX8_pass_40 : decode cX8_pass 40 = .ok (.aload_n 0, 1) := by decide +kernel
theorem dX8_pass_41 : decode cX8_pass 41 = .ok (.getfield 18, 3) := by decide +kernel
theorem dX8_pass_44 : decode cX8_pass 44 = .ok (.iload 5, 2) := by decide +kernel
theorem dX8_pass_46 : decode cX8_pass 46 = .ok (.aload_n 1, 1) := by decide +kernel
theorem dX8_pass_47 : decode cX8_pass 47 = .ok (.iload_n 2, 1) := by decide +kernel
theorem dX8_pass_48 : decode cX8_pass 48 = .ok (.iload 5, 2) := by decide +kernel
theorem dX8_pass_50 : decode cX8_pass 50 = .ok (.iload_n 3, 1) := by decide +kernel
theorem dX8_pass_51 : decode cX8_pass 51 = .ok (.imul, 1) := by decide +kernel
theorem dX8_pass_52 : decode cX8_pass 52 = .ok (.iadd, 1) := by decide +kernel
theorem dX8_pass_53 : decode cX8_pass 53 = .ok (.invokevirtual 47, 3) := by decide +kernel
theorem dX8_pass_56 : decode cX8_pass 56 = .ok (.iastore, 1) := by decide +kernel
theorem dX8_pass_57 : decode cX8_pass 57 = .ok (.aload_n 0, 1) := by decide +kernel
theorem dX8_pass_58 : decode cX8_pass 58 = .ok (.getfield 22, 3) := by decide +kernel
theorem dX8_pass_61 : decode cX8_pass 61 = .ok (.iload 5, 2) := by decide +kernel
theorem dX8_pass_63 : decode cX8_pass 63 = .ok (.iconst 0, 1) := by decide +kernel
theorem dX8_pass_64 : decode cX8_pass 64 = .ok (.iastore, 1) := by decide +kernel
theorem dX8_pass_65 : decode cX8_pass 65 = .ok (.aload_n 0, 1) := by decide +kernel
theorem dX8_pass_66 : decode cX8_pass 66 = .ok (.getfield 25, 3) := by decide +kernel
theorem dX8_pass_69 : decode cX8_pass 69 = .ok (.iload 5, 2) := by decide +kernel
theorem dX8_pass_71 : decode cX8_pass 71 = .ok (.iconst 0, 1) := by decide +kernel
theorem dX8_pass_72 : decode cX8_pass 72 = .ok (.iastore, 1) := by decide +kernel
theorem dX8_pass_73 : decode cX8_pass 73 = .ok (.iinc 5 1, 3) := by decide +kernel
theorem dX8_pass_76 : decode cX8_pass 76 = .ok (.goto (-45), 3) := by decide +kernel
theorem dX8_pass_79 : decode cX8_pass 79 = .ok (.iconst 0, 1) := by decide +kernel
theorem dX8_pass_80 : decode cX8_pass 80 = .ok (.istore 5, 2) := by decide +kernel
theorem dX8_pass_82 : decode cX8_pass 82 = .ok (.iload 5, 2) := by decide +kernel
theorem dX8_pass_84 : decode cX8_pass 84 = .ok (.aload_n 1, 1) := by decide +kernel
theorem dX8_pass_85 : decode cX8_pass 85 = .ok (.getfield 52, 3) := by decide +kernel
theorem dX8_pass_88 : decode cX8_pass 88 = .ok (.if_icmp .ge 25, 3) := by decide +kernel
theorem dX8_pass_91 : decode cX8_pass 91 = .ok (.aload_n 0, 1) := by decide +kernel
theorem dX8_pass_92 : decode cX8_pass 92 = .ok (.getfield 38, 3) := by decide +kernel
theorem dX8_pass_95 : decode cX8_pass 95 = .ok (.aload_n 0, 1) := by decide +kernel
theorem dX8_pass_96 : decode cX8_pass 96 = .ok (.getfield 34, 3) := by decide +kernel
theorem dX8_pass_99 : decode cX8_pass 99 = .ok (.if_icmp .ge 14, 3) := by decide +kernel
theorem dX8_pass_102 : decode cX8_pass 102 = .ok (.aload_n 0, 1) := by decide +kernel
theorem dX8_pass_103 : decode cX8_pass 103 = .ok (.aload_n 1, 1) := by decide +kernel
theorem dX8_pass_104 : decode cX8_pass 104 = .ok (.invokevirtual 55, 3) := by decide +kernel
theorem dX8_pass_107 : decode cX8_pass 107 = .ok (.iinc 5 1, 3) := by decide +kernel
theorem dX8_pass_110 : decode cX8_pass 110 = .ok (.goto (-28), 3) := by decide +kernel
theorem dX8_pass_113 : decode cX8_pass 113 = .ok (.return_, 1) := by decide +kernel
theorem dX8_passRound_0 : decode cX8_passRound 0 = .ok (.iconst 0, 1) := by decide +kernel
theorem dX8_passRound_1 : decode cX8_passRound 1 = .ok (.istore_n 2, 1) := by decide +kernel
theorem dX8_passRound_2 : decode cX8_passRound 2 = .ok (.iload_n 2, 1) := by decide +kernel
theorem dX8_passRound_3 : decode cX8_passRound 3 = .ok (.aload_n 1, 1) := by decide +kernel
theorem dX8_passRound_4 : decode cX8_passRound 4 = .ok (.getfield 59, 3) := by decide +kernel
theorem dX8_passRound_7 : decode cX8_passRound 7 = .ok (.if_icmp .ge 70, 3) := by decide +kernel
theorem dX8_passRound_10 : decode cX8_passRound 10 = .ok (.aload_n 1, 1) := by decide +kernel
theorem dX8_passRound_11 : decode cX8_passRound 11 = .ok (.getfield 62, 3) := by decide +kernel
theorem dX8_passRound_14 : decode cX8_passRound 14 = .ok (.iload_n 2, 1) := by decide +kernel
theorem dX8_passRound_15 : decode cX8_passRound 15 = .ok (.iaload, 1) := by decide +kernel
theorem dX8_passRound_16 : decode cX8_passRound 16 = .ok (.istore_n 3, 1) := by decide +kernel
theorem dX8_passRound_17 : decode cX8_passRound 17 = .ok (.aload_n 0, 1) := by decide +kernel
theorem dX8_passRound_18 : decode cX8_passRound 18 = .ok (.dup, 1) := by decide +kernel
theorem dX8_passRound_19 : decode cX8_passRound 19 = .ok (.getfield 41, 3) := by decide +kernel
theorem dX8_passRound_22 : decode cX8_passRound 22 = .ok (.iload_n 3, 1) := by decide +kernel
theorem dX8_passRound_23 : decode cX8_passRound 23 = .ok (.sipush 1000, 3) := by decide +kernel
theorem dX8_passRound_26 : decode cX8_passRound 26 = .ok (.if_icmp .le 11, 3) := by decide +kernel
theorem dX8_passRound_29 : decode cX8_passRound 29 = .ok (.iload_n 3, 1) := by decide +kernel
theorem dX8_passRound_30 : decode cX8_passRound 30 = .ok (.sipush 1000, 3) := by decide +kernel
theorem dX8_passRound_33 : decode cX8_passRound 33 = .ok (.isub, 1) := by decide +kernel
theorem dX8_passRound_34 : decode cX8_passRound 34 = .ok (.goto 4, 3) := by decide +kernel
theorem dX8_passRound_37 : decode cX8_passRound 37 = .ok (.iconst 1, 1) := by decide +kernel
theorem dX8_passRound_38 : decode cX8_passRound 38 = .ok (.iadd, 1) := by decide +kernel
theorem dX8_passRound_39 : decode cX8_passRound 39 = .ok (.putfield 41, 3) := by decide +kernel
theorem dX8_passRound_42 : decode cX8_passRound 42 = .ok (.iload_n 3, 1) := by decide +kernel
theorem dX8_passRound_43 : decode cX8_passRound 43 = .ok (.ifCond .ge 15, 3) := by decide +kernel
theorem dX8_passRound_46 : decode cX8_passRound 46 = .ok (.aload_n 0, 1) := by decide +kernel
theorem dX8_passRound_47 : decode cX8_passRound 47 = .ok (.getfield 12, 3) := by decide +kernel
theorem dX8_passRound_50 : decode cX8_passRound 50 = .ok (.iload_n 3, 1) := by decide +kernel
theorem dX8_passRound_51 : decode cX8_passRound 51 = .ok (.ineg, 1) := by decide +kernel
theorem dX8_passRound_52 : decode cX8_passRound 52 = .ok (.invokevirtual 65, 3) := by decide +kernel
theorem dX8_passRound_55 : decode cX8_passRound 55 = .ok (.goto 16, 3) := by decide +kernel
theorem dX8_passRound_58 : decode cX8_passRound 58 = .ok (.iload_n 3, 1) := by decide +kernel
theorem dX8_passRound_59 : decode cX8_passRound 59 = .ok (.invokestatic 69, 3) := by decide +kernel
theorem dX8_passRound_62 : decode cX8_passRound 62 = .ok (.ifCond .eq 9, 3) := by decide +kernel
theorem dX8_passRound_65 : decode cX8_passRound 65 = .ok (.aload_n 0, 1) := by decide +kernel
theorem dX8_passRound_66 : decode cX8_passRound 66 = .ok (.aload_n 1, 1) := by decide +kernel
theorem dX8_passRound_67 : decode cX8_passRound 67 = .ok (.iload_n 3, 1) := by decide +kernel
theorem dX8_passRound_68 : decode cX8_passRound 68 = .ok (.invokevirtual 73, 3) := by decide +kernel
theorem dX8_passRound_71 : decode cX8_passRound 71 = .ok (.iinc 2 1, 3) := by decide +kernel
theorem dX8_passRound_74 : decode cX8_passRound 74 = .ok (.goto (-72), 3) := by decide +kernel
theorem dX8_passRound_77 : decode cX8_passRound 77 = .ok (.return_, 1) := by decide +kernel
theorem dX8_makeInAll_0 : decode cX8_makeInAll 0 = .ok (.aload_n 0, 1) := by decide +kernel
theorem dX8_makeInAll_1 : decode cX8_makeInAll 1 = .ok (.getfield 12, 3) := by decide +kernel
theorem dX8_makeInAll_4 : decode cX8_makeInAll 4 = .ok (.getfield 77, 3) := by decide +kernel
theorem dX8_makeInAll_7 : decode cX8_makeInAll 7 = .ok (.istore_n 3, 1) := by decide +kernel
theorem dX8_makeInAll_8 : decode cX8_makeInAll 8 = .ok (.aload_n 0, 1) := by decide +kernel
theorem dX8_makeInAll_9 : decode cX8_makeInAll 9 = .ok (.getfield 38, 3) := by decide +kernel
theorem dX8_makeInAll_12 : decode cX8_makeInAll 12 = .ok (.aload_n 0, 1) := by decide +kernel
theorem dX8_makeInAll_13 : decode cX8_makeInAll 13 = .ok (.getfield 34, 3) := by decide +kernel
theorem dX8_makeInAll_16 : decode cX8_makeInAll 16 = .ok (.if_icmp .ge 31, 3) := by decide +kernel
theorem dX8_makeInAll_19 : decode cX8_makeInAll 19 = .ok (.iload_n 3, 1) := by decide +kernel
theorem dX8_makeInAll_20 : decode cX8_makeInAll 20 = .ok (.iload_n 2, 1) := by decide +kernel
theorem dX8_makeInAll_21 : decode cX8_makeInAll 21 = .ok (.iadd, 1) := by decide +kernel
theorem dX8_makeInAll_22 : decode cX8_makeInAll 22 = .ok (.aload_n 0, 1) := by decide +kernel
theorem dX8_makeInAll_23 : decode cX8_makeInAll 23 = .ok (.getfield 18, 3) := by decide +kernel
theorem dX8_makeInAll_26 : decode cX8_makeInAll 26 = .ok (.aload_n 0, 1) := by decide +kernel
theorem dX8_makeInAll_27 : decode cX8_makeInAll 27 = .ok (.getfield 38, 3) := by decide +kernel
theorem dX8_makeInAll_30 : decode cX8_makeInAll 30 = .ok (.iaload, 1) := by decide +kernel
theorem dX8_makeInAll_31 : decode cX8_makeInAll 31 = .ok (.if_icmp .le 16, 3) := by decide +kernel
theorem dX8_makeInAll_34 : decode cX8_makeInAll 34 = .ok (.aload_n 0, 1) := by decide +kernel
theorem dX8_makeInAll_35 : decode cX8_makeInAll 35 = .ok (.dup, 1) := by decide +kernel
theorem dX8_makeInAll_36 : decode cX8_makeInAll 36 = .ok (.getfield 38, 3) := by decide +kernel
theorem dX8_makeInAll_39 : decode cX8_makeInAll 39 = .ok (.iconst 1, 1) := by decide +kernel
theorem dX8_makeInAll_40 : decode cX8_makeInAll 40 = .ok (.iadd, 1) := by decide +kernel
theorem dX8_makeInAll_41 : decode cX8_makeInAll 41 = .ok (.putfield 38, 3) := by decide +kernel
theorem dX8_makeInAll_44 : decode cX8_makeInAll 44 = .ok (.goto (-36), 3) := by decide +kernel
theorem dX8_makeInAll_47 : decode cX8_makeInAll 47 = .ok (.aload_n 0, 1) := by decide +kernel
theorem dX8_makeInAll_48 : decode cX8_makeInAll 48 = .ok (.getfield 38, 3) := by decide +kernel
theorem dX8_makeInAll_51 : decode cX8_makeInAll 51 = .ok (.istore 4, 2) := by decide +kernel
theorem dX8_makeInAll_53 : decode cX8_makeInAll 53 = .ok (.iload 4, 2) := by decide +kernel
theorem dX8_makeInAll_55 : decode cX8_makeInAll 55 = .ok (.aload_n 0, 1) := by decide +kernel
theorem dX8_makeInAll_56 : decode cX8_makeInAll 56 = .ok (.getfield 34, 3) := by decide +kernel
theorem dX8_makeInAll_59 : decode cX8_makeInAll 59 = .ok (.if_icmp .ge 69, 3) := by decide +kernel
theorem dX8_makeInAll_62 : decode cX8_makeInAll 62 = .ok (.aload_n 0, 1) := by decide +kernel
theorem dX8_makeInAll_63 : decode cX8_makeInAll 63 = .ok (.getfield 22, 3) := by decide +kernel
theorem dX8_makeInAll_66 : decode cX8_makeInAll 66 = .ok (.iload 4, 2) := by decide +kernel
theorem dX8_makeInAll_68 : decode cX8_makeInAll 68 = .ok (.iaload, 1) := by decide +kernel
theorem dX8_makeInAll_69 : decode cX8_makeInAll 69 = .ok (.iload_n 2, 1) := by decide +kernel
theorem dX8_makeInAll_70 : decode cX8_makeInAll 70 = .ok (.iadd, 1) := by decide +kernel
theorem dX8_makeInAll_71 : decode cX8_makeInAll 71 = .ok (.aload_n 0, 1) := by decide +kernel
theorem dX8_makeInAll_72 : decode cX8_makeInAll 72 = .ok (.getfield 18, 3) := by decide +kernel
theorem dX8_makeInAll_75 : decode cX8_makeInAll 75 = .ok (.iload 4, 2) := by decide +kernel
theorem dX8_makeInAll_77 : decode cX8_makeInAll 77 = .ok (.iaload, 1) := by decide +kernel
theorem dX8_makeInAll_78 : decode cX8_makeInAll 78 = .ok (.if_icmp .le 33, 3) := by decide +kernel
theorem dX8_makeInAll_81 : decode cX8_makeInAll 81 = .ok (.aload_n 0, 1) := by decide +kernel
theorem dX8_makeInAll_82 : decode cX8_makeInAll 82 = .ok (.getfield 25, 3) := by decide +kernel
theorem dX8_makeInAll_85 : decode cX8_makeInAll 85 = .ok (.iload 4, 2) := by decide +kernel
theorem dX8_makeInAll_87 : decode cX8_makeInAll 87 = .ok (.dup2, 1) := by decide +kernel
theorem dX8_makeInAll_88 : decode cX8_makeInAll 88 = .ok (.iaload, 1) := by decide +kernel
theorem dX8_makeInAll_89 : decode cX8_makeInAll 89 = .ok (.aload_n 1, 1) := by decide +kernel
theorem dX8_makeInAll_90 : decode cX8_makeInAll 90 = .ok (.iload_n 3, 1) := by decide +kernel
theorem dX8_makeInAll_91 : decode cX8_makeInAll 91 = .ok (.aload_n 0, 1) := by decide +kernel
theorem dX8_makeInAll_92 : decode cX8_makeInAll 92 = .ok (.getfield 22, 3) := by decide +kernel
theorem dX8_makeInAll_95 : decode cX8_makeInAll 95 = .ok (.iload 4, 2) := by decide +kernel
theorem dX8_makeInAll_97 : decode cX8_makeInAll 97 = .ok (.iaload, 1) := by decide +kernel
theorem dX8_makeInAll_98 : decode cX8_makeInAll 98 = .ok (.invokevirtual 80, 3) := by decide +kernel
theorem dX8_makeInAll_101 : decode cX8_makeInAll 101 = .ok (.iadd, 1) := by decide +kernel
theorem dX8_makeInAll_102 : decode cX8_makeInAll 102 = .ok (.iastore, 1) := by decide +kernel
theorem dX8_makeInAll_103 : decode cX8_makeInAll 103 = .ok (.aload_n 0, 1) := by decide +kernel
theorem dX8_makeInAll_104 : decode cX8_makeInAll 104 = .ok (.getfield 22, 3) := by decide +kernel
theorem dX8_makeInAll_107 : decode cX8_makeInAll 107 = .ok (.iload 4, 2) := by decide +kernel
theorem dX8_makeInAll_109 : decode cX8_makeInAll 109 = .ok (.iload_n 3, 1) := by decide +kernel
theorem dX8_makeInAll_110 : decode cX8_makeInAll 110 = .ok (.iastore, 1) := by decide +kernel
theorem dX8_makeInAll_111 : decode cX8_makeInAll 111 = .ok (.aload_n 0, 1) := by decide +kernel
theorem dX8_makeInAll_112 : decode cX8_makeInAll 112 = .ok (.getfield 22, 3) := by decide +kernel
theorem dX8_makeInAll_115 : decode cX8_makeInAll 115 = .ok (.iload 4, 2) := by decide +kernel
theorem dX8_makeInAll_117 : decode cX8_makeInAll 117 = .ok (.dup2, 1) := by decide +kernel
theorem dX8_makeInAll_118 : decode cX8_makeInAll 118 = .ok (.iaload, 1) := by decide +kernel
theorem dX8_makeInAll_119 : decode cX8_makeInAll 119 = .ok (.iload_n 2, 1) := by decide +kernel
theorem dX8_makeInAll_120 : decode cX8_makeInAll 120 = .ok (.iadd, 1) := by decide +kernel
theorem dX8_makeInAll_121 : decode cX8_makeInAll 121 = .ok (.iastore, 1) := by decide +kernel
theorem dX8_makeInAll_122 : decode cX8_makeInAll 122 = .ok (.iinc 4 1, 3) := by decide +kernel
theorem dX8_makeInAll_125 : decode cX8_makeInAll 125 = .ok (.goto (-72), 3) := by decide +kernel
theorem dX8_makeInAll_128 : decode cX8_makeInAll 128 = .ok (.aload_n 0, 1) := by decide +kernel
theorem dX8_makeInAll_129 : decode cX8_makeInAll 129 = .ok (.getfield 12, 3) := by decide +kernel
theorem dX8_makeInAll_132 : decode cX8_makeInAll 132 = .ok (.iload_n 2, 1) := by decide +kernel
theorem dX8_makeInAll_133 : decode cX8_makeInAll 133 = .ok (.invokevirtual 83, 3) := by decide +kernel
theorem dX8_makeInAll_136 : decode cX8_makeInAll 136 = .ok (.return_, 1) := by decide +kernel
theorem dX8_timeOf_0 : decode cX8_timeOf 0 = .ok (.iload_n 1, 1) := by decide +kernel
theorem dX8_timeOf_1 : decode cX8_timeOf 1 = .ok (.aload_n 0, 1) := by decide +kernel
theorem dX8_timeOf_2 : decode cX8_timeOf 2 = .ok (.getfield 38, 3) := by decide +kernel
theorem dX8_timeOf_5 : decode cX8_timeOf 5 = .ok (.if_icmp .lt 11, 3) := by decide +kernel
theorem dX8_timeOf_8 : decode cX8_timeOf 8 = .ok (.iload_n 1, 1) := by decide +kernel
theorem dX8_timeOf_9 : decode cX8_timeOf 9 = .ok (.aload_n 0, 1) := by decide +kernel
theorem dX8_timeOf_10 : decode cX8_timeOf 10 = .ok (.getfield 34, 3) := by decide +kernel
theorem dX8_timeOf_13 : decode cX8_timeOf 13 = .ok (.if_icmp .lt 7, 3) := by decide +kernel
theorem dX8_timeOf_16 : decode cX8_timeOf 16 = .ok (.iconst (-1), 1) := by decide +kernel
theorem dX8_timeOf_17 : decode cX8_timeOf 17 = .ok (.goto 14, 3) := by decide +kernel
theorem dX8_timeOf_20 : decode cX8_timeOf 20 = .ok (.aload_n 0, 1) := by decide +kernel
theorem dX8_timeOf_21 : decode cX8_timeOf 21 = .ok (.getfield 41, 3) := by decide +kernel
theorem dX8_timeOf_24 : decode cX8_timeOf 24 = .ok (.aload_n 0, 1) := by decide +kernel
theorem dX8_timeOf_25 : decode cX8_timeOf 25 = .ok (.getfield 25, 3) := by decide +kernel
theorem dX8_timeOf_28 : decode cX8_timeOf 28 = .ok (.iload_n 1, 1) := by decide +kernel
theorem dX8_timeOf_29 : decode cX8_timeOf 29 = .ok (.iaload, 1) := by decide +kernel
theorem dX8_timeOf_30 : decode cX8_timeOf 30 = .ok (.iadd, 1) := by decide +kernel
theorem dX8_timeOf_31 : decode cX8_timeOf 31 = .ok (.ireturn, 1) := by decide +kernel
end
section
theorem dX9_init_0 : decode cX9_init 0 = .ok (.aload_n 0, 1) := by decide +kernel
theorem dX9_init_1 : decode cX9_init 1 = .ok (.invokespecial 1, 3) := by decide +kernel
theorem dX9_init_4 : decode cX9_init 4 = .ok (.aload_n 0, 1) := by decide +kernel
theorem dX9_init_5 : decode cX9_init 5 = .ok (.iconst 4, 1) := by decide +kernel
theorem dX9_init_6 : decode cX9_init 6 = .ok (.anewarray 9, 3) := by decide +kernel
theorem dX9_init_9 : decode cX9_init 9 = .ok (.putfield 11, 3) := by decide +kernel
theorem dX9_init_12 : decode cX9_init 12 = .ok (.iconst 0, 1) := by decide +kernel
theorem dX9_init_13 : decode cX9_init 13 = .ok (.istore_n 1, 1) := by decide +kernel
theorem dX9_init_14 : decode cX9_init 14 = .ok (.iload_n 1, 1) := by decide +kernel
theorem dX9_init_15 : decode cX9_init 15 = .ok (.iconst 4, 1) := by decide +kernel
theorem dX9_init_16 : decode cX9_init 16 = .ok (.if_icmp .ge 22, 3) := by decide +kernel
theorem dX9_init_19 : decode cX9_init 19 = .ok (.aload_n 0, 1) := by decide +kernel
theorem dX9_init_20 : decode cX9_init 20 = .ok (.getfield 11, 3) := by decide +kernel
theorem dX9_init_23 : decode cX9_init 23 = .ok (.iload_n 1, 1) := by decide +kernel
theorem dX9_init_24 : decode cX9_init 24 = .ok (.new 9, 3) := by decide +kernel
theorem dX9_init_27 : decode cX9_init 27 = .ok (.dup, 1) := by decide +kernel
theorem dX9_init_28 : decode cX9_init 28 = .ok (.invokespecial 15, 3) := by decide +kernel
theorem dX9_init_31 : decode cX9_init 31 = .ok (.aastore, 1) := by decide +kernel
theorem dX9_init_32 : decode cX9_init 32 = .ok (.iinc 1 1, 3) := by decide +kernel
theorem dX9_init_35 : decode cX9_init 35 = .ok (.goto (-21), 3) := by decide +kernel
theorem dX9_init_38 : decode cX9_init 38 = .ok (.aload_n 0, 1) := by decide +kernel
theorem dX9_init_39 : decode cX9_init 39 = .ok (.bipush 6, 2) := by decide +kernel
theorem dX9_init_41 : decode cX9_init 41 = .ok (.anewarray 16, 3) := by decide +kernel
theorem dX9_init_44 : decode cX9_init 44 = .ok (.putfield 18, 3) := by decide +kernel
theorem dX9_init_47 : decode cX9_init 47 = .ok (.iconst 0, 1) := by decide +kernel
theorem dX9_init_48 : decode cX9_init 48 = .ok (.istore_n 1, 1) := by decide +kernel
theorem dX9_init_49 : decode cX9_init 49 = .ok (.iload_n 1, 1) := by decide +kernel
theorem dX9_init_50 : decode cX9_init 50 = .ok (.bipush 6, 2) := by decide +kernel
theorem dX9_init_52 : decode cX9_init 52 = .ok (.if_icmp .ge 22, 3) := by decide +kernel
theorem dX9_init_55 : decode cX9_init 55 = .ok (.aload_n 0, 1) := by decide +kernel
theorem dX9_init_56 : decode cX9_init 56 = .ok (.getfield 18, 3) := by decide +kernel
theorem dX9_init_59 : decode cX9_init 59 = .ok (.iload_n 1, 1) := by decide +kernel
theorem dX9_init_60 : decode cX9_init 60 = .ok (.new 16, 3) := by decide +kernel
theorem dX9_init_63 : decode cX9_init 63 = .ok (.dup, 1) := by decide +kernel
theorem dX9_init_64 : decode cX9_init 64 = .ok (.invokespecial 22, 3) := by decide +kernel
theorem dX9_init_67 : decode cX9_init 67 = .ok (.aastore, 1) := by decide +kernel
theorem dX9_init_68 : decode cX9_init 68 = .ok (.iinc 1 1, 3) := by decide +kernel
theorem dX9_init_71 : decode cX9_init 71 = .ok (.goto (-22), 3) := by decide +kernel
theorem dX9_init_74 : decode cX9_init 74 = .ok (.aload_n 0, 1) := by decide +kernel
theorem dX9_init_75 : decode cX9_init 75 = .ok (.new 23, 3) := by decide +kernel
theorem dX9_init_78 : decode cX9_init 78 = .ok (.dup, 1) := by decide +kernel
theorem dX9_init_79 : decode cX9_init 79 = .ok (.invokespecial 25, 3) := by decide +kernel
theorem dX9_init_82 : decode cX9_init 82 = .ok (.putfield 26, 3) := by decide +kernel
theorem dX9_init_85 : decode cX9_init 85 = .ok (.aload_n 0, 1) := by decide +kernel
theorem dX9_init_86 : decode cX9_init 86 = .ok (.new 30, 3) := by decide +kernel
theorem dX9_init_89 : decode cX9_init 89 = .ok (.dup, 1) := by decide +kernel
theorem dX9_init_90 : decode cX9_init 90 = .ok (.aload_n 0, 1) := by decide +kernel
theorem dX9_init_91 : decode cX9_init 91 = .ok (.getfield 26, 3) := by decide +kernel
theorem dX9_init_94 : decode cX9_init 94 = .ok (.invokespecial 32, 3) := by decide +kernel
theorem dX9_init_97 : decode cX9_init 97 = .ok (.putfield 35, 3) := by decide +kernel
theorem dX9_init_100 : decode cX9_init 100 = .ok (.aload_n 0, 1) := by decide +kernel
theorem dX9_init_101 : decode cX9_init 101 = .ok (.new 39, 3) := by decide +kernel
theorem dX9_init_104 : decode cX9_init 104 = .ok (.dup, 1) := by decide +kernel
theorem dX9_init_105 : decode cX9_init 105 = .ok (.aload_n 0, 1) := by decide +kernel
theorem dX9_init_106 : decode cX9_init 106 = .ok (.getfield 26, 3) := by decide +kernel
theorem dX9_init_109 : decode cX9_init 109 = .ok (.invokespecial 41, 3) := by decide +kernel
theorem dX9_init_112 : decode cX9_init 112 = .ok (.putfield 42, 3) := by decide +kernel
theorem dX9_init_115 : decode cX9_init 115 = .ok (.return_, 1) := by decide +kernel
theorem dX9_row_0 : decode cX9_row 0 = .ok (.aload_n 0, 1) := by decide +kernel
theorem dX9_row_1 : decode cX9_row 1 = .ok (.iload_n 1, 1) := by decide +kernel
theorem dX9_row_2 : decode cX9_row 2 = .ok (.invokevirtual 46, 3) := by decide +kernel
theorem dX9_row_5 : decode cX9_row 5 = .ok (.ifCond .eq 18, 3) := by decide +kernel
theorem dX9_row_8 : decode cX9_row 8 = .ok (.iload_n 2, 1) := by decide +kernel
theorem dX9_row_9 : decode cX9_row 9 = .ok (.ifCond .lt 14, 3) := by decide +kernel
theorem dX9_row_12 : decode cX9_row 12 = .ok (.iload_n 2, 1) := by decide +kernel
theorem dX9_row_13 : decode cX9_row 13 = .ok (.iconst 4, 1) := by decide +kernel
theorem dX9_row_14 : decode cX9_row 14 = .ok (.if_icmp .ge 9, 3) := by decide +kernel
theorem dX9_row_17 : decode cX9_row 17 = .ok (.iload_n 3, 1) := by decide +kernel
theorem dX9_row_18 : decode cX9_row 18 = .ok (.bipush 60, 2) := by decide +kernel
theorem dX9_row_20 : decode cX9_row 20 = .ok (.if_icmp .le 6, 3) := by decide +kernel
theorem dX9_row_23 : decode cX9_row 23 = .ok (.bipush (-2), 2) := by decide +kernel
theorem dX9_row_25 : decode cX9_row 25 = .ok (.ireturn, 1) := by decide +kernel
theorem dX9_row_26 : decode cX9_row 26 = .ok (.iload_n 3, 1) := by decide +kernel
theorem dX9_row_27 : decode cX9_row 27 = .ok (.ifCond .ge 6, 3) := by decide +kernel
theorem dX9_row_30 : decode cX9_row 30 = .ok (.bipush (-3), 2) := by decide +kernel
theorem dX9_row_32 : decode cX9_row 32 = .ok (.ireturn, 1) := by decide +kernel
theorem dX9_row_33 : decode cX9_row 33 = .ok (.aload_n 0, 1) := by decide +kernel
theorem dX9_row_34 : decode cX9_row 34 = .ok (.getfield 11, 3) := by decide +kernel
theorem dX9_row_37 : decode cX9_row 37 = .ok (.iload_n 1, 1) := by decide +kernel
theorem dX9_row_38 : decode cX9_row 38 = .ok (.aaload, 1) := by decide +kernel
theorem dX9_row_39 : decode cX9_row 39 = .ok (.iload_n 2, 1) := by decide +kernel
theorem dX9_row_40 : decode cX9_row 40 = .ok (.iload_n 3, 1) := by decide +kernel
theorem dX9_row_41 : decode cX9_row 41 = .ok (.invokevirtual 50, 3) := by decide +kernel
theorem dX9_row_44 : decode cX9_row 44 = .ok (.iconst 0, 1) := by decide +kernel
theorem dX9_row_45 : decode cX9_row 45 = .ok (.ireturn, 1) := by decide +kernel
theorem dX9_tear_0 : decode cX9_tear 0 = .ok (.aload_n 0, 1) := by decide +kernel
theorem dX9_tear_1 : decode cX9_tear 1 = .ok (.iload_n 1, 1) := by decide +kernel
theorem dX9_tear_2 : decode cX9_tear 2 = .ok (.invokevirtual 46, 3) := by decide +kernel
theorem dX9_tear_5 : decode cX9_tear 5 = .ok (.ifCond .eq 15, 3) := by decide +kernel
theorem dX9_tear_8 : decode cX9_tear 8 = .ok (.aload_n 0, 1) := by decide +kernel
theorem dX9_tear_9 : decode cX9_tear 9 = .ok (.getfield 11, 3) := by decide +kernel
theorem dX9_tear_12 : decode cX9_tear 12 = .ok (.iload_n 1, 1) := by decide +kernel
theorem dX9_tear_13 : decode cX9_tear 13 = .ok (.aaload, 1) := by decide +kernel
theorem dX9_tear_14 : decode cX9_tear 14 = .ok (.invokevirtual 54, 3) := by decide +kernel
theorem dX9_tear_17 : decode cX9_tear 17 = .ok (.ifCond .eq 5, 3) := by decide +kernel
theorem dX9_tear_20 : decode cX9_tear 20 = .ok (.iconst 0, 1) := by decide +kernel
theorem dX9_tear_21 : decode cX9_tear 21 = .ok (.ireturn, 1) := by decide +kernel
theorem dX9_tear_22 : decode cX9_tear 22 = .ok (.aload_n 0, 1) := by decide +kernel
theorem dX9_tear_23 : decode cX9_tear 23 = .ok (.getfield 11, 3) := by decide +kernel
theorem dX9_tear_26 : decode cX9_tear 26 = .ok (.iload_n 1, 1) := by decide +kernel
theorem dX9_tear_27 : decode cX9_tear 27 = .ok (.aaload, 1) := by decide +kernel
theorem dX9_tear_28 : decode cX9_tear 28 = .ok (.invokevirtual 58, 3) := by decide +kernel
theorem dX9_tear_31 : decode cX9_tear 31 = .ok (.iconst 1, 1) := by decide +kernel
theorem dX9_tear_32 : decode cX9_tear 32 = .ok (.ireturn, 1) := by decide +kernel
theorem dX9_write_0 : decode cX9_write 0 = .ok (.aload_n 0, 1) := by decide +kernel
theorem dX9_write_1 : decode cX9_write 1 = .ok (.iload_n 1, 1) := by decide +kernel
theorem dX9_write_2 : decode cX9_write 2 = .ok (.invokevirtual 46, 3) := by decide +kernel
theorem dX9_write_5 : decode cX9_write 5 = .ok (.ifCond .ne 6, 3) := by decide +kernel
theorem dX9_write_8 : decode cX9_write 8 = .ok (.bipush (-2), 2) := by decide +kernel
theorem dX9_write_10 : decode cX9_write 10 = .ok (.ireturn, 1) := by decide +kernel
theorem dX9_write_11 : decode cX9_write 11 = .ok (.aload_n 0, 1) := by decide +kernel
theorem dX9_write_12 : decode cX9_write 12 = .ok (.getfield 11, 3) := by decide +kernel
theorem dX9_write_15 : decode cX9_write 15 = .ok (.iload_n 1, 1) := by decide +kernel
theorem dX9_write_16 : decode cX9_write 16 = .ok (.aaload, 1) := by decide +kernel
theorem dX9_write_17 : decode cX9_write 17 = .ok (.astore 5, 2) := by decide +kernel
theorem dX9_write_19 : decode cX9_write 19 = .ok (.aload 5, 2) := by decide +kernel
theorem dX9_write_21 : decode cX9_write 21 = .ok (.invokevirtual 54, 3) := by decide +kernel
theorem dX9_write_24 : decode cX9_write 24 = .ok (.ifCond .eq 6, 3) := by decide +kernel
theorem dX9_write_27 : decode cX9_write 27 = .ok (.bipush (-5), 2) := by decide +kernel
theorem dX9_write_29 : decode cX9_write 29 = .ok (.ireturn, 1) := by decide +kernel
theorem dX9_write_30 : decode cX9_write 30 = .ok (.iload_n 2, 1) := by decide +kernel
theorem dX9_write_31 : decode cX9_write 31 = .ok (.ifCond .lt 12, 3) := by decide +kernel
theorem dX9_write_34 : decode cX9_write 34 = .ok (.iload_n 2, 1) := by decide +kernel
theorem dX9_write_35 : decode cX9_write 35 = .ok (.aload 5, 2) := by decide +kernel
theorem dX9_write_37 : decode cX9_write 37 = .ok (.getfield 61, 3) := by decide +kernel
theorem dX9_write_40 : decode cX9_write 40 = .ok (.if_icmp .lt 6, 3) := by decide +kernel
theorem dX9_write_43 : decode cX9_write 43 = .ok (.bipush (-6), 2) := by decide +kernel
theorem dX9_write_45 : decode cX9_write 45 = .ok (.ireturn, 1) := by decide +kernel
theorem dX9_write_46 : decode cX9_write 46 = .ok (.aload 5, 2) := by decide +kernel
theorem dX9_write_48 : decode cX9_write 48 = .ok (.getfield 65, 3) := by decide +kernel
theorem dX9_write_51 : decode cX9_write 51 = .ok (.iload_n 2, 1) := by decide +kernel
theorem dX9_write_52 : decode cX9_write 52 = .ok (.aload 5, 2) := by decide +kernel
theorem dX9_write_54 : decode cX9_write 54 = .ok (.lload_n 3, 1) := by decide +kernel
theorem dX9_write_55 : decode cX9_write 55 = .ok (.invokevirtual 69, 3) := by decide +kernel
theorem dX9_write_58 : decode cX9_write 58 = .ok (.lastore, 1) := by decide +kernel
theorem dX9_write_59 : decode cX9_write 59 = .ok (.iconst 0, 1) := by decide +kernel
theorem dX9_write_60 : decode cX9_write 60 = .ok (.ireturn, 1) := by decide +kernel
theorem dX9_paste_0 : decode cX9_paste 0 = .ok (.aload_n 0, 1) := by decide +kernel
theorem dX9_paste_1 : decode cX9_paste 1 = .ok (.iload_n 1, 1) := by decide +kernel
theorem dX9_paste_2 : decode cX9_paste 2 = .ok (.invokevirtual 46, 3) := by decide +kernel
theorem dX9_paste_5 : decode cX9_paste 5 = .ok (.ifCond .eq 11, 3) := by decide +kernel
theorem dX9_paste_8 : decode cX9_paste 8 = .ok (.aload_n 0, 1) := by decide +kernel
theorem dX9_paste_9 : decode cX9_paste 9 = .ok (.iload_n 3, 1) := by decide +kernel
theorem dX9_paste_10 : decode cX9_paste 10 = .ok (.invokevirtual 46, 3) := by decide +kernel
theorem dX9_paste_13 : decode cX9_paste 13 = .ok (.ifCond .ne 6, 3) := by decide +kernel
theorem dX9_paste_16 : decode cX9_paste 16 = .ok (.bipush (-2), 2) := by decide +kernel
theorem dX9_paste_18 : decode cX9_paste 18 = .ok (.ireturn, 1) := by decide +kernel
theorem dX9_paste_19 : decode cX9_paste 19 = .ok (.aload_n 0, 1) := by decide +kernel
theorem dX9_paste_20 : decode cX9_paste 20 = .ok (.getfield 11, 3) := by decide +kernel
theorem dX9_paste_23 : decode cX9_paste 23 = .ok (.iload_n 1, 1) := by decide +kernel
theorem dX9_paste_24 : decode cX9_paste 24 = .ok (.aaload, 1) := by decide +kernel
theorem dX9_paste_25 : decode cX9_paste 25 = .ok (.astore 6, 2) := by decide +kernel
theorem dX9_paste_27 : decode cX9_paste 27 = .ok (.aload_n 0, 1) := by decide +kernel
theorem dX9_paste_28 : decode cX9_paste 28 = .ok (.getfield 11, 3) := by decide +kernel
theorem dX9_paste_31 : decode cX9_paste 31 = .ok (.iload_n 3, 1) := by decide +kernel
theorem dX9_paste_32 : decode cX9_paste 32 = .ok (.aaload, 1) := by decide +kernel
theorem dX9_paste_33 : decode cX9_paste 33 = .ok (.astore 7, 2) := by decide +kernel
theorem dX9_paste_35 : decode cX9_paste 35 = .ok (.aload 6, 2) := by decide +kernel
theorem dX9_paste_37 : decode cX9_paste 37 = .ok (.invokevirtual 54, 3) := by decide +kernel
theorem dX9_paste_40 : decode cX9_paste 40 = .ok (.ifCond .ne 11, 3) := by decide +kernel
theorem dX9_paste_43 : decode cX9_paste 43 = .ok (.aload 7, 2) := by decide +kernel
theorem dX9_paste_45 : decode cX9_paste 45 = .ok (.invokevirtual 54, 3) := by decide +kernel
theorem dX9_paste_48 : decode cX9_paste 48 = .ok (.ifCond .eq 6, 3) := by decide +kernel
theorem dX9_paste_51 : decode cX9_paste 51 = .ok (.bipush (-5), 2) := by decide +kernel
theorem dX9_paste_53 : decode cX9_paste 53 = .ok (.ireturn, 1) := by decide +kernel
theorem dX9_paste_54 : decode cX9_paste 54 = .ok (.aload 6, 2) := by decide +kernel
theorem dX9_paste_56 : decode cX9_paste 56 = .ok (.getfield 73, 3) := by decide +kernel
theorem dX9_paste_59 : decode cX9_paste 59 = .ok (.aload 7, 2) := by decide +kernel
theorem dX9_paste_61 : decode cX9_paste 61 = .ok (.getfield 73, 3) := by decide +kernel
theorem dX9_paste_64 : decode cX9_paste 64 = .ok (.if_icmp .eq 6, 3) := by decide +kernel
theorem dX9_paste_67 : decode cX9_paste 67 = .ok (.bipush (-7), 2) := by decide +kernel
theorem dX9_paste_69 : decode cX9_paste 69 = .ok (.ireturn, 1) := by decide +kernel
theorem dX9_paste_70 : decode cX9_paste 70 = .ok (.aload 6, 2) := by decide +kernel
theorem dX9_paste_72 : decode cX9_paste 72 = .ok (.iload_n 2, 1) := by decide +kernel
theorem dX9_paste_73 : decode cX9_paste 73 = .ok (.iload 5, 2) := by decide +kernel
theorem dX9_paste_75 : decode cX9_paste 75 = .ok (.invokevirtual 76, 3) := by decide +kernel
theorem dX9_paste_78 : decode cX9_paste 78 = .ok (.ifCond .eq 15, 3) := by decide +kernel
theorem dX9_paste_81 : decode cX9_paste 81 = .ok (.aload 7, 2) := by decide +kernel
theorem dX9_paste_83 : decode cX9_paste 83 = .ok (.iload 4, 2) := by decide +kernel
theorem dX9_paste_85 : decode cX9_paste 85 = .ok (.iload 5, 2) := by decide +kernel
theorem dX9_paste_87 : decode cX9_paste 87 = .ok (.invokevirtual 76, 3) := by decide +kernel
theorem dX9_paste_90 : decode cX9_paste 90 = .ok (.ifCond .ne 6, 3) := by decide +kernel
theorem dX9_paste_93 : decode cX9_paste 93 = .ok (.bipush (-6), 2) := by decide +kernel
theorem dX9_paste_95 : decode cX9_paste 95 = .ok (.ireturn, 1) := by decide +kernel
theorem dX9_paste_96 : decode cX9_paste 96 = .ok (.aload 6, 2) := by decide +kernel
theorem dX9_paste_98 : decode cX9_paste 98 = .ok (.getfield 65, 3) := by decide +kernel
theorem dX9_paste_101 : decode cX9_paste 101 = .ok (.iload_n 2, 1) := by decide +kernel
theorem dX9_paste_102 : decode cX9_paste 102 = .ok (.aload 7, 2) := by decide +kernel
theorem dX9_paste_104 : decode cX9_paste 104 = .ok (.getfield 65, 3) := by decide +kernel
theorem dX9_paste_107 : decode cX9_paste 107 = .ok (.iload 4, 2) := by decide +kernel
theorem dX9_paste_109 : decode cX9_paste 109 = .ok (.iload 5, 2) := by decide +kernel
theorem dX9_paste_111 : decode cX9_paste 111 = .ok (.invokestatic 80, 3) := by decide +kernel
theorem dX9_paste_114 : decode cX9_paste 114 = .ok (.iconst 0, 1) := by decide +kernel
theorem dX9_paste_115 : decode cX9_paste 115 = .ok (.ireturn, 1) := by decide +kernel
theorem dX9_terms_0 : decode cX9_terms 0 = .ok (.aload_n 0, 1) := by decide +kernel
theorem dX9_terms_1 : decode cX9_terms 1 = .ok (.getfield 42, 3) := by decide +kernel
theorem dX9_terms_4 : decode cX9_terms 4 = .ok (.getfield 86, 3) := by decide +kernel
theorem dX9_terms_7 : decode cX9_terms 7 = .ok (.ifCond .eq 6, 3) := by decide +kernel
theorem dX9_terms_10 : decode cX9_terms 10 = .ok (.bipush (-9), 2) := by decide +kernel
theorem dX9_terms_12 : decode cX9_terms 12 = .ok (.ireturn, 1) := by decide +kernel
theorem dX9_terms_13 : decode cX9_terms 13 = .ok (.iload_n 1, 1) := by decide +kernel
theorem dX9_terms_14 : decode cX9_terms 14 = .ok (.iload_n 2, 1) := by decide +kernel
theorem dX9_terms_15 : decode cX9_terms 15 = .ok (.iload_n 3, 1) := by decide +kernel
theorem dX9_terms_16 : decode cX9_terms 16 = .ok (.invokestatic 90, 3) := by decide +kernel
theorem dX9_terms_19 : decode cX9_terms 19 = .ok (.ifCond .eq 29, 3) := by decide +kernel
theorem dX9_terms_22 : decode cX9_terms 22 = .ok (.iload 4, 2) := by decide +kernel
theorem dX9_terms_24 : decode cX9_terms 24 = .ok (.iconst 1, 1) := by decide +kernel
theorem dX9_terms_25 : decode cX9_terms 25 = .ok (.if_icmp .lt 23, 3) := by decide +kernel
theorem dX9_terms_28 : decode cX9_terms 28 = .ok (.iload 4, 2) := by decide +kernel
theorem dX9_terms_30 : decode cX9_terms 30 = .ok (.sipush 1000, 3) := by decide +kernel
theorem dX9_terms_33 : decode cX9_terms 33 = .ok (.if_icmp .gt 15, 3) := by decide +kernel
theorem dX9_terms_36 : decode cX9_terms 36 = .ok (.iload 5, 2) := by decide +kernel
theorem dX9_terms_38 : decode cX9_terms 38 = .ok (.ifCond .lt 10, 3) := by decide +kernel
theorem dX9_terms_41 : decode cX9_terms 41 = .ok (.iload 5, 2) := by decide +kernel
theorem dX9_terms_43 : decode cX9_terms 43 = .ok (.bipush 9, 2) := by decide +kernel
theorem dX9_terms_45 : decode cX9_terms 45 = .ok (.if_icmp .le 6, 3) := by decide +kernel
theorem dX9_terms_48 : decode cX9_terms 48 = .ok (.bipush (-2), 2) := by decide +kernel
theorem dX9_terms_50 : decode cX9_terms 50 = .ok (.ireturn, 1) := by decide +kernel
theorem dX9_terms_51 : decode cX9_terms 51 = .ok (.aload_n 0, 1) := by decide +kernel
theorem dX9_terms_52 : decode cX9_terms 52 = .ok (.getfield 26, 3) := by decide +kernel
theorem dX9_terms_55 : decode cX9_terms 55 = .ok (.iload_n 1, 1) := by decide +kernel
theorem dX9_terms_56 : decode cX9_terms 56 = .ok (.putfield 94, 3) := by decide +kernel
theorem dX9_terms_59 : decode cX9_terms 59 = .ok (.aload_n 0, 1) := by decide +kernel
theorem dX9_terms_60 : decode cX9_terms 60 = .ok (.getfield 26, 3) := by decide +kernel
theorem dX9_terms_63 : decode cX9_terms 63 = .ok (.iload_n 2, 1) := by decide +kernel
theorem dX9_terms_64 : decode cX9_terms 64 = .ok (.putfield 97, 3) := by decide +kernel
theorem dX9_terms_67 : decode cX9_terms 67 = .ok (.aload_n 0, 1) := by decide +kernel
theorem dX9_terms_68 : decode cX9_terms 68 = .ok (.getfield 26, 3) := by decide +kernel
theorem dX9_terms_71 : decode cX9_terms 71 = .ok (.iload_n 3, 1) := by decide +kernel
theorem dX9_terms_72 : decode cX9_terms 72 = .ok (.putfield 100, 3) := by decide +kernel
theorem dX9_terms_75 : decode cX9_terms 75 = .ok (.aload_n 0, 1) := by decide +kernel
theorem dX9_terms_76 : decode cX9_terms 76 = .ok (.getfield 26, 3) := by decide +kernel
theorem dX9_terms_79 : decode cX9_terms 79 = .ok (.iload 4, 2) := by decide +kernel
theorem dX9_terms_81 : decode cX9_terms 81 = .ok (.putfield 103, 3) := by decide +kernel
theorem dX9_terms_84 : decode cX9_terms 84 = .ok (.aload_n 0, 1) := by decide +kernel
theorem dX9_terms_85 : decode cX9_terms 85 = .ok (.getfield 26, 3) := by decide +kernel
theorem dX9_terms_88 : decode cX9_terms 88 = .ok (.iload 5, 2) := by decide +kernel
theorem dX9_terms_90 : decode cX9_terms 90 = .ok (.putfield 106, 3) := by decide +kernel
theorem dX9_terms_93 : decode cX9_terms 93 = .ok (.aload_n 0, 1) := by decide +kernel
theorem dX9_terms_94 : decode cX9_terms 94 = .ok (.getfield 35, 3) := by decide +kernel
theorem dX9_terms_97 : decode cX9_terms 97 = .ok (.iconst 0, 1) := by decide +kernel
theorem dX9_terms_98 : decode cX9_terms 98 = .ok (.putfield 109, 3) := by decide +kernel
theorem dX9_terms_101 : decode cX9_terms 101 = .ok (.iconst 0, 1) := by decide +kernel
theorem dX9_terms_102 : decode cX9_terms 102 = .ok (.istore 6, 2) := by decide +kernel
theorem dX9_terms_104 : decode cX9_terms 104 = .ok (.iload 6, 2) := by decide +kernel
theorem dX9_terms_106 : decode cX9_terms 106 = .ok (.aload_n 0, 1) := by decide +kernel
theorem dX9_terms_107 : decode cX9_terms 107 = .ok (.getfield 112, 3) := by decide +kernel
theorem dX9_terms_110 : decode cX9_terms 110 = .ok (.if_icmp .ge 20, 3) := by decide +kernel
theorem dX9_terms_113 : decode cX9_terms 113 = .ok (.aload_n 0, 1) := by decide +kernel
theorem dX9_terms_114 : decode cX9_terms 114 = .ok (.getfield 18, 3) := by decide +kernel
theorem dX9_terms_117 : decode cX9_terms 117 = .ok (.iload 6, 2) := by decide +kernel
theorem dX9_terms_119 : decode cX9_terms 119 = .ok (.aaload, 1) := by decide +kernel
theorem dX9_terms_120 : decode cX9_terms 120 = .ok (.iconst 0, 1) := by decide +kernel
theorem dX9_terms_121 : decode cX9_terms 121 = .ok (.putfield 115, 3) := by decide +kernel
theorem dX9_terms_124 : decode cX9_terms 124 = .ok (.iinc 6 1, 3) := by decide +kernel
theorem dX9_terms_127 : decode cX9_terms 127 = .ok (.goto (-23), 3) := by decide +kernel
theorem dX9_terms_130 : decode cX9_terms 130 = .ok (.iconst 0, 1) := by decide +kernel
theorem dX9_terms_131 : decode cX9_terms 131 = .ok (.ireturn, 1) := by decide +kernel
theorem dX9_program_0 : decode cX9_program 0 = .ok (.aload_n 0, 1) := by decide +kernel
theorem dX9_program_1 : decode cX9_program 1 = .ok (.getfield 42, 3) := by decide +kernel
theorem dX9_program_4 : decode cX9_program 4 = .ok (.getfield 86, 3) := by decide +kernel
theorem dX9_program_7 : decode cX9_program 7 = .ok (.ifCond .eq 6, 3) := by decide +kernel
theorem dX9_program_10 : decode cX9_program 10 = .ok (.bipush (-9), 2) := by decide +kernel
theorem dX9_program_12 : decode cX9_program 12 = .ok (.ireturn, 1) := by decide +kernel
theorem dX9_program_13 : decode cX9_program 13 = .ok (.aload_n 0, 1) := by decide +kernel
theorem dX9_program_14 : decode cX9_program 14 = .ok (.iload_n 1, 1) := by decide +kernel
theorem dX9_program_15 : decode cX9_program 15 = .ok (.invokevirtual 46, 3) := by decide +kernel
theorem dX9_program_18 : decode cX9_program 18 = .ok (.ifCond .eq 36, 3) := by decide +kernel
theorem dX9_program_21 : decode cX9_program 21 = .ok (.iload_n 2, 1) := by decide +kernel
theorem dX9_program_22 : decode cX9_program 22 = .ok (.ifCond .lt 32, 3) := by decide +kernel
theorem dX9_program_25 : decode cX9_program 25 = .ok (.iload_n 2, 1) := by decide +kernel
theorem dX9_program_26 : decode cX9_program 26 = .ok (.iconst 2, 1) := by decide +kernel
theorem dX9_program_27 : decode cX9_program 27 = .ok (.if_icmp .ge 27, 3) := by decide +kernel
theorem dX9_program_30 : decode cX9_program 30 = .ok (.iload_n 3, 1) := by decide +kernel
theorem dX9_program_31 : decode cX9_program 31 = .ok (.iconst 1, 1) := by decide +kernel
theorem dX9_program_32 : decode cX9_program 32 = .ok (.if_icmp .lt 22, 3) := by decide +kernel
theorem dX9_program_35 : decode cX9_program 35 = .ok (.iload_n 3, 1) := by decide +kernel
theorem dX9_program_36 : decode cX9_program 36 = .ok (.bipush 40, 2) := by decide +kernel
theorem dX9_program_38 : decode cX9_program 38 = .ok (.if_icmp .gt 16, 3) := by decide +kernel
theorem dX9_program_41 : decode cX9_program 41 = .ok (.iload 4, 2) := by decide +kernel
theorem dX9_program_43 : decode cX9_program 43 = .ok (.ifCond .lt 11, 3) := by decide +kernel
theorem dX9_program_46 : decode cX9_program 46 = .ok (.iload 4, 2) := by decide +kernel
theorem dX9_program_48 : decode cX9_program 48 = .ok (.sipush 1000, 3) := by decide +kernel
theorem dX9_program_51 : decode cX9_program 51 = .ok (.if_icmp .le 6, 3) := by decide +kernel
theorem dX9_program_54 : decode cX9_program 54 = .ok (.bipush (-2), 2) := by decide +kernel
theorem dX9_program_56 : decode cX9_program 56 = .ok (.ireturn, 1) := by decide +kernel
theorem dX9_program_57 : decode cX9_program 57 = .ok (.aload_n 0, 1) := by decide +kernel
theorem dX9_program_58 : decode cX9_program 58 = .ok (.getfield 112, 3) := by decide +kernel
theorem dX9_program_61 : decode cX9_program 61 = .ok (.bipush 6, 2) := by decide +kernel
theorem dX9_program_63 : decode cX9_program 63 = .ok (.if_icmp .lt 6, 3) := by decide +kernel
theorem dX9_program_66 : decode cX9_program 66 = .ok (.bipush (-3), 2) := by decide +kernel
theorem dX9_program_68 : decode cX9_program 68 = .ok (.ireturn, 1) := by decide +kernel
theorem dX9_program_69 : decode cX9_program 69 = .ok (.aload_n 0, 1) := by decide +kernel
theorem dX9_program_70 : decode cX9_program 70 = .ok (.getfield 11, 3) := by decide +kernel
theorem dX9_program_73 : decode cX9_program 73 = .ok (.iload_n 1, 1) := by decide +kernel
theorem dX9_program_74 : decode cX9_program 74 = .ok (.aaload, 1) := by decide +kernel
theorem dX9_program_75 : decode cX9_program 75 = .ok (.astore 5, 2) := by decide +kernel
theorem dX9_program_77 : decode cX9_program 77 = .ok (.aload 5, 2) := by decide +kernel
theorem dX9_program_79 : decode cX9_program 79 = .ok (.invokevirtual 54, 3) := by decide +kernel
theorem dX9_program_82 : decode cX9_program 82 = .ok (.ifCond .eq 6, 3) := by decide +kernel
theorem dX9_program_85 : decode cX9_program 85 = .ok (.bipush (-5), 2) := by decide +kernel
theorem dX9_program_87 : decode cX9_program 87 = .ok (.ireturn, 1) := by decide +kernel
theorem dX9_program_88 : decode cX9_program 88 = .ok (.aload 5, 2) := by decide +kernel
theorem dX9_program_90 : decode cX9_program 90 = .ok (.getfield 61, 3) := by decide +kernel
theorem dX9_program_93 : decode cX9_program 93 = .ok (.ifCond .ne 6, 3) := by decide +kernel
theorem dX9_program_96 : decode cX9_program 96 = .ok (.bipush (-8), 2) := by decide +kernel
theorem dX9_program_98 : decode cX9_program 98 = .ok (.ireturn, 1) := by decide +kernel
theorem dX9_program_99 : decode cX9_program 99 = .ok (.aload 5, 2) := by decide +kernel
theorem dX9_program_101 : decode cX9_program 101 = .ok (.invokevirtual 118, 3) := by decide +kernel
theorem dX9_program_104 : decode cX9_program 104 = .ok (.ifCond .ne 6, 3) := by decide +kernel
theorem dX9_program_107 : decode cX9_program 107 = .ok (.bipush (-4), 2) := by decide +kernel
theorem dX9_program_109 : decode cX9_program 109 = .ok (.ireturn, 1) := by decide +kernel
theorem dX9_program_110 : decode cX9_program 110 = .ok (.aload_n 0, 1) := by decide +kernel
theorem dX9_program_111 : decode cX9_program 111 = .ok (.getfield 18, 3) := by decide +kernel
theorem dX9_program_114 : decode cX9_program 114 = .ok (.aload_n 0, 1) := by decide +kernel
theorem dX9_program_115 : decode cX9_program 115 = .ok (.getfield 112, 3) := by decide +kernel
theorem dX9_program_118 : decode cX9_program 118 = .ok (.aaload, 1) := by decide +kernel
theorem dX9_program_119 : decode cX9_program 119 = .ok (.aload 5, 2) := by decide +kernel
theorem dX9_program_121 : decode cX9_program 121 = .ok (.iload_n 2, 1) := by decide +kernel
theorem dX9_program_122 : decode cX9_program 122 = .ok (.ifCond .ne 7, 3) := by decide +kernel
theorem dX9_program_125 : decode cX9_program 125 = .ok (.iconst 1, 1) := by decide +kernel
theorem dX9_program_126 : decode cX9_program 126 = .ok (.goto 4, 3) := by decide +kernel
theorem dX9_program_129 : decode cX9_program 129 = .ok (.iconst 0, 1) := by decide +kernel
theorem dX9_program_130 : decode cX9_program 130 = .ok (.iload_n 3, 1) := by decide +kernel
theorem dX9_program_131 : decode cX9_program 131 = .ok (.iload 4, 2) := by decide +kernel
theorem dX9_program_133 : decode cX9_program 133 = .ok (.invokevirtual 121, 3) := by decide +kernel
theorem dX9_program_136 : decode cX9_program 136 = .ok (.aload_n 0, 1) := by decide +kernel
theorem dX9_program_137 : decode cX9_program 137 = .ok (.getfield 35, 3) := by decide +kernel
theorem dX9_program_140 : decode cX9_program 140 = .ok (.iconst 0, 1) := by decide +kernel
theorem dX9_program_141 : decode cX9_program 141 = .ok (.putfield 109, 3) := by decide +kernel
theorem dX9_program_144 : decode cX9_program 144 = .ok (.aload_n 0, 1) := by decide +kernel
theorem dX9_program_145 : decode cX9_program 145 = .ok (.dup, 1) := by decide +kernel
theorem dX9_program_146 : decode cX9_program 146 = .ok (.getfield 112, 3) := by decide +kernel
theorem dX9_program_149 : decode cX9_program 149 = .ok (.iconst 1, 1) := by decide +kernel
theorem dX9_program_150 : decode cX9_program 150 = .ok (.iadd, 1) := by decide +kernel
theorem dX9_program_151 : decode cX9_program 151 = .ok (.putfield 112, 3) := by decide +kernel
theorem dX9_program_154 : decode cX9_program 154 = .ok (.aload_n 0, 1) := by decide +kernel
theorem dX9_program_155 : decode cX9_program 155 = .ok (.getfield 112, 3) := by decide +kernel
theorem dX9_program_158 : decode cX9_program 158 = .ok (.iconst 1, 1) := by decide +kernel
theorem dX9_program_159 : decode cX9_program 159 = .ok (.isub, 1) := by decide +kernel
theorem dX9_program_160 : decode cX9_program 160 = .ok (.ireturn, 1) := by decide +kernel
theorem dX9_clear_0 : decode cX9_clear 0 = .ok (.aload_n 0, 1) := by decide +kernel
theorem dX9_clear_1 : decode cX9_clear 1 = .ok (.getfield 112, 3) := by decide +kernel
theorem dX9_clear_4 : decode cX9_clear 4 = .ok (.istore_n 1, 1) := by decide +kernel
theorem dX9_clear_5 : decode cX9_clear 5 = .ok (.aload_n 0, 1) := by decide +kernel
theorem dX9_clear_6 : decode cX9_clear 6 = .ok (.iconst 0, 1) := by decide +kernel
theorem dX9_clear_7 : decode cX9_clear 7 = .ok (.putfield 112, 3) := by decide +kernel
theorem dX9_clear_10 : decode cX9_clear 10 = .ok (.aload_n 0, 1) := by decide +kernel
theorem dX9_clear_11 : decode cX9_clear 11 = .ok (.getfield 35, 3) := by decide +kernel
theorem dX9_clear_14 : decode cX9_clear 14 = .ok (.iconst 0, 1) := by decide +kernel
theorem dX9_clear_15 : decode cX9_clear 15 = .ok (.putfield 109, 3) := by decide +kernel
theorem dX9_clear_18 : decode cX9_clear 18 = .ok (.aload_n 0, 1) := by decide +kernel
theorem dX9_clear_19 : decode cX9_clear 19 = .ok (.getfield 42, 3) := by decide +kernel
theorem dX9_clear_22 : decode cX9_clear 22 = .ok (.iconst 0, 1) := by decide +kernel
theorem dX9_clear_23 : decode cX9_clear 23 = .ok (.putfield 86, 3) := by decide +kernel
theorem dX9_clear_26 : decode cX9_clear 26 = .ok (.aload_n 0, 1) := by decide +kernel
theorem dX9_clear_27 : decode cX9_clear 27 = .ok (.getfield 42, 3) := by decide +kernel
theorem dX9_clear_30 : decode cX9_clear 30 = .ok (.iconst 0, 1) := by decide +kernel
theorem dX9_clear_31 : decode cX9_clear 31 = .ok (.putfield 125, 3) := by decide +kernel
theorem dX9_clear_34 : decode cX9_clear 34 = .ok (.iload_n 1, 1) := by decide +kernel
theorem dX9_clear_35 : decode cX9_clear 35 = .ok (.ireturn, 1) := by decide +kernel
theorem dX9_time_0 : decode cX9_time 0 = .ok (.aload_n 0, 1) := by decide +kernel
theorem dX9_time_1 : decode cX9_time 1 = .ok (.iload_n 1, 1) := by decide +kernel
theorem dX9_time_2 : decode cX9_time 2 = .ok (.invokevirtual 128, 3) := by decide +kernel
theorem dX9_time_5 : decode cX9_time 5 = .ok (.ifCond .eq 14, 3) := by decide +kernel
theorem dX9_time_8 : decode cX9_time 8 = .ok (.iload_n 2, 1) := by decide +kernel
theorem dX9_time_9 : decode cX9_time 9 = .ok (.ifCond .lt 10, 3) := by decide +kernel
theorem dX9_time_12 : decode cX9_time 12 = .ok (.iload_n 2, 1) := by decide +kernel
theorem dX9_time_13 : decode cX9_time 13 = .ok (.sipush 4096, 3) := by decide +kernel
theorem dX9_time_16 : decode cX9_time 16 = .ok (.if_icmp .le 6, 3) := by decide +kernel
theorem dX9_time_19 : decode cX9_time 19 = .ok (.bipush (-2), 2) := by decide +kernel
theorem dX9_time_21 : decode cX9_time 21 = .ok (.ireturn, 1) := by decide +kernel
theorem dX9_time_22 : decode cX9_time 22 = .ok (.aload_n 0, 1) := by decide +kernel
theorem dX9_time_23 : decode cX9_time 23 = .ok (.getfield 35, 3) := by decide +kernel
theorem dX9_time_26 : decode cX9_time 26 = .ok (.aload_n 0, 1) := by decide +kernel
theorem dX9_time_27 : decode cX9_time 27 = .ok (.getfield 18, 3) := by decide +kernel
theorem dX9_time_30 : decode cX9_time 30 = .ok (.iload_n 1, 1) := by decide +kernel
theorem dX9_time_31 : decode cX9_time 31 = .ok (.aaload, 1) := by decide +kernel
theorem dX9_time_32 : decode cX9_time 32 = .ok (.iload_n 2, 1) := by decide +kernel
theorem dX9_time_33 : decode cX9_time 33 = .ok (.invokevirtual 131, 3) := by decide +kernel
theorem dX9_time_36 : decode cX9_time 36 = .ok (.ireturn, 1) := by decide +kernel
theorem dX9_need_0 : decode cX9_need 0 = .ok (.aload_n 0, 1) := by decide +kernel
theorem dX9_need_1 : decode cX9_need 1 = .ok (.iload_n 1, 1) := by decide +kernel
theorem dX9_need_2 : decode cX9_need 2 = .ok (.invokevirtual 128, 3) := by decide +kernel
theorem dX9_need_5 : decode cX9_need 5 = .ok (.ifCond .ne 6, 3) := by decide +kernel
theorem dX9_need_8 : decode cX9_need 8 = .ok (.bipush (-2), 2) := by decide +kernel
theorem dX9_need_10 : decode cX9_need 10 = .ok (.ireturn, 1) := by decide +kernel
theorem dX9_need_11 : decode cX9_need 11 = .ok (.aload_n 0, 1) := by decide +kernel
theorem dX9_need_12 : decode cX9_need 12 = .ok (.getfield 35, 3) := by decide +kernel
theorem dX9_need_15 : decode cX9_need 15 = .ok (.aload_n 0, 1) := by decide +kernel
theorem dX9_need_16 : decode cX9_need 16 = .ok (.getfield 18, 3) := by decide +kernel
theorem dX9_need_19 : decode cX9_need 19 = .ok (.iload_n 1, 1) := by decide +kernel
theorem dX9_need_20 : decode cX9_need 20 = .ok (.aaload, 1) := by decide +kernel
theorem dX9_need_21 : decode cX9_need 21 = .ok (.invokevirtual 135, 3) := by decide +kernel
theorem dX9_need_24 : decode cX9_need 24 = .ok (.istore_n 2, 1) := by decide +kernel
theorem dX9_need_25 : decode cX9_need 25 = .ok (.iload_n 2, 1) := by decide +kernel
theorem dX9_need_26 : decode cX9_need 26 = .ok (.iconst (-1), 1) := by decide +kernel
theorem dX9_need_27 : decode cX9_need 27 = .ok (.if_icmp .ne 7, 3) := by decide +kernel
theorem dX9_need_30 : decode cX9_need 30 = .ok (.iconst (-1), 1) := by decide +kernel
theorem dX9_need_31 : decode cX9_need 31 = .ok (.goto 12, 3) := by decide +kernel
theorem dX9_need_34 : decode cX9_need 34 = .ok (.iload_n 2, 1) := by decide +kernel
theorem dX9_need_35 : decode cX9_need 35 = .ok (.aload_n 0, 1) := by decide +kernel
theorem dX9_need_36 : decode cX9_need 36 = .ok (.getfield 26, 3) := by decide +kernel
theorem dX9_need_39 : decode cX9_need 39 = .ok (.getfield 94, 3) := by decide +kernel
theorem dX9_need_42 : decode cX9_need 42 = .ok (.imul, 1) := by decide +kernel
theorem dX9_need_43 : decode cX9_need 43 = .ok (.ireturn, 1) := by decide +kernel
theorem dX9_falls_0 : decode cX9_falls 0 = .ok (.aload_n 0, 1) := by decide +kernel
theorem dX9_falls_1 : decode cX9_falls 1 = .ok (.iload_n 1, 1) := by decide +kernel
theorem dX9_falls_2 : decode cX9_falls 2 = .ok (.invokevirtual 128, 3) := by decide +kernel
theorem dX9_falls_5 : decode cX9_falls 5 = .ok (.ifCond .ne 6, 3) := by decide +kernel
theorem dX9_falls_8 : decode cX9_falls 8 = .ok (.bipush (-2), 2) := by decide +kernel
theorem dX9_falls_10 : decode cX9_falls 10 = .ok (.ireturn, 1) := by decide +kernel
theorem dX9_falls_11 : decode cX9_falls 11 = .ok (.aload_n 0, 1) := by decide +kernel
theorem dX9_falls_12 : decode cX9_falls 12 = .ok (.getfield 18, 3) := by decide +kernel
theorem dX9_falls_15 : decode cX9_falls 15 = .ok (.iload_n 1, 1) := by decide +kernel
theorem dX9_falls_16 : decode cX9_falls 16 = .ok (.aaload, 1) := by decide +kernel
theorem dX9_falls_17 : decode cX9_falls 17 = .ok (.astore_n 2, 1) := by decide +kernel
theorem dX9_falls_18 : decode cX9_falls 18 = .ok (.aload_n 0, 1) := by decide +kernel
theorem dX9_falls_19 : decode cX9_falls 19 = .ok (.getfield 35, 3) := by decide +kernel
theorem dX9_falls_22 : decode cX9_falls 22 = .ok (.aload_n 2, 1) := by decide +kernel
theorem dX9_falls_23 : decode cX9_falls 23 = .ok (.invokevirtual 135, 3) := by decide +kernel
theorem dX9_falls_26 : decode cX9_falls 26 = .ok (.istore_n 3, 1) := by decide +kernel
theorem dX9_falls_27 : decode cX9_falls 27 = .ok (.iload_n 3, 1) := by decide +kernel
theorem dX9_falls_28 : decode cX9_falls 28 = .ok (.iconst (-1), 1) := by decide +kernel
theorem dX9_falls_29 : decode cX9_falls 29 = .ok (.if_icmp .ne 5, 3) := by decide +kernel
theorem dX9_falls_32 : decode cX9_falls 32 = .ok (.iconst (-1), 1) := by decide +kernel
theorem dX9_falls_33 : decode cX9_falls 33 = .ok (.ireturn, 1) := by decide +kernel
theorem dX9_falls_34 : decode cX9_falls 34 = .ok (.aload_n 2, 1) := by decide +kernel
theorem dX9_falls_35 : decode cX9_falls 35 = .ok (.iload_n 3, 1) := by decide +kernel
theorem dX9_falls_36 : decode cX9_falls 36 = .ok (.aload_n 0, 1) := by decide +kernel
theorem dX9_falls_37 : decode cX9_falls 37 = .ok (.getfield 26, 3) := by decide +kernel
theorem dX9_falls_40 : decode cX9_falls 40 = .ok (.invokevirtual 139, 3) := by decide +kernel
theorem dX9_falls_43 : decode cX9_falls 43 = .ok (.invokevirtual 143, 3) := by decide +kernel
theorem dX9_falls_46 : decode cX9_falls 46 = .ok (.ifCond .eq 7, 3) := by decide +kernel
theorem dX9_falls_49 : decode cX9_falls 49 = .ok (.iconst 1, 1) := by decide +kernel
theorem dX9_falls_50 : decode cX9_falls 50 = .ok (.goto 4, 3) := by decide +kernel
theorem dX9_falls_53 : decode cX9_falls 53 = .ok (.iconst 0, 1) := by decide +kernel
theorem dX9_falls_54 : decode cX9_falls 54 = .ok (.ireturn, 1) := by decide +kernel
theorem dX9_deal_0 : decode cX9_deal 0 = .ok (.aload_n 0, 1) := by decide +kernel
theorem dX9_deal_1 : decode cX9_deal 1 = .ok (.getfield 35, 3) := by decide +kernel
theorem dX9_deal_4 : decode cX9_deal 4 = .ok (.aload_n 0, 1) := by decide +kernel
theorem dX9_deal_5 : decode cX9_deal 5 = .ok (.getfield 18, 3) := by decide +kernel
theorem dX9_deal_8 : decode cX9_deal 8 = .ok (.aload_n 0, 1) := by decide +kernel
theorem dX9_deal_9 : decode cX9_deal 9 = .ok (.getfield 112, 3) := by decide +kernel
theorem dX9_deal_12 : decode cX9_deal 12 = .ok (.invokevirtual 146, 3) := by decide +kernel
theorem dX9_deal_15 : decode cX9_deal 15 = .ok (.ireturn, 1) := by decide +kernel
theorem dX9_best_0 : decode cX9_best 0 = .ok (.aload_n 0, 1) := by decide +kernel
theorem dX9_best_1 : decode cX9_best 1 = .ok (.getfield 35, 3) := by decide +kernel
theorem dX9_best_4 : decode cX9_best 4 = .ok (.aload_n 0, 1) := by decide +kernel
theorem dX9_best_5 : decode cX9_best 5 = .ok (.getfield 18, 3) := by decide +kernel
theorem dX9_best_8 : decode cX9_best 8 = .ok (.aload_n 0, 1) := by decide +kernel
theorem dX9_best_9 : decode cX9_best 9 = .ok (.getfield 112, 3) := by decide +kernel
theorem dX9_best_12 : decode cX9_best 12 = .ok (.invokevirtual 150, 3) := by decide +kernel
theorem dX9_best_15 : decode cX9_best 15 = .ok (.ireturn, 1) := by decide +kernel
theorem dX9_share_0 : decode cX9_share 0 = .ok (.aload_n 0, 1) := by decide +kernel
theorem dX9_share_1 : decode cX9_share 1 = .ok (.iload_n 1, 1) := by decide +kernel
theorem dX9_share_2 : decode cX9_share 2 = .ok (.invokevirtual 128, 3) := by decide +kernel
theorem dX9_share_5 : decode cX9_share 5 = .ok (.ifCond .eq 13, 3) := by decide +kernel
theorem dX9_share_8 : decode cX9_share 8 = .ok (.aload_n 0, 1) := by decide +kernel
theorem dX9_share_9 : decode cX9_share 9 = .ok (.getfield 35, 3) := by decide +kernel
theorem dX9_share_12 : decode cX9_share 12 = .ok (.getfield 109, 3) := by decide +kernel
theorem dX9_share_15 : decode cX9_share 15 = .ok (.ifCond .ne 5, 3) := by decide +kernel
theorem dX9_share_18 : decode cX9_share 18 = .ok (.iconst (-1), 1) := by decide +kernel
theorem dX9_share_19 : decode cX9_share 19 = .ok (.ireturn, 1) := by decide +kernel
theorem dX9_share_20 : decode cX9_share 20 = .ok (.aload_n 0, 1) := by decide +kernel
theorem dX9_share_21 : decode cX9_share 21 = .ok (.getfield 35, 3) := by decide +kernel
theorem dX9_share_24 : decode cX9_share 24 = .ok (.getfield 153, 3) := by decide +kernel
theorem dX9_share_27 : decode cX9_share 27 = .ok (.iload_n 1, 1) := by decide +kernel
theorem dX9_share_28 : decode cX9_share 28 = .ok (.iaload, 1) := by decide +kernel
theorem dX9_share_29 : decode cX9_share 29 = .ok (.aload_n 0, 1) := by decide +kernel
theorem dX9_share_30 : decode cX9_share 30 = .ok (.getfield 26, 3) := by decide +kernel
theorem dX9_share_33 : decode cX9_share 33 = .ok (.getfield 94, 3) := by decide +kernel
theorem dX9_share_36 : decode cX9_share 36 = .ok (.imul, 1) := by decide +kernel
theorem dX9_share_37 : decode cX9_share 37 = .ok (.ireturn, 1) := by decide +kernel
theorem dX9_begin_0 : decode cX9_begin 0 = .ok (.aload_n 0, 1) := by decide +kernel
theorem dX9_begin_1 : decode cX9_begin 1 = .ok (.getfield 35, 3) := by decide +kernel
theorem dX9_begin_4 : decode cX9_begin 4 = .ok (.aload_n 0, 1) := by decide +kernel
theorem dX9_begin_5 : decode cX9_begin 5 = .ok (.getfield 18, 3) := by decide +kernel
theorem dX9_begin_8 : decode cX9_begin 8 = .ok (.aload_n 0, 1) := by decide +kernel
theorem dX9_begin_9 : decode cX9_begin 9 = .ok (.getfield 112, 3) := by decide +kernel
theorem dX9_begin_12 : decode cX9_begin 12 = .ok (.invokevirtual 146, 3) := by decide +kernel
theorem dX9_begin_15 : decode cX9_begin 15 = .ok (.istore_n 1, 1) := by decide +kernel
theorem dX9_begin_16 : decode cX9_begin 16 = .ok (.iload_n 1, 1) := by decide +kernel
theorem dX9_begin_17 : decode cX9_begin 17 = .ok (.iconst (-1), 1) := by decide +kernel
theorem dX9_begin_18 : decode cX9_begin 18 = .ok (.if_icmp .eq 10, 3) := by decide +kernel
theorem dX9_begin_21 : decode cX9_begin 21 = .ok (.aload_n 0, 1) := by decide +kernel
theorem dX9_begin_22 : decode cX9_begin 22 = .ok (.getfield 112, 3) := by decide +kernel
theorem dX9_begin_25 : decode cX9_begin 25 = .ok (.ifCond .ne 5, 3) := by decide +kernel
theorem dX9_begin_28 : decode cX9_begin 28 = .ok (.iconst 0, 1) := by decide +kernel
theorem dX9_begin_29 : decode cX9_begin 29 = .ok (.ireturn, 1) := by decide +kernel
theorem dX9_begin_30 : decode cX9_begin 30 = .ok (.aload_n 0, 1) := by decide +kernel
theorem dX9_begin_31 : decode cX9_begin 31 = .ok (.getfield 42, 3) := by decide +kernel
theorem dX9_begin_34 : decode cX9_begin 34 = .ok (.aload_n 0, 1) := by decide +kernel
theorem dX9_begin_35 : decode cX9_begin 35 = .ok (.getfield 18, 3) := by decide +kernel
theorem dX9_begin_38 : decode cX9_begin 38 = .ok (.aload_n 0, 1) := by decide +kernel
theorem dX9_begin_39 : decode cX9_begin 39 = .ok (.getfield 112, 3) := by decide +kernel
theorem dX9_begin_42 : decode cX9_begin 42 = .ok (.aload_n 0, 1) := by decide +kernel
theorem dX9_begin_43 : decode cX9_begin 43 = .ok (.getfield 35, 3) := by decide +kernel
theorem dX9_begin_46 : decode cX9_begin 46 = .ok (.getfield 153, 3) := by decide +kernel
theorem dX9_begin_49 : decode cX9_begin 49 = .ok (.invokevirtual 157, 3) := by decide +kernel
theorem dX9_begin_52 : decode cX9_begin 52 = .ok (.iconst 1, 1) := by decide +kernel
theorem dX9_begin_53 : decode cX9_begin 53 = .ok (.ireturn, 1) := by decide +kernel
theorem dX9_stop_0 : decode cX9_stop 0 = .ok (.aload_n 0, 1) := by decide +kernel
theorem dX9_stop_1 : decode cX9_stop 1 = .ok (.getfield 42, 3) := by decide +kernel
theorem dX9_stop_4 : decode cX9_stop 4 = .ok (.getfield 86, 3) := by decide +kernel
theorem dX9_stop_7 : decode cX9_stop 7 = .ok (.istore_n 1, 1) := by decide +kernel
theorem dX9_stop_8 : decode cX9_stop 8 = .ok (.aload_n 0, 1) := by decide +kernel
theorem dX9_stop_9 : decode cX9_stop 9 = .ok (.getfield 42, 3) := by decide +kernel
theorem dX9_stop_12 : decode cX9_stop 12 = .ok (.iconst 0, 1) := by decide +kernel
theorem dX9_stop_13 : decode cX9_stop 13 = .ok (.putfield 86, 3) := by decide +kernel
theorem dX9_stop_16 : decode cX9_stop 16 = .ok (.iload_n 1, 1) := by decide +kernel
theorem dX9_stop_17 : decode cX9_stop 17 = .ok (.ireturn, 1) := by decide +kernel
theorem dX9_run_0 : decode cX9_run 0 = .ok (.iload_n 1, 1) := by decide +kernel
theorem dX9_run_1 : decode cX9_run 1 = .ok (.iconst 1, 1) := by decide +kernel
theorem dX9_run_2 : decode cX9_run 2 = .ok (.if_icmp .lt 10, 3) := by decide +kernel
theorem dX9_run_5 : decode cX9_run 5 = .ok (.iload_n 1, 1) := by decide +kernel
theorem dX9_run_6 : decode cX9_run 6 = .ok (.sipush 2000, 3) := by decide +kernel
theorem dX9_run_9 : decode cX9_run 9 = .ok (.if_icmp .le 6, 3) := by decide +kernel
theorem dX9_run_12 : decode cX9_run 12 = .ok (.bipush (-2), 2) := by decide +kernel
theorem dX9_run_14 : decode cX9_run 14 = .ok (.ireturn, 1) := by decide +kernel
theorem dX9_run_15 : decode cX9_run 15 = .ok (.aload_n 0, 1) := by decide +kernel
theorem dX9_run_16 : decode cX9_run 16 = .ok (.getfield 42, 3) := by decide +kernel
theorem dX9_run_19 : decode cX9_run 19 = .ok (.getfield 86, 3) := by decide +kernel
theorem dX9_run_22 : decode cX9_run 22 = .ok (.ifCond .ne 6, 3) := by decide +kernel
theorem dX9_run_25 : decode cX9_run 25 = .ok (.bipush (-9), 2) := by decide +kernel
theorem dX9_run_27 : decode cX9_run 27 = .ok (.ireturn, 1) := by decide +kernel
theorem dX9_run_28 : decode cX9_run 28 = .ok (.iconst 0, 1) := by decide +kernel
theorem dX9_run_29 : decode cX9_run 29 = .ok (.istore_n 2, 1) := by decide +kernel
theorem dX9_run_30 : decode cX9_run 30 = .ok (.iload_n 2, 1) := by decide +kernel
theorem dX9_run_31 : decode cX9_run 31 = .ok (.iload_n 1, 1) := by decide +kernel
theorem dX9_run_32 : decode cX9_run 32 = .ok (.if_icmp .ge 26, 3) := by decide +kernel
theorem dX9_run_35 : decode cX9_run 35 = .ok (.aload_n 0, 1) := by decide +kernel
theorem dX9_run_36 : decode cX9_run 36 = .ok (.getfield 42, 3) := by decide +kernel
theorem dX9_run_39 : decode cX9_run 39 = .ok (.invokevirtual 161, 3) := by decide +kernel
theorem dX9_run_42 : decode cX9_run 42 = .ok (.ifCond .eq 16, 3) := by decide +kernel
theorem dX9_run_45 : decode cX9_run 45 = .ok (.aload_n 0, 1) := by decide +kernel
theorem dX9_run_46 : decode cX9_run 46 = .ok (.getfield 42, 3) := by decide +kernel
theorem dX9_run_49 : decode cX9_run 49 = .ok (.invokevirtual 164, 3) := by decide +kernel
theorem dX9_run_52 : decode cX9_run 52 = .ok (.iinc 2 1, 3) := by decide +kernel
theorem dX9_run_55 : decode cX9_run 55 = .ok (.goto (-25), 3) := by decide +kernel
theorem dX9_run_58 : decode cX9_run 58 = .ok (.aload_n 0, 1) := by decide +kernel
theorem dX9_run_59 : decode cX9_run 59 = .ok (.getfield 42, 3) := by decide +kernel
theorem dX9_run_62 : decode cX9_run 62 = .ok (.getfield 167, 3) := by decide +kernel
theorem dX9_run_65 : decode cX9_run 65 = .ok (.ireturn, 1) := by decide +kernel
theorem dX9_of_0 : decode cX9_of 0 = .ok (.iload_n 1, 1) := by decide +kernel
theorem dX9_of_1 : decode cX9_of 1 = .ok (.ifCond .lt 14, 3) := by decide +kernel
theorem dX9_of_4 : decode cX9_of 4 = .ok (.iload_n 1, 1) := by decide +kernel
theorem dX9_of_5 : decode cX9_of 5 = .ok (.aload_n 0, 1) := by decide +kernel
theorem dX9_of_6 : decode cX9_of 6 = .ok (.getfield 42, 3) := by decide +kernel
theorem dX9_of_9 : decode cX9_of 9 = .ok (.getfield 125, 3) := by decide +kernel
theorem dX9_of_12 : decode cX9_of 12 = .ok (.if_icmp .lt 6, 3) := by decide +kernel
theorem dX9_of_15 : decode cX9_of 15 = .ok (.bipush (-2), 2) := by decide +kernel
theorem dX9_of_17 : decode cX9_of 17 = .ok (.ireturn, 1) := by decide +kernel
theorem dX9_of_18 : decode cX9_of 18 = .ok (.aload_n 0, 1) := by decide +kernel
theorem dX9_of_19 : decode cX9_of 19 = .ok (.getfield 42, 3) := by decide +kernel
theorem dX9_of_22 : decode cX9_of 22 = .ok (.getfield 170, 3) := by decide +kernel
theorem dX9_of_25 : decode cX9_of 25 = .ok (.iload_n 1, 1) := by decide +kernel
theorem dX9_of_26 : decode cX9_of 26 = .ok (.aaload, 1) := by decide +kernel
theorem dX9_of_27 : decode cX9_of 27 = .ok (.iload_n 2, 1) := by decide +kernel
theorem dX9_of_28 : decode cX9_of 28 = .ok (.invokevirtual 174, 3) := by decide +kernel
theorem dX9_of_31 : decode cX9_of 31 = .ok (.ireturn, 1) := by decide +kernel
theorem dX9_count_0 : decode cX9_count 0 = .ok (.iload_n 1, 1) := by decide +kernel
theorem dX9_count_1 : decode cX9_count 1 = .ok (.tableswitch 167 0 11 #[63, 68, 76, 84, 92, 100, 108, 124, 132, 140, 151, 162], 63) := by decide +kernel
theorem dX9_count_64 : decode cX9_count 64 = .ok (.aload_n 0, 1) := by decide +kernel
theorem dX9_count_65 : decode cX9_count 65 = .ok (.getfield 112, 3) := by decide +kernel
theorem dX9_count_68 : decode cX9_count 68 = .ok (.ireturn, 1) := by decide +kernel
theorem dX9_count_69 : decode cX9_count 69 = .ok (.aload_n 0, 1) := by decide +kernel
theorem dX9_count_70 : decode cX9_count 70 = .ok (.getfield 26, 3) := by decide +kernel
theorem dX9_count_73 : decode cX9_count 73 = .ok (.getfield 94, 3) := by decide +kernel
theorem dX9_count_76 : decode cX9_count 76 = .ok (.ireturn, 1) := by decide +kernel
theorem dX9_count_77 : decode cX9_count 77 = .ok (.aload_n 0, 1) := by decide +kernel
theorem dX9_count_78 : decode cX9_count 78 = .ok (.getfield 26, 3) := by decide +kernel
theorem dX9_count_81 : decode cX9_count 81 = .ok (.getfield 97, 3) := by decide +kernel
theorem dX9_count_84 : decode cX9_count 84 = .ok (.ireturn, 1) := by decide +kernel
theorem dX9_count_85 : decode cX9_count 85 = .ok (.aload_n 0, 1) := by decide +kernel
theorem dX9_count_86 : decode cX9_count 86 = .ok (.getfield 26, 3) := by decide +kernel
theorem dX9_count_89 : decode cX9_count 89 = .ok (.getfield 100, 3) := by decide +kernel
theorem dX9_count_92 : decode cX9_count 92 = .ok (.ireturn, 1) := by decide +kernel
theorem dX9_count_93 : decode cX9_count 93 = .ok (.aload_n 0, 1) := by decide +kernel
theorem dX9_count_94 : decode cX9_count 94 = .ok (.getfield 26, 3) := by decide +kernel
theorem dX9_count_97 : decode cX9_count 97 = .ok (.getfield 103, 3) := by decide +kernel
theorem dX9_count_100 : decode cX9_count 100 = .ok (.ireturn, 1) := by decide +kernel
theorem dX9_count_101 : decode cX9_count 101 = .ok (.aload_n 0, 1) := by decide +kernel
theorem dX9_count_102 : decode cX9_count 102 = .ok (.getfield 26, 3) := by decide +kernel
theorem dX9_count_105 : decode cX9_count 105 = .ok (.getfield 106, 3) := by decide +kernel
theorem dX9_count_108 : decode cX9_count 108 = .ok (.ireturn, 1) := by decide +kernel
theorem dX9_count_109 : decode cX9_count 109 = .ok (.aload_n 0, 1) := by decide +kernel
theorem dX9_count_110 : decode cX9_count 110 = .ok (.getfield 42, 3) := by decide +kernel
theorem dX9_count_113 : decode cX9_count 113 = .ok (.getfield 86, 3) := by decide +kernel
theorem dX9_count_116 : decode cX9_count 116 = .ok (.ifCond .eq 7, 3) := by decide +kernel
theorem dX9_count_119 : decode cX9_count 119 = .ok (.iconst 1, 1) := by decide +kernel
theorem dX9_count_120 : decode cX9_count 120 = .ok (.goto 4, 3) := by decide +kernel
theorem dX9_count_123 : decode cX9_count 123 = .ok (.iconst 0, 1) := by decide +kernel
theorem dX9_count_124 : decode cX9_count 124 = .ok (.ireturn, 1) := by decide +kernel
theorem dX9_count_125 : decode cX9_count 125 = .ok (.aload_n 0, 1) := by decide +kernel
theorem dX9_count_126 : decode cX9_count 126 = .ok (.getfield 42, 3) := by decide +kernel
theorem dX9_count_129 : decode cX9_count 129 = .ok (.getfield 167, 3) := by decide +kernel
theorem dX9_count_132 : decode cX9_count 132 = .ok (.ireturn, 1) := by decide +kernel
theorem dX9_count_133 : decode cX9_count 133 = .ok (.aload_n 0, 1) := by decide +kernel
theorem dX9_count_134 : decode cX9_count 134 = .ok (.getfield 42, 3) := by decide +kernel
theorem dX9_count_137 : decode cX9_count 137 = .ok (.getfield 180, 3) := by decide +kernel
theorem dX9_count_140 : decode cX9_count 140 = .ok (.ireturn, 1) := by decide +kernel
theorem dX9_count_141 : decode cX9_count 141 = .ok (.aload_n 0, 1) := by decide +kernel
theorem dX9_count_142 : decode cX9_count 142 = .ok (.getfield 42, 3) := by decide +kernel
theorem dX9_count_145 : decode cX9_count 145 = .ok (.getfield 183, 3) := by decide +kernel
theorem dX9_count_148 : decode cX9_count 148 = .ok (.invokevirtual 187, 3) := by decide +kernel
theorem dX9_count_151 : decode cX9_count 151 = .ok (.ireturn, 1) := by decide +kernel
theorem dX9_count_152 : decode cX9_count 152 = .ok (.aload_n 0, 1) := by decide +kernel
theorem dX9_count_153 : decode cX9_count 153 = .ok (.getfield 42, 3) := by decide +kernel
theorem dX9_count_156 : decode cX9_count 156 = .ok (.getfield 183, 3) := by decide +kernel
theorem dX9_count_159 : decode cX9_count 159 = .ok (.getfield 192, 3) := by decide +kernel
theorem dX9_count_162 : decode cX9_count 162 = .ok (.ireturn, 1) := by decide +kernel
theorem dX9_count_163 : decode cX9_count 163 = .ok (.aload_n 0, 1) := by decide +kernel
theorem dX9_count_164 : decode cX9_count 164 = .ok (.invokevirtual 195, 3) := by decide +kernel
theorem dX9_count_167 : decode cX9_count 167 = .ok (.ireturn, 1) := by decide +kernel
theorem dX9_count_168 : decode cX9_count 168 = .ok (.iconst (-1), 1) := by decide +kernel
theorem dX9_count_169 : decode cX9_count 169 = .ok (.ireturn, 1) := by decide +kernel
theorem dX9_log_0 : decode cX9_log 0 = .ok (.aload_n 0, 1) := by decide +kernel
theorem dX9_log_1 : decode cX9_log 1 = .ok (.getfield 42, 3) := by decide +kernel
theorem dX9_log_4 : decode cX9_log 4 = .ok (.getfield 183, 3) := by decide +kernel
theorem dX9_log_7 : decode cX9_log 7 = .ok (.iload_n 1, 1) := by decide +kernel
theorem dX9_log_8 : decode cX9_log 8 = .ok (.iload_n 2, 1) := by decide +kernel
theorem dX9_log_9 : decode cX9_log 9 = .ok (.invokevirtual 198, 3) := by decide +kernel
theorem dX9_log_12 : decode cX9_log 12 = .ok (.ireturn, 1) := by decide +kernel
theorem dX9_isSlot_0 : decode cX9_isSlot 0 = .ok (.iload_n 1, 1) := by decide +kernel
theorem dX9_isSlot_1 : decode cX9_isSlot 1 = .ok (.ifCond .lt 12, 3) := by decide +kernel
theorem dX9_isSlot_4 : decode cX9_isSlot 4 = .ok (.iload_n 1, 1) := by decide +kernel
theorem dX9_isSlot_5 : decode cX9_isSlot 5 = .ok (.iconst 4, 1) := by decide +kernel
theorem dX9_isSlot_6 : decode cX9_isSlot 6 = .ok (.if_icmp .ge 7, 3) := by decide +kernel
theorem dX9_isSlot_9 : decode cX9_isSlot 9 = .ok (.iconst 1, 1) := by decide +kernel
theorem dX9_isSlot_10 : decode cX9_isSlot 10 = .ok (.goto 4, 3) := by decide +kernel
theorem dX9_isSlot_13 : decode cX9_isSlot 13 = .ok (.iconst 0, 1) := by decide +kernel
theorem dX9_isSlot_14 : decode cX9_isSlot 14 = .ok (.ireturn, 1) := by decide +kernel
theorem dX9_isProgram_0 : decode cX9_isProgram 0 = .ok (.iload_n 1, 1) := by decide +kernel
theorem dX9_isProgram_1 : decode cX9_isProgram 1 = .ok (.ifCond .lt 15, 3) := by decide +kernel
theorem dX9_isProgram_4 : decode cX9_isProgram 4 = .ok (.iload_n 1, 1) := by decide +kernel
theorem dX9_isProgram_5 : decode cX9_isProgram 5 = .ok (.aload_n 0, 1) := by decide +kernel
theorem dX9_isProgram_6 : decode cX9_isProgram 6 = .ok (.getfield 112, 3) := by decide +kernel
theorem dX9_isProgram_9 : decode cX9_isProgram 9 = .ok (.if_icmp .ge 7, 3) := by decide +kernel
theorem dX9_isProgram_12 : decode cX9_isProgram 12 = .ok (.iconst 1, 1) := by decide +kernel
theorem dX9_isProgram_13 : decode cX9_isProgram 13 = .ok (.goto 4, 3) := by decide +kernel
theorem dX9_isProgram_16 : decode cX9_isProgram 16 = .ok (.iconst 0, 1) := by decide +kernel
theorem dX9_isProgram_17 : decode cX9_isProgram 17 = .ok (.ireturn, 1) := by decide +kernel
theorem dX9_rowsThere_0 : decode cX9_rowsThere 0 = .ok (.iconst 0, 1) := by decide +kernel
theorem dX9_rowsThere_1 : decode cX9_rowsThere 1 = .ok (.istore_n 1, 1) := by decide +kernel
theorem dX9_rowsThere_2 : decode cX9_rowsThere 2 = .ok (.iconst 0, 1) := by decide +kernel
theorem dX9_rowsThere_3 : decode cX9_rowsThere 3 = .ok (.istore_n 2, 1) := by decide +kernel
theorem dX9_rowsThere_4 : decode cX9_rowsThere 4 = .ok (.iload_n 2, 1) := by decide +kernel
theorem dX9_rowsThere_5 : decode cX9_rowsThere 5 = .ok (.iconst 4, 1) := by decide +kernel
theorem dX9_rowsThere_6 : decode cX9_rowsThere 6 = .ok (.if_icmp .ge 24, 3) := by decide +kernel
theorem dX9_rowsThere_9 : decode cX9_rowsThere 9 = .ok (.aload_n 0, 1) := by decide +kernel
theorem dX9_rowsThere_10 : decode cX9_rowsThere 10 = .ok (.getfield 11, 3) := by decide +kernel
theorem dX9_rowsThere_13 : decode cX9_rowsThere 13 = .ok (.iload_n 2, 1) := by decide +kernel
theorem dX9_rowsThere_14 : decode cX9_rowsThere 14 = .ok (.aaload, 1) := by decide +kernel
theorem dX9_rowsThere_15 : decode cX9_rowsThere 15 = .ok (.invokevirtual 54, 3) := by decide +kernel
theorem dX9_rowsThere_18 : decode cX9_rowsThere 18 = .ok (.ifCond .ne 6, 3) := by decide +kernel
theorem dX9_rowsThere_21 : decode cX9_rowsThere 21 = .ok (.iinc 1 1, 3) := by decide +kernel
theorem dX9_rowsThere_24 : decode cX9_rowsThere 24 = .ok (.iinc 2 1, 3) := by decide +kernel
theorem dX9_rowsThere_27 : decode cX9_rowsThere 27 = .ok (.goto (-23), 3) := by decide +kernel
theorem dX9_rowsThere_30 : decode cX9_rowsThere 30 = .ok (.iload_n 1, 1) := by decide +kernel
theorem dX9_rowsThere_31 : decode cX9_rowsThere 31 = .ok (.ireturn, 1) := by decide +kernel
end
section
/-! THE ABSTRACT MACHINE: ints and longs as Int, cells by kind and number; 'aRun' says that the machine, at such a point, comes to the method's end with Q -/
abbrev aV : Type := Int ⊕ Int ⊕ Option (Nat × Nat)
abbrev aI (x : Int) : aV := .inl x
abbrev aL (x : Int) : aV := .inr (.inl x)
abbrev aR (r : Option (Nat × Nat)) : aV := .inr (.inr r)
abbrev aO (k i : Nat) : aV := .inr (.inr (some (k, i)))
abbrev aIF : Type := Nat → Nat → Nat → Int
abbrev aRF : Type := Nat → Nat → Nat → Option (Nat × Nat)
def i32 (x : Int) : Prop := -2147483648 ≤ x ∧ x < 2147483648
def i64 (x : Int) : Prop := -9223372036854775808 ≤ x ∧ x < 9223372036854775808
def w32 (x : Int) : Int := (Int32.ofInt x).toInt
def w64 (x : Int) : Int := (Int64.ofInt x).toInt
theorem i32_of (x : Int32) : i32 x.toInt := by
  have h1 := Int32.le_toInt x
  have h2 := Int32.toInt_lt x
  unfold i32
  omega
theorem i64_of (x : Int64) : i64 x.toInt := by
  have h1 := Int64.le_toInt x
  have h2 := Int64.toInt_lt x
  unfold i64
  omega
theorem i32_w (x : Int) : i32 (w32 x) := i32_of _
theorem i64_w (x : Int) : i64 (w64 x) := i64_of _
theorem i32_bm {z : Int} (h : i32 z) : z.bmod (2 ^ 32) = z := by
  obtain ⟨h1, h2⟩ := h
  rw [Int.bmod_eq_of_le (by omega) (by omega)]
theorem i64_bm {z : Int} (h : i64 z) : z.bmod (2 ^ 64) = z := by
  obtain ⟨h1, h2⟩ := h
  rw [Int.bmod_eq_of_le (by omega) (by omega)]
theorem i32_ti {z : Int} (h : i32 z) : (Int32.ofInt z).toInt = z := by
  rw [Int32.toInt_ofInt, i32_bm h]
theorem i64_ti {z : Int} (h : i64 z) : (Int64.ofInt z).toInt = z := by
  rw [Int64.toInt_ofInt, i64_bm h]
theorem w32_eq {z : Int} (h : i32 z) : w32 z = z := i32_ti h
theorem w64_eq {z : Int} (h : i64 z) : w64 z = z := i64_ti h
theorem i32_64 {z : Int} (h : i32 z) : i64 z := by
  obtain ⟨h1, h2⟩ := h
  constructor <;> omega
theorem of32_eq {x : Int32} {z : Int} (h : x.toInt = z) : x = Int32.ofInt z := by
  rw [← h, Int32.ofInt_toInt]
theorem of64_eq {x : Int64} {z : Int} (h : x.toInt = z) : x = Int64.ofInt z := by
  rw [← h, Int64.ofInt_toInt]
theorem of32_w (z : Int) : Int32.ofInt (w32 z) = Int32.ofInt z := Int32.ofInt_toInt _
theorem of64_w (z : Int) : Int64.ofInt (w64 z) = Int64.ofInt z := Int64.ofInt_toInt _
theorem of32_add {x y : Int} (hx : i32 x) (hy : i32 y) (h : i32 (x + y)) : Int32.ofInt x + Int32.ofInt y = Int32.ofInt (x + y) := of32_eq (by rw [Int32.toInt_add, i32_ti hx, i32_ti hy, i32_bm h])
theorem of32_sub {x y : Int} (hx : i32 x) (hy : i32 y) (h : i32 (x - y)) : Int32.ofInt x - Int32.ofInt y = Int32.ofInt (x - y) := of32_eq (by rw [Int32.toInt_sub, i32_ti hx, i32_ti hy, i32_bm h])
theorem of32_mul {x y : Int} (hx : i32 x) (hy : i32 y) (h : i32 (x * y)) : Int32.ofInt x * Int32.ofInt y = Int32.ofInt (x * y) := of32_eq (by rw [Int32.toInt_mul, i32_ti hx, i32_ti hy, i32_bm h])
theorem of32_neg {x : Int} (hx : i32 x) (h : i32 (-x)) : -Int32.ofInt x = Int32.ofInt (-x) := of32_eq (by rw [Int32.toInt_neg, i32_ti hx, i32_bm h])
theorem of32_addw {x y : Int} : Int32.ofInt x + Int32.ofInt y = Int32.ofInt (w32 (x + y)) := by
  rw [of32_w, Int32.ofInt_add]
theorem of64_add {x y : Int} (hx : i64 x) (hy : i64 y) (h : i64 (x + y)) : Int64.ofInt x + Int64.ofInt y = Int64.ofInt (x + y) := of64_eq (by rw [Int64.toInt_add, i64_ti hx, i64_ti hy, i64_bm h])
theorem of64_sub {x y : Int} (hx : i64 x) (hy : i64 y) (h : i64 (x - y)) : Int64.ofInt x - Int64.ofInt y = Int64.ofInt (x - y) := of64_eq (by rw [Int64.toInt_sub, i64_ti hx, i64_ti hy, i64_bm h])
theorem of64_mul {x y : Int} (hx : i64 x) (hy : i64 y) (h : i64 (x * y)) : Int64.ofInt x * Int64.ofInt y = Int64.ofInt (x * y) := of64_eq (by rw [Int64.toInt_mul, i64_ti hx, i64_ti hy, i64_bm h])
theorem of32_lt {x y : Int} (hx : i32 x) (hy : i32 y) : Int32.ofInt x < Int32.ofInt y ↔ x < y := by
  rw [Int32.lt_iff_toInt_lt, i32_ti hx, i32_ti hy]
theorem of32_le {x y : Int} (hx : i32 x) (hy : i32 y) : Int32.ofInt x ≤ Int32.ofInt y ↔ x ≤ y := by
  rw [Int32.le_iff_toInt_le, i32_ti hx, i32_ti hy]
theorem of32_inj {x y : Int} (hx : i32 x) (hy : i32 y) : Int32.ofInt x = Int32.ofInt y ↔ x = y := by
  rw [← Int32.toInt_inj, i32_ti hx, i32_ti hy]
theorem of64_lt {x y : Int} (hx : i64 x) (hy : i64 y) : Int64.ofInt x < Int64.ofInt y ↔ x < y := by
  rw [Int64.lt_iff_toInt_lt, i64_ti hx, i64_ti hy]
theorem of64_inj {x y : Int} (hx : i64 x) (hy : i64 y) : Int64.ofInt x = Int64.ofInt y ↔ x = y := by
  rw [← Int64.toInt_inj, i64_ti hx, i64_ti hy]
theorem i32_0 : i32 0 := by unfold i32; omega
theorem of32_0 : Int32.ofInt 0 = 0 := rfl
theorem tdiv_rng {x y : Int} (h0 : 0 < y) : (0 ≤ x → 0 ≤ x.tdiv y ∧ x.tdiv y ≤ x) ∧ (x ≤ 0 → x ≤ x.tdiv y ∧ x.tdiv y ≤ 0) := by
  have pos : ∀ z : Int, 0 ≤ z → 0 ≤ z.tdiv y ∧ z.tdiv y ≤ z := fun z hz => by
    rw [Int.tdiv_eq_ediv_of_nonneg hz]
    exact ⟨Int.ediv_nonneg hz (Int.le_of_lt h0), Int.ediv_le_self y hz⟩
  refine ⟨pos x, fun h => ?_⟩
  have h1 := pos (-x) (by omega)
  rw [Int.neg_tdiv] at h1
  omega
theorem of32_tdiv {x y : Int} (hx : i32 x) (hy : i32 y) (h0 : 0 < y) : Int32.ofInt x / Int32.ofInt y = Int32.ofInt (x.tdiv y) := of32_eq (by
  rw [Int32.toInt_div, i32_ti hx, i32_ti hy, i32_bm]
  have h1 := tdiv_rng (x := x) h0
  unfold i32 at *
  omega)
theorem of32_div {x y : Int} (hx : i32 x) (hy : i32 y) (h1 : 0 ≤ x) (h0 : 0 < y) : Int32.ofInt x / Int32.ofInt y = Int32.ofInt (x / y) := by
  rw [of32_tdiv hx hy h0, Int.tdiv_eq_ediv_of_nonneg h1]
theorem i64_tdiv {x y : Int} (hx : i64 x) (h0 : 0 < y) : i64 (x.tdiv y) := by
  have h1 := tdiv_rng (x := x) h0
  unfold i64 at *
  omega
theorem of64_tdiv {x y : Int} (hx : i64 x) (hy : i64 y) (h0 : 0 < y) : Int64.ofInt x / Int64.ofInt y = Int64.ofInt (x.tdiv y) := of64_eq (by
  rw [Int64.toInt_div, i64_ti hx, i64_ti hy, i64_bm (i64_tdiv hx h0)])
theorem i32_div {x y : Int} (hx : i32 x) (h1 : 0 ≤ x) (h0 : 0 < y) : i32 (x / y) := by
  have h2 := Int.ediv_le_self y h1
  have h3 := Int.ediv_nonneg h1 (Int.le_of_lt h0)
  unfold i32 at *
  omega
theorem i32_mod {x y : Int} (hy : i32 y) (h0 : 0 < y) : i32 (x % y) := by
  have h2 := Int.emod_lt_of_pos x h0
  have h3 := Int.emod_nonneg x (by omega : y ≠ 0)
  unfold i32 at *
  omega
theorem emod_le_self {x y : Int} (h1 : 0 ≤ x) (h0 : 0 < y) : x % y ≤ x := by
  have h2 := Int.ediv_nonneg h1 (Int.le_of_lt h0)
  have h3 := Int.ediv_mul_add_emod x y
  have h4 := Int.mul_nonneg h2 (Int.le_of_lt h0)
  omega
theorem of32_rem {x y : Int} (hx : i32 x) (hy : i32 y) (h1 : 0 ≤ x) (h0 : 0 < y) : Int32.ofInt x - Int32.ofInt x / Int32.ofInt y * Int32.ofInt y = Int32.ofInt (x % y) := by
  have hm : x / y * y = x - x % y := by
    have := Int.ediv_mul_add_emod x y
    omega
  have hd := i32_div hx h1 h0
  have h3 := Int.emod_nonneg x (by omega : y ≠ 0)
  have hr : i32 (x % y) := i32_mod hy h0
  have hle : x % y ≤ x := emod_le_self h1 h0
  have hp : i32 (x / y * y) := by
    rw [hm]
    unfold i32 at *
    omega
  rw [of32_div hx hy h1 h0, of32_mul hd hy hp, of32_sub hx hp (by rw [hm]; unfold i32 at *; omega), hm]
  congr 1
  omega
theorem of32_tn {x : Int} (hx : i32 x) : (Int32.ofInt x).toNatClampNeg = x.toNat := by
  rw [show (Int32.ofInt x).toNatClampNeg = (Int32.ofInt x).toInt.toNat from rfl, i32_ti hx]
theorem of32_in {x : Int} {n : Nat} (hx : i32 x) (h0 : 0 ≤ x) (h1 : x < n) : vp_in (Int32.ofInt x) n := vp_in_iff.mpr (by rw [i32_ti hx]; exact ⟨h0, h1⟩)
def aOk : aV → Prop
  | .inl x => i32 x
  | .inr (.inl x) => i64 x
  | .inr (.inr _) => True
def aCat : aV → Nat
  | .inr (.inl _) => 2
  | _ => 1
/-- the kinds of cells: array or not, class or element, length, how many, the first place, the stride -/
def aKT : List (Nat × Nat × Nat × Nat × Nat × Nat) := [(0, 0, 0, 0, 0, 0), (0, 9, 0, 1, 0, 1), (1, 3, 4, 1, 1, 1), (0, 3, 0, 4, 2, 2), (1, 1, 60, 4, 3, 2), (1, 4, 6, 1, 10, 1), (0, 1, 0, 6, 11, 3), (1, 0, 60, 6, 12, 3), (1, 0, 65, 6, 13, 3), (0, 5, 0, 1, 29, 1), (0, 0, 0, 1, 30, 1), (0, 8, 0, 1, 31, 1), (0, 6, 0, 1, 32, 1), (1, 0, 60, 1, 33, 1), (1, 0, 65, 1, 34, 1), (1, 0, 65, 1, 35, 1), (1, 0, 65, 1, 36, 1), (1, 0, 6, 1, 37, 1), (1, 0, 6, 1, 38, 1), (1, 6, 7, 1, 39, 1), (1, 0, 65, 7, 40, 1), (0, 7, 0, 1, 47, 1), (0, 4, 0, 1, 48, 1), (1, 0, 60, 1, 49, 1), (1, 0, 60, 1, 50, 1), (1, 0, 60, 1, 51, 1), (1, 0, 60, 1, 52, 1), (1, 5, 6, 1, 53, 1), (0, 2, 0, 6, 54, 3), (0, 6, 0, 6, 55, 3), (1, 0, 60, 6, 56, 3), (0, 0, 0, 0, 0, 0), (0, 0, 0, 0, 0, 0), (0, 0, 0, 0, 0, 0), (0, 0, 0, 0, 0, 0), (0, 0, 0, 0, 0, 0), (0, 0, 0, 0, 0, 0), (0, 0, 0, 0, 0, 0), (0, 0, 0, 0, 0, 0), (0, 0, 0, 0, 0, 0), (0, 10, 0, 1, 72, 1), (1, 0, 4, 1, 73, 1), (1, 0, 4, 1, 74, 1), (1, 1, 240, 1, 75, 1), (1, 1, 60, 1, 76, 1), (0, 0, 0, 0, 0, 0), (0, 0, 0, 0, 0, 0), (0, 0, 0, 0, 0, 0), (0, 0, 0, 0, 0, 0), (0, 0, 0, 0, 0, 0), (0, 0, 0, 0, 0, 0), (1, 0, 6, 1, 77, 1), (1, 0, 360, 1, 78, 1), (1, 0, 6, 1, 79, 1), (1, 0, 6, 1, 80, 1), (1, 0, 6, 1, 81, 1), (1, 0, 2400, 1, 82, 1), (0, 0, 0, 0, 0, 0), (1, 0, 6, 1, 83, 1), (1, 0, 6, 1, 84, 1), (1, 0, 390, 1, 85, 1), (1, 1, 455, 1, 86, 1), (0, 0, 0, 0, 0, 0), (0, 0, 0, 0, 0, 0), (0, 0, 0, 0, 0, 0), (0, 0, 0, 0, 0, 0), (0, 0, 0, 0, 0, 0), (0, 0, 0, 0, 0, 0), (1, 0, 6, 1, 87, 1), (1, 0, 6, 1, 88, 1), (1, 0, 6, 1, 89, 1), (1, 0, 6, 1, 90, 1), (1, 0, 6, 1, 91, 1), (1, 0, 6, 1, 92, 1), (1, 0, 6, 1, 93, 1), (1, 0, 6, 1, 94, 1), (1, 0, 6, 1, 95, 1), (1, 0, 6, 1, 96, 1), (1, 0, 6, 1, 97, 1), (1, 0, 6, 1, 98, 1), (1, 0, 6, 1, 99, 1), (1, 0, 6, 1, 100, 1), (1, 2, 6, 1, 101, 1), (1, 2, 6, 1, 102, 1), (1, 0, 14400, 1, 103, 1), (1, 0, 240, 1, 104, 1)]
/-- which kind and number lies at each place -/
def aPos : List (Nat × Nat) := [(1, 0), (2, 0), (3, 0), (4, 0), (3, 1), (4, 1), (3, 2), (4, 2), (3, 3), (4, 3), (5, 0), (6, 0), (7, 0), (8, 0), (6, 1), (7, 1), (8, 1), (6, 2), (7, 2), (8, 2), (6, 3), (7, 3), (8, 3), (6, 4), (7, 4), (8, 4), (6, 5), (7, 5), (8, 5), (9, 0), (10, 0), (11, 0), (12, 0), (13, 0), (14, 0), (15, 0), (16, 0), (17, 0), (18, 0), (19, 0), (20, 0), (20, 1), (20, 2), (20, 3), (20, 4), (20, 5), (20, 6), (21, 0), (22, 0), (23, 0), (24, 0), (25, 0), (26, 0), (27, 0), (28, 0), (29, 0), (30, 0), (28, 1), (29, 1), (30, 1), (28, 2), (29, 2), (30, 2), (28, 3), (29, 3), (30, 3), (28, 4), (29, 4), (30, 4), (28, 5), (29, 5), (30, 5), (40, 0), (41, 0), (42, 0), (43, 0), (44, 0), (51, 0), (52, 0), (53, 0), (54, 0), (55, 0), (56, 0), (58, 0), (59, 0), (60, 0), (61, 0), (68, 0), (69, 0), (70, 0), (71, 0), (72, 0), (73, 0), (74, 0), (75, 0), (76, 0), (77, 0), (78, 0), (79, 0), (80, 0), (81, 0), (82, 0), (83, 0), (84, 0), (85, 0)]
def aSzs : List Nat := [6, 4, 3, 60, 3, 60, 3, 60, 3, 60, 6, 7, 60, 65, 7, 60, 65, 7, 60, 65, 7, 60, 65, 7, 60, 65, 7, 60, 65, 5, 6, 7, 3, 60, 65, 65, 65, 6, 6, 7, 65, 65, 65, 65, 65, 65, 65, 7, 5, 60, 60, 60, 60, 6, 17, 3, 60, 17, 3, 60, 17, 3, 60, 17, 3, 60, 17, 3, 60, 17, 3, 60, 46, 4, 4, 240, 60, 6, 360, 6, 6, 6, 2400, 6, 6, 390, 455, 6, 6, 6, 6, 6, 6, 6, 6, 6, 6, 6, 6, 6, 6, 6, 6, 14400, 240]
-- NT = 105, slots 21279
def kA (k : Nat) : Nat := (aKT.getD k (0, 0, 0, 0, 0, 0)).1
def kC (k : Nat) : Nat := (aKT.getD k (0, 0, 0, 0, 0, 0)).2.1
def kLen (k : Nat) : Nat := (aKT.getD k (0, 0, 0, 0, 0, 0)).2.2.1
def kCnt (k : Nat) : Nat := (aKT.getD k (0, 0, 0, 0, 0, 0)).2.2.2.1
def kOf (k : Nat) : Nat := (aKT.getD k (0, 0, 0, 0, 0, 0)).2.2.2.2.1
def kSt (k : Nat) : Nat := (aKT.getD k (0, 0, 0, 0, 0, 0)).2.2.2.2.2
/-- the place of a cell among all -/
def aPl (k i : Nat) : Nat := kOf k + kSt k * i
def aSz (n : Nat) : Nat := (aSzs.take n).sum
def aLv (n k i : Nat) : Prop := i < kCnt k ∧ aPl k i < n
theorem kCnt_big {k : Nat} (h : 86 ≤ k) : kCnt k = 0 := by
  unfold kCnt
  rw [List.getD_eq_getElem?_getD, List.getElem?_eq_none (by rw [show aKT.length = 86 from rfl]; exact h)]
  rfl
theorem aPos_dec : ∀ k, k < 86 → ∀ i, i < kCnt k → aPos[aPl k i]? = some (k, i) := by decide +kernel
theorem aPos_at {k i : Nat} (h : i < kCnt k) : aPos[aPl k i]? = some (k, i) := by
  by_cases hk : k < 86
  · exact aPos_dec k hk i h
  · rw [kCnt_big (by omega)] at h
    omega
theorem aPl_inj {k i k2 i2 : Nat} (h : i < kCnt k) (h2 : i2 < kCnt k2) (e : aPl k i = aPl k2 i2) : k = k2 ∧ i = i2 := by
  have a := aPos_at h
  have b := aPos_at h2
  rw [e] at a
  have c := a.symm.trans b
  cases c
  exact ⟨rfl, rfl⟩
theorem kCnt_0 : kCnt 0 = 0 := rfl
theorem kArr_dec : ∀ k, k < 86 → kA k ≤ 1 := by decide +kernel
/-! the world: launch, class numbers and slots, array classes, the first place, the script's place, its cell, its length, its ints -/
abbrev aW : Type := Launch × va_G × (Nat → ClassId) × Nat × Nat × Cell × Nat × (Nat → Int)
def aw_l (w : aW) : Launch := w.1
def aw_D (w : aW) : va_G := w.2.1
def aw_C (w : aW) : Nat → ClassId := w.2.2.1
def aw_B (w : aW) : Nat := w.2.2.2.1
def aw_b (w : aW) : Nat := w.2.2.2.2.1
def aw_sc (w : aW) : Cell := w.2.2.2.2.2.1
def aw_L (w : aW) : Nat := w.2.2.2.2.2.2.1
def aw_xs (w : aW) : Nat → Int := w.2.2.2.2.2.2.2
def aAd (w : aW) (q : Nat × Nat) : Nat := if q.1 = 0 then aw_b w else aw_B w + aPl q.1 q.2
def aDen (w : aW) : aV → Value
  | .inl x => .int (Int32.ofInt x)
  | .inr (.inl x) => .long (Int64.ofInt x)
  | .inr (.inr r) => va_rf (r.map (aAd w))
theorem aDen_cat (w : aW) (v : aV) : (aDen w v).category = aCat v := by
  rcases v with x | x | r
  · rfl
  · rfl
  · cases r <;> rfl
def aNm (c : Nat) : String := [RX0, RX1, RX2, RX3, RX4, RX5, RX6, RX7, RX8, RX9, RX10].getD c ""
def aNf (c : Nat) : Nat := [6, 7, 17, 3, 5, 5, 3, 7, 7, 6, 46].getD c 0
def aTT (c : Nat) : u_T := match c with
  | 0 => TX0
  | 1 => TX1
  | 2 => TX2
  | 3 => TX3
  | 4 => TX4
  | 5 => TX5
  | 6 => TX6
  | 7 => TX7
  | 8 => TX8
  | 9 => TX9
  | _ => TX10
def aTy (c : Nat) : Nat → FieldType := match c with
  | 0 => tyX0
  | 1 => tyX1
  | 2 => tyX2
  | 3 => tyX3
  | 4 => tyX4
  | 5 => tyX5
  | 6 => tyX6
  | 7 => tyX7
  | 8 => tyX8
  | 9 => tyX9
  | _ => tyX10
theorem a11 {P : Nat → Prop} (h0 : P 0) (h1 : P 1) (h2 : P 2) (h3 : P 3) (h4 : P 4) (h5 : P 5) (h6 : P 6) (h7 : P 7) (h8 : P 8) (h9 : P 9) (h10 : P 10) : ∀ c, c < 11 → P c
  | 0, _ => h0
  | 1, _ => h1
  | 2, _ => h2
  | 3, _ => h3
  | 4, _ => h4
  | 5, _ => h5
  | 6, _ => h6
  | 7, _ => h7
  | 8, _ => h8
  | 9, _ => h9
  | 10, _ => h10
  | c + 11, h => absurd h (by omega)
theorem aCl : ∀ c, c < 11 → vwCl[c]? = some (aNm c, aTT c, aNf c) := a11 rfl rfl rfl rfl rfl rfl rfl rfl rfl rfl rfl
theorem aTy_ok : ∀ c, c < 11 → ∀ k, k < aNf c → parseFieldDescriptor (aTT c k).2.2.1 = some (aTy c k) := a11 tyX0_ok tyX1_ok tyX2_ok tyX3_ok tyX4_ok tyX5_ok tyX6_ok tyX7_ok tyX8_ok tyX9_ok tyX10_ok
theorem aNn : ∀ c, c < 11 → ∀ a, a < aNf c → ∀ b, b < aNf c → a ≠ b → (aTT c a).2.1 ≠ (aTT c b).2.1 := a11 nmX0 nmX1 nmX2 nmX3 nmX4 nmX5 nmX6 nmX7 nmX8 nmX9 nmX10
/-- what a field holds -/
def aFv (w : aW) (I : aIF) (R : aRF) (ty : FieldType) (k i j : Nat) : Value := match ty with
  | .int => .int (Int32.ofInt (I k i j))
  | .boolean => .int (Int32.ofInt (I k i j))
  | _ => va_rf ((R k i j).map (aAd w))
def aAr (w : aW) (I : aIF) (R : aRF) (t k i : Nat) : (Nat → Int32) ⊕ (Nat → Int64) ⊕ (Nat → UInt32) ⊕ (Nat → UInt64) ⊕ (Nat → Option Nat) := match t with
  | 0 => .inl (fun j => Int32.ofInt (I k i j))
  | 1 => .inr (.inl (fun j => Int64.ofInt (I k i j)))
  | 2 => .inl (fun j => Int32.ofInt (I k i j))
  | _ => .inr (.inr (.inr (.inr (fun j => (R k i j).map (aAd w)))))
def aFs (w : aW) (I : aIF) (R : aRF) (c k i : Nat) : List Value := (List.range (aNf c)).map (fun j => aFv w I R (aTy c j) k i j)
def aCell (w : aW) (I : aIF) (R : aRF) (k i : Nat) : va_E :=
  if kA k = 0 then .inr (kC k, aFs w I R (kC k) k i) else .inl (aw_C w (kC k), kLen k, aAr w I R (kC k) k i)
def aOkI (I : aIF) : Prop := ∀ k i j, if kA k = 1 ∧ kC k = 1 then i64 (I k i j) else i32 (I k i j)
def aRep (w : aW) (n : Nat) (I : aIF) (R : aRF) (H : Heap) : Prop :=
  H.size = aw_B w + n ∧ (∀ k i, aLv n k i → va_at (aw_D w) vwCl (aAd w (k, i), aCell w I R k i) H) ∧ aOkI I ∧ H[aw_b w]? = some (aw_sc w) ∧ aw_b w < aw_B w
def aTys (w : aW) : List (ClassId × FieldType) := [(aw_C w 0, .int), (aw_C w 1, .long), (aw_C w 2, .boolean), (aw_C w 3, .object RX3), (aw_C w 4, .object RX1), (aw_C w 5, .object RX2), (aw_C w 6, .array .int)]
def aTb : List Cond := lw_tbl.filter goodWord
def aBad : List Cond := lw_tbl.filter (fun x => !goodWord x)
theorem aTb_in {x : Cond} (h : x ∈ lw_tbl) (hg : goodWord x = true) : x ∈ aTb := List.mem_filter.mpr ⟨h, hg⟩
theorem aTb_at {x : Cond} (i : Nat) (h : tables_1[i]? = some x) (hg : goodWord x = true) : x ∈ aTb := aTb_in (List.mem_append_right _ (List.mem_of_getElem? h)) hg
theorem aTb_of {x : Cond} (h : x ∈ aTb) : x ∈ lw_tbl := (List.mem_filter.mp h).1
theorem aTb_good {x : Cond} (h : x ∈ aTb) : (x.onTables && x.keeps) = true ∨ ∃ ty, x = .arrayClass ty := good_of_word (List.mem_filter.mp h).2
theorem aTb_self : GoodIn aTb aTb := fun _ h => ⟨h, aTb_good h⟩
end
section
/-! what the tables say, at a method's start -/
theorem aOA_moved {u U : State} (hvm : u.vm.Alike U.vm) (h : (Cond.arrayOver (.array .int)).before #[] u = true) : (Cond.arrayOver (.array .int)).before #[] U = true := by
  obtain ⟨comp, c, k, h1, h2, h3, h4, h5⟩ := arrayOverA_spec h
  obtain ⟨k', hk', he⟩ := hvm.2.2 _ _ h3
  have hi : (U.vm.classes.findIdx? fun (x : Class) => match x.kind with | .array component _ => component == comp | _ => false) = some c := by
    rw [hvm.findIdx?_eq _ (fun _ => rfl)]
    exact h2
  have hkind : k'.kind = .array comp (.array .int) := by rw [he]; exact h4
  have f1 : U.vm.findClass (FieldType.array .int).toString = some comp := by rw [hvm.findClass]; exact h1
  have f2 : U.vm.findClass ("[" ++ (FieldType.array .int).toString) = some c := by rw [hvm.findClass]; exact h5
  unfold Cond.before Cond.holds
  simp only [Cond.value]
  rw [f1, Option.bind_some]
  refine (congrArg (fun o : Option Nat => (o.bind (fun c => (U.vm.classes[c]?).map fun (k : Class) => match k.kind with | .array _ ty => decide (ty = FieldType.array .int) && decide (U.vm.findClass ("[" ++ (FieldType.array .int).toString) = some c) | _ => false) == some true)) hi).trans ?_
  simp [hk', hkind, f2]
def aKn (w : aW) (U : State) : Prop :=
  va_K (aw_D w) vwCl (aTys w) U ∧ (∀ a i y h, Cond.methodLinkNest a i y h ∈ lw_tbl → va_Nw (.methodLinkNest a i y h) U) ∧ (∀ C, Cond.arrayOver (.object C) ∈ lw_tbl → va_AO C U) ∧ (Cond.arrayOver (.array .int)).before #[] U = true ∧
  U.isArrayOf (aw_sc w) .int ∧ (aw_sc w).vm ≠ .unknown ∧ (aw_sc w).slots.size = aw_L w ∧ aw_L w ≤ 3072 ∧ (∀ j, j < aw_L w → (aw_sc w).slots[j]? = some (.int (Int32.ofInt (aw_xs w j)))) ∧ ∀ j, i32 (aw_xs w j)
theorem aKn_warm {w : aW} {s U : State} (hW : s.WarmedH U.vm) (h : aKn w s) : aKn w U := by
  obtain ⟨h1, h2, h3, h4, h5, h6⟩ := h
  exact ⟨h1.moved hW.alike, fun a i y h q => (h2 a i y h q).warmM hW, fun C q => (h3 C q).moved hW.alike, aOA_moved hW.alike h4, State.isArrayOf_alike hW.alike h5, h6⟩
theorem aKn_same {w : aW} {s U : State} (hv : s.vm = U.vm) (h : aKn w s) : aKn w U := by
  obtain ⟨h1, h2, h3, h4, h5, h6⟩ := h
  have ha : s.vm.Alike U.vm := by rw [← hv]; exact Vm.Alike.refl _
  exact ⟨h1.moved ha, fun a i y h q => va_Nw.same rfl hv (h2 a i y h q), fun C q => (h3 C q).moved ha, aOA_moved ha h4, State.isArrayOf_alike ha h5, h6⟩
/-- a method: name, code, locals, what it returns, its room -/
abbrev aM : Type := MethodName × ByteArray × Nat × Option FieldType × Room
def aWs (M : aM) : List Cond := .code M.1 M.2.1 M.2.2.1 M.2.2.2.1 :: aTb
abbrev aQ : Type := Option aV → Nat → aIF → aRF → Prop
def aQc (w : aW) (M : aM) (n0 : Nat) (Q : aQ) : Array Value → State → Outcome → State → Prop := fun _ _ o t =>
  ∃ (r : Option aV) (n : Nat) (I : aIF) (R : aRF), o = .returned (r.map (aDen w)) ∧ (∀ v, r = some v → aOk v) ∧ aRep w n I R t.heap ∧ n = n0 + M.2.2.2.2.cells ∧ aSz n = aSz n0 + M.2.2.2.2.slots ∧ Q r n I R
def aOkS (st : List aV) : Prop := ∀ v ∈ st, aOk v
def aPc (w : aW) (As : List aV) (n : Nat) (I : aIF) (R : aRF) : Array Value → State → Prop := fun a U => a = (As.map (aDen w)).toArray ∧ aOkS As ∧ aRep w n I R U.heap ∧ aKn w U
def aMet (w : aW) (M : aM) (As : List aV) (n : Nat) (I : aIF) (R : aRF) (Q : aQ) : Prop :=
  Met (aw_l w) M.1 (aWs M) M.2.2.2.2 (aPc w As n I R) (aQc w M n Q) M.2.2.2.2.cells M.2.2.2.2.slots (fun q => aw_B w ≤ q)
def aFin (w : aW) (M : aM) (n0 : Nat) (Q : aQ) (below : List Frame) (args : Array Value) (s : State) : State → Prop :=
  if M.1 = yL_law then lw_Z below args s else MQ below (aQc w M n0 Q) args s M.2.2.2.2.cells M.2.2.2.2.slots (fun q => aw_B w ≤ q)
def aCtx (w : aW) (M : aM) (p : Program) (s : State) (m : MethodId) (args : Array Value) (meth : Method) (c : Code) : Prop :=
  p.tables.exec = Jvm.exec ∧ c.code = M.2.1 ∧ meth.sig.returnType = M.2.2.2.1 ∧ c.maxLocals = M.2.2.1 ∧ s.vm.findClass M.1.cls = some m.cls ∧ (∀ x ∈ aTb, x.before args s = true) ∧ meth.locks = false ∧ (M.1.name = "<init>" → meth.name = "<init>") ∧ aKn w s ∧ (M.1 = yL_law → s.heap.size = aw_B w ∧ args = #[Value.ref (aw_b w)])
def aLs (w : aW) (ls : Array Slot) (nL : Nat) (L : List (Option aV)) : Prop := ls.size = nL ∧ lv_wf ls ∧ ∀ (i : Nat) (v : aV), L[i]? = some (some v) → ls[i]? = some (Slot.val (aDen w v))
def aOkL (L : List (Option aV)) : Prop := ∀ (i : Nat) (v : aV), L[i]? = some (some v) → aOk v
/-- THE JUDGEMENT -/
def aRun (w : aW) (M : aM) (pc : Nat) (L : List (Option aV)) (st : List aV) (n0 n : Nat) (I : aIF) (R : aRF) (Q : aQ) : Prop :=
  ∀ (p : Program) (e : Env) (s : State) (m : MethodId) (args : Array Value) (below : List Frame) (meth : Method) (c : Code) (H : Heap) (locs : List Loc) (ls : Array Slot),
    aCtx w M p s m args meth c → aRep w n I R H → (∀ q ∈ locs, aw_B w ≤ q.base) → aLs w ls M.2.2.1 L → aOkL L → aOkS st → n0 ≤ n → aSz n0 ≤ aSz n →
    W p (aw_l w) e M.2.2.2.2 s m args below meth c H locs (n - n0) (aSz n - aSz n0) (aFin w M n0 Q below args s) (F0 m pc ls (st.map (aDen w)))
/-! locals -/
def aKill (L : List (Option aV)) (i : Nat) : List (Option aV) := match i with
  | 0 => L
  | j + 1 => match L[j]? with
    | some (some (.inr (.inl _))) => L.set j none
    | _ => L
def aSet1 (L : List (Option aV)) (i : Nat) (v : aV) : List (Option aV) := (aKill L i).set i (some v)
def aSet2 (L : List (Option aV)) (i : Nat) (v : aV) : List (Option aV) := ((aKill L i).set i (some v)).set (i + 1) none
theorem aKill_len (L : List (Option aV)) (i : Nat) : (aKill L i).length = L.length := by
  cases i with
  | zero => rfl
  | succ j =>
    simp only [aKill]
    split <;> simp
theorem aKill_get {L : List (Option aV)} {i j : Nat} {u : aV} (h : (aKill L i)[j]? = some (some u)) : L[j]? = some (some u) ∧ ¬ (j + 1 = i ∧ aCat u = 2) := by
  cases i with
  | zero => exact ⟨h, fun q => by omega⟩
  | succ q =>
    simp only [aKill] at h
    split at h
    · rename_i x hx
      rw [List.getElem?_set] at h
      by_cases e : q = j
      · subst e
        rw [if_pos rfl] at h
        split at h <;> cases h
      · rw [if_neg e] at h
        exact ⟨h, fun z => e (by omega)⟩
    · rename_i hx
      refine ⟨h, fun z => ?_⟩
      have e : j = q := by omega
      subst e
      rcases u with x | x | x
      · exact absurd z.2 (by simp [aCat])
      · exact hx x h
      · exact absurd z.2 (by simp [aCat])
theorem aSet1_get {L : List (Option aV)} {i j : Nat} {v u : aV} (h : (aSet1 L i v)[j]? = some (some u)) : (j = i ∧ u = v) ∨ (j ≠ i ∧ L[j]? = some (some u) ∧ ¬ (j + 1 = i ∧ aCat u = 2)) := by
  unfold aSet1 at h
  rw [List.getElem?_set] at h
  by_cases e : i = j
  · rw [if_pos e] at h
    split at h
    · cases h
      exact Or.inl ⟨e.symm, rfl⟩
    · cases h
  · rw [if_neg e] at h
    exact Or.inr ⟨Ne.symm e, aKill_get h⟩
theorem aSet2_get {L : List (Option aV)} {i j : Nat} {v u : aV} (h : (aSet2 L i v)[j]? = some (some u)) : (j = i ∧ u = v) ∨ (j ≠ i ∧ j ≠ i + 1 ∧ L[j]? = some (some u) ∧ ¬ (j + 1 = i ∧ aCat u = 2)) := by
  unfold aSet2 at h
  rw [List.getElem?_set] at h
  by_cases e : i + 1 = j
  · rw [if_pos e] at h
    split at h <;> cases h
  · rw [if_neg e] at h
    rcases aSet1_get (L := L) (i := i) (v := v) h with q | q
    · exact Or.inl q
    · exact Or.inr ⟨q.1, Ne.symm e, q.2⟩
def aPr (w : aW) (L : List (Option aV)) : List (Nat × Value) := (List.range L.length).filterMap (fun i => (L.getD i none).map (fun v => (i, aDen w v)))
theorem aPr_mem {w : aW} {L : List (Option aV)} {q : Nat × Value} (h : q ∈ aPr w L) : ∃ v, L[q.1]? = some (some v) ∧ q.2 = aDen w v := by
  obtain ⟨i, hi, h2⟩ := List.mem_filterMap.mp h
  cases hg : L.getD i none with
  | none => rw [hg] at h2; cases h2
  | some v =>
    rw [hg] at h2
    cases h2
    have hl : i < L.length := List.mem_range.mp hi
    refine ⟨v, ?_, rfl⟩
    show L[i]? = _
    rw [List.getElem?_eq_getElem hl]
    rw [List.getD_eq_getElem?_getD, List.getElem?_eq_getElem hl] at hg
    exact congrArg some hg
theorem aPr_of {w : aW} {L : List (Option aV)} {i : Nat} {v : aV} (h : L[i]? = some (some v)) : (i, aDen w v) ∈ aPr w L := by
  have hl : i < L.length := (List.getElem?_eq_some_iff.mp h).1
  refine List.mem_filterMap.mpr ⟨i, List.mem_range.mpr hl, ?_⟩
  rw [List.getD_eq_getElem?_getD, h]
  rfl
theorem aLs_has {w : aW} {ls : Array Slot} {nL : Nat} {L : List (Option aV)} (h : aLs w ls nL L) : lv_has ls nL (aPr w L) := by
  refine ⟨h.1, h.2.1, fun q hq => ?_⟩
  obtain ⟨v, h1, h2⟩ := aPr_mem hq
  rw [h2]
  exact h.2.2 _ _ h1
theorem aLs_set1 {w : aW} {ls : Array Slot} {nL i : Nat} {L : List (Option aV)} {v : aV} (h : lv_has ls nL ((i, aDen w v) :: (aPr w L).filter (fun q => !(q.1 == i) && !(q.1 + 1 == i && q.2.category == 2)))) : aLs w ls nL (aSet1 L i v) := by
  refine ⟨h.1, h.2.1, fun j u hj => ?_⟩
  rcases aSet1_get hj with ⟨rfl, rfl⟩ | ⟨h1, h2, h3⟩
  · exact h.2.2 (j, aDen w u) List.mem_cons_self
  · refine h.2.2 (j, aDen w u) (List.mem_cons_of_mem _ (List.mem_filter.mpr ⟨aPr_of h2, ?_⟩))
    simp only [aDen_cat, Bool.and_eq_true, Bool.not_eq_true', beq_eq_false_iff_ne, Bool.and_eq_false_iff]
    refine ⟨h1, ?_⟩
    by_cases e : j + 1 = i
    · exact Or.inr (fun z => h3 ⟨e, z⟩)
    · exact Or.inl e
theorem aLs_set2 {w : aW} {ls : Array Slot} {nL i : Nat} {L : List (Option aV)} {v : aV} (h : lv_has ls nL ((i, aDen w v) :: (aPr w L).filter (fun q => !(q.1 == i) && (!(q.1 == i + 1) && !(q.1 + 1 == i && q.2.category == 2))))) : aLs w ls nL (aSet2 L i v) := by
  refine ⟨h.1, h.2.1, fun j u hj => ?_⟩
  rcases aSet2_get hj with ⟨rfl, rfl⟩ | ⟨h1, h0, h2, h3⟩
  · exact h.2.2 (j, aDen w u) List.mem_cons_self
  · refine h.2.2 (j, aDen w u) (List.mem_cons_of_mem _ (List.mem_filter.mpr ⟨aPr_of h2, ?_⟩))
    simp only [aDen_cat, Bool.and_eq_true, Bool.not_eq_true', beq_eq_false_iff_ne, Bool.and_eq_false_iff]
    refine ⟨h1, h0, ?_⟩
    by_cases e : j + 1 = i
    · exact Or.inr (fun z => h3 ⟨e, z⟩)
    · exact Or.inl e
theorem aOkL_set1 {L : List (Option aV)} {i : Nat} {v : aV} (h : aOkL L) (hv : aOk v) : aOkL (aSet1 L i v) := fun j u hj => by
  rcases aSet1_get hj with ⟨-, rfl⟩ | ⟨-, h2, -⟩
  · exact hv
  · exact h j u h2
theorem aOkL_set2 {L : List (Option aV)} {i : Nat} {v : aV} (h : aOkL L) (hv : aOk v) : aOkL (aSet2 L i v) := fun j u hj => by
  rcases aSet2_get hj with ⟨-, rfl⟩ | ⟨-, -, h2, -⟩
  · exact hv
  · exact h j u h2
theorem aOkS_cons {v : aV} {st : List aV} (hv : aOk v) (h : aOkS st) : aOkS (v :: st) := fun u hu => by
  rcases List.mem_cons.mp hu with rfl | q
  · exact hv
  · exact h u q
theorem aOkS_hd {v : aV} {st : List aV} (h : aOkS (v :: st)) : aOk v := h v List.mem_cons_self
theorem aOkS_tl {v : aV} {st : List aV} (h : aOkS (v :: st)) : aOkS st := fun u hu => h u (List.mem_cons_of_mem _ hu)
/-! the entry -/
def aE0 (As : List aV) : List (Option aV) := As.flatMap (fun v => if aCat v = 2 then [some v, none] else [some v])
def aEnt (As : List aV) (nL : Nat) : List (Option aV) := aE0 As ++ List.replicate (nL - (aE0 As).length) none
theorem aE0_get (w : aW) : ∀ (As : List aV) (i j : Nat) (v : aV), (aE0 As)[j]? = some (some v) → (i + j, aDen w v) ∈ lv_args i (As.map (aDen w))
  | [], _, _, _, h => by simp [aE0] at h
  | a :: As, i, j, v, h => by
    show _ ∈ (i, aDen w a) :: lv_args (if (aDen w a).category = 2 then i + 2 else i + 1) (As.map (aDen w))
    rw [aDen_cat]
    have he : aE0 (a :: As) = (if aCat a = 2 then [some a, none] else [some a]) ++ aE0 As := by simp [aE0]
    rw [he] at h
    by_cases hc : aCat a = 2
    · rw [if_pos hc] at h ⊢
      match j, h with
      | 0, h => cases h; exact List.mem_cons_self
      | 1, h => cases h
      | j + 2, h =>
        have := aE0_get w As (i + 2) j v h
        rw [show i + (j + 2) = i + 2 + j by omega]
        exact List.mem_cons_of_mem _ this
    · rw [if_neg hc] at h ⊢
      match j, h with
      | 0, h => cases h; exact List.mem_cons_self
      | j + 1, h =>
        have := aE0_get w As (i + 1) j v h
        rw [show i + (j + 1) = i + 1 + j by omega]
        exact List.mem_cons_of_mem _ this
theorem aE0_len (w : aW) : ∀ As : List aV, (lg_sl (As.map (aDen w))).length = (aE0 As).length
  | [] => rfl
  | a :: As => by
    have ih := aE0_len w As
    have h1 : lg_sl ((a :: As).map (aDen w)) = (if (aDen w a).category = 2 then [.val (aDen w a), .second] else [.val (aDen w a)]) ++ lg_sl (As.map (aDen w)) := by simp [lg_sl]
    have h2 : aE0 (a :: As) = (if aCat a = 2 then [some a, none] else [some a]) ++ aE0 As := by simp [aE0]
    rw [h1, h2, List.length_append, List.length_append, ih, aDen_cat]
    by_cases hc : aCat a = 2 <;> simp [hc]
theorem aEnt_get {As : List aV} {nL j : Nat} {v : aV} (h : (aEnt As nL)[j]? = some (some v)) : (aE0 As)[j]? = some (some v) := by
  unfold aEnt at h
  by_cases hl : j < (aE0 As).length
  · rwa [List.getElem?_append_left hl] at h
  · rw [List.getElem?_append_right (by omega), List.getElem?_replicate] at h
    split at h <;> cases h
theorem aEnt_ok {As : List aV} {nL : Nat} (h : aOkS As) : aOkL (aEnt As nL) := fun j v hj => by
  have h1 := aEnt_get hj
  have h2 : some v ∈ aE0 As := List.mem_of_getElem? h1
  obtain ⟨a, ha, h3⟩ := List.mem_flatMap.mp h2
  have : v = a := by
    by_cases hc : aCat a = 2
    · rw [if_pos hc] at h3
      rcases List.mem_cons.mp h3 with q | q
      · exact Option.some.inj q
      · simp at q
    · rw [if_neg hc] at h3
      simpa using h3
  rw [this]
  exact h a ha
set_option maxHeartbeats 1000000 in
theorem aMet_of {w : aW} {M : aM} {As : List aV} {n : Nat} {I : aIF} {R : aRF} {Q : aQ} (hy : plainName M.1.cls = true) (hM : M.1 ≠ yL_law) (hl : (aE0 As).length ≤ M.2.2.1) (h : aOkS As → aRun w M 0 (aEnt As M.2.2.1) [] n n I R Q) : aMet w M As n I R Q := by
  refine Met.ofW (cc := M.2.1) (maxL := M.2.2.1) (ret := M.2.2.2.1) hy rfl ?_
  intro p e s m args below meth c s₁ B hml hv
  obtain ⟨rfl, hok, hR, hK⟩ := hv
  have hts := atoms_spec (ws := aWs M) B.pre
  have hl2 := lv_entry (As.map (aDen w)) (n := M.2.2.1) (by rw [aE0_len]; exact hl)
  rw [lg_entry_eq]
  generalize (lg_sl (As.map (aDen w)) ++ List.replicate (M.2.2.1 - (lg_sl (As.map (aDen w))).length) Slot.unset).toArray = ls at hl2 ⊢
  have hC : aCtx w M p s m (As.map (aDen w)).toArray meth c := ⟨B.exec, B.bytes, B.returns, hml, findClass_of_methodNamed B.named, fun x hx => hts x (List.mem_cons_of_mem _ hx), B.notSynchronized, fun hn => by rw [← hn]; exact (name_of_methodNamed B.named B.method).1, hK, fun q => absurd q hM⟩
  have h1 := h hok p e s m _ below meth c s.heap [] ls hC hR (fun _ q => by cases q) ⟨hl2.1, hl2.2.1, fun i v hi => by
    have := hl2.2.2 _ (by simpa using aE0_get w As 0 i v (aEnt_get hi))
    exact this⟩ (aEnt_ok hok) (fun _ q => by cases q) (Nat.le_refl _) (Nat.le_refl _)
  rw [Nat.sub_self, Nat.sub_self] at h1
  unfold aFin at h1
  rw [if_neg hM] at h1
  exact h1
end
section
section AMS
variable {w : aW} {M : aM} {pc pc' : Nat} {L : List (Option aV)} {st : List aV} {n0 n : Nat} {I : aIF} {R : aRF} {Q : aQ}
/-- a step that changes the place and the stack alone -/
theorem aStk {st st' : List aV} {pc pc' : Nat} (hok : aOkL L → aOkS st → aOkS st')
    (h : ∀ (p : Program) (e : Env) (s : State) (m : MethodId) (args : Array Value) (below : List Frame) (meth : Method) (c : Code) (H : Heap) (locs : List Loc) (cells slots : Nat) (Z : State → Prop) (ls : Array Slot), p.tables.exec = Jvm.exec → c.code = M.2.1 → aCtx w M p s m args meth c → aRep w n I R H → aLs w ls M.2.2.1 L → aOkL L → aOkS st →
      W p (aw_l w) e M.2.2.2.2 s m args below meth c H locs cells slots Z (F0 m pc' ls (st'.map (aDen w))) → W p (aw_l w) e M.2.2.2.2 s m args below meth c H locs cells slots Z (F0 m pc ls (st.map (aDen w))))
    (k : aRun w M pc' L st' n0 n I R Q) : aRun w M pc L st n0 n I R Q := by
  intro p e s m args below meth c H locs ls C hR hlo hls hoL hos hn hsz
  exact h p e s m args below meth c H locs _ _ _ ls C.1 C.2.1 C hR hls hoL hos (k p e s m args below meth c H locs ls C hR hlo hls hoL (hok hoL hos) hn hsz)
theorem aEqPc (h : pc' = pc) (k : aRun w M pc' L st n0 n I R Q) : aRun w M pc L st n0 n I R Q := h ▸ k
theorem aEqL {L' : List (Option aV)} (h : L' = L) (k : aRun w M pc L' st n0 n I R Q) : aRun w M pc L st n0 n I R Q := h ▸ k
theorem aEqS {st' : List aV} (h : st' = st) (k : aRun w M pc L st' n0 n I R Q) : aRun w M pc L st n0 n I R Q := h ▸ k
theorem aEqI {I' : aIF} (h : I' = I) (k : aRun w M pc L st n0 n I' R Q) : aRun w M pc L st n0 n I R Q := h ▸ k
/-- fewer locals are known -/
theorem aLess {L' : List (Option aV)} (h : ∀ (i : Nat) (v : aV), L'[i]? = some (some v) → L[i]? = some (some v)) (k : aRun w M pc L' st n0 n I R Q) : aRun w M pc L st n0 n I R Q := by
  intro p e s m args below meth c H locs ls C hR hlo hls hoL hos hn hsz
  exact k p e s m args below meth c H locs ls C hR hlo ⟨hls.1, hls.2.1, fun i v hi => hls.2.2 i v (h i v hi)⟩ (fun i v hi => hoL i v (h i v hi)) hos hn hsz
/-- what is on the stack is in range -/
theorem aTopI {x : Int} (k : i32 x → aRun w M pc L (aI x :: st) n0 n I R Q) : aRun w M pc L (aI x :: st) n0 n I R Q := by
  intro p e s m args below meth c H locs ls C hR hlo hls hoL hos hn hsz
  exact k (aOkS_hd hos) p e s m args below meth c H locs ls C hR hlo hls hoL hos hn hsz
/-- what is in the heap is in range -/
theorem aHeap (k : aOkI I → aRun w M pc L st n0 n I R Q) : aRun w M pc L st n0 n I R Q := by
  intro p e s m args below meth c H locs ls C hR hlo hls hoL hos hn hsz
  exact k hR.2.2.1 p e s m args below meth c H locs ls C hR hlo hls hoL hos hn hsz
/-- what is in the locals is in range -/
theorem aLocI {x : Int} (i : Nat) (hl : L[i]? = some (some (aI x))) (k : i32 x → aRun w M pc L st n0 n I R Q) : aRun w M pc L st n0 n I R Q := by
  intro p e s m args below meth c H locs ls C hR hlo hls hoL hos hn hsz
  exact k (hoL i _ hl) p e s m args below meth c H locs ls C hR hlo hls hoL hos hn hsz

theorem aIconst {x : Int} (hv : i32 x) (hd : decode M.2.1 pc = .ok (.iconst x, 1)) (hp : pc + 1 = pc') (k : aRun w M pc' L (aI x :: st) n0 n I R Q) : aRun w M pc L (st) n0 n I R Q := by
  subst hp
  exact aStk (st := st) (st' := aI x :: st) (fun hoL hos => aOkS_cons (by first | exact hv | exact hv) hos) (fun p e s m args below meth c H locs cells slots Z ls hx hb C hR hls hoL hos k => lv_iconst hx hb hd rfl k) k
theorem aBipush {x : Int} (hv : -128 ≤ x ∧ x < 128) (hd : decode M.2.1 pc = .ok (.bipush x, 2)) (hp : pc + 2 = pc') (k : aRun w M pc' L (aI x :: st) n0 n I R Q) : aRun w M pc L (st) n0 n I R Q := by
  subst hp
  exact aStk (st := st) (st' := aI x :: st) (fun hoL hos => aOkS_cons (show i32 x by unfold i32; omega) hos) (fun p e s m args below meth c H locs cells slots Z ls hx hb C hR hls hoL hos k => lv_bipush hx hb hd (of32_eq (by rw [Int8.toInt_toInt32, Int8.toInt_ofInt, Int.bmod_eq_of_le (by simp only [Int8.size]; omega) (by simp only [Int8.size]; omega)])) k) k
theorem aSipush {x : Int} (hv : -32768 ≤ x ∧ x < 32768) (hd : decode M.2.1 pc = .ok (.sipush x, 3)) (hp : pc + 3 = pc') (k : aRun w M pc' L (aI x :: st) n0 n I R Q) : aRun w M pc L (st) n0 n I R Q := by
  subst hp
  exact aStk (st := st) (st' := aI x :: st) (fun hoL hos => aOkS_cons (show i32 x by unfold i32; omega) hos) (fun p e s m args below meth c H locs cells slots Z ls hx hb C hR hls hoL hos k => lv_sipush hx hb hd (of32_eq (by rw [Int16.toInt_toInt32, Int16.toInt_ofInt, Int.bmod_eq_of_le (by simp only [Int16.size]; omega) (by simp only [Int16.size]; omega)])) k) k
theorem aLconst0 (hd : decode M.2.1 pc = .ok (.lconst 0, 1)) (hp : pc + 1 = pc') (k : aRun w M pc' L (aL 0 :: st) n0 n I R Q) : aRun w M pc L (st) n0 n I R Q := by
  subst hp
  exact aStk (st := st) (st' := aL 0 :: st) (fun hoL hos => aOkS_cons (show i64 0 by unfold i64; omega) hos) (fun p e s m args below meth c H locs cells slots Z ls hx hb C hR hls hoL hos k => lv_lconst hx hb hd rfl k) k
theorem aLconst1 (hd : decode M.2.1 pc = .ok (.lconst 1, 1)) (hp : pc + 1 = pc') (k : aRun w M pc' L (aL 1 :: st) n0 n I R Q) : aRun w M pc L (st) n0 n I R Q := by
  subst hp
  exact aStk (st := st) (st' := aL 1 :: st) (fun hoL hos => aOkS_cons (show i64 1 by unfold i64; omega) hos) (fun p e s m args below meth c H locs cells slots Z ls hx hb C hR hls hoL hos k => lv_lconst hx hb hd rfl k) k
theorem aLdc {x : Int} {idx : Nat} (hc : Cond.constant M.1.cls idx (Int32.ofInt x) ∈ aTb) (hv : i32 x) (hd : decode M.2.1 pc = .ok (.ldc idx, 2)) (hp : pc + 2 = pc') (k : aRun w M pc' L (aI x :: st) n0 n I R Q) : aRun w M pc L (st) n0 n I R Q := by
  subst hp
  exact aStk (st := st) (st' := aI x :: st) (fun hoL hos => aOkS_cons hv hos) (fun p e s m args below meth c H locs cells slots Z ls hx hb C hR hls hoL hos k => lv_ldc hx hb C.2.2.2.2.1 (C.2.2.2.2.2.1 _ hc) hd k) k
theorem aLdc2 {x : Int} {idx : Nat} (hc : Cond.constantLong M.1.cls idx (Int64.ofInt x) ∈ aTb) (hv : i64 x) (hd : decode M.2.1 pc = .ok (.ldc2_w idx, 3)) (hp : pc + 3 = pc') (k : aRun w M pc' L (aL x :: st) n0 n I R Q) : aRun w M pc L (st) n0 n I R Q := by
  subst hp
  exact aStk (st := st) (st' := aL x :: st) (fun hoL hos => aOkS_cons hv hos) (fun p e s m args below meth c H locs cells slots Z ls hx hb C hR hls hoL hos k => lv_ldc2 hx hb C.2.2.2.2.1 (C.2.2.2.2.2.1 _ hc) hd k) k
theorem aIload {x : Int} {i : Nat} (hd : decode M.2.1 pc = .ok (.iload i, 2)) (hl : L[i]? = some (some (aI x))) (hp : pc + 2 = pc') (k : aRun w M pc' L (aI x :: st) n0 n I R Q) : aRun w M pc L (st) n0 n I R Q := by
  subst hp
  exact aStk (st := st) (st' := aI x :: st) (fun hoL hos => aOkS_cons (hoL i _ hl) hos) (fun p e s m args below meth c H locs cells slots Z ls hx hb C hR hls hoL hos k => lv_iload hx hb hd (hls.2.2 i _ hl) k) k
theorem aIload_n {x : Int} {i : Fin 4} (hd : decode M.2.1 pc = .ok (.iload_n i, 1)) (hl : L[i.val]? = some (some (aI x))) (hp : pc + 1 = pc') (k : aRun w M pc' L (aI x :: st) n0 n I R Q) : aRun w M pc L (st) n0 n I R Q := by
  subst hp
  exact aStk (st := st) (st' := aI x :: st) (fun hoL hos => aOkS_cons (hoL i.val _ hl) hos) (fun p e s m args below meth c H locs cells slots Z ls hx hb C hR hls hoL hos k => lv_iload_n hx hb hd rfl (hls.2.2 i.val _ hl) k) k
theorem aLload {x : Int} {i : Nat} (hd : decode M.2.1 pc = .ok (.lload i, 2)) (hl : L[i]? = some (some (aL x))) (hp : pc + 2 = pc') (k : aRun w M pc' L (aL x :: st) n0 n I R Q) : aRun w M pc L (st) n0 n I R Q := by
  subst hp
  exact aStk (st := st) (st' := aL x :: st) (fun hoL hos => aOkS_cons (hoL i _ hl) hos) (fun p e s m args below meth c H locs cells slots Z ls hx hb C hR hls hoL hos k => lv_lload hx hb hd (hls.2.2 i _ hl) k) k
theorem aLload_n {x : Int} {i : Fin 4} (hd : decode M.2.1 pc = .ok (.lload_n i, 1)) (hl : L[i.val]? = some (some (aL x))) (hp : pc + 1 = pc') (k : aRun w M pc' L (aL x :: st) n0 n I R Q) : aRun w M pc L (st) n0 n I R Q := by
  subst hp
  exact aStk (st := st) (st' := aL x :: st) (fun hoL hos => aOkS_cons (hoL i.val _ hl) hos) (fun p e s m args below meth c H locs cells slots Z ls hx hb C hR hls hoL hos k => lv_lload_n hx hb hd rfl (hls.2.2 i.val _ hl) k) k
theorem aAload {q : Nat × Nat} {i : Nat} (hd : decode M.2.1 pc = .ok (.aload i, 2)) (hl : L[i]? = some (some (aR (some q)))) (hp : pc + 2 = pc') (k : aRun w M pc' L (aR (some q) :: st) n0 n I R Q) : aRun w M pc L (st) n0 n I R Q := by
  subst hp
  exact aStk (st := st) (st' := aR (some q) :: st) (fun hoL hos => aOkS_cons (hoL i _ hl) hos) (fun p e s m args below meth c H locs cells slots Z ls hx hb C hR hls hoL hos k => lv_aload hx hb hd (hls.2.2 i _ hl) k) k
theorem aAload_n {q : Nat × Nat} {i : Fin 4} (hd : decode M.2.1 pc = .ok (.aload_n i, 1)) (hl : L[i.val]? = some (some (aR (some q)))) (hp : pc + 1 = pc') (k : aRun w M pc' L (aR (some q) :: st) n0 n I R Q) : aRun w M pc L (st) n0 n I R Q := by
  subst hp
  exact aStk (st := st) (st' := aR (some q) :: st) (fun hoL hos => aOkS_cons (hoL i.val _ hl) hos) (fun p e s m args below meth c H locs cells slots Z ls hx hb C hR hls hoL hos k => lv_aload_n hx hb hd rfl (hls.2.2 i.val _ hl) k) k
theorem aIadd {x y : Int} (h1 : -2147483648 ≤ x + y) (h2 : x + y < 2147483648) (hd : decode M.2.1 pc = .ok (.iadd, 1)) (hp : pc + 1 = pc') (k : aRun w M pc' L (aI (x + y) :: st) n0 n I R Q) : aRun w M pc L (aI y :: aI x :: st) n0 n I R Q := by
  subst hp
  exact aStk (st := aI y :: aI x :: st) (st' := aI (x + y) :: st) (fun hoL hos => aOkS_cons (show i32 _ from ⟨h1, h2⟩) (aOkS_tl (aOkS_tl hos))) (fun p e s m args below meth c H locs cells slots Z ls hx hb C hR hls hoL hos k => lv_iadd hx hb hd (by rw [of32_add (aOkS_hd (aOkS_tl hos)) (aOkS_hd hos) ⟨h1, h2⟩]; exact k)) k
theorem aIsub {x y : Int} (h1 : -2147483648 ≤ x - y) (h2 : x - y < 2147483648) (hd : decode M.2.1 pc = .ok (.isub, 1)) (hp : pc + 1 = pc') (k : aRun w M pc' L (aI (x - y) :: st) n0 n I R Q) : aRun w M pc L (aI y :: aI x :: st) n0 n I R Q := by
  subst hp
  exact aStk (st := aI y :: aI x :: st) (st' := aI (x - y) :: st) (fun hoL hos => aOkS_cons (show i32 _ from ⟨h1, h2⟩) (aOkS_tl (aOkS_tl hos))) (fun p e s m args below meth c H locs cells slots Z ls hx hb C hR hls hoL hos k => lv_isub hx hb hd (by rw [of32_sub (aOkS_hd (aOkS_tl hos)) (aOkS_hd hos) ⟨h1, h2⟩]; exact k)) k
theorem aImul {x y : Int} (h1 : -2147483648 ≤ x * y) (h2 : x * y < 2147483648) (hd : decode M.2.1 pc = .ok (.imul, 1)) (hp : pc + 1 = pc') (k : aRun w M pc' L (aI (x * y) :: st) n0 n I R Q) : aRun w M pc L (aI y :: aI x :: st) n0 n I R Q := by
  subst hp
  exact aStk (st := aI y :: aI x :: st) (st' := aI (x * y) :: st) (fun hoL hos => aOkS_cons (show i32 _ from ⟨h1, h2⟩) (aOkS_tl (aOkS_tl hos))) (fun p e s m args below meth c H locs cells slots Z ls hx hb C hR hls hoL hos k => lv_imul hx hb hd (by rw [of32_mul (aOkS_hd (aOkS_tl hos)) (aOkS_hd hos) ⟨h1, h2⟩]; exact k)) k
theorem aIaddw {x y : Int} (hd : decode M.2.1 pc = .ok (.iadd, 1)) (hp : pc + 1 = pc') (k : aRun w M pc' L (aI (w32 (x + y)) :: st) n0 n I R Q) : aRun w M pc L (aI y :: aI x :: st) n0 n I R Q := by
  subst hp
  exact aStk (st := aI y :: aI x :: st) (st' := aI (w32 (x + y)) :: st) (fun hoL hos => aOkS_cons (show i32 _ from i32_w _) (aOkS_tl (aOkS_tl hos))) (fun p e s m args below meth c H locs cells slots Z ls hx hb C hR hls hoL hos k => lv_iadd hx hb hd (by rw [of32_addw]; exact k)) k
theorem aIdiv {x y : Int} (h0 : 0 ≤ x) (h1 : 0 < y) (hd : decode M.2.1 pc = .ok (.idiv, 1)) (hp : pc + 1 = pc') (k : aRun w M pc' L (aI (x / y) :: st) n0 n I R Q) : aRun w M pc L (aI y :: aI x :: st) n0 n I R Q := by
  subst hp
  exact aStk (st := aI y :: aI x :: st) (st' := aI (x / y) :: st) (fun hoL hos => aOkS_cons (show i32 _ from i32_div (aOkS_hd (aOkS_tl hos)) h0 h1) (aOkS_tl (aOkS_tl hos))) (fun p e s m args below meth c H locs cells slots Z ls hx hb C hR hls hoL hos k => lv_idiv hx hb hd (fun q => by have := (of32_inj (aOkS_hd hos) i32_0).mp q; omega) (by rw [of32_div (aOkS_hd (aOkS_tl hos)) (aOkS_hd hos) h0 h1]; exact k)) k
theorem aIrem {x y : Int} (h0 : 0 ≤ x) (h1 : 0 < y) (hd : decode M.2.1 pc = .ok (.irem, 1)) (hp : pc + 1 = pc') (k : aRun w M pc' L (aI (x % y) :: st) n0 n I R Q) : aRun w M pc L (aI y :: aI x :: st) n0 n I R Q := by
  subst hp
  exact aStk (st := aI y :: aI x :: st) (st' := aI (x % y) :: st) (fun hoL hos => aOkS_cons (show i32 _ from i32_mod (aOkS_hd hos) h1) (aOkS_tl (aOkS_tl hos))) (fun p e s m args below meth c H locs cells slots Z ls hx hb C hR hls hoL hos k => lv_irem hx hb hd (fun q => by have := (of32_inj (aOkS_hd hos) i32_0).mp q; omega) (by rw [of32_rem (aOkS_hd (aOkS_tl hos)) (aOkS_hd hos) h0 h1]; exact k)) k
theorem aIand {x y : Int} (hd : decode M.2.1 pc = .ok (.iand, 1)) (hp : pc + 1 = pc') (k : aRun w M pc' L (aI ((Int32.ofInt x &&& Int32.ofInt y).toInt) :: st) n0 n I R Q) : aRun w M pc L (aI y :: aI x :: st) n0 n I R Q := by
  subst hp
  exact aStk (st := aI y :: aI x :: st) (st' := aI ((Int32.ofInt x &&& Int32.ofInt y).toInt) :: st) (fun hoL hos => aOkS_cons (show i32 _ from i32_of _) (aOkS_tl (aOkS_tl hos))) (fun p e s m args below meth c H locs cells slots Z ls hx hb C hR hls hoL hos k => lv_iand hx hb hd (by rw [of32_eq (rfl : (Int32.ofInt x &&& Int32.ofInt y).toInt = _)]; exact k)) k
theorem aIneg {x : Int} (h1 : -2147483648 < x) (hd : decode M.2.1 pc = .ok (.ineg, 1)) (hp : pc + 1 = pc') (k : aRun w M pc' L (aI (-x) :: st) n0 n I R Q) : aRun w M pc L (aI x :: st) n0 n I R Q := by
  subst hp
  exact aStk (st := aI x :: st) (st' := aI (-x) :: st) (fun hoL hos => aOkS_cons (show i32 (-x) by have := aOkS_hd hos; unfold aOk i32 at *; omega) (aOkS_tl hos)) (fun p e s m args below meth c H locs cells slots Z ls hx hb C hR hls hoL hos k => lv_ineg hx hb hd (by rw [of32_neg (aOkS_hd hos) (by have := aOkS_hd hos; unfold aOk at this; unfold i32 at *; omega)]; exact k)) k
theorem aLadd {x y : Int} (h1 : -9223372036854775808 ≤ x + y) (h2 : x + y < 9223372036854775808) (hd : decode M.2.1 pc = .ok (.ladd, 1)) (hp : pc + 1 = pc') (k : aRun w M pc' L (aL (x + y) :: st) n0 n I R Q) : aRun w M pc L (aL y :: aL x :: st) n0 n I R Q := by
  subst hp
  exact aStk (st := aL y :: aL x :: st) (st' := aL (x + y) :: st) (fun hoL hos => aOkS_cons (show i64 _ from ⟨h1, h2⟩) (aOkS_tl (aOkS_tl hos))) (fun p e s m args below meth c H locs cells slots Z ls hx hb C hR hls hoL hos k => lv_ladd hx hb hd (by rw [of64_add (aOkS_hd (aOkS_tl hos)) (aOkS_hd hos) ⟨h1, h2⟩]; exact k)) k
theorem aLsub {x y : Int} (h1 : -9223372036854775808 ≤ x - y) (h2 : x - y < 9223372036854775808) (hd : decode M.2.1 pc = .ok (.lsub, 1)) (hp : pc + 1 = pc') (k : aRun w M pc' L (aL (x - y) :: st) n0 n I R Q) : aRun w M pc L (aL y :: aL x :: st) n0 n I R Q := by
  subst hp
  exact aStk (st := aL y :: aL x :: st) (st' := aL (x - y) :: st) (fun hoL hos => aOkS_cons (show i64 _ from ⟨h1, h2⟩) (aOkS_tl (aOkS_tl hos))) (fun p e s m args below meth c H locs cells slots Z ls hx hb C hR hls hoL hos k => lv_lsub hx hb hd (by rw [of64_sub (aOkS_hd (aOkS_tl hos)) (aOkS_hd hos) ⟨h1, h2⟩]; exact k)) k
theorem aLmul {x y : Int} (h1 : -9223372036854775808 ≤ x * y) (h2 : x * y < 9223372036854775808) (hd : decode M.2.1 pc = .ok (.lmul, 1)) (hp : pc + 1 = pc') (k : aRun w M pc' L (aL (x * y) :: st) n0 n I R Q) : aRun w M pc L (aL y :: aL x :: st) n0 n I R Q := by
  subst hp
  exact aStk (st := aL y :: aL x :: st) (st' := aL (x * y) :: st) (fun hoL hos => aOkS_cons (show i64 _ from ⟨h1, h2⟩) (aOkS_tl (aOkS_tl hos))) (fun p e s m args below meth c H locs cells slots Z ls hx hb C hR hls hoL hos k => lv_lmul hx hb hd (by rw [of64_mul (aOkS_hd (aOkS_tl hos)) (aOkS_hd hos) ⟨h1, h2⟩]; exact k)) k
theorem aLdiv {x y : Int} (h1 : 0 < y) (hd : decode M.2.1 pc = .ok (.ldiv, 1)) (hp : pc + 1 = pc') (k : aRun w M pc' L (aL (x.tdiv y) :: st) n0 n I R Q) : aRun w M pc L (aL y :: aL x :: st) n0 n I R Q := by
  subst hp
  exact aStk (st := aL y :: aL x :: st) (st' := aL (x.tdiv y) :: st) (fun hoL hos => aOkS_cons (show i64 _ from i64_tdiv (aOkS_hd (aOkS_tl hos)) h1) (aOkS_tl (aOkS_tl hos))) (fun p e s m args below meth c H locs cells slots Z ls hx hb C hR hls hoL hos k => lv_ldiv hx hb hd (fun q => by have := (of64_inj (aOkS_hd hos) (show i64 0 by unfold i64; omega)).mp q; omega) (by rw [of64_tdiv (aOkS_hd (aOkS_tl hos)) (aOkS_hd hos) h1]; exact k)) k
theorem aLand {x y : Int} (hd : decode M.2.1 pc = .ok (.land, 1)) (hp : pc + 1 = pc') (k : aRun w M pc' L (aL ((Int64.ofInt x &&& Int64.ofInt y).toInt) :: st) n0 n I R Q) : aRun w M pc L (aL y :: aL x :: st) n0 n I R Q := by
  subst hp
  exact aStk (st := aL y :: aL x :: st) (st' := aL ((Int64.ofInt x &&& Int64.ofInt y).toInt) :: st) (fun hoL hos => aOkS_cons (show i64 _ from i64_of _) (aOkS_tl (aOkS_tl hos))) (fun p e s m args below meth c H locs cells slots Z ls hx hb C hR hls hoL hos k => lv_land hx hb hd (by rw [of64_eq (rfl : (Int64.ofInt x &&& Int64.ofInt y).toInt = _)]; exact k)) k
theorem aLor {x y : Int} (hd : decode M.2.1 pc = .ok (.lor, 1)) (hp : pc + 1 = pc') (k : aRun w M pc' L (aL ((Int64.ofInt x ||| Int64.ofInt y).toInt) :: st) n0 n I R Q) : aRun w M pc L (aL y :: aL x :: st) n0 n I R Q := by
  subst hp
  exact aStk (st := aL y :: aL x :: st) (st' := aL ((Int64.ofInt x ||| Int64.ofInt y).toInt) :: st) (fun hoL hos => aOkS_cons (show i64 _ from i64_of _) (aOkS_tl (aOkS_tl hos))) (fun p e s m args below meth c H locs cells slots Z ls hx hb C hR hls hoL hos k => lv_lor hx hb hd (by rw [of64_eq (rfl : (Int64.ofInt x ||| Int64.ofInt y).toInt = _)]; exact k)) k
theorem aLshl {x y : Int} (hd : decode M.2.1 pc = .ok (.lshl, 1)) (hp : pc + 1 = pc') (k : aRun w M pc' L (aL ((Int64.ofInt x <<< ((Int32.ofInt y).toInt64 &&& 63)).toInt) :: st) n0 n I R Q) : aRun w M pc L (aI y :: aL x :: st) n0 n I R Q := by
  subst hp
  exact aStk (st := aI y :: aL x :: st) (st' := aL ((Int64.ofInt x <<< ((Int32.ofInt y).toInt64 &&& 63)).toInt) :: st) (fun hoL hos => aOkS_cons (show i64 _ from i64_of _) (aOkS_tl (aOkS_tl hos))) (fun p e s m args below meth c H locs cells slots Z ls hx hb C hR hls hoL hos k => lv_lshl hx hb hd (of64_eq rfl) k) k
theorem aLcmp {x y : Int} (hd : decode M.2.1 pc = .ok (.lcmp, 1)) (hp : pc + 1 = pc') (k : aRun w M pc' L (aI (if y < x then 1 else if x = y then 0 else -1) :: st) n0 n I R Q) : aRun w M pc L (aL y :: aL x :: st) n0 n I R Q := by
  subst hp
  exact aStk (st := aL y :: aL x :: st) (st' := aI (if y < x then 1 else if x = y then 0 else -1) :: st) (fun hoL hos => aOkS_cons (show i32 _ by unfold i32; split; omega; split <;> omega) (aOkS_tl (aOkS_tl hos))) (fun p e s m args below meth c H locs cells slots Z ls hx hb C hR hls hoL hos k => W.lcmp hx hb hd (by rw [show lg_cmp (Int64.ofInt x) (Int64.ofInt y) = Int32.ofInt (if y < x then 1 else if x = y then 0 else -1) from by unfold lg_cmp; simp only [gt_iff_lt, of64_lt (aOkS_hd hos) (aOkS_hd (aOkS_tl hos)), of64_inj (aOkS_hd (aOkS_tl hos)) (aOkS_hd hos)]; split; rfl; split <;> rfl]; exact k)) k
theorem aI2l {x : Int} (hd : decode M.2.1 pc = .ok (.i2l, 1)) (hp : pc + 1 = pc') (k : aRun w M pc' L (aL x :: st) n0 n I R Q) : aRun w M pc L (aI x :: st) n0 n I R Q := by
  subst hp
  exact aStk (st := aI x :: st) (st' := aL x :: st) (fun hoL hos => aOkS_cons (show i64 x from i32_64 (aOkS_hd hos)) (aOkS_tl hos)) (fun p e s m args below meth c H locs cells slots Z ls hx hb C hR hls hoL hos k => lv_i2l hx hb hd (of64_eq (by rw [Int32.toInt_toInt64, i32_ti (aOkS_hd hos)])) k) k
theorem aL2i {x : Int} (hd : decode M.2.1 pc = .ok (.l2i, 1)) (hp : pc + 1 = pc') (k : aRun w M pc' L (aI ((Int64.ofInt x).toInt32.toInt) :: st) n0 n I R Q) : aRun w M pc L (aL x :: st) n0 n I R Q := by
  subst hp
  exact aStk (st := aL x :: st) (st' := aI ((Int64.ofInt x).toInt32.toInt) :: st) (fun hoL hos => aOkS_cons (show i32 _ from i32_of _) (aOkS_tl hos)) (fun p e s m args below meth c H locs cells slots Z ls hx hb C hR hls hoL hos k => lv_l2i hx hb hd (of32_eq rfl) k) k
theorem aI2b {x : Int} (hd : decode M.2.1 pc = .ok (.i2b, 1)) (hp : pc + 1 = pc') (k : aRun w M pc' L (aI ((Int32.ofInt x).toInt8.toInt32.toInt) :: st) n0 n I R Q) : aRun w M pc L (aI x :: st) n0 n I R Q := by
  subst hp
  exact aStk (st := aI x :: st) (st' := aI ((Int32.ofInt x).toInt8.toInt32.toInt) :: st) (fun hoL hos => aOkS_cons (show i32 _ from i32_of _) (aOkS_tl hos)) (fun p e s m args below meth c H locs cells slots Z ls hx hb C hR hls hoL hos k => lv_i2b hx hb hd (of32_eq rfl) k) k
theorem aI2s {x : Int} (hd : decode M.2.1 pc = .ok (.i2s, 1)) (hp : pc + 1 = pc') (k : aRun w M pc' L (aI ((Int32.ofInt x).toInt16.toInt32.toInt) :: st) n0 n I R Q) : aRun w M pc L (aI x :: st) n0 n I R Q := by
  subst hp
  exact aStk (st := aI x :: st) (st' := aI ((Int32.ofInt x).toInt16.toInt32.toInt) :: st) (fun hoL hos => aOkS_cons (show i32 _ from i32_of _) (aOkS_tl hos)) (fun p e s m args below meth c H locs cells slots Z ls hx hb C hR hls hoL hos k => lv_i2s hx hb hd (of32_eq rfl) k) k
theorem aDup {v : aV} (hc : aCat v = 1) (hd : decode M.2.1 pc = .ok (.dup, 1)) (hp : pc + 1 = pc') (k : aRun w M pc' L (v :: v :: st) n0 n I R Q) : aRun w M pc L (v :: st) n0 n I R Q := by
  subst hp
  exact aStk (st := v :: st) (st' := v :: v :: st) (fun hoL hos => aOkS_cons (aOkS_hd hos) hos) (fun p e s m args below meth c H locs cells slots Z ls hx hb C hR hls hoL hos k => lv_dup hx hb hd ((aDen_cat w v).trans hc) k) k
theorem aPop {v : aV} (hc : aCat v = 1) (hd : decode M.2.1 pc = .ok (.pop, 1)) (hp : pc + 1 = pc') (k : aRun w M pc' L (st) n0 n I R Q) : aRun w M pc L (v :: st) n0 n I R Q := by
  subst hp
  exact aStk (st := v :: st) (st' := st) (fun hoL hos => aOkS_tl hos) (fun p e s m args below meth c H locs cells slots Z ls hx hb C hR hls hoL hos k => lv_pop hx hb hd ((aDen_cat w v).trans hc) k) k
theorem aDup2 {v u : aV} (hc : aCat v = 1) (hc2 : aCat u = 1) (hd : decode M.2.1 pc = .ok (.dup2, 1)) (hp : pc + 1 = pc') (k : aRun w M pc' L (v :: u :: v :: u :: st) n0 n I R Q) : aRun w M pc L (v :: u :: st) n0 n I R Q := by
  subst hp
  exact aStk (st := v :: u :: st) (st' := v :: u :: v :: u :: st) (fun hoL hos => aOkS_cons (aOkS_hd hos) (aOkS_cons (aOkS_hd (aOkS_tl hos)) hos)) (fun p e s m args below meth c H locs cells slots Z ls hx hb C hR hls hoL hos k => lv_dup2_11 hx hb hd ((aDen_cat w v).trans hc) ((aDen_cat w u).trans hc2) k) k
theorem aGoto {off : Int} (hd : decode M.2.1 pc = .ok (.goto off, 3)) (hp : (pc : Int) + off = (pc' : Int)) (k : aRun w M pc' L st n0 n I R Q) : aRun w M pc L st n0 n I R Q :=
  aStk (fun hoL hos => hos) (fun p e s m args below meth c H locs cells slots Z ls hx hb C hR hls hoL hos k => lv_goto hx hb hd hp k) k
theorem aIcmp_eq {x y off : Int} {tgt : Nat} (hd : decode M.2.1 pc = .ok (.if_icmp .eq off, 3)) (ht : (pc : Int) + off = (tgt : Int)) (hp : pc + 3 = pc') (kt : x = y → aRun w M tgt L st n0 n I R Q) (kf : ¬ (x = y) → aRun w M pc' L st n0 n I R Q) : aRun w M pc L (aI y :: aI x :: st) n0 n I R Q := by
  subst hp
  intro p e s m args below meth c H locs ls C hR hlo hls hoL hos hn hsz
  exact lv_icmp_eq C.1 C.2.1 hd ht (fun q => kt ((of32_inj (aOkS_hd (aOkS_tl hos)) (aOkS_hd hos)).mp q) p e s m args below meth c H locs ls C hR hlo hls hoL (aOkS_tl (aOkS_tl hos)) hn hsz) (fun q => kf (fun z => q ((of32_inj (aOkS_hd (aOkS_tl hos)) (aOkS_hd hos)).mpr z)) p e s m args below meth c H locs ls C hR hlo hls hoL (aOkS_tl (aOkS_tl hos)) hn hsz)
theorem aIcmp_ne {x y off : Int} {tgt : Nat} (hd : decode M.2.1 pc = .ok (.if_icmp .ne off, 3)) (ht : (pc : Int) + off = (tgt : Int)) (hp : pc + 3 = pc') (kt : x ≠ y → aRun w M tgt L st n0 n I R Q) (kf : x = y → aRun w M pc' L st n0 n I R Q) : aRun w M pc L (aI y :: aI x :: st) n0 n I R Q := by
  subst hp
  intro p e s m args below meth c H locs ls C hR hlo hls hoL hos hn hsz
  exact lv_icmp_ne C.1 C.2.1 hd ht (fun q => kt (fun z => q ((of32_inj (aOkS_hd (aOkS_tl hos)) (aOkS_hd hos)).mpr z)) p e s m args below meth c H locs ls C hR hlo hls hoL (aOkS_tl (aOkS_tl hos)) hn hsz) (fun q => kf ((of32_inj (aOkS_hd (aOkS_tl hos)) (aOkS_hd hos)).mp q) p e s m args below meth c H locs ls C hR hlo hls hoL (aOkS_tl (aOkS_tl hos)) hn hsz)
theorem aIcmp_lt {x y off : Int} {tgt : Nat} (hd : decode M.2.1 pc = .ok (.if_icmp .lt off, 3)) (ht : (pc : Int) + off = (tgt : Int)) (hp : pc + 3 = pc') (kt : x < y → aRun w M tgt L st n0 n I R Q) (kf : ¬ (x < y) → aRun w M pc' L st n0 n I R Q) : aRun w M pc L (aI y :: aI x :: st) n0 n I R Q := by
  subst hp
  intro p e s m args below meth c H locs ls C hR hlo hls hoL hos hn hsz
  exact lv_icmp_lt C.1 C.2.1 hd ht (fun q => kt ((of32_lt (aOkS_hd (aOkS_tl hos)) (aOkS_hd hos)).mp q) p e s m args below meth c H locs ls C hR hlo hls hoL (aOkS_tl (aOkS_tl hos)) hn hsz) (fun q => kf (fun z => q ((of32_lt (aOkS_hd (aOkS_tl hos)) (aOkS_hd hos)).mpr z)) p e s m args below meth c H locs ls C hR hlo hls hoL (aOkS_tl (aOkS_tl hos)) hn hsz)
theorem aIcmp_ge {x y off : Int} {tgt : Nat} (hd : decode M.2.1 pc = .ok (.if_icmp .ge off, 3)) (ht : (pc : Int) + off = (tgt : Int)) (hp : pc + 3 = pc') (kt : y ≤ x → aRun w M tgt L st n0 n I R Q) (kf : ¬ (y ≤ x) → aRun w M pc' L st n0 n I R Q) : aRun w M pc L (aI y :: aI x :: st) n0 n I R Q := by
  subst hp
  intro p e s m args below meth c H locs ls C hR hlo hls hoL hos hn hsz
  exact lv_icmp_ge C.1 C.2.1 hd ht (fun q => kt ((of32_le (aOkS_hd hos) (aOkS_hd (aOkS_tl hos))).mp q) p e s m args below meth c H locs ls C hR hlo hls hoL (aOkS_tl (aOkS_tl hos)) hn hsz) (fun q => kf (fun z => q ((of32_le (aOkS_hd hos) (aOkS_hd (aOkS_tl hos))).mpr z)) p e s m args below meth c H locs ls C hR hlo hls hoL (aOkS_tl (aOkS_tl hos)) hn hsz)
theorem aIcmp_gt {x y off : Int} {tgt : Nat} (hd : decode M.2.1 pc = .ok (.if_icmp .gt off, 3)) (ht : (pc : Int) + off = (tgt : Int)) (hp : pc + 3 = pc') (kt : y < x → aRun w M tgt L st n0 n I R Q) (kf : ¬ (y < x) → aRun w M pc' L st n0 n I R Q) : aRun w M pc L (aI y :: aI x :: st) n0 n I R Q := by
  subst hp
  intro p e s m args below meth c H locs ls C hR hlo hls hoL hos hn hsz
  exact lv_icmp_gt C.1 C.2.1 hd ht (fun q => kt ((of32_lt (aOkS_hd hos) (aOkS_hd (aOkS_tl hos))).mp q) p e s m args below meth c H locs ls C hR hlo hls hoL (aOkS_tl (aOkS_tl hos)) hn hsz) (fun q => kf (fun z => q ((of32_lt (aOkS_hd hos) (aOkS_hd (aOkS_tl hos))).mpr z)) p e s m args below meth c H locs ls C hR hlo hls hoL (aOkS_tl (aOkS_tl hos)) hn hsz)
theorem aIcmp_le {x y off : Int} {tgt : Nat} (hd : decode M.2.1 pc = .ok (.if_icmp .le off, 3)) (ht : (pc : Int) + off = (tgt : Int)) (hp : pc + 3 = pc') (kt : x ≤ y → aRun w M tgt L st n0 n I R Q) (kf : ¬ (x ≤ y) → aRun w M pc' L st n0 n I R Q) : aRun w M pc L (aI y :: aI x :: st) n0 n I R Q := by
  subst hp
  intro p e s m args below meth c H locs ls C hR hlo hls hoL hos hn hsz
  exact lv_icmp_le C.1 C.2.1 hd ht (fun q => kt ((of32_le (aOkS_hd (aOkS_tl hos)) (aOkS_hd hos)).mp q) p e s m args below meth c H locs ls C hR hlo hls hoL (aOkS_tl (aOkS_tl hos)) hn hsz) (fun q => kf (fun z => q ((of32_le (aOkS_hd (aOkS_tl hos)) (aOkS_hd hos)).mpr z)) p e s m args below meth c H locs ls C hR hlo hls hoL (aOkS_tl (aOkS_tl hos)) hn hsz)
theorem aIf_eq {x off : Int} {tgt : Nat} (hd : decode M.2.1 pc = .ok (.ifCond .eq off, 3)) (ht : (pc : Int) + off = (tgt : Int)) (hp : pc + 3 = pc') (kt : x = 0 → aRun w M tgt L st n0 n I R Q) (kf : ¬ (x = 0) → aRun w M pc' L st n0 n I R Q) : aRun w M pc L (aI x :: st) n0 n I R Q := by
  subst hp
  intro p e s m args below meth c H locs ls C hR hlo hls hoL hos hn hsz
  exact lv_if_eq C.1 C.2.1 hd ht (fun q => kt ((of32_inj (y := 0) (x := x) (aOkS_hd hos) i32_0).mp q) p e s m args below meth c H locs ls C hR hlo hls hoL (aOkS_tl hos) hn hsz) (fun q => kf (fun z => q ((of32_inj (y := 0) (x := x) (aOkS_hd hos) i32_0).mpr z)) p e s m args below meth c H locs ls C hR hlo hls hoL (aOkS_tl hos) hn hsz)
theorem aIf_ne {x off : Int} {tgt : Nat} (hd : decode M.2.1 pc = .ok (.ifCond .ne off, 3)) (ht : (pc : Int) + off = (tgt : Int)) (hp : pc + 3 = pc') (kt : x ≠ 0 → aRun w M tgt L st n0 n I R Q) (kf : x = 0 → aRun w M pc' L st n0 n I R Q) : aRun w M pc L (aI x :: st) n0 n I R Q := by
  subst hp
  intro p e s m args below meth c H locs ls C hR hlo hls hoL hos hn hsz
  exact lv_if_ne C.1 C.2.1 hd ht (fun q => kt (fun z => q ((of32_inj (y := 0) (x := x) (aOkS_hd hos) i32_0).mpr z)) p e s m args below meth c H locs ls C hR hlo hls hoL (aOkS_tl hos) hn hsz) (fun q => kf ((of32_inj (y := 0) (x := x) (aOkS_hd hos) i32_0).mp q) p e s m args below meth c H locs ls C hR hlo hls hoL (aOkS_tl hos) hn hsz)
theorem aIf_lt {x off : Int} {tgt : Nat} (hd : decode M.2.1 pc = .ok (.ifCond .lt off, 3)) (ht : (pc : Int) + off = (tgt : Int)) (hp : pc + 3 = pc') (kt : x < 0 → aRun w M tgt L st n0 n I R Q) (kf : ¬ (x < 0) → aRun w M pc' L st n0 n I R Q) : aRun w M pc L (aI x :: st) n0 n I R Q := by
  subst hp
  intro p e s m args below meth c H locs ls C hR hlo hls hoL hos hn hsz
  exact lv_if_lt C.1 C.2.1 hd ht (fun q => kt ((of32_lt (y := 0) (x := x) (aOkS_hd hos) i32_0).mp q) p e s m args below meth c H locs ls C hR hlo hls hoL (aOkS_tl hos) hn hsz) (fun q => kf (fun z => q ((of32_lt (y := 0) (x := x) (aOkS_hd hos) i32_0).mpr z)) p e s m args below meth c H locs ls C hR hlo hls hoL (aOkS_tl hos) hn hsz)
theorem aIf_ge {x off : Int} {tgt : Nat} (hd : decode M.2.1 pc = .ok (.ifCond .ge off, 3)) (ht : (pc : Int) + off = (tgt : Int)) (hp : pc + 3 = pc') (kt : 0 ≤ x → aRun w M tgt L st n0 n I R Q) (kf : ¬ (0 ≤ x) → aRun w M pc' L st n0 n I R Q) : aRun w M pc L (aI x :: st) n0 n I R Q := by
  subst hp
  intro p e s m args below meth c H locs ls C hR hlo hls hoL hos hn hsz
  exact lv_if_ge C.1 C.2.1 hd ht (fun q => kt ((of32_le (y := x) (x := 0) i32_0 (aOkS_hd hos)).mp q) p e s m args below meth c H locs ls C hR hlo hls hoL (aOkS_tl hos) hn hsz) (fun q => kf (fun z => q ((of32_le (y := x) (x := 0) i32_0 (aOkS_hd hos)).mpr z)) p e s m args below meth c H locs ls C hR hlo hls hoL (aOkS_tl hos) hn hsz)
theorem aIf_gt {x off : Int} {tgt : Nat} (hd : decode M.2.1 pc = .ok (.ifCond .gt off, 3)) (ht : (pc : Int) + off = (tgt : Int)) (hp : pc + 3 = pc') (kt : 0 < x → aRun w M tgt L st n0 n I R Q) (kf : ¬ (0 < x) → aRun w M pc' L st n0 n I R Q) : aRun w M pc L (aI x :: st) n0 n I R Q := by
  subst hp
  intro p e s m args below meth c H locs ls C hR hlo hls hoL hos hn hsz
  exact lv_if_gt C.1 C.2.1 hd ht (fun q => kt ((of32_lt (y := x) (x := 0) i32_0 (aOkS_hd hos)).mp q) p e s m args below meth c H locs ls C hR hlo hls hoL (aOkS_tl hos) hn hsz) (fun q => kf (fun z => q ((of32_lt (y := x) (x := 0) i32_0 (aOkS_hd hos)).mpr z)) p e s m args below meth c H locs ls C hR hlo hls hoL (aOkS_tl hos) hn hsz)
theorem aIf_le {x off : Int} {tgt : Nat} (hd : decode M.2.1 pc = .ok (.ifCond .le off, 3)) (ht : (pc : Int) + off = (tgt : Int)) (hp : pc + 3 = pc') (kt : x ≤ 0 → aRun w M tgt L st n0 n I R Q) (kf : ¬ (x ≤ 0) → aRun w M pc' L st n0 n I R Q) : aRun w M pc L (aI x :: st) n0 n I R Q := by
  subst hp
  intro p e s m args below meth c H locs ls C hR hlo hls hoL hos hn hsz
  exact lv_if_le C.1 C.2.1 hd ht (fun q => kt ((of32_le (y := 0) (x := x) (aOkS_hd hos) i32_0).mp q) p e s m args below meth c H locs ls C hR hlo hls hoL (aOkS_tl hos) hn hsz) (fun q => kf (fun z => q ((of32_le (y := 0) (x := x) (aOkS_hd hos) i32_0).mpr z)) p e s m args below meth c H locs ls C hR hlo hls hoL (aOkS_tl hos) hn hsz)
theorem aTswOut {x dflt lo hi : Int} {offs : Array Int} {len tgt : Nat} (hd : decode M.2.1 pc = .ok (.tableswitch dflt lo hi offs, len)) (h : x < lo ∨ hi < x) (ht : (pc : Int) + dflt = (tgt : Int)) (k : aRun w M tgt L st n0 n I R Q) : aRun w M pc L (aI x :: st) n0 n I R Q :=
  aStk (fun hoL hos => aOkS_tl hos) (fun p e s m args below meth c H locs cells slots Z ls hx hb C hR hls hoL hos k => lv_tableOut hx hb hd (by rw [i32_ti (aOkS_hd hos)]; exact h) ht k) k
theorem aTswIn {x dflt lo hi off : Int} {offs : Array Int} {len tgt : Nat} (hd : decode M.2.1 pc = .ok (.tableswitch dflt lo hi offs, len)) (h1 : ¬ x < lo) (h2 : ¬ hi < x) (ho : offs[(x - lo).toNat]? = some off) (ht : (pc : Int) + off = (tgt : Int)) (k : aRun w M tgt L st n0 n I R Q) : aRun w M pc L (aI x :: st) n0 n I R Q :=
  aStk (fun hoL hos => aOkS_tl hos) (fun p e s m args below meth c H locs cells slots Z ls hx hb C hR hls hoL hos k => lv_tableIn hx hb hd (by rw [i32_ti (aOkS_hd hos)]; exact h1) (by rw [i32_ti (aOkS_hd hos)]; exact h2) (by rw [i32_ti (aOkS_hd hos)]; exact ho) ht k) k
theorem aIstore_n {i : Fin 4} {x : Int} (hd : decode M.2.1 pc = .ok (.istore_n i, 1)) (hn1 : i.val < M.2.2.1) (hp : pc + 1 = pc') {L' : List (Option aV)} (hL : aSet1 L i.val (aI x) = L') (k : aRun w M pc' L' st n0 n I R Q) : aRun w M pc L (aI x :: st) n0 n I R Q := by
  subst hp
  subst hL
  intro p e s m args below meth c H locs ls C hR hlo hls hoL hos hn hsz
  exact lv_istore_n C.1 C.2.1 hd rfl (aLs_has hls) hn1 rfl (fun ls' h' => k p e s m args below meth c H locs ls' C hR hlo (aLs_set1 h') (aOkL_set1 hoL (aOkS_hd hos)) (aOkS_tl hos) hn hsz)
theorem aLstore_n {i : Fin 4} {x : Int} (hd : decode M.2.1 pc = .ok (.lstore_n i, 1)) (hn1 : i.val + 1 < M.2.2.1) (hp : pc + 1 = pc') {L' : List (Option aV)} (hL : aSet2 L i.val (aL x) = L') (k : aRun w M pc' L' st n0 n I R Q) : aRun w M pc L (aL x :: st) n0 n I R Q := by
  subst hp
  subst hL
  intro p e s m args below meth c H locs ls C hR hlo hls hoL hos hn hsz
  exact lv_lstore_n C.1 C.2.1 hd rfl (aLs_has hls) hn1 rfl (fun ls' h' => k p e s m args below meth c H locs ls' C hR hlo (aLs_set2 h') (aOkL_set2 hoL (aOkS_hd hos)) (aOkS_tl hos) hn hsz)
theorem aAstore_n {i : Fin 4} {q : Nat × Nat} (hd : decode M.2.1 pc = .ok (.astore_n i, 1)) (hn1 : i.val < M.2.2.1) (hp : pc + 1 = pc') {L' : List (Option aV)} (hL : aSet1 L i.val (aR (some q)) = L') (k : aRun w M pc' L' st n0 n I R Q) : aRun w M pc L (aR (some q) :: st) n0 n I R Q := by
  subst hp
  subst hL
  intro p e s m args below meth c H locs ls C hR hlo hls hoL hos hn hsz
  exact lv_astore_n C.1 C.2.1 hd rfl (aLs_has hls) hn1 rfl (fun ls' h' => k p e s m args below meth c H locs ls' C hR hlo (aLs_set1 h') (aOkL_set1 hoL (aOkS_hd hos)) (aOkS_tl hos) hn hsz)
theorem aIstore {i : Nat} {x : Int} (hd : decode M.2.1 pc = .ok (.istore i, 2)) (hn1 : i < M.2.2.1) (hp : pc + 2 = pc') {L' : List (Option aV)} (hL : aSet1 L i (aI x) = L') (k : aRun w M pc' L' st n0 n I R Q) : aRun w M pc L (aI x :: st) n0 n I R Q := by
  subst hp
  subst hL
  intro p e s m args below meth c H locs ls C hR hlo hls hoL hos hn hsz
  exact lv_istore C.1 C.2.1 hd (aLs_has hls) hn1 rfl (fun ls' h' => k p e s m args below meth c H locs ls' C hR hlo (aLs_set1 h') (aOkL_set1 hoL (aOkS_hd hos)) (aOkS_tl hos) hn hsz)
theorem aLstore {i : Nat} {x : Int} (hd : decode M.2.1 pc = .ok (.lstore i, 2)) (hn1 : i + 1 < M.2.2.1) (hp : pc + 2 = pc') {L' : List (Option aV)} (hL : aSet2 L i (aL x) = L') (k : aRun w M pc' L' st n0 n I R Q) : aRun w M pc L (aL x :: st) n0 n I R Q := by
  subst hp
  subst hL
  intro p e s m args below meth c H locs ls C hR hlo hls hoL hos hn hsz
  exact lv_lstore C.1 C.2.1 hd (aLs_has hls) hn1 rfl (fun ls' h' => k p e s m args below meth c H locs ls' C hR hlo (aLs_set2 h') (aOkL_set2 hoL (aOkS_hd hos)) (aOkS_tl hos) hn hsz)
theorem aAstore {i : Nat} {q : Nat × Nat} (hd : decode M.2.1 pc = .ok (.astore i, 2)) (hn1 : i < M.2.2.1) (hp : pc + 2 = pc') {L' : List (Option aV)} (hL : aSet1 L i (aR (some q)) = L') (k : aRun w M pc' L' st n0 n I R Q) : aRun w M pc L (aR (some q) :: st) n0 n I R Q := by
  subst hp
  subst hL
  intro p e s m args below meth c H locs ls C hR hlo hls hoL hos hn hsz
  exact lv_astore C.1 C.2.1 hd (aLs_has hls) hn1 rfl (fun ls' h' => k p e s m args below meth c H locs ls' C hR hlo (aLs_set1 h') (aOkL_set1 hoL (aOkS_hd hos)) (aOkS_tl hos) hn hsz)
theorem aIinc {i : Nat} {x d : Int} (hd : decode M.2.1 pc = .ok (.iinc i d, 3)) (hl : L[i]? = some (some (aI x))) (hn1 : i < M.2.2.1) (hv : i32 d) (h1 : -2147483648 ≤ x + d) (h2 : x + d < 2147483648) (hp : pc + 3 = pc') {L' : List (Option aV)} (hL : aSet1 L i (aI (x + d)) = L') (k : aRun w M pc' L' st n0 n I R Q) : aRun w M pc L st n0 n I R Q := by
  subst hp
  subst hL
  intro p e s m args below meth c H locs ls C hR hlo hls hoL hos hn hsz
  obtain ⟨q, hq⟩ := List.getElem?_of_mem (aPr_of (w := w) hl)
  exact lv_iinc C.1 C.2.1 hd (aLs_has hls) hq (of32_add (hoL i _ hl) hv ⟨h1, h2⟩) hn1 rfl (fun ls' h' => k p e s m args below meth c H locs ls' C hR hlo (aLs_set1 (v := aI (x + d)) h') (aOkL_set1 hoL (show i32 _ from ⟨h1, h2⟩)) hos hn hsz)
end AMS
end
section
theorem iX0 : ∀ x ∈ u_ws RX0 TX0 (aNf 0), x ∈ lw_tbl := by decide +kernel
theorem jX0 : ∀ x ∈ u_ws RX0 TX0 (aNf 0), goodWord x = true := by decide +kernel
theorem iX1 : ∀ x ∈ u_ws RX1 TX1 (aNf 1), x ∈ lw_tbl := by decide +kernel
theorem jX1 : ∀ x ∈ u_ws RX1 TX1 (aNf 1), goodWord x = true := by decide +kernel
theorem iX2 : ∀ x ∈ u_ws RX2 TX2 (aNf 2), x ∈ lw_tbl := by decide +kernel
theorem jX2 : ∀ x ∈ u_ws RX2 TX2 (aNf 2), goodWord x = true := by decide +kernel
theorem iX3 : ∀ x ∈ u_ws RX3 TX3 (aNf 3), x ∈ lw_tbl := by decide +kernel
theorem jX3 : ∀ x ∈ u_ws RX3 TX3 (aNf 3), goodWord x = true := by decide +kernel
theorem iX4 : ∀ x ∈ u_ws RX4 TX4 (aNf 4), x ∈ lw_tbl := by decide +kernel
theorem jX4 : ∀ x ∈ u_ws RX4 TX4 (aNf 4), goodWord x = true := by decide +kernel
theorem iX5 : ∀ x ∈ u_ws RX5 TX5 (aNf 5), x ∈ lw_tbl := by decide +kernel
theorem jX5 : ∀ x ∈ u_ws RX5 TX5 (aNf 5), goodWord x = true := by decide +kernel
theorem iX6 : ∀ x ∈ u_ws RX6 TX6 (aNf 6), x ∈ lw_tbl := by decide +kernel
theorem jX6 : ∀ x ∈ u_ws RX6 TX6 (aNf 6), goodWord x = true := by decide +kernel
theorem iX7 : ∀ x ∈ u_ws RX7 TX7 (aNf 7), x ∈ lw_tbl := by decide +kernel
theorem jX7 : ∀ x ∈ u_ws RX7 TX7 (aNf 7), goodWord x = true := by decide +kernel
theorem iX8 : ∀ x ∈ u_ws RX8 TX8 (aNf 8), x ∈ lw_tbl := by decide +kernel
theorem jX8 : ∀ x ∈ u_ws RX8 TX8 (aNf 8), goodWord x = true := by decide +kernel
theorem iX9 : ∀ x ∈ u_ws RX9 TX9 (aNf 9), x ∈ lw_tbl := by decide +kernel
theorem jX9 : ∀ x ∈ u_ws RX9 TX9 (aNf 9), goodWord x = true := by decide +kernel
theorem iX10 : ∀ x ∈ u_ws RX10 TX10 (aNf 10), x ∈ lw_tbl := by decide +kernel
theorem jX10 : ∀ x ∈ u_ws RX10 TX10 (aNf 10), goodWord x = true := by decide +kernel
theorem aIn : ∀ c, c < 11 → ∀ x ∈ u_ws (aNm c) (aTT c) (aNf c), x ∈ aTb := a11 (fun x h => aTb_in (iX0 x h) (jX0 x h)) (fun x h => aTb_in (iX1 x h) (jX1 x h)) (fun x h => aTb_in (iX2 x h) (jX2 x h)) (fun x h => aTb_in (iX3 x h) (jX3 x h)) (fun x h => aTb_in (iX4 x h) (jX4 x h)) (fun x h => aTb_in (iX5 x h) (jX5 x h)) (fun x h => aTb_in (iX6 x h) (jX6 x h)) (fun x h => aTb_in (iX7 x h) (jX7 x h)) (fun x h => aTb_in (iX8 x h) (jX8 x h)) (fun x h => aTb_in (iX9 x h) (jX9 x h)) (fun x h => aTb_in (iX10 x h) (jX10 x h))
end
section
/-! fields and arrays -/
def uI (I : aIF) (k i j : Nat) (v : Int) : aIF := fun a b c => if a = k ∧ b = i ∧ c = j then v else I a b c
def uR (R : aRF) (k i j : Nat) (v : Option (Nat × Nat)) : aRF := fun a b c => if a = k ∧ b = i ∧ c = j then v else R a b c
def aTc (c j : Nat) : Nat := match aTy c j with
  | .int => 0
  | .boolean => 1
  | _ => 2
def aFk (own : String) (idx c j : Nat) : Prop := (c < 11 ∧ j < aNf c) ∧ Cond.fieldLink own idx (aTT c j).1 (aTT c j).2.1 (aTT c j).2.2.1 ∈ aTb
/-- an object of class c -/
def kObj (k c : Nat) : Bool := kA k == 0 && kC k == c
/-- an array of type t -/
def kArr (k t : Nat) : Bool := kA k == 1 && kC k == t
theorem kObj_of {k c : Nat} (h : kObj k c = true) : kA k = 0 ∧ kC k = c := by simpa [kObj] using h
theorem kArr_of {k t : Nat} (h : kArr k t = true) : kA k = 1 ∧ kC k = t := by simpa [kArr] using h
theorem aLv_0 {n k i : Nat} (h : aLv n k i) : k ≠ 0 := fun e => by
  subst e
  have h1 := h.1
  rw [kCnt_0] at h1
  omega
theorem aAd_at {w : aW} {n k i : Nat} (h : aLv n k i) : aAd w (k, i) = aw_B w + aPl k i := if_neg (aLv_0 h)
theorem aCell_congr {w : aW} {I I' : aIF} {R R' : aRF} {k i : Nat} (h1 : ∀ j, I' k i j = I k i j) (h2 : ∀ j, R' k i j = R k i j) : aCell w I' R' k i = aCell w I R k i := by
  have e1 : I' k i = I k i := funext h1
  have e2 : R' k i = R k i := funext h2
  simp only [aCell, aFs, aFv, aAr, e1, e2]
theorem uI_ne {I : aIF} {k i j k2 i2 : Nat} {v : Int} (h : ¬ (k2 = k ∧ i2 = i)) (q : Nat) : uI I k i j v k2 i2 q = I k2 i2 q := if_neg (fun z => h ⟨z.1, z.2.1⟩)
theorem uR_ne {R : aRF} {k i j k2 i2 : Nat} {v : Option (Nat × Nat)} (h : ¬ (k2 = k ∧ i2 = i)) (q : Nat) : uR R k i j v k2 i2 q = R k2 i2 q := if_neg (fun z => h ⟨z.1, z.2.1⟩)
theorem aRep_put {w : aW} {n k i : Nat} {I I' : aIF} {R R' : aRF} {H H' : Heap} (h : aRep w n I R H) (hl : aLv n k i) (hz : H'.size = H.size) (ho : ∀ q, q ≠ aAd w (k, i) → H'[q]? = H[q]?) (hc : va_at (aw_D w) vwCl (aAd w (k, i), aCell w I' R' k i) H')
    (h1 : ∀ k2 i2, ¬ (k2 = k ∧ i2 = i) → ∀ j, I' k2 i2 j = I k2 i2 j) (h2 : ∀ k2 i2, ¬ (k2 = k ∧ i2 = i) → ∀ j, R' k2 i2 j = R k2 i2 j) (hok : aOkI I') : aRep w n I' R' H' := by
  obtain ⟨a1, a2, a3, a4, a5⟩ := h
  refine ⟨hz.trans a1, fun k2 i2 hl2 => ?_, hok, ?_, a5⟩
  · by_cases e : k2 = k ∧ i2 = i
    · obtain ⟨rfl, rfl⟩ := e
      exact hc
    · rw [aCell_congr (h1 k2 i2 e) (h2 k2 i2 e)]
      refine (a2 k2 i2 hl2).kept (ho _ (fun q => e ?_))
      have q : aAd w (k2, i2) = aAd w (k, i) := q
      rw [aAd_at hl, aAd_at hl2] at q
      exact aPl_inj hl2.1 hl.1 (by omega)
  · rw [ho _ (fun q => ?_)]
    · exact a4
    · rw [aAd_at hl] at q
      omega
theorem aOkI_put {I : aIF} {k i j : Nat} {v : Int} (h : aOkI I) (hv : if kA k = 1 ∧ kC k = 1 then i64 v else i32 v) : aOkI (uI I k i j v) := fun a b c => by
  by_cases e : a = k ∧ b = i ∧ c = j
  · obtain ⟨rfl, rfl, rfl⟩ := e
    simp only [uI, and_self, if_true]
    exact hv
  · simp only [uI, if_neg e]
    exact h a b c
theorem aFs_get {w : aW} {I : aIF} {R : aRF} {c k i j : Nat} (hj : j < aNf c) : (aFs w I R c k i)[j]? = some (aFv w I R (aTy c j) k i j) := by
  unfold aFs
  rw [List.getElem?_map, List.getElem?_range hj]
  rfl
theorem aFs_set {w : aW} {I I' : aIF} {R R' : aRF} {c k i j : Nat} {v : Value} (hj : j < aNf c) (hv : aFv w I' R' (aTy c j) k i j = v) (h1 : ∀ q, q ≠ j → I' k i q = I k i q) (h2 : ∀ q, q ≠ j → R' k i q = R k i q) : aFs w I' R' c k i = (aFs w I R c k i).set j v := by
  apply List.ext_getElem?
  intro q
  rw [List.getElem?_set]
  by_cases e : j = q
  · subst e
    rw [if_pos rfl, aFs_get hj, hv, if_pos (by unfold aFs; simp [hj])]
  · rw [if_neg e]
    unfold aFs
    rw [List.getElem?_map, List.getElem?_map]
    by_cases hq : q < aNf c
    · rw [List.getElem?_range hq]
      simp only [Option.map_some]
      simp only [aFv, h1 q (Ne.symm e), h2 q (Ne.symm e)]
    · rw [List.getElem?_eq_none (by rw [List.length_range]; omega)]
      rfl
section AMH
variable {w : aW} {M : aM} {pc pc' : Nat} {L : List (Option aV)} {st : List aV} {n0 n : Nat} {I : aIF} {R : aRF} {Q : aQ}
variable {p : Program} {e : Env} {s : State} {m : MethodId} {args : Array Value} {below : List Frame} {meth : Method} {c0 : Code} {H : Heap} {locs : List Loc} {cells slots : Nat} {Z : State → Prop} {ls : Array Slot} {rest : List Value}
theorem aW_get {k i c j idx : Nat} (C : aCtx w M p s m args meth c0) (hR : aRep w n I R H) (hl : aLv n k i) (hk : kObj k c = true) (hf : aFk M.1.cls idx c j) (hd : decode M.2.1 pc = .ok (.getfield idx, 3))
    (kk : W p (aw_l w) e M.2.2.2.2 s m args below meth c0 H locs cells slots Z (F0 m (pc + 3) ls (aFv w I R (aTy c j) k i j :: rest))) : W p (aw_l w) e M.2.2.2.2 s m args below meth c0 H locs cells slots Z (F0 m pc ls (.ref (aAd w (k, i)) :: rest)) := by
  obtain ⟨hx, hb, hr, hml, hown, hts, hlk, hin, hK, -⟩ := C
  obtain ⟨k1, k2⟩ := kObj_of hk
  have hcell := hR.2.1 k i hl
  have e1 : aCell w I R k i = .inr (c, aFs w I R c k i) := by rw [aCell, if_pos k1, k2]
  rw [e1] at hcell
  exact va_get (Ts := aTb) hx hb hts (aIn c hf.1.1) hown hK.1 (ws := [(aAd w (k, i), .inr (c, aFs w I R c k i))]) (fun q x hq => by
    have h0 : q < 1 := (List.getElem?_eq_some_iff.mp hq).1
    rw [show q = 0 by omega] at hq
    cases hq
    exact hcell) 0 rfl (aCl c hf.1.1) j hf.1.2 (hts _ hf.2) (fun _ h => h) (aFs_get hf.1.2) hd kk
theorem aW_put {k i c j idx : Nat} {v : Value} {I' : aIF} {R' : aRF} (C : aCtx w M p s m args meth c0) (hR : aRep w n I R H) (hlo : ∀ q ∈ locs, aw_B w ≤ q.base) (hl : aLv n k i) (hk : kObj k c = true) (hf : aFk M.1.cls idx c j) (hfin : (aTT c j).2.2.2 = false ∨ (M.1.name = "<init>" ∧ (aTT c j).1 = M.1.cls))
    (hnr : narrow (aTy c j) v = v) (hft : fits (aTy c j) v = true) (hfs : aFs w I' R' c k i = (aFs w I R c k i).set j v)
    (h1 : ∀ k2 i2, ¬ (k2 = k ∧ i2 = i) → ∀ j, I' k2 i2 j = I k2 i2 j) (h2 : ∀ k2 i2, ¬ (k2 = k ∧ i2 = i) → ∀ j, R' k2 i2 j = R k2 i2 j) (hok : aOkI I') (hd : decode M.2.1 pc = .ok (.putfield idx, 3))
    (kk : ∀ (H' : Heap) (locs' : List Loc), aRep w n I' R' H' → (∀ q ∈ locs', aw_B w ≤ q.base) → W p (aw_l w) e M.2.2.2.2 s m args below meth c0 H' locs' cells slots Z (F0 m (pc + 3) ls rest)) : W p (aw_l w) e M.2.2.2.2 s m args below meth c0 H locs cells slots Z (F0 m pc ls (v :: .ref (aAd w (k, i)) :: rest)) := by
  obtain ⟨hx, hb, hr, hml, hown, hts, hlk, hin, hK, -⟩ := C
  obtain ⟨k1, k2⟩ := kObj_of hk
  obtain ⟨⟨hc, hj⟩, hlink⟩ := hf
  have hcl := aCl c hc
  have hty := aTy_ok c hc
  have hap := va_apart (own := M.1.cls) hts (aIn c hc) (aTy c) hty (aNn c hc) hK.1 hcl
  have hcell := hR.2.1 k i hl
  have e1 : aCell w I R k i = .inr (c, aFs w I R c k i) := by rw [aCell, if_pos k1, k2]
  have e2 : aCell w I' R' k i = .inr (c, (aFs w I R c k i).set j v) := by rw [aCell, if_pos k1, k2, hfs]
  rw [e1] at hcell
  obtain ⟨r, g1, cell, q1, q2, q3, q4⟩ := hcell
  have hr2 : r = (aNm c, aTT c, aNf c) := Option.some.inj (g1.symm.trans hcl)
  subst hr2
  obtain ⟨hS, hfc, kC, hkC, hkind⟩ := hK.1.1 c _ hcl
  obtain ⟨cf, kf, fi, f, hi, hsl⟩ := hS j hj
  have hst := (u_facts hfc hkC (u_lays hts (aIn c hc) hj) hi).1
  have hB : aw_B w ≤ aAd w (k, i) := by rw [aAd_at hl]; omega
  have fin : ∀ H' : Heap, H'[aAd w (k, i)]? = some (cell.setSlot f.slot v) → H'.size = H.size → (∀ q, q ≠ aAd w (k, i) → H'[q]? = H[q]?) → W p (aw_l w) e M.2.2.2.2 s m args below meth c0 H' (locs ++ [⟨aAd w (k, i), f.slot⟩]) cells slots Z (F0 m (pc + 3) ls rest) := by
    intro H' g3 g4 g5
    rw [hsl] at g3
    refine kk H' _ (aRep_put hR hl g4 g5 ?_ h1 h2 hok) (fun q hq => ?_)
    · rw [e2]
      exact ⟨_, hcl, t_OB.to (V := updV (vp_V (aFs w I R c k i)) j v) ⟨_, g3, q2, q3, t_set q4 hap hj v⟩ (fun q _ => vp_updV_set (by unfold aFs; simp [hj]) v q)⟩
    · rcases List.mem_append.mp hq with h | h
      · exact hlo q h
      · rw [List.mem_singleton.mp h]
        exact hB
  have hlay := hts _ (aIn c hc _ (u_in_lay hj))
  unfold u_lay at hlay
  by_cases hff : (aTT c j).2.2.2 = true
  · rw [if_pos hff] at hlay
    have hin2 : M.1.name = "<init>" ∧ (aTT c j).1 = M.1.cls := by
      rcases hfin with h | h
      · rw [hff] at h; cases h
      · exact h
    have hcf : m.cls = cf := by
      obtain ⟨_, _, c', _, _, _, -, -, hf', -, -, -, hown2, -⟩ := Cond.laysFinal_spec hlay
      have e1 : c' = cf := by have := hi.symm.trans hf'; simp at this; exact this.1.symm
      rw [hin2.2] at hown2
      rw [← e1]; exact Option.some.inj (hown.symm.trans hown2)
    have h6 := u_fits hfc hkC hkind (Or.inr hlay) hi (hty j hj) hnr hft
    exact W.putFinK hx hb hown (hts _ hlink) hi hst hcf (hin hin2.1) (by rw [q2]; exact h6) q1 q3 (by rw [hsl]; exact k2_hasslot (q4 j hj)) rfl rfl hd fin
  · rw [if_neg hff] at hlay
    have h6 := u_store hfc hkC hkind hlay hi (hty j hj) hnr hft
    exact W.putK hx hb (f := f) ⟨hown, hts _ hlink, ⟨_, _, _, hi⟩, hst⟩ (by rw [q2]; exact h6) q1 q3 (by rw [hsl]; exact k2_hasslot (q4 j hj)) rfl rfl hd fin
theorem aTc_i {c j : Nat} (ht : Nat.ble (aTc c j) 1 = true) : aTy c j = .int ∨ aTy c j = .boolean := by
  unfold aTc at ht
  split at ht
  · rename_i h; exact Or.inl h
  · rename_i h; exact Or.inr h
  · exact absurd ht (by decide)
theorem aTc_0 {c j : Nat} (ht : aTc c j = 0) : aTy c j = .int := by
  unfold aTc at ht
  split at ht
  · rename_i h; exact h
  · cases ht
  · cases ht
theorem aTc_1 {c j : Nat} (ht : aTc c j = 1) : aTy c j = .boolean := by
  unfold aTc at ht
  split at ht
  · cases ht
  · rename_i h; exact h
  · cases ht
theorem aFv_i {k i c j : Nat} (ht : Nat.ble (aTc c j) 1 = true) : aFv w I R (aTy c j) k i j = .int (Int32.ofInt (I k i j)) := by
  rcases aTc_i ht with h | h <;> rw [h] <;> rfl
theorem aFv_r {k i c j : Nat} (ht : aTc c j = 2) : aFv w I R (aTy c j) k i j = va_rf ((R k i j).map (aAd w)) := by
  unfold aTc at ht
  unfold aFv
  split at ht
  · cases ht
  · cases ht
  · rename_i h1 h2
    split
    · rename_i h; exact absurd h h1
    · rename_i h; exact absurd h h2
    · rfl
theorem aOk_obj {k i j c : Nat} (h : aOkI I) (hk : kObj k c = true) : i32 (I k i j) := by
  have := h k i j
  rw [if_neg (fun z => by rw [(kObj_of hk).1] at z; omega)] at this
  exact this
theorem aOk_arr {k i j t : Nat} (h : aOkI I) (hk : kArr k t = true) (ht : t ≠ 1) : i32 (I k i j) := by
  have := h k i j
  rw [if_neg (fun z => by rw [(kArr_of hk).2] at z; omega)] at this
  exact this
theorem aOk_lng {k i j : Nat} (h : aOkI I) (hk : kArr k 1 = true) : i64 (I k i j) := by
  have := h k i j
  rw [if_pos (kArr_of hk)] at this
  exact this
theorem aGetI {k i c j idx : Nat} (hd : decode M.2.1 pc = .ok (.getfield idx, 3)) (hf : aFk M.1.cls idx c j) (ht : Nat.ble (aTc c j) 1 = true) (hk : kObj k c = true) (hl : aLv n k i) (hp : pc + 3 = pc') (kk : aRun w M pc' L (aI (I k i j) :: st) n0 n I R Q) : aRun w M pc L (aO k i :: st) n0 n I R Q := by
  subst hp
  intro p e s m args below meth c9 H locs ls C hR hlo hls hoL hos hn hsz
  refine aW_get C hR hl hk hf hd ?_
  rw [aFv_i ht]
  exact kk p e s m args below meth c9 H locs ls C hR hlo hls hoL (aOkS_cons (aOk_obj hR.2.2.1 hk) (aOkS_tl hos)) hn hsz
theorem aGetR {k i c j idx : Nat} {q : Nat × Nat} (hd : decode M.2.1 pc = .ok (.getfield idx, 3)) (hf : aFk M.1.cls idx c j) (ht : aTc c j = 2) (hk : kObj k c = true) (hl : aLv n k i) (hr : R k i j = some q) (hp : pc + 3 = pc') (kk : aRun w M pc' L (aR (some q) :: st) n0 n I R Q) : aRun w M pc L (aO k i :: st) n0 n I R Q := by
  subst hp
  intro p e s m args below meth c9 H locs ls C hR hlo hls hoL hos hn hsz
  refine aW_get C hR hl hk hf hd ?_
  rw [aFv_r ht, hr]
  exact kk p e s m args below meth c9 H locs ls C hR hlo hls hoL (aOkS_cons trivial (aOkS_tl hos)) hn hsz
theorem nar_b {x : Int} (h : x = 0 ∨ x = 1) : narrow .boolean (.int (Int32.ofInt x)) = .int (Int32.ofInt x) ∧ fits .boolean (.int (Int32.ofInt x)) = true := by
  rcases h with rfl | rfl
  · exact ⟨by decide +kernel, by decide +kernel⟩
  · exact ⟨by decide +kernel, by decide +kernel⟩
theorem aPutI {k i c j idx : Nat} {x : Int} (hd : decode M.2.1 pc = .ok (.putfield idx, 3)) (hf : aFk M.1.cls idx c j) (ht : aTc c j = 0) (hk : kObj k c = true) (hfin : (aTT c j).2.2.2 = false ∨ (M.1.name = "<init>" ∧ (aTT c j).1 = M.1.cls)) (hl : aLv n k i) (hp : pc + 3 = pc') (kk : aRun w M pc' L st n0 n (uI I k i j x) R Q) : aRun w M pc L (aI x :: aO k i :: st) n0 n I R Q := by
  subst hp
  intro p e s m args below meth c9 H locs ls C hR hlo hls hoL hos hn hsz
  have hx : i32 x := aOkS_hd hos
  exact aW_put (I' := uI I k i j x) (R' := R) (v := .int (Int32.ofInt x)) C hR hlo hl hk hf hfin (by rw [aTc_0 ht]; rfl) (by rw [aTc_0 ht]; rfl) (aFs_set hf.1.2 (by rw [aFv_i (by rw [ht]; rfl)]; simp [uI]) (fun q hq => by simp [uI, hq]) (fun _ _ => rfl)) (fun _ _ h => uI_ne h) (fun _ _ _ _ => rfl) (aOkI_put hR.2.2.1 (by rw [if_neg (fun z => by rw [(kObj_of hk).1] at z; omega)]; exact hx)) hd
    (fun H' locs' hR' hlo' => kk p e s m args below meth c9 H' locs' ls C hR' hlo' hls hoL (aOkS_tl (aOkS_tl hos)) hn hsz)
theorem aPutZ {k i c j idx : Nat} {x : Int} (hd : decode M.2.1 pc = .ok (.putfield idx, 3)) (hf : aFk M.1.cls idx c j) (ht : aTc c j = 1) (hk : kObj k c = true) (hfin : (aTT c j).2.2.2 = false ∨ (M.1.name = "<init>" ∧ (aTT c j).1 = M.1.cls)) (hl : aLv n k i) (hx : x = 0 ∨ x = 1) (hp : pc + 3 = pc') (kk : aRun w M pc' L st n0 n (uI I k i j x) R Q) : aRun w M pc L (aI x :: aO k i :: st) n0 n I R Q := by
  subst hp
  intro p e s m args below meth c9 H locs ls C hR hlo hls hoL hos hn hsz
  have hx2 : i32 x := aOkS_hd hos
  exact aW_put (I' := uI I k i j x) (R' := R) (v := .int (Int32.ofInt x)) C hR hlo hl hk hf hfin (by rw [aTc_1 ht]; exact (nar_b hx).1) (by rw [aTc_1 ht]; exact (nar_b hx).2) (aFs_set hf.1.2 (by rw [aFv_i (by rw [ht]; rfl)]; simp [uI]) (fun q hq => by simp [uI, hq]) (fun _ _ => rfl)) (fun _ _ h => uI_ne h) (fun _ _ _ _ => rfl) (aOkI_put hR.2.2.1 (by rw [if_neg (fun z => by rw [(kObj_of hk).1] at z; omega)]; exact hx2)) hd
    (fun H' locs' hR' hlo' => kk p e s m args below meth c9 H' locs' ls C hR' hlo' hls hoL (aOkS_tl (aOkS_tl hos)) hn hsz)
theorem fits_r {ty : FieldType} {a : Option Nat} (h : ty ≠ .int ∧ ty ≠ .boolean ∧ ty ≠ .byte ∧ ty ≠ .char ∧ ty ≠ .short ∧ ty ≠ .long ∧ ty ≠ .float ∧ ty ≠ .double) : narrow ty (va_rf a) = va_rf a ∧ fits ty (va_rf a) = true := by
  cases a <;> cases ty <;> simp at h <;> exact ⟨rfl, rfl⟩
theorem aPutR {k i c j idx : Nat} {q : Nat × Nat} (hd : decode M.2.1 pc = .ok (.putfield idx, 3)) (hf : aFk M.1.cls idx c j) (ht : aTc c j = 2) (ht2 : aTy c j ≠ .int ∧ aTy c j ≠ .boolean ∧ aTy c j ≠ .byte ∧ aTy c j ≠ .char ∧ aTy c j ≠ .short ∧ aTy c j ≠ .long ∧ aTy c j ≠ .float ∧ aTy c j ≠ .double) (hk : kObj k c = true) (hfin : (aTT c j).2.2.2 = false ∨ (M.1.name = "<init>" ∧ (aTT c j).1 = M.1.cls)) (hl : aLv n k i) (hp : pc + 3 = pc') (kk : aRun w M pc' L st n0 n I (uR R k i j (some q)) Q) : aRun w M pc L (aR (some q) :: aO k i :: st) n0 n I R Q := by
  subst hp
  intro p e s m args below meth c9 H locs ls C hR hlo hls hoL hos hn hsz
  exact aW_put (I' := I) (R' := uR R k i j (some q)) (v := va_rf ((some q).map (aAd w))) C hR hlo hl hk hf hfin (fits_r ht2).1 (fits_r ht2).2 (aFs_set hf.1.2 (by rw [aFv_r ht]; simp [uR]) (fun _ _ => rfl) (fun z hz => by simp [uR, hz])) (fun _ _ _ _ => rfl) (fun _ _ h => uR_ne h) hR.2.2.1 hd
    (fun H' locs' hR' hlo' => kk p e s m args below meth c9 H' locs' ls C hR' hlo' hls hoL (aOkS_tl (aOkS_tl hos)) hn hsz)
/-! arrays -/
theorem aAtA {k i t : Nat} {H : Heap} (hR : aRep w n I R H) (hl : aLv n k i) (hk : kArr k t = true) : H[aAd w (k, i)]? = some (vp_cell (aw_C w t) (kLen k, aAr w I R t k i)) := by
  have h := hR.2.1 k i hl
  obtain ⟨k1, k2⟩ := kArr_of hk
  rw [show aCell w I R k i = .inl (aw_C w t, kLen k, aAr w I R t k i) by rw [aCell, if_neg (by omega), k2]] at h
  exact h
theorem aIx {x : Int} {j N : Nat} (hx : x = (j : Int)) (hj : j < N) (h : i32 x) : vp_in (Int32.ofInt x) N ∧ (Int32.ofInt x).toNatClampNeg = j := by
  subst hx
  exact ⟨of32_in h (by omega) (by omega), by rw [of32_tn h]; rfl⟩
theorem aIald {k i j : Nat} {x : Int} (hd : decode M.2.1 pc = .ok (.iaload, 1)) (hk : kArr k 0 = true) (hl : aLv n k i) (hx : x = (j : Int)) (hj : j < kLen k) (hp : pc + 1 = pc') (kk : aRun w M pc' L (aI (I k i j) :: st) n0 n I R Q) : aRun w M pc L (aI x :: aO k i :: st) n0 n I R Q := by
  subst hp
  intro p e s m args below meth c9 H locs ls C hR hlo hls hoL hos hn hsz
  obtain ⟨i1, i2⟩ := aIx hx hj (aOkS_hd hos)
  have k9 := kk p e s m args below meth c9 H locs ls C hR hlo hls hoL (aOkS_cons (aOk_arr (i := i) (j := j) hR.2.2.1 hk (by decide)) (aOkS_tl (aOkS_tl hos))) hn hsz
  refine va_iald (tys := aTys w) (ws := [(aAd w (k, i), .inl (aw_C w 0, kLen k, .inl (fun j => Int32.ofInt (I k i j))))]) C.1 C.2.1 C.2.2.2.2.2.2.2.2.1.1 (fun q y hq => ?_) 0 0 rfl rfl i1 hd ?_
  · have h0 : q < 1 := (List.getElem?_eq_some_iff.mp hq).1
    rw [show q = 0 by omega] at hq
    cases hq
    exact aAtA hR hl hk
  · rw [i2]
    exact k9
theorem aZald {k i j : Nat} {x : Int} (hd : decode M.2.1 pc = .ok (.baload, 1)) (hk : kArr k 2 = true) (hl : aLv n k i) (hx : x = (j : Int)) (hj : j < kLen k) (hp : pc + 1 = pc') (kk : aRun w M pc' L (aI (I k i j) :: st) n0 n I R Q) : aRun w M pc L (aI x :: aO k i :: st) n0 n I R Q := by
  subst hp
  intro p e s m args below meth c9 H locs ls C hR hlo hls hoL hos hn hsz
  obtain ⟨i1, i2⟩ := aIx hx hj (aOkS_hd hos)
  have k9 := kk p e s m args below meth c9 H locs ls C hR hlo hls hoL (aOkS_cons (aOk_arr (i := i) (j := j) hR.2.2.1 hk (by decide)) (aOkS_tl (aOkS_tl hos))) hn hsz
  refine va_zald (tys := aTys w) (ws := [(aAd w (k, i), .inl (aw_C w 2, kLen k, .inl (fun j => Int32.ofInt (I k i j))))]) C.1 C.2.1 C.2.2.2.2.2.2.2.2.1.1 (fun q y hq => ?_) 0 2 rfl rfl i1 hd ?_
  · have h0 : q < 1 := (List.getElem?_eq_some_iff.mp hq).1
    rw [show q = 0 by omega] at hq
    cases hq
    exact aAtA hR hl hk
  · rw [i2]
    exact k9
theorem aLald {k i j : Nat} {x : Int} (hd : decode M.2.1 pc = .ok (.laload, 1)) (hk : kArr k 1 = true) (hl : aLv n k i) (hx : x = (j : Int)) (hj : j < kLen k) (hp : pc + 1 = pc') (kk : aRun w M pc' L (aL (I k i j) :: st) n0 n I R Q) : aRun w M pc L (aI x :: aO k i :: st) n0 n I R Q := by
  subst hp
  intro p e s m args below meth c9 H locs ls C hR hlo hls hoL hos hn hsz
  obtain ⟨i1, i2⟩ := aIx hx hj (aOkS_hd hos)
  have k9 := kk p e s m args below meth c9 H locs ls C hR hlo hls hoL (aOkS_cons (aOk_lng (i := i) (j := j) hR.2.2.1 hk) (aOkS_tl (aOkS_tl hos))) hn hsz
  refine va_lald (tys := aTys w) (ws := [(aAd w (k, i), .inl (aw_C w 1, kLen k, .inr (.inl (fun j => Int64.ofInt (I k i j)))))]) C.1 C.2.1 C.2.2.2.2.2.2.2.2.1.1 (fun q y hq => ?_) 0 1 rfl rfl i1 hd ?_
  · have h0 : q < 1 := (List.getElem?_eq_some_iff.mp hq).1
    rw [show q = 0 by omega] at hq
    cases hq
    exact aAtA hR hl hk
  · rw [i2]
    exact k9
/-- the element type of an array of references -/
def aRt (t : Nat) : FieldType := match t with
  | 3 => .object RX3
  | 4 => .object RX1
  | 5 => .object RX2
  | _ => .array .int
theorem aAald {k i j t : Nat} {x : Int} {q : Nat × Nat} (hd : decode M.2.1 pc = .ok (.aaload, 1)) (hk : kArr k t = true) (ht : 3 ≤ t ∧ t ≤ 6) (hl : aLv n k i) (hx : x = (j : Int)) (hj : j < kLen k) (hr : R k i j = some q) (hp : pc + 1 = pc') (kk : aRun w M pc' L (aR (some q) :: st) n0 n I R Q) : aRun w M pc L (aI x :: aO k i :: st) n0 n I R Q := by
  subst hp
  intro p e s m args below meth c9 H locs ls C hR hlo hls hoL hos hn hsz
  obtain ⟨i1, i2⟩ := aIx hx hj (aOkS_hd hos)
  have k9 := kk p e s m args below meth c9 H locs ls C hR hlo hls hoL (aOkS_cons trivial (aOkS_tl (aOkS_tl hos))) hn hsz
  have hcell := aAtA hR hl hk
  have hK := C.2.2.2.2.2.2.2.2.1.1
  have e1 : vp_cell (aw_C w t) (kLen k, aAr w I R t k i) = arrV (aw_C w t) (kLen k) (fun j => va_rf ((R k i j).map (aAd w))) := by
    obtain ⟨t1, t2⟩ := ht
    match t, t1, t2 with
    | 3, _, _ => rfl
    | 4, _, _ => rfl
    | 5, _, _ => rfl
    | 6, _, _ => rfl
  have e2 : ∃ ty, (aTys w)[t]? = some (aw_C w t, ty) ∧ ty.isReference = true := by
    obtain ⟨t1, t2⟩ := ht
    match t, t1, t2 with
    | 3, _, _ => exact ⟨_, rfl, rfl⟩
    | 4, _, _ => exact ⟨_, rfl, rfl⟩
    | 5, _, _ => exact ⟨_, rfl, rfl⟩
    | 6, _, _ => exact ⟨_, rfl, rfl⟩
  obtain ⟨ty, e3, e4⟩ := e2
  rw [e1] at hcell
  have hlt : (Int32.ofInt x).toNatClampNeg < kLen k := by rw [i2]; exact hj
  refine W.aald (v := va_rf ((some q).map (aAd w))) (ty := ty) C.1 C.2.1 hcell ((hK.2 t _ e3).1 _ _) e4 (fun q => by cases q) (by show ¬ (_ ∨ (arrV _ _ _).slots.size ≤ _); rw [arrV_size]; exact i1) (by show (arrV _ _ _).slots[_]? = _; rw [arrV_read _ _ hlt, i2, hr]) rfl rfl hd ?_
  exact k9
theorem aArr_u {w : aW} {I : aIF} {R : aRF} {k i j : Nat} {v : Int} : (fun q => Int32.ofInt (uI I k i j v k i q)) = upd (fun q => Int32.ofInt (I k i q)) j (Int32.ofInt v) := by
  funext q
  by_cases h : q = j
  · subst h; simp [uI, upd]
  · simp [uI, upd, h]
theorem aIast {k i j : Nat} {x v : Int} (hd : decode M.2.1 pc = .ok (.iastore, 1)) (hk : kArr k 0 = true) (hl : aLv n k i) (hx : x = (j : Int)) (hj : j < kLen k) (hp : pc + 1 = pc') (kk : aRun w M pc' L st n0 n (uI I k i j v) R Q) : aRun w M pc L (aI v :: aI x :: aO k i :: st) n0 n I R Q := by
  subst hp
  intro p e s m args below meth c9 H locs ls C hR hlo hls hoL hos hn hsz
  obtain ⟨i1, i2⟩ := aIx hx hj (aOkS_hd (aOkS_tl hos))
  have hv : i32 v := aOkS_hd hos
  refine W.iast C.1 C.2.1 (aAtA hR hl hk) ((C.2.2.2.2.2.2.2.2.1.1.2 0 _ rfl).1 (kLen k) (fun j => .int (Int32.ofInt (I k i j)))) (fun q => by cases q) (by show ¬ (_ ∨ (arrV _ _ _).slots.size ≤ _); rw [arrV_size]; exact i1) rfl rfl hd fun H1 g1 g2 g3 => ?_
  rw [i2] at g1 ⊢
  refine kk p e s m args below meth c9 H1 _ ls C (aRep_put (R' := R) hR hl g2 g3 ?_ (fun _ _ h => uI_ne h) (fun _ _ _ _ => rfl) (aOkI_put hR.2.2.1 (by rw [if_neg (fun z => by rw [(kArr_of hk).2] at z; omega)]; exact hv))) (fun q hq => ?_) hls hoL (aOkS_tl (aOkS_tl (aOkS_tl hos))) hn hsz
  · rw [show aCell w (uI I k i j v) R k i = .inl (aw_C w 0, kLen k, .inl (fun q => Int32.ofInt (uI I k i j v k i q))) by rw [aCell, if_neg (by rw [(kArr_of hk).1]; omega), (kArr_of hk).2]; rfl]
    show H1[_]? = some (vp_cell _ _)
    rw [g1, vp_cell_i]
    show some ((vp_cell (aw_C w 0) (kLen k, .inl (fun j => Int32.ofInt (I k i j)))).setSlot j _) = _
    rw [vp_cell_i, arrV_store]
    congr 2
    funext q
    by_cases h : q = j
    · subst h; simp [uI, updV]
    · simp [uI, updV, h]
  · rcases List.mem_append.mp hq with h | h
    · exact hlo q h
    · rw [List.mem_singleton.mp h, aAd_at hl]
      exact Nat.le_add_right _ _
theorem aZast {k i j : Nat} {x v : Int} (hd : decode M.2.1 pc = .ok (.bastore, 1)) (hk : kArr k 2 = true) (hl : aLv n k i) (hx : x = (j : Int)) (hj : j < kLen k) (hv01 : v = 0 ∨ v = 1) (hp : pc + 1 = pc') (kk : aRun w M pc' L st n0 n (uI I k i j v) R Q) : aRun w M pc L (aI v :: aI x :: aO k i :: st) n0 n I R Q := by
  subst hp
  intro p e s m args below meth c9 H locs ls C hR hlo hls hoL hos hn hsz
  obtain ⟨i1, i2⟩ := aIx hx hj (aOkS_hd (aOkS_tl hos))
  have hv : i32 v := aOkS_hd hos
  refine W.zast C.1 C.2.1 (aAtA hR hl hk) ((C.2.2.2.2.2.2.2.2.1.1.2 2 _ rfl).1 (kLen k) (fun j => .int (Int32.ofInt (I k i j)))) (fun q => by cases q) (by show ¬ (_ ∨ (arrV _ _ _).slots.size ≤ _); rw [arrV_size]; exact i1) rfl rfl hd fun H1 g1 g2 g3 => ?_
  rw [i2] at g1 ⊢
  rw [(nar_b hv01).1] at g1
  refine kk p e s m args below meth c9 H1 _ ls C (aRep_put (R' := R) hR hl g2 g3 ?_ (fun _ _ h => uI_ne h) (fun _ _ _ _ => rfl) (aOkI_put hR.2.2.1 (by rw [if_neg (fun z => by rw [(kArr_of hk).2] at z; omega)]; exact hv))) (fun q hq => ?_) hls hoL (aOkS_tl (aOkS_tl (aOkS_tl hos))) hn hsz
  · rw [show aCell w (uI I k i j v) R k i = .inl (aw_C w 2, kLen k, .inl (fun q => Int32.ofInt (uI I k i j v k i q))) by rw [aCell, if_neg (by rw [(kArr_of hk).1]; omega), (kArr_of hk).2]; rfl]
    show H1[_]? = some (vp_cell _ _)
    rw [g1, vp_cell_i]
    show some ((vp_cell (aw_C w 2) (kLen k, .inl (fun j => Int32.ofInt (I k i j)))).setSlot j _) = _
    rw [vp_cell_i, arrV_store]
    congr 2
    funext q
    by_cases h : q = j
    · subst h; simp [uI, updV]
    · simp [uI, updV, h]
  · rcases List.mem_append.mp hq with h | h
    · exact hlo q h
    · rw [List.mem_singleton.mp h, aAd_at hl]
      exact Nat.le_add_right _ _
theorem aLast {k i j : Nat} {x v : Int} (hd : decode M.2.1 pc = .ok (.lastore, 1)) (hk : kArr k 1 = true) (hl : aLv n k i) (hx : x = (j : Int)) (hj : j < kLen k) (hp : pc + 1 = pc') (kk : aRun w M pc' L st n0 n (uI I k i j v) R Q) : aRun w M pc L (aL v :: aI x :: aO k i :: st) n0 n I R Q := by
  subst hp
  intro p e s m args below meth c9 H locs ls C hR hlo hls hoL hos hn hsz
  obtain ⟨i1, i2⟩ := aIx hx hj (aOkS_hd (aOkS_tl hos))
  have hv : i64 v := aOkS_hd hos
  refine W.last C.1 C.2.1 (aAtA hR hl hk) ((C.2.2.2.2.2.2.2.2.1.1.2 1 _ rfl).1 (kLen k) (fun j => .long (Int64.ofInt (I k i j)))) (fun q => by cases q) (by show ¬ (_ ∨ (arrV _ _ _).slots.size ≤ _); rw [arrV_size]; exact i1) rfl rfl hd fun H1 g1 g2 g3 => ?_
  rw [i2] at g1 ⊢
  refine kk p e s m args below meth c9 H1 _ ls C (aRep_put (R' := R) hR hl g2 g3 ?_ (fun _ _ h => uI_ne h) (fun _ _ _ _ => rfl) (aOkI_put hR.2.2.1 (by rw [if_pos (kArr_of hk)]; exact hv))) (fun q hq => ?_) hls hoL (aOkS_tl (aOkS_tl (aOkS_tl hos))) hn hsz
  · rw [show aCell w (uI I k i j v) R k i = .inl (aw_C w 1, kLen k, .inr (.inl (fun q => Int64.ofInt (uI I k i j v k i q)))) by rw [aCell, if_neg (by rw [(kArr_of hk).1]; omega), (kArr_of hk).2]; rfl]
    show H1[_]? = some (vp_cell _ _)
    rw [g1, vp_cell_l]
    show some ((vp_cell (aw_C w 1) (kLen k, .inr (.inl (fun j => Int64.ofInt (I k i j))))).setSlot j _) = _
    rw [vp_cell_l, arrV_store]
    congr 2
    funext q
    by_cases h : q = j
    · subst h; simp [uI, updV]
    · simp [uI, updV, h]
  · rcases List.mem_append.mp hq with h | h
    · exact hlo q h
    · rw [List.mem_singleton.mp h, aAd_at hl]
      exact Nat.le_add_right _ _
end AMH
end
section
/-! returns and calls -/
section AMR
variable {w : aW} {M : aM} {pc pc' : Nat} {L : List (Option aV)} {st : List aV} {n0 n : Nat} {I : aIF} {R : aRF} {Q : aQ}
theorem aIret {x : Int} (hd : decode M.2.1 pc = .ok (.ireturn, 1)) (hM : M.1 ≠ yL_law) (hr : M.2.2.2.1 = some .int) (hn1 : n = n0 + M.2.2.2.2.cells) (hs1 : aSz n = aSz n0 + M.2.2.2.2.slots) (hq : Q (some (aI x)) n I R) : aRun w M pc L [aI x] n0 n I R Q := by
  intro p e s m args below meth c9 H locs ls C hR hlo hls hoL hos hn hsz
  have hlocks : meth.locks = false := C.2.2.2.2.2.2.1
  have e1 : n - n0 = M.2.2.2.2.cells := by omega
  have e2 : aSz n - aSz n0 = M.2.2.2.2.slots := by omega
  unfold aFin
  rw [if_neg hM, e1, e2]
  exact W.iret (v := Int32.ofInt x) C.1 C.2.1 (C.2.2.1.trans hr) (fun t ht hW => ⟨some (aI x), n, I, R, rfl, fun v hv => by cases hv; exact aOkS_hd hos, by rw [ht]; exact hR, hn1, hs1, hq⟩) hlo hd
theorem aZret {x : Int} (hd : decode M.2.1 pc = .ok (.ireturn, 1)) (hM : M.1 ≠ yL_law) (hr : M.2.2.2.1 = some .boolean) (hx : x = 0 ∨ x = 1) (hn1 : n = n0 + M.2.2.2.2.cells) (hs1 : aSz n = aSz n0 + M.2.2.2.2.slots) (hq : Q (some (aI x)) n I R) : aRun w M pc L [aI x] n0 n I R Q := by
  intro p e s m args below meth c9 H locs ls C hR hlo hls hoL hos hn hsz
  have hlocks : meth.locks = false := C.2.2.2.2.2.2.1
  have e1 : n - n0 = M.2.2.2.2.cells := by omega
  have e2 : aSz n - aSz n0 = M.2.2.2.2.slots := by omega
  unfold aFin
  rw [if_neg hM, e1, e2]
  exact W.zret (v := Int32.ofInt x) (ty := .boolean) C.1 C.2.1 (C.2.2.1.trans hr) (nar_b hx).1 (fun t ht hW => ⟨some (aI x), n, I, R, rfl, fun v hv => by cases hv; exact aOkS_hd hos, by rw [ht]; exact hR, hn1, hs1, hq⟩) hlo hd
theorem aLret {x : Int} (hd : decode M.2.1 pc = .ok (.lreturn, 1)) (hM : M.1 ≠ yL_law) (hr : M.2.2.2.1 = some .long) (hn1 : n = n0 + M.2.2.2.2.cells) (hs1 : aSz n = aSz n0 + M.2.2.2.2.slots) (hq : Q (some (aL x)) n I R) : aRun w M pc L [aL x] n0 n I R Q := by
  intro p e s m args below meth c9 H locs ls C hR hlo hls hoL hos hn hsz
  have hlocks : meth.locks = false := C.2.2.2.2.2.2.1
  have e1 : n - n0 = M.2.2.2.2.cells := by omega
  have e2 : aSz n - aSz n0 = M.2.2.2.2.slots := by omega
  unfold aFin
  rw [if_neg hM, e1, e2]
  exact W.lret (v := Int64.ofInt x) C.1 C.2.1 (C.2.2.1.trans hr) (fun t ht hW => ⟨some (aL x), n, I, R, rfl, fun v hv => by cases hv; exact aOkS_hd hos, by rw [ht]; exact hR, hn1, hs1, hq⟩) hlo hd
theorem aVret (hd : decode M.2.1 pc = .ok (.return_, 1)) (hM : M.1 ≠ yL_law) (hr : M.2.2.2.1 = none) (hn1 : n = n0 + M.2.2.2.2.cells) (hs1 : aSz n = aSz n0 + M.2.2.2.2.slots) (hq : Q none n I R) : aRun w M pc L [] n0 n I R Q := by
  intro p e s m args below meth c9 H locs ls C hR hlo hls hoL hos hn hsz
  have hlocks : meth.locks = false := C.2.2.2.2.2.2.1
  have e1 : n - n0 = M.2.2.2.2.cells := by omega
  have e2 : aSz n - aSz n0 = M.2.2.2.2.slots := by omega
  unfold aFin
  rw [if_neg hM, e1, e2]
  exact W.vret C.1 C.2.1 (C.2.2.1.trans hr) (fun t ht hW => ⟨none, n, I, R, rfl, (fun v hv => by cases hv), by rw [ht]; exact hR, hn1, hs1, hq⟩) hlo hd
/-- the law's end -/
theorem aLawRet (hd : decode M.2.1 pc = .ok (.ireturn, 1)) (hM : M.1 = yL_law) (hc : M.2.1 = code) (hr : M.2.2.2.1 = ret) (hm : M.2.2.2.2 = room_1) (hn1 : n ≤ n0 + 600000) (hs1 : aSz n ≤ aSz n0 + 7302249) : aRun w M pc L [aI 1] n0 n I R Q := by
  intro p e s m args below meth c9 H locs ls C hR hlo hls hoL hos hn hsz
  obtain ⟨hz, ha⟩ := C.2.2.2.2.2.2.2.2.2 hM
  unfold aFin
  rw [if_pos hM, hm, ha]
  refine va_forget (fun q hq => by rw [hz]; exact hlo q hq) ?_
  refine W.widen (k := 600000) (n := 7302249) (by omega) (by omega) ?_
  exact lw_ret C.1 (C.2.1.trans hc) (C.2.2.1.trans hr) C.2.2.2.2.2.2.1 (by rw [← hc]; exact hd)
theorem aPc_blind {As : List aV} : FrameBlind (aPc w As n I R) := fun a U g mk h => ⟨h.1, h.2.1, h.2.2.1, aKn_same rfl h.2.2.2⟩
/-- what a call needs of the tables -/
def aVk (own : String) (idx : Nat) (M2 : aM) : Prop := (Cond.methodLink own idx M2.1 ∈ aTb ∧ Cond.instanceMethod M2.1 ∈ aTb ∧ Cond.selects M2.1.cls M2.1 M2.1 ∈ aTb ∧ Cond.initialized M2.1.cls ∈ aTb ∧ Cond.code M2.1 M2.2.1 M2.2.2.1 M2.2.2.2.1 ∈ aTb) ∧ M2.1.cls ≠ "java/lang/invoke/MethodHandle" ∧ M2.1.cls ≠ "java/lang/invoke/VarHandle"
def aSk (own : String) (idx : Nat) (M2 : aM) : Prop := (Cond.methodLink own idx M2.1 ∈ aTb ∧ Cond.static M2.1 ∈ aTb ∧ Cond.initialized M2.1.cls ∈ aTb ∧ Cond.code M2.1 M2.2.1 M2.2.2.1 M2.2.2.2.1 ∈ aTb) ∧ M2.1.cls ≠ "java/lang/invoke/MethodHandle" ∧ M2.1.cls ≠ "java/lang/invoke/VarHandle"
abbrev aRm (M M2 : aM) : Prop := M2.2.2.2.2.frames + 1 ≤ M.2.2.2.2.frames ∧ 8 + (M2.2.2.1 + 11) + M2.2.2.2.2.locals ≤ M.2.2.2.2.locals
theorem aWs_good {M2 : aM} (h : Cond.code M2.1 M2.2.1 M2.2.2.1 M2.2.2.2.1 ∈ aTb) : GoodIn aTb (aWs M2) := fun x hx => by
  rcases List.mem_cons.mp hx with rfl | q
  · exact ⟨h, aTb_good h⟩
  · exact ⟨q, aTb_good q⟩
theorem aRun_after {M2 : aM} {p : Program} {e : Env} {s : State} {m : MethodId} {args : Array Value} {below : List Frame} {meth : Method} {c : Code} {H : Heap} {locs : List Loc} {ls : Array Slot} {rest : List aV} {st0 : List Value} {av : Array Value}
    (C : aCtx w M p s m args meth c) (hlo : ∀ q ∈ locs, aw_B w ≤ q.base) (hls : aLs w ls M.2.2.1 L) (hoL : aOkL L) (hos : aOkS rest) (hn : n0 ≤ n) (hsz : aSz n0 ≤ aSz n)
    (hr : va_Run p (aw_l w) e M.2.2.2.2 s m args below meth c H locs (n - n0) (aSz n - aSz n0) M2.2.2.2.2.cells M2.2.2.2.2.slots (F0 m pc ls st0) (rest.map (aDen w)) (aQc w M2 n (fun r n' I' R' => aRun w M (pc + 3) L (r.toList ++ rest) n0 n' I' R' Q) av) (fun q => aw_B w ≤ q)) :
    W p (aw_l w) e M.2.2.2.2 s m args below meth c H locs (n - n0) (aSz n - aSz n0) (aFin w M n0 Q below args s) (F0 m pc ls st0) := by
  intro T hT X
  obtain ⟨v, st₀, t, T', Lc, h0, X', hL, e1, e2, ⟨r, n', I', R', hv, hok, hR', hn', hs', hk⟩, stp⟩ := hr T hT X
  have hv : v = r.map (aDen w) := Outcome.returned.inj hv
  have c1 : n - n0 + M2.2.2.2.2.cells = n' - n0 := by omega
  have c2 : aSz n - aSz n0 + M2.2.2.2.2.slots = aSz n' - aSz n0 := by omega
  rw [c1, c2] at X'
  obtain ⟨t2, a1, b1⟩ := hk p e s m args below meth c T'.heap (locs ++ Lc) ls C (by rw [e1]; exact hR') (fun q hq => by
    rcases List.mem_append.mp hq with h | h
    · exact hlo q h
    · exact hL q h) hls hoL (fun u hu => by
    rcases List.mem_append.mp hu with h | h
    · exact hok u (by cases r with | none => cases h | some x => rw [show u = x by simpa using h])
    · exact hos u h) (by omega) (by omega) T' rfl X'
  refine ⟨t2, stp t2 ?_, b1⟩
  have eg : ({ F0 m pc ls st0 with pc := pc + 3, stack := v.toList ++ rest.map (aDen w) } : JFrame) = F0 m (pc + 3) ls ((r.toList ++ rest).map (aDen w)) := by
    rw [hv]
    cases r <;> rfl
  show Steps p.tables e below (T'.setTop ({ F0 m pc ls st0 with pc := pc + 3, stack := v.toList ++ rest.map (aDen w) } : JFrame)) t2
  rw [eg]
  exact a1
theorem aCallV {M2 : aM} {As rest : List aV} {k i c idx : Nat} (hd : decode M.2.1 pc = .ok (.invokevirtual idx, 3)) (hf : aVk M.1.cls idx M2) (hrm : aRm M M2) (hnp : (parseMethodDescriptor M2.1.desc).map (fun d => d.parameters.length) = some As.length) (hk : kObj k c = true) (hc11 : c < 11) (hcn : aNm c = M2.1.cls) (h8 : (rest.map aCat).sum ≤ 8) (hl : aLv n k i) (hc : n + M2.2.2.2.2.cells ≤ n0 + M.2.2.2.2.cells) (hs : aSz n + M2.2.2.2.2.slots ≤ aSz n0 + M.2.2.2.2.slots) (hp : pc + 3 = pc')
    (kk : aMet w M2 (aO k i :: As) n I R (fun r n' I' R' => aRun w M pc' L (r.toList ++ rest) n0 n' I' R' Q)) : aRun w M pc L (As.reverse ++ aO k i :: rest) n0 n I R Q := by
  subst hp
  intro p e s m args below meth c9 H locs ls C hR hlo hls hoL hos hn hsz
  have hor : aOkS rest := fun u hu => hos u (List.mem_append_right _ (List.mem_cons_of_mem _ hu))
  have hoA : aOkS (aO k i :: As) := aOkS_cons trivial (fun u hu => hos u (List.mem_append_left _ (List.mem_reverse.mpr hu)))
  obtain ⟨hx, hb, hr, hml, hown, hts, hlk, hin, hK, -⟩ := id C
  obtain ⟨⟨f1, f2, f3, f4, f5⟩, f6, f7⟩ := hf
  have hcl := aCl c hc11
  have hcell := hR.2.1 k i hl
  rw [show aCell w I R k i = .inr (c, aFs w I R c k i) by rw [aCell, if_pos (kObj_of hk).1, (kObj_of hk).2]] at hcell
  have hrec := va_recv (q0 := 0) (ws := [(aAd w (k, i), .inr (c, aFs w I R c k i))]) hK.1 (fun q x hq => by
    have h0 : q < 1 := (List.getElem?_eq_some_iff.mp hq).1
    rw [show q = 0 by omega] at hq
    cases hq
    exact hcell) hcl rfl
  refine aRun_after (M2 := M2) (av := (Value.ref (aAd w (k, i)) :: As.map (aDen w)).toArray) C hlo hls hoL hor hn hsz ?_
  refine va_runV (C := M2.1.cls) (As := As.map (aDen w)) (n := As.length) (ws := aWs M2) (Ts := aTb) ⟨hx, hb, hml, hown, hts⟩ kk (cwV (ws' := aTb) As.length hts ?_ rfl rfl rfl ⟨rfl, f6, f7, hnp⟩ hrm) ⟨aPc_blind, by rw [← hcn]; exact hrec, fun U hU hW => ⟨rfl, hoA, by rw [hU]; exact hR, aKn_warm hW hK⟩⟩ rfl (by rw [List.length_map]) hls.1 (by show (As.reverse ++ aO k i :: rest).map (aDen w) = _; rw [List.map_append, List.map_reverse]; rfl) ?_ hd ⟨by omega, by omega⟩
  · intro x hx2
    rcases List.mem_append.mp hx2 with h | h
    · have : x ∈ aTb := by
        rcases List.mem_cons.mp h with rfl | h
        · exact f1
        rcases List.mem_cons.mp h with rfl | h
        · exact f2
        rcases List.mem_cons.mp h with rfl | h
        · exact f3
        rcases List.mem_cons.mp h with rfl | h
        · exact f4
        cases h
      exact ⟨this, aTb_good this⟩
    · exact aWs_good f5 x h
  · show 2 * 0 + _ ≤ 8
    rw [List.map_map, show ((fun v => Value.category v) ∘ aDen w) = aCat from funext (aDen_cat w)]
    omega
theorem aCallS {M2 : aM} {As rest : List aV} {idx : Nat} (hd : decode M.2.1 pc = .ok (.invokestatic idx, 3)) (hf : aSk M.1.cls idx M2) (hrm : aRm M M2) (hnp : (parseMethodDescriptor M2.1.desc).map (fun d => d.parameters.length) = some As.length) (h8 : (rest.map aCat).sum ≤ 8) (hc : n + M2.2.2.2.2.cells ≤ n0 + M.2.2.2.2.cells) (hs : aSz n + M2.2.2.2.2.slots ≤ aSz n0 + M.2.2.2.2.slots) (hp : pc + 3 = pc')
    (kk : aMet w M2 As n I R (fun r n' I' R' => aRun w M pc' L (r.toList ++ rest) n0 n' I' R' Q)) : aRun w M pc L (As.reverse ++ rest) n0 n I R Q := by
  subst hp
  intro p e s m args below meth c9 H locs ls C hR hlo hls hoL hos hn hsz
  have hor : aOkS rest := fun u hu => hos u (List.mem_append_right _ hu)
  have hoA : aOkS As := fun u hu => hos u (List.mem_append_left _ (List.mem_reverse.mpr hu))
  obtain ⟨hx, hb, hr, hml, hown, hts, hlk, hin, hK, -⟩ := id C
  obtain ⟨⟨f1, f2, f4, f5⟩, f6, f7⟩ := hf
  refine aRun_after (M2 := M2) (av := (As.map (aDen w)).toArray) C hlo hls hoL hor hn hsz ?_
  refine va_runS (As := As.map (aDen w)) (n := As.length) (ws := aWs M2) (Ts := aTb) ⟨hx, hb, hml, hown, hts⟩ kk ⟨callB_of (ws' := aTb) As.length hts (aWs_good f5) rfl rfl rfl (hts _ f4) (hts _ f1) ⟨f6, f7, hnp⟩ hrm, hts _ f2⟩ ⟨aPc_blind, fun U hU hW => ⟨rfl, hoA, by rw [hU]; exact hR, aKn_warm hW hK⟩⟩ rfl (by rw [List.length_map]) hls.1 (by show (As.reverse ++ rest).map (aDen w) = _; rw [List.map_append, List.map_reverse]) ?_ hd ⟨by omega, by omega⟩
  show 2 * 0 + _ ≤ 8
  rw [List.map_map, show ((fun v => Value.category v) ∘ aDen w) = aCat from funext (aDen_cat w)]
  omega
end AMR
end
section
/-! what the constructors need: new cells, arrays, calls of <init>; arraycopy; the script -/
section AMN
variable {w : aW} {M : aM} {pc pc' : Nat} {L : List (Option aV)} {st : List aV} {n0 n : Nat} {I : aIF} {R : aRF} {Q : aQ}
theorem aObjInit {k i idx : Nat} (hd : decode M.2.1 pc = .ok (.invokespecial idx, 3)) (h1 : Cond.methodLink M.1.cls idx Lib.objectInit ∈ aTb) (h2 : Cond.instanceMethod Lib.objectInit ∈ aTb) (h3 : Cond.code Lib.objectInit ⟨#[0xb1]⟩ 1 none ∈ aTb) (hfr : 1 ≤ M.2.2.2.2.frames) (h8 : (st.map aCat).sum + 12 ≤ M.2.2.2.2.locals) (hp : pc + 3 = pc') (kk : aRun w M pc' L st n0 n I R Q) : aRun w M pc L (aO k i :: st) n0 n I R Q := by
  subst hp
  intro p e s m args below meth c9 H locs ls C hR hlo hls hoL hos hn hsz
  obtain ⟨hx, hb, hr, hml, hown, hts, hlk, hin, hK, -⟩ := id C
  refine W.objInit hx hb hown (hts _ h1) (hts _ h2) (hts _ h3) rfl (by rw [hml]; exact hls.1) rfl hd hfr ?_ (kk p e s m args below meth c9 H locs ls C hR hlo hls hoL (aOkS_tl hos) hn hsz)
  show 2 * 0 + _ + 12 ≤ _
  rw [List.map_map, show ((fun v => Value.category v) ∘ aDen w) = aCat from funext (aDen_cat w)]
  omega
theorem aRep_push {k i : Nat} {H H' : Heap} (h : aRep w n I R H) (hk : i < kCnt k) (hpl : aPl k i = n) (hz : H'.size = H.size + 1) (ho : ∀ q, q < H.size → H'[q]? = H[q]?) (hc : va_at (aw_D w) vwCl (aAd w (k, i), aCell w I R k i) H') : aRep w (n + 1) I R H' := by
  obtain ⟨a1, a2, a3, a4, a5⟩ := h
  refine ⟨by omega, fun k2 i2 hl2 => ?_, a3, by rw [ho _ (by omega)]; exact a4, a5⟩
  by_cases e : aPl k2 i2 = n
  · obtain ⟨rfl, rfl⟩ := aPl_inj hl2.1 hk (e.trans hpl.symm)
    exact hc
  · have hl : aLv n k2 i2 := ⟨hl2.1, by have := hl2.2; omega⟩
    refine (a2 k2 i2 hl).kept (ho _ ?_)
    show aAd w (k2, i2) < H.size
    rw [aAd_at hl, a1]
    have := hl.2
    omega
theorem aAd_new {k i : Nat} {H : Heap} (h : aRep w n I R H) (hk : i < kCnt k) (hpl : aPl k i = n) : aAd w (k, i) = H.size := by
  rw [aAd_at (n := n + 1) ⟨hk, by omega⟩, hpl, h.1]
theorem aNew {k i c idx : Nat} (hd : decode M.2.1 pc = .ok (.new idx, 3)) (hc : c < 11) (hk : kObj k c = true) (hcl : Cond.classLink M.1.cls idx (aNm c) ∈ aTb) (hins : Cond.instantiable (aNm c) (aNf c) ∈ aTb) (hini : Cond.initialized (aNm c) ∈ aTb) (hi : i < kCnt k) (hpl : aPl k i = n) (hI : ∀ j, I k i j = 0) (hRn : ∀ j, R k i j = none) (hc1 : n + 1 ≤ n0 + M.2.2.2.2.cells) (hs1 : aSz (n + 1) = aSz n + aNf c) (hs2 : aSz n + aNf c ≤ aSz n0 + M.2.2.2.2.slots) (hp : pc + 3 = pc') (kk : aRun w M pc' L (aO k i :: st) n0 (n + 1) I R Q) : aRun w M pc L st n0 n I R Q := by
  subst hp
  intro p e s m args below meth c9 H locs ls C hR hlo hls hoL hos hn hsz
  obtain ⟨hx, hb, hr, hml, hown, hts, hlk, hin, hK, -⟩ := id C
  have hcl2 := aCl c hc
  have hKn := hK.1.1 c _ hcl2
  refine W.newcK hx hb hown (hts _ hcl) (hts _ hins) (hts _ hini) rfl hd (by omega) (by omega) hKn.2.1 rfl fun H1 kC hkC e1 z1 o1 => ?_
  have hR1 : aRep w (n + 1) I R H1 := by
    refine aRep_push hR hi hpl z1 o1 ?_
    rw [aAd_new hR hi hpl, show aCell w I R k i = .inr (c, aFs w I R c k i) by rw [aCell, if_pos (kObj_of hk).1, (kObj_of hk).2]]
    refine ⟨_, hcl2, (u_born (aTy c) hts (aIn c hc) hKn hkC e1 (aTy_ok c hc)).to (fun j hj => ?_)⟩
    have hj : j < aNf c := hj
    show defaultValue (aTy c j) = (aFs w I R c k i).getD j .null
    rw [List.getD_eq_getElem?_getD, aFs_get hj]
    show defaultValue (aTy c j) = aFv w I R (aTy c j) k i j
    have hd3 : ∀ c, c < 11 → ∀ j, j < aNf c → aTy c j = .int ∨ aTy c j = .boolean ∨ (defaultValue (aTy c j) = .null ∧ aTc c j = 2) := by decide +kernel
    rcases hd3 c hc j hj with h | h | ⟨h, h2⟩
    · rw [h]; show _ = Value.int (Int32.ofInt (I k i j)); rw [hI]; rfl
    · rw [h]; show _ = Value.int (Int32.ofInt (I k i j)); rw [hI]; rfl
    · rw [h, aFv_r h2, hRn]; rfl
  have k9 := kk p e s m args below meth c9 H1 locs ls C hR1 hlo hls hoL (aOkS_cons trivial hos) (by omega) (by omega)
  rw [show n + 1 - n0 = n - n0 + 1 by omega, show aSz (n + 1) - aSz n0 = aSz n - aSz n0 + aNf c by omega] at k9
  rw [show (aO k i :: st).map (aDen w) = Value.ref H.size :: st.map (aDen w) by rw [← aAd_new hR hi hpl]; rfl] at k9
  exact k9
theorem aNewa {k i t : Nat} {x : Int} {at9 : ArrayType} (hd : decode M.2.1 pc = .ok (.newarray at9, 2)) (ht : (at9 = .int ∧ t = 0) ∨ (at9 = .long ∧ t = 1) ∨ (at9 = .boolean ∧ t = 2)) (harr : Cond.arrayClass (newarray.typeOf at9) ∈ aTb) (hk : kArr k t = true) (hx : x = (kLen k : Int)) (hi : i < kCnt k) (hpl : aPl k i = n) (hI : ∀ j, I k i j = 0) (hc1 : n + 1 ≤ n0 + M.2.2.2.2.cells) (hs1 : aSz (n + 1) = aSz n + kLen k) (hs2 : aSz n + kLen k ≤ aSz n0 + M.2.2.2.2.slots) (hb : kLen k ≤ 100000) (hp : pc + 2 = pc') (kk : aRun w M pc' L (aO k i :: st) n0 (n + 1) I R Q) : aRun w M pc L (aI x :: st) n0 n I R Q := by
  subst hp
  intro p e s m args below meth c9 H locs ls C hR hlo hls hoL hos hn hsz
  obtain ⟨hx9, hb9, hr, hml, hown, hts, hlk, hin, hK, -⟩ := id C
  have hx32 : i32 x := aOkS_hd hos
  have hN : (Int32.ofInt x).toNatClampNeg = kLen k := by rw [of32_tn hx32, hx]; rfl
  have h0 : ¬ Int32.ofInt x < 0 := by
    rw [show (0 : Int32) = Int32.ofInt 0 from rfl, of32_lt hx32 i32_0]
    omega
  have hcb : componentBytes (newarray.typeOf at9) ≤ 8 := by
    rcases ht with ⟨rfl, -⟩ | ⟨rfl, -⟩ | ⟨rfl, -⟩ <;> decide
  have hbb : kLen k * componentBytes (newarray.typeOf at9) ≤ 536870912 := by
    have := Nat.mul_le_mul hb hcb
    omega
  refine va_newaK hx9 hb9 (hts _ harr) rfl hd rfl h0 hN hbb (by omega) (by omega) rfl fun H1 cA e1 z1 o1 hAr hNm => ?_
  have hR1 : aRep w (n + 1) I R H1 := by
    refine aRep_push hR hi hpl z1 o1 ?_
    rw [aAd_new hR hi hpl, show aCell w I R k i = .inl (aw_C w t, kLen k, aAr w I R t k i) by rw [aCell, if_neg (by rw [(kArr_of hk).1]; omega), (kArr_of hk).2]]
    show H1[H.size]? = some (vp_cell (aw_C w t) (kLen k, aAr w I R t k i))
    rw [e1]
    rcases ht with ⟨rfl, rfl⟩ | ⟨rfl, rfl⟩ | ⟨rfl, rfl⟩
    · have hC : cA = aw_C w 0 := Option.some.inj (hNm.symm.trans (hK.1.2 0 _ rfl).2)
      rw [hC]
      show _ = some (arrV (aw_C w 0) (kLen k) (fun j => .int (Int32.ofInt (I k i j))))
      simp only [hI]
      rfl
    · have hC : cA = aw_C w 1 := Option.some.inj (hNm.symm.trans (hK.1.2 1 _ rfl).2)
      rw [hC]
      show _ = some (arrV (aw_C w 1) (kLen k) (fun j => .long (Int64.ofInt (I k i j))))
      simp only [hI]
      rfl
    · have hC : cA = aw_C w 2 := Option.some.inj (hNm.symm.trans (hK.1.2 2 _ rfl).2)
      rw [hC]
      show _ = some (arrV (aw_C w 2) (kLen k) (fun j => .int (Int32.ofInt (I k i j))))
      simp only [hI]
      rfl
  have k9 := kk p e s m args below meth c9 H1 locs ls C hR1 hlo hls hoL (aOkS_cons trivial (aOkS_tl hos)) (by omega) (by omega)
  rw [show n + 1 - n0 = n - n0 + 1 by omega, show aSz (n + 1) - aSz n0 = aSz n - aSz n0 + kLen k by omega] at k9
  rw [show (aO k i :: st).map (aDen w) = Value.ref H.size :: st.map (aDen w) by rw [← aAd_new hR hi hpl]; rfl] at k9
  exact k9
theorem aAnew {k i t idx : Nat} {x : Int} {C9 : String} (hd : decode M.2.1 pc = .ok (.anewarray idx, 3)) (ht : 3 ≤ t ∧ t ≤ 5) (hC9 : aRt t = .object C9) (hcl : Cond.classLink M.1.cls idx C9 ∈ aTb) (hover : Cond.arrayOver (.object C9) ∈ lw_tbl) (hk : kArr k t = true) (hx : x = (kLen k : Int)) (hi : i < kCnt k) (hpl : aPl k i = n) (hRn : ∀ j, R k i j = none) (hc1 : n + 1 ≤ n0 + M.2.2.2.2.cells) (hs1 : aSz (n + 1) = aSz n + kLen k) (hs2 : aSz n + kLen k ≤ aSz n0 + M.2.2.2.2.slots) (hb : kLen k ≤ 100000) (hp : pc + 3 = pc') (kk : aRun w M pc' L (aO k i :: st) n0 (n + 1) I R Q) : aRun w M pc L (aI x :: st) n0 n I R Q := by
  subst hp
  intro p e s m args below meth c9 H locs ls C hR hlo hls hoL hos hn hsz
  obtain ⟨hx9, hb9, hr, hml, hown, hts, hlk, hin, hK, -⟩ := id C
  have hx32 : i32 x := aOkS_hd hos
  have hN : (Int32.ofInt x).toNatClampNeg = kLen k := by rw [of32_tn hx32, hx]; rfl
  have h0 : ¬ Int32.ofInt x < 0 := by
    rw [show (0 : Int32) = Int32.ofInt 0 from rfl, of32_lt hx32 i32_0]
    omega
  refine W.anew hx9 hb9 hown (hts _ hcl) (va_AO.use (hK.2.2.1 _ hover)) rfl hd rfl h0 (by rw [hN]; omega) (by omega) (by rw [hN]; omega) fun cA kA comp f1 f2 f3 f4 => ?_
  rw [hN]
  generalize hH1 : H.push ({ cls := cA, slots := Array.replicate (kLen k) .null, vm := .none } : Cell) = H1
  have z1 : H1.size = H.size + 1 := by rw [← hH1, Array.size_push]
  have e1 : H1[H.size]? = some (arrV cA (kLen k) (fun _ => .null)) := by rw [← hH1, Array.getElem?_push_size, ← arrV_new]
  have o1 : ∀ q : Nat, q < H.size → H1[q]? = H[q]? := fun q hq => by rw [← hH1, Array.getElem?_push, if_neg (Nat.ne_of_lt hq)]
  have hR1 : aRep w (n + 1) I R H1 := by
    refine aRep_push hR hi hpl z1 o1 ?_
    rw [aAd_new hR hi hpl, show aCell w I R k i = .inl (aw_C w t, kLen k, aAr w I R t k i) by rw [aCell, if_neg (by rw [(kArr_of hk).1]; omega), (kArr_of hk).2]]
    show H1[H.size]? = some (vp_cell (aw_C w t) (kLen k, aAr w I R t k i))
    rw [e1]
    obtain ⟨t1, t2⟩ := ht
    have fin : ∀ t, 3 ≤ t → t ≤ 5 → aRt t = .object C9 → some (arrV cA (kLen k) (fun _ => .null)) = some (vp_cell (aw_C w t) (kLen k, aAr w I R t k i)) := by
      intro t t1 t2 hC9
      match t, t1, t2, hC9 with
      | 3, _, _, hC9 =>
        cases hC9
        obtain ⟨_, _, _, _, _, g⟩ := (hK.1.2 3 _ rfl).2
        rw [show cA = aw_C w 3 from Option.some.inj (f1.symm.trans g)]
        show _ = some (arrV (aw_C w 3) (kLen k) (fun j => va_rf ((R k i j).map (aAd w))))
        simp only [hRn]
        rfl
      | 4, _, _, hC9 =>
        cases hC9
        obtain ⟨_, _, _, _, _, g⟩ := (hK.1.2 4 _ rfl).2
        rw [show cA = aw_C w 4 from Option.some.inj (f1.symm.trans g)]
        show _ = some (arrV (aw_C w 4) (kLen k) (fun j => va_rf ((R k i j).map (aAd w))))
        simp only [hRn]
        rfl
      | 5, _, _, hC9 =>
        cases hC9
        obtain ⟨_, _, _, _, _, g⟩ := (hK.1.2 5 _ rfl).2
        rw [show cA = aw_C w 5 from Option.some.inj (f1.symm.trans g)]
        show _ = some (arrV (aw_C w 5) (kLen k) (fun j => va_rf ((R k i j).map (aAd w))))
        simp only [hRn]
        rfl
    exact fin t t1 t2 hC9
  have k9 := kk p e s m args below meth c9 H1 locs ls C hR1 hlo hls hoL (aOkS_cons trivial (aOkS_tl hos)) (by omega) (by omega)
  rw [show n + 1 - n0 = n - n0 + 1 by omega, show aSz (n + 1) - aSz n0 = aSz n - aSz n0 + kLen k by omega] at k9
  rw [show (aO k i :: st).map (aDen w) = Value.ref H.size :: st.map (aDen w) by rw [← aAd_new hR hi hpl]; rfl] at k9
  exact k9
theorem aAastore {k i t j k2 i2 c : Nat} {x : Int} (hd : decode M.2.1 pc = .ok (.aastore, 1)) (hk : kArr k t = true) (ht : 3 ≤ t ∧ t ≤ 5) (hc : c < 11) (hC9 : aRt t = .object (aNm c)) (hk2 : kObj k2 c = true) (hl : aLv n k i) (hl2 : aLv n k2 i2) (hx : x = (j : Int)) (hj : j < kLen k) (hp : pc + 1 = pc') (kk : aRun w M pc' L st n0 n I (uR R k i j (some (k2, i2))) Q) : aRun w M pc L (aO k2 i2 :: aI x :: aO k i :: st) n0 n I R Q := by
  subst hp
  intro p e s m args below meth c9 H locs ls C hR hlo hls hoL hos hn hsz
  obtain ⟨hx9, hb9, hr, hml, hown, hts, hlk, hin, hK, -⟩ := id C
  obtain ⟨i1, i3⟩ := aIx hx hj (aOkS_hd (aOkS_tl hos))
  have hcell := aAtA hR hl hk
  have e1 : vp_cell (aw_C w t) (kLen k, aAr w I R t k i) = arrV (aw_C w t) (kLen k) (fun j => va_rf ((R k i j).map (aAd w))) := by
    obtain ⟨t1, t2⟩ := ht
    match t, t1, t2 with
    | 3, _, _ => rfl
    | 4, _, _ => rfl
    | 5, _, _ => rfl
  have e9 : ∃ kA comp, s.vm.classes[aw_C w t]? = some kA ∧ kA.kind = .array comp (.object (aNm c)) ∧ s.vm.findClass (aNm c) = some comp := by
    obtain ⟨t1, t2⟩ := ht
    have fin : ∀ t, 3 ≤ t → t ≤ 5 → aRt t = .object (aNm c) → (aTys w)[t]? = some (aw_C w t, .object (aNm c)) := by
      intro t t1 t2 hC9
      match t, t1, t2, hC9 with
      | 3, _, _, hC9 => rw [← hC9]; rfl
      | 4, _, _, hC9 => rw [← hC9]; rfl
      | 5, _, _, hC9 => rw [← hC9]; rfl
    obtain ⟨kA, comp, g1, g2, g3, g4⟩ := (hK.1.2 t _ (fin t t1 t2 hC9)).2
    exact ⟨kA, comp, g1, g2, g3⟩
  obtain ⟨kA, comp, g1, g2, g3⟩ := e9
  have hcl := aCl c hc
  obtain ⟨-, hfc, kC, hkC, hkind⟩ := hK.1.1 c _ hcl
  have ecomp : comp = (aw_D w).1 c := Option.some.inj (g3.symm.trans hfc)
  subst ecomp
  have hcell2 := hR.2.1 k2 i2 hl2
  rw [show aCell w I R k2 i2 = .inr (c, aFs w I R c k2 i2) by rw [aCell, if_pos (kObj_of hk2).1, (kObj_of hk2).2]] at hcell2
  obtain ⟨r, g5, cell, q1, q2, q3, q4⟩ := hcell2
  rw [e1] at hcell
  refine W.aast (v := aAd w (k2, i2)) (cv := cell) (k := kA) (kv := kC) (kcomp := kC) (t := .object (aNm c)) (comp := (aw_D w).1 c) hx9 hb9 hcell (fun q h => by cases h) (fun h => by cases h) g1 g2 rfl hkC ⟨fun h => i1 (Or.inl h), by rw [show (arrV _ _ _).slots.size = kLen k from arrV_size _ _ _]; rw [i3]; exact hj⟩ q1 (fun q h => by rw [q3] at h; cases h) (by rw [q2]; exact hkC) (by rw [q2]; exact va_assign ⟨hfc, kC, hkC, hkind⟩) rfl rfl hd fun H1 f1 f2 f3 => ?_
  rw [i3] at f1 ⊢
  refine kk p e s m args below meth c9 H1 _ ls C (aRep_put (I' := I) hR hl f2 f3 ?_ (fun _ _ _ _ => rfl) (fun _ _ h => uR_ne h) hR.2.2.1) (fun q hq => ?_) hls hoL (aOkS_tl (aOkS_tl (aOkS_tl hos))) hn hsz
  · rw [show aCell w I (uR R k i j (some (k2, i2))) k i = .inl (aw_C w t, kLen k, aAr w I (uR R k i j (some (k2, i2))) t k i) by rw [aCell, if_neg (by rw [(kArr_of hk).1]; omega), (kArr_of hk).2]]
    show H1[_]? = some (vp_cell _ _)
    rw [f1]
    have e2 : vp_cell (aw_C w t) (kLen k, aAr w I (uR R k i j (some (k2, i2))) t k i) = arrV (aw_C w t) (kLen k) (fun q => va_rf ((uR R k i j (some (k2, i2)) k i q).map (aAd w))) := by
      obtain ⟨t1, t2⟩ := ht
      match t, t1, t2 with
      | 3, _, _ => rfl
      | 4, _, _ => rfl
      | 5, _, _ => rfl
    rw [e2, arrV_store]
    congr 2
    funext q
    by_cases h : q = j
    · subst h; simp [uR, updV, va_rf]
    · simp [uR, updV, h]
  · rcases List.mem_append.mp hq with h | h
    · exact hlo q h
    · rw [List.mem_singleton.mp h, aAd_at hl]
      exact Nat.le_add_right _ _
/-- a call of <init> -/
def aIk (own : String) (idx : Nat) (M2 : aM) : Prop := (Cond.methodLink own idx M2.1 ∈ aTb ∧ Cond.instanceMethod M2.1 ∈ aTb ∧ Cond.initialized M2.1.cls ∈ aTb ∧ Cond.code M2.1 M2.2.1 M2.2.2.1 none ∈ aTb) ∧ M2.1.cls ≠ "java/lang/invoke/MethodHandle" ∧ M2.1.cls ≠ "java/lang/invoke/VarHandle"
def aNk (own : String) (idx : Nat) (host : String) (M2 : aM) : Prop := (Cond.methodLinkNest own idx M2.1 host ∈ lw_tbl ∧ Cond.instanceMethod M2.1 ∈ aTb ∧ Cond.initialized M2.1.cls ∈ aTb ∧ Cond.code M2.1 M2.2.1 M2.2.2.1 none ∈ aTb) ∧ M2.1.cls ≠ "java/lang/invoke/MethodHandle" ∧ M2.1.cls ≠ "java/lang/invoke/VarHandle"
theorem aCallI {M2 : aM} {As rest : List aV} {k i idx : Nat} (hd : decode M.2.1 pc = .ok (.invokespecial idx, 3)) (hf : aIk M.1.cls idx M2) (hM2 : M2.1.name = "<init>" ∧ M2.2.2.2.1 = none) (hrm : aRm M M2) (hnp : (parseMethodDescriptor M2.1.desc).map (fun d => d.parameters.length) = some As.length) (h8 : (rest.map aCat).sum ≤ 8) (hc : n + M2.2.2.2.2.cells ≤ n0 + M.2.2.2.2.cells) (hs : aSz n + M2.2.2.2.2.slots ≤ aSz n0 + M.2.2.2.2.slots) (hp : pc + 3 = pc')
    (kk : aMet w M2 (aO k i :: As) n I R (fun r n' I' R' => aRun w M pc' L (r.toList ++ rest) n0 n' I' R' Q)) : aRun w M pc L (As.reverse ++ aO k i :: rest) n0 n I R Q := by
  subst hp
  intro p e s m args below meth c9 H locs ls C hR hlo hls hoL hos hn hsz
  have hor : aOkS rest := fun u hu => hos u (List.mem_append_right _ (List.mem_cons_of_mem _ hu))
  have hoA : aOkS (aO k i :: As) := aOkS_cons trivial (fun u hu => hos u (List.mem_append_left _ (List.mem_reverse.mpr hu)))
  obtain ⟨hx, hb, hr, hml, hown, hts, hlk, hin, hK, -⟩ := id C
  obtain ⟨⟨f1, f2, f4, f5⟩, f6, f7⟩ := hf
  refine aRun_after (M2 := M2) (av := (Value.ref (aAd w (k, i)) :: As.map (aDen w)).toArray) C hlo hls hoL hor hn hsz ?_
  refine va_runI (As := As.map (aDen w)) (b := aAd w (k, i)) (n := As.length) (ws := aWs M2) (Ts := aTb) ⟨hx, hb, hml, hown, hts⟩ kk ⟨callB_of (ws' := aTb) (ret := none) As.length hts (aWs_good (by rw [hM2.2]; exact f5)) (by unfold aWs; rw [hM2.2]) rfl rfl (hts _ f4) (hts _ f1) ⟨f6, f7, hnp⟩ hrm, hM2.1, hts _ f2⟩ ⟨aPc_blind, fun U hU hW => ⟨rfl, hoA, by rw [hU]; exact hR, aKn_warm hW hK⟩⟩ rfl (by rw [List.length_map]) hls.1 (by show (As.reverse ++ aO k i :: rest).map (aDen w) = _; rw [List.map_append, List.map_reverse]; rfl) ?_ hd ⟨by omega, by omega⟩
  show 2 * 0 + _ ≤ 8
  rw [List.map_map, show ((fun v => Value.category v) ∘ aDen w) = aCat from funext (aDen_cat w)]
  omega
theorem aCallN {M2 : aM} {As rest : List aV} {k i idx : Nat} {host : String} (hd : decode M.2.1 pc = .ok (.invokespecial idx, 3)) (hf : aNk M.1.cls idx host M2) (hM2 : M2.1.name = "<init>" ∧ M2.2.2.2.1 = none) (hrm : aRm M M2) (hnp : (parseMethodDescriptor M2.1.desc).map (fun d => d.parameters.length) = some As.length) (h8 : (rest.map aCat).sum ≤ 8) (hc : n + M2.2.2.2.2.cells ≤ n0 + M.2.2.2.2.cells) (hs : aSz n + M2.2.2.2.2.slots ≤ aSz n0 + M.2.2.2.2.slots) (hp : pc + 3 = pc')
    (kk : aMet w M2 (aO k i :: As) n I R (fun r n' I' R' => aRun w M pc' L (r.toList ++ rest) n0 n' I' R' Q)) : aRun w M pc L (As.reverse ++ aO k i :: rest) n0 n I R Q := by
  subst hp
  intro p e s m args below meth c9 H locs ls C hR hlo hls hoL hos hn hsz
  have hor : aOkS rest := fun u hu => hos u (List.mem_append_right _ (List.mem_cons_of_mem _ hu))
  have hoA : aOkS (aO k i :: As) := aOkS_cons trivial (fun u hu => hos u (List.mem_append_left _ (List.mem_reverse.mpr hu)))
  obtain ⟨hx, hb, hr, hml, hown, hts, hlk, hin, hK, -⟩ := id C
  obtain ⟨⟨f1, f2, f4, f5⟩, f6, f7⟩ := hf
  refine aRun_after (M2 := M2) (av := (Value.ref (aAd w (k, i)) :: As.map (aDen w)).toArray) C hlo hls hoL hor hn hsz ?_
  refine va_runIN (host := host) (As := As.map (aDen w)) (b := aAd w (k, i)) (n := As.length) (ws := aWs M2) (Ts := aTb) ⟨hx, hb, hml, hown, hts⟩ kk ⟨va_cnB (ws' := aTb) (ret := none) As.length hts (aWs_good (by rw [hM2.2]; exact f5)) (by unfold aWs; rw [hM2.2]) rfl rfl (hK.2.1 _ _ _ _ f1) (hts _ f4) ⟨f6, f7, hnp⟩ hrm, hM2.1, hts _ f2⟩ ⟨aPc_blind, fun U hU hW => ⟨rfl, hoA, by rw [hU]; exact hR, aKn_warm hW hK⟩⟩ rfl (by rw [List.length_map]) hls.1 (by show (As.reverse ++ aO k i :: rest).map (aDen w) = _; rw [List.map_append, List.map_reverse]; rfl) ?_ hd ⟨by omega, by omega⟩
  show 2 * 0 + _ ≤ 8
  rw [List.map_map, show ((fun v => Value.category v) ∘ aDen w) = aCat from funext (aDen_cat w)]
  omega
/-- the script -/
theorem aSld {j : Nat} {x : Int} (hd : decode M.2.1 pc = .ok (.iaload, 1)) (hx : x = (j : Int)) (hj : j < aw_L w) (hp : pc + 1 = pc') (kk : aRun w M pc' L (aI (aw_xs w j) :: st) n0 n I R Q) : aRun w M pc L (aI x :: aO 0 0 :: st) n0 n I R Q := by
  subst hp
  intro p e s m args below meth c9 H locs ls C hR hlo hls hoL hos hn hsz
  obtain ⟨i1, i2⟩ := aIx hx hj (aOkS_hd hos)
  obtain ⟨-, -, -, -, h5, h6, h7, h8, h9, h10⟩ := C.2.2.2.2.2.2.2.2.1
  refine W.iald (v := .int (Int32.ofInt (aw_xs w j))) C.1 C.2.1 hR.2.2.2.1 h5 h6 (by rw [h7]; exact i1) (by rw [i2]; exact h9 j hj) rfl rfl hd ?_
  exact kk p e s m args below meth c9 H locs ls C hR hlo hls hoL (aOkS_cons (h10 j) (aOkS_tl (aOkS_tl hos))) hn hsz
theorem aSlen (hd : decode M.2.1 pc = .ok (.arraylength, 1)) (hp : pc + 1 = pc') (kk : aRun w M pc' L (aI (aw_L w : Int) :: st) n0 n I R Q) : aRun w M pc L (aO 0 0 :: st) n0 n I R Q := by
  subst hp
  intro p e s m args below meth c9 H locs ls C hR hlo hls hoL hos hn hsz
  obtain ⟨-, -, -, -, h5, h6, h7, h8, h9, h10⟩ := C.2.2.2.2.2.2.2.2.1
  have h32 : i32 (aw_L w : Int) := by unfold i32; omega
  refine W.alen (n := Int32.ofInt (aw_L w : Int)) C.1 C.2.1 hR.2.2.2.1 h5 (by rw [h7]; rfl) rfl rfl hd ?_
  exact kk p e s m args below meth c9 H locs ls C hR hlo hls hoL (aOkS_cons h32 (aOkS_tl hos)) hn hsz
end AMN
end
section
/-! arraycopy between rows of longs; new int[7][65] -/
def uC (I : aIF) (k i k2 i2 sp dp m : Nat) : aIF := fun a b c => if a = k2 ∧ b = i2 then (if dp ≤ c ∧ c < dp + m then I k i (sp + (c - dp)) else I a b c) else I a b c
section AMC
variable {w : aW} {M : aM} {pc pc' : Nat} {L : List (Option aV)} {st : List aV} {n0 n : Nat} {I : aIF} {R : aRF} {Q : aQ}
theorem aCopyL {k i k2 i2 idx sp dp m9 : Nat} {x y z : Int} (hd : decode M.2.1 pc = .ok (.invokestatic idx, 3)) (h1 : Cond.methodLink M.1.cls idx arraycopyName ∈ aTb) (h2 : Cond.native arraycopyName ∈ aTb) (h3 : Cond.static arraycopyName ∈ aTb) (h4 : Cond.initialized "java/lang/System" ∈ aTb)
    (hk : kArr k 1 = true) (hk2 : kArr k2 1 = true) (hl : aLv n k i) (hl2 : aLv n k2 i2) (hx : x = (sp : Int)) (hy : y = (dp : Int)) (hz : z = (m9 : Int)) (b1 : sp + m9 ≤ kLen k) (b2 : dp + m9 ≤ kLen k2) (hfr : 1 ≤ M.2.2.2.2.frames) (h8 : (st.map aCat).sum + (nativeFrameWords "java/lang/System" "arraycopy" 5 + 11) ≤ M.2.2.2.2.locals) (hp : pc + 3 = pc') (kk : aRun w M pc' L st n0 n (uC I k i k2 i2 sp dp m9) R Q) : aRun w M pc L (aI z :: aI y :: aO k2 i2 :: aI x :: aO k i :: st) n0 n I R Q := by
  subst hp
  intro p e s m args below meth c9 H locs ls C hR hlo hls hoL hos hn hsz
  obtain ⟨hx9, hb9, hr, hml, hown, hts, hlk, hin, hK, -⟩ := id C
  have oz : i32 z := aOkS_hd hos
  have oy : i32 y := aOkS_hd (aOkS_tl hos)
  have ox : i32 x := aOkS_hd (aOkS_tl (aOkS_tl (aOkS_tl hos)))
  have nz : (Int32.ofInt z).toNatClampNeg = m9 := by rw [of32_tn oz, hz]; rfl
  have ny : (Int32.ofInt y).toNatClampNeg = dp := by rw [of32_tn oy, hy]; rfl
  have nx : (Int32.ofInt x).toNatClampNeg = sp := by rw [of32_tn ox, hx]; rfl
  have pos : ∀ q : Int, i32 q → 0 ≤ q → ¬ Int32.ofInt q < 0 := fun q hq h0 => by
    rw [show (0 : Int32) = Int32.ofInt 0 from rfl, of32_lt hq i32_0]
    omega
  have hc0 : H[aAd w (k, i)]? = some (vp_cell (aw_C w 1) (kLen k, .inr (.inl (fun j => Int64.ofInt (I k i j))))) := aAtA hR hl hk
  have hc1 : H[aAd w (k2, i2)]? = some (vp_cell (aw_C w 1) (kLen k2, .inr (.inl (fun j => Int64.ofInt (I k2 i2 j))))) := aAtA hR hl2 hk2
  intro T hT X
  obtain ⟨-, k0, hk0, cm0, hkk0⟩ := (hK.1.2 1 _ rfl).1 (kLen k) (fun j => .long (Int64.ofInt (I k i j)))
  obtain ⟨vm', X', step⟩ := X.arraycopy hx9 hown (hts _ h1) (hts _ h2) (hts _ h3) (hts _ h4) (src := aAd w (k, i)) (dst := aAd w (k2, i2)) (cs := vp_cell (aw_C w 1) (kLen k, .inr (.inl (fun j => Int64.ofInt (I k i j))))) (cd := vp_cell (aw_C w 1) (kLen k2, .inr (.inl (fun j => Int64.ofInt (I k2 i2 j))))) (srcPos := Int32.ofInt x) (destPos := Int32.ofInt y) (n := Int32.ofInt z) (by rw [hT]; exact hc0) (by rw [hT]; exact hc1)
    (fun _ h => by cases h) (fun _ h => by cases h) (fun h => by cases h) (fun h => by cases h) hk0 hk0 hkk0 hkk0 (by simp [refKind]) (pos x ox (by omega)) (pos y oy (by omega)) (pos z oz (by omega))
    (by rw [i32_ti ox, i32_ti oz]; show ¬ _ > ((arrV (aw_C w 1) (kLen k) (fun j => .long (Int64.ofInt (I k i j)))).slots.size : Int); rw [arrV_size]; omega)
    (by rw [i32_ti oy, i32_ti oz]; show ¬ _ > ((arrV (aw_C w 1) (kLen k2) (fun j => .long (Int64.ofInt (I k2 i2 j)))).slots.size : Int); rw [arrV_size]; omega)
    (fun vm₁ _ q hq => by
      have e : (vp_cell (aw_C w 1) (kLen k, .inr (.inl (fun j => Int64.ofInt (I k i j))))).slots.getD ((Int32.ofInt x).toNatClampNeg + q) .null = .long (Int64.ofInt (I k i ((Int32.ofInt x).toNatClampNeg + q))) := by
        show (arrV (aw_C w 1) (kLen k) (fun j => .long (Int64.ofInt (I k i j)))).slots.getD _ _ = _
        rw [Array.getD_eq_getD_getElem?, arrV_read _ _ (by rw [nx]; rw [nz] at hq; omega)]
        rfl
      refine ⟨?_, ?_⟩
      · rw [e]
        rfl
      · rw [e]
        exact trivial)
    (g := F0 m pc ls (.int (Int32.ofInt z) :: .int (Int32.ofInt y) :: .ref (aAd w (k2, i2)) :: .int (Int32.ofInt x) :: .ref (aAd w (k, i)) :: st.map (aDen w))) rfl (by rw [hml]; exact hls.1) (rest := st.map (aDen w)) rfl (by rw [hb9]; exact hd) hfr (by show 2 * 0 + _ + _ ≤ _; rw [List.map_map, show ((fun v => Value.category v) ∘ aDen w) = aCat from funext (aDen_cat w)]; omega)
  have e1 : copied (vp_cell (aw_C w 1) (kLen k, .inr (.inl (fun j => Int64.ofInt (I k i j))))) (vp_cell (aw_C w 1) (kLen k2, .inr (.inl (fun j => Int64.ofInt (I k2 i2 j))))) (Int32.ofInt x) (Int32.ofInt y) (Int32.ofInt z) = vp_cell (aw_C w 1) (kLen k2, .inr (.inl (va_cpy (fun j => Int64.ofInt (I k i j)) (fun j => Int64.ofInt (I k2 i2 j)) (Int32.ofInt x).toNatClampNeg (Int32.ofInt y).toNatClampNeg (Int32.ofInt z).toNatClampNeg))) := va_copied (n0 := kLen k) (n1 := kLen k2) (sp := (Int32.ofInt x).toNatClampNeg) (dp := (Int32.ofInt y).toNatClampNeg) (n := (Int32.ofInt z).toNatClampNeg) (fun z => .long z) (aw_C w 1) (aw_C w 1) (fun j => Int64.ofInt (I k i j)) (fun j => Int64.ofInt (I k2 i2 j)) (by rw [nx, nz]; exact b1)
  rw [e1] at X' step
  have hl9 : aAd w (k2, i2) < H.size := (Array.getElem?_eq_some_iff.mp hc1).1
  rw [nx, ny, nz] at X' step
  have hcell : aCell w (uC I k i k2 i2 sp dp m9) R k2 i2 = .inl (aw_C w 1, kLen k2, .inr (.inl (va_cpy (fun j => Int64.ofInt (I k i j)) (fun j => Int64.ofInt (I k2 i2 j)) sp dp m9))) := by
    rw [aCell, if_neg (by rw [(kArr_of hk2).1]; omega), (kArr_of hk2).2]
    have : (fun j => Int64.ofInt (uC I k i k2 i2 sp dp m9 k2 i2 j)) = va_cpy (fun j => Int64.ofInt (I k i j)) (fun j => Int64.ofInt (I k2 i2 j)) sp dp m9 := by
      funext q
      simp only [uC, va_cpy, and_self, if_true]
      split <;> rfl
    show Sum.inl (aw_C w 1, kLen k2, Sum.inr (Sum.inl (fun j => Int64.ofInt (uC I k i k2 i2 sp dp m9 k2 i2 j)))) = _
    rw [this]
  have hok : aOkI (uC I k i k2 i2 sp dp m9) := fun a b c => by
    simp only [uC]
    by_cases e : a = k2 ∧ b = i2
    · rw [if_pos e]
      obtain ⟨rfl, rfl⟩ := e
      rw [if_pos (kArr_of hk2)]
      split
      · exact aOk_lng hR.2.2.1 hk
      · exact aOk_lng hR.2.2.1 hk2
    · rw [if_neg e]
      exact hR.2.2.1 a b c
  have hR1 : aRep w n (uC I k i k2 i2 sp dp m9) R ((T.setVm vm').setCell (aAd w (k2, i2)) (vp_cell (aw_C w 1) (kLen k2, .inr (.inl (va_cpy (fun j => Int64.ofInt (I k i j)) (fun j => Int64.ofInt (I k2 i2 j)) sp dp m9))))).heap := by
    have hheap : ((T.setVm vm').setCell (aAd w (k2, i2)) (vp_cell (aw_C w 1) (kLen k2, .inr (.inl (va_cpy (fun j => Int64.ofInt (I k i j)) (fun j => Int64.ofInt (I k2 i2 j)) sp dp m9))))).heap = H.setIfInBounds (aAd w (k2, i2)) (vp_cell (aw_C w 1) (kLen k2, .inr (.inl (va_cpy (fun j => Int64.ofInt (I k i j)) (fun j => Int64.ofInt (I k2 i2 j)) sp dp m9)))) := by rw [← hT]; rfl
    rw [hheap]
    refine aRep_put hR hl2 (by simp) (fun q hq => by simp [Array.getElem?_setIfInBounds, Ne.symm hq]) ?_ (fun a b h j => by simp only [uC]; rw [if_neg h]) (fun _ _ _ _ => rfl) hok
    rw [hcell]
    show (H.setIfInBounds _ _)[_]? = some _
    simp [Array.getElem?_setIfInBounds, hl9]
  obtain ⟨t, a1, b9⟩ := kk p e s m args below meth c9 _ _ ls C hR1 (fun q hq => by
    rcases List.mem_append.mp hq with h | h
    · exact hlo q h
    · obtain ⟨z, -, hz⟩ := List.mem_map.mp h
      rw [← hz, aAd_at hl2]
      exact Nat.le_add_right _ _) hls hoL (aOkS_tl (aOkS_tl (aOkS_tl (aOkS_tl (aOkS_tl hos))))) hn hsz _ rfl X'
  exact ⟨t, step t a1, b9⟩
end AMC
/-- the rows of the dealer's table -/
def uG (R : aRF) : aRF := fun a b c => if a = 19 ∧ b = 0 ∧ c < 7 then some (20, c) else R a b c
theorem aOut (c : ClassId) (N h0 : Nat) : ∀ i : Nat, Jvm.Free.Multi.outerC c N h0 i = arrV c N (fun j => va_rf (if j < i then some (h0 + 1 + j) else none))
  | 0 => by
    show ({ cls := c, slots := Array.replicate N .null, vm := .none } : Cell) = _
    rw [arrV_new]
    refine congrArg (arrV c N) (funext fun j => ?_)
    simp [va_rf]
  | i + 1 => by
    show (Jvm.Free.Multi.outerC c N h0 i).setSlot i (.ref (h0 + 1 + i)) = _
    rw [aOut c N h0 i, arrV_store]
    refine congrArg (arrV c N) (funext fun j => ?_)
    by_cases e : j = i
    · subst e
      simp [updV, va_rf]
    · by_cases h : j < i
      · simp [updV, e, h, Nat.lt_succ_of_lt h]
      · simp [updV, e, h, show ¬ j < i + 1 by omega]
theorem aPos7 : ∀ j, j < 7 → aPos[40 + j]? = some (20, j) := by decide +kernel
theorem aPl7 : ∀ j, j < 7 → aPl 20 j = 40 + j ∧ j < kCnt 20 := by decide +kernel
theorem aMna {w : aW} {M : aM} {pc pc' : Nat} {L : List (Option aV)} {st : List aV} {n0 : Nat} {I : aIF} {R : aRF} {Q : aQ} {idx : Nat} (hd : decode M.2.1 pc = .ok (.multianewarray idx 2, 4)) (hcl : Cond.classLink M.1.cls idx "[[I" ∈ aTb) (har : Cond.arrayClass .int ∈ aTb) (hI : ∀ i j, I 20 i j = 0) (hR0 : ∀ j, R 19 0 j = none) (hc1 : 39 + 8 ≤ n0 + M.2.2.2.2.cells) (hs2 : aSz 39 + 462 ≤ aSz n0 + M.2.2.2.2.slots) (hp : pc + 4 = pc') (kk : aRun w M pc' L (aO 19 0 :: st) n0 47 I (uG R) Q) : aRun w M pc L (aI 65 :: aI 7 :: st) n0 39 I R Q := by
  subst hp
  intro p e s m args below meth c9 H locs ls C hR hlo hls hoL hos hn hsz
  obtain ⟨hx9, hb9, hr, hml, hown, hts, hlk, hin, hK, -⟩ := id C
  have hs1 : aSz 47 = aSz 39 + 462 := by decide +kernel
  have n7 : (Int32.ofInt 7).toNatClampNeg = 7 := by decide +kernel
  have n65 : (Int32.ofInt 65).toNatClampNeg = 65 := by decide +kernel
  have p7 : ¬ Int32.ofInt 7 < 0 := by decide +kernel
  have p65 : ¬ Int32.ofInt 65 < 0 := by decide +kernel
  intro T hT X
  have hov : (Cond.arrayOver (.array .int)).before args s = true := hK.2.2.2.1
  obtain ⟨vm₁, cA, comp, -, fA, fC, hO, -, X', step⟩ := X.multianewarray2F hx9 hown (ty := .int) (index := idx) (hts _ hcl) hov (hts _ har) (g := F0 m pc ls (.int (Int32.ofInt 65) :: .int (Int32.ofInt 7) :: st.map (aDen w))) rfl (by rw [hb9]; exact hd) rfl p7 p65 (by rw [n7]; omega) (by rw [n65]; decide) (by rw [n65]; omega) rfl rfl (by rw [n7]; omega) (by rw [n7, n65]; omega)
  rw [n7, n65] at X' step
  have eA : cA = aw_C w 6 := Option.some.inj (fA.symm.trans (hK.1.2 6 _ rfl).2)
  have eC : comp = aw_C w 0 := Option.some.inj (fC.symm.trans (hK.1.2 0 _ rfl).2)
  subst eA
  subst eC
  generalize hF : Jvm.Free.Multi.fill (T.setVm vm₁) (aw_C w 6) (aw_C w 0) 7 65 (defaultValue .int) 7 = F at X' step
  have hTh : (T.setVm vm₁).heap = H := hT
  obtain ⟨f1, f2, -, -⟩ := Jvm.Free.Multi.fill_facts (T.setVm vm₁) (aw_C w 6) (aw_C w 0) 7 65 (defaultValue .int) 7
  rw [hF, hTh] at f1 f2
  have hold : ∀ x : Nat, x < H.size → F.heap[x]? = H[x]? := fun x hx => by
    have := Jvm.Free.Multi.fill_old (T.setVm vm₁) (aw_C w 6) (aw_C w 0) 7 65 (defaultValue .int) (a := x) (by rw [hTh]; exact hx) 7
    rw [hF, hTh] at this
    exact this
  have hrow : ∀ j : Nat, j < 7 → F.heap[H.size + 1 + j]? = some (arrV (aw_C w 0) 65 (fun _ => .int 0)) := fun j hj => by
    have := Jvm.Free.Multi.fill_inner (T.setVm vm₁) (aw_C w 6) (aw_C w 0) 7 65 (defaultValue .int) 7 j hj
    rw [hF, hTh] at this
    rw [this]
    show some ({ cls := _, slots := Array.replicate 65 (defaultValue .int), vm := .none } : Cell) = _
    rw [arrV_new]
    rfl
  rw [aOut] at f2
  obtain ⟨a1, a2, a3, a4, a5⟩ := id hR
  have hR1 : aRep w 47 I (uG R) F.heap := by
    refine ⟨by rw [f1, a1], fun k2 i2 hl2 => ?_, a3, by rw [hold _ (by omega)]; exact a4, a5⟩
    have hp2 := hl2.2
    have hq := aPos_at hl2.1
    have had : aAd w (k2, i2) = aw_B w + aPl k2 i2 := aAd_at hl2
    by_cases h39 : aPl k2 i2 < 39
    · have hl : aLv 39 k2 i2 := ⟨hl2.1, h39⟩
      have hne : ∀ j, uG R k2 i2 j = R k2 i2 j := fun j => by
        unfold uG
        rw [if_neg]
        rintro ⟨rfl, rfl, -⟩
        exact absurd h39 (by decide)
      rw [aCell_congr (fun _ => rfl) hne]
      refine (a2 k2 i2 hl).kept (hold _ ?_)
      show aAd w (k2, i2) < H.size
      omega
    · by_cases e39 : aPl k2 i2 = 39
      · rw [e39] at hq
        cases hq
        rw [show aCell w I (uG R) 19 0 = .inl (aw_C w 6, 7, .inr (.inr (.inr (.inr (fun j => (uG R 19 0 j).map (aAd w)))))) from rfl]
        show F.heap[aAd w (19, 0)]? = some (arrV (aw_C w 6) 7 (fun j => va_rf ((uG R 19 0 j).map (aAd w))))
        rw [had, e39, ← a1, f2]
        congr 2
        funext j
        by_cases hj : j < 7
        · simp only [uG, hj, and_self, if_true, Option.map_some]
          congr 2
          have hz : aPl 20 j = 40 + j := (aPl7 j hj).1
          rw [show aAd w (20, j) = aw_B w + aPl 20 j from if_neg (show ¬ (20 = 0) by decide), hz, a1]
          omega
        · simp only [uG, hj, and_false, if_false, hR0]
          rfl
      · obtain ⟨j, hj, ej⟩ : ∃ j, j < 7 ∧ aPl k2 i2 = 40 + j := ⟨aPl k2 i2 - 40, by omega, by omega⟩
        rw [ej, aPos7 j hj] at hq
        have hq2 := Option.some.inj hq
        have q1 : k2 = 20 := (congrArg Prod.fst hq2).symm
        have q2 : i2 = j := (congrArg Prod.snd hq2).symm
        subst q1
        subst q2
        rw [show aCell w I (uG R) 20 i2 = .inl (aw_C w 0, 65, .inl (fun q => Int32.ofInt (I 20 i2 q))) from rfl]
        show F.heap[aAd w (20, i2)]? = some (arrV (aw_C w 0) 65 (fun q => .int (Int32.ofInt (I 20 i2 q))))
        rw [had, ej, show aw_B w + (40 + i2) = H.size + 1 + i2 by omega, hrow i2 hj]
        simp only [hI]
        rfl
  obtain ⟨t, b1, b2⟩ := kk p e s m args below meth c9 F.heap locs ls C hR1 hlo hls hoL (aOkS_cons trivial (aOkS_tl (aOkS_tl hos))) (by omega) (by omega) F rfl (by
    rw [show 47 - n0 = 39 - n0 + 1 + 7 by omega, show aSz 47 - aSz n0 = aSz 39 - aSz n0 + 7 + 7 * 65 by omega]
    exact X')
  refine ⟨t, step t ?_, b2⟩
  have e9 : (aO 19 0 :: st).map (aDen w) = Value.ref T.heap.size :: st.map (aDen w) := by
    show Value.ref (aAd w (19, 0)) :: _ = _
    rw [show aAd w (19, 0) = aw_B w + 39 from rfl, hT, a1]
  rw [e9] at b1
  exact b1
end
section
/-! methods, links: written by program out of the tables -/
theorem aTb_priv {x : Cond} (i : Nat) (h : (k2_sels lw_privs)[i]? = some x) (hg : goodWord x = true) : x ∈ aTb := aTb_in (List.mem_append_left _ (List.mem_of_getElem? h)) hg
abbrev mJ9_max_7cf53 : aM := (yJ9_max_7cf53, cJ9_max_7cf53, 2, (some .int), { frames := 0, cells := 0, slots := 0, locals := 0 })
abbrev mJ9_min_7cf53 : aM := (yJ9_min_7cf53, cJ9_min_7cf53, 2, (some .int), { frames := 0, cells := 0, slots := 0, locals := 0 })
abbrev mJ9_min_f86c9 : aM := (yJ9_min_f86c9, cJ9_min_f86c9, 4, (some .long), { frames := 0, cells := 0, slots := 0, locals := 0 })
abbrev mX0_atBest : aM := (yX0_atBest, cX0_atBest, 7, (some .int), { frames := 6, cells := 0, slots := 0, locals := 139 })
abbrev mX0_bySavings : aM := (yX0_bySavings, cX0_bySavings, 6, (some .int), { frames := 6, cells := 0, slots := 0, locals := 139 })
abbrev mX0_firstBestShare : aM := (yX0_firstBestShare, cX0_firstBestShare, 8, (some .int), { frames := 1, cells := 0, slots := 0, locals := 25 })
abbrev mX0_init : aM := (yX0_init, cX0_init, 2, none, { frames := 3, cells := 16, slots := 739, locals := 60 })
abbrev mX0_learnTimes : aM := (yX0_learnTimes, cX0_learnTimes, 4, none, { frames := 4, cells := 0, slots := 0, locals := 94 })
abbrev mX0_needInSteps : aM := (yX0_needInSteps, cX0_needInSteps, 3, (some .int), { frames := 5, cells := 0, slots := 0, locals := 117 })
abbrev mX0_sumOfTimes : aM := (yX0_sumOfTimes, cX0_sumOfTimes, 5, (some .int), { frames := 0, cells := 0, slots := 0, locals := 0 })
abbrev mX0_sumWith : aM := (yX0_sumWith, cX0_sumWith, 6, (some .int), { frames := 0, cells := 0, slots := 0, locals := 0 })
abbrev mX0_takeFirstBest : aM := (yX0_takeFirstBest, cX0_takeFirstBest, 7, none, { frames := 2, cells := 0, slots := 0, locals := 52 })
abbrev mX0_timeByRoom : aM := (yX0_timeByRoom, cX0_timeByRoom, 3, (some .int), { frames := 4, cells := 0, slots := 0, locals := 94 })
abbrev mX0_whoSavesMost : aM := (yX0_whoSavesMost, cX0_whoSavesMost, 8, (some .int), { frames := 1, cells := 0, slots := 0, locals := 20 })
abbrev mX10_acts : aM := (yX10_acts, cX10_acts, 3, none, { frames := 4, cells := 0, slots := 0, locals := 97 })
abbrev mX10_alone : aM := (yX10_alone, cX10_alone, 11, (some .int), { frames := 1, cells := 0, slots := 0, locals := 22 })
abbrev mX10_areNeeds : aM := (yX10_areNeeds, cX10_areNeeds, 3, (some .boolean), { frames := 3, cells := 0, slots := 0, locals := 74 })
abbrev mX10_asks : aM := (yX10_asks, cX10_asks, 9, (some .boolean), { frames := 3, cells := 0, slots := 0, locals := 69 })
abbrev mX10_begin : aM := (yX10_begin, cX10_begin, 3, (some .boolean), { frames := 5, cells := 0, slots := 0, locals := 122 })
abbrev mX10_best : aM := (yX10_best, cX10_best, 9, (some .int), { frames := 4, cells := 0, slots := 0, locals := 96 })
abbrev mX10_clear : aM := (yX10_clear, cX10_clear, 2, (some .int), { frames := 0, cells := 0, slots := 0, locals := 0 })
abbrev mX10_collects : aM := (yX10_collects, cX10_collects, 3, (some .int), { frames := 1, cells := 0, slots := 0, locals := 24 })
abbrev mX10_cost : aM := (yX10_cost, cX10_cost, 3, (some .int), { frames := 0, cells := 0, slots := 0, locals := 0 })
abbrev mX10_count : aM := (yX10_count, cX10_count, 4, (some .int), { frames := 0, cells := 0, slots := 0, locals := 0 })
abbrev mX10_cut : aM := (yX10_cut, cX10_cut, 3, (some .long), { frames := 0, cells := 0, slots := 0, locals := 0 })
abbrev mX10_deal : aM := (yX10_deal, cX10_deal, 1, (some .int), { frames := 5, cells := 0, slots := 0, locals := 122 })
abbrev mX10_dealt : aM := (yX10_dealt, cX10_dealt, 7, (some .int), { frames := 4, cells := 0, slots := 0, locals := 96 })
abbrev mX10_falls : aM := (yX10_falls, cX10_falls, 7, (some .int), { frames := 3, cells := 0, slots := 0, locals := 74 })
abbrev mX10_gives : aM := (yX10_gives, cX10_gives, 4, none, { frames := 2, cells := 0, slots := 0, locals := 46 })
abbrev mX10_holds : aM := (yX10_holds, cX10_holds, 2, (some .int), { frames := 0, cells := 0, slots := 0, locals := 0 })
abbrev mX10_in : aM := (yX10_in, cX10_in, 3, (some .boolean), { frames := 0, cells := 0, slots := 0, locals := 0 })
abbrev mX10_init : aM := (yX10_init, cX10_init, 1, none, { frames := 1, cells := 32, slots := 18685, locals := 20 })
abbrev mX10_isAny : aM := (yX10_isAny, cX10_isAny, 2, (some .boolean), { frames := 1, cells := 0, slots := 0, locals := 21 })
abbrev mX10_isOver : aM := (yX10_isOver, cX10_isOver, 4, none, { frames := 1, cells := 0, slots := 0, locals := 24 })
abbrev mX10_isProgram : aM := (yX10_isProgram, cX10_isProgram, 2, (some .boolean), { frames := 1, cells := 0, slots := 0, locals := 22 })
abbrev mX10_isSlot : aM := (yX10_isSlot, cX10_isSlot, 1, (some .boolean), { frames := 1, cells := 0, slots := 0, locals := 22 })
abbrev mX10_isThere : aM := (yX10_isThere, cX10_isThere, 2, (some .boolean), { frames := 0, cells := 0, slots := 0, locals := 0 })
abbrev mX10_isUp : aM := (yX10_isUp, cX10_isUp, 2, (some .boolean), { frames := 0, cells := 0, slots := 0, locals := 0 })
abbrev mX10_log : aM := (yX10_log, cX10_log, 3, (some .int), { frames := 1, cells := 0, slots := 0, locals := 22 })
abbrev mX10_makes : aM := (yX10_makes, cX10_makes, 3, none, { frames := 3, cells := 0, slots := 0, locals := 69 })
abbrev mX10_need : aM := (yX10_need, cX10_need, 2, (some .int), { frames := 3, cells := 0, slots := 0, locals := 74 })
abbrev mX10_needOf : aM := (yX10_needOf, cX10_needOf, 3, (some .int), { frames := 2, cells := 0, slots := 0, locals := 52 })
abbrev mX10_of : aM := (yX10_of, cX10_of, 3, (some .int), { frames := 1, cells := 0, slots := 0, locals := 22 })
abbrev mX10_passes : aM := (yX10_passes, cX10_passes, 3, none, { frames := 2, cells := 0, slots := 0, locals := 47 })
abbrev mX10_paste : aM := (yX10_paste, cX10_paste, 7, (some .int), { frames := 2, cells := 0, slots := 0, locals := 42 })
abbrev mX10_program : aM := (yX10_program, cX10_program, 8, (some .int), { frames := 2, cells := 0, slots := 0, locals := 42 })
abbrev mX10_redeals : aM := (yX10_redeals, cX10_redeals, 3, none, { frames := 4, cells := 0, slots := 0, locals := 99 })
abbrev mX10_row : aM := (yX10_row, cX10_row, 5, (some .int), { frames := 2, cells := 0, slots := 0, locals := 42 })
abbrev mX10_run : aM := (yX10_run, cX10_run, 3, (some .int), { frames := 6, cells := 0, slots := 0, locals := 142 })
abbrev mX10_s : aM := (yX10_s, cX10_s, 2, (some .int), { frames := 1, cells := 0, slots := 0, locals := 21 })
abbrev mX10_share : aM := (yX10_share, cX10_share, 2, (some .int), { frames := 2, cells := 0, slots := 0, locals := 43 })
abbrev mX10_spare : aM := (yX10_spare, cX10_spare, 3, (some .int), { frames := 1, cells := 0, slots := 0, locals := 21 })
abbrev mX10_stop : aM := (yX10_stop, cX10_stop, 2, (some .boolean), { frames := 0, cells := 0, slots := 0, locals := 0 })
abbrev mX10_sum : aM := (yX10_sum, cX10_sum, 3, (some .int), { frames := 2, cells := 0, slots := 0, locals := 52 })
abbrev mX10_swung : aM := (yX10_swung, cX10_swung, 11, (some .boolean), { frames := 3, cells := 0, slots := 0, locals := 69 })
abbrev mX10_tear : aM := (yX10_tear, cX10_tear, 2, (some .boolean), { frames := 2, cells := 0, slots := 0, locals := 42 })
abbrev mX10_tells : aM := (yX10_tells, cX10_tells, 5, none, { frames := 0, cells := 0, slots := 0, locals := 0 })
abbrev mX10_terms : aM := (yX10_terms, cX10_terms, 6, (some .int), { frames := 1, cells := 0, slots := 0, locals := 22 })
abbrev mX10_ticks : aM := (yX10_ticks, cX10_ticks, 2, none, { frames := 5, cells := 0, slots := 0, locals := 121 })
abbrev mX10_time : aM := (yX10_time, cX10_time, 3, (some .int), { frames := 2, cells := 0, slots := 0, locals := 52 })
abbrev mX10_up : aM := (yX10_up, cX10_up, 2, (some .int), { frames := 0, cells := 0, slots := 0, locals := 0 })
abbrev mX10_write : aM := (yX10_write, cX10_write, 5, (some .int), { frames := 2, cells := 0, slots := 0, locals := 42 })
abbrev mX1_become : aM := (yX1_become, cX1_become, 6, none, { frames := 0, cells := 0, slots := 0, locals := 0 })
abbrev mX1_costToCollect : aM := (yX1_costToCollect, cX1_costToCollect, 3, (some .int), { frames := 0, cells := 0, slots := 0, locals := 0 })
abbrev mX1_fallsEverSlower : aM := (yX1_fallsEverSlower, cX1_fallsEverSlower, 6, (some .boolean), { frames := 0, cells := 0, slots := 0, locals := 0 })
abbrev mX1_holds : aM := (yX1_holds, cX1_holds, 2, (some .int), { frames := 0, cells := 0, slots := 0, locals := 0 })
abbrev mX1_init : aM := (yX1_init, cX1_init, 1, none, { frames := 1, cells := 2, slots := 125, locals := 20 })
abbrev mX1_isMake : aM := (yX1_isMake, cX1_isMake, 1, (some .boolean), { frames := 0, cells := 0, slots := 0, locals := 0 })
abbrev mX1_roomFor : aM := (yX1_roomFor, cX1_roomFor, 2, (some .int), { frames := 0, cells := 0, slots := 0, locals := 0 })
abbrev mX2_cellsOfStep : aM := (yX2_cellsOfStep, cX2_cellsOfStep, 2, (some .int), { frames := 1, cells := 0, slots := 0, locals := 21 })
abbrev mX2_collectNow : aM := (yX2_collectNow, cX2_collectNow, 2, (some .int), { frames := 1, cells := 0, slots := 0, locals := 22 })
abbrev mX2_endRound : aM := (yX2_endRound, cX2_endRound, 1, none, { frames := 0, cells := 0, slots := 0, locals := 0 })
abbrev mX2_fits : aM := (yX2_fits, cX2_fits, 2, (some .boolean), { frames := 1, cells := 0, slots := 0, locals := 21 })
abbrev mX2_gain : aM := (yX2_gain, cX2_gain, 4, (some .long), { frames := 2, cells := 0, slots := 0, locals := 42 })
abbrev mX2_goesOn : aM := (yX2_goesOn, cX2_goesOn, 1, (some .boolean), { frames := 0, cells := 0, slots := 0, locals := 0 })
abbrev mX2_init : aM := (yX2_init, cX2_init, 2, none, { frames := 2, cells := 2, slots := 63, locals := 40 })
abbrev mX2_isAboutToMake : aM := (yX2_isAboutToMake, cX2_isAboutToMake, 1, (some .boolean), { frames := 1, cells := 0, slots := 0, locals := 20 })
abbrev mX2_isAwake : aM := (yX2_isAwake, cX2_isAwake, 1, (some .boolean), { frames := 0, cells := 0, slots := 0, locals := 0 })
abbrev mX2_keep : aM := (yX2_keep, cX2_keep, 2, (some .int), { frames := 1, cells := 0, slots := 0, locals := 21 })
abbrev mX2_leave : aM := (yX2_leave, cX2_leave, 4, (some .int), { frames := 0, cells := 0, slots := 0, locals := 0 })
abbrev mX2_loss : aM := (yX2_loss, cX2_loss, 4, (some .long), { frames := 2, cells := 0, slots := 0, locals := 42 })
abbrev mX2_makeNow : aM := (yX2_makeNow, cX2_makeNow, 2, none, { frames := 1, cells := 0, slots := 0, locals := 21 })
abbrev mX2_nextAct : aM := (yX2_nextAct, cX2_nextAct, 1, (some .int), { frames := 0, cells := 0, slots := 0, locals := 0 })
abbrev mX2_spare : aM := (yX2_spare, cX2_spare, 2, (some .int), { frames := 2, cells := 0, slots := 0, locals := 42 })
abbrev mX2_start : aM := (yX2_start, cX2_start, 3, none, { frames := 1, cells := 0, slots := 0, locals := 20 })
abbrev mX2_told : aM := (yX2_told, cX2_told, 2, (some .int), { frames := 0, cells := 0, slots := 0, locals := 0 })
abbrev mX2_waitFor : aM := (yX2_waitFor, cX2_waitFor, 3, none, { frames := 0, cells := 0, slots := 0, locals := 0 })
abbrev mX3_cut : aM := (yX3_cut, cX3_cut, 3, (some .long), { frames := 0, cells := 0, slots := 0, locals := 0 })
abbrev mX3_hasPlaces : aM := (yX3_hasPlaces, cX3_hasPlaces, 3, (some .boolean), { frames := 0, cells := 0, slots := 0, locals := 0 })
abbrev mX3_holdsActsAlone : aM := (yX3_holdsActsAlone, cX3_holdsActsAlone, 2, (some .boolean), { frames := 1, cells := 0, slots := 0, locals := 21 })
abbrev mX3_init : aM := (yX3_init, cX3_init, 1, none, { frames := 1, cells := 1, slots := 60, locals := 20 })
abbrev mX3_isAct : aM := (yX3_isAct, cX3_isAct, 2, (some .boolean), { frames := 0, cells := 0, slots := 0, locals := 0 })
abbrev mX3_isBare : aM := (yX3_isBare, cX3_isBare, 1, (some .boolean), { frames := 0, cells := 0, slots := 0, locals := 0 })
abbrev mX3_lay : aM := (yX3_lay, cX3_lay, 4, none, { frames := 0, cells := 0, slots := 0, locals := 0 })
abbrev mX3_strip : aM := (yX3_strip, cX3_strip, 1, none, { frames := 0, cells := 0, slots := 0, locals := 0 })
abbrev mX4_add : aM := (yX4_add, cX4_add, 6, none, { frames := 0, cells := 0, slots := 0, locals := 0 })
abbrev mX4_forget : aM := (yX4_forget, cX4_forget, 1, none, { frames := 0, cells := 0, slots := 0, locals := 0 })
abbrev mX4_init : aM := (yX4_init, cX4_init, 1, none, { frames := 1, cells := 4, slots := 240, locals := 20 })
abbrev mX4_kept : aM := (yX4_kept, cX4_kept, 1, (some .int), { frames := 1, cells := 0, slots := 0, locals := 21 })
abbrev mX4_told : aM := (yX4_told, cX4_told, 4, (some .int), { frames := 2, cells := 0, slots := 0, locals := 41 })
abbrev mX5_allSteps : aM := (yX5_allSteps, cX5_allSteps, 1, (some .int), { frames := 0, cells := 0, slots := 0, locals := 0 })
abbrev mX5_areSound : aM := (yX5_areSound, cX5_areSound, 3, (some .boolean), { frames := 0, cells := 0, slots := 0, locals := 0 })
abbrev mX5_dealtSteps : aM := (yX5_dealtSteps, cX5_dealtSteps, 1, (some .int), { frames := 0, cells := 0, slots := 0, locals := 0 })
abbrev mX5_init : aM := (yX5_init, cX5_init, 1, none, { frames := 1, cells := 0, slots := 0, locals := 20 })
abbrev mX5_stepsFor : aM := (yX5_stepsFor, cX5_stepsFor, 2, (some .int), { frames := 0, cells := 0, slots := 0, locals := 0 })
abbrev mX6_add : aM := (yX6_add, cX6_add, 2, none, { frames := 0, cells := 0, slots := 0, locals := 0 })
abbrev mX6_die : aM := (yX6_die, cX6_die, 3, none, { frames := 0, cells := 0, slots := 0, locals := 0 })
abbrev mX6_forget : aM := (yX6_forget, cX6_forget, 1, none, { frames := 0, cells := 0, slots := 0, locals := 0 })
abbrev mX6_init : aM := (yX6_init, cX6_init, 1, none, { frames := 1, cells := 1, slots := 60, locals := 20 })
abbrev mX7_collect : aM := (yX7_collect, cX7_collect, 3, (some .int), { frames := 2, cells := 0, slots := 0, locals := 43 })
abbrev mX7_doOtherAct : aM := (yX7_doOtherAct, cX7_doOtherAct, 3, none, { frames := 3, cells := 0, slots := 0, locals := 70 })
abbrev mX7_endAct : aM := (yX7_endAct, cX7_endAct, 2, none, { frames := 2, cells := 0, slots := 0, locals := 49 })
abbrev mX7_fairPart : aM := (yX7_fairPart, cX7_fairPart, 1, (some .int), { frames := 0, cells := 0, slots := 0, locals := 0 })
abbrev mX7_getsByAsking : aM := (yX7_getsByAsking, cX7_getsByAsking, 9, (some .boolean), { frames := 4, cells := 0, slots := 0, locals := 88 })
abbrev mX7_give : aM := (yX7_give, cX7_give, 4, none, { frames := 3, cells := 0, slots := 0, locals := 65 })
abbrev mX7_init : aM := (yX7_init, cX7_init, 3, none, { frames := 3, cells := 24, slots := 731, locals := 61 })
abbrev mX7_leave : aM := (yX7_leave, cX7_leave, 5, none, { frames := 1, cells := 0, slots := 0, locals := 25 })
abbrev mX7_movesStep : aM := (yX7_movesStep, cX7_movesStep, 3, (some .boolean), { frames := 4, cells := 0, slots := 0, locals := 92 })
abbrev mX7_passTick : aM := (yX7_passTick, cX7_passTick, 3, none, { frames := 3, cells := 0, slots := 0, locals := 70 })
abbrev mX7_redeal : aM := (yX7_redeal, cX7_redeal, 3, none, { frames := 5, cells := 0, slots := 0, locals := 114 })
abbrev mX7_someGoOn : aM := (yX7_someGoOn, cX7_someGoOn, 2, (some .boolean), { frames := 1, cells := 0, slots := 0, locals := 20 })
abbrev mX7_spareOfOthers : aM := (yX7_spareOfOthers, cX7_spareOfOthers, 4, (some .int), { frames := 3, cells := 0, slots := 0, locals := 63 })
abbrev mX7_squeeze : aM := (yX7_squeeze, cX7_squeeze, 3, none, { frames := 3, cells := 0, slots := 0, locals := 65 })
abbrev mX7_start : aM := (yX7_start, cX7_start, 6, none, { frames := 2, cells := 0, slots := 0, locals := 42 })
abbrev mX7_tick : aM := (yX7_tick, cX7_tick, 3, none, { frames := 6, cells := 0, slots := 0, locals := 138 })
abbrev mX7_tryMake : aM := (yX7_tryMake, cX7_tryMake, 3, none, { frames := 5, cells := 0, slots := 0, locals := 116 })
abbrev mX7_wake : aM := (yX7_wake, cX7_wake, 3, none, { frames := 1, cells := 0, slots := 0, locals := 25 })
abbrev mX7_whoGainsMost : aM := (yX7_whoGainsMost, cX7_whoGainsMost, 7, (some .int), { frames := 3, cells := 0, slots := 0, locals := 65 })
abbrev mX7_whoLosesLeast : aM := (yX7_whoLosesLeast, cX7_whoLosesLeast, 8, (some .int), { frames := 3, cells := 0, slots := 0, locals := 65 })
abbrev mX7_whoSparesMost : aM := (yX7_whoSparesMost, cX7_whoSparesMost, 6, (some .int), { frames := 3, cells := 0, slots := 0, locals := 63 })
abbrev mX8_init : aM := (yX8_init, cX8_init, 1, none, { frames := 2, cells := 5, slots := 258, locals := 40 })
abbrev mX8_makeInAll : aM := (yX8_makeInAll, cX8_makeInAll, 5, none, { frames := 1, cells := 0, slots := 0, locals := 22 })
abbrev mX8_pass : aM := (yX8_pass, cX8_pass, 6, none, { frames := 3, cells := 0, slots := 0, locals := 69 })
abbrev mX8_passRound : aM := (yX8_passRound, cX8_passRound, 4, none, { frames := 2, cells := 0, slots := 0, locals := 46 })
abbrev mX8_timeOf : aM := (yX8_timeOf, cX8_timeOf, 2, (some .int), { frames := 0, cells := 0, slots := 0, locals := 0 })
abbrev mX9_begin : aM := (yX9_begin, cX9_begin, 2, (some .boolean), { frames := 7, cells := 0, slots := 0, locals := 164 })
abbrev mX9_best : aM := (yX9_best, cX9_best, 1, (some .int), { frames := 7, cells := 0, slots := 0, locals := 165 })
abbrev mX9_clear : aM := (yX9_clear, cX9_clear, 2, (some .int), { frames := 0, cells := 0, slots := 0, locals := 0 })
abbrev mX9_count : aM := (yX9_count, cX9_count, 2, (some .int), { frames := 2, cells := 0, slots := 0, locals := 42 })
abbrev mX9_deal : aM := (yX9_deal, cX9_deal, 1, (some .int), { frames := 7, cells := 0, slots := 0, locals := 164 })
abbrev mX9_falls : aM := (yX9_falls, cX9_falls, 4, (some .int), { frames := 6, cells := 0, slots := 0, locals := 139 })
abbrev mX9_init : aM := (yX9_init, cX9_init, 2, none, { frames := 4, cells := 71, slots := 2542, locals := 83 })
abbrev mX9_isProgram : aM := (yX9_isProgram, cX9_isProgram, 2, (some .boolean), { frames := 0, cells := 0, slots := 0, locals := 0 })
abbrev mX9_isSlot : aM := (yX9_isSlot, cX9_isSlot, 2, (some .boolean), { frames := 0, cells := 0, slots := 0, locals := 0 })
abbrev mX9_log : aM := (yX9_log, cX9_log, 3, (some .int), { frames := 3, cells := 0, slots := 0, locals := 64 })
abbrev mX9_need : aM := (yX9_need, cX9_need, 3, (some .int), { frames := 6, cells := 0, slots := 0, locals := 139 })
abbrev mX9_of : aM := (yX9_of, cX9_of, 3, (some .int), { frames := 1, cells := 0, slots := 0, locals := 21 })
abbrev mX9_paste : aM := (yX9_paste, cX9_paste, 8, (some .int), { frames := 1, cells := 0, slots := 0, locals := 40 })
abbrev mX9_program : aM := (yX9_program, cX9_program, 6, (some .int), { frames := 2, cells := 0, slots := 0, locals := 42 })
abbrev mX9_row : aM := (yX9_row, cX9_row, 4, (some .int), { frames := 1, cells := 0, slots := 0, locals := 23 })
abbrev mX9_rowsThere : aM := (yX9_rowsThere, cX9_rowsThere, 3, (some .int), { frames := 1, cells := 0, slots := 0, locals := 20 })
abbrev mX9_run : aM := (yX9_run, cX9_run, 3, (some .int), { frames := 7, cells := 0, slots := 0, locals := 160 })
abbrev mX9_share : aM := (yX9_share, cX9_share, 2, (some .int), { frames := 1, cells := 0, slots := 0, locals := 21 })
abbrev mX9_stop : aM := (yX9_stop, cX9_stop, 2, (some .boolean), { frames := 0, cells := 0, slots := 0, locals := 0 })
abbrev mX9_tear : aM := (yX9_tear, cX9_tear, 2, (some .boolean), { frames := 1, cells := 0, slots := 0, locals := 21 })
abbrev mX9_terms : aM := (yX9_terms, cX9_terms, 7, (some .int), { frames := 1, cells := 0, slots := 0, locals := 22 })
abbrev mX9_time : aM := (yX9_time, cX9_time, 3, (some .int), { frames := 5, cells := 0, slots := 0, locals := 116 })
abbrev mX9_write : aM := (yX9_write, cX9_write, 6, (some .int), { frames := 1, cells := 0, slots := 0, locals := 22 })
def mOk (M : aM) : Prop := plainName M.1.cls = true ∧ M.1 ≠ yL_law ∧ M.2.2.2.2.cells = 0 ∧ M.2.2.2.2.slots = 0
theorem npJ9_max_7cf53 : (parseMethodDescriptor mJ9_max_7cf53.1.desc).map (fun d => d.parameters.length) = some 2 := by decide +kernel
theorem npJ9_min_7cf53 : (parseMethodDescriptor mJ9_min_7cf53.1.desc).map (fun d => d.parameters.length) = some 2 := by decide +kernel
theorem npJ9_min_f86c9 : (parseMethodDescriptor mJ9_min_f86c9.1.desc).map (fun d => d.parameters.length) = some 2 := by decide +kernel
theorem npX0_atBest : (parseMethodDescriptor mX0_atBest.1.desc).map (fun d => d.parameters.length) = some 2 := by decide +kernel
theorem okX0_atBest : mOk mX0_atBest := ⟨by decide +kernel, by decide +kernel, rfl, rfl⟩
theorem npX0_bySavings : (parseMethodDescriptor mX0_bySavings.1.desc).map (fun d => d.parameters.length) = some 2 := by decide +kernel
theorem okX0_bySavings : mOk mX0_bySavings := ⟨by decide +kernel, by decide +kernel, rfl, rfl⟩
theorem npX0_firstBestShare : (parseMethodDescriptor mX0_firstBestShare.1.desc).map (fun d => d.parameters.length) = some 3 := by decide +kernel
theorem okX0_firstBestShare : mOk mX0_firstBestShare := ⟨by decide +kernel, by decide +kernel, rfl, rfl⟩
theorem npX0_init : (parseMethodDescriptor mX0_init.1.desc).map (fun d => d.parameters.length) = some 1 := by decide +kernel
theorem nlX0_init : plainName mX0_init.1.cls = true ∧ mX0_init.1 ≠ yL_law := ⟨by decide +kernel, by decide +kernel⟩
theorem npX0_learnTimes : (parseMethodDescriptor mX0_learnTimes.1.desc).map (fun d => d.parameters.length) = some 1 := by decide +kernel
theorem okX0_learnTimes : mOk mX0_learnTimes := ⟨by decide +kernel, by decide +kernel, rfl, rfl⟩
theorem npX0_needInSteps : (parseMethodDescriptor mX0_needInSteps.1.desc).map (fun d => d.parameters.length) = some 1 := by decide +kernel
theorem okX0_needInSteps : mOk mX0_needInSteps := ⟨by decide +kernel, by decide +kernel, rfl, rfl⟩
theorem npX0_sumOfTimes : (parseMethodDescriptor mX0_sumOfTimes.1.desc).map (fun d => d.parameters.length) = some 2 := by decide +kernel
theorem okX0_sumOfTimes : mOk mX0_sumOfTimes := ⟨by decide +kernel, by decide +kernel, rfl, rfl⟩
theorem npX0_sumWith : (parseMethodDescriptor mX0_sumWith.1.desc).map (fun d => d.parameters.length) = some 4 := by decide +kernel
theorem okX0_sumWith : mOk mX0_sumWith := ⟨by decide +kernel, by decide +kernel, rfl, rfl⟩
theorem npX0_takeFirstBest : (parseMethodDescriptor mX0_takeFirstBest.1.desc).map (fun d => d.parameters.length) = some 3 := by decide +kernel
theorem okX0_takeFirstBest : mOk mX0_takeFirstBest := ⟨by decide +kernel, by decide +kernel, rfl, rfl⟩
theorem npX0_timeByRoom : (parseMethodDescriptor mX0_timeByRoom.1.desc).map (fun d => d.parameters.length) = some 2 := by decide +kernel
theorem okX0_timeByRoom : mOk mX0_timeByRoom := ⟨by decide +kernel, by decide +kernel, rfl, rfl⟩
theorem npX0_whoSavesMost : (parseMethodDescriptor mX0_whoSavesMost.1.desc).map (fun d => d.parameters.length) = some 2 := by decide +kernel
theorem okX0_whoSavesMost : mOk mX0_whoSavesMost := ⟨by decide +kernel, by decide +kernel, rfl, rfl⟩
theorem npX10_acts : (parseMethodDescriptor mX10_acts.1.desc).map (fun d => d.parameters.length) = some 1 := by decide +kernel
theorem okX10_acts : mOk mX10_acts := ⟨by decide +kernel, by decide +kernel, rfl, rfl⟩
theorem npX10_alone : (parseMethodDescriptor mX10_alone.1.desc).map (fun d => d.parameters.length) = some 2 := by decide +kernel
theorem okX10_alone : mOk mX10_alone := ⟨by decide +kernel, by decide +kernel, rfl, rfl⟩
theorem npX10_areNeeds : (parseMethodDescriptor mX10_areNeeds.1.desc).map (fun d => d.parameters.length) = some 0 := by decide +kernel
theorem okX10_areNeeds : mOk mX10_areNeeds := ⟨by decide +kernel, by decide +kernel, rfl, rfl⟩
theorem npX10_asks : (parseMethodDescriptor mX10_asks.1.desc).map (fun d => d.parameters.length) = some 2 := by decide +kernel
theorem okX10_asks : mOk mX10_asks := ⟨by decide +kernel, by decide +kernel, rfl, rfl⟩
theorem npX10_begin : (parseMethodDescriptor mX10_begin.1.desc).map (fun d => d.parameters.length) = some 0 := by decide +kernel
theorem okX10_begin : mOk mX10_begin := ⟨by decide +kernel, by decide +kernel, rfl, rfl⟩
theorem npX10_best : (parseMethodDescriptor mX10_best.1.desc).map (fun d => d.parameters.length) = some 0 := by decide +kernel
theorem okX10_best : mOk mX10_best := ⟨by decide +kernel, by decide +kernel, rfl, rfl⟩
theorem npX10_clear : (parseMethodDescriptor mX10_clear.1.desc).map (fun d => d.parameters.length) = some 0 := by decide +kernel
theorem okX10_clear : mOk mX10_clear := ⟨by decide +kernel, by decide +kernel, rfl, rfl⟩
theorem npX10_collects : (parseMethodDescriptor mX10_collects.1.desc).map (fun d => d.parameters.length) = some 1 := by decide +kernel
theorem okX10_collects : mOk mX10_collects := ⟨by decide +kernel, by decide +kernel, rfl, rfl⟩
theorem npX10_cost : (parseMethodDescriptor mX10_cost.1.desc).map (fun d => d.parameters.length) = some 3 := by decide +kernel
theorem okX10_cost : mOk mX10_cost := ⟨by decide +kernel, by decide +kernel, rfl, rfl⟩
theorem npX10_count : (parseMethodDescriptor mX10_count.1.desc).map (fun d => d.parameters.length) = some 1 := by decide +kernel
theorem okX10_count : mOk mX10_count := ⟨by decide +kernel, by decide +kernel, rfl, rfl⟩
theorem npX10_cut : (parseMethodDescriptor mX10_cut.1.desc).map (fun d => d.parameters.length) = some 2 := by decide +kernel
theorem okX10_cut : mOk mX10_cut := ⟨by decide +kernel, by decide +kernel, rfl, rfl⟩
theorem npX10_deal : (parseMethodDescriptor mX10_deal.1.desc).map (fun d => d.parameters.length) = some 0 := by decide +kernel
theorem okX10_deal : mOk mX10_deal := ⟨by decide +kernel, by decide +kernel, rfl, rfl⟩
theorem npX10_dealt : (parseMethodDescriptor mX10_dealt.1.desc).map (fun d => d.parameters.length) = some 0 := by decide +kernel
theorem okX10_dealt : mOk mX10_dealt := ⟨by decide +kernel, by decide +kernel, rfl, rfl⟩
theorem npX10_falls : (parseMethodDescriptor mX10_falls.1.desc).map (fun d => d.parameters.length) = some 1 := by decide +kernel
theorem okX10_falls : mOk mX10_falls := ⟨by decide +kernel, by decide +kernel, rfl, rfl⟩
theorem npX10_gives : (parseMethodDescriptor mX10_gives.1.desc).map (fun d => d.parameters.length) = some 2 := by decide +kernel
theorem okX10_gives : mOk mX10_gives := ⟨by decide +kernel, by decide +kernel, rfl, rfl⟩
theorem npX10_holds : (parseMethodDescriptor mX10_holds.1.desc).map (fun d => d.parameters.length) = some 2 := by decide +kernel
theorem okX10_holds : mOk mX10_holds := ⟨by decide +kernel, by decide +kernel, rfl, rfl⟩
theorem npX10_in : (parseMethodDescriptor mX10_in.1.desc).map (fun d => d.parameters.length) = some 3 := by decide +kernel
theorem okX10_in : mOk mX10_in := ⟨by decide +kernel, by decide +kernel, rfl, rfl⟩
theorem npX10_init : (parseMethodDescriptor mX10_init.1.desc).map (fun d => d.parameters.length) = some 0 := by decide +kernel
theorem nlX10_init : plainName mX10_init.1.cls = true ∧ mX10_init.1 ≠ yL_law := ⟨by decide +kernel, by decide +kernel⟩
theorem npX10_isAny : (parseMethodDescriptor mX10_isAny.1.desc).map (fun d => d.parameters.length) = some 0 := by decide +kernel
theorem okX10_isAny : mOk mX10_isAny := ⟨by decide +kernel, by decide +kernel, rfl, rfl⟩
theorem npX10_isOver : (parseMethodDescriptor mX10_isOver.1.desc).map (fun d => d.parameters.length) = some 2 := by decide +kernel
theorem okX10_isOver : mOk mX10_isOver := ⟨by decide +kernel, by decide +kernel, rfl, rfl⟩
theorem npX10_isProgram : (parseMethodDescriptor mX10_isProgram.1.desc).map (fun d => d.parameters.length) = some 1 := by decide +kernel
theorem okX10_isProgram : mOk mX10_isProgram := ⟨by decide +kernel, by decide +kernel, rfl, rfl⟩
theorem npX10_isSlot : (parseMethodDescriptor mX10_isSlot.1.desc).map (fun d => d.parameters.length) = some 1 := by decide +kernel
theorem okX10_isSlot : mOk mX10_isSlot := ⟨by decide +kernel, by decide +kernel, rfl, rfl⟩
theorem npX10_isThere : (parseMethodDescriptor mX10_isThere.1.desc).map (fun d => d.parameters.length) = some 1 := by decide +kernel
theorem okX10_isThere : mOk mX10_isThere := ⟨by decide +kernel, by decide +kernel, rfl, rfl⟩
theorem npX10_isUp : (parseMethodDescriptor mX10_isUp.1.desc).map (fun d => d.parameters.length) = some 1 := by decide +kernel
theorem okX10_isUp : mOk mX10_isUp := ⟨by decide +kernel, by decide +kernel, rfl, rfl⟩
theorem npX10_log : (parseMethodDescriptor mX10_log.1.desc).map (fun d => d.parameters.length) = some 2 := by decide +kernel
theorem okX10_log : mOk mX10_log := ⟨by decide +kernel, by decide +kernel, rfl, rfl⟩
theorem npX10_makes : (parseMethodDescriptor mX10_makes.1.desc).map (fun d => d.parameters.length) = some 2 := by decide +kernel
theorem okX10_makes : mOk mX10_makes := ⟨by decide +kernel, by decide +kernel, rfl, rfl⟩
theorem npX10_need : (parseMethodDescriptor mX10_need.1.desc).map (fun d => d.parameters.length) = some 1 := by decide +kernel
theorem okX10_need : mOk mX10_need := ⟨by decide +kernel, by decide +kernel, rfl, rfl⟩
theorem npX10_needOf : (parseMethodDescriptor mX10_needOf.1.desc).map (fun d => d.parameters.length) = some 1 := by decide +kernel
theorem okX10_needOf : mOk mX10_needOf := ⟨by decide +kernel, by decide +kernel, rfl, rfl⟩
theorem npX10_of : (parseMethodDescriptor mX10_of.1.desc).map (fun d => d.parameters.length) = some 2 := by decide +kernel
theorem okX10_of : mOk mX10_of := ⟨by decide +kernel, by decide +kernel, rfl, rfl⟩
theorem npX10_passes : (parseMethodDescriptor mX10_passes.1.desc).map (fun d => d.parameters.length) = some 1 := by decide +kernel
theorem okX10_passes : mOk mX10_passes := ⟨by decide +kernel, by decide +kernel, rfl, rfl⟩
theorem npX10_paste : (parseMethodDescriptor mX10_paste.1.desc).map (fun d => d.parameters.length) = some 5 := by decide +kernel
theorem okX10_paste : mOk mX10_paste := ⟨by decide +kernel, by decide +kernel, rfl, rfl⟩
theorem npX10_program : (parseMethodDescriptor mX10_program.1.desc).map (fun d => d.parameters.length) = some 4 := by decide +kernel
theorem okX10_program : mOk mX10_program := ⟨by decide +kernel, by decide +kernel, rfl, rfl⟩
theorem npX10_redeals : (parseMethodDescriptor mX10_redeals.1.desc).map (fun d => d.parameters.length) = some 0 := by decide +kernel
theorem okX10_redeals : mOk mX10_redeals := ⟨by decide +kernel, by decide +kernel, rfl, rfl⟩
theorem npX10_row : (parseMethodDescriptor mX10_row.1.desc).map (fun d => d.parameters.length) = some 3 := by decide +kernel
theorem okX10_row : mOk mX10_row := ⟨by decide +kernel, by decide +kernel, rfl, rfl⟩
theorem npX10_run : (parseMethodDescriptor mX10_run.1.desc).map (fun d => d.parameters.length) = some 1 := by decide +kernel
theorem okX10_run : mOk mX10_run := ⟨by decide +kernel, by decide +kernel, rfl, rfl⟩
theorem npX10_s : (parseMethodDescriptor mX10_s.1.desc).map (fun d => d.parameters.length) = some 1 := by decide +kernel
theorem okX10_s : mOk mX10_s := ⟨by decide +kernel, by decide +kernel, rfl, rfl⟩
theorem npX10_share : (parseMethodDescriptor mX10_share.1.desc).map (fun d => d.parameters.length) = some 1 := by decide +kernel
theorem okX10_share : mOk mX10_share := ⟨by decide +kernel, by decide +kernel, rfl, rfl⟩
theorem npX10_spare : (parseMethodDescriptor mX10_spare.1.desc).map (fun d => d.parameters.length) = some 1 := by decide +kernel
theorem okX10_spare : mOk mX10_spare := ⟨by decide +kernel, by decide +kernel, rfl, rfl⟩
theorem npX10_stop : (parseMethodDescriptor mX10_stop.1.desc).map (fun d => d.parameters.length) = some 0 := by decide +kernel
theorem okX10_stop : mOk mX10_stop := ⟨by decide +kernel, by decide +kernel, rfl, rfl⟩
theorem npX10_sum : (parseMethodDescriptor mX10_sum.1.desc).map (fun d => d.parameters.length) = some 0 := by decide +kernel
theorem okX10_sum : mOk mX10_sum := ⟨by decide +kernel, by decide +kernel, rfl, rfl⟩
theorem npX10_swung : (parseMethodDescriptor mX10_swung.1.desc).map (fun d => d.parameters.length) = some 0 := by decide +kernel
theorem okX10_swung : mOk mX10_swung := ⟨by decide +kernel, by decide +kernel, rfl, rfl⟩
theorem npX10_tear : (parseMethodDescriptor mX10_tear.1.desc).map (fun d => d.parameters.length) = some 1 := by decide +kernel
theorem okX10_tear : mOk mX10_tear := ⟨by decide +kernel, by decide +kernel, rfl, rfl⟩
theorem npX10_tells : (parseMethodDescriptor mX10_tells.1.desc).map (fun d => d.parameters.length) = some 3 := by decide +kernel
theorem okX10_tells : mOk mX10_tells := ⟨by decide +kernel, by decide +kernel, rfl, rfl⟩
theorem npX10_terms : (parseMethodDescriptor mX10_terms.1.desc).map (fun d => d.parameters.length) = some 5 := by decide +kernel
theorem okX10_terms : mOk mX10_terms := ⟨by decide +kernel, by decide +kernel, rfl, rfl⟩
theorem npX10_ticks : (parseMethodDescriptor mX10_ticks.1.desc).map (fun d => d.parameters.length) = some 0 := by decide +kernel
theorem okX10_ticks : mOk mX10_ticks := ⟨by decide +kernel, by decide +kernel, rfl, rfl⟩
theorem npX10_time : (parseMethodDescriptor mX10_time.1.desc).map (fun d => d.parameters.length) = some 2 := by decide +kernel
theorem okX10_time : mOk mX10_time := ⟨by decide +kernel, by decide +kernel, rfl, rfl⟩
theorem npX10_up : (parseMethodDescriptor mX10_up.1.desc).map (fun d => d.parameters.length) = some 1 := by decide +kernel
theorem okX10_up : mOk mX10_up := ⟨by decide +kernel, by decide +kernel, rfl, rfl⟩
theorem npX10_write : (parseMethodDescriptor mX10_write.1.desc).map (fun d => d.parameters.length) = some 3 := by decide +kernel
theorem okX10_write : mOk mX10_write := ⟨by decide +kernel, by decide +kernel, rfl, rfl⟩
theorem npX1_become : (parseMethodDescriptor mX1_become.1.desc).map (fun d => d.parameters.length) = some 4 := by decide +kernel
theorem okX1_become : mOk mX1_become := ⟨by decide +kernel, by decide +kernel, rfl, rfl⟩
theorem npX1_costToCollect : (parseMethodDescriptor mX1_costToCollect.1.desc).map (fun d => d.parameters.length) = some 2 := by decide +kernel
theorem okX1_costToCollect : mOk mX1_costToCollect := ⟨by decide +kernel, by decide +kernel, rfl, rfl⟩
theorem npX1_fallsEverSlower : (parseMethodDescriptor mX1_fallsEverSlower.1.desc).map (fun d => d.parameters.length) = some 2 := by decide +kernel
theorem okX1_fallsEverSlower : mOk mX1_fallsEverSlower := ⟨by decide +kernel, by decide +kernel, rfl, rfl⟩
theorem npX1_holds : (parseMethodDescriptor mX1_holds.1.desc).map (fun d => d.parameters.length) = some 1 := by decide +kernel
theorem okX1_holds : mOk mX1_holds := ⟨by decide +kernel, by decide +kernel, rfl, rfl⟩
theorem npX1_init : (parseMethodDescriptor mX1_init.1.desc).map (fun d => d.parameters.length) = some 0 := by decide +kernel
theorem nlX1_init : plainName mX1_init.1.cls = true ∧ mX1_init.1 ≠ yL_law := ⟨by decide +kernel, by decide +kernel⟩
theorem npX1_isMake : (parseMethodDescriptor mX1_isMake.1.desc).map (fun d => d.parameters.length) = some 1 := by decide +kernel
theorem okX1_isMake : mOk mX1_isMake := ⟨by decide +kernel, by decide +kernel, rfl, rfl⟩
theorem npX1_roomFor : (parseMethodDescriptor mX1_roomFor.1.desc).map (fun d => d.parameters.length) = some 1 := by decide +kernel
theorem okX1_roomFor : mOk mX1_roomFor := ⟨by decide +kernel, by decide +kernel, rfl, rfl⟩
theorem npX2_cellsOfStep : (parseMethodDescriptor mX2_cellsOfStep.1.desc).map (fun d => d.parameters.length) = some 1 := by decide +kernel
theorem okX2_cellsOfStep : mOk mX2_cellsOfStep := ⟨by decide +kernel, by decide +kernel, rfl, rfl⟩
theorem npX2_collectNow : (parseMethodDescriptor mX2_collectNow.1.desc).map (fun d => d.parameters.length) = some 0 := by decide +kernel
theorem okX2_collectNow : mOk mX2_collectNow := ⟨by decide +kernel, by decide +kernel, rfl, rfl⟩
theorem npX2_endRound : (parseMethodDescriptor mX2_endRound.1.desc).map (fun d => d.parameters.length) = some 0 := by decide +kernel
theorem okX2_endRound : mOk mX2_endRound := ⟨by decide +kernel, by decide +kernel, rfl, rfl⟩
theorem npX2_fits : (parseMethodDescriptor mX2_fits.1.desc).map (fun d => d.parameters.length) = some 1 := by decide +kernel
theorem okX2_fits : mOk mX2_fits := ⟨by decide +kernel, by decide +kernel, rfl, rfl⟩
theorem npX2_gain : (parseMethodDescriptor mX2_gain.1.desc).map (fun d => d.parameters.length) = some 1 := by decide +kernel
theorem okX2_gain : mOk mX2_gain := ⟨by decide +kernel, by decide +kernel, rfl, rfl⟩
theorem npX2_goesOn : (parseMethodDescriptor mX2_goesOn.1.desc).map (fun d => d.parameters.length) = some 0 := by decide +kernel
theorem okX2_goesOn : mOk mX2_goesOn := ⟨by decide +kernel, by decide +kernel, rfl, rfl⟩
theorem npX2_init : (parseMethodDescriptor mX2_init.1.desc).map (fun d => d.parameters.length) = some 1 := by decide +kernel
theorem nlX2_init : plainName mX2_init.1.cls = true ∧ mX2_init.1 ≠ yL_law := ⟨by decide +kernel, by decide +kernel⟩
theorem npX2_isAboutToMake : (parseMethodDescriptor mX2_isAboutToMake.1.desc).map (fun d => d.parameters.length) = some 0 := by decide +kernel
theorem okX2_isAboutToMake : mOk mX2_isAboutToMake := ⟨by decide +kernel, by decide +kernel, rfl, rfl⟩
theorem npX2_isAwake : (parseMethodDescriptor mX2_isAwake.1.desc).map (fun d => d.parameters.length) = some 0 := by decide +kernel
theorem okX2_isAwake : mOk mX2_isAwake := ⟨by decide +kernel, by decide +kernel, rfl, rfl⟩
theorem npX2_keep : (parseMethodDescriptor mX2_keep.1.desc).map (fun d => d.parameters.length) = some 1 := by decide +kernel
theorem okX2_keep : mOk mX2_keep := ⟨by decide +kernel, by decide +kernel, rfl, rfl⟩
theorem npX2_leave : (parseMethodDescriptor mX2_leave.1.desc).map (fun d => d.parameters.length) = some 2 := by decide +kernel
theorem okX2_leave : mOk mX2_leave := ⟨by decide +kernel, by decide +kernel, rfl, rfl⟩
theorem npX2_loss : (parseMethodDescriptor mX2_loss.1.desc).map (fun d => d.parameters.length) = some 1 := by decide +kernel
theorem okX2_loss : mOk mX2_loss := ⟨by decide +kernel, by decide +kernel, rfl, rfl⟩
theorem npX2_makeNow : (parseMethodDescriptor mX2_makeNow.1.desc).map (fun d => d.parameters.length) = some 1 := by decide +kernel
theorem okX2_makeNow : mOk mX2_makeNow := ⟨by decide +kernel, by decide +kernel, rfl, rfl⟩
theorem npX2_nextAct : (parseMethodDescriptor mX2_nextAct.1.desc).map (fun d => d.parameters.length) = some 0 := by decide +kernel
theorem okX2_nextAct : mOk mX2_nextAct := ⟨by decide +kernel, by decide +kernel, rfl, rfl⟩
theorem npX2_spare : (parseMethodDescriptor mX2_spare.1.desc).map (fun d => d.parameters.length) = some 1 := by decide +kernel
theorem okX2_spare : mOk mX2_spare := ⟨by decide +kernel, by decide +kernel, rfl, rfl⟩
theorem npX2_start : (parseMethodDescriptor mX2_start.1.desc).map (fun d => d.parameters.length) = some 2 := by decide +kernel
theorem okX2_start : mOk mX2_start := ⟨by decide +kernel, by decide +kernel, rfl, rfl⟩
theorem npX2_told : (parseMethodDescriptor mX2_told.1.desc).map (fun d => d.parameters.length) = some 1 := by decide +kernel
theorem okX2_told : mOk mX2_told := ⟨by decide +kernel, by decide +kernel, rfl, rfl⟩
theorem npX2_waitFor : (parseMethodDescriptor mX2_waitFor.1.desc).map (fun d => d.parameters.length) = some 2 := by decide +kernel
theorem okX2_waitFor : mOk mX2_waitFor := ⟨by decide +kernel, by decide +kernel, rfl, rfl⟩
theorem npX3_cut : (parseMethodDescriptor mX3_cut.1.desc).map (fun d => d.parameters.length) = some 1 := by decide +kernel
theorem okX3_cut : mOk mX3_cut := ⟨by decide +kernel, by decide +kernel, rfl, rfl⟩
theorem npX3_hasPlaces : (parseMethodDescriptor mX3_hasPlaces.1.desc).map (fun d => d.parameters.length) = some 2 := by decide +kernel
theorem okX3_hasPlaces : mOk mX3_hasPlaces := ⟨by decide +kernel, by decide +kernel, rfl, rfl⟩
theorem npX3_holdsActsAlone : (parseMethodDescriptor mX3_holdsActsAlone.1.desc).map (fun d => d.parameters.length) = some 0 := by decide +kernel
theorem okX3_holdsActsAlone : mOk mX3_holdsActsAlone := ⟨by decide +kernel, by decide +kernel, rfl, rfl⟩
theorem npX3_init : (parseMethodDescriptor mX3_init.1.desc).map (fun d => d.parameters.length) = some 0 := by decide +kernel
theorem nlX3_init : plainName mX3_init.1.cls = true ∧ mX3_init.1 ≠ yL_law := ⟨by decide +kernel, by decide +kernel⟩
theorem npX3_isAct : (parseMethodDescriptor mX3_isAct.1.desc).map (fun d => d.parameters.length) = some 1 := by decide +kernel
theorem okX3_isAct : mOk mX3_isAct := ⟨by decide +kernel, by decide +kernel, rfl, rfl⟩
theorem npX3_isBare : (parseMethodDescriptor mX3_isBare.1.desc).map (fun d => d.parameters.length) = some 0 := by decide +kernel
theorem okX3_isBare : mOk mX3_isBare := ⟨by decide +kernel, by decide +kernel, rfl, rfl⟩
theorem npX3_lay : (parseMethodDescriptor mX3_lay.1.desc).map (fun d => d.parameters.length) = some 2 := by decide +kernel
theorem okX3_lay : mOk mX3_lay := ⟨by decide +kernel, by decide +kernel, rfl, rfl⟩
theorem npX3_strip : (parseMethodDescriptor mX3_strip.1.desc).map (fun d => d.parameters.length) = some 0 := by decide +kernel
theorem okX3_strip : mOk mX3_strip := ⟨by decide +kernel, by decide +kernel, rfl, rfl⟩
theorem npX4_add : (parseMethodDescriptor mX4_add.1.desc).map (fun d => d.parameters.length) = some 4 := by decide +kernel
theorem okX4_add : mOk mX4_add := ⟨by decide +kernel, by decide +kernel, rfl, rfl⟩
theorem npX4_forget : (parseMethodDescriptor mX4_forget.1.desc).map (fun d => d.parameters.length) = some 0 := by decide +kernel
theorem okX4_forget : mOk mX4_forget := ⟨by decide +kernel, by decide +kernel, rfl, rfl⟩
theorem npX4_init : (parseMethodDescriptor mX4_init.1.desc).map (fun d => d.parameters.length) = some 0 := by decide +kernel
theorem nlX4_init : plainName mX4_init.1.cls = true ∧ mX4_init.1 ≠ yL_law := ⟨by decide +kernel, by decide +kernel⟩
theorem npX4_kept : (parseMethodDescriptor mX4_kept.1.desc).map (fun d => d.parameters.length) = some 0 := by decide +kernel
theorem okX4_kept : mOk mX4_kept := ⟨by decide +kernel, by decide +kernel, rfl, rfl⟩
theorem npX4_told : (parseMethodDescriptor mX4_told.1.desc).map (fun d => d.parameters.length) = some 2 := by decide +kernel
theorem okX4_told : mOk mX4_told := ⟨by decide +kernel, by decide +kernel, rfl, rfl⟩
theorem npX5_allSteps : (parseMethodDescriptor mX5_allSteps.1.desc).map (fun d => d.parameters.length) = some 0 := by decide +kernel
theorem okX5_allSteps : mOk mX5_allSteps := ⟨by decide +kernel, by decide +kernel, rfl, rfl⟩
theorem npX5_areSound : (parseMethodDescriptor mX5_areSound.1.desc).map (fun d => d.parameters.length) = some 3 := by decide +kernel
theorem okX5_areSound : mOk mX5_areSound := ⟨by decide +kernel, by decide +kernel, rfl, rfl⟩
theorem npX5_dealtSteps : (parseMethodDescriptor mX5_dealtSteps.1.desc).map (fun d => d.parameters.length) = some 0 := by decide +kernel
theorem okX5_dealtSteps : mOk mX5_dealtSteps := ⟨by decide +kernel, by decide +kernel, rfl, rfl⟩
theorem npX5_init : (parseMethodDescriptor mX5_init.1.desc).map (fun d => d.parameters.length) = some 0 := by decide +kernel
theorem nlX5_init : plainName mX5_init.1.cls = true ∧ mX5_init.1 ≠ yL_law := ⟨by decide +kernel, by decide +kernel⟩
theorem npX5_stepsFor : (parseMethodDescriptor mX5_stepsFor.1.desc).map (fun d => d.parameters.length) = some 1 := by decide +kernel
theorem okX5_stepsFor : mOk mX5_stepsFor := ⟨by decide +kernel, by decide +kernel, rfl, rfl⟩
theorem npX6_add : (parseMethodDescriptor mX6_add.1.desc).map (fun d => d.parameters.length) = some 1 := by decide +kernel
theorem okX6_add : mOk mX6_add := ⟨by decide +kernel, by decide +kernel, rfl, rfl⟩
theorem npX6_die : (parseMethodDescriptor mX6_die.1.desc).map (fun d => d.parameters.length) = some 1 := by decide +kernel
theorem okX6_die : mOk mX6_die := ⟨by decide +kernel, by decide +kernel, rfl, rfl⟩
theorem npX6_forget : (parseMethodDescriptor mX6_forget.1.desc).map (fun d => d.parameters.length) = some 0 := by decide +kernel
theorem okX6_forget : mOk mX6_forget := ⟨by decide +kernel, by decide +kernel, rfl, rfl⟩
theorem npX6_init : (parseMethodDescriptor mX6_init.1.desc).map (fun d => d.parameters.length) = some 0 := by decide +kernel
theorem nlX6_init : plainName mX6_init.1.cls = true ∧ mX6_init.1 ≠ yL_law := ⟨by decide +kernel, by decide +kernel⟩
theorem npX7_collect : (parseMethodDescriptor mX7_collect.1.desc).map (fun d => d.parameters.length) = some 1 := by decide +kernel
theorem okX7_collect : mOk mX7_collect := ⟨by decide +kernel, by decide +kernel, rfl, rfl⟩
theorem npX7_doOtherAct : (parseMethodDescriptor mX7_doOtherAct.1.desc).map (fun d => d.parameters.length) = some 1 := by decide +kernel
theorem okX7_doOtherAct : mOk mX7_doOtherAct := ⟨by decide +kernel, by decide +kernel, rfl, rfl⟩
theorem npX7_endAct : (parseMethodDescriptor mX7_endAct.1.desc).map (fun d => d.parameters.length) = some 1 := by decide +kernel
theorem okX7_endAct : mOk mX7_endAct := ⟨by decide +kernel, by decide +kernel, rfl, rfl⟩
theorem npX7_fairPart : (parseMethodDescriptor mX7_fairPart.1.desc).map (fun d => d.parameters.length) = some 0 := by decide +kernel
theorem okX7_fairPart : mOk mX7_fairPart := ⟨by decide +kernel, by decide +kernel, rfl, rfl⟩
theorem npX7_getsByAsking : (parseMethodDescriptor mX7_getsByAsking.1.desc).map (fun d => d.parameters.length) = some 2 := by decide +kernel
theorem okX7_getsByAsking : mOk mX7_getsByAsking := ⟨by decide +kernel, by decide +kernel, rfl, rfl⟩
theorem npX7_give : (parseMethodDescriptor mX7_give.1.desc).map (fun d => d.parameters.length) = some 2 := by decide +kernel
theorem okX7_give : mOk mX7_give := ⟨by decide +kernel, by decide +kernel, rfl, rfl⟩
theorem npX7_init : (parseMethodDescriptor mX7_init.1.desc).map (fun d => d.parameters.length) = some 1 := by decide +kernel
theorem nlX7_init : plainName mX7_init.1.cls = true ∧ mX7_init.1 ≠ yL_law := ⟨by decide +kernel, by decide +kernel⟩
theorem npX7_leave : (parseMethodDescriptor mX7_leave.1.desc).map (fun d => d.parameters.length) = some 3 := by decide +kernel
theorem okX7_leave : mOk mX7_leave := ⟨by decide +kernel, by decide +kernel, rfl, rfl⟩
theorem npX7_movesStep : (parseMethodDescriptor mX7_movesStep.1.desc).map (fun d => d.parameters.length) = some 0 := by decide +kernel
theorem okX7_movesStep : mOk mX7_movesStep := ⟨by decide +kernel, by decide +kernel, rfl, rfl⟩
theorem npX7_passTick : (parseMethodDescriptor mX7_passTick.1.desc).map (fun d => d.parameters.length) = some 1 := by decide +kernel
theorem okX7_passTick : mOk mX7_passTick := ⟨by decide +kernel, by decide +kernel, rfl, rfl⟩
theorem npX7_redeal : (parseMethodDescriptor mX7_redeal.1.desc).map (fun d => d.parameters.length) = some 0 := by decide +kernel
theorem okX7_redeal : mOk mX7_redeal := ⟨by decide +kernel, by decide +kernel, rfl, rfl⟩
theorem npX7_someGoOn : (parseMethodDescriptor mX7_someGoOn.1.desc).map (fun d => d.parameters.length) = some 0 := by decide +kernel
theorem okX7_someGoOn : mOk mX7_someGoOn := ⟨by decide +kernel, by decide +kernel, rfl, rfl⟩
theorem npX7_spareOfOthers : (parseMethodDescriptor mX7_spareOfOthers.1.desc).map (fun d => d.parameters.length) = some 1 := by decide +kernel
theorem okX7_spareOfOthers : mOk mX7_spareOfOthers := ⟨by decide +kernel, by decide +kernel, rfl, rfl⟩
theorem npX7_squeeze : (parseMethodDescriptor mX7_squeeze.1.desc).map (fun d => d.parameters.length) = some 1 := by decide +kernel
theorem okX7_squeeze : mOk mX7_squeeze := ⟨by decide +kernel, by decide +kernel, rfl, rfl⟩
theorem npX7_start : (parseMethodDescriptor mX7_start.1.desc).map (fun d => d.parameters.length) = some 3 := by decide +kernel
theorem okX7_start : mOk mX7_start := ⟨by decide +kernel, by decide +kernel, rfl, rfl⟩
theorem npX7_tick : (parseMethodDescriptor mX7_tick.1.desc).map (fun d => d.parameters.length) = some 0 := by decide +kernel
theorem okX7_tick : mOk mX7_tick := ⟨by decide +kernel, by decide +kernel, rfl, rfl⟩
theorem npX7_tryMake : (parseMethodDescriptor mX7_tryMake.1.desc).map (fun d => d.parameters.length) = some 1 := by decide +kernel
theorem okX7_tryMake : mOk mX7_tryMake := ⟨by decide +kernel, by decide +kernel, rfl, rfl⟩
theorem npX7_wake : (parseMethodDescriptor mX7_wake.1.desc).map (fun d => d.parameters.length) = some 1 := by decide +kernel
theorem okX7_wake : mOk mX7_wake := ⟨by decide +kernel, by decide +kernel, rfl, rfl⟩
theorem npX7_whoGainsMost : (parseMethodDescriptor mX7_whoGainsMost.1.desc).map (fun d => d.parameters.length) = some 0 := by decide +kernel
theorem okX7_whoGainsMost : mOk mX7_whoGainsMost := ⟨by decide +kernel, by decide +kernel, rfl, rfl⟩
theorem npX7_whoLosesLeast : (parseMethodDescriptor mX7_whoLosesLeast.1.desc).map (fun d => d.parameters.length) = some 1 := by decide +kernel
theorem okX7_whoLosesLeast : mOk mX7_whoLosesLeast := ⟨by decide +kernel, by decide +kernel, rfl, rfl⟩
theorem npX7_whoSparesMost : (parseMethodDescriptor mX7_whoSparesMost.1.desc).map (fun d => d.parameters.length) = some 1 := by decide +kernel
theorem okX7_whoSparesMost : mOk mX7_whoSparesMost := ⟨by decide +kernel, by decide +kernel, rfl, rfl⟩
theorem npX8_init : (parseMethodDescriptor mX8_init.1.desc).map (fun d => d.parameters.length) = some 0 := by decide +kernel
theorem nlX8_init : plainName mX8_init.1.cls = true ∧ mX8_init.1 ≠ yL_law := ⟨by decide +kernel, by decide +kernel⟩
theorem npX8_makeInAll : (parseMethodDescriptor mX8_makeInAll.1.desc).map (fun d => d.parameters.length) = some 2 := by decide +kernel
theorem okX8_makeInAll : mOk mX8_makeInAll := ⟨by decide +kernel, by decide +kernel, rfl, rfl⟩
theorem npX8_pass : (parseMethodDescriptor mX8_pass.1.desc).map (fun d => d.parameters.length) = some 4 := by decide +kernel
theorem okX8_pass : mOk mX8_pass := ⟨by decide +kernel, by decide +kernel, rfl, rfl⟩
theorem npX8_passRound : (parseMethodDescriptor mX8_passRound.1.desc).map (fun d => d.parameters.length) = some 1 := by decide +kernel
theorem okX8_passRound : mOk mX8_passRound := ⟨by decide +kernel, by decide +kernel, rfl, rfl⟩
theorem npX8_timeOf : (parseMethodDescriptor mX8_timeOf.1.desc).map (fun d => d.parameters.length) = some 1 := by decide +kernel
theorem okX8_timeOf : mOk mX8_timeOf := ⟨by decide +kernel, by decide +kernel, rfl, rfl⟩
theorem npX9_begin : (parseMethodDescriptor mX9_begin.1.desc).map (fun d => d.parameters.length) = some 0 := by decide +kernel
theorem okX9_begin : mOk mX9_begin := ⟨by decide +kernel, by decide +kernel, rfl, rfl⟩
theorem npX9_best : (parseMethodDescriptor mX9_best.1.desc).map (fun d => d.parameters.length) = some 0 := by decide +kernel
theorem okX9_best : mOk mX9_best := ⟨by decide +kernel, by decide +kernel, rfl, rfl⟩
theorem npX9_clear : (parseMethodDescriptor mX9_clear.1.desc).map (fun d => d.parameters.length) = some 0 := by decide +kernel
theorem okX9_clear : mOk mX9_clear := ⟨by decide +kernel, by decide +kernel, rfl, rfl⟩
theorem npX9_count : (parseMethodDescriptor mX9_count.1.desc).map (fun d => d.parameters.length) = some 1 := by decide +kernel
theorem okX9_count : mOk mX9_count := ⟨by decide +kernel, by decide +kernel, rfl, rfl⟩
theorem npX9_deal : (parseMethodDescriptor mX9_deal.1.desc).map (fun d => d.parameters.length) = some 0 := by decide +kernel
theorem okX9_deal : mOk mX9_deal := ⟨by decide +kernel, by decide +kernel, rfl, rfl⟩
theorem npX9_falls : (parseMethodDescriptor mX9_falls.1.desc).map (fun d => d.parameters.length) = some 1 := by decide +kernel
theorem okX9_falls : mOk mX9_falls := ⟨by decide +kernel, by decide +kernel, rfl, rfl⟩
theorem npX9_init : (parseMethodDescriptor mX9_init.1.desc).map (fun d => d.parameters.length) = some 0 := by decide +kernel
theorem nlX9_init : plainName mX9_init.1.cls = true ∧ mX9_init.1 ≠ yL_law := ⟨by decide +kernel, by decide +kernel⟩
theorem npX9_isProgram : (parseMethodDescriptor mX9_isProgram.1.desc).map (fun d => d.parameters.length) = some 1 := by decide +kernel
theorem okX9_isProgram : mOk mX9_isProgram := ⟨by decide +kernel, by decide +kernel, rfl, rfl⟩
theorem npX9_isSlot : (parseMethodDescriptor mX9_isSlot.1.desc).map (fun d => d.parameters.length) = some 1 := by decide +kernel
theorem okX9_isSlot : mOk mX9_isSlot := ⟨by decide +kernel, by decide +kernel, rfl, rfl⟩
theorem npX9_log : (parseMethodDescriptor mX9_log.1.desc).map (fun d => d.parameters.length) = some 2 := by decide +kernel
theorem okX9_log : mOk mX9_log := ⟨by decide +kernel, by decide +kernel, rfl, rfl⟩
theorem npX9_need : (parseMethodDescriptor mX9_need.1.desc).map (fun d => d.parameters.length) = some 1 := by decide +kernel
theorem okX9_need : mOk mX9_need := ⟨by decide +kernel, by decide +kernel, rfl, rfl⟩
theorem npX9_of : (parseMethodDescriptor mX9_of.1.desc).map (fun d => d.parameters.length) = some 2 := by decide +kernel
theorem okX9_of : mOk mX9_of := ⟨by decide +kernel, by decide +kernel, rfl, rfl⟩
theorem npX9_paste : (parseMethodDescriptor mX9_paste.1.desc).map (fun d => d.parameters.length) = some 5 := by decide +kernel
theorem okX9_paste : mOk mX9_paste := ⟨by decide +kernel, by decide +kernel, rfl, rfl⟩
theorem npX9_program : (parseMethodDescriptor mX9_program.1.desc).map (fun d => d.parameters.length) = some 4 := by decide +kernel
theorem okX9_program : mOk mX9_program := ⟨by decide +kernel, by decide +kernel, rfl, rfl⟩
theorem npX9_row : (parseMethodDescriptor mX9_row.1.desc).map (fun d => d.parameters.length) = some 3 := by decide +kernel
theorem okX9_row : mOk mX9_row := ⟨by decide +kernel, by decide +kernel, rfl, rfl⟩
theorem npX9_rowsThere : (parseMethodDescriptor mX9_rowsThere.1.desc).map (fun d => d.parameters.length) = some 0 := by decide +kernel
theorem okX9_rowsThere : mOk mX9_rowsThere := ⟨by decide +kernel, by decide +kernel, rfl, rfl⟩
theorem npX9_run : (parseMethodDescriptor mX9_run.1.desc).map (fun d => d.parameters.length) = some 1 := by decide +kernel
theorem okX9_run : mOk mX9_run := ⟨by decide +kernel, by decide +kernel, rfl, rfl⟩
theorem npX9_share : (parseMethodDescriptor mX9_share.1.desc).map (fun d => d.parameters.length) = some 1 := by decide +kernel
theorem okX9_share : mOk mX9_share := ⟨by decide +kernel, by decide +kernel, rfl, rfl⟩
theorem npX9_stop : (parseMethodDescriptor mX9_stop.1.desc).map (fun d => d.parameters.length) = some 0 := by decide +kernel
theorem okX9_stop : mOk mX9_stop := ⟨by decide +kernel, by decide +kernel, rfl, rfl⟩
theorem npX9_tear : (parseMethodDescriptor mX9_tear.1.desc).map (fun d => d.parameters.length) = some 1 := by decide +kernel
theorem okX9_tear : mOk mX9_tear := ⟨by decide +kernel, by decide +kernel, rfl, rfl⟩
theorem npX9_terms : (parseMethodDescriptor mX9_terms.1.desc).map (fun d => d.parameters.length) = some 5 := by decide +kernel
theorem okX9_terms : mOk mX9_terms := ⟨by decide +kernel, by decide +kernel, rfl, rfl⟩
theorem npX9_time : (parseMethodDescriptor mX9_time.1.desc).map (fun d => d.parameters.length) = some 2 := by decide +kernel
theorem okX9_time : mOk mX9_time := ⟨by decide +kernel, by decide +kernel, rfl, rfl⟩
theorem npX9_write : (parseMethodDescriptor mX9_write.1.desc).map (fun d => d.parameters.length) = some 3 := by decide +kernel
theorem okX9_write : mOk mX9_write := ⟨by decide +kernel, by decide +kernel, rfl, rfl⟩
abbrev mL_law : aM := (yL_law, cL_law, 4, ret, room_1)
theorem iniL : Cond.initialized RL ∈ aTb := aTb_at 0 (by decide +kernel) (by decide +kernel)
theorem iniX9 : Cond.initialized RX9 ∈ aTb := aTb_at 1 (by decide +kernel) (by decide +kernel)
theorem iniX3 : Cond.initialized RX3 ∈ aTb := aTb_at 2 (by decide +kernel) (by decide +kernel)
theorem iniX1 : Cond.initialized RX1 ∈ aTb := aTb_at 3 (by decide +kernel) (by decide +kernel)
theorem iniX5 : Cond.initialized RX5 ∈ aTb := aTb_at 4 (by decide +kernel) (by decide +kernel)
theorem iniX0 : Cond.initialized RX0 ∈ aTb := aTb_at 5 (by decide +kernel) (by decide +kernel)
theorem iniX8 : Cond.initialized RX8 ∈ aTb := aTb_at 6 (by decide +kernel) (by decide +kernel)
theorem iniX6 : Cond.initialized RX6 ∈ aTb := aTb_at 7 (by decide +kernel) (by decide +kernel)
theorem iniX7 : Cond.initialized RX7 ∈ aTb := aTb_at 8 (by decide +kernel) (by decide +kernel)
theorem iniX4 : Cond.initialized RX4 ∈ aTb := aTb_at 9 (by decide +kernel) (by decide +kernel)
theorem iniX2 : Cond.initialized RX2 ∈ aTb := aTb_at 10 (by decide +kernel) (by decide +kernel)
theorem iniX10 : Cond.initialized RX10 ∈ aTb := aTb_at 11 (by decide +kernel) (by decide +kernel)
theorem iniJ10 : Cond.initialized RJ10 ∈ aTb := aTb_at 12 (by decide +kernel) (by decide +kernel)
theorem iniJ9 : Cond.initialized RJ9 ∈ aTb := aTb_at 13 (by decide +kernel) (by decide +kernel)
theorem codJ9_max_7cf53 : Cond.code mJ9_max_7cf53.1 mJ9_max_7cf53.2.1 mJ9_max_7cf53.2.2.1 mJ9_max_7cf53.2.2.2.1 ∈ aTb := aTb_at 550 (by decide +kernel) (by decide +kernel)
theorem staJ9_max_7cf53 : Cond.static mJ9_max_7cf53.1 ∈ aTb := aTb_at 549 (by decide +kernel) (by decide +kernel)
theorem codJ9_min_7cf53 : Cond.code mJ9_min_7cf53.1 mJ9_min_7cf53.2.1 mJ9_min_7cf53.2.2.1 mJ9_min_7cf53.2.2.2.1 ∈ aTb := aTb_at 441 (by decide +kernel) (by decide +kernel)
theorem staJ9_min_7cf53 : Cond.static mJ9_min_7cf53.1 ∈ aTb := aTb_at 440 (by decide +kernel) (by decide +kernel)
theorem codJ9_min_f86c9 : Cond.code mJ9_min_f86c9.1 mJ9_min_f86c9.2.1 mJ9_min_f86c9.2.2.1 mJ9_min_f86c9.2.2.2.1 ∈ aTb := aTb_at 1015 (by decide +kernel) (by decide +kernel)
theorem staJ9_min_f86c9 : Cond.static mJ9_min_f86c9.1 ∈ aTb := aTb_at 1014 (by decide +kernel) (by decide +kernel)
theorem codX0_atBest : Cond.code mX0_atBest.1 mX0_atBest.2.1 mX0_atBest.2.2.1 mX0_atBest.2.2.2.1 ∈ aTb := aTb_at 535 (by decide +kernel) (by decide +kernel)
theorem insX0_atBest : Cond.instanceMethod mX0_atBest.1 ∈ aTb := aTb_at 533 (by decide +kernel) (by decide +kernel)
theorem selX0_atBest : Cond.selects mX0_atBest.1.cls mX0_atBest.1 mX0_atBest.1 ∈ aTb := aTb_at 534 (by decide +kernel) (by decide +kernel)
theorem codX0_bySavings : Cond.code mX0_bySavings.1 mX0_bySavings.2.1 mX0_bySavings.2.2.1 mX0_bySavings.2.2.2.1 ∈ aTb := aTb_at 514 (by decide +kernel) (by decide +kernel)
theorem insX0_bySavings : Cond.instanceMethod mX0_bySavings.1 ∈ aTb := aTb_at 512 (by decide +kernel) (by decide +kernel)
theorem selX0_bySavings : Cond.selects mX0_bySavings.1.cls mX0_bySavings.1 mX0_bySavings.1 ∈ aTb := aTb_at 513 (by decide +kernel) (by decide +kernel)
theorem codX0_firstBestShare : Cond.code mX0_firstBestShare.1 mX0_firstBestShare.2.1 mX0_firstBestShare.2.2.1 mX0_firstBestShare.2.2.2.1 ∈ aTb := aTb_at 539 (by decide +kernel) (by decide +kernel)
theorem insX0_firstBestShare : Cond.instanceMethod mX0_firstBestShare.1 ∈ aTb := aTb_at 538 (by decide +kernel) (by decide +kernel)
theorem selX0_firstBestShare : Cond.selects mX0_firstBestShare.1.cls mX0_firstBestShare.1 mX0_firstBestShare.1 ∈ aTb := aTb_priv 7 (by decide +kernel) (by decide +kernel)
theorem codX0_init : Cond.code mX0_init.1 mX0_init.2.1 mX0_init.2.2.1 mX0_init.2.2.2.1 ∈ aTb := aTb_at 126 (by decide +kernel) (by decide +kernel)
theorem insX0_init : Cond.instanceMethod mX0_init.1 ∈ aTb := aTb_at 125 (by decide +kernel) (by decide +kernel)
theorem codX0_learnTimes : Cond.code mX0_learnTimes.1 mX0_learnTimes.2.1 mX0_learnTimes.2.2.1 mX0_learnTimes.2.2.2.1 ∈ aTb := aTb_at 488 (by decide +kernel) (by decide +kernel)
theorem insX0_learnTimes : Cond.instanceMethod mX0_learnTimes.1 ∈ aTb := aTb_at 487 (by decide +kernel) (by decide +kernel)
theorem selX0_learnTimes : Cond.selects mX0_learnTimes.1.cls mX0_learnTimes.1 mX0_learnTimes.1 ∈ aTb := aTb_priv 4 (by decide +kernel) (by decide +kernel)
theorem codX0_needInSteps : Cond.code mX0_needInSteps.1 mX0_needInSteps.2.1 mX0_needInSteps.2.2.1 mX0_needInSteps.2.2.2.1 ∈ aTb := aTb_at 484 (by decide +kernel) (by decide +kernel)
theorem insX0_needInSteps : Cond.instanceMethod mX0_needInSteps.1 ∈ aTb := aTb_at 482 (by decide +kernel) (by decide +kernel)
theorem selX0_needInSteps : Cond.selects mX0_needInSteps.1.cls mX0_needInSteps.1 mX0_needInSteps.1 ∈ aTb := aTb_at 483 (by decide +kernel) (by decide +kernel)
theorem codX0_sumOfTimes : Cond.code mX0_sumOfTimes.1 mX0_sumOfTimes.2.1 mX0_sumOfTimes.2.2.1 mX0_sumOfTimes.2.2.2.1 ∈ aTb := aTb_at 527 (by decide +kernel) (by decide +kernel)
theorem insX0_sumOfTimes : Cond.instanceMethod mX0_sumOfTimes.1 ∈ aTb := aTb_at 526 (by decide +kernel) (by decide +kernel)
theorem selX0_sumOfTimes : Cond.selects mX0_sumOfTimes.1.cls mX0_sumOfTimes.1 mX0_sumOfTimes.1 ∈ aTb := aTb_priv 6 (by decide +kernel) (by decide +kernel)
theorem codX0_sumWith : Cond.code mX0_sumWith.1 mX0_sumWith.2.1 mX0_sumWith.2.2.1 mX0_sumWith.2.2.2.1 ∈ aTb := aTb_at 543 (by decide +kernel) (by decide +kernel)
theorem insX0_sumWith : Cond.instanceMethod mX0_sumWith.1 ∈ aTb := aTb_at 542 (by decide +kernel) (by decide +kernel)
theorem selX0_sumWith : Cond.selects mX0_sumWith.1.cls mX0_sumWith.1 mX0_sumWith.1 ∈ aTb := aTb_priv 8 (by decide +kernel) (by decide +kernel)
theorem codX0_takeFirstBest : Cond.code mX0_takeFirstBest.1 mX0_takeFirstBest.2.1 mX0_takeFirstBest.2.2.1 mX0_takeFirstBest.2.2.2.1 ∈ aTb := aTb_at 547 (by decide +kernel) (by decide +kernel)
theorem insX0_takeFirstBest : Cond.instanceMethod mX0_takeFirstBest.1 ∈ aTb := aTb_at 546 (by decide +kernel) (by decide +kernel)
theorem selX0_takeFirstBest : Cond.selects mX0_takeFirstBest.1.cls mX0_takeFirstBest.1 mX0_takeFirstBest.1 ∈ aTb := aTb_priv 9 (by decide +kernel) (by decide +kernel)
theorem codX0_timeByRoom : Cond.code mX0_timeByRoom.1 mX0_timeByRoom.2.1 mX0_timeByRoom.2.2.1 mX0_timeByRoom.2.2.2.1 ∈ aTb := aTb_at 434 (by decide +kernel) (by decide +kernel)
theorem insX0_timeByRoom : Cond.instanceMethod mX0_timeByRoom.1 ∈ aTb := aTb_at 432 (by decide +kernel) (by decide +kernel)
theorem selX0_timeByRoom : Cond.selects mX0_timeByRoom.1.cls mX0_timeByRoom.1 mX0_timeByRoom.1 ∈ aTb := aTb_at 433 (by decide +kernel) (by decide +kernel)
theorem codX0_whoSavesMost : Cond.code mX0_whoSavesMost.1 mX0_whoSavesMost.2.1 mX0_whoSavesMost.2.2.1 mX0_whoSavesMost.2.2.2.1 ∈ aTb := aTb_at 523 (by decide +kernel) (by decide +kernel)
theorem insX0_whoSavesMost : Cond.instanceMethod mX0_whoSavesMost.1 ∈ aTb := aTb_at 522 (by decide +kernel) (by decide +kernel)
theorem selX0_whoSavesMost : Cond.selects mX0_whoSavesMost.1.cls mX0_whoSavesMost.1 mX0_whoSavesMost.1 ∈ aTb := aTb_priv 5 (by decide +kernel) (by decide +kernel)
theorem codX10_acts : Cond.code mX10_acts.1 mX10_acts.2.1 mX10_acts.2.2.1 mX10_acts.2.2.2.1 ∈ aTb := aTb_at 1047 (by decide +kernel) (by decide +kernel)
theorem insX10_acts : Cond.instanceMethod mX10_acts.1 ∈ aTb := aTb_at 1046 (by decide +kernel) (by decide +kernel)
theorem selX10_acts : Cond.selects mX10_acts.1.cls mX10_acts.1 mX10_acts.1 ∈ aTb := aTb_priv 39 (by decide +kernel) (by decide +kernel)
theorem codX10_alone : Cond.code mX10_alone.1 mX10_alone.2.1 mX10_alone.2.2.1 mX10_alone.2.2.2.1 ∈ aTb := aTb_at 968 (by decide +kernel) (by decide +kernel)
theorem insX10_alone : Cond.instanceMethod mX10_alone.1 ∈ aTb := aTb_at 967 (by decide +kernel) (by decide +kernel)
theorem selX10_alone : Cond.selects mX10_alone.1.cls mX10_alone.1 mX10_alone.1 ∈ aTb := aTb_priv 30 (by decide +kernel) (by decide +kernel)
theorem codX10_areNeeds : Cond.code mX10_areNeeds.1 mX10_areNeeds.2.1 mX10_areNeeds.2.2.1 mX10_areNeeds.2.2.2.1 ∈ aTb := aTb_at 1003 (by decide +kernel) (by decide +kernel)
theorem insX10_areNeeds : Cond.instanceMethod mX10_areNeeds.1 ∈ aTb := aTb_at 1002 (by decide +kernel) (by decide +kernel)
theorem selX10_areNeeds : Cond.selects mX10_areNeeds.1.cls mX10_areNeeds.1 mX10_areNeeds.1 ∈ aTb := aTb_priv 34 (by decide +kernel) (by decide +kernel)
theorem codX10_asks : Cond.code mX10_asks.1 mX10_asks.2.1 mX10_asks.2.2.1 mX10_asks.2.2.2.1 ∈ aTb := aTb_at 1072 (by decide +kernel) (by decide +kernel)
theorem insX10_asks : Cond.instanceMethod mX10_asks.1 ∈ aTb := aTb_at 1071 (by decide +kernel) (by decide +kernel)
theorem selX10_asks : Cond.selects mX10_asks.1.cls mX10_asks.1 mX10_asks.1 ∈ aTb := aTb_priv 45 (by decide +kernel) (by decide +kernel)
theorem codX10_begin : Cond.code mX10_begin.1 mX10_begin.2.1 mX10_begin.2.2.1 mX10_begin.2.2.2.1 ∈ aTb := aTb_at 1023 (by decide +kernel) (by decide +kernel)
theorem insX10_begin : Cond.instanceMethod mX10_begin.1 ∈ aTb := aTb_at 1021 (by decide +kernel) (by decide +kernel)
theorem selX10_begin : Cond.selects mX10_begin.1.cls mX10_begin.1 mX10_begin.1 ∈ aTb := aTb_at 1022 (by decide +kernel) (by decide +kernel)
theorem codX10_best : Cond.code mX10_best.1 mX10_best.2.1 mX10_best.2.2.1 mX10_best.2.2.2.1 ∈ aTb := aTb_at 1011 (by decide +kernel) (by decide +kernel)
theorem insX10_best : Cond.instanceMethod mX10_best.1 ∈ aTb := aTb_at 1009 (by decide +kernel) (by decide +kernel)
theorem selX10_best : Cond.selects mX10_best.1.cls mX10_best.1 mX10_best.1 ∈ aTb := aTb_at 1010 (by decide +kernel) (by decide +kernel)
theorem codX10_clear : Cond.code mX10_clear.1 mX10_clear.2.1 mX10_clear.2.2.1 mX10_clear.2.2.2.1 ∈ aTb := aTb_at 956 (by decide +kernel) (by decide +kernel)
theorem insX10_clear : Cond.instanceMethod mX10_clear.1 ∈ aTb := aTb_at 954 (by decide +kernel) (by decide +kernel)
theorem selX10_clear : Cond.selects mX10_clear.1.cls mX10_clear.1 mX10_clear.1 ∈ aTb := aTb_at 955 (by decide +kernel) (by decide +kernel)
theorem codX10_collects : Cond.code mX10_collects.1 mX10_collects.2.1 mX10_collects.2.2.1 mX10_collects.2.2.2.1 ∈ aTb := aTb_at 1068 (by decide +kernel) (by decide +kernel)
theorem insX10_collects : Cond.instanceMethod mX10_collects.1 ∈ aTb := aTb_at 1067 (by decide +kernel) (by decide +kernel)
theorem selX10_collects : Cond.selects mX10_collects.1.cls mX10_collects.1 mX10_collects.1 ∈ aTb := aTb_priv 44 (by decide +kernel) (by decide +kernel)
theorem codX10_cost : Cond.code mX10_cost.1 mX10_cost.2.1 mX10_cost.2.2.1 mX10_cost.2.2.2.1 ∈ aTb := aTb_at 974 (by decide +kernel) (by decide +kernel)
theorem staX10_cost : Cond.static mX10_cost.1 ∈ aTb := aTb_at 973 (by decide +kernel) (by decide +kernel)
theorem codX10_count : Cond.code mX10_count.1 mX10_count.2.1 mX10_count.2.2.1 mX10_count.2.2.2.1 ∈ aTb := aTb_at 1105 (by decide +kernel) (by decide +kernel)
theorem insX10_count : Cond.instanceMethod mX10_count.1 ∈ aTb := aTb_at 1103 (by decide +kernel) (by decide +kernel)
theorem selX10_count : Cond.selects mX10_count.1.cls mX10_count.1 mX10_count.1 ∈ aTb := aTb_at 1104 (by decide +kernel) (by decide +kernel)
theorem codX10_cut : Cond.code mX10_cut.1 mX10_cut.2.1 mX10_cut.2.2.1 mX10_cut.2.2.2.1 ∈ aTb := aTb_at 936 (by decide +kernel) (by decide +kernel)
theorem staX10_cut : Cond.static mX10_cut.1 ∈ aTb := aTb_at 935 (by decide +kernel) (by decide +kernel)
theorem codX10_deal : Cond.code mX10_deal.1 mX10_deal.2.1 mX10_deal.2.2.1 mX10_deal.2.2.2.1 ∈ aTb := aTb_at 995 (by decide +kernel) (by decide +kernel)
theorem insX10_deal : Cond.instanceMethod mX10_deal.1 ∈ aTb := aTb_at 993 (by decide +kernel) (by decide +kernel)
theorem selX10_deal : Cond.selects mX10_deal.1.cls mX10_deal.1 mX10_deal.1 ∈ aTb := aTb_at 994 (by decide +kernel) (by decide +kernel)
theorem codX10_dealt : Cond.code mX10_dealt.1 mX10_dealt.2.1 mX10_dealt.2.2.1 mX10_dealt.2.2.2.1 ∈ aTb := aTb_at 999 (by decide +kernel) (by decide +kernel)
theorem insX10_dealt : Cond.instanceMethod mX10_dealt.1 ∈ aTb := aTb_at 998 (by decide +kernel) (by decide +kernel)
theorem selX10_dealt : Cond.selects mX10_dealt.1.cls mX10_dealt.1 mX10_dealt.1 ∈ aTb := aTb_priv 33 (by decide +kernel) (by decide +kernel)
theorem codX10_falls : Cond.code mX10_falls.1 mX10_falls.2.1 mX10_falls.2.2.1 mX10_falls.2.2.2.1 ∈ aTb := aTb_at 990 (by decide +kernel) (by decide +kernel)
theorem insX10_falls : Cond.instanceMethod mX10_falls.1 ∈ aTb := aTb_at 988 (by decide +kernel) (by decide +kernel)
theorem selX10_falls : Cond.selects mX10_falls.1.cls mX10_falls.1 mX10_falls.1 ∈ aTb := aTb_at 989 (by decide +kernel) (by decide +kernel)
theorem codX10_gives : Cond.code mX10_gives.1 mX10_gives.2.1 mX10_gives.2.2.1 mX10_gives.2.2.2.1 ∈ aTb := aTb_at 1081 (by decide +kernel) (by decide +kernel)
theorem insX10_gives : Cond.instanceMethod mX10_gives.1 ∈ aTb := aTb_at 1080 (by decide +kernel) (by decide +kernel)
theorem selX10_gives : Cond.selects mX10_gives.1.cls mX10_gives.1 mX10_gives.1 ∈ aTb := aTb_priv 47 (by decide +kernel) (by decide +kernel)
theorem codX10_holds : Cond.code mX10_holds.1 mX10_holds.2.1 mX10_holds.2.2.1 mX10_holds.2.2.2.1 ∈ aTb := aTb_at 971 (by decide +kernel) (by decide +kernel)
theorem staX10_holds : Cond.static mX10_holds.1 ∈ aTb := aTb_at 970 (by decide +kernel) (by decide +kernel)
theorem codX10_in : Cond.code mX10_in.1 mX10_in.2.1 mX10_in.2.2.1 mX10_in.2.2.2.1 ∈ aTb := aTb_at 925 (by decide +kernel) (by decide +kernel)
theorem staX10_in : Cond.static mX10_in.1 ∈ aTb := aTb_at 924 (by decide +kernel) (by decide +kernel)
theorem codX10_init : Cond.code mX10_init.1 mX10_init.2.1 mX10_init.2.2.1 mX10_init.2.2.2.1 ∈ aTb := aTb_at 774 (by decide +kernel) (by decide +kernel)
theorem insX10_init : Cond.instanceMethod mX10_init.1 ∈ aTb := aTb_at 773 (by decide +kernel) (by decide +kernel)
theorem codX10_isAny : Cond.code mX10_isAny.1 mX10_isAny.2.1 mX10_isAny.2.2.1 mX10_isAny.2.2.2.1 ∈ aTb := aTb_at 1035 (by decide +kernel) (by decide +kernel)
theorem insX10_isAny : Cond.instanceMethod mX10_isAny.1 ∈ aTb := aTb_at 1034 (by decide +kernel) (by decide +kernel)
theorem selX10_isAny : Cond.selects mX10_isAny.1.cls mX10_isAny.1 mX10_isAny.1 ∈ aTb := aTb_priv 36 (by decide +kernel) (by decide +kernel)
theorem codX10_isOver : Cond.code mX10_isOver.1 mX10_isOver.2.1 mX10_isOver.2.2.1 mX10_isOver.2.2.2.1 ∈ aTb := aTb_at 1060 (by decide +kernel) (by decide +kernel)
theorem insX10_isOver : Cond.instanceMethod mX10_isOver.1 ∈ aTb := aTb_at 1059 (by decide +kernel) (by decide +kernel)
theorem selX10_isOver : Cond.selects mX10_isOver.1.cls mX10_isOver.1 mX10_isOver.1 ∈ aTb := aTb_priv 42 (by decide +kernel) (by decide +kernel)
theorem codX10_isProgram : Cond.code mX10_isProgram.1 mX10_isProgram.2.1 mX10_isProgram.2.2.1 mX10_isProgram.2.2.2.1 ∈ aTb := aTb_at 964 (by decide +kernel) (by decide +kernel)
theorem insX10_isProgram : Cond.instanceMethod mX10_isProgram.1 ∈ aTb := aTb_at 963 (by decide +kernel) (by decide +kernel)
theorem selX10_isProgram : Cond.selects mX10_isProgram.1.cls mX10_isProgram.1 mX10_isProgram.1 ∈ aTb := aTb_priv 29 (by decide +kernel) (by decide +kernel)
theorem codX10_isSlot : Cond.code mX10_isSlot.1 mX10_isSlot.2.1 mX10_isSlot.2.2.1 mX10_isSlot.2.2.2.1 ∈ aTb := aTb_at 922 (by decide +kernel) (by decide +kernel)
theorem staX10_isSlot : Cond.static mX10_isSlot.1 ∈ aTb := aTb_at 921 (by decide +kernel) (by decide +kernel)
theorem codX10_isThere : Cond.code mX10_isThere.1 mX10_isThere.2.1 mX10_isThere.2.2.1 mX10_isThere.2.2.2.1 ∈ aTb := aTb_at 1039 (by decide +kernel) (by decide +kernel)
theorem insX10_isThere : Cond.instanceMethod mX10_isThere.1 ∈ aTb := aTb_at 1038 (by decide +kernel) (by decide +kernel)
theorem selX10_isThere : Cond.selects mX10_isThere.1.cls mX10_isThere.1 mX10_isThere.1 ∈ aTb := aTb_priv 37 (by decide +kernel) (by decide +kernel)
theorem codX10_isUp : Cond.code mX10_isUp.1 mX10_isUp.2.1 mX10_isUp.2.2.1 mX10_isUp.2.2.2.1 ∈ aTb := aTb_at 1085 (by decide +kernel) (by decide +kernel)
theorem insX10_isUp : Cond.instanceMethod mX10_isUp.1 ∈ aTb := aTb_at 1084 (by decide +kernel) (by decide +kernel)
theorem selX10_isUp : Cond.selects mX10_isUp.1.cls mX10_isUp.1 mX10_isUp.1 ∈ aTb := aTb_priv 48 (by decide +kernel) (by decide +kernel)
theorem codX10_log : Cond.code mX10_log.1 mX10_log.2.1 mX10_log.2.2.1 mX10_log.2.2.2.1 ∈ aTb := aTb_at 1109 (by decide +kernel) (by decide +kernel)
theorem insX10_log : Cond.instanceMethod mX10_log.1 ∈ aTb := aTb_at 1107 (by decide +kernel) (by decide +kernel)
theorem selX10_log : Cond.selects mX10_log.1.cls mX10_log.1 mX10_log.1 ∈ aTb := aTb_at 1108 (by decide +kernel) (by decide +kernel)
theorem codX10_makes : Cond.code mX10_makes.1 mX10_makes.2.1 mX10_makes.2.2.1 mX10_makes.2.2.2.1 ∈ aTb := aTb_at 1064 (by decide +kernel) (by decide +kernel)
theorem insX10_makes : Cond.instanceMethod mX10_makes.1 ∈ aTb := aTb_at 1063 (by decide +kernel) (by decide +kernel)
theorem selX10_makes : Cond.selects mX10_makes.1.cls mX10_makes.1 mX10_makes.1 ∈ aTb := aTb_priv 43 (by decide +kernel) (by decide +kernel)
theorem codX10_need : Cond.code mX10_need.1 mX10_need.2.1 mX10_need.2.2.1 mX10_need.2.2.2.1 ∈ aTb := aTb_at 978 (by decide +kernel) (by decide +kernel)
theorem insX10_need : Cond.instanceMethod mX10_need.1 ∈ aTb := aTb_at 976 (by decide +kernel) (by decide +kernel)
theorem selX10_need : Cond.selects mX10_need.1.cls mX10_need.1 mX10_need.1 ∈ aTb := aTb_at 977 (by decide +kernel) (by decide +kernel)
theorem codX10_needOf : Cond.code mX10_needOf.1 mX10_needOf.2.1 mX10_needOf.2.2.1 mX10_needOf.2.2.2.1 ∈ aTb := aTb_at 982 (by decide +kernel) (by decide +kernel)
theorem insX10_needOf : Cond.instanceMethod mX10_needOf.1 ∈ aTb := aTb_at 981 (by decide +kernel) (by decide +kernel)
theorem selX10_needOf : Cond.selects mX10_needOf.1.cls mX10_needOf.1 mX10_needOf.1 ∈ aTb := aTb_priv 31 (by decide +kernel) (by decide +kernel)
theorem codX10_of : Cond.code mX10_of.1 mX10_of.2.1 mX10_of.2.2.1 mX10_of.2.2.2.1 ∈ aTb := aTb_at 1101 (by decide +kernel) (by decide +kernel)
theorem insX10_of : Cond.instanceMethod mX10_of.1 ∈ aTb := aTb_at 1099 (by decide +kernel) (by decide +kernel)
theorem selX10_of : Cond.selects mX10_of.1.cls mX10_of.1 mX10_of.1 ∈ aTb := aTb_at 1100 (by decide +kernel) (by decide +kernel)
theorem codX10_passes : Cond.code mX10_passes.1 mX10_passes.2.1 mX10_passes.2.2.1 mX10_passes.2.2.2.1 ∈ aTb := aTb_at 1051 (by decide +kernel) (by decide +kernel)
theorem insX10_passes : Cond.instanceMethod mX10_passes.1 ∈ aTb := aTb_at 1050 (by decide +kernel) (by decide +kernel)
theorem selX10_passes : Cond.selects mX10_passes.1.cls mX10_passes.1 mX10_passes.1 ∈ aTb := aTb_priv 40 (by decide +kernel) (by decide +kernel)
theorem codX10_paste : Cond.code mX10_paste.1 mX10_paste.2.1 mX10_paste.2.2.1 mX10_paste.2.2.2.1 ∈ aTb := aTb_at 940 (by decide +kernel) (by decide +kernel)
theorem insX10_paste : Cond.instanceMethod mX10_paste.1 ∈ aTb := aTb_at 938 (by decide +kernel) (by decide +kernel)
theorem selX10_paste : Cond.selects mX10_paste.1.cls mX10_paste.1 mX10_paste.1 ∈ aTb := aTb_at 939 (by decide +kernel) (by decide +kernel)
theorem codX10_program : Cond.code mX10_program.1 mX10_program.2.1 mX10_program.2.2.1 mX10_program.2.2.2.1 ∈ aTb := aTb_at 948 (by decide +kernel) (by decide +kernel)
theorem insX10_program : Cond.instanceMethod mX10_program.1 ∈ aTb := aTb_at 946 (by decide +kernel) (by decide +kernel)
theorem selX10_program : Cond.selects mX10_program.1.cls mX10_program.1 mX10_program.1 ∈ aTb := aTb_at 947 (by decide +kernel) (by decide +kernel)
theorem codX10_redeals : Cond.code mX10_redeals.1 mX10_redeals.2.1 mX10_redeals.2.2.1 mX10_redeals.2.2.2.1 ∈ aTb := aTb_at 1089 (by decide +kernel) (by decide +kernel)
theorem insX10_redeals : Cond.instanceMethod mX10_redeals.1 ∈ aTb := aTb_at 1088 (by decide +kernel) (by decide +kernel)
theorem selX10_redeals : Cond.selects mX10_redeals.1.cls mX10_redeals.1 mX10_redeals.1 ∈ aTb := aTb_priv 49 (by decide +kernel) (by decide +kernel)
theorem codX10_row : Cond.code mX10_row.1 mX10_row.2.1 mX10_row.2.2.1 mX10_row.2.2.2.1 ∈ aTb := aTb_at 919 (by decide +kernel) (by decide +kernel)
theorem insX10_row : Cond.instanceMethod mX10_row.1 ∈ aTb := aTb_at 917 (by decide +kernel) (by decide +kernel)
theorem selX10_row : Cond.selects mX10_row.1.cls mX10_row.1 mX10_row.1 ∈ aTb := aTb_at 918 (by decide +kernel) (by decide +kernel)
theorem codX10_run : Cond.code mX10_run.1 mX10_run.2.1 mX10_run.2.2.1 mX10_run.2.2.2.1 ∈ aTb := aTb_at 1031 (by decide +kernel) (by decide +kernel)
theorem insX10_run : Cond.instanceMethod mX10_run.1 ∈ aTb := aTb_at 1029 (by decide +kernel) (by decide +kernel)
theorem selX10_run : Cond.selects mX10_run.1.cls mX10_run.1 mX10_run.1 ∈ aTb := aTb_at 1030 (by decide +kernel) (by decide +kernel)
theorem codX10_s : Cond.code mX10_s.1 mX10_s.2.1 mX10_s.2.2.1 mX10_s.2.2.2.1 ∈ aTb := aTb_at 1097 (by decide +kernel) (by decide +kernel)
theorem insX10_s : Cond.instanceMethod mX10_s.1 ∈ aTb := aTb_at 1096 (by decide +kernel) (by decide +kernel)
theorem selX10_s : Cond.selects mX10_s.1.cls mX10_s.1 mX10_s.1 ∈ aTb := aTb_priv 51 (by decide +kernel) (by decide +kernel)
theorem codX10_share : Cond.code mX10_share.1 mX10_share.2.1 mX10_share.2.2.1 mX10_share.2.2.2.1 ∈ aTb := aTb_at 1019 (by decide +kernel) (by decide +kernel)
theorem insX10_share : Cond.instanceMethod mX10_share.1 ∈ aTb := aTb_at 1017 (by decide +kernel) (by decide +kernel)
theorem selX10_share : Cond.selects mX10_share.1.cls mX10_share.1 mX10_share.1 ∈ aTb := aTb_at 1018 (by decide +kernel) (by decide +kernel)
theorem codX10_spare : Cond.code mX10_spare.1 mX10_spare.2.1 mX10_spare.2.2.1 mX10_spare.2.2.2.1 ∈ aTb := aTb_at 1076 (by decide +kernel) (by decide +kernel)
theorem insX10_spare : Cond.instanceMethod mX10_spare.1 ∈ aTb := aTb_at 1075 (by decide +kernel) (by decide +kernel)
theorem selX10_spare : Cond.selects mX10_spare.1.cls mX10_spare.1 mX10_spare.1 ∈ aTb := aTb_priv 46 (by decide +kernel) (by decide +kernel)
theorem codX10_stop : Cond.code mX10_stop.1 mX10_stop.2.1 mX10_stop.2.2.1 mX10_stop.2.2.2.1 ∈ aTb := aTb_at 1027 (by decide +kernel) (by decide +kernel)
theorem insX10_stop : Cond.instanceMethod mX10_stop.1 ∈ aTb := aTb_at 1025 (by decide +kernel) (by decide +kernel)
theorem selX10_stop : Cond.selects mX10_stop.1.cls mX10_stop.1 mX10_stop.1 ∈ aTb := aTb_at 1026 (by decide +kernel) (by decide +kernel)
theorem codX10_sum : Cond.code mX10_sum.1 mX10_sum.2.1 mX10_sum.2.2.1 mX10_sum.2.2.2.1 ∈ aTb := aTb_at 1007 (by decide +kernel) (by decide +kernel)
theorem insX10_sum : Cond.instanceMethod mX10_sum.1 ∈ aTb := aTb_at 1006 (by decide +kernel) (by decide +kernel)
theorem selX10_sum : Cond.selects mX10_sum.1.cls mX10_sum.1 mX10_sum.1 ∈ aTb := aTb_priv 35 (by decide +kernel) (by decide +kernel)
theorem codX10_swung : Cond.code mX10_swung.1 mX10_swung.2.1 mX10_swung.2.2.1 mX10_swung.2.2.2.1 ∈ aTb := aTb_at 1093 (by decide +kernel) (by decide +kernel)
theorem insX10_swung : Cond.instanceMethod mX10_swung.1 ∈ aTb := aTb_at 1092 (by decide +kernel) (by decide +kernel)
theorem selX10_swung : Cond.selects mX10_swung.1.cls mX10_swung.1 mX10_swung.1 ∈ aTb := aTb_priv 50 (by decide +kernel) (by decide +kernel)
theorem codX10_tear : Cond.code mX10_tear.1 mX10_tear.2.1 mX10_tear.2.2.1 mX10_tear.2.2.2.1 ∈ aTb := aTb_at 929 (by decide +kernel) (by decide +kernel)
theorem insX10_tear : Cond.instanceMethod mX10_tear.1 ∈ aTb := aTb_at 927 (by decide +kernel) (by decide +kernel)
theorem selX10_tear : Cond.selects mX10_tear.1.cls mX10_tear.1 mX10_tear.1 ∈ aTb := aTb_at 928 (by decide +kernel) (by decide +kernel)
theorem codX10_tells : Cond.code mX10_tells.1 mX10_tells.2.1 mX10_tells.2.2.1 mX10_tells.2.2.2.1 ∈ aTb := aTb_at 1056 (by decide +kernel) (by decide +kernel)
theorem insX10_tells : Cond.instanceMethod mX10_tells.1 ∈ aTb := aTb_at 1055 (by decide +kernel) (by decide +kernel)
theorem selX10_tells : Cond.selects mX10_tells.1.cls mX10_tells.1 mX10_tells.1 ∈ aTb := aTb_priv 41 (by decide +kernel) (by decide +kernel)
theorem codX10_terms : Cond.code mX10_terms.1 mX10_terms.2.1 mX10_terms.2.2.1 mX10_terms.2.2.2.1 ∈ aTb := aTb_at 944 (by decide +kernel) (by decide +kernel)
theorem insX10_terms : Cond.instanceMethod mX10_terms.1 ∈ aTb := aTb_at 942 (by decide +kernel) (by decide +kernel)
theorem selX10_terms : Cond.selects mX10_terms.1.cls mX10_terms.1 mX10_terms.1 ∈ aTb := aTb_at 943 (by decide +kernel) (by decide +kernel)
theorem codX10_ticks : Cond.code mX10_ticks.1 mX10_ticks.2.1 mX10_ticks.2.2.1 mX10_ticks.2.2.2.1 ∈ aTb := aTb_at 1043 (by decide +kernel) (by decide +kernel)
theorem insX10_ticks : Cond.instanceMethod mX10_ticks.1 ∈ aTb := aTb_at 1042 (by decide +kernel) (by decide +kernel)
theorem selX10_ticks : Cond.selects mX10_ticks.1.cls mX10_ticks.1 mX10_ticks.1 ∈ aTb := aTb_priv 38 (by decide +kernel) (by decide +kernel)
theorem codX10_time : Cond.code mX10_time.1 mX10_time.2.1 mX10_time.2.2.1 mX10_time.2.2.2.1 ∈ aTb := aTb_at 960 (by decide +kernel) (by decide +kernel)
theorem insX10_time : Cond.instanceMethod mX10_time.1 ∈ aTb := aTb_at 958 (by decide +kernel) (by decide +kernel)
theorem selX10_time : Cond.selects mX10_time.1.cls mX10_time.1 mX10_time.1 ∈ aTb := aTb_at 959 (by decide +kernel) (by decide +kernel)
theorem codX10_up : Cond.code mX10_up.1 mX10_up.2.1 mX10_up.2.2.1 mX10_up.2.2.2.1 ∈ aTb := aTb_at 986 (by decide +kernel) (by decide +kernel)
theorem insX10_up : Cond.instanceMethod mX10_up.1 ∈ aTb := aTb_at 985 (by decide +kernel) (by decide +kernel)
theorem selX10_up : Cond.selects mX10_up.1.cls mX10_up.1 mX10_up.1 ∈ aTb := aTb_priv 32 (by decide +kernel) (by decide +kernel)
theorem codX10_write : Cond.code mX10_write.1 mX10_write.2.1 mX10_write.2.2.1 mX10_write.2.2.2.1 ∈ aTb := aTb_at 933 (by decide +kernel) (by decide +kernel)
theorem insX10_write : Cond.instanceMethod mX10_write.1 ∈ aTb := aTb_at 931 (by decide +kernel) (by decide +kernel)
theorem selX10_write : Cond.selects mX10_write.1.cls mX10_write.1 mX10_write.1 ∈ aTb := aTb_at 932 (by decide +kernel) (by decide +kernel)
theorem codX1_become : Cond.code mX1_become.1 mX1_become.2.1 mX1_become.2.2.1 mX1_become.2.2.2.1 ∈ aTb := aTb_at 418 (by decide +kernel) (by decide +kernel)
theorem insX1_become : Cond.instanceMethod mX1_become.1 ∈ aTb := aTb_at 416 (by decide +kernel) (by decide +kernel)
theorem selX1_become : Cond.selects mX1_become.1.cls mX1_become.1 mX1_become.1 ∈ aTb := aTb_at 417 (by decide +kernel) (by decide +kernel)
theorem codX1_costToCollect : Cond.code mX1_costToCollect.1 mX1_costToCollect.2.1 mX1_costToCollect.2.2.1 mX1_costToCollect.2.2.2.1 ∈ aTb := aTb_at 468 (by decide +kernel) (by decide +kernel)
theorem insX1_costToCollect : Cond.instanceMethod mX1_costToCollect.1 ∈ aTb := aTb_at 466 (by decide +kernel) (by decide +kernel)
theorem selX1_costToCollect : Cond.selects mX1_costToCollect.1.cls mX1_costToCollect.1 mX1_costToCollect.1 ∈ aTb := aTb_at 467 (by decide +kernel) (by decide +kernel)
theorem codX1_fallsEverSlower : Cond.code mX1_fallsEverSlower.1 mX1_fallsEverSlower.2.1 mX1_fallsEverSlower.2.2.1 mX1_fallsEverSlower.2.2.2.1 ∈ aTb := aTb_at 505 (by decide +kernel) (by decide +kernel)
theorem insX1_fallsEverSlower : Cond.instanceMethod mX1_fallsEverSlower.1 ∈ aTb := aTb_at 503 (by decide +kernel) (by decide +kernel)
theorem selX1_fallsEverSlower : Cond.selects mX1_fallsEverSlower.1.cls mX1_fallsEverSlower.1 mX1_fallsEverSlower.1 ∈ aTb := aTb_at 504 (by decide +kernel) (by decide +kernel)
theorem codX1_holds : Cond.code mX1_holds.1 mX1_holds.2.1 mX1_holds.2.2.1 mX1_holds.2.2.2.1 ∈ aTb := aTb_at 449 (by decide +kernel) (by decide +kernel)
theorem insX1_holds : Cond.instanceMethod mX1_holds.1 ∈ aTb := aTb_at 447 (by decide +kernel) (by decide +kernel)
theorem selX1_holds : Cond.selects mX1_holds.1.cls mX1_holds.1 mX1_holds.1 ∈ aTb := aTb_at 448 (by decide +kernel) (by decide +kernel)
theorem codX1_init : Cond.code mX1_init.1 mX1_init.2.1 mX1_init.2.2.1 mX1_init.2.2.2.1 ∈ aTb := aTb_at 50 (by decide +kernel) (by decide +kernel)
theorem insX1_init : Cond.instanceMethod mX1_init.1 ∈ aTb := aTb_at 49 (by decide +kernel) (by decide +kernel)
theorem codX1_isMake : Cond.code mX1_isMake.1 mX1_isMake.2.1 mX1_isMake.2.2.1 mX1_isMake.2.2.2.1 ∈ aTb := aTb_at 460 (by decide +kernel) (by decide +kernel)
theorem staX1_isMake : Cond.static mX1_isMake.1 ∈ aTb := aTb_at 459 (by decide +kernel) (by decide +kernel)
theorem codX1_roomFor : Cond.code mX1_roomFor.1 mX1_roomFor.2.1 mX1_roomFor.2.2.1 mX1_roomFor.2.2.2.1 ∈ aTb := aTb_at 635 (by decide +kernel) (by decide +kernel)
theorem insX1_roomFor : Cond.instanceMethod mX1_roomFor.1 ∈ aTb := aTb_at 633 (by decide +kernel) (by decide +kernel)
theorem selX1_roomFor : Cond.selects mX1_roomFor.1.cls mX1_roomFor.1 mX1_roomFor.1 ∈ aTb := aTb_at 634 (by decide +kernel) (by decide +kernel)
theorem codX2_cellsOfStep : Cond.code mX2_cellsOfStep.1 mX2_cellsOfStep.2.1 mX2_cellsOfStep.2.2.1 mX2_cellsOfStep.2.2.2.1 ∈ aTb := aTb_at 729 (by decide +kernel) (by decide +kernel)
theorem insX2_cellsOfStep : Cond.instanceMethod mX2_cellsOfStep.1 ∈ aTb := aTb_at 728 (by decide +kernel) (by decide +kernel)
theorem selX2_cellsOfStep : Cond.selects mX2_cellsOfStep.1.cls mX2_cellsOfStep.1 mX2_cellsOfStep.1 ∈ aTb := aTb_priv 26 (by decide +kernel) (by decide +kernel)
theorem codX2_collectNow : Cond.code mX2_collectNow.1 mX2_collectNow.2.1 mX2_collectNow.2.2.1 mX2_collectNow.2.2.2.1 ∈ aTb := aTb_at 618 (by decide +kernel) (by decide +kernel)
theorem insX2_collectNow : Cond.instanceMethod mX2_collectNow.1 ∈ aTb := aTb_at 616 (by decide +kernel) (by decide +kernel)
theorem selX2_collectNow : Cond.selects mX2_collectNow.1.cls mX2_collectNow.1 mX2_collectNow.1 ∈ aTb := aTb_at 617 (by decide +kernel) (by decide +kernel)
theorem codX2_endRound : Cond.code mX2_endRound.1 mX2_endRound.2.1 mX2_endRound.2.2.1 mX2_endRound.2.2.2.1 ∈ aTb := aTb_at 687 (by decide +kernel) (by decide +kernel)
theorem insX2_endRound : Cond.instanceMethod mX2_endRound.1 ∈ aTb := aTb_at 685 (by decide +kernel) (by decide +kernel)
theorem selX2_endRound : Cond.selects mX2_endRound.1.cls mX2_endRound.1 mX2_endRound.1 ∈ aTb := aTb_at 686 (by decide +kernel) (by decide +kernel)
theorem codX2_fits : Cond.code mX2_fits.1 mX2_fits.2.1 mX2_fits.2.2.1 mX2_fits.2.2.2.1 ∈ aTb := aTb_at 609 (by decide +kernel) (by decide +kernel)
theorem insX2_fits : Cond.instanceMethod mX2_fits.1 ∈ aTb := aTb_at 607 (by decide +kernel) (by decide +kernel)
theorem selX2_fits : Cond.selects mX2_fits.1.cls mX2_fits.1 mX2_fits.1 ∈ aTb := aTb_at 608 (by decide +kernel) (by decide +kernel)
theorem codX2_gain : Cond.code mX2_gain.1 mX2_gain.2.1 mX2_gain.2.2.1 mX2_gain.2.2.2.1 ∈ aTb := aTb_at 721 (by decide +kernel) (by decide +kernel)
theorem insX2_gain : Cond.instanceMethod mX2_gain.1 ∈ aTb := aTb_at 719 (by decide +kernel) (by decide +kernel)
theorem selX2_gain : Cond.selects mX2_gain.1.cls mX2_gain.1 mX2_gain.1 ∈ aTb := aTb_at 720 (by decide +kernel) (by decide +kernel)
theorem codX2_goesOn : Cond.code mX2_goesOn.1 mX2_goesOn.2.1 mX2_goesOn.2.2.1 mX2_goesOn.2.2.2.1 ∈ aTb := aTb_at 587 (by decide +kernel) (by decide +kernel)
theorem insX2_goesOn : Cond.instanceMethod mX2_goesOn.1 ∈ aTb := aTb_at 585 (by decide +kernel) (by decide +kernel)
theorem selX2_goesOn : Cond.selects mX2_goesOn.1.cls mX2_goesOn.1 mX2_goesOn.1 ∈ aTb := aTb_at 586 (by decide +kernel) (by decide +kernel)
theorem codX2_init : Cond.code mX2_init.1 mX2_init.2.1 mX2_init.2.2.1 mX2_init.2.2.2.1 ∈ aTb := aTb_at 233 (by decide +kernel) (by decide +kernel)
theorem insX2_init : Cond.instanceMethod mX2_init.1 ∈ aTb := aTb_at 232 (by decide +kernel) (by decide +kernel)
theorem codX2_isAboutToMake : Cond.code mX2_isAboutToMake.1 mX2_isAboutToMake.2.1 mX2_isAboutToMake.2.2.1 mX2_isAboutToMake.2.2.2.1 ∈ aTb := aTb_at 595 (by decide +kernel) (by decide +kernel)
theorem insX2_isAboutToMake : Cond.instanceMethod mX2_isAboutToMake.1 ∈ aTb := aTb_at 593 (by decide +kernel) (by decide +kernel)
theorem selX2_isAboutToMake : Cond.selects mX2_isAboutToMake.1.cls mX2_isAboutToMake.1 mX2_isAboutToMake.1 ∈ aTb := aTb_at 594 (by decide +kernel) (by decide +kernel)
theorem codX2_isAwake : Cond.code mX2_isAwake.1 mX2_isAwake.2.1 mX2_isAwake.2.2.1 mX2_isAwake.2.2.2.1 ∈ aTb := aTb_at 725 (by decide +kernel) (by decide +kernel)
theorem insX2_isAwake : Cond.instanceMethod mX2_isAwake.1 ∈ aTb := aTb_at 723 (by decide +kernel) (by decide +kernel)
theorem selX2_isAwake : Cond.selects mX2_isAwake.1.cls mX2_isAwake.1 mX2_isAwake.1 ∈ aTb := aTb_at 724 (by decide +kernel) (by decide +kernel)
theorem codX2_keep : Cond.code mX2_keep.1 mX2_keep.2.1 mX2_keep.2.2.1 mX2_keep.2.2.2.1 ∈ aTb := aTb_at 649 (by decide +kernel) (by decide +kernel)
theorem insX2_keep : Cond.instanceMethod mX2_keep.1 ∈ aTb := aTb_at 647 (by decide +kernel) (by decide +kernel)
theorem selX2_keep : Cond.selects mX2_keep.1.cls mX2_keep.1 mX2_keep.1 ∈ aTb := aTb_at 648 (by decide +kernel) (by decide +kernel)
theorem codX2_leave : Cond.code mX2_leave.1 mX2_leave.2.1 mX2_leave.2.2.1 mX2_leave.2.2.2.1 ∈ aTb := aTb_at 674 (by decide +kernel) (by decide +kernel)
theorem insX2_leave : Cond.instanceMethod mX2_leave.1 ∈ aTb := aTb_at 672 (by decide +kernel) (by decide +kernel)
theorem selX2_leave : Cond.selects mX2_leave.1.cls mX2_leave.1 mX2_leave.1 ∈ aTb := aTb_at 673 (by decide +kernel) (by decide +kernel)
theorem codX2_loss : Cond.code mX2_loss.1 mX2_loss.2.1 mX2_loss.2.2.1 mX2_loss.2.2.2.1 ∈ aTb := aTb_at 738 (by decide +kernel) (by decide +kernel)
theorem insX2_loss : Cond.instanceMethod mX2_loss.1 ∈ aTb := aTb_at 736 (by decide +kernel) (by decide +kernel)
theorem selX2_loss : Cond.selects mX2_loss.1.cls mX2_loss.1 mX2_loss.1 ∈ aTb := aTb_at 737 (by decide +kernel) (by decide +kernel)
theorem codX2_makeNow : Cond.code mX2_makeNow.1 mX2_makeNow.2.1 mX2_makeNow.2.2.1 mX2_makeNow.2.2.2.1 ∈ aTb := aTb_at 678 (by decide +kernel) (by decide +kernel)
theorem insX2_makeNow : Cond.instanceMethod mX2_makeNow.1 ∈ aTb := aTb_at 676 (by decide +kernel) (by decide +kernel)
theorem selX2_makeNow : Cond.selects mX2_makeNow.1.cls mX2_makeNow.1 mX2_makeNow.1 ∈ aTb := aTb_at 677 (by decide +kernel) (by decide +kernel)
theorem codX2_nextAct : Cond.code mX2_nextAct.1 mX2_nextAct.2.1 mX2_nextAct.2.2.1 mX2_nextAct.2.2.2.1 ∈ aTb := aTb_at 599 (by decide +kernel) (by decide +kernel)
theorem insX2_nextAct : Cond.instanceMethod mX2_nextAct.1 ∈ aTb := aTb_at 597 (by decide +kernel) (by decide +kernel)
theorem selX2_nextAct : Cond.selects mX2_nextAct.1.cls mX2_nextAct.1 mX2_nextAct.1 ∈ aTb := aTb_at 598 (by decide +kernel) (by decide +kernel)
theorem codX2_spare : Cond.code mX2_spare.1 mX2_spare.2.1 mX2_spare.2.2.1 mX2_spare.2.2.2.1 ∈ aTb := aTb_at 644 (by decide +kernel) (by decide +kernel)
theorem insX2_spare : Cond.instanceMethod mX2_spare.1 ∈ aTb := aTb_at 642 (by decide +kernel) (by decide +kernel)
theorem selX2_spare : Cond.selects mX2_spare.1.cls mX2_spare.1 mX2_spare.1 ∈ aTb := aTb_at 643 (by decide +kernel) (by decide +kernel)
theorem codX2_start : Cond.code mX2_start.1 mX2_start.2.1 mX2_start.2.2.1 mX2_start.2.2.2.1 ∈ aTb := aTb_at 570 (by decide +kernel) (by decide +kernel)
theorem insX2_start : Cond.instanceMethod mX2_start.1 ∈ aTb := aTb_at 568 (by decide +kernel) (by decide +kernel)
theorem selX2_start : Cond.selects mX2_start.1.cls mX2_start.1 mX2_start.1 ∈ aTb := aTb_at 569 (by decide +kernel) (by decide +kernel)
theorem codX2_told : Cond.code mX2_told.1 mX2_told.2.1 mX2_told.2.2.1 mX2_told.2.2.2.1 ∈ aTb := aTb_at 747 (by decide +kernel) (by decide +kernel)
theorem insX2_told : Cond.instanceMethod mX2_told.1 ∈ aTb := aTb_at 745 (by decide +kernel) (by decide +kernel)
theorem selX2_told : Cond.selects mX2_told.1.cls mX2_told.1 mX2_told.1 ∈ aTb := aTb_at 746 (by decide +kernel) (by decide +kernel)
theorem codX2_waitFor : Cond.code mX2_waitFor.1 mX2_waitFor.2.1 mX2_waitFor.2.2.1 mX2_waitFor.2.2.2.1 ∈ aTb := aTb_at 627 (by decide +kernel) (by decide +kernel)
theorem insX2_waitFor : Cond.instanceMethod mX2_waitFor.1 ∈ aTb := aTb_at 625 (by decide +kernel) (by decide +kernel)
theorem selX2_waitFor : Cond.selects mX2_waitFor.1.cls mX2_waitFor.1 mX2_waitFor.1 ∈ aTb := aTb_at 626 (by decide +kernel) (by decide +kernel)
theorem codX3_cut : Cond.code mX3_cut.1 mX3_cut.2.1 mX3_cut.2.2.1 mX3_cut.2.2.2.1 ∈ aTb := aTb_at 381 (by decide +kernel) (by decide +kernel)
theorem insX3_cut : Cond.instanceMethod mX3_cut.1 ∈ aTb := aTb_at 379 (by decide +kernel) (by decide +kernel)
theorem selX3_cut : Cond.selects mX3_cut.1.cls mX3_cut.1 mX3_cut.1 ∈ aTb := aTb_at 380 (by decide +kernel) (by decide +kernel)
theorem codX3_hasPlaces : Cond.code mX3_hasPlaces.1 mX3_hasPlaces.2.1 mX3_hasPlaces.2.2.1 mX3_hasPlaces.2.2.2.1 ∈ aTb := aTb_at 389 (by decide +kernel) (by decide +kernel)
theorem insX3_hasPlaces : Cond.instanceMethod mX3_hasPlaces.1 ∈ aTb := aTb_at 387 (by decide +kernel) (by decide +kernel)
theorem selX3_hasPlaces : Cond.selects mX3_hasPlaces.1.cls mX3_hasPlaces.1 mX3_hasPlaces.1 ∈ aTb := aTb_at 388 (by decide +kernel) (by decide +kernel)
theorem codX3_holdsActsAlone : Cond.code mX3_holdsActsAlone.1 mX3_holdsActsAlone.2.1 mX3_holdsActsAlone.2.2.1 mX3_holdsActsAlone.2.2.2.1 ∈ aTb := aTb_at 407 (by decide +kernel) (by decide +kernel)
theorem insX3_holdsActsAlone : Cond.instanceMethod mX3_holdsActsAlone.1 ∈ aTb := aTb_at 405 (by decide +kernel) (by decide +kernel)
theorem selX3_holdsActsAlone : Cond.selects mX3_holdsActsAlone.1.cls mX3_holdsActsAlone.1 mX3_holdsActsAlone.1 ∈ aTb := aTb_at 406 (by decide +kernel) (by decide +kernel)
theorem codX3_init : Cond.code mX3_init.1 mX3_init.2.1 mX3_init.2.2.1 mX3_init.2.2.2.1 ∈ aTb := aTb_at 27 (by decide +kernel) (by decide +kernel)
theorem insX3_init : Cond.instanceMethod mX3_init.1 ∈ aTb := aTb_at 26 (by decide +kernel) (by decide +kernel)
theorem codX3_isAct : Cond.code mX3_isAct.1 mX3_isAct.2.1 mX3_isAct.2.2.1 mX3_isAct.2.2.2.1 ∈ aTb := aTb_at 410 (by decide +kernel) (by decide +kernel)
theorem staX3_isAct : Cond.static mX3_isAct.1 ∈ aTb := aTb_at 409 (by decide +kernel) (by decide +kernel)
theorem codX3_isBare : Cond.code mX3_isBare.1 mX3_isBare.2.1 mX3_isBare.2.2.1 mX3_isBare.2.2.2.1 ∈ aTb := aTb_at 369 (by decide +kernel) (by decide +kernel)
theorem insX3_isBare : Cond.instanceMethod mX3_isBare.1 ∈ aTb := aTb_at 367 (by decide +kernel) (by decide +kernel)
theorem selX3_isBare : Cond.selects mX3_isBare.1.cls mX3_isBare.1 mX3_isBare.1 ∈ aTb := aTb_at 368 (by decide +kernel) (by decide +kernel)
theorem codX3_lay : Cond.code mX3_lay.1 mX3_lay.2.1 mX3_lay.2.2.1 mX3_lay.2.2.2.1 ∈ aTb := aTb_at 361 (by decide +kernel) (by decide +kernel)
theorem insX3_lay : Cond.instanceMethod mX3_lay.1 ∈ aTb := aTb_at 359 (by decide +kernel) (by decide +kernel)
theorem selX3_lay : Cond.selects mX3_lay.1.cls mX3_lay.1 mX3_lay.1 ∈ aTb := aTb_at 360 (by decide +kernel) (by decide +kernel)
theorem codX3_strip : Cond.code mX3_strip.1 mX3_strip.2.1 mX3_strip.2.2.1 mX3_strip.2.2.2.1 ∈ aTb := aTb_at 373 (by decide +kernel) (by decide +kernel)
theorem insX3_strip : Cond.instanceMethod mX3_strip.1 ∈ aTb := aTb_at 371 (by decide +kernel) (by decide +kernel)
theorem selX3_strip : Cond.selects mX3_strip.1.cls mX3_strip.1 mX3_strip.1 ∈ aTb := aTb_at 372 (by decide +kernel) (by decide +kernel)
theorem codX4_add : Cond.code mX4_add.1 mX4_add.2.1 mX4_add.2.2.1 mX4_add.2.2.2.1 ∈ aTb := aTb_at 623 (by decide +kernel) (by decide +kernel)
theorem insX4_add : Cond.instanceMethod mX4_add.1 ∈ aTb := aTb_at 621 (by decide +kernel) (by decide +kernel)
theorem selX4_add : Cond.selects mX4_add.1.cls mX4_add.1 mX4_add.1 ∈ aTb := aTb_at 622 (by decide +kernel) (by decide +kernel)
theorem codX4_forget : Cond.code mX4_forget.1 mX4_forget.2.1 mX4_forget.2.2.1 mX4_forget.2.2.2.1 ∈ aTb := aTb_at 566 (by decide +kernel) (by decide +kernel)
theorem insX4_forget : Cond.instanceMethod mX4_forget.1 ∈ aTb := aTb_at 564 (by decide +kernel) (by decide +kernel)
theorem selX4_forget : Cond.selects mX4_forget.1.cls mX4_forget.1 mX4_forget.1 ∈ aTb := aTb_at 565 (by decide +kernel) (by decide +kernel)
theorem codX4_init : Cond.code mX4_init.1 mX4_init.2.1 mX4_init.2.2.1 mX4_init.2.2.2.1 ∈ aTb := aTb_at 209 (by decide +kernel) (by decide +kernel)
theorem insX4_init : Cond.instanceMethod mX4_init.1 ∈ aTb := aTb_at 208 (by decide +kernel) (by decide +kernel)
theorem codX4_kept : Cond.code mX4_kept.1 mX4_kept.2.1 mX4_kept.2.2.1 mX4_kept.2.2.2.1 ∈ aTb := aTb_at 755 (by decide +kernel) (by decide +kernel)
theorem insX4_kept : Cond.instanceMethod mX4_kept.1 ∈ aTb := aTb_at 753 (by decide +kernel) (by decide +kernel)
theorem selX4_kept : Cond.selects mX4_kept.1.cls mX4_kept.1 mX4_kept.1 ∈ aTb := aTb_at 754 (by decide +kernel) (by decide +kernel)
theorem codX4_told : Cond.code mX4_told.1 mX4_told.2.1 mX4_told.2.2.1 mX4_told.2.2.2.1 ∈ aTb := aTb_at 768 (by decide +kernel) (by decide +kernel)
theorem insX4_told : Cond.instanceMethod mX4_told.1 ∈ aTb := aTb_at 766 (by decide +kernel) (by decide +kernel)
theorem selX4_told : Cond.selects mX4_told.1.cls mX4_told.1 mX4_told.1 ∈ aTb := aTb_at 767 (by decide +kernel) (by decide +kernel)
theorem codX5_allSteps : Cond.code mX5_allSteps.1 mX5_allSteps.2.1 mX5_allSteps.2.2.1 mX5_allSteps.2.2.2.1 ∈ aTb := aTb_at 492 (by decide +kernel) (by decide +kernel)
theorem insX5_allSteps : Cond.instanceMethod mX5_allSteps.1 ∈ aTb := aTb_at 490 (by decide +kernel) (by decide +kernel)
theorem selX5_allSteps : Cond.selects mX5_allSteps.1.cls mX5_allSteps.1 mX5_allSteps.1 ∈ aTb := aTb_at 491 (by decide +kernel) (by decide +kernel)
theorem codX5_areSound : Cond.code mX5_areSound.1 mX5_areSound.2.1 mX5_areSound.2.2.1 mX5_areSound.2.2.2.1 ∈ aTb := aTb_at 399 (by decide +kernel) (by decide +kernel)
theorem staX5_areSound : Cond.static mX5_areSound.1 ∈ aTb := aTb_at 398 (by decide +kernel) (by decide +kernel)
theorem codX5_dealtSteps : Cond.code mX5_dealtSteps.1 mX5_dealtSteps.2.1 mX5_dealtSteps.2.2.1 mX5_dealtSteps.2.2.2.1 ∈ aTb := aTb_at 518 (by decide +kernel) (by decide +kernel)
theorem insX5_dealtSteps : Cond.instanceMethod mX5_dealtSteps.1 ∈ aTb := aTb_at 516 (by decide +kernel) (by decide +kernel)
theorem selX5_dealtSteps : Cond.selects mX5_dealtSteps.1.cls mX5_dealtSteps.1 mX5_dealtSteps.1 ∈ aTb := aTb_at 517 (by decide +kernel) (by decide +kernel)
theorem codX5_init : Cond.code mX5_init.1 mX5_init.2.1 mX5_init.2.2.1 mX5_init.2.2.2.1 ∈ aTb := aTb_at 92 (by decide +kernel) (by decide +kernel)
theorem insX5_init : Cond.instanceMethod mX5_init.1 ∈ aTb := aTb_at 91 (by decide +kernel) (by decide +kernel)
theorem codX5_stepsFor : Cond.code mX5_stepsFor.1 mX5_stepsFor.2.1 mX5_stepsFor.2.2.1 mX5_stepsFor.2.2.2.1 ∈ aTb := aTb_at 496 (by decide +kernel) (by decide +kernel)
theorem insX5_stepsFor : Cond.instanceMethod mX5_stepsFor.1 ∈ aTb := aTb_at 494 (by decide +kernel) (by decide +kernel)
theorem selX5_stepsFor : Cond.selects mX5_stepsFor.1.cls mX5_stepsFor.1 mX5_stepsFor.1 ∈ aTb := aTb_at 495 (by decide +kernel) (by decide +kernel)
theorem codX6_add : Cond.code mX6_add.1 mX6_add.2.1 mX6_add.2.2.1 mX6_add.2.2.2.1 ∈ aTb := aTb_at 472 (by decide +kernel) (by decide +kernel)
theorem insX6_add : Cond.instanceMethod mX6_add.1 ∈ aTb := aTb_at 470 (by decide +kernel) (by decide +kernel)
theorem selX6_add : Cond.selects mX6_add.1.cls mX6_add.1 mX6_add.1 ∈ aTb := aTb_at 471 (by decide +kernel) (by decide +kernel)
theorem codX6_die : Cond.code mX6_die.1 mX6_die.2.1 mX6_die.2.2.1 mX6_die.2.2.2.1 ∈ aTb := aTb_at 457 (by decide +kernel) (by decide +kernel)
theorem insX6_die : Cond.instanceMethod mX6_die.1 ∈ aTb := aTb_at 455 (by decide +kernel) (by decide +kernel)
theorem selX6_die : Cond.selects mX6_die.1.cls mX6_die.1 mX6_die.1 ∈ aTb := aTb_at 456 (by decide +kernel) (by decide +kernel)
theorem codX6_forget : Cond.code mX6_forget.1 mX6_forget.2.1 mX6_forget.2.2.1 mX6_forget.2.2.2.1 ∈ aTb := aTb_at 445 (by decide +kernel) (by decide +kernel)
theorem insX6_forget : Cond.instanceMethod mX6_forget.1 ∈ aTb := aTb_at 443 (by decide +kernel) (by decide +kernel)
theorem selX6_forget : Cond.selects mX6_forget.1.cls mX6_forget.1 mX6_forget.1 ∈ aTb := aTb_at 444 (by decide +kernel) (by decide +kernel)
theorem codX6_init : Cond.code mX6_init.1 mX6_init.2.1 mX6_init.2.2.1 mX6_init.2.2.2.1 ∈ aTb := aTb_at 138 (by decide +kernel) (by decide +kernel)
theorem insX6_init : Cond.instanceMethod mX6_init.1 ∈ aTb := aTb_at 137 (by decide +kernel) (by decide +kernel)
theorem codX7_collect : Cond.code mX7_collect.1 mX7_collect.2.1 mX7_collect.2.2.1 mX7_collect.2.2.2.1 ∈ aTb := aTb_at 614 (by decide +kernel) (by decide +kernel)
theorem insX7_collect : Cond.instanceMethod mX7_collect.1 ∈ aTb := aTb_at 613 (by decide +kernel) (by decide +kernel)
theorem selX7_collect : Cond.selects mX7_collect.1.cls mX7_collect.1 mX7_collect.1 ∈ aTb := aTb_priv 11 (by decide +kernel) (by decide +kernel)
theorem codX7_doOtherAct : Cond.code mX7_doOtherAct.1 mX7_doOtherAct.2.1 mX7_doOtherAct.2.2.1 mX7_doOtherAct.2.2.2.1 ∈ aTb := aTb_at 691 (by decide +kernel) (by decide +kernel)
theorem insX7_doOtherAct : Cond.instanceMethod mX7_doOtherAct.1 ∈ aTb := aTb_at 690 (by decide +kernel) (by decide +kernel)
theorem selX7_doOtherAct : Cond.selects mX7_doOtherAct.1.cls mX7_doOtherAct.1 mX7_doOtherAct.1 ∈ aTb := aTb_priv 19 (by decide +kernel) (by decide +kernel)
theorem codX7_endAct : Cond.code mX7_endAct.1 mX7_endAct.2.1 mX7_endAct.2.2.1 mX7_endAct.2.2.2.1 ∈ aTb := aTb_at 683 (by decide +kernel) (by decide +kernel)
theorem insX7_endAct : Cond.instanceMethod mX7_endAct.1 ∈ aTb := aTb_at 682 (by decide +kernel) (by decide +kernel)
theorem selX7_endAct : Cond.selects mX7_endAct.1.cls mX7_endAct.1 mX7_endAct.1 ∈ aTb := aTb_priv 18 (by decide +kernel) (by decide +kernel)
theorem codX7_fairPart : Cond.code mX7_fairPart.1 mX7_fairPart.2.1 mX7_fairPart.2.2.1 mX7_fairPart.2.2.2.1 ∈ aTb := aTb_at 656 (by decide +kernel) (by decide +kernel)
theorem insX7_fairPart : Cond.instanceMethod mX7_fairPart.1 ∈ aTb := aTb_at 655 (by decide +kernel) (by decide +kernel)
theorem selX7_fairPart : Cond.selects mX7_fairPart.1.cls mX7_fairPart.1 mX7_fairPart.1 ∈ aTb := aTb_priv 14 (by decide +kernel) (by decide +kernel)
theorem codX7_getsByAsking : Cond.code mX7_getsByAsking.1 mX7_getsByAsking.2.1 mX7_getsByAsking.2.2.1 mX7_getsByAsking.2.2.2.1 ∈ aTb := aTb_at 631 (by decide +kernel) (by decide +kernel)
theorem insX7_getsByAsking : Cond.instanceMethod mX7_getsByAsking.1 ∈ aTb := aTb_at 630 (by decide +kernel) (by decide +kernel)
theorem selX7_getsByAsking : Cond.selects mX7_getsByAsking.1.cls mX7_getsByAsking.1 mX7_getsByAsking.1 ∈ aTb := aTb_priv 12 (by decide +kernel) (by decide +kernel)
theorem codX7_give : Cond.code mX7_give.1 mX7_give.2.1 mX7_give.2.2.1 mX7_give.2.2.2.1 ∈ aTb := aTb_at 661 (by decide +kernel) (by decide +kernel)
theorem insX7_give : Cond.instanceMethod mX7_give.1 ∈ aTb := aTb_at 660 (by decide +kernel) (by decide +kernel)
theorem selX7_give : Cond.selects mX7_give.1.cls mX7_give.1 mX7_give.1 ∈ aTb := aTb_priv 15 (by decide +kernel) (by decide +kernel)
theorem codX7_init : Cond.code mX7_init.1 mX7_init.2.1 mX7_init.2.2.1 mX7_init.2.2.2.1 ∈ aTb := aTb_at 203 (by decide +kernel) (by decide +kernel)
theorem insX7_init : Cond.instanceMethod mX7_init.1 ∈ aTb := aTb_at 202 (by decide +kernel) (by decide +kernel)
theorem codX7_leave : Cond.code mX7_leave.1 mX7_leave.2.1 mX7_leave.2.2.1 mX7_leave.2.2.2.1 ∈ aTb := aTb_at 670 (by decide +kernel) (by decide +kernel)
theorem insX7_leave : Cond.instanceMethod mX7_leave.1 ∈ aTb := aTb_at 669 (by decide +kernel) (by decide +kernel)
theorem selX7_leave : Cond.selects mX7_leave.1.cls mX7_leave.1 mX7_leave.1 ∈ aTb := aTb_priv 17 (by decide +kernel) (by decide +kernel)
theorem codX7_movesStep : Cond.code mX7_movesStep.1 mX7_movesStep.2.1 mX7_movesStep.2.2.1 mX7_movesStep.2.2.2.1 ∈ aTb := aTb_at 713 (by decide +kernel) (by decide +kernel)
theorem insX7_movesStep : Cond.instanceMethod mX7_movesStep.1 ∈ aTb := aTb_at 712 (by decide +kernel) (by decide +kernel)
theorem selX7_movesStep : Cond.selects mX7_movesStep.1.cls mX7_movesStep.1 mX7_movesStep.1 ∈ aTb := aTb_priv 24 (by decide +kernel) (by decide +kernel)
theorem codX7_passTick : Cond.code mX7_passTick.1 mX7_passTick.2.1 mX7_passTick.2.2.1 mX7_passTick.2.2.2.1 ∈ aTb := aTb_at 696 (by decide +kernel) (by decide +kernel)
theorem insX7_passTick : Cond.instanceMethod mX7_passTick.1 ∈ aTb := aTb_at 695 (by decide +kernel) (by decide +kernel)
theorem selX7_passTick : Cond.selects mX7_passTick.1.cls mX7_passTick.1 mX7_passTick.1 ∈ aTb := aTb_priv 20 (by decide +kernel) (by decide +kernel)
theorem codX7_redeal : Cond.code mX7_redeal.1 mX7_redeal.2.1 mX7_redeal.2.2.1 mX7_redeal.2.2.2.1 ∈ aTb := aTb_at 705 (by decide +kernel) (by decide +kernel)
theorem insX7_redeal : Cond.instanceMethod mX7_redeal.1 ∈ aTb := aTb_at 704 (by decide +kernel) (by decide +kernel)
theorem selX7_redeal : Cond.selects mX7_redeal.1.cls mX7_redeal.1 mX7_redeal.1 ∈ aTb := aTb_priv 22 (by decide +kernel) (by decide +kernel)
theorem codX7_someGoOn : Cond.code mX7_someGoOn.1 mX7_someGoOn.2.1 mX7_someGoOn.2.2.1 mX7_someGoOn.2.2.2.1 ∈ aTb := aTb_at 583 (by decide +kernel) (by decide +kernel)
theorem insX7_someGoOn : Cond.instanceMethod mX7_someGoOn.1 ∈ aTb := aTb_at 581 (by decide +kernel) (by decide +kernel)
theorem selX7_someGoOn : Cond.selects mX7_someGoOn.1.cls mX7_someGoOn.1 mX7_someGoOn.1 ∈ aTb := aTb_at 582 (by decide +kernel) (by decide +kernel)
theorem codX7_spareOfOthers : Cond.code mX7_spareOfOthers.1 mX7_spareOfOthers.2.1 mX7_spareOfOthers.2.2.1 mX7_spareOfOthers.2.2.2.1 ∈ aTb := aTb_at 640 (by decide +kernel) (by decide +kernel)
theorem insX7_spareOfOthers : Cond.instanceMethod mX7_spareOfOthers.1 ∈ aTb := aTb_at 639 (by decide +kernel) (by decide +kernel)
theorem selX7_spareOfOthers : Cond.selects mX7_spareOfOthers.1.cls mX7_spareOfOthers.1 mX7_spareOfOthers.1 ∈ aTb := aTb_priv 13 (by decide +kernel) (by decide +kernel)
theorem codX7_squeeze : Cond.code mX7_squeeze.1 mX7_squeeze.2.1 mX7_squeeze.2.2.1 mX7_squeeze.2.2.2.1 ∈ aTb := aTb_at 709 (by decide +kernel) (by decide +kernel)
theorem insX7_squeeze : Cond.instanceMethod mX7_squeeze.1 ∈ aTb := aTb_at 708 (by decide +kernel) (by decide +kernel)
theorem selX7_squeeze : Cond.selects mX7_squeeze.1.cls mX7_squeeze.1 mX7_squeeze.1 ∈ aTb := aTb_priv 23 (by decide +kernel) (by decide +kernel)
theorem codX7_start : Cond.code mX7_start.1 mX7_start.2.1 mX7_start.2.2.1 mX7_start.2.2.2.1 ∈ aTb := aTb_at 562 (by decide +kernel) (by decide +kernel)
theorem insX7_start : Cond.instanceMethod mX7_start.1 ∈ aTb := aTb_at 560 (by decide +kernel) (by decide +kernel)
theorem selX7_start : Cond.selects mX7_start.1.cls mX7_start.1 mX7_start.1 ∈ aTb := aTb_at 561 (by decide +kernel) (by decide +kernel)
theorem codX7_tick : Cond.code mX7_tick.1 mX7_tick.2.1 mX7_tick.2.2.1 mX7_tick.2.2.2.1 ∈ aTb := aTb_at 591 (by decide +kernel) (by decide +kernel)
theorem insX7_tick : Cond.instanceMethod mX7_tick.1 ∈ aTb := aTb_at 589 (by decide +kernel) (by decide +kernel)
theorem selX7_tick : Cond.selects mX7_tick.1.cls mX7_tick.1 mX7_tick.1 ∈ aTb := aTb_at 590 (by decide +kernel) (by decide +kernel)
theorem codX7_tryMake : Cond.code mX7_tryMake.1 mX7_tryMake.2.1 mX7_tryMake.2.2.1 mX7_tryMake.2.2.2.1 ∈ aTb := aTb_at 604 (by decide +kernel) (by decide +kernel)
theorem insX7_tryMake : Cond.instanceMethod mX7_tryMake.1 ∈ aTb := aTb_at 603 (by decide +kernel) (by decide +kernel)
theorem selX7_tryMake : Cond.selects mX7_tryMake.1.cls mX7_tryMake.1 mX7_tryMake.1 ∈ aTb := aTb_priv 10 (by decide +kernel) (by decide +kernel)
theorem codX7_wake : Cond.code mX7_wake.1 mX7_wake.2.1 mX7_wake.2.2.1 mX7_wake.2.2.2.1 ∈ aTb := aTb_at 700 (by decide +kernel) (by decide +kernel)
theorem insX7_wake : Cond.instanceMethod mX7_wake.1 ∈ aTb := aTb_at 699 (by decide +kernel) (by decide +kernel)
theorem selX7_wake : Cond.selects mX7_wake.1.cls mX7_wake.1 mX7_wake.1 ∈ aTb := aTb_priv 21 (by decide +kernel) (by decide +kernel)
theorem codX7_whoGainsMost : Cond.code mX7_whoGainsMost.1 mX7_whoGainsMost.2.1 mX7_whoGainsMost.2.2.1 mX7_whoGainsMost.2.2.2.1 ∈ aTb := aTb_at 717 (by decide +kernel) (by decide +kernel)
theorem insX7_whoGainsMost : Cond.instanceMethod mX7_whoGainsMost.1 ∈ aTb := aTb_at 716 (by decide +kernel) (by decide +kernel)
theorem selX7_whoGainsMost : Cond.selects mX7_whoGainsMost.1.cls mX7_whoGainsMost.1 mX7_whoGainsMost.1 ∈ aTb := aTb_priv 25 (by decide +kernel) (by decide +kernel)
theorem codX7_whoLosesLeast : Cond.code mX7_whoLosesLeast.1 mX7_whoLosesLeast.2.1 mX7_whoLosesLeast.2.2.1 mX7_whoLosesLeast.2.2.2.1 ∈ aTb := aTb_at 733 (by decide +kernel) (by decide +kernel)
theorem insX7_whoLosesLeast : Cond.instanceMethod mX7_whoLosesLeast.1 ∈ aTb := aTb_at 732 (by decide +kernel) (by decide +kernel)
theorem selX7_whoLosesLeast : Cond.selects mX7_whoLosesLeast.1.cls mX7_whoLosesLeast.1 mX7_whoLosesLeast.1 ∈ aTb := aTb_priv 27 (by decide +kernel) (by decide +kernel)
theorem codX7_whoSparesMost : Cond.code mX7_whoSparesMost.1 mX7_whoSparesMost.2.1 mX7_whoSparesMost.2.2.1 mX7_whoSparesMost.2.2.2.1 ∈ aTb := aTb_at 666 (by decide +kernel) (by decide +kernel)
theorem insX7_whoSparesMost : Cond.instanceMethod mX7_whoSparesMost.1 ∈ aTb := aTb_at 665 (by decide +kernel) (by decide +kernel)
theorem selX7_whoSparesMost : Cond.selects mX7_whoSparesMost.1.cls mX7_whoSparesMost.1 mX7_whoSparesMost.1 ∈ aTb := aTb_priv 16 (by decide +kernel) (by decide +kernel)
theorem codX8_init : Cond.code mX8_init.1 mX8_init.2.1 mX8_init.2.2.1 mX8_init.2.2.2.1 ∈ aTb := aTb_at 132 (by decide +kernel) (by decide +kernel)
theorem insX8_init : Cond.instanceMethod mX8_init.1 ∈ aTb := aTb_at 131 (by decide +kernel) (by decide +kernel)
theorem codX8_makeInAll : Cond.code mX8_makeInAll.1 mX8_makeInAll.2.1 mX8_makeInAll.2.2.1 mX8_makeInAll.2.2.2.1 ∈ aTb := aTb_at 464 (by decide +kernel) (by decide +kernel)
theorem insX8_makeInAll : Cond.instanceMethod mX8_makeInAll.1 ∈ aTb := aTb_at 463 (by decide +kernel) (by decide +kernel)
theorem selX8_makeInAll : Cond.selects mX8_makeInAll.1.cls mX8_makeInAll.1 mX8_makeInAll.1 ∈ aTb := aTb_priv 3 (by decide +kernel) (by decide +kernel)
theorem codX8_pass : Cond.code mX8_pass.1 mX8_pass.2.1 mX8_pass.2.2.1 mX8_pass.2.2.2.1 ∈ aTb := aTb_at 438 (by decide +kernel) (by decide +kernel)
theorem insX8_pass : Cond.instanceMethod mX8_pass.1 ∈ aTb := aTb_at 436 (by decide +kernel) (by decide +kernel)
theorem selX8_pass : Cond.selects mX8_pass.1.cls mX8_pass.1 mX8_pass.1 ∈ aTb := aTb_at 437 (by decide +kernel) (by decide +kernel)
theorem codX8_passRound : Cond.code mX8_passRound.1 mX8_passRound.2.1 mX8_passRound.2.2.1 mX8_passRound.2.2.2.1 ∈ aTb := aTb_at 453 (by decide +kernel) (by decide +kernel)
theorem insX8_passRound : Cond.instanceMethod mX8_passRound.1 ∈ aTb := aTb_at 452 (by decide +kernel) (by decide +kernel)
theorem selX8_passRound : Cond.selects mX8_passRound.1.cls mX8_passRound.1 mX8_passRound.1 ∈ aTb := aTb_priv 2 (by decide +kernel) (by decide +kernel)
theorem codX8_timeOf : Cond.code mX8_timeOf.1 mX8_timeOf.2.1 mX8_timeOf.2.2.1 mX8_timeOf.2.2.2.1 ∈ aTb := aTb_at 476 (by decide +kernel) (by decide +kernel)
theorem insX8_timeOf : Cond.instanceMethod mX8_timeOf.1 ∈ aTb := aTb_at 474 (by decide +kernel) (by decide +kernel)
theorem selX8_timeOf : Cond.selects mX8_timeOf.1.cls mX8_timeOf.1 mX8_timeOf.1 ∈ aTb := aTb_at 475 (by decide +kernel) (by decide +kernel)
theorem codX9_begin : Cond.code mX9_begin.1 mX9_begin.2.1 mX9_begin.2.2.1 mX9_begin.2.2.2.1 ∈ aTb := aTb_at 558 (by decide +kernel) (by decide +kernel)
theorem insX9_begin : Cond.instanceMethod mX9_begin.1 ∈ aTb := aTb_at 556 (by decide +kernel) (by decide +kernel)
theorem selX9_begin : Cond.selects mX9_begin.1.cls mX9_begin.1 mX9_begin.1 ∈ aTb := aTb_at 557 (by decide +kernel) (by decide +kernel)
theorem codX9_best : Cond.code mX9_best.1 mX9_best.2.1 mX9_best.2.2.1 mX9_best.2.2.2.1 ∈ aTb := aTb_at 531 (by decide +kernel) (by decide +kernel)
theorem insX9_best : Cond.instanceMethod mX9_best.1 ∈ aTb := aTb_at 529 (by decide +kernel) (by decide +kernel)
theorem selX9_best : Cond.selects mX9_best.1.cls mX9_best.1 mX9_best.1 ∈ aTb := aTb_at 530 (by decide +kernel) (by decide +kernel)
theorem codX9_clear : Cond.code mX9_clear.1 mX9_clear.2.1 mX9_clear.2.2.1 mX9_clear.2.2.2.1 ∈ aTb := aTb_at 422 (by decide +kernel) (by decide +kernel)
theorem insX9_clear : Cond.instanceMethod mX9_clear.1 ∈ aTb := aTb_at 420 (by decide +kernel) (by decide +kernel)
theorem selX9_clear : Cond.selects mX9_clear.1.cls mX9_clear.1 mX9_clear.1 ∈ aTb := aTb_at 421 (by decide +kernel) (by decide +kernel)
theorem codX9_count : Cond.code mX9_count.1 mX9_count.2.1 mX9_count.2.2.1 mX9_count.2.2.2.1 ∈ aTb := aTb_at 751 (by decide +kernel) (by decide +kernel)
theorem insX9_count : Cond.instanceMethod mX9_count.1 ∈ aTb := aTb_at 749 (by decide +kernel) (by decide +kernel)
theorem selX9_count : Cond.selects mX9_count.1.cls mX9_count.1 mX9_count.1 ∈ aTb := aTb_at 750 (by decide +kernel) (by decide +kernel)
theorem codX9_deal : Cond.code mX9_deal.1 mX9_deal.2.1 mX9_deal.2.2.1 mX9_deal.2.2.2.1 ∈ aTb := aTb_at 510 (by decide +kernel) (by decide +kernel)
theorem insX9_deal : Cond.instanceMethod mX9_deal.1 ∈ aTb := aTb_at 508 (by decide +kernel) (by decide +kernel)
theorem selX9_deal : Cond.selects mX9_deal.1.cls mX9_deal.1 mX9_deal.1 ∈ aTb := aTb_at 509 (by decide +kernel) (by decide +kernel)
theorem codX9_falls : Cond.code mX9_falls.1 mX9_falls.2.1 mX9_falls.2.2.1 mX9_falls.2.2.2.1 ∈ aTb := aTb_at 500 (by decide +kernel) (by decide +kernel)
theorem insX9_falls : Cond.instanceMethod mX9_falls.1 ∈ aTb := aTb_at 498 (by decide +kernel) (by decide +kernel)
theorem selX9_falls : Cond.selects mX9_falls.1.cls mX9_falls.1 mX9_falls.1 ∈ aTb := aTb_at 499 (by decide +kernel) (by decide +kernel)
theorem codX9_init : Cond.code mX9_init.1 mX9_init.2.1 mX9_init.2.2.1 mX9_init.2.2.2.1 ∈ aTb := aTb_at 18 (by decide +kernel) (by decide +kernel)
theorem insX9_init : Cond.instanceMethod mX9_init.1 ∈ aTb := aTb_at 17 (by decide +kernel) (by decide +kernel)
theorem codX9_isProgram : Cond.code mX9_isProgram.1 mX9_isProgram.2.1 mX9_isProgram.2.2.1 mX9_isProgram.2.2.2.1 ∈ aTb := aTb_at 430 (by decide +kernel) (by decide +kernel)
theorem insX9_isProgram : Cond.instanceMethod mX9_isProgram.1 ∈ aTb := aTb_at 429 (by decide +kernel) (by decide +kernel)
theorem selX9_isProgram : Cond.selects mX9_isProgram.1.cls mX9_isProgram.1 mX9_isProgram.1 ∈ aTb := aTb_priv 1 (by decide +kernel) (by decide +kernel)
theorem codX9_isSlot : Cond.code mX9_isSlot.1 mX9_isSlot.2.1 mX9_isSlot.2.2.1 mX9_isSlot.2.2.2.1 ∈ aTb := aTb_at 357 (by decide +kernel) (by decide +kernel)
theorem insX9_isSlot : Cond.instanceMethod mX9_isSlot.1 ∈ aTb := aTb_at 356 (by decide +kernel) (by decide +kernel)
theorem selX9_isSlot : Cond.selects mX9_isSlot.1.cls mX9_isSlot.1 mX9_isSlot.1 ∈ aTb := aTb_priv 0 (by decide +kernel) (by decide +kernel)
theorem codX9_log : Cond.code mX9_log.1 mX9_log.2.1 mX9_log.2.2.1 mX9_log.2.2.2.1 ∈ aTb := aTb_at 764 (by decide +kernel) (by decide +kernel)
theorem insX9_log : Cond.instanceMethod mX9_log.1 ∈ aTb := aTb_at 762 (by decide +kernel) (by decide +kernel)
theorem selX9_log : Cond.selects mX9_log.1.cls mX9_log.1 mX9_log.1 ∈ aTb := aTb_at 763 (by decide +kernel) (by decide +kernel)
theorem codX9_need : Cond.code mX9_need.1 mX9_need.2.1 mX9_need.2.2.1 mX9_need.2.2.2.1 ∈ aTb := aTb_at 480 (by decide +kernel) (by decide +kernel)
theorem insX9_need : Cond.instanceMethod mX9_need.1 ∈ aTb := aTb_at 478 (by decide +kernel) (by decide +kernel)
theorem selX9_need : Cond.selects mX9_need.1.cls mX9_need.1 mX9_need.1 ∈ aTb := aTb_at 479 (by decide +kernel) (by decide +kernel)
theorem codX9_of : Cond.code mX9_of.1 mX9_of.2.1 mX9_of.2.2.1 mX9_of.2.2.2.1 ∈ aTb := aTb_at 743 (by decide +kernel) (by decide +kernel)
theorem insX9_of : Cond.instanceMethod mX9_of.1 ∈ aTb := aTb_at 741 (by decide +kernel) (by decide +kernel)
theorem selX9_of : Cond.selects mX9_of.1.cls mX9_of.1 mX9_of.1 ∈ aTb := aTb_at 742 (by decide +kernel) (by decide +kernel)
theorem codX9_paste : Cond.code mX9_paste.1 mX9_paste.2.1 mX9_paste.2.2.1 mX9_paste.2.2.2.1 ∈ aTb := aTb_at 385 (by decide +kernel) (by decide +kernel)
theorem insX9_paste : Cond.instanceMethod mX9_paste.1 ∈ aTb := aTb_at 383 (by decide +kernel) (by decide +kernel)
theorem selX9_paste : Cond.selects mX9_paste.1.cls mX9_paste.1 mX9_paste.1 ∈ aTb := aTb_at 384 (by decide +kernel) (by decide +kernel)
theorem codX9_program : Cond.code mX9_program.1 mX9_program.2.1 mX9_program.2.2.1 mX9_program.2.2.2.1 ∈ aTb := aTb_at 403 (by decide +kernel) (by decide +kernel)
theorem insX9_program : Cond.instanceMethod mX9_program.1 ∈ aTb := aTb_at 401 (by decide +kernel) (by decide +kernel)
theorem selX9_program : Cond.selects mX9_program.1.cls mX9_program.1 mX9_program.1 ∈ aTb := aTb_at 402 (by decide +kernel) (by decide +kernel)
theorem codX9_row : Cond.code mX9_row.1 mX9_row.2.1 mX9_row.2.2.1 mX9_row.2.2.2.1 ∈ aTb := aTb_at 353 (by decide +kernel) (by decide +kernel)
theorem insX9_row : Cond.instanceMethod mX9_row.1 ∈ aTb := aTb_at 351 (by decide +kernel) (by decide +kernel)
theorem selX9_row : Cond.selects mX9_row.1.cls mX9_row.1 mX9_row.1 ∈ aTb := aTb_at 352 (by decide +kernel) (by decide +kernel)
theorem codX9_rowsThere : Cond.code mX9_rowsThere.1 mX9_rowsThere.2.1 mX9_rowsThere.2.2.1 mX9_rowsThere.2.2.2.1 ∈ aTb := aTb_at 760 (by decide +kernel) (by decide +kernel)
theorem insX9_rowsThere : Cond.instanceMethod mX9_rowsThere.1 ∈ aTb := aTb_at 759 (by decide +kernel) (by decide +kernel)
theorem selX9_rowsThere : Cond.selects mX9_rowsThere.1.cls mX9_rowsThere.1 mX9_rowsThere.1 ∈ aTb := aTb_priv 28 (by decide +kernel) (by decide +kernel)
theorem codX9_run : Cond.code mX9_run.1 mX9_run.2.1 mX9_run.2.2.1 mX9_run.2.2.2.1 ∈ aTb := aTb_at 579 (by decide +kernel) (by decide +kernel)
theorem insX9_run : Cond.instanceMethod mX9_run.1 ∈ aTb := aTb_at 577 (by decide +kernel) (by decide +kernel)
theorem selX9_run : Cond.selects mX9_run.1.cls mX9_run.1 mX9_run.1 ∈ aTb := aTb_at 578 (by decide +kernel) (by decide +kernel)
theorem codX9_share : Cond.code mX9_share.1 mX9_share.2.1 mX9_share.2.2.1 mX9_share.2.2.2.1 ∈ aTb := aTb_at 554 (by decide +kernel) (by decide +kernel)
theorem insX9_share : Cond.instanceMethod mX9_share.1 ∈ aTb := aTb_at 552 (by decide +kernel) (by decide +kernel)
theorem selX9_share : Cond.selects mX9_share.1.cls mX9_share.1 mX9_share.1 ∈ aTb := aTb_at 553 (by decide +kernel) (by decide +kernel)
theorem codX9_stop : Cond.code mX9_stop.1 mX9_stop.2.1 mX9_stop.2.2.1 mX9_stop.2.2.2.1 ∈ aTb := aTb_at 575 (by decide +kernel) (by decide +kernel)
theorem insX9_stop : Cond.instanceMethod mX9_stop.1 ∈ aTb := aTb_at 573 (by decide +kernel) (by decide +kernel)
theorem selX9_stop : Cond.selects mX9_stop.1.cls mX9_stop.1 mX9_stop.1 ∈ aTb := aTb_at 574 (by decide +kernel) (by decide +kernel)
theorem codX9_tear : Cond.code mX9_tear.1 mX9_tear.2.1 mX9_tear.2.2.1 mX9_tear.2.2.2.1 ∈ aTb := aTb_at 365 (by decide +kernel) (by decide +kernel)
theorem insX9_tear : Cond.instanceMethod mX9_tear.1 ∈ aTb := aTb_at 363 (by decide +kernel) (by decide +kernel)
theorem selX9_tear : Cond.selects mX9_tear.1.cls mX9_tear.1 mX9_tear.1 ∈ aTb := aTb_at 364 (by decide +kernel) (by decide +kernel)
theorem codX9_terms : Cond.code mX9_terms.1 mX9_terms.2.1 mX9_terms.2.2.1 mX9_terms.2.2.2.1 ∈ aTb := aTb_at 396 (by decide +kernel) (by decide +kernel)
theorem insX9_terms : Cond.instanceMethod mX9_terms.1 ∈ aTb := aTb_at 394 (by decide +kernel) (by decide +kernel)
theorem selX9_terms : Cond.selects mX9_terms.1.cls mX9_terms.1 mX9_terms.1 ∈ aTb := aTb_at 395 (by decide +kernel) (by decide +kernel)
theorem codX9_time : Cond.code mX9_time.1 mX9_time.2.1 mX9_time.2.2.1 mX9_time.2.2.2.1 ∈ aTb := aTb_at 426 (by decide +kernel) (by decide +kernel)
theorem insX9_time : Cond.instanceMethod mX9_time.1 ∈ aTb := aTb_at 424 (by decide +kernel) (by decide +kernel)
theorem selX9_time : Cond.selects mX9_time.1.cls mX9_time.1 mX9_time.1 ∈ aTb := aTb_at 425 (by decide +kernel) (by decide +kernel)
theorem codX9_write : Cond.code mX9_write.1 mX9_write.2.1 mX9_write.2.2.1 mX9_write.2.2.2.1 ∈ aTb := aTb_at 377 (by decide +kernel) (by decide +kernel)
theorem insX9_write : Cond.instanceMethod mX9_write.1 ∈ aTb := aTb_at 375 (by decide +kernel) (by decide +kernel)
theorem selX9_write : Cond.selects mX9_write.1.cls mX9_write.1 mX9_write.1 ∈ aTb := aTb_at 376 (by decide +kernel) (by decide +kernel)
theorem insObj : Cond.instanceMethod Lib.objectInit ∈ aTb := aTb_at 20 (by decide +kernel) (by decide +kernel)
theorem codObj : Cond.code Lib.objectInit ⟨#[0xb1]⟩ 1 none ∈ aTb := aTb_at 21 (by decide +kernel) (by decide +kernel)
theorem loX9_1 : Cond.methodLink RX9 1 Lib.objectInit ∈ aTb := aTb_at 19 (by decide +kernel) (by decide +kernel)
theorem lX9_32 : aIk RX9 32 mX0_init := ⟨⟨aTb_at 124 (by decide +kernel) (by decide +kernel), insX0_init, iniX0, codX0_init⟩, by decide +kernel, by decide +kernel⟩
theorem lX9_41 : aIk RX9 41 mX7_init := ⟨⟨aTb_at 201 (by decide +kernel) (by decide +kernel), insX7_init, iniX7, codX7_init⟩, by decide +kernel, by decide +kernel⟩
theorem lX9_46 : aVk RX9 46 mX9_isSlot := ⟨⟨aTb_at 354 (by decide +kernel) (by decide +kernel), insX9_isSlot, selX9_isSlot, iniX9, codX9_isSlot⟩, by decide +kernel, by decide +kernel⟩
theorem lX9_50 : aVk RX9 50 mX3_lay := ⟨⟨aTb_at 358 (by decide +kernel) (by decide +kernel), insX3_lay, selX3_lay, iniX3, codX3_lay⟩, by decide +kernel, by decide +kernel⟩
theorem lX9_54 : aVk RX9 54 mX3_isBare := ⟨⟨aTb_at 366 (by decide +kernel) (by decide +kernel), insX3_isBare, selX3_isBare, iniX3, codX3_isBare⟩, by decide +kernel, by decide +kernel⟩
theorem lX9_58 : aVk RX9 58 mX3_strip := ⟨⟨aTb_at 370 (by decide +kernel) (by decide +kernel), insX3_strip, selX3_strip, iniX3, codX3_strip⟩, by decide +kernel, by decide +kernel⟩
theorem lX9_69 : aVk RX9 69 mX3_cut := ⟨⟨aTb_at 378 (by decide +kernel) (by decide +kernel), insX3_cut, selX3_cut, iniX3, codX3_cut⟩, by decide +kernel, by decide +kernel⟩
theorem lX9_76 : aVk RX9 76 mX3_hasPlaces := ⟨⟨aTb_at 386 (by decide +kernel) (by decide +kernel), insX3_hasPlaces, selX3_hasPlaces, iniX3, codX3_hasPlaces⟩, by decide +kernel, by decide +kernel⟩
theorem lsX9_80 : Cond.methodLink RX9 80 arraycopyName ∈ aTb := aTb_at 390 (by decide +kernel) (by decide +kernel)
theorem lX9_90 : aSk RX9 90 mX5_areSound := ⟨⟨aTb_at 397 (by decide +kernel) (by decide +kernel), staX5_areSound, iniX5, codX5_areSound⟩, by decide +kernel, by decide +kernel⟩
theorem lX9_118 : aVk RX9 118 mX3_holdsActsAlone := ⟨⟨aTb_at 404 (by decide +kernel) (by decide +kernel), insX3_holdsActsAlone, selX3_holdsActsAlone, iniX3, codX3_holdsActsAlone⟩, by decide +kernel, by decide +kernel⟩
theorem lX9_121 : aVk RX9 121 mX1_become := ⟨⟨aTb_at 415 (by decide +kernel) (by decide +kernel), insX1_become, selX1_become, iniX1, codX1_become⟩, by decide +kernel, by decide +kernel⟩
theorem lX9_128 : aVk RX9 128 mX9_isProgram := ⟨⟨aTb_at 427 (by decide +kernel) (by decide +kernel), insX9_isProgram, selX9_isProgram, iniX9, codX9_isProgram⟩, by decide +kernel, by decide +kernel⟩
theorem lX9_131 : aVk RX9 131 mX0_timeByRoom := ⟨⟨aTb_at 431 (by decide +kernel) (by decide +kernel), insX0_timeByRoom, selX0_timeByRoom, iniX0, codX0_timeByRoom⟩, by decide +kernel, by decide +kernel⟩
theorem lX9_135 : aVk RX9 135 mX0_needInSteps := ⟨⟨aTb_at 481 (by decide +kernel) (by decide +kernel), insX0_needInSteps, selX0_needInSteps, iniX0, codX0_needInSteps⟩, by decide +kernel, by decide +kernel⟩
theorem lX9_139 : aVk RX9 139 mX5_allSteps := ⟨⟨aTb_at 501 (by decide +kernel) (by decide +kernel), insX5_allSteps, selX5_allSteps, iniX5, codX5_allSteps⟩, by decide +kernel, by decide +kernel⟩
theorem lX9_143 : aVk RX9 143 mX1_fallsEverSlower := ⟨⟨aTb_at 502 (by decide +kernel) (by decide +kernel), insX1_fallsEverSlower, selX1_fallsEverSlower, iniX1, codX1_fallsEverSlower⟩, by decide +kernel, by decide +kernel⟩
theorem lX9_146 : aVk RX9 146 mX0_bySavings := ⟨⟨aTb_at 511 (by decide +kernel) (by decide +kernel), insX0_bySavings, selX0_bySavings, iniX0, codX0_bySavings⟩, by decide +kernel, by decide +kernel⟩
theorem lX9_150 : aVk RX9 150 mX0_atBest := ⟨⟨aTb_at 532 (by decide +kernel) (by decide +kernel), insX0_atBest, selX0_atBest, iniX0, codX0_atBest⟩, by decide +kernel, by decide +kernel⟩
theorem lX9_157 : aVk RX9 157 mX7_start := ⟨⟨aTb_at 559 (by decide +kernel) (by decide +kernel), insX7_start, selX7_start, iniX7, codX7_start⟩, by decide +kernel, by decide +kernel⟩
theorem lX9_161 : aVk RX9 161 mX7_someGoOn := ⟨⟨aTb_at 580 (by decide +kernel) (by decide +kernel), insX7_someGoOn, selX7_someGoOn, iniX7, codX7_someGoOn⟩, by decide +kernel, by decide +kernel⟩
theorem lX9_164 : aVk RX9 164 mX7_tick := ⟨⟨aTb_at 588 (by decide +kernel) (by decide +kernel), insX7_tick, selX7_tick, iniX7, codX7_tick⟩, by decide +kernel, by decide +kernel⟩
theorem lX9_174 : aVk RX9 174 mX2_told := ⟨⟨aTb_at 744 (by decide +kernel) (by decide +kernel), insX2_told, selX2_told, iniX2, codX2_told⟩, by decide +kernel, by decide +kernel⟩
theorem lX9_187 : aVk RX9 187 mX4_kept := ⟨⟨aTb_at 752 (by decide +kernel) (by decide +kernel), insX4_kept, selX4_kept, iniX4, codX4_kept⟩, by decide +kernel, by decide +kernel⟩
theorem lX9_195 : aVk RX9 195 mX9_rowsThere := ⟨⟨aTb_at 757 (by decide +kernel) (by decide +kernel), insX9_rowsThere, selX9_rowsThere, iniX9, codX9_rowsThere⟩, by decide +kernel, by decide +kernel⟩
theorem lX9_198 : aVk RX9 198 mX4_told := ⟨⟨aTb_at 765 (by decide +kernel) (by decide +kernel), insX4_told, selX4_told, iniX4, codX4_told⟩, by decide +kernel, by decide +kernel⟩
theorem loX0_3 : Cond.methodLink RX0 3 Lib.objectInit ∈ aTb := aTb_at 127 (by decide +kernel) (by decide +kernel)
theorem lX0_38 : aVk RX0 38 mX8_pass := ⟨⟨aTb_at 435 (by decide +kernel) (by decide +kernel), insX8_pass, selX8_pass, iniX8, codX8_pass⟩, by decide +kernel, by decide +kernel⟩
theorem lX0_42 : aVk RX0 42 mX8_timeOf := ⟨⟨aTb_at 473 (by decide +kernel) (by decide +kernel), insX8_timeOf, selX8_timeOf, iniX8, codX8_timeOf⟩, by decide +kernel, by decide +kernel⟩
theorem lX0_46 : aVk RX0 46 mX0_learnTimes := ⟨⟨aTb_at 485 (by decide +kernel) (by decide +kernel), insX0_learnTimes, selX0_learnTimes, iniX0, codX0_learnTimes⟩, by decide +kernel, by decide +kernel⟩
theorem lX0_56 : aVk RX0 56 mX5_stepsFor := ⟨⟨aTb_at 493 (by decide +kernel) (by decide +kernel), insX5_stepsFor, selX5_stepsFor, iniX5, codX5_stepsFor⟩, by decide +kernel, by decide +kernel⟩
theorem lX0_61 : aVk RX0 61 mX5_allSteps := ⟨⟨aTb_at 489 (by decide +kernel) (by decide +kernel), insX5_allSteps, selX5_allSteps, iniX5, codX5_allSteps⟩, by decide +kernel, by decide +kernel⟩
theorem lX0_74 : aVk RX0 74 mX5_dealtSteps := ⟨⟨aTb_at 515 (by decide +kernel) (by decide +kernel), insX5_dealtSteps, selX5_dealtSteps, iniX5, codX5_dealtSteps⟩, by decide +kernel, by decide +kernel⟩
theorem lX0_77 : aVk RX0 77 mX0_needInSteps := ⟨⟨aTb_at 519 (by decide +kernel) (by decide +kernel), insX0_needInSteps, selX0_needInSteps, iniX0, codX0_needInSteps⟩, by decide +kernel, by decide +kernel⟩
theorem lX0_81 : aVk RX0 81 mX0_whoSavesMost := ⟨⟨aTb_at 520 (by decide +kernel) (by decide +kernel), insX0_whoSavesMost, selX0_whoSavesMost, iniX0, codX0_whoSavesMost⟩, by decide +kernel, by decide +kernel⟩
theorem lX0_85 : aVk RX0 85 mX0_sumOfTimes := ⟨⟨aTb_at 524 (by decide +kernel) (by decide +kernel), insX0_sumOfTimes, selX0_sumOfTimes, iniX0, codX0_sumOfTimes⟩, by decide +kernel, by decide +kernel⟩
theorem lX0_88 : aVk RX0 88 mX0_firstBestShare := ⟨⟨aTb_at 536 (by decide +kernel) (by decide +kernel), insX0_firstBestShare, selX0_firstBestShare, iniX0, codX0_firstBestShare⟩, by decide +kernel, by decide +kernel⟩
theorem lX0_92 : aVk RX0 92 mX0_sumWith := ⟨⟨aTb_at 540 (by decide +kernel) (by decide +kernel), insX0_sumWith, selX0_sumWith, iniX0, codX0_sumWith⟩, by decide +kernel, by decide +kernel⟩
theorem lX0_96 : aVk RX0 96 mX0_takeFirstBest := ⟨⟨aTb_at 544 (by decide +kernel) (by decide +kernel), insX0_takeFirstBest, selX0_takeFirstBest, iniX0, codX0_takeFirstBest⟩, by decide +kernel, by decide +kernel⟩
theorem lX0_100 : aSk RX0 100 mJ9_max_7cf53 := ⟨⟨aTb_at 548 (by decide +kernel) (by decide +kernel), staJ9_max_7cf53, iniJ9, codJ9_max_7cf53⟩, by decide +kernel, by decide +kernel⟩
theorem loX1_3 : Cond.methodLink RX1 3 Lib.objectInit ∈ aTb := aTb_at 51 (by decide +kernel) (by decide +kernel)
theorem loX2_3 : Cond.methodLink RX2 3 Lib.objectInit ∈ aTb := aTb_at 234 (by decide +kernel) (by decide +kernel)
theorem lX2_26 : aVk RX2 26 mX6_forget := ⟨⟨aTb_at 571 (by decide +kernel) (by decide +kernel), insX6_forget, selX6_forget, iniX6, codX6_forget⟩, by decide +kernel, by decide +kernel⟩
theorem lX2_81 : aVk RX2 81 mX2_nextAct := ⟨⟨aTb_at 596 (by decide +kernel) (by decide +kernel), insX2_nextAct, selX2_nextAct, iniX2, codX2_nextAct⟩, by decide +kernel, by decide +kernel⟩
theorem lX2_85 : aSk RX2 85 mX1_isMake := ⟨⟨aTb_at 600 (by decide +kernel) (by decide +kernel), staX1_isMake, iniX1, codX1_isMake⟩, by decide +kernel, by decide +kernel⟩
theorem lX2_89 : aVk RX2 89 mX1_holds := ⟨⟨aTb_at 610 (by decide +kernel) (by decide +kernel), insX1_holds, selX1_holds, iniX1, codX1_holds⟩, by decide +kernel, by decide +kernel⟩
theorem lX2_104 : aVk RX2 104 mX1_roomFor := ⟨⟨aTb_at 650 (by decide +kernel) (by decide +kernel), insX1_roomFor, selX1_roomFor, iniX1, codX1_roomFor⟩, by decide +kernel, by decide +kernel⟩
theorem lX2_107 : aSk RX2 107 mJ9_max_7cf53 := ⟨⟨aTb_at 651 (by decide +kernel) (by decide +kernel), staJ9_max_7cf53, iniJ9, codJ9_max_7cf53⟩, by decide +kernel, by decide +kernel⟩
theorem lX2_113 : aVk RX2 113 mX5_stepsFor := ⟨⟨aTb_at 652 (by decide +kernel) (by decide +kernel), insX5_stepsFor, selX5_stepsFor, iniX5, codX5_stepsFor⟩, by decide +kernel, by decide +kernel⟩
theorem lX2_116 : aVk RX2 116 mX2_goesOn := ⟨⟨aTb_at 645 (by decide +kernel) (by decide +kernel), insX2_goesOn, selX2_goesOn, iniX2, codX2_goesOn⟩, by decide +kernel, by decide +kernel⟩
theorem lX2_120 : aVk RX2 120 mX2_keep := ⟨⟨aTb_at 646 (by decide +kernel) (by decide +kernel), insX2_keep, selX2_keep, iniX2, codX2_keep⟩, by decide +kernel, by decide +kernel⟩
theorem lX2_124 : aVk RX2 124 mX1_costToCollect := ⟨⟨aTb_at 619 (by decide +kernel) (by decide +kernel), insX1_costToCollect, selX1_costToCollect, iniX1, codX1_costToCollect⟩, by decide +kernel, by decide +kernel⟩
theorem lX2_127 : aVk RX2 127 mX6_add := ⟨⟨aTb_at 679 (by decide +kernel) (by decide +kernel), insX6_add, selX6_add, iniX6, codX6_add⟩, by decide +kernel, by decide +kernel⟩
theorem lX2_134 : aVk RX2 134 mX2_isAwake := ⟨⟨aTb_at 722 (by decide +kernel) (by decide +kernel), insX2_isAwake, selX2_isAwake, iniX2, codX2_isAwake⟩, by decide +kernel, by decide +kernel⟩
theorem lX2_137 : aVk RX2 137 mX2_cellsOfStep := ⟨⟨aTb_at 726 (by decide +kernel) (by decide +kernel), insX2_cellsOfStep, selX2_cellsOfStep, iniX2, codX2_cellsOfStep⟩, by decide +kernel, by decide +kernel⟩
theorem loX3_3 : Cond.methodLink RX3 3 Lib.objectInit ∈ aTb := aTb_at 28 (by decide +kernel) (by decide +kernel)
theorem lX3_22 : aSk RX3 22 mX3_isAct := ⟨⟨aTb_at 408 (by decide +kernel) (by decide +kernel), staX3_isAct, iniX3, codX3_isAct⟩, by decide +kernel, by decide +kernel⟩
theorem loX4_3 : Cond.methodLink RX4 3 Lib.objectInit ∈ aTb := aTb_at 210 (by decide +kernel) (by decide +kernel)
theorem lX4_28 : aSk RX4 28 mJ9_min_7cf53 := ⟨⟨aTb_at 756 (by decide +kernel) (by decide +kernel), staJ9_min_7cf53, iniJ9, codJ9_min_7cf53⟩, by decide +kernel, by decide +kernel⟩
theorem lX4_34 : aVk RX4 34 mX4_kept := ⟨⟨aTb_at 769 (by decide +kernel) (by decide +kernel), insX4_kept, selX4_kept, iniX4, codX4_kept⟩, by decide +kernel, by decide +kernel⟩
theorem loX5_3 : Cond.methodLink RX5 3 Lib.objectInit ∈ aTb := aTb_at 93 (by decide +kernel) (by decide +kernel)
theorem loX6_3 : Cond.methodLink RX6 3 Lib.objectInit ∈ aTb := aTb_at 139 (by decide +kernel) (by decide +kernel)
theorem loX7_3 : Cond.methodLink RX7 3 Lib.objectInit ∈ aTb := aTb_at 204 (by decide +kernel) (by decide +kernel)
theorem lX7_42 : aIk RX7 42 mX2_init := ⟨⟨aTb_at 231 (by decide +kernel) (by decide +kernel), insX2_init, iniX2, codX2_init⟩, by decide +kernel, by decide +kernel⟩
theorem lX7_45 : aVk RX7 45 mX4_forget := ⟨⟨aTb_at 563 (by decide +kernel) (by decide +kernel), insX4_forget, selX4_forget, iniX4, codX4_forget⟩, by decide +kernel, by decide +kernel⟩
theorem lX7_56 : aVk RX7 56 mX2_start := ⟨⟨aTb_at 567 (by decide +kernel) (by decide +kernel), insX2_start, selX2_start, iniX2, codX2_start⟩, by decide +kernel, by decide +kernel⟩
theorem lX7_60 : aVk RX7 60 mX2_goesOn := ⟨⟨aTb_at 584 (by decide +kernel) (by decide +kernel), insX2_goesOn, selX2_goesOn, iniX2, codX2_goesOn⟩, by decide +kernel, by decide +kernel⟩
theorem lX7_64 : aVk RX7 64 mX2_isAboutToMake := ⟨⟨aTb_at 592 (by decide +kernel) (by decide +kernel), insX2_isAboutToMake, selX2_isAboutToMake, iniX2, codX2_isAboutToMake⟩, by decide +kernel, by decide +kernel⟩
theorem lX7_67 : aVk RX7 67 mX7_tryMake := ⟨⟨aTb_at 601 (by decide +kernel) (by decide +kernel), insX7_tryMake, selX7_tryMake, iniX7, codX7_tryMake⟩, by decide +kernel, by decide +kernel⟩
theorem lX7_74 : aVk RX7 74 mX7_doOtherAct := ⟨⟨aTb_at 688 (by decide +kernel) (by decide +kernel), insX7_doOtherAct, selX7_doOtherAct, iniX7, codX7_doOtherAct⟩, by decide +kernel, by decide +kernel⟩
theorem lX7_77 : aVk RX7 77 mX7_passTick := ⟨⟨aTb_at 693 (by decide +kernel) (by decide +kernel), insX7_passTick, selX7_passTick, iniX7, codX7_passTick⟩, by decide +kernel, by decide +kernel⟩
theorem lX7_83 : aVk RX7 83 mX7_redeal := ⟨⟨aTb_at 702 (by decide +kernel) (by decide +kernel), insX7_redeal, selX7_redeal, iniX7, codX7_redeal⟩, by decide +kernel, by decide +kernel⟩
theorem lX7_89 : aVk RX7 89 mX2_waitFor := ⟨⟨aTb_at 624 (by decide +kernel) (by decide +kernel), insX2_waitFor, selX2_waitFor, iniX2, codX2_waitFor⟩, by decide +kernel, by decide +kernel⟩
theorem lX7_93 : aVk RX7 93 mX7_wake := ⟨⟨aTb_at 697 (by decide +kernel) (by decide +kernel), insX7_wake, selX7_wake, iniX7, codX7_wake⟩, by decide +kernel, by decide +kernel⟩
theorem lX7_96 : aVk RX7 96 mX7_endAct := ⟨⟨aTb_at 680 (by decide +kernel) (by decide +kernel), insX7_endAct, selX7_endAct, iniX7, codX7_endAct⟩, by decide +kernel, by decide +kernel⟩
theorem lX7_99 : aVk RX7 99 mX2_nextAct := ⟨⟨aTb_at 605 (by decide +kernel) (by decide +kernel), insX2_nextAct, selX2_nextAct, iniX2, codX2_nextAct⟩, by decide +kernel, by decide +kernel⟩
theorem lX7_107 : aVk RX7 107 mX6_die := ⟨⟨aTb_at 692 (by decide +kernel) (by decide +kernel), insX6_die, selX6_die, iniX6, codX6_die⟩, by decide +kernel, by decide +kernel⟩
theorem lX7_112 : aVk RX7 112 mX2_fits := ⟨⟨aTb_at 606 (by decide +kernel) (by decide +kernel), insX2_fits, selX2_fits, iniX2, codX2_fits⟩, by decide +kernel, by decide +kernel⟩
theorem lX7_122 : aVk RX7 122 mX7_collect := ⟨⟨aTb_at 611 (by decide +kernel) (by decide +kernel), insX7_collect, selX7_collect, iniX7, codX7_collect⟩, by decide +kernel, by decide +kernel⟩
theorem lX7_126 : aVk RX7 126 mX7_getsByAsking := ⟨⟨aTb_at 628 (by decide +kernel) (by decide +kernel), insX7_getsByAsking, selX7_getsByAsking, iniX7, codX7_getsByAsking⟩, by decide +kernel, by decide +kernel⟩
theorem lX7_130 : aVk RX7 130 mX7_leave := ⟨⟨aTb_at 667 (by decide +kernel) (by decide +kernel), insX7_leave, selX7_leave, iniX7, codX7_leave⟩, by decide +kernel, by decide +kernel⟩
theorem lX7_134 : aVk RX7 134 mX2_makeNow := ⟨⟨aTb_at 675 (by decide +kernel) (by decide +kernel), insX2_makeNow, selX2_makeNow, iniX2, codX2_makeNow⟩, by decide +kernel, by decide +kernel⟩
theorem lX7_146 : aSk RX7 146 mJ9_max_7cf53 := ⟨⟨aTb_at 701 (by decide +kernel) (by decide +kernel), staJ9_max_7cf53, iniJ9, codJ9_max_7cf53⟩, by decide +kernel, by decide +kernel⟩
theorem lX7_152 : aSk RX7 152 mJ9_min_7cf53 := ⟨⟨aTb_at 657 (by decide +kernel) (by decide +kernel), staJ9_min_7cf53, iniJ9, codJ9_min_7cf53⟩, by decide +kernel, by decide +kernel⟩
theorem lX7_158 : aVk RX7 158 mX4_add := ⟨⟨aTb_at 620 (by decide +kernel) (by decide +kernel), insX4_add, selX4_add, iniX4, codX4_add⟩, by decide +kernel, by decide +kernel⟩
theorem lX7_174 : aVk RX7 174 mX2_endRound := ⟨⟨aTb_at 684 (by decide +kernel) (by decide +kernel), insX2_endRound, selX2_endRound, iniX2, codX2_endRound⟩, by decide +kernel, by decide +kernel⟩
theorem lX7_189 : aVk RX7 189 mX2_leave := ⟨⟨aTb_at 671 (by decide +kernel) (by decide +kernel), insX2_leave, selX2_leave, iniX2, codX2_leave⟩, by decide +kernel, by decide +kernel⟩
theorem lX7_191 : aVk RX7 191 mX2_collectNow := ⟨⟨aTb_at 615 (by decide +kernel) (by decide +kernel), insX2_collectNow, selX2_collectNow, iniX2, codX2_collectNow⟩, by decide +kernel, by decide +kernel⟩
theorem lX7_194 : aVk RX7 194 mX1_roomFor := ⟨⟨aTb_at 632 (by decide +kernel) (by decide +kernel), insX1_roomFor, selX1_roomFor, iniX1, codX1_roomFor⟩, by decide +kernel, by decide +kernel⟩
theorem lX7_198 : aVk RX7 198 mX5_stepsFor := ⟨⟨aTb_at 636 (by decide +kernel) (by decide +kernel), insX5_stepsFor, selX5_stepsFor, iniX5, codX5_stepsFor⟩, by decide +kernel, by decide +kernel⟩
theorem lX7_201 : aVk RX7 201 mX7_spareOfOthers := ⟨⟨aTb_at 637 (by decide +kernel) (by decide +kernel), insX7_spareOfOthers, selX7_spareOfOthers, iniX7, codX7_spareOfOthers⟩, by decide +kernel, by decide +kernel⟩
theorem lX7_204 : aVk RX7 204 mX7_fairPart := ⟨⟨aTb_at 653 (by decide +kernel) (by decide +kernel), insX7_fairPart, selX7_fairPart, iniX7, codX7_fairPart⟩, by decide +kernel, by decide +kernel⟩
theorem lX7_207 : aVk RX7 207 mX2_spare := ⟨⟨aTb_at 641 (by decide +kernel) (by decide +kernel), insX2_spare, selX2_spare, iniX2, codX2_spare⟩, by decide +kernel, by decide +kernel⟩
theorem lX7_211 : aVk RX7 211 mX7_give := ⟨⟨aTb_at 658 (by decide +kernel) (by decide +kernel), insX7_give, selX7_give, iniX7, codX7_give⟩, by decide +kernel, by decide +kernel⟩
theorem lX7_215 : aVk RX7 215 mX7_whoSparesMost := ⟨⟨aTb_at 663 (by decide +kernel) (by decide +kernel), insX7_whoSparesMost, selX7_whoSparesMost, iniX7, codX7_whoSparesMost⟩, by decide +kernel, by decide +kernel⟩
theorem lX7_218 : aVk RX7 218 mX1_holds := ⟨⟨aTb_at 662 (by decide +kernel) (by decide +kernel), insX1_holds, selX1_holds, iniX1, codX1_holds⟩, by decide +kernel, by decide +kernel⟩
theorem lX7_221 : aVk RX7 221 mX7_squeeze := ⟨⟨aTb_at 706 (by decide +kernel) (by decide +kernel), insX7_squeeze, selX7_squeeze, iniX7, codX7_squeeze⟩, by decide +kernel, by decide +kernel⟩
theorem lX7_227 : aVk RX7 227 mX7_movesStep := ⟨⟨aTb_at 710 (by decide +kernel) (by decide +kernel), insX7_movesStep, selX7_movesStep, iniX7, codX7_movesStep⟩, by decide +kernel, by decide +kernel⟩
theorem lX7_233 : aVk RX7 233 mX7_whoGainsMost := ⟨⟨aTb_at 714 (by decide +kernel) (by decide +kernel), insX7_whoGainsMost, selX7_whoGainsMost, iniX7, codX7_whoGainsMost⟩, by decide +kernel, by decide +kernel⟩
theorem lX7_239 : aVk RX7 239 mX7_whoLosesLeast := ⟨⟨aTb_at 730 (by decide +kernel) (by decide +kernel), insX7_whoLosesLeast, selX7_whoLosesLeast, iniX7, codX7_whoLosesLeast⟩, by decide +kernel, by decide +kernel⟩
theorem lX7_242 : aVk RX7 242 mX2_loss := ⟨⟨aTb_at 735 (by decide +kernel) (by decide +kernel), insX2_loss, selX2_loss, iniX2, codX2_loss⟩, by decide +kernel, by decide +kernel⟩
theorem lX7_246 : aVk RX7 246 mX2_gain := ⟨⟨aTb_at 718 (by decide +kernel) (by decide +kernel), insX2_gain, selX2_gain, iniX2, codX2_gain⟩, by decide +kernel, by decide +kernel⟩
theorem loX8_3 : Cond.methodLink RX8 3 Lib.objectInit ∈ aTb := aTb_at 133 (by decide +kernel) (by decide +kernel)
theorem lX8_28 : aSk RX8 28 mJ9_min_7cf53 := ⟨⟨aTb_at 439 (by decide +kernel) (by decide +kernel), staJ9_min_7cf53, iniJ9, codJ9_min_7cf53⟩, by decide +kernel, by decide +kernel⟩
theorem lX8_44 : aVk RX8 44 mX6_forget := ⟨⟨aTb_at 442 (by decide +kernel) (by decide +kernel), insX6_forget, selX6_forget, iniX6, codX6_forget⟩, by decide +kernel, by decide +kernel⟩
theorem lX8_47 : aVk RX8 47 mX1_holds := ⟨⟨aTb_at 446 (by decide +kernel) (by decide +kernel), insX1_holds, selX1_holds, iniX1, codX1_holds⟩, by decide +kernel, by decide +kernel⟩
theorem lX8_55 : aVk RX8 55 mX8_passRound := ⟨⟨aTb_at 450 (by decide +kernel) (by decide +kernel), insX8_passRound, selX8_passRound, iniX8, codX8_passRound⟩, by decide +kernel, by decide +kernel⟩
theorem lX8_65 : aVk RX8 65 mX6_die := ⟨⟨aTb_at 454 (by decide +kernel) (by decide +kernel), insX6_die, selX6_die, iniX6, codX6_die⟩, by decide +kernel, by decide +kernel⟩
theorem lX8_69 : aSk RX8 69 mX1_isMake := ⟨⟨aTb_at 458 (by decide +kernel) (by decide +kernel), staX1_isMake, iniX1, codX1_isMake⟩, by decide +kernel, by decide +kernel⟩
theorem lX8_73 : aVk RX8 73 mX8_makeInAll := ⟨⟨aTb_at 461 (by decide +kernel) (by decide +kernel), insX8_makeInAll, selX8_makeInAll, iniX8, codX8_makeInAll⟩, by decide +kernel, by decide +kernel⟩
theorem lX8_80 : aVk RX8 80 mX1_costToCollect := ⟨⟨aTb_at 465 (by decide +kernel) (by decide +kernel), insX1_costToCollect, selX1_costToCollect, iniX1, codX1_costToCollect⟩, by decide +kernel, by decide +kernel⟩
theorem lX8_83 : aVk RX8 83 mX6_add := ⟨⟨aTb_at 469 (by decide +kernel) (by decide +kernel), insX6_add, selX6_add, iniX6, codX6_add⟩, by decide +kernel, by decide +kernel⟩
theorem lL_9 : aIk RL 9 mX9_init := ⟨⟨aTb_at 16 (by decide +kernel) (by decide +kernel), insX9_init, iniX9, codX9_init⟩, by decide +kernel, by decide +kernel⟩
theorem lL_12 : aIk RL 12 mX10_init := ⟨⟨aTb_at 772 (by decide +kernel) (by decide +kernel), insX10_init, iniX10, codX10_init⟩, by decide +kernel, by decide +kernel⟩
theorem lL_13 : aVk RL 13 mX9_row := ⟨⟨aTb_at 350 (by decide +kernel) (by decide +kernel), insX9_row, selX9_row, iniX9, codX9_row⟩, by decide +kernel, by decide +kernel⟩
theorem lL_17 : aVk RL 17 mX10_row := ⟨⟨aTb_at 916 (by decide +kernel) (by decide +kernel), insX10_row, selX10_row, iniX10, codX10_row⟩, by decide +kernel, by decide +kernel⟩
theorem lL_18 : aVk RL 18 mX9_tear := ⟨⟨aTb_at 362 (by decide +kernel) (by decide +kernel), insX9_tear, selX9_tear, iniX9, codX9_tear⟩, by decide +kernel, by decide +kernel⟩
theorem lL_22 : aVk RL 22 mX10_tear := ⟨⟨aTb_at 926 (by decide +kernel) (by decide +kernel), insX10_tear, selX10_tear, iniX10, codX10_tear⟩, by decide +kernel, by decide +kernel⟩
theorem lL_25 : aVk RL 25 mX9_write := ⟨⟨aTb_at 374 (by decide +kernel) (by decide +kernel), insX9_write, selX9_write, iniX9, codX9_write⟩, by decide +kernel, by decide +kernel⟩
theorem lL_29 : aVk RL 29 mX10_write := ⟨⟨aTb_at 930 (by decide +kernel) (by decide +kernel), insX10_write, selX10_write, iniX10, codX10_write⟩, by decide +kernel, by decide +kernel⟩
theorem lL_30 : aVk RL 30 mX9_paste := ⟨⟨aTb_at 382 (by decide +kernel) (by decide +kernel), insX9_paste, selX9_paste, iniX9, codX9_paste⟩, by decide +kernel, by decide +kernel⟩
theorem lL_34 : aVk RL 34 mX10_paste := ⟨⟨aTb_at 937 (by decide +kernel) (by decide +kernel), insX10_paste, selX10_paste, iniX10, codX10_paste⟩, by decide +kernel, by decide +kernel⟩
theorem lL_35 : aVk RL 35 mX9_terms := ⟨⟨aTb_at 393 (by decide +kernel) (by decide +kernel), insX9_terms, selX9_terms, iniX9, codX9_terms⟩, by decide +kernel, by decide +kernel⟩
theorem lL_38 : aVk RL 38 mX10_terms := ⟨⟨aTb_at 941 (by decide +kernel) (by decide +kernel), insX10_terms, selX10_terms, iniX10, codX10_terms⟩, by decide +kernel, by decide +kernel⟩
theorem lL_39 : aVk RL 39 mX9_program := ⟨⟨aTb_at 400 (by decide +kernel) (by decide +kernel), insX9_program, selX9_program, iniX9, codX9_program⟩, by decide +kernel, by decide +kernel⟩
theorem lL_43 : aVk RL 43 mX10_program := ⟨⟨aTb_at 945 (by decide +kernel) (by decide +kernel), insX10_program, selX10_program, iniX10, codX10_program⟩, by decide +kernel, by decide +kernel⟩
theorem lL_44 : aVk RL 44 mX9_clear := ⟨⟨aTb_at 419 (by decide +kernel) (by decide +kernel), insX9_clear, selX9_clear, iniX9, codX9_clear⟩, by decide +kernel, by decide +kernel⟩
theorem lL_48 : aVk RL 48 mX10_clear := ⟨⟨aTb_at 953 (by decide +kernel) (by decide +kernel), insX10_clear, selX10_clear, iniX10, codX10_clear⟩, by decide +kernel, by decide +kernel⟩
theorem lL_49 : aVk RL 49 mX9_time := ⟨⟨aTb_at 423 (by decide +kernel) (by decide +kernel), insX9_time, selX9_time, iniX9, codX9_time⟩, by decide +kernel, by decide +kernel⟩
theorem lL_53 : aVk RL 53 mX10_time := ⟨⟨aTb_at 957 (by decide +kernel) (by decide +kernel), insX10_time, selX10_time, iniX10, codX10_time⟩, by decide +kernel, by decide +kernel⟩
theorem lL_54 : aVk RL 54 mX9_need := ⟨⟨aTb_at 477 (by decide +kernel) (by decide +kernel), insX9_need, selX9_need, iniX9, codX9_need⟩, by decide +kernel, by decide +kernel⟩
theorem lL_58 : aVk RL 58 mX10_need := ⟨⟨aTb_at 975 (by decide +kernel) (by decide +kernel), insX10_need, selX10_need, iniX10, codX10_need⟩, by decide +kernel, by decide +kernel⟩
theorem lL_59 : aVk RL 59 mX9_falls := ⟨⟨aTb_at 497 (by decide +kernel) (by decide +kernel), insX9_falls, selX9_falls, iniX9, codX9_falls⟩, by decide +kernel, by decide +kernel⟩
theorem lL_62 : aVk RL 62 mX10_falls := ⟨⟨aTb_at 987 (by decide +kernel) (by decide +kernel), insX10_falls, selX10_falls, iniX10, codX10_falls⟩, by decide +kernel, by decide +kernel⟩
theorem lL_63 : aVk RL 63 mX9_deal := ⟨⟨aTb_at 507 (by decide +kernel) (by decide +kernel), insX9_deal, selX9_deal, iniX9, codX9_deal⟩, by decide +kernel, by decide +kernel⟩
theorem lL_66 : aVk RL 66 mX10_deal := ⟨⟨aTb_at 992 (by decide +kernel) (by decide +kernel), insX10_deal, selX10_deal, iniX10, codX10_deal⟩, by decide +kernel, by decide +kernel⟩
theorem lL_67 : aVk RL 67 mX9_best := ⟨⟨aTb_at 528 (by decide +kernel) (by decide +kernel), insX9_best, selX9_best, iniX9, codX9_best⟩, by decide +kernel, by decide +kernel⟩
theorem lL_70 : aVk RL 70 mX10_best := ⟨⟨aTb_at 1008 (by decide +kernel) (by decide +kernel), insX10_best, selX10_best, iniX10, codX10_best⟩, by decide +kernel, by decide +kernel⟩
theorem lL_71 : aVk RL 71 mX9_share := ⟨⟨aTb_at 551 (by decide +kernel) (by decide +kernel), insX9_share, selX9_share, iniX9, codX9_share⟩, by decide +kernel, by decide +kernel⟩
theorem lL_74 : aVk RL 74 mX10_share := ⟨⟨aTb_at 1016 (by decide +kernel) (by decide +kernel), insX10_share, selX10_share, iniX10, codX10_share⟩, by decide +kernel, by decide +kernel⟩
theorem lL_75 : aVk RL 75 mX9_begin := ⟨⟨aTb_at 555 (by decide +kernel) (by decide +kernel), insX9_begin, selX9_begin, iniX9, codX9_begin⟩, by decide +kernel, by decide +kernel⟩
theorem lL_79 : aVk RL 79 mX10_begin := ⟨⟨aTb_at 1020 (by decide +kernel) (by decide +kernel), insX10_begin, selX10_begin, iniX10, codX10_begin⟩, by decide +kernel, by decide +kernel⟩
theorem lL_80 : aVk RL 80 mX9_stop := ⟨⟨aTb_at 572 (by decide +kernel) (by decide +kernel), insX9_stop, selX9_stop, iniX9, codX9_stop⟩, by decide +kernel, by decide +kernel⟩
theorem lL_83 : aVk RL 83 mX10_stop := ⟨⟨aTb_at 1024 (by decide +kernel) (by decide +kernel), insX10_stop, selX10_stop, iniX10, codX10_stop⟩, by decide +kernel, by decide +kernel⟩
theorem lL_84 : aVk RL 84 mX9_run := ⟨⟨aTb_at 576 (by decide +kernel) (by decide +kernel), insX9_run, selX9_run, iniX9, codX9_run⟩, by decide +kernel, by decide +kernel⟩
theorem lL_87 : aVk RL 87 mX10_run := ⟨⟨aTb_at 1028 (by decide +kernel) (by decide +kernel), insX10_run, selX10_run, iniX10, codX10_run⟩, by decide +kernel, by decide +kernel⟩
theorem lL_88 : aVk RL 88 mX9_of := ⟨⟨aTb_at 740 (by decide +kernel) (by decide +kernel), insX9_of, selX9_of, iniX9, codX9_of⟩, by decide +kernel, by decide +kernel⟩
theorem lL_91 : aVk RL 91 mX10_of := ⟨⟨aTb_at 1098 (by decide +kernel) (by decide +kernel), insX10_of, selX10_of, iniX10, codX10_of⟩, by decide +kernel, by decide +kernel⟩
theorem lL_92 : aVk RL 92 mX9_count := ⟨⟨aTb_at 748 (by decide +kernel) (by decide +kernel), insX9_count, selX9_count, iniX9, codX9_count⟩, by decide +kernel, by decide +kernel⟩
theorem lL_95 : aVk RL 95 mX10_count := ⟨⟨aTb_at 1102 (by decide +kernel) (by decide +kernel), insX10_count, selX10_count, iniX10, codX10_count⟩, by decide +kernel, by decide +kernel⟩
theorem lL_96 : aVk RL 96 mX9_log := ⟨⟨aTb_at 761 (by decide +kernel) (by decide +kernel), insX9_log, selX9_log, iniX9, codX9_log⟩, by decide +kernel, by decide +kernel⟩
theorem lL_99 : aVk RL 99 mX10_log := ⟨⟨aTb_at 1106 (by decide +kernel) (by decide +kernel), insX10_log, selX10_log, iniX10, codX10_log⟩, by decide +kernel, by decide +kernel⟩
theorem loX10_1 : Cond.methodLink RX10 1 Lib.objectInit ∈ aTb := aTb_at 775 (by decide +kernel) (by decide +kernel)
theorem lX10_124 : aSk RX10 124 mX10_in := ⟨⟨aTb_at 923 (by decide +kernel) (by decide +kernel), staX10_in, iniX10, codX10_in⟩, by decide +kernel, by decide +kernel⟩
theorem lX10_128 : aSk RX10 128 mX10_isSlot := ⟨⟨aTb_at 920 (by decide +kernel) (by decide +kernel), staX10_isSlot, iniX10, codX10_isSlot⟩, by decide +kernel, by decide +kernel⟩
theorem lX10_132 : aSk RX10 132 mX10_cut := ⟨⟨aTb_at 934 (by decide +kernel) (by decide +kernel), staX10_cut, iniX10, codX10_cut⟩, by decide +kernel, by decide +kernel⟩
theorem lX10_160 : aSk RX10 160 mX10_holds := ⟨⟨aTb_at 969 (by decide +kernel) (by decide +kernel), staX10_holds, iniX10, codX10_holds⟩, by decide +kernel, by decide +kernel⟩
theorem lX10_164 : aSk RX10 164 mX10_cost := ⟨⟨aTb_at 972 (by decide +kernel) (by decide +kernel), staX10_cost, iniX10, codX10_cost⟩, by decide +kernel, by decide +kernel⟩
theorem lX10_168 : aVk RX10 168 mX10_isProgram := ⟨⟨aTb_at 961 (by decide +kernel) (by decide +kernel), insX10_isProgram, selX10_isProgram, iniX10, codX10_isProgram⟩, by decide +kernel, by decide +kernel⟩
theorem lX10_171 : aVk RX10 171 mX10_alone := ⟨⟨aTb_at 965 (by decide +kernel) (by decide +kernel), insX10_alone, selX10_alone, iniX10, codX10_alone⟩, by decide +kernel, by decide +kernel⟩
theorem lX10_174 : aVk RX10 174 mX10_up := ⟨⟨aTb_at 983 (by decide +kernel) (by decide +kernel), insX10_up, selX10_up, iniX10, codX10_up⟩, by decide +kernel, by decide +kernel⟩
theorem lX10_178 : aVk RX10 178 mX10_needOf := ⟨⟨aTb_at 979 (by decide +kernel) (by decide +kernel), insX10_needOf, selX10_needOf, iniX10, codX10_needOf⟩, by decide +kernel, by decide +kernel⟩
theorem lX10_184 : aVk RX10 184 mX10_areNeeds := ⟨⟨aTb_at 1000 (by decide +kernel) (by decide +kernel), insX10_areNeeds, selX10_areNeeds, iniX10, codX10_areNeeds⟩, by decide +kernel, by decide +kernel⟩
theorem lX10_188 : aVk RX10 188 mX10_sum := ⟨⟨aTb_at 1004 (by decide +kernel) (by decide +kernel), insX10_sum, selX10_sum, iniX10, codX10_sum⟩, by decide +kernel, by decide +kernel⟩
theorem lX10_192 : aVk RX10 192 mX10_dealt := ⟨⟨aTb_at 996 (by decide +kernel) (by decide +kernel), insX10_dealt, selX10_dealt, iniX10, codX10_dealt⟩, by decide +kernel, by decide +kernel⟩
theorem lX10_197 : aSk RX10 197 mJ9_min_f86c9 := ⟨⟨aTb_at 1013 (by decide +kernel) (by decide +kernel), staJ9_min_f86c9, iniJ9, codJ9_min_f86c9⟩, by decide +kernel, by decide +kernel⟩
theorem lX10_215 : aVk RX10 215 mX10_tells := ⟨⟨aTb_at 1053 (by decide +kernel) (by decide +kernel), insX10_tells, selX10_tells, iniX10, codX10_tells⟩, by decide +kernel, by decide +kernel⟩
theorem lX10_219 : aVk RX10 219 mX10_isThere := ⟨⟨aTb_at 1036 (by decide +kernel) (by decide +kernel), insX10_isThere, selX10_isThere, iniX10, codX10_isThere⟩, by decide +kernel, by decide +kernel⟩
theorem lX10_222 : aSk RX10 222 mJ9_max_7cf53 := ⟨⟨aTb_at 1077 (by decide +kernel) (by decide +kernel), staJ9_max_7cf53, iniJ9, codJ9_max_7cf53⟩, by decide +kernel, by decide +kernel⟩
theorem lX10_225 : aVk RX10 225 mX10_collects := ⟨⟨aTb_at 1065 (by decide +kernel) (by decide +kernel), insX10_collects, selX10_collects, iniX10, codX10_collects⟩, by decide +kernel, by decide +kernel⟩
theorem lX10_228 : aSk RX10 228 mJ9_min_7cf53 := ⟨⟨aTb_at 1052 (by decide +kernel) (by decide +kernel), staJ9_min_7cf53, iniJ9, codJ9_min_7cf53⟩, by decide +kernel, by decide +kernel⟩
theorem lX10_230 : aVk RX10 230 mX10_isOver := ⟨⟨aTb_at 1057 (by decide +kernel) (by decide +kernel), insX10_isOver, selX10_isOver, iniX10, codX10_isOver⟩, by decide +kernel, by decide +kernel⟩
theorem lX10_234 : aVk RX10 234 mX10_passes := ⟨⟨aTb_at 1048 (by decide +kernel) (by decide +kernel), insX10_passes, selX10_passes, iniX10, codX10_passes⟩, by decide +kernel, by decide +kernel⟩
theorem lX10_238 : aVk RX10 238 mX10_spare := ⟨⟨aTb_at 1073 (by decide +kernel) (by decide +kernel), insX10_spare, selX10_spare, iniX10, codX10_spare⟩, by decide +kernel, by decide +kernel⟩
theorem lX10_241 : aVk RX10 241 mX10_gives := ⟨⟨aTb_at 1078 (by decide +kernel) (by decide +kernel), insX10_gives, selX10_gives, iniX10, codX10_gives⟩, by decide +kernel, by decide +kernel⟩
theorem lX10_244 : aVk RX10 244 mX10_isUp := ⟨⟨aTb_at 1082 (by decide +kernel) (by decide +kernel), insX10_isUp, selX10_isUp, iniX10, codX10_isUp⟩, by decide +kernel, by decide +kernel⟩
theorem lX10_247 : aVk RX10 247 mX10_makes := ⟨⟨aTb_at 1061 (by decide +kernel) (by decide +kernel), insX10_makes, selX10_makes, iniX10, codX10_makes⟩, by decide +kernel, by decide +kernel⟩
theorem lX10_249 : aVk RX10 249 mX10_asks := ⟨⟨aTb_at 1069 (by decide +kernel) (by decide +kernel), insX10_asks, selX10_asks, iniX10, codX10_asks⟩, by decide +kernel, by decide +kernel⟩
theorem lX10_253 : aVk RX10 253 mX10_acts := ⟨⟨aTb_at 1044 (by decide +kernel) (by decide +kernel), insX10_acts, selX10_acts, iniX10, codX10_acts⟩, by decide +kernel, by decide +kernel⟩
theorem lX10_256 : aVk RX10 256 mX10_redeals := ⟨⟨aTb_at 1086 (by decide +kernel) (by decide +kernel), insX10_redeals, selX10_redeals, iniX10, codX10_redeals⟩, by decide +kernel, by decide +kernel⟩
theorem lX10_259 : aVk RX10 259 mX10_swung := ⟨⟨aTb_at 1090 (by decide +kernel) (by decide +kernel), insX10_swung, selX10_swung, iniX10, codX10_swung⟩, by decide +kernel, by decide +kernel⟩
theorem lX10_262 : aVk RX10 262 mX10_s := ⟨⟨aTb_at 1094 (by decide +kernel) (by decide +kernel), insX10_s, selX10_s, iniX10, codX10_s⟩, by decide +kernel, by decide +kernel⟩
theorem lX10_265 : aVk RX10 265 mX10_isAny := ⟨⟨aTb_at 1032 (by decide +kernel) (by decide +kernel), insX10_isAny, selX10_isAny, iniX10, codX10_isAny⟩, by decide +kernel, by decide +kernel⟩
theorem lX10_268 : aVk RX10 268 mX10_ticks := ⟨⟨aTb_at 1040 (by decide +kernel) (by decide +kernel), insX10_ticks, selX10_ticks, iniX10, codX10_ticks⟩, by decide +kernel, by decide +kernel⟩
theorem lX9_15 : aNk RX9 15 "RoomDealer" mX3_init := ⟨⟨List.mem_append_right _ (List.mem_of_getElem? (i := 25) (by decide +kernel)), insX3_init, iniX3, codX3_init⟩, by decide +kernel, by decide +kernel⟩
theorem lX9_22 : aNk RX9 22 "RoomDealer" mX1_init := ⟨⟨List.mem_append_right _ (List.mem_of_getElem? (i := 48) (by decide +kernel)), insX1_init, iniX1, codX1_init⟩, by decide +kernel, by decide +kernel⟩
theorem lX9_25 : aNk RX9 25 "RoomDealer" mX5_init := ⟨⟨List.mem_append_right _ (List.mem_of_getElem? (i := 90) (by decide +kernel)), insX5_init, iniX5, codX5_init⟩, by decide +kernel, by decide +kernel⟩
theorem lX0_11 : aNk RX0 11 "RoomDealer" mX8_init := ⟨⟨List.mem_append_right _ (List.mem_of_getElem? (i := 130) (by decide +kernel)), insX8_init, iniX8, codX8_init⟩, by decide +kernel, by decide +kernel⟩
theorem lX2_11 : aNk RX2 11 "RoomDealer" mX6_init := ⟨⟨List.mem_append_right _ (List.mem_of_getElem? (i := 236) (by decide +kernel)), insX6_init, iniX6, codX6_init⟩, by decide +kernel, by decide +kernel⟩
theorem lX7_11 : aNk RX7 11 "RoomDealer" mX4_init := ⟨⟨List.mem_append_right _ (List.mem_of_getElem? (i := 207) (by decide +kernel)), insX4_init, iniX4, codX4_init⟩, by decide +kernel, by decide +kernel⟩
theorem lX8_11 : aNk RX8 11 "RoomDealer" mX6_init := ⟨⟨List.mem_append_right _ (List.mem_of_getElem? (i := 136) (by decide +kernel)), insX6_init, iniX6, codX6_init⟩, by decide +kernel, by decide +kernel⟩
theorem fX9_11 : aFk RX9 11 9 0 := ⟨⟨by decide, by decide⟩, aTb_at 331 (by decide +kernel) (by decide +kernel)⟩
theorem fX9_18 : aFk RX9 18 9 2 := ⟨⟨by decide, by decide⟩, aTb_at 333 (by decide +kernel) (by decide +kernel)⟩
theorem fX9_26 : aFk RX9 26 9 1 := ⟨⟨by decide, by decide⟩, aTb_at 332 (by decide +kernel) (by decide +kernel)⟩
theorem fX9_35 : aFk RX9 35 9 3 := ⟨⟨by decide, by decide⟩, aTb_at 334 (by decide +kernel) (by decide +kernel)⟩
theorem fX9_42 : aFk RX9 42 9 4 := ⟨⟨by decide, by decide⟩, aTb_at 335 (by decide +kernel) (by decide +kernel)⟩
theorem fX9_61 : aFk RX9 61 3 2 := ⟨⟨by decide, by decide⟩, aTb_at 36 (by decide +kernel) (by decide +kernel)⟩
theorem fX9_65 : aFk RX9 65 3 0 := ⟨⟨by decide, by decide⟩, aTb_at 31 (by decide +kernel) (by decide +kernel)⟩
theorem fX9_73 : aFk RX9 73 3 1 := ⟨⟨by decide, by decide⟩, aTb_at 33 (by decide +kernel) (by decide +kernel)⟩
theorem fX9_86 : aFk RX9 86 7 4 := ⟨⟨by decide, by decide⟩, aTb_at 311 (by decide +kernel) (by decide +kernel)⟩
theorem fX9_94 : aFk RX9 94 5 0 := ⟨⟨by decide, by decide⟩, aTb_at 97 (by decide +kernel) (by decide +kernel)⟩
theorem fX9_97 : aFk RX9 97 5 1 := ⟨⟨by decide, by decide⟩, aTb_at 101 (by decide +kernel) (by decide +kernel)⟩
theorem fX9_100 : aFk RX9 100 5 2 := ⟨⟨by decide, by decide⟩, aTb_at 103 (by decide +kernel) (by decide +kernel)⟩
theorem fX9_103 : aFk RX9 103 5 3 := ⟨⟨by decide, by decide⟩, aTb_at 107 (by decide +kernel) (by decide +kernel)⟩
theorem fX9_106 : aFk RX9 106 5 4 := ⟨⟨by decide, by decide⟩, aTb_at 109 (by decide +kernel) (by decide +kernel)⟩
theorem fX9_109 : aFk RX9 109 0 4 := ⟨⟨by decide, by decide⟩, aTb_at 184 (by decide +kernel) (by decide +kernel)⟩
theorem fX9_112 : aFk RX9 112 9 5 := ⟨⟨by decide, by decide⟩, aTb_at 336 (by decide +kernel) (by decide +kernel)⟩
theorem fX9_115 : aFk RX9 115 1 6 := ⟨⟨by decide, by decide⟩, aTb_at 71 (by decide +kernel) (by decide +kernel)⟩
theorem fX9_125 : aFk RX9 125 7 3 := ⟨⟨by decide, by decide⟩, aTb_at 309 (by decide +kernel) (by decide +kernel)⟩
theorem fX9_153 : aFk RX9 153 0 2 := ⟨⟨by decide, by decide⟩, aTb_at 181 (by decide +kernel) (by decide +kernel)⟩
theorem fX9_167 : aFk RX9 167 7 5 := ⟨⟨by decide, by decide⟩, aTb_at 313 (by decide +kernel) (by decide +kernel)⟩
theorem fX9_170 : aFk RX9 170 7 2 := ⟨⟨by decide, by decide⟩, aTb_at 307 (by decide +kernel) (by decide +kernel)⟩
theorem fX9_180 : aFk RX9 180 7 6 := ⟨⟨by decide, by decide⟩, aTb_at 315 (by decide +kernel) (by decide +kernel)⟩
theorem fX9_183 : aFk RX9 183 7 1 := ⟨⟨by decide, by decide⟩, aTb_at 305 (by decide +kernel) (by decide +kernel)⟩
theorem fX9_192 : aFk RX9 192 4 4 := ⟨⟨by decide, by decide⟩, aTb_at 216 (by decide +kernel) (by decide +kernel)⟩
theorem fX0_12 : aFk RX0 12 0 1 := ⟨⟨by decide, by decide⟩, aTb_at 179 (by decide +kernel) (by decide +kernel)⟩
theorem fX0_18 : aFk RX0 18 0 2 := ⟨⟨by decide, by decide⟩, aTb_at 180 (by decide +kernel) (by decide +kernel)⟩
theorem fX0_22 : aFk RX0 22 0 3 := ⟨⟨by decide, by decide⟩, aTb_at 182 (by decide +kernel) (by decide +kernel)⟩
theorem fX0_25 : aFk RX0 25 0 4 := ⟨⟨by decide, by decide⟩, aTb_at 183 (by decide +kernel) (by decide +kernel)⟩
theorem fX0_31 : aFk RX0 31 0 5 := ⟨⟨by decide, by decide⟩, aTb_at 185 (by decide +kernel) (by decide +kernel)⟩
theorem fX0_34 : aFk RX0 34 0 0 := ⟨⟨by decide, by decide⟩, aTb_at 178 (by decide +kernel) (by decide +kernel)⟩
theorem fX0_50 : aFk RX0 50 1 4 := ⟨⟨by decide, by decide⟩, aTb_at 65 (by decide +kernel) (by decide +kernel)⟩
theorem fX0_65 : aFk RX0 65 1 5 := ⟨⟨by decide, by decide⟩, aTb_at 68 (by decide +kernel) (by decide +kernel)⟩
theorem fX0_68 : aFk RX0 68 1 6 := ⟨⟨by decide, by decide⟩, aTb_at 70 (by decide +kernel) (by decide +kernel)⟩
theorem fX0_71 : aFk RX0 71 5 0 := ⟨⟨by decide, by decide⟩, aTb_at 96 (by decide +kernel) (by decide +kernel)⟩
theorem fX1_9 : aFk RX1 9 1 0 := ⟨⟨by decide, by decide⟩, aTb_at 52 (by decide +kernel) (by decide +kernel)⟩
theorem fX1_15 : aFk RX1 15 1 5 := ⟨⟨by decide, by decide⟩, aTb_at 67 (by decide +kernel) (by decide +kernel)⟩
theorem fX1_18 : aFk RX1 18 3 2 := ⟨⟨by decide, by decide⟩, aTb_at 35 (by decide +kernel) (by decide +kernel)⟩
theorem fX1_24 : aFk RX1 24 1 1 := ⟨⟨by decide, by decide⟩, aTb_at 55 (by decide +kernel) (by decide +kernel)⟩
theorem fX1_25 : aFk RX1 25 3 0 := ⟨⟨by decide, by decide⟩, aTb_at 30 (by decide +kernel) (by decide +kernel)⟩
theorem fX1_29 : aFk RX1 29 1 2 := ⟨⟨by decide, by decide⟩, aTb_at 59 (by decide +kernel) (by decide +kernel)⟩
theorem fX1_33 : aFk RX1 33 1 3 := ⟨⟨by decide, by decide⟩, aTb_at 61 (by decide +kernel) (by decide +kernel)⟩
theorem fX1_36 : aFk RX1 36 1 4 := ⟨⟨by decide, by decide⟩, aTb_at 64 (by decide +kernel) (by decide +kernel)⟩
theorem fX1_39 : aFk RX1 39 1 6 := ⟨⟨by decide, by decide⟩, aTb_at 69 (by decide +kernel) (by decide +kernel)⟩
theorem fX2_12 : aFk RX2 12 2 0 := ⟨⟨by decide, by decide⟩, aTb_at 237 (by decide +kernel) (by decide +kernel)⟩
theorem fX2_18 : aFk RX2 18 2 1 := ⟨⟨by decide, by decide⟩, aTb_at 239 (by decide +kernel) (by decide +kernel)⟩
theorem fX2_22 : aFk RX2 22 2 2 := ⟨⟨by decide, by decide⟩, aTb_at 241 (by decide +kernel) (by decide +kernel)⟩
theorem fX2_29 : aFk RX2 29 2 3 := ⟨⟨by decide, by decide⟩, aTb_at 243 (by decide +kernel) (by decide +kernel)⟩
theorem fX2_32 : aFk RX2 32 2 4 := ⟨⟨by decide, by decide⟩, aTb_at 245 (by decide +kernel) (by decide +kernel)⟩
theorem fX2_35 : aFk RX2 35 2 5 := ⟨⟨by decide, by decide⟩, aTb_at 247 (by decide +kernel) (by decide +kernel)⟩
theorem fX2_38 : aFk RX2 38 2 6 := ⟨⟨by decide, by decide⟩, aTb_at 249 (by decide +kernel) (by decide +kernel)⟩
theorem fX2_41 : aFk RX2 41 2 7 := ⟨⟨by decide, by decide⟩, aTb_at 251 (by decide +kernel) (by decide +kernel)⟩
theorem fX2_44 : aFk RX2 44 2 8 := ⟨⟨by decide, by decide⟩, aTb_at 253 (by decide +kernel) (by decide +kernel)⟩
theorem fX2_47 : aFk RX2 47 2 9 := ⟨⟨by decide, by decide⟩, aTb_at 254 (by decide +kernel) (by decide +kernel)⟩
theorem fX2_50 : aFk RX2 50 2 10 := ⟨⟨by decide, by decide⟩, aTb_at 256 (by decide +kernel) (by decide +kernel)⟩
theorem fX2_53 : aFk RX2 53 2 11 := ⟨⟨by decide, by decide⟩, aTb_at 257 (by decide +kernel) (by decide +kernel)⟩
theorem fX2_56 : aFk RX2 56 2 12 := ⟨⟨by decide, by decide⟩, aTb_at 259 (by decide +kernel) (by decide +kernel)⟩
theorem fX2_60 : aFk RX2 60 2 13 := ⟨⟨by decide, by decide⟩, aTb_at 261 (by decide +kernel) (by decide +kernel)⟩
theorem fX2_63 : aFk RX2 63 2 14 := ⟨⟨by decide, by decide⟩, aTb_at 263 (by decide +kernel) (by decide +kernel)⟩
theorem fX2_66 : aFk RX2 66 2 15 := ⟨⟨by decide, by decide⟩, aTb_at 265 (by decide +kernel) (by decide +kernel)⟩
theorem fX2_69 : aFk RX2 69 2 16 := ⟨⟨by decide, by decide⟩, aTb_at 266 (by decide +kernel) (by decide +kernel)⟩
theorem fX2_72 : aFk RX2 72 1 1 := ⟨⟨by decide, by decide⟩, aTb_at 57 (by decide +kernel) (by decide +kernel)⟩
theorem fX2_77 : aFk RX2 77 1 0 := ⟨⟨by decide, by decide⟩, aTb_at 54 (by decide +kernel) (by decide +kernel)⟩
theorem fX2_93 : aFk RX2 93 5 0 := ⟨⟨by decide, by decide⟩, aTb_at 98 (by decide +kernel) (by decide +kernel)⟩
theorem fX2_98 : aFk RX2 98 1 4 := ⟨⟨by decide, by decide⟩, aTb_at 66 (by decide +kernel) (by decide +kernel)⟩
theorem fX2_101 : aFk RX2 101 6 2 := ⟨⟨by decide, by decide⟩, aTb_at 146 (by decide +kernel) (by decide +kernel)⟩
theorem fX2_131 : aFk RX2 131 1 2 := ⟨⟨by decide, by decide⟩, aTb_at 60 (by decide +kernel) (by decide +kernel)⟩
theorem fX2_142 : aFk RX2 142 6 1 := ⟨⟨by decide, by decide⟩, aTb_at 142 (by decide +kernel) (by decide +kernel)⟩
theorem fX3_9 : aFk RX3 9 3 0 := ⟨⟨by decide, by decide⟩, aTb_at 29 (by decide +kernel) (by decide +kernel)⟩
theorem fX3_15 : aFk RX3 15 3 1 := ⟨⟨by decide, by decide⟩, aTb_at 32 (by decide +kernel) (by decide +kernel)⟩
theorem fX3_19 : aFk RX3 19 3 2 := ⟨⟨by decide, by decide⟩, aTb_at 34 (by decide +kernel) (by decide +kernel)⟩
theorem fX4_9 : aFk RX4 9 4 0 := ⟨⟨by decide, by decide⟩, aTb_at 211 (by decide +kernel) (by decide +kernel)⟩
theorem fX4_15 : aFk RX4 15 4 1 := ⟨⟨by decide, by decide⟩, aTb_at 212 (by decide +kernel) (by decide +kernel)⟩
theorem fX4_18 : aFk RX4 18 4 2 := ⟨⟨by decide, by decide⟩, aTb_at 213 (by decide +kernel) (by decide +kernel)⟩
theorem fX4_21 : aFk RX4 21 4 3 := ⟨⟨by decide, by decide⟩, aTb_at 214 (by decide +kernel) (by decide +kernel)⟩
theorem fX4_24 : aFk RX4 24 4 4 := ⟨⟨by decide, by decide⟩, aTb_at 215 (by decide +kernel) (by decide +kernel)⟩
theorem fX5_9 : aFk RX5 9 5 0 := ⟨⟨by decide, by decide⟩, aTb_at 94 (by decide +kernel) (by decide +kernel)⟩
theorem fX5_15 : aFk RX5 15 5 1 := ⟨⟨by decide, by decide⟩, aTb_at 99 (by decide +kernel) (by decide +kernel)⟩
theorem fX5_18 : aFk RX5 18 5 2 := ⟨⟨by decide, by decide⟩, aTb_at 102 (by decide +kernel) (by decide +kernel)⟩
theorem fX5_21 : aFk RX5 21 5 3 := ⟨⟨by decide, by decide⟩, aTb_at 105 (by decide +kernel) (by decide +kernel)⟩
theorem fX5_24 : aFk RX5 24 5 4 := ⟨⟨by decide, by decide⟩, aTb_at 108 (by decide +kernel) (by decide +kernel)⟩
theorem fX6_11 : aFk RX6 11 6 0 := ⟨⟨by decide, by decide⟩, aTb_at 140 (by decide +kernel) (by decide +kernel)⟩
theorem fX6_15 : aFk RX6 15 6 1 := ⟨⟨by decide, by decide⟩, aTb_at 141 (by decide +kernel) (by decide +kernel)⟩
theorem fX6_19 : aFk RX6 19 6 2 := ⟨⟨by decide, by decide⟩, aTb_at 143 (by decide +kernel) (by decide +kernel)⟩
theorem fX7_12 : aFk RX7 12 7 1 := ⟨⟨by decide, by decide⟩, aTb_at 304 (by decide +kernel) (by decide +kernel)⟩
theorem fX7_20 : aFk RX7 20 7 2 := ⟨⟨by decide, by decide⟩, aTb_at 306 (by decide +kernel) (by decide +kernel)⟩
theorem fX7_24 : aFk RX7 24 7 3 := ⟨⟨by decide, by decide⟩, aTb_at 308 (by decide +kernel) (by decide +kernel)⟩
theorem fX7_28 : aFk RX7 28 7 4 := ⟨⟨by decide, by decide⟩, aTb_at 310 (by decide +kernel) (by decide +kernel)⟩
theorem fX7_32 : aFk RX7 32 7 5 := ⟨⟨by decide, by decide⟩, aTb_at 312 (by decide +kernel) (by decide +kernel)⟩
theorem fX7_35 : aFk RX7 35 7 6 := ⟨⟨by decide, by decide⟩, aTb_at 314 (by decide +kernel) (by decide +kernel)⟩
theorem fX7_38 : aFk RX7 38 7 0 := ⟨⟨by decide, by decide⟩, aTb_at 303 (by decide +kernel) (by decide +kernel)⟩
theorem fX7_48 : aFk RX7 48 5 1 := ⟨⟨by decide, by decide⟩, aTb_at 100 (by decide +kernel) (by decide +kernel)⟩
theorem fX7_53 : aFk RX7 53 5 0 := ⟨⟨by decide, by decide⟩, aTb_at 95 (by decide +kernel) (by decide +kernel)⟩
theorem fX7_71 : aFk RX7 71 2 3 := ⟨⟨by decide, by decide⟩, aTb_at 244 (by decide +kernel) (by decide +kernel)⟩
theorem fX7_80 : aFk RX7 80 5 3 := ⟨⟨by decide, by decide⟩, aTb_at 106 (by decide +kernel) (by decide +kernel)⟩
theorem fX7_86 : aFk RX7 86 2 11 := ⟨⟨by decide, by decide⟩, aTb_at 258 (by decide +kernel) (by decide +kernel)⟩
theorem fX7_103 : aFk RX7 103 2 0 := ⟨⟨by decide, by decide⟩, aTb_at 238 (by decide +kernel) (by decide +kernel)⟩
theorem fX7_116 : aFk RX7 116 2 5 := ⟨⟨by decide, by decide⟩, aTb_at 248 (by decide +kernel) (by decide +kernel)⟩
theorem fX7_119 : aFk RX7 119 6 2 := ⟨⟨by decide, by decide⟩, aTb_at 145 (by decide +kernel) (by decide +kernel)⟩
theorem fX7_137 : aFk RX7 137 2 13 := ⟨⟨by decide, by decide⟩, aTb_at 262 (by decide +kernel) (by decide +kernel)⟩
theorem fX7_140 : aFk RX7 140 2 14 := ⟨⟨by decide, by decide⟩, aTb_at 264 (by decide +kernel) (by decide +kernel)⟩
theorem fX7_143 : aFk RX7 143 2 4 := ⟨⟨by decide, by decide⟩, aTb_at 246 (by decide +kernel) (by decide +kernel)⟩
theorem fX7_155 : aFk RX7 155 2 1 := ⟨⟨by decide, by decide⟩, aTb_at 240 (by decide +kernel) (by decide +kernel)⟩
theorem fX7_162 : aFk RX7 162 2 7 := ⟨⟨by decide, by decide⟩, aTb_at 252 (by decide +kernel) (by decide +kernel)⟩
theorem fX7_165 : aFk RX7 165 2 2 := ⟨⟨by decide, by decide⟩, aTb_at 242 (by decide +kernel) (by decide +kernel)⟩
theorem fX7_169 : aFk RX7 169 1 1 := ⟨⟨by decide, by decide⟩, aTb_at 58 (by decide +kernel) (by decide +kernel)⟩
theorem fX7_177 : aFk RX7 177 2 12 := ⟨⟨by decide, by decide⟩, aTb_at 260 (by decide +kernel) (by decide +kernel)⟩
theorem fX7_180 : aFk RX7 180 2 16 := ⟨⟨by decide, by decide⟩, aTb_at 267 (by decide +kernel) (by decide +kernel)⟩
theorem fX7_183 : aFk RX7 183 2 6 := ⟨⟨by decide, by decide⟩, aTb_at 250 (by decide +kernel) (by decide +kernel)⟩
theorem fX7_186 : aFk RX7 186 1 3 := ⟨⟨by decide, by decide⟩, aTb_at 63 (by decide +kernel) (by decide +kernel)⟩
theorem fX7_224 : aFk RX7 224 5 4 := ⟨⟨by decide, by decide⟩, aTb_at 110 (by decide +kernel) (by decide +kernel)⟩
theorem fX7_230 : aFk RX7 230 2 9 := ⟨⟨by decide, by decide⟩, aTb_at 255 (by decide +kernel) (by decide +kernel)⟩
theorem fX7_236 : aFk RX7 236 5 2 := ⟨⟨by decide, by decide⟩, aTb_at 104 (by decide +kernel) (by decide +kernel)⟩
theorem fX8_12 : aFk RX8 12 8 0 := ⟨⟨by decide, by decide⟩, aTb_at 154 (by decide +kernel) (by decide +kernel)⟩
theorem fX8_18 : aFk RX8 18 8 1 := ⟨⟨by decide, by decide⟩, aTb_at 155 (by decide +kernel) (by decide +kernel)⟩
theorem fX8_22 : aFk RX8 22 8 2 := ⟨⟨by decide, by decide⟩, aTb_at 156 (by decide +kernel) (by decide +kernel)⟩
theorem fX8_25 : aFk RX8 25 8 3 := ⟨⟨by decide, by decide⟩, aTb_at 157 (by decide +kernel) (by decide +kernel)⟩
theorem fX8_34 : aFk RX8 34 8 4 := ⟨⟨by decide, by decide⟩, aTb_at 158 (by decide +kernel) (by decide +kernel)⟩
theorem fX8_38 : aFk RX8 38 8 5 := ⟨⟨by decide, by decide⟩, aTb_at 159 (by decide +kernel) (by decide +kernel)⟩
theorem fX8_41 : aFk RX8 41 8 6 := ⟨⟨by decide, by decide⟩, aTb_at 160 (by decide +kernel) (by decide +kernel)⟩
theorem fX8_52 : aFk RX8 52 1 3 := ⟨⟨by decide, by decide⟩, aTb_at 62 (by decide +kernel) (by decide +kernel)⟩
theorem fX8_59 : aFk RX8 59 1 1 := ⟨⟨by decide, by decide⟩, aTb_at 56 (by decide +kernel) (by decide +kernel)⟩
theorem fX8_62 : aFk RX8 62 1 0 := ⟨⟨by decide, by decide⟩, aTb_at 53 (by decide +kernel) (by decide +kernel)⟩
theorem fX8_77 : aFk RX8 77 6 2 := ⟨⟨by decide, by decide⟩, aTb_at 144 (by decide +kernel) (by decide +kernel)⟩
theorem fX10_9 : aFk RX10 9 10 1 := ⟨⟨by decide, by decide⟩, aTb_at 777 (by decide +kernel) (by decide +kernel)⟩
theorem fX10_13 : aFk RX10 13 10 2 := ⟨⟨by decide, by decide⟩, aTb_at 778 (by decide +kernel) (by decide +kernel)⟩
theorem fX10_16 : aFk RX10 16 10 3 := ⟨⟨by decide, by decide⟩, aTb_at 779 (by decide +kernel) (by decide +kernel)⟩
theorem fX10_20 : aFk RX10 20 10 4 := ⟨⟨by decide, by decide⟩, aTb_at 780 (by decide +kernel) (by decide +kernel)⟩
theorem fX10_23 : aFk RX10 23 10 5 := ⟨⟨by decide, by decide⟩, aTb_at 781 (by decide +kernel) (by decide +kernel)⟩
theorem fX10_27 : aFk RX10 27 10 6 := ⟨⟨by decide, by decide⟩, aTb_at 782 (by decide +kernel) (by decide +kernel)⟩
theorem fX10_30 : aFk RX10 30 10 8 := ⟨⟨by decide, by decide⟩, aTb_at 784 (by decide +kernel) (by decide +kernel)⟩
theorem fX10_33 : aFk RX10 33 10 9 := ⟨⟨by decide, by decide⟩, aTb_at 785 (by decide +kernel) (by decide +kernel)⟩
theorem fX10_36 : aFk RX10 36 10 11 := ⟨⟨by decide, by decide⟩, aTb_at 787 (by decide +kernel) (by decide +kernel)⟩
theorem fX10_39 : aFk RX10 39 10 12 := ⟨⟨by decide, by decide⟩, aTb_at 788 (by decide +kernel) (by decide +kernel)⟩
theorem fX10_42 : aFk RX10 42 10 13 := ⟨⟨by decide, by decide⟩, aTb_at 789 (by decide +kernel) (by decide +kernel)⟩
theorem fX10_45 : aFk RX10 45 10 14 := ⟨⟨by decide, by decide⟩, aTb_at 790 (by decide +kernel) (by decide +kernel)⟩
theorem fX10_48 : aFk RX10 48 10 15 := ⟨⟨by decide, by decide⟩, aTb_at 791 (by decide +kernel) (by decide +kernel)⟩
theorem fX10_51 : aFk RX10 51 10 16 := ⟨⟨by decide, by decide⟩, aTb_at 792 (by decide +kernel) (by decide +kernel)⟩
theorem fX10_54 : aFk RX10 54 10 18 := ⟨⟨by decide, by decide⟩, aTb_at 794 (by decide +kernel) (by decide +kernel)⟩
theorem fX10_57 : aFk RX10 57 10 19 := ⟨⟨by decide, by decide⟩, aTb_at 795 (by decide +kernel) (by decide +kernel)⟩
theorem fX10_60 : aFk RX10 60 10 20 := ⟨⟨by decide, by decide⟩, aTb_at 796 (by decide +kernel) (by decide +kernel)⟩
theorem fX10_63 : aFk RX10 63 10 21 := ⟨⟨by decide, by decide⟩, aTb_at 797 (by decide +kernel) (by decide +kernel)⟩
theorem fX10_66 : aFk RX10 66 10 28 := ⟨⟨by decide, by decide⟩, aTb_at 804 (by decide +kernel) (by decide +kernel)⟩
theorem fX10_69 : aFk RX10 69 10 29 := ⟨⟨by decide, by decide⟩, aTb_at 805 (by decide +kernel) (by decide +kernel)⟩
theorem fX10_72 : aFk RX10 72 10 30 := ⟨⟨by decide, by decide⟩, aTb_at 806 (by decide +kernel) (by decide +kernel)⟩
theorem fX10_75 : aFk RX10 75 10 31 := ⟨⟨by decide, by decide⟩, aTb_at 807 (by decide +kernel) (by decide +kernel)⟩
theorem fX10_78 : aFk RX10 78 10 32 := ⟨⟨by decide, by decide⟩, aTb_at 808 (by decide +kernel) (by decide +kernel)⟩
theorem fX10_81 : aFk RX10 81 10 33 := ⟨⟨by decide, by decide⟩, aTb_at 809 (by decide +kernel) (by decide +kernel)⟩
theorem fX10_84 : aFk RX10 84 10 34 := ⟨⟨by decide, by decide⟩, aTb_at 810 (by decide +kernel) (by decide +kernel)⟩
theorem fX10_87 : aFk RX10 87 10 35 := ⟨⟨by decide, by decide⟩, aTb_at 811 (by decide +kernel) (by decide +kernel)⟩
theorem fX10_90 : aFk RX10 90 10 36 := ⟨⟨by decide, by decide⟩, aTb_at 812 (by decide +kernel) (by decide +kernel)⟩
theorem fX10_93 : aFk RX10 93 10 37 := ⟨⟨by decide, by decide⟩, aTb_at 813 (by decide +kernel) (by decide +kernel)⟩
theorem fX10_96 : aFk RX10 96 10 38 := ⟨⟨by decide, by decide⟩, aTb_at 814 (by decide +kernel) (by decide +kernel)⟩
theorem fX10_99 : aFk RX10 99 10 39 := ⟨⟨by decide, by decide⟩, aTb_at 815 (by decide +kernel) (by decide +kernel)⟩
theorem fX10_102 : aFk RX10 102 10 40 := ⟨⟨by decide, by decide⟩, aTb_at 816 (by decide +kernel) (by decide +kernel)⟩
theorem fX10_105 : aFk RX10 105 10 41 := ⟨⟨by decide, by decide⟩, aTb_at 817 (by decide +kernel) (by decide +kernel)⟩
theorem fX10_108 : aFk RX10 108 10 42 := ⟨⟨by decide, by decide⟩, aTb_at 818 (by decide +kernel) (by decide +kernel)⟩
theorem fX10_112 : aFk RX10 112 10 43 := ⟨⟨by decide, by decide⟩, aTb_at 819 (by decide +kernel) (by decide +kernel)⟩
theorem fX10_115 : aFk RX10 115 10 44 := ⟨⟨by decide, by decide⟩, aTb_at 820 (by decide +kernel) (by decide +kernel)⟩
theorem fX10_118 : aFk RX10 118 10 45 := ⟨⟨by decide, by decide⟩, aTb_at 821 (by decide +kernel) (by decide +kernel)⟩
theorem fX10_121 : aFk RX10 121 10 0 := ⟨⟨by decide, by decide⟩, aTb_at 776 (by decide +kernel) (by decide +kernel)⟩
theorem fX10_136 : aFk RX10 136 10 22 := ⟨⟨by decide, by decide⟩, aTb_at 798 (by decide +kernel) (by decide +kernel)⟩
theorem fX10_140 : aFk RX10 140 10 7 := ⟨⟨by decide, by decide⟩, aTb_at 783 (by decide +kernel) (by decide +kernel)⟩
theorem fX10_143 : aFk RX10 143 10 17 := ⟨⟨by decide, by decide⟩, aTb_at 793 (by decide +kernel) (by decide +kernel)⟩
theorem fX10_146 : aFk RX10 146 10 10 := ⟨⟨by decide, by decide⟩, aTb_at 786 (by decide +kernel) (by decide +kernel)⟩
theorem fX10_157 : aFk RX10 157 10 23 := ⟨⟨by decide, by decide⟩, aTb_at 799 (by decide +kernel) (by decide +kernel)⟩
theorem fX10_203 : aFk RX10 203 10 24 := ⟨⟨by decide, by decide⟩, aTb_at 800 (by decide +kernel) (by decide +kernel)⟩
theorem fX10_206 : aFk RX10 206 10 25 := ⟨⟨by decide, by decide⟩, aTb_at 801 (by decide +kernel) (by decide +kernel)⟩
theorem fX10_209 : aFk RX10 209 10 26 := ⟨⟨by decide, by decide⟩, aTb_at 802 (by decide +kernel) (by decide +kernel)⟩
theorem fX10_212 : aFk RX10 212 10 27 := ⟨⟨by decide, by decide⟩, aTb_at 803 (by decide +kernel) (by decide +kernel)⟩
theorem kX9_9 : Cond.classLink RX9 9 "RoomDealer$Slot" ∈ aTb := aTb_at 22 (by decide +kernel) (by decide +kernel)
theorem kX9_16 : Cond.classLink RX9 16 "RoomDealer$Program" ∈ aTb := aTb_at 45 (by decide +kernel) (by decide +kernel)
theorem kX9_23 : Cond.classLink RX9 23 "RoomDealer$Terms" ∈ aTb := aTb_at 88 (by decide +kernel) (by decide +kernel)
theorem kX9_30 : Cond.classLink RX9 30 "RoomDealer$Dealer" ∈ aTb := aTb_at 122 (by decide +kernel) (by decide +kernel)
theorem kX9_39 : Cond.classLink RX9 39 "RoomDealer$Together" ∈ aTb := aTb_at 199 (by decide +kernel) (by decide +kernel)
theorem kX0_9 : Cond.classLink RX0 9 "RoomDealer$Trial" ∈ aTb := aTb_at 128 (by decide +kernel) (by decide +kernel)
theorem kX0_29 : Cond.classLink RX0 29 "[[I" ∈ aTb := aTb_at 176 (by decide +kernel) (by decide +kernel)
theorem kX2_9 : Cond.classLink RX2 9 "RoomDealer$Things" ∈ aTb := aTb_at 235 (by decide +kernel) (by decide +kernel)
theorem kX7_9 : Cond.classLink RX7 9 "RoomDealer$Story" ∈ aTb := aTb_at 205 (by decide +kernel) (by decide +kernel)
theorem kX7_18 : Cond.classLink RX7 18 "RoomDealer$Runner" ∈ aTb := aTb_at 228 (by decide +kernel) (by decide +kernel)
theorem kX8_9 : Cond.classLink RX8 9 "RoomDealer$Things" ∈ aTb := aTb_at 134 (by decide +kernel) (by decide +kernel)
theorem kL_7 : Cond.classLink RL 7 "RoomDealer" ∈ aTb := aTb_at 14 (by decide +kernel) (by decide +kernel)
theorem kL_10 : Cond.classLink RL 10 "RoomDealerModel" ∈ aTb := aTb_at 770 (by decide +kernel) (by decide +kernel)
theorem newX9 : Cond.instantiable RX9 6 ∈ aTb := aTb_at 15 (by decide +kernel) (by decide +kernel)
theorem newX3 : Cond.instantiable RX3 3 ∈ aTb := aTb_at 24 (by decide +kernel) (by decide +kernel)
theorem newX1 : Cond.instantiable RX1 7 ∈ aTb := aTb_at 47 (by decide +kernel) (by decide +kernel)
theorem newX5 : Cond.instantiable RX5 5 ∈ aTb := aTb_at 89 (by decide +kernel) (by decide +kernel)
theorem newX0 : Cond.instantiable RX0 6 ∈ aTb := aTb_at 123 (by decide +kernel) (by decide +kernel)
theorem newX8 : Cond.instantiable RX8 7 ∈ aTb := aTb_at 129 (by decide +kernel) (by decide +kernel)
theorem newX6 : Cond.instantiable RX6 3 ∈ aTb := aTb_at 135 (by decide +kernel) (by decide +kernel)
theorem newX7 : Cond.instantiable RX7 7 ∈ aTb := aTb_at 200 (by decide +kernel) (by decide +kernel)
theorem newX4 : Cond.instantiable RX4 5 ∈ aTb := aTb_at 206 (by decide +kernel) (by decide +kernel)
theorem newX2 : Cond.instantiable RX2 17 ∈ aTb := aTb_at 230 (by decide +kernel) (by decide +kernel)
theorem newX10 : Cond.instantiable RX10 46 ∈ aTb := aTb_at 771 (by decide +kernel) (by decide +kernel)
theorem qX1_44 : Cond.constant RX1 44 (Int32.ofInt (2147483647)) ∈ aTb := aTb_at 506 (by decide +kernel) (by decide +kernel)
theorem qX10_183 : Cond.constant RX10 183 (Int32.ofInt (2147483647)) ∈ aTb := aTb_at 991 (by decide +kernel) (by decide +kernel)
theorem qX2_140 : Cond.constantLong RX2 140 (Int64.ofInt (-1)) ∈ aTb := aTb_at 739 (by decide +kernel) (by decide +kernel)
theorem qX3_26 : Cond.constantLong RX3 26 (Int64.ofInt (-59)) ∈ aTb := aTb_at 411 (by decide +kernel) (by decide +kernel)
theorem qX3_28 : Cond.constantLong RX3 28 (Int64.ofInt (99)) ∈ aTb := aTb_at 412 (by decide +kernel) (by decide +kernel)
theorem qX3_30 : Cond.constantLong RX3 30 (Int64.ofInt (1000)) ∈ aTb := aTb_at 413 (by decide +kernel) (by decide +kernel)
theorem qX3_32 : Cond.constantLong RX3 32 (Int64.ofInt (1200)) ∈ aTb := aTb_at 414 (by decide +kernel) (by decide +kernel)
theorem qX7_249 : Cond.constantLong RX7 249 (Int64.ofInt (-1)) ∈ aTb := aTb_at 734 (by decide +kernel) (by decide +kernel)
theorem qL_23 : Cond.constantLong RL 23 (Int64.ofInt (4294967295)) ∈ aTb := aTb_at 1110 (by decide +kernel) (by decide +kernel)
theorem qX10_149 : Cond.constantLong RX10 149 (Int64.ofInt (-59)) ∈ aTb := aTb_at 949 (by decide +kernel) (by decide +kernel)
theorem qX10_151 : Cond.constantLong RX10 151 (Int64.ofInt (99)) ∈ aTb := aTb_at 950 (by decide +kernel) (by decide +kernel)
theorem qX10_153 : Cond.constantLong RX10 153 (Int64.ofInt (1001)) ∈ aTb := aTb_at 951 (by decide +kernel) (by decide +kernel)
theorem qX10_155 : Cond.constantLong RX10 155 (Int64.ofInt (1200)) ∈ aTb := aTb_at 952 (by decide +kernel) (by decide +kernel)
theorem qX10_195 : Cond.constantLong RX10 195 (Int64.ofInt (1099511627776)) ∈ aTb := aTb_at 1012 (by decide +kernel) (by decide +kernel)
theorem arr_long : Cond.arrayClass .long ∈ aTb := aTb_at 44 (by decide +kernel) (by decide +kernel)
theorem arr_int : Cond.arrayClass .int ∈ aTb := aTb_at 87 (by decide +kernel) (by decide +kernel)
theorem arr_boolean : Cond.arrayClass .boolean ∈ aTb := aTb_at 915 (by decide +kernel) (by decide +kernel)
theorem ovrX3 : Cond.arrayOver (.object RX3) ∈ lw_tbl := List.mem_append_right _ (List.mem_of_getElem? (i := 23) (by decide +kernel))
theorem ovrX1 : Cond.arrayOver (.object RX1) ∈ lw_tbl := List.mem_append_right _ (List.mem_of_getElem? (i := 46) (by decide +kernel))
theorem ovrX2 : Cond.arrayOver (.object RX2) ∈ lw_tbl := List.mem_append_right _ (List.mem_of_getElem? (i := 229) (by decide +kernel))
theorem natCopy : Cond.native arraycopyName ∈ aTb := aTb_at 392 (by decide +kernel) (by decide +kernel)
theorem staCopy : Cond.static arraycopyName ∈ aTb := aTb_at 391 (by decide +kernel) (by decide +kernel)
end
section
/-! Math.max, Math.min -/
theorem cod_max : Cond.code Lib.Math.max.name Lib.Math.max.code 2 (some .int) ∈ aTb := aTb_at 550 (by decide +kernel) (by decide +kernel)
theorem cod_min : Cond.code Lib.Math.min.name Lib.Math.min.code 2 (some .int) ∈ aTb := aTb_at 441 (by decide +kernel) (by decide +kernel)
theorem cod_minL : Cond.code Lib.MathLoose.min_long.x Lib.MathLoose.min_long.code 4 (some .long) ∈ aTb := aTb_at 1015 (by decide +kernel) (by decide +kernel)
section AMM
variable {w : aW} {M : aM} {pc pc' : Nat} {L : List (Option aV)} {st : List aV} {n0 n : Nat} {I : aIF} {R : aRF} {Q : aQ}
theorem aMax {x y : Int} {idx : Nat} (hd : decode M.2.1 pc = .ok (.invokestatic idx, 3)) (hf : aSk M.1.cls idx mJ9_max_7cf53) (hfr : Nat.ble 1 M.2.2.2.2.frames = true) (h8 : Nat.ble ((st.map aCat).sum + 13) M.2.2.2.2.locals = true) (hc : n ≤ n0 + M.2.2.2.2.cells) (hs : aSz n ≤ aSz n0 + M.2.2.2.2.slots) (hp : pc + 3 = pc') (kk : aRun w M pc' L (aI (max x y) :: st) n0 n I R Q) : aRun w M pc L (aI y :: aI x :: st) n0 n I R Q := by
  subst hp
  intro p e s m args below meth c9 H locs ls C hR hlo hls hoL hos hn hsz
  obtain ⟨hx, hb, hr, hml, hown, hts, hlk, hin, hK, -⟩ := id C
  have ox : i32 x := aOkS_hd (aOkS_tl hos)
  have oy : i32 y := aOkS_hd hos
  have h8 := Nat.le_of_ble_eq_true h8
  have k9 := kk p e s m args below meth c9 H locs ls C hR hlo hls hoL (aOkS_cons (show i32 (max x y) by rw [Int.max_def]; split <;> assumption) (aOkS_tl (aOkS_tl hos))) hn hsz
  refine va_mmax hx hb (hml.trans hls.1.symm) hown (hts _ hf.1.1) (hts _ hf.1.2.1) (hts _ iniJ9) (hts _ cod_max) (Nat.le_of_ble_eq_true hfr) ?_ (by omega) (by omega) hd ?_
  · rw [List.map_map, show ((fun v => Value.category v) ∘ aDen w) = aCat from funext (aDen_cat w)]
    exact h8
  · rw [show (if Int32.ofInt x < Int32.ofInt y then Int32.ofInt y else Int32.ofInt x) = Int32.ofInt (max x y) from by
      simp only [of32_lt ox oy]
      rw [Int.max_def]
      by_cases h : x < y
      · rw [if_pos h, if_pos (by omega)]
      · rw [if_neg h]
        by_cases h2 : x ≤ y
        · rw [if_pos h2, show x = y by omega]
        · rw [if_neg h2]]
    exact k9
theorem aMin {x y : Int} {idx : Nat} (hd : decode M.2.1 pc = .ok (.invokestatic idx, 3)) (hf : aSk M.1.cls idx mJ9_min_7cf53) (hfr : Nat.ble 1 M.2.2.2.2.frames = true) (h8 : Nat.ble ((st.map aCat).sum + 13) M.2.2.2.2.locals = true) (hc : n ≤ n0 + M.2.2.2.2.cells) (hs : aSz n ≤ aSz n0 + M.2.2.2.2.slots) (hp : pc + 3 = pc') (kk : aRun w M pc' L (aI (min x y) :: st) n0 n I R Q) : aRun w M pc L (aI y :: aI x :: st) n0 n I R Q := by
  subst hp
  intro p e s m args below meth c9 H locs ls C hR hlo hls hoL hos hn hsz
  obtain ⟨hx, hb, hr, hml, hown, hts, hlk, hin, hK, -⟩ := id C
  have ox : i32 x := aOkS_hd (aOkS_tl hos)
  have oy : i32 y := aOkS_hd hos
  have h8 := Nat.le_of_ble_eq_true h8
  have k9 := kk p e s m args below meth c9 H locs ls C hR hlo hls hoL (aOkS_cons (show i32 (min x y) by rw [Int.min_def]; split <;> assumption) (aOkS_tl (aOkS_tl hos))) hn hsz
  refine va_mmin hx hb (hml.trans hls.1.symm) hown (hts _ hf.1.1) (hts _ hf.1.2.1) (hts _ iniJ9) (hts _ cod_min) (Nat.le_of_ble_eq_true hfr) ?_ (by omega) (by omega) hd ?_
  · rw [List.map_map, show ((fun v => Value.category v) ∘ aDen w) = aCat from funext (aDen_cat w)]
    exact h8
  · rw [show (if Int32.ofInt y < Int32.ofInt x then Int32.ofInt y else Int32.ofInt x) = Int32.ofInt (min x y) from by
      simp only [of32_lt oy ox]
      rw [Int.min_def]
      by_cases h : y < x
      · rw [if_pos h, if_neg (by omega)]
      · rw [if_neg h, if_pos (by omega)]]
    exact k9
theorem aMinL {x y : Int} {idx : Nat} (hd : decode M.2.1 pc = .ok (.invokestatic idx, 3)) (hf : aSk M.1.cls idx mJ9_min_f86c9) (hfr : Nat.ble 1 M.2.2.2.2.frames = true) (h8 : Nat.ble ((st.map aCat).sum + 15) M.2.2.2.2.locals = true) (hc : n ≤ n0 + M.2.2.2.2.cells) (hs : aSz n ≤ aSz n0 + M.2.2.2.2.slots) (hp : pc + 3 = pc') (kk : aRun w M pc' L (aL (min x y) :: st) n0 n I R Q) : aRun w M pc L (aL y :: aL x :: st) n0 n I R Q := by
  subst hp
  intro p e s m args below meth c9 H locs ls C hR hlo hls hoL hos hn hsz
  obtain ⟨hx, hb, hr, hml, hown, hts, hlk, hin, hK, -⟩ := id C
  have ox : i64 x := aOkS_hd (aOkS_tl hos)
  have oy : i64 y := aOkS_hd hos
  have h8 := Nat.le_of_ble_eq_true h8
  have k9 := kk p e s m args below meth c9 H locs ls C hR hlo hls hoL (aOkS_cons (show i64 (min x y) by rw [Int.min_def]; split <;> assumption) (aOkS_tl (aOkS_tl hos))) hn hsz
  refine va_mmin_long hx hb (hml.trans hls.1.symm) hown (hts _ hf.1.1) (hts _ hf.1.2.1) (hts _ iniJ9) (hts _ cod_minL) (Nat.le_of_ble_eq_true hfr) ?_ (by omega) (by omega) hd ?_
  · rw [List.map_map, show ((fun v => Value.category v) ∘ aDen w) = aCat from funext (aDen_cat w)]
    exact h8
  · rw [show (if Int64.ofInt y < Int64.ofInt x then Int64.ofInt y else Int64.ofInt x) = Int64.ofInt (min x y) from by
      simp only [of64_lt oy ox]
      rw [Int.min_def]
      by_cases h : y < x
      · rw [if_pos h, if_neg (by omega)]
      · rw [if_neg h, if_pos (by omega)]]
    exact k9
end AMM
end
section
/-! the calls' phase: all cells are there -/
abbrev cQ : Type := Option aV → aIF → aRF → Prop
abbrev cRun (w : aW) (M : aM) (pc : Nat) (L : List (Option aV)) (st : List aV) (I : aIF) (R : aRF) (Q : cQ) : Prop := aRun w M pc L st 105 105 I R (fun r n I R => n = 105 ∧ Q r I R)
abbrev cMet (w : aW) (M : aM) (As : List aV) (I : aIF) (R : aRF) (Q : cQ) : Prop := aMet w M As 105 I R (fun r n I R => n = 105 ∧ Q r I R)
theorem lv {k i : Nat} (h : i < kCnt k) : aLv 105 k i := ⟨h, by
  have := (List.getElem?_eq_some_iff.mp (aPos_at h)).1
  exact this⟩
theorem aMet_mono {w : aW} {M : aM} {As : List aV} {n : Nat} {I : aIF} {R : aRF} {Q Q2 : aQ} (h : aMet w M As n I R Q) (hq : ∀ r n I R, Q r n I R → Q2 r n I R) : aMet w M As n I R Q2 := by
  intro p e ha hc hk s m args below hf hfit hP hK
  obtain ⟨k, o, h1, h2, h3, ⟨r, n', I', R', g1, g2, g3, g4, g5, g6⟩, h5⟩ := h p e ha hc hk s m args below hf hfit hP hK
  exact ⟨k, o, h1, h2, h3, ⟨r, n', I', R', g1, g2, g3, g4, g5, hq _ _ _ _ g6⟩, h5⟩
section CM
variable {w : aW} {M : aM} {pc pc' : Nat} {L : List (Option aV)} {st : List aV} {I : aIF} {R : aRF} {Q : cQ}
theorem cMet_of {As : List aV} (ho : mOk M) (hl : (aE0 As).length ≤ M.2.2.1) (h : aOkS As → cRun w M 0 (aEnt As M.2.2.1) [] I R Q) : cMet w M As I R Q := aMet_of ho.1 ho.2.1 hl h
theorem cIret {x : Int} (hd : decode M.2.1 pc = .ok (.ireturn, 1)) (ho : mOk M) (hr : M.2.2.2.1 = some .int) (hq : Q (some (aI x)) I R) : cRun w M pc L [aI x] I R Q := aIret hd ho.2.1 hr (by rw [ho.2.2.1]) (by rw [ho.2.2.2]; rfl) ⟨rfl, hq⟩
theorem cZret {x : Int} (hd : decode M.2.1 pc = .ok (.ireturn, 1)) (ho : mOk M) (hr : M.2.2.2.1 = some .boolean) (hx : x = 0 ∨ x = 1) (hq : Q (some (aI x)) I R) : cRun w M pc L [aI x] I R Q := aZret hd ho.2.1 hr hx (by rw [ho.2.2.1]) (by rw [ho.2.2.2]; rfl) ⟨rfl, hq⟩
theorem cLret {x : Int} (hd : decode M.2.1 pc = .ok (.lreturn, 1)) (ho : mOk M) (hr : M.2.2.2.1 = some .long) (hq : Q (some (aL x)) I R) : cRun w M pc L [aL x] I R Q := aLret hd ho.2.1 hr (by rw [ho.2.2.1]) (by rw [ho.2.2.2]; rfl) ⟨rfl, hq⟩
theorem cVret (hd : decode M.2.1 pc = .ok (.return_, 1)) (ho : mOk M) (hr : M.2.2.2.1 = none) (hq : Q none I R) : cRun w M pc L [] I R Q := aVret hd ho.2.1 hr (by rw [ho.2.2.1]) (by rw [ho.2.2.2]; rfl) ⟨rfl, hq⟩
theorem cCallV {M2 : aM} (As : List aV) {rest : List aV} {k i c idx : Nat} (hd : decode M.2.1 pc = .ok (.invokevirtual idx, 3)) (hf : aVk M.1.cls idx M2) (ho : mOk M2) (hrm : aRm M M2) (hnp : (parseMethodDescriptor M2.1.desc).map (fun d => d.parameters.length) = some As.length) (hk : kObj k c = true) (hc11 : Nat.ble c 10 = true) (hcn : aNm c = M2.1.cls) (h8 : Nat.ble (rest.map aCat).sum 8 = true) (hst : st = As.reverse ++ aO k i :: rest) (hl : i < kCnt k) (hp : pc + 3 = pc')
    (kk : cMet w M2 (aO k i :: As) I R (fun r I' R' => cRun w M pc' L (r.toList ++ rest) I' R' Q)) : cRun w M pc L st I R Q := by
  subst hst
  exact aCallV hd hf hrm hnp hk (by have := Nat.le_of_ble_eq_true hc11; omega) hcn (Nat.le_of_ble_eq_true h8) (lv hl) (by rw [ho.2.2.1]; omega) (by rw [ho.2.2.2]; omega) hp (aMet_mono kk (fun r n I R h => by obtain ⟨rfl, h⟩ := h; exact h))
theorem cCallS {M2 : aM} (As : List aV) {rest : List aV} {idx : Nat} (hd : decode M.2.1 pc = .ok (.invokestatic idx, 3)) (hf : aSk M.1.cls idx M2) (ho : mOk M2) (hrm : aRm M M2) (hnp : (parseMethodDescriptor M2.1.desc).map (fun d => d.parameters.length) = some As.length) (h8 : Nat.ble (rest.map aCat).sum 8 = true) (hst : st = As.reverse ++ rest) (hp : pc + 3 = pc')
    (kk : cMet w M2 As I R (fun r I' R' => cRun w M pc' L (r.toList ++ rest) I' R' Q)) : cRun w M pc L st I R Q := by
  subst hst
  exact aCallS hd hf hrm hnp (Nat.le_of_ble_eq_true h8) (by rw [ho.2.2.1]; omega) (by rw [ho.2.2.2]; omega) hp (aMet_mono kk (fun r n I R h => by obtain ⟨rfl, h⟩ := h; exact h))
end CM
/-! the references, once all is made; m runners have had a program -/
def rf (m : Nat) : aRF := fun k i j => match k with
  | 1 => (match j with
    | 0 => some (2, 0)
    | 1 => some (9, 0)
    | 2 => some (5, 0)
    | 3 => some (10, 0)
    | 4 => some (21, 0)
    | _ => none)
  | 2 => some (3, j)
  | 3 => (match j with
    | 0 => some (4, i)
    | _ => none)
  | 5 => some (6, j)
  | 6 => (match j with
    | 0 => some (7, i)
    | 5 => some (8, i)
    | _ => none)
  | 10 => (match j with
    | 0 => some (9, 0)
    | 1 => some (11, 0)
    | 2 => some (17, 0)
    | 3 => some (18, 0)
    | 5 => some (19, 0)
    | _ => none)
  | 11 => (match j with
    | 0 => some (12, 0)
    | 1 => some (14, 0)
    | 2 => some (15, 0)
    | 3 => some (16, 0)
    | _ => none)
  | 12 => (match j with
    | 0 => some (13, 0)
    | _ => none)
  | 19 => some (20, j)
  | 21 => (match j with
    | 0 => some (9, 0)
    | 1 => some (22, 0)
    | 2 => some (27, 0)
    | _ => none)
  | 22 => (match j with
    | 0 => some (23, 0)
    | 1 => some (24, 0)
    | 2 => some (25, 0)
    | 3 => some (26, 0)
    | _ => none)
  | 27 => some (28, j)
  | 28 => (match j with
    | 0 => some (29, i)
    | 2 => if i < m then some (6, i) else none
    | _ => none)
  | 29 => (match j with
    | 0 => some (30, i)
    | _ => none)
  | 40 => some (40 + j, 0)
  | _ => none
theorem rf_p {m i : Nat} (h : i < m) : rf m 28 i 2 = some (6, i) := if_pos h
/-! ends of calls -/
def cqI (R : aRF) (P : Int → aIF → Prop) : cQ := fun r I' R' => R' = R ∧ ∃ x, r = some (aI x) ∧ P x I'
def cqL (R : aRF) (P : Int → aIF → Prop) : cQ := fun r I' R' => R' = R ∧ ∃ x, r = some (aL x) ∧ P x I'
def cqV (R : aRF) (P : aIF → Prop) : cQ := fun r I' R' => R' = R ∧ r = none ∧ P I'
abbrev cMetI (w : aW) (M : aM) (As : List aV) (I : aIF) (R : aRF) (P : Int → aIF → Prop) : Prop := cMet w M As I R (cqI R P)
abbrev cMetL (w : aW) (M : aM) (As : List aV) (I : aIF) (R : aRF) (P : Int → aIF → Prop) : Prop := cMet w M As I R (cqL R P)
abbrev cMetV (w : aW) (M : aM) (As : List aV) (I : aIF) (R : aRF) (P : aIF → Prop) : Prop := cMet w M As I R (cqV R P)
theorem cMetI_mono {w : aW} {M : aM} {As : List aV} {I : aIF} {R : aRF} {P P2 : Int → aIF → Prop} (h : cMetI w M As I R P) (hq : ∀ x I', P x I' → P2 x I') : cMetI w M As I R P2 :=
  aMet_mono h (fun r n I R q => ⟨q.1, q.2.1, by obtain ⟨-, -, x, h1, h2⟩ := q; exact ⟨x, h1, hq _ _ h2⟩⟩)
theorem cMetL_mono {w : aW} {M : aM} {As : List aV} {I : aIF} {R : aRF} {P P2 : Int → aIF → Prop} (h : cMetL w M As I R P) (hq : ∀ x I', P x I' → P2 x I') : cMetL w M As I R P2 :=
  aMet_mono h (fun r n I R q => ⟨q.1, q.2.1, by obtain ⟨-, -, x, h1, h2⟩ := q; exact ⟨x, h1, hq _ _ h2⟩⟩)
theorem cMetV_mono {w : aW} {M : aM} {As : List aV} {I : aIF} {R : aRF} {P P2 : aIF → Prop} (h : cMetV w M As I R P) (hq : ∀ I', P I' → P2 I') : cMetV w M As I R P2 :=
  aMet_mono h (fun r n I R q => ⟨q.1, q.2.1, q.2.2.1, hq _ q.2.2.2⟩)
section CN
variable {w : aW} {M : aM} {pc pc' : Nat} {L : List (Option aV)} {st : List aV} {I : aIF} {R : aRF} {Q : cQ}
theorem cVI {M2 : aM} (As : List aV) {rest : List aV} {k i c idx : Nat} (hd : decode M.2.1 pc = .ok (.invokevirtual idx, 3)) (hf : aVk M.1.cls idx M2) (ho : mOk M2) (hrm : aRm M M2) (hnp : (parseMethodDescriptor M2.1.desc).map (fun d => d.parameters.length) = some As.length) (hk : kObj k c = true) (hc11 : Nat.ble c 10 = true) (hcn : aNm c = M2.1.cls) (h8 : Nat.ble (rest.map aCat).sum 8 = true) (hst : st = As.reverse ++ aO k i :: rest) (hl : i < kCnt k) (hp : pc + 3 = pc')
    (kk : cMetI w M2 (aO k i :: As) I R (fun x I' => cRun w M pc' L (aI x :: rest) I' R Q)) : cRun w M pc L st I R Q :=
  cCallV As hd hf ho hrm hnp hk hc11 hcn h8 hst hl hp (aMet_mono kk (fun r n I R q => ⟨q.1, by obtain ⟨-, rfl, x, rfl, h2⟩ := q; exact h2⟩))
theorem cVL {M2 : aM} (As : List aV) {rest : List aV} {k i c idx : Nat} (hd : decode M.2.1 pc = .ok (.invokevirtual idx, 3)) (hf : aVk M.1.cls idx M2) (ho : mOk M2) (hrm : aRm M M2) (hnp : (parseMethodDescriptor M2.1.desc).map (fun d => d.parameters.length) = some As.length) (hk : kObj k c = true) (hc11 : Nat.ble c 10 = true) (hcn : aNm c = M2.1.cls) (h8 : Nat.ble (rest.map aCat).sum 8 = true) (hst : st = As.reverse ++ aO k i :: rest) (hl : i < kCnt k) (hp : pc + 3 = pc')
    (kk : cMetL w M2 (aO k i :: As) I R (fun x I' => cRun w M pc' L (aL x :: rest) I' R Q)) : cRun w M pc L st I R Q :=
  cCallV As hd hf ho hrm hnp hk hc11 hcn h8 hst hl hp (aMet_mono kk (fun r n I R q => ⟨q.1, by obtain ⟨-, rfl, x, rfl, h2⟩ := q; exact h2⟩))
theorem cVV {M2 : aM} (As : List aV) {rest : List aV} {k i c idx : Nat} (hd : decode M.2.1 pc = .ok (.invokevirtual idx, 3)) (hf : aVk M.1.cls idx M2) (ho : mOk M2) (hrm : aRm M M2) (hnp : (parseMethodDescriptor M2.1.desc).map (fun d => d.parameters.length) = some As.length) (hk : kObj k c = true) (hc11 : Nat.ble c 10 = true) (hcn : aNm c = M2.1.cls) (h8 : Nat.ble (rest.map aCat).sum 8 = true) (hst : st = As.reverse ++ aO k i :: rest) (hl : i < kCnt k) (hp : pc + 3 = pc')
    (kk : cMetV w M2 (aO k i :: As) I R (fun I' => cRun w M pc' L rest I' R Q)) : cRun w M pc L st I R Q :=
  cCallV As hd hf ho hrm hnp hk hc11 hcn h8 hst hl hp (aMet_mono kk (fun r n I R q => ⟨q.1, by obtain ⟨-, rfl, rfl, h2⟩ := q; exact h2⟩))
theorem cSI {M2 : aM} (As : List aV) {rest : List aV} {idx : Nat} (hd : decode M.2.1 pc = .ok (.invokestatic idx, 3)) (hf : aSk M.1.cls idx M2) (ho : mOk M2) (hrm : aRm M M2) (hnp : (parseMethodDescriptor M2.1.desc).map (fun d => d.parameters.length) = some As.length) (h8 : Nat.ble (rest.map aCat).sum 8 = true) (hst : st = As.reverse ++ rest) (hp : pc + 3 = pc')
    (kk : cMetI w M2 As I R (fun x I' => cRun w M pc' L (aI x :: rest) I' R Q)) : cRun w M pc L st I R Q :=
  cCallS As hd hf ho hrm hnp h8 hst hp (aMet_mono kk (fun r n I R q => ⟨q.1, by obtain ⟨-, rfl, x, rfl, h2⟩ := q; exact h2⟩))
theorem cSL {M2 : aM} (As : List aV) {rest : List aV} {idx : Nat} (hd : decode M.2.1 pc = .ok (.invokestatic idx, 3)) (hf : aSk M.1.cls idx M2) (ho : mOk M2) (hrm : aRm M M2) (hnp : (parseMethodDescriptor M2.1.desc).map (fun d => d.parameters.length) = some As.length) (h8 : Nat.ble (rest.map aCat).sum 8 = true) (hst : st = As.reverse ++ rest) (hp : pc + 3 = pc')
    (kk : cMetL w M2 As I R (fun x I' => cRun w M pc' L (aL x :: rest) I' R Q)) : cRun w M pc L st I R Q :=
  cCallS As hd hf ho hrm hnp h8 hst hp (aMet_mono kk (fun r n I R q => ⟨q.1, by obtain ⟨-, rfl, x, rfl, h2⟩ := q; exact h2⟩))
/-! reads of what was written -/
theorem aTopEq {x y : Int} (h : x = y) (k : cRun w M pc L (aI y :: st) I R Q) : cRun w M pc L (aI x :: st) I R Q := h ▸ k
theorem aTopEqL {x y : Int} (h : x = y) (k : cRun w M pc L (aL y :: st) I R Q) : cRun w M pc L (aL x :: st) I R Q := h ▸ k
theorem uI_s {k i j : Nat} {v : Int} : uI I k i j v k i j = v := if_pos ⟨rfl, rfl, rfl⟩
theorem uI_k {k i j k2 i2 j2 : Nat} {v : Int} (h : Nat.beq k2 k = false) : uI I k i j v k2 i2 j2 = I k2 i2 j2 := if_neg (fun z => by have := z.1; subst this; rw [Nat.beq_refl] at h; cases h)
theorem uI_j {k i j k2 i2 j2 : Nat} {v : Int} (h : Nat.beq j2 j = false) : uI I k i j v k2 i2 j2 = I k2 i2 j2 := if_neg (fun z => by have := z.2.2; subst this; rw [Nat.beq_refl] at h; cases h)
theorem tnIx {x : Int} {N : Nat} (h : 0 ≤ x ∧ x < (N : Int)) : x = (x.toNat : Int) ∧ x.toNat < N := by omega
/-! compares of longs -/
theorem aLc_eq {x y off : Int} {tgt p1 : Nat} (h1 : decode M.2.1 pc = .ok (.lcmp, 1)) (hp1 : pc + 1 = p1) (hd : decode M.2.1 p1 = .ok (.ifCond .eq off, 3)) (ht : (p1 : Int) + off = (tgt : Int)) (hp : p1 + 3 = pc') (kt : x = y → cRun w M tgt L st I R Q) (kf : ¬ x = y → cRun w M pc' L st I R Q) : cRun w M pc L (aL y :: aL x :: st) I R Q :=
  aLcmp h1 hp1 (aIf_eq hd ht hp (fun h => kt (by split at h; omega; split at h; assumption; omega)) (fun h => kf (fun e => h (by rw [if_neg (by omega), if_pos e]))))
theorem aLc_ne {x y off : Int} {tgt p1 : Nat} (h1 : decode M.2.1 pc = .ok (.lcmp, 1)) (hp1 : pc + 1 = p1) (hd : decode M.2.1 p1 = .ok (.ifCond .ne off, 3)) (ht : (p1 : Int) + off = (tgt : Int)) (hp : p1 + 3 = pc') (kt : x ≠ y → cRun w M tgt L st I R Q) (kf : x = y → cRun w M pc' L st I R Q) : cRun w M pc L (aL y :: aL x :: st) I R Q :=
  aLcmp h1 hp1 (aIf_ne hd ht hp (fun h => kt (fun e => h (by rw [if_neg (by omega), if_pos e]))) (fun h => kf (by split at h; omega; split at h; assumption; omega)))
theorem aLc_lt {x y off : Int} {tgt p1 : Nat} (h1 : decode M.2.1 pc = .ok (.lcmp, 1)) (hp1 : pc + 1 = p1) (hd : decode M.2.1 p1 = .ok (.ifCond .lt off, 3)) (ht : (p1 : Int) + off = (tgt : Int)) (hp : p1 + 3 = pc') (kt : x < y → cRun w M tgt L st I R Q) (kf : ¬ x < y → cRun w M pc' L st I R Q) : cRun w M pc L (aL y :: aL x :: st) I R Q :=
  aLcmp h1 hp1 (aIf_lt hd ht hp (fun h => kt (by split at h; omega; split at h <;> omega)) (fun h => kf (by split at h; omega; split at h <;> omega)))
theorem aLc_ge {x y off : Int} {tgt p1 : Nat} (h1 : decode M.2.1 pc = .ok (.lcmp, 1)) (hp1 : pc + 1 = p1) (hd : decode M.2.1 p1 = .ok (.ifCond .ge off, 3)) (ht : (p1 : Int) + off = (tgt : Int)) (hp : p1 + 3 = pc') (kt : y ≤ x → cRun w M tgt L st I R Q) (kf : ¬ (y ≤ x) → cRun w M pc' L st I R Q) : cRun w M pc L (aL y :: aL x :: st) I R Q :=
  aLcmp h1 hp1 (aIf_ge hd ht hp (fun h => kt (by split at h; omega; split at h <;> omega)) (fun h => kf (by split at h; omega; split at h <;> omega)))
theorem aLc_gt {x y off : Int} {tgt p1 : Nat} (h1 : decode M.2.1 pc = .ok (.lcmp, 1)) (hp1 : pc + 1 = p1) (hd : decode M.2.1 p1 = .ok (.ifCond .gt off, 3)) (ht : (p1 : Int) + off = (tgt : Int)) (hp : p1 + 3 = pc') (kt : y < x → cRun w M tgt L st I R Q) (kf : ¬ (y < x) → cRun w M pc' L st I R Q) : cRun w M pc L (aL y :: aL x :: st) I R Q :=
  aLcmp h1 hp1 (aIf_gt hd ht hp (fun h => kt (by split at h; omega; split at h <;> omega)) (fun h => kf (by split at h; omega; split at h <;> omega)))
theorem aLc_le {x y off : Int} {tgt p1 : Nat} (h1 : decode M.2.1 pc = .ok (.lcmp, 1)) (hp1 : pc + 1 = p1) (hd : decode M.2.1 p1 = .ok (.ifCond .le off, 3)) (ht : (p1 : Int) + off = (tgt : Int)) (hp : p1 + 3 = pc') (kt : x ≤ y → cRun w M tgt L st I R Q) (kf : ¬ (x ≤ y) → cRun w M pc' L st I R Q) : cRun w M pc L (aL y :: aL x :: st) I R Q :=
  aLcmp h1 hp1 (aIf_le hd ht hp (fun h => kt (by split at h; omega; split at h <;> omega)) (fun h => kf (by split at h; omega; split at h <;> omega)))
end CN
end
