/-! the reference's constructor -/
def I_iX10_init_40_0 (I : aIF) : aIF := (uI (uI (uI (uI (uI (uI (uI (uI I 41 0 0 (-1)) 41 0 1 (-1)) 41 0 2 (-1)) 41 0 3 (-1)) 40 0 5 8) 40 0 6 256) 40 0 8 50) 40 0 9 2)
def R_iX10_init_40_0 (R : aRF) : aRF := (uR (uR (uR (uR (uR (uR (uR (uR (uR (uR (uR (uR (uR (uR (uR (uR (uR (uR (uR (uR (uR (uR (uR (uR (uR (uR (uR (uR (uR (uR (uR (uR R 40 0 1 (some (41, 0))) 40 0 2 (some (42, 0))) 40 0 3 (some (43, 0))) 40 0 4 (some (44, 0))) 40 0 11 (some (51, 0))) 40 0 12 (some (52, 0))) 40 0 13 (some (53, 0))) 40 0 14 (some (54, 0))) 40 0 15 (some (55, 0))) 40 0 16 (some (56, 0))) 40 0 18 (some (58, 0))) 40 0 19 (some (59, 0))) 40 0 20 (some (60, 0))) 40 0 21 (some (61, 0))) 40 0 28 (some (68, 0))) 40 0 29 (some (69, 0))) 40 0 30 (some (70, 0))) 40 0 31 (some (71, 0))) 40 0 32 (some (72, 0))) 40 0 33 (some (73, 0))) 40 0 34 (some (74, 0))) 40 0 35 (some (75, 0))) 40 0 36 (some (76, 0))) 40 0 37 (some (77, 0))) 40 0 38 (some (78, 0))) 40 0 39 (some (79, 0))) 40 0 40 (some (80, 0))) 40 0 41 (some (81, 0))) 40 0 42 (some (82, 0))) 40 0 43 (some (83, 0))) 40 0 44 (some (84, 0))) 40 0 45 (some (85, 0)))
set_option maxRecDepth 100000 in
set_option maxHeartbeats 4000000 in
theorem iX10_init_40_0 {w : aW} {I : aIF} {R : aRF} {Q : aQ} (hF : aFr 73 I R) (hq : aFr 105 (I_iX10_init_40_0 I) (R_iX10_init_40_0 R) → Q none 105 (I_iX10_init_40_0 I) (R_iX10_init_40_0 R)) : aMet w mX10_init [aO 40 0] 73 I R Q := by
  refine aMet_of nlX10_init.1 nlX10_init.2 (by decide) (fun hos => ?_)
  show aRun w mX10_init 0 [some (aO 40 0)] [] 73 73 I R Q
  refine aAload_n (pc' := 1) dX10_init_0 rfl rfl ?_
  refine aObjInit (pc' := 4) dX10_init_1 loX10_1 insObj codObj (by decide) (by decide) rfl ?_
  refine aAload_n (pc' := 5) dX10_init_4 rfl rfl ?_
  refine aIconst (pc' := 6) ⟨by decide, by decide⟩ dX10_init_5 rfl ?_
  refine aNewa (pc' := 8) (k := 41) (i := 0) (t := 0) dX10_init_6 (Or.inl ⟨rfl, rfl⟩) arr_int rfl (by decide) (by decide) (by decide) (fun j => (hF 41 0 j (fun h => absurd h.2 (by decide))).1) (by decide) (by decide +kernel) (by decide +kernel) (by decide) rfl ?_
  have hF := aFr_mono hF
  refine aDup (pc' := 9) rfl dX10_init_8 rfl ?_
  refine aIconst (pc' := 10) ⟨by decide, by decide⟩ dX10_init_9 rfl ?_
  refine aIconst (pc' := 11) ⟨by decide, by decide⟩ dX10_init_10 rfl ?_
  refine aIast (pc' := 12) (k := 41) (i := 0) (j := 0) dX10_init_11 rfl ⟨by decide, by decide⟩ rfl (by decide) rfl ?_
  have hF := aFr_uI (j := 0) (v := (-1)) hF (k := 41) (i := 0) ⟨by decide, by decide⟩
  refine aDup (pc' := 13) rfl dX10_init_12 rfl ?_
  refine aIconst (pc' := 14) ⟨by decide, by decide⟩ dX10_init_13 rfl ?_
  refine aIconst (pc' := 15) ⟨by decide, by decide⟩ dX10_init_14 rfl ?_
  refine aIast (pc' := 16) (k := 41) (i := 0) (j := 1) dX10_init_15 rfl ⟨by decide, by decide⟩ rfl (by decide) rfl ?_
  have hF := aFr_uI (j := 1) (v := (-1)) hF (k := 41) (i := 0) ⟨by decide, by decide⟩
  refine aDup (pc' := 17) rfl dX10_init_16 rfl ?_
  refine aIconst (pc' := 18) ⟨by decide, by decide⟩ dX10_init_17 rfl ?_
  refine aIconst (pc' := 19) ⟨by decide, by decide⟩ dX10_init_18 rfl ?_
  refine aIast (pc' := 20) (k := 41) (i := 0) (j := 2) dX10_init_19 rfl ⟨by decide, by decide⟩ rfl (by decide) rfl ?_
  have hF := aFr_uI (j := 2) (v := (-1)) hF (k := 41) (i := 0) ⟨by decide, by decide⟩
  refine aDup (pc' := 21) rfl dX10_init_20 rfl ?_
  refine aIconst (pc' := 22) ⟨by decide, by decide⟩ dX10_init_21 rfl ?_
  refine aIconst (pc' := 23) ⟨by decide, by decide⟩ dX10_init_22 rfl ?_
  refine aIast (pc' := 24) (k := 41) (i := 0) (j := 3) dX10_init_23 rfl ⟨by decide, by decide⟩ rfl (by decide) rfl ?_
  have hF := aFr_uI (j := 3) (v := (-1)) hF (k := 41) (i := 0) ⟨by decide, by decide⟩
  refine aPutR (pc' := 27) (k := 40) (i := 0) (q := (41, 0)) dX10_init_24 fX10_9 rfl ⟨by decide, by decide, by decide, by decide, by decide, by decide, by decide, by decide⟩ rfl (Or.inr ⟨rfl, rfl⟩) ⟨by decide, by decide⟩ rfl ?_
  have hF := aFr_uR (j := 1) (v := some (41, 0)) hF (k := 40) (i := 0) ⟨by decide, by decide⟩
  refine aAload_n (pc' := 28) dX10_init_27 rfl rfl ?_
  refine aIconst (pc' := 29) ⟨by decide, by decide⟩ dX10_init_28 rfl ?_
  refine aNewa (pc' := 31) (k := 42) (i := 0) (t := 0) dX10_init_29 (Or.inl ⟨rfl, rfl⟩) arr_int rfl (by decide) (by decide) (by decide) (fun j => (hF 42 0 j (fun h => absurd h.2 (by decide))).1) (by decide) (by decide +kernel) (by decide +kernel) (by decide) rfl ?_
  have hF := aFr_mono hF
  refine aPutR (pc' := 34) (k := 40) (i := 0) (q := (42, 0)) dX10_init_31 fX10_13 rfl ⟨by decide, by decide, by decide, by decide, by decide, by decide, by decide, by decide⟩ rfl (Or.inr ⟨rfl, rfl⟩) ⟨by decide, by decide⟩ rfl ?_
  have hF := aFr_uR (j := 2) (v := some (42, 0)) hF (k := 40) (i := 0) ⟨by decide, by decide⟩
  refine aAload_n (pc' := 35) dX10_init_34 rfl rfl ?_
  refine aSipush (pc' := 38) ⟨by decide, by decide⟩ dX10_init_35 rfl ?_
  refine aNewa (pc' := 40) (k := 43) (i := 0) (t := 1) dX10_init_38 (Or.inr (Or.inl ⟨rfl, rfl⟩)) arr_long rfl (by decide) (by decide) (by decide) (fun j => (hF 43 0 j (fun h => absurd h.2 (by decide))).1) (by decide) (by decide +kernel) (by decide +kernel) (by decide) rfl ?_
  have hF := aFr_mono hF
  refine aPutR (pc' := 43) (k := 40) (i := 0) (q := (43, 0)) dX10_init_40 fX10_16 rfl ⟨by decide, by decide, by decide, by decide, by decide, by decide, by decide, by decide⟩ rfl (Or.inr ⟨rfl, rfl⟩) ⟨by decide, by decide⟩ rfl ?_
  have hF := aFr_uR (j := 3) (v := some (43, 0)) hF (k := 40) (i := 0) ⟨by decide, by decide⟩
  refine aAload_n (pc' := 44) dX10_init_43 rfl rfl ?_
  refine aBipush (pc' := 46) ⟨by decide, by decide⟩ dX10_init_44 rfl ?_
  refine aNewa (pc' := 48) (k := 44) (i := 0) (t := 1) dX10_init_46 (Or.inr (Or.inl ⟨rfl, rfl⟩)) arr_long rfl (by decide) (by decide) (by decide) (fun j => (hF 44 0 j (fun h => absurd h.2 (by decide))).1) (by decide) (by decide +kernel) (by decide +kernel) (by decide) rfl ?_
  have hF := aFr_mono hF
  refine aPutR (pc' := 51) (k := 40) (i := 0) (q := (44, 0)) dX10_init_48 fX10_20 rfl ⟨by decide, by decide, by decide, by decide, by decide, by decide, by decide, by decide⟩ rfl (Or.inr ⟨rfl, rfl⟩) ⟨by decide, by decide⟩ rfl ?_
  have hF := aFr_uR (j := 4) (v := some (44, 0)) hF (k := 40) (i := 0) ⟨by decide, by decide⟩
  refine aAload_n (pc' := 52) dX10_init_51 rfl rfl ?_
  refine aBipush (pc' := 54) ⟨by decide, by decide⟩ dX10_init_52 rfl ?_
  refine aPutI (pc' := 57) (k := 40) (i := 0) dX10_init_54 fX10_23 rfl rfl (Or.inl rfl) ⟨by decide, by decide⟩ rfl ?_
  have hF := aFr_uI (j := 5) (v := 8) hF (k := 40) (i := 0) ⟨by decide, by decide⟩
  refine aAload_n (pc' := 58) dX10_init_57 rfl rfl ?_
  refine aSipush (pc' := 61) ⟨by decide, by decide⟩ dX10_init_58 rfl ?_
  refine aPutI (pc' := 64) (k := 40) (i := 0) dX10_init_61 fX10_27 rfl rfl (Or.inl rfl) ⟨by decide, by decide⟩ rfl ?_
  have hF := aFr_uI (j := 6) (v := 256) hF (k := 40) (i := 0) ⟨by decide, by decide⟩
  refine aAload_n (pc' := 65) dX10_init_64 rfl rfl ?_
  refine aBipush (pc' := 67) ⟨by decide, by decide⟩ dX10_init_65 rfl ?_
  refine aPutI (pc' := 70) (k := 40) (i := 0) dX10_init_67 fX10_30 rfl rfl (Or.inl rfl) ⟨by decide, by decide⟩ rfl ?_
  have hF := aFr_uI (j := 8) (v := 50) hF (k := 40) (i := 0) ⟨by decide, by decide⟩
  refine aAload_n (pc' := 71) dX10_init_70 rfl rfl ?_
  refine aIconst (pc' := 72) ⟨by decide, by decide⟩ dX10_init_71 rfl ?_
  refine aPutI (pc' := 75) (k := 40) (i := 0) dX10_init_72 fX10_33 rfl rfl (Or.inl rfl) ⟨by decide, by decide⟩ rfl ?_
  have hF := aFr_uI (j := 9) (v := 2) hF (k := 40) (i := 0) ⟨by decide, by decide⟩
  refine aAload_n (pc' := 76) dX10_init_75 rfl rfl ?_
  refine aBipush (pc' := 78) ⟨by decide, by decide⟩ dX10_init_76 rfl ?_
  refine aNewa (pc' := 80) (k := 51) (i := 0) (t := 0) dX10_init_78 (Or.inl ⟨rfl, rfl⟩) arr_int rfl (by decide) (by decide) (by decide) (fun j => (hF 51 0 j (fun h => absurd h.2 (by decide))).1) (by decide) (by decide +kernel) (by decide +kernel) (by decide) rfl ?_
  have hF := aFr_mono hF
  refine aPutR (pc' := 83) (k := 40) (i := 0) (q := (51, 0)) dX10_init_80 fX10_36 rfl ⟨by decide, by decide, by decide, by decide, by decide, by decide, by decide, by decide⟩ rfl (Or.inr ⟨rfl, rfl⟩) ⟨by decide, by decide⟩ rfl ?_
  have hF := aFr_uR (j := 11) (v := some (51, 0)) hF (k := 40) (i := 0) ⟨by decide, by decide⟩
  refine aAload_n (pc' := 84) dX10_init_83 rfl rfl ?_
  refine aSipush (pc' := 87) ⟨by decide, by decide⟩ dX10_init_84 rfl ?_
  refine aNewa (pc' := 89) (k := 52) (i := 0) (t := 0) dX10_init_87 (Or.inl ⟨rfl, rfl⟩) arr_int rfl (by decide) (by decide) (by decide) (fun j => (hF 52 0 j (fun h => absurd h.2 (by decide))).1) (by decide) (by decide +kernel) (by decide +kernel) (by decide) rfl ?_
  have hF := aFr_mono hF
  refine aPutR (pc' := 92) (k := 40) (i := 0) (q := (52, 0)) dX10_init_89 fX10_39 rfl ⟨by decide, by decide, by decide, by decide, by decide, by decide, by decide, by decide⟩ rfl (Or.inr ⟨rfl, rfl⟩) ⟨by decide, by decide⟩ rfl ?_
  have hF := aFr_uR (j := 12) (v := some (52, 0)) hF (k := 40) (i := 0) ⟨by decide, by decide⟩
  refine aAload_n (pc' := 93) dX10_init_92 rfl rfl ?_
  refine aBipush (pc' := 95) ⟨by decide, by decide⟩ dX10_init_93 rfl ?_
  refine aNewa (pc' := 97) (k := 53) (i := 0) (t := 0) dX10_init_95 (Or.inl ⟨rfl, rfl⟩) arr_int rfl (by decide) (by decide) (by decide) (fun j => (hF 53 0 j (fun h => absurd h.2 (by decide))).1) (by decide) (by decide +kernel) (by decide +kernel) (by decide) rfl ?_
  have hF := aFr_mono hF
  refine aPutR (pc' := 100) (k := 40) (i := 0) (q := (53, 0)) dX10_init_97 fX10_42 rfl ⟨by decide, by decide, by decide, by decide, by decide, by decide, by decide, by decide⟩ rfl (Or.inr ⟨rfl, rfl⟩) ⟨by decide, by decide⟩ rfl ?_
  have hF := aFr_uR (j := 13) (v := some (53, 0)) hF (k := 40) (i := 0) ⟨by decide, by decide⟩
  refine aAload_n (pc' := 101) dX10_init_100 rfl rfl ?_
  refine aBipush (pc' := 103) ⟨by decide, by decide⟩ dX10_init_101 rfl ?_
  refine aNewa (pc' := 105) (k := 54) (i := 0) (t := 0) dX10_init_103 (Or.inl ⟨rfl, rfl⟩) arr_int rfl (by decide) (by decide) (by decide) (fun j => (hF 54 0 j (fun h => absurd h.2 (by decide))).1) (by decide) (by decide +kernel) (by decide +kernel) (by decide) rfl ?_
  have hF := aFr_mono hF
  refine aPutR (pc' := 108) (k := 40) (i := 0) (q := (54, 0)) dX10_init_105 fX10_45 rfl ⟨by decide, by decide, by decide, by decide, by decide, by decide, by decide, by decide⟩ rfl (Or.inr ⟨rfl, rfl⟩) ⟨by decide, by decide⟩ rfl ?_
  have hF := aFr_uR (j := 14) (v := some (54, 0)) hF (k := 40) (i := 0) ⟨by decide, by decide⟩
  refine aAload_n (pc' := 109) dX10_init_108 rfl rfl ?_
  refine aBipush (pc' := 111) ⟨by decide, by decide⟩ dX10_init_109 rfl ?_
  refine aNewa (pc' := 113) (k := 55) (i := 0) (t := 0) dX10_init_111 (Or.inl ⟨rfl, rfl⟩) arr_int rfl (by decide) (by decide) (by decide) (fun j => (hF 55 0 j (fun h => absurd h.2 (by decide))).1) (by decide) (by decide +kernel) (by decide +kernel) (by decide) rfl ?_
  have hF := aFr_mono hF
  refine aPutR (pc' := 116) (k := 40) (i := 0) (q := (55, 0)) dX10_init_113 fX10_48 rfl ⟨by decide, by decide, by decide, by decide, by decide, by decide, by decide, by decide⟩ rfl (Or.inr ⟨rfl, rfl⟩) ⟨by decide, by decide⟩ rfl ?_
  have hF := aFr_uR (j := 15) (v := some (55, 0)) hF (k := 40) (i := 0) ⟨by decide, by decide⟩
  refine aAload_n (pc' := 117) dX10_init_116 rfl rfl ?_
  refine aSipush (pc' := 120) ⟨by decide, by decide⟩ dX10_init_117 rfl ?_
  refine aNewa (pc' := 122) (k := 56) (i := 0) (t := 0) dX10_init_120 (Or.inl ⟨rfl, rfl⟩) arr_int rfl (by decide) (by decide) (by decide) (fun j => (hF 56 0 j (fun h => absurd h.2 (by decide))).1) (by decide) (by decide +kernel) (by decide +kernel) (by decide) rfl ?_
  have hF := aFr_mono hF
  refine aPutR (pc' := 125) (k := 40) (i := 0) (q := (56, 0)) dX10_init_122 fX10_51 rfl ⟨by decide, by decide, by decide, by decide, by decide, by decide, by decide, by decide⟩ rfl (Or.inr ⟨rfl, rfl⟩) ⟨by decide, by decide⟩ rfl ?_
  have hF := aFr_uR (j := 16) (v := some (56, 0)) hF (k := 40) (i := 0) ⟨by decide, by decide⟩
  refine aAload_n (pc' := 126) dX10_init_125 rfl rfl ?_
  refine aBipush (pc' := 128) ⟨by decide, by decide⟩ dX10_init_126 rfl ?_
  refine aNewa (pc' := 130) (k := 58) (i := 0) (t := 0) dX10_init_128 (Or.inl ⟨rfl, rfl⟩) arr_int rfl (by decide) (by decide) (by decide) (fun j => (hF 58 0 j (fun h => absurd h.2 (by decide))).1) (by decide) (by decide +kernel) (by decide +kernel) (by decide) rfl ?_
  have hF := aFr_mono hF
  refine aPutR (pc' := 133) (k := 40) (i := 0) (q := (58, 0)) dX10_init_130 fX10_54 rfl ⟨by decide, by decide, by decide, by decide, by decide, by decide, by decide, by decide⟩ rfl (Or.inr ⟨rfl, rfl⟩) ⟨by decide, by decide⟩ rfl ?_
  have hF := aFr_uR (j := 18) (v := some (58, 0)) hF (k := 40) (i := 0) ⟨by decide, by decide⟩
  refine aAload_n (pc' := 134) dX10_init_133 rfl rfl ?_
  refine aBipush (pc' := 136) ⟨by decide, by decide⟩ dX10_init_134 rfl ?_
  refine aNewa (pc' := 138) (k := 59) (i := 0) (t := 0) dX10_init_136 (Or.inl ⟨rfl, rfl⟩) arr_int rfl (by decide) (by decide) (by decide) (fun j => (hF 59 0 j (fun h => absurd h.2 (by decide))).1) (by decide) (by decide +kernel) (by decide +kernel) (by decide) rfl ?_
  have hF := aFr_mono hF
  refine aPutR (pc' := 141) (k := 40) (i := 0) (q := (59, 0)) dX10_init_138 fX10_57 rfl ⟨by decide, by decide, by decide, by decide, by decide, by decide, by decide, by decide⟩ rfl (Or.inr ⟨rfl, rfl⟩) ⟨by decide, by decide⟩ rfl ?_
  have hF := aFr_uR (j := 19) (v := some (59, 0)) hF (k := 40) (i := 0) ⟨by decide, by decide⟩
  refine aAload_n (pc' := 142) dX10_init_141 rfl rfl ?_
  refine aSipush (pc' := 145) ⟨by decide, by decide⟩ dX10_init_142 rfl ?_
  refine aNewa (pc' := 147) (k := 60) (i := 0) (t := 0) dX10_init_145 (Or.inl ⟨rfl, rfl⟩) arr_int rfl (by decide) (by decide) (by decide) (fun j => (hF 60 0 j (fun h => absurd h.2 (by decide))).1) (by decide) (by decide +kernel) (by decide +kernel) (by decide) rfl ?_
  have hF := aFr_mono hF
  refine aPutR (pc' := 150) (k := 40) (i := 0) (q := (60, 0)) dX10_init_147 fX10_60 rfl ⟨by decide, by decide, by decide, by decide, by decide, by decide, by decide, by decide⟩ rfl (Or.inr ⟨rfl, rfl⟩) ⟨by decide, by decide⟩ rfl ?_
  have hF := aFr_uR (j := 20) (v := some (60, 0)) hF (k := 40) (i := 0) ⟨by decide, by decide⟩
  refine aAload_n (pc' := 151) dX10_init_150 rfl rfl ?_
  refine aSipush (pc' := 154) ⟨by decide, by decide⟩ dX10_init_151 rfl ?_
  refine aNewa (pc' := 156) (k := 61) (i := 0) (t := 1) dX10_init_154 (Or.inr (Or.inl ⟨rfl, rfl⟩)) arr_long rfl (by decide) (by decide) (by decide) (fun j => (hF 61 0 j (fun h => absurd h.2 (by decide))).1) (by decide) (by decide +kernel) (by decide +kernel) (by decide) rfl ?_
  have hF := aFr_mono hF
  refine aPutR (pc' := 159) (k := 40) (i := 0) (q := (61, 0)) dX10_init_156 fX10_63 rfl ⟨by decide, by decide, by decide, by decide, by decide, by decide, by decide, by decide⟩ rfl (Or.inr ⟨rfl, rfl⟩) ⟨by decide, by decide⟩ rfl ?_
  have hF := aFr_uR (j := 21) (v := some (61, 0)) hF (k := 40) (i := 0) ⟨by decide, by decide⟩
  refine aAload_n (pc' := 160) dX10_init_159 rfl rfl ?_
  refine aBipush (pc' := 162) ⟨by decide, by decide⟩ dX10_init_160 rfl ?_
  refine aNewa (pc' := 164) (k := 68) (i := 0) (t := 0) dX10_init_162 (Or.inl ⟨rfl, rfl⟩) arr_int rfl (by decide) (by decide) (by decide) (fun j => (hF 68 0 j (fun h => absurd h.2 (by decide))).1) (by decide) (by decide +kernel) (by decide +kernel) (by decide) rfl ?_
  have hF := aFr_mono hF
  refine aPutR (pc' := 167) (k := 40) (i := 0) (q := (68, 0)) dX10_init_164 fX10_66 rfl ⟨by decide, by decide, by decide, by decide, by decide, by decide, by decide, by decide⟩ rfl (Or.inr ⟨rfl, rfl⟩) ⟨by decide, by decide⟩ rfl ?_
  have hF := aFr_uR (j := 28) (v := some (68, 0)) hF (k := 40) (i := 0) ⟨by decide, by decide⟩
  refine aAload_n (pc' := 168) dX10_init_167 rfl rfl ?_
  refine aBipush (pc' := 170) ⟨by decide, by decide⟩ dX10_init_168 rfl ?_
  refine aNewa (pc' := 172) (k := 69) (i := 0) (t := 0) dX10_init_170 (Or.inl ⟨rfl, rfl⟩) arr_int rfl (by decide) (by decide) (by decide) (fun j => (hF 69 0 j (fun h => absurd h.2 (by decide))).1) (by decide) (by decide +kernel) (by decide +kernel) (by decide) rfl ?_
  have hF := aFr_mono hF
  refine aPutR (pc' := 175) (k := 40) (i := 0) (q := (69, 0)) dX10_init_172 fX10_69 rfl ⟨by decide, by decide, by decide, by decide, by decide, by decide, by decide, by decide⟩ rfl (Or.inr ⟨rfl, rfl⟩) ⟨by decide, by decide⟩ rfl ?_
  have hF := aFr_uR (j := 29) (v := some (69, 0)) hF (k := 40) (i := 0) ⟨by decide, by decide⟩
  refine aAload_n (pc' := 176) dX10_init_175 rfl rfl ?_
  refine aBipush (pc' := 178) ⟨by decide, by decide⟩ dX10_init_176 rfl ?_
  refine aNewa (pc' := 180) (k := 70) (i := 0) (t := 0) dX10_init_178 (Or.inl ⟨rfl, rfl⟩) arr_int rfl (by decide) (by decide) (by decide) (fun j => (hF 70 0 j (fun h => absurd h.2 (by decide))).1) (by decide) (by decide +kernel) (by decide +kernel) (by decide) rfl ?_
  have hF := aFr_mono hF
  refine aPutR (pc' := 183) (k := 40) (i := 0) (q := (70, 0)) dX10_init_180 fX10_72 rfl ⟨by decide, by decide, by decide, by decide, by decide, by decide, by decide, by decide⟩ rfl (Or.inr ⟨rfl, rfl⟩) ⟨by decide, by decide⟩ rfl ?_
  have hF := aFr_uR (j := 30) (v := some (70, 0)) hF (k := 40) (i := 0) ⟨by decide, by decide⟩
  refine aAload_n (pc' := 184) dX10_init_183 rfl rfl ?_
  refine aBipush (pc' := 186) ⟨by decide, by decide⟩ dX10_init_184 rfl ?_
  refine aNewa (pc' := 188) (k := 71) (i := 0) (t := 0) dX10_init_186 (Or.inl ⟨rfl, rfl⟩) arr_int rfl (by decide) (by decide) (by decide) (fun j => (hF 71 0 j (fun h => absurd h.2 (by decide))).1) (by decide) (by decide +kernel) (by decide +kernel) (by decide) rfl ?_
  have hF := aFr_mono hF
  refine aPutR (pc' := 191) (k := 40) (i := 0) (q := (71, 0)) dX10_init_188 fX10_75 rfl ⟨by decide, by decide, by decide, by decide, by decide, by decide, by decide, by decide⟩ rfl (Or.inr ⟨rfl, rfl⟩) ⟨by decide, by decide⟩ rfl ?_
  have hF := aFr_uR (j := 31) (v := some (71, 0)) hF (k := 40) (i := 0) ⟨by decide, by decide⟩
  refine aAload_n (pc' := 192) dX10_init_191 rfl rfl ?_
  refine aBipush (pc' := 194) ⟨by decide, by decide⟩ dX10_init_192 rfl ?_
  refine aNewa (pc' := 196) (k := 72) (i := 0) (t := 0) dX10_init_194 (Or.inl ⟨rfl, rfl⟩) arr_int rfl (by decide) (by decide) (by decide) (fun j => (hF 72 0 j (fun h => absurd h.2 (by decide))).1) (by decide) (by decide +kernel) (by decide +kernel) (by decide) rfl ?_
  have hF := aFr_mono hF
  refine aPutR (pc' := 199) (k := 40) (i := 0) (q := (72, 0)) dX10_init_196 fX10_78 rfl ⟨by decide, by decide, by decide, by decide, by decide, by decide, by decide, by decide⟩ rfl (Or.inr ⟨rfl, rfl⟩) ⟨by decide, by decide⟩ rfl ?_
  have hF := aFr_uR (j := 32) (v := some (72, 0)) hF (k := 40) (i := 0) ⟨by decide, by decide⟩
  refine aAload_n (pc' := 200) dX10_init_199 rfl rfl ?_
  refine aBipush (pc' := 202) ⟨by decide, by decide⟩ dX10_init_200 rfl ?_
  refine aNewa (pc' := 204) (k := 73) (i := 0) (t := 0) dX10_init_202 (Or.inl ⟨rfl, rfl⟩) arr_int rfl (by decide) (by decide) (by decide) (fun j => (hF 73 0 j (fun h => absurd h.2 (by decide))).1) (by decide) (by decide +kernel) (by decide +kernel) (by decide) rfl ?_
  have hF := aFr_mono hF
  refine aPutR (pc' := 207) (k := 40) (i := 0) (q := (73, 0)) dX10_init_204 fX10_81 rfl ⟨by decide, by decide, by decide, by decide, by decide, by decide, by decide, by decide⟩ rfl (Or.inr ⟨rfl, rfl⟩) ⟨by decide, by decide⟩ rfl ?_
  have hF := aFr_uR (j := 33) (v := some (73, 0)) hF (k := 40) (i := 0) ⟨by decide, by decide⟩
  refine aAload_n (pc' := 208) dX10_init_207 rfl rfl ?_
  refine aBipush (pc' := 210) ⟨by decide, by decide⟩ dX10_init_208 rfl ?_
  refine aNewa (pc' := 212) (k := 74) (i := 0) (t := 0) dX10_init_210 (Or.inl ⟨rfl, rfl⟩) arr_int rfl (by decide) (by decide) (by decide) (fun j => (hF 74 0 j (fun h => absurd h.2 (by decide))).1) (by decide) (by decide +kernel) (by decide +kernel) (by decide) rfl ?_
  have hF := aFr_mono hF
  refine aPutR (pc' := 215) (k := 40) (i := 0) (q := (74, 0)) dX10_init_212 fX10_84 rfl ⟨by decide, by decide, by decide, by decide, by decide, by decide, by decide, by decide⟩ rfl (Or.inr ⟨rfl, rfl⟩) ⟨by decide, by decide⟩ rfl ?_
  have hF := aFr_uR (j := 34) (v := some (74, 0)) hF (k := 40) (i := 0) ⟨by decide, by decide⟩
  refine aAload_n (pc' := 216) dX10_init_215 rfl rfl ?_
  refine aBipush (pc' := 218) ⟨by decide, by decide⟩ dX10_init_216 rfl ?_
  refine aNewa (pc' := 220) (k := 75) (i := 0) (t := 0) dX10_init_218 (Or.inl ⟨rfl, rfl⟩) arr_int rfl (by decide) (by decide) (by decide) (fun j => (hF 75 0 j (fun h => absurd h.2 (by decide))).1) (by decide) (by decide +kernel) (by decide +kernel) (by decide) rfl ?_
  have hF := aFr_mono hF
  refine aPutR (pc' := 223) (k := 40) (i := 0) (q := (75, 0)) dX10_init_220 fX10_87 rfl ⟨by decide, by decide, by decide, by decide, by decide, by decide, by decide, by decide⟩ rfl (Or.inr ⟨rfl, rfl⟩) ⟨by decide, by decide⟩ rfl ?_
  have hF := aFr_uR (j := 35) (v := some (75, 0)) hF (k := 40) (i := 0) ⟨by decide, by decide⟩
  refine aAload_n (pc' := 224) dX10_init_223 rfl rfl ?_
  refine aBipush (pc' := 226) ⟨by decide, by decide⟩ dX10_init_224 rfl ?_
  refine aNewa (pc' := 228) (k := 76) (i := 0) (t := 0) dX10_init_226 (Or.inl ⟨rfl, rfl⟩) arr_int rfl (by decide) (by decide) (by decide) (fun j => (hF 76 0 j (fun h => absurd h.2 (by decide))).1) (by decide) (by decide +kernel) (by decide +kernel) (by decide) rfl ?_
  have hF := aFr_mono hF
  refine aPutR (pc' := 231) (k := 40) (i := 0) (q := (76, 0)) dX10_init_228 fX10_90 rfl ⟨by decide, by decide, by decide, by decide, by decide, by decide, by decide, by decide⟩ rfl (Or.inr ⟨rfl, rfl⟩) ⟨by decide, by decide⟩ rfl ?_
  have hF := aFr_uR (j := 36) (v := some (76, 0)) hF (k := 40) (i := 0) ⟨by decide, by decide⟩
  refine aAload_n (pc' := 232) dX10_init_231 rfl rfl ?_
  refine aBipush (pc' := 234) ⟨by decide, by decide⟩ dX10_init_232 rfl ?_
  refine aNewa (pc' := 236) (k := 77) (i := 0) (t := 0) dX10_init_234 (Or.inl ⟨rfl, rfl⟩) arr_int rfl (by decide) (by decide) (by decide) (fun j => (hF 77 0 j (fun h => absurd h.2 (by decide))).1) (by decide) (by decide +kernel) (by decide +kernel) (by decide) rfl ?_
  have hF := aFr_mono hF
  refine aPutR (pc' := 239) (k := 40) (i := 0) (q := (77, 0)) dX10_init_236 fX10_93 rfl ⟨by decide, by decide, by decide, by decide, by decide, by decide, by decide, by decide⟩ rfl (Or.inr ⟨rfl, rfl⟩) ⟨by decide, by decide⟩ rfl ?_
  have hF := aFr_uR (j := 37) (v := some (77, 0)) hF (k := 40) (i := 0) ⟨by decide, by decide⟩
  refine aAload_n (pc' := 240) dX10_init_239 rfl rfl ?_
  refine aBipush (pc' := 242) ⟨by decide, by decide⟩ dX10_init_240 rfl ?_
  refine aNewa (pc' := 244) (k := 78) (i := 0) (t := 0) dX10_init_242 (Or.inl ⟨rfl, rfl⟩) arr_int rfl (by decide) (by decide) (by decide) (fun j => (hF 78 0 j (fun h => absurd h.2 (by decide))).1) (by decide) (by decide +kernel) (by decide +kernel) (by decide) rfl ?_
  have hF := aFr_mono hF
  refine aPutR (pc' := 247) (k := 40) (i := 0) (q := (78, 0)) dX10_init_244 fX10_96 rfl ⟨by decide, by decide, by decide, by decide, by decide, by decide, by decide, by decide⟩ rfl (Or.inr ⟨rfl, rfl⟩) ⟨by decide, by decide⟩ rfl ?_
  have hF := aFr_uR (j := 38) (v := some (78, 0)) hF (k := 40) (i := 0) ⟨by decide, by decide⟩
  refine aAload_n (pc' := 248) dX10_init_247 rfl rfl ?_
  refine aBipush (pc' := 250) ⟨by decide, by decide⟩ dX10_init_248 rfl ?_
  refine aNewa (pc' := 252) (k := 79) (i := 0) (t := 0) dX10_init_250 (Or.inl ⟨rfl, rfl⟩) arr_int rfl (by decide) (by decide) (by decide) (fun j => (hF 79 0 j (fun h => absurd h.2 (by decide))).1) (by decide) (by decide +kernel) (by decide +kernel) (by decide) rfl ?_
  have hF := aFr_mono hF
  refine aPutR (pc' := 255) (k := 40) (i := 0) (q := (79, 0)) dX10_init_252 fX10_99 rfl ⟨by decide, by decide, by decide, by decide, by decide, by decide, by decide, by decide⟩ rfl (Or.inr ⟨rfl, rfl⟩) ⟨by decide, by decide⟩ rfl ?_
  have hF := aFr_uR (j := 39) (v := some (79, 0)) hF (k := 40) (i := 0) ⟨by decide, by decide⟩
  refine aAload_n (pc' := 256) dX10_init_255 rfl rfl ?_
  refine aBipush (pc' := 258) ⟨by decide, by decide⟩ dX10_init_256 rfl ?_
  refine aNewa (pc' := 260) (k := 80) (i := 0) (t := 0) dX10_init_258 (Or.inl ⟨rfl, rfl⟩) arr_int rfl (by decide) (by decide) (by decide) (fun j => (hF 80 0 j (fun h => absurd h.2 (by decide))).1) (by decide) (by decide +kernel) (by decide +kernel) (by decide) rfl ?_
  have hF := aFr_mono hF
  refine aPutR (pc' := 263) (k := 40) (i := 0) (q := (80, 0)) dX10_init_260 fX10_102 rfl ⟨by decide, by decide, by decide, by decide, by decide, by decide, by decide, by decide⟩ rfl (Or.inr ⟨rfl, rfl⟩) ⟨by decide, by decide⟩ rfl ?_
  have hF := aFr_uR (j := 40) (v := some (80, 0)) hF (k := 40) (i := 0) ⟨by decide, by decide⟩
  refine aAload_n (pc' := 264) dX10_init_263 rfl rfl ?_
  refine aBipush (pc' := 266) ⟨by decide, by decide⟩ dX10_init_264 rfl ?_
  refine aNewa (pc' := 268) (k := 81) (i := 0) (t := 0) dX10_init_266 (Or.inl ⟨rfl, rfl⟩) arr_int rfl (by decide) (by decide) (by decide) (fun j => (hF 81 0 j (fun h => absurd h.2 (by decide))).1) (by decide) (by decide +kernel) (by decide +kernel) (by decide) rfl ?_
  have hF := aFr_mono hF
  refine aPutR (pc' := 271) (k := 40) (i := 0) (q := (81, 0)) dX10_init_268 fX10_105 rfl ⟨by decide, by decide, by decide, by decide, by decide, by decide, by decide, by decide⟩ rfl (Or.inr ⟨rfl, rfl⟩) ⟨by decide, by decide⟩ rfl ?_
  have hF := aFr_uR (j := 41) (v := some (81, 0)) hF (k := 40) (i := 0) ⟨by decide, by decide⟩
  refine aAload_n (pc' := 272) dX10_init_271 rfl rfl ?_
  refine aBipush (pc' := 274) ⟨by decide, by decide⟩ dX10_init_272 rfl ?_
  refine aNewa (pc' := 276) (k := 82) (i := 0) (t := 2) dX10_init_274 (Or.inr (Or.inr ⟨rfl, rfl⟩)) arr_boolean rfl (by decide) (by decide) (by decide) (fun j => (hF 82 0 j (fun h => absurd h.2 (by decide))).1) (by decide) (by decide +kernel) (by decide +kernel) (by decide) rfl ?_
  have hF := aFr_mono hF
  refine aPutR (pc' := 279) (k := 40) (i := 0) (q := (82, 0)) dX10_init_276 fX10_108 rfl ⟨by decide, by decide, by decide, by decide, by decide, by decide, by decide, by decide⟩ rfl (Or.inr ⟨rfl, rfl⟩) ⟨by decide, by decide⟩ rfl ?_
  have hF := aFr_uR (j := 42) (v := some (82, 0)) hF (k := 40) (i := 0) ⟨by decide, by decide⟩
  refine aAload_n (pc' := 280) dX10_init_279 rfl rfl ?_
  refine aBipush (pc' := 282) ⟨by decide, by decide⟩ dX10_init_280 rfl ?_
  refine aNewa (pc' := 284) (k := 83) (i := 0) (t := 2) dX10_init_282 (Or.inr (Or.inr ⟨rfl, rfl⟩)) arr_boolean rfl (by decide) (by decide) (by decide) (fun j => (hF 83 0 j (fun h => absurd h.2 (by decide))).1) (by decide) (by decide +kernel) (by decide +kernel) (by decide) rfl ?_
  have hF := aFr_mono hF
  refine aPutR (pc' := 287) (k := 40) (i := 0) (q := (83, 0)) dX10_init_284 fX10_112 rfl ⟨by decide, by decide, by decide, by decide, by decide, by decide, by decide, by decide⟩ rfl (Or.inr ⟨rfl, rfl⟩) ⟨by decide, by decide⟩ rfl ?_
  have hF := aFr_uR (j := 43) (v := some (83, 0)) hF (k := 40) (i := 0) ⟨by decide, by decide⟩
  refine aAload_n (pc' := 288) dX10_init_287 rfl rfl ?_
  refine aSipush (pc' := 291) ⟨by decide, by decide⟩ dX10_init_288 rfl ?_
  refine aNewa (pc' := 293) (k := 84) (i := 0) (t := 0) dX10_init_291 (Or.inl ⟨rfl, rfl⟩) arr_int rfl (by decide) (by decide) (by decide) (fun j => (hF 84 0 j (fun h => absurd h.2 (by decide))).1) (by decide) (by decide +kernel) (by decide +kernel) (by decide) rfl ?_
  have hF := aFr_mono hF
  refine aPutR (pc' := 296) (k := 40) (i := 0) (q := (84, 0)) dX10_init_293 fX10_115 rfl ⟨by decide, by decide, by decide, by decide, by decide, by decide, by decide, by decide⟩ rfl (Or.inr ⟨rfl, rfl⟩) ⟨by decide, by decide⟩ rfl ?_
  have hF := aFr_uR (j := 44) (v := some (84, 0)) hF (k := 40) (i := 0) ⟨by decide, by decide⟩
  refine aAload_n (pc' := 297) dX10_init_296 rfl rfl ?_
  refine aSipush (pc' := 300) ⟨by decide, by decide⟩ dX10_init_297 rfl ?_
  refine aNewa (pc' := 302) (k := 85) (i := 0) (t := 0) dX10_init_300 (Or.inl ⟨rfl, rfl⟩) arr_int rfl (by decide) (by decide) (by decide) (fun j => (hF 85 0 j (fun h => absurd h.2 (by decide))).1) (by decide) (by decide +kernel) (by decide +kernel) (by decide) rfl ?_
  have hF := aFr_mono hF
  refine aPutR (pc' := 305) (k := 40) (i := 0) (q := (85, 0)) dX10_init_302 fX10_118 rfl ⟨by decide, by decide, by decide, by decide, by decide, by decide, by decide, by decide⟩ rfl (Or.inr ⟨rfl, rfl⟩) ⟨by decide, by decide⟩ rfl ?_
  have hF := aFr_uR (j := 45) (v := some (85, 0)) hF (k := 40) (i := 0) ⟨by decide, by decide⟩
  exact aVret dX10_init_305 nlX10_init.2 rfl (by decide) (by decide +kernel) (hq hF)
