set_option maxRecDepth 100000 in
set_option maxHeartbeats 4000000 in
theorem gX7_collect {w : aW} {mm : Nat} {C : aIF} {S : aS} {p1 : Nat} {P : Int → aIF → Prop} (hp1 : p1 < 6) (hw : kMetI w mX2_collectNow [aO 28 p1] C S (rf mm) (fun x1 C2 => kMetV w mX4_add [aO 22 0, aI ((C2 21 0 5)), aI ((C2 28 p1 1)), aI 0, aI x1] C2 S (rf mm) (fun C5 => P x1 C5))) : kMetI w mX7_collect [aO 21 0, aO 28 p1] C S (rf mm) P := by
  refine cMet_of okX7_collect (Nat.le_of_ble_eq_true rfl) (fun hos => ?_)
  show cRun w mX7_collect 0 [some (aO 21 0), some (aO 28 p1), none] [] (mem C S) (rf mm) (kqI (rf mm) S P)
  refine aAload_n (pc' := 1) dX7_collect_0 rfl rfl ?_
  refine cVI (c := 2) (pc' := 4) [] dX7_collect_1 lX7_191 okX2_collectNow ⟨by decide, by decide⟩ npX2_collectNow rfl rfl rfl rfl rfl hp1 rfl (cMetI_mono hw (fun x1 J3 hw => ?_))
  obtain ⟨C2, rfl, hw⟩ := hw
  refine aIstore_n (pc' := 5) dX7_collect_4 (by decide) rfl (L' := [some (aO 21 0), some (aO 28 p1), some (aI x1)]) rfl ?_
  refine aAload_n (pc' := 6) dX7_collect_5 rfl rfl ?_
  refine aGetR (pc' := 9) (q := (22, 0)) dX7_collect_6 fX7_12 rfl rfl (lv (by decide)) rfl rfl ?_
  refine aAload_n (pc' := 10) dX7_collect_9 rfl rfl ?_
  refine aGetI (pc' := 13) dX7_collect_10 fX7_32 rfl rfl (lv (by decide)) rfl ?_
  refine aTopEq (y := (C2 21 0 5)) rfl ?_
  refine aAload_n (pc' := 14) dX7_collect_13 rfl rfl ?_
  refine aGetI (pc' := 17) dX7_collect_14 fX7_155 rfl rfl (lv hp1) rfl ?_
  refine aTopEq (y := (C2 28 p1 1)) rfl ?_
  refine aIconst (pc' := 18) ⟨by decide, by decide⟩ dX7_collect_17 rfl ?_
  refine aIload_n (pc' := 19) dX7_collect_18 rfl rfl ?_
  refine cVV (c := 4) (pc' := 22) [aI ((C2 21 0 5)), aI ((C2 28 p1 1)), aI 0, aI x1] dX7_collect_19 lX7_158 okX4_add ⟨by decide, by decide⟩ npX4_add rfl rfl rfl rfl rfl (by decide) rfl (cMetV_mono hw (fun J6 hw => ?_))
  obtain ⟨C5, rfl, hw⟩ := hw
  refine aIload_n (pc' := 23) dX7_collect_22 rfl rfl ?_
  exact cIret dX7_collect_23 okX7_collect rfl ⟨rfl, _, rfl, _, rfl, hw⟩
set_option maxRecDepth 100000 in
set_option maxHeartbeats 4000000 in
theorem gX7_doOtherAct {w : aW} {mm : Nat} {C : aIF} {S : aS} {p1 : Nat} {P : aIF → Prop} (hp1 : p1 < 6) (hw : kMetI w mX2_nextAct [aO 28 p1] C S (rf mm) (fun x1 C2 => ((0 ≤ x1) → ((x1 ≤ 1000) → (((C2 28 p1 3) ≠ 0) → P C2) ∧ (((C2 28 p1 3) = 0) → kMetV w mX7_endAct [aO 21 0, aO 28 p1] C2 S (rf mm) (fun C5 => P C5))) ∧ ((¬ (x1 ≤ 1000)) → (-2147483648 ≤ (x1 - 1000) ∧ (x1 - 1000) < 2147483648) ∧ ((-2147483648 ≤ ((x1 - 1000) - 1) ∧ ((x1 - 1000) - 1) < 2147483648) ∧ (kMetV w mX2_waitFor [aO 28 p1, aI (((x1 - 1000) - 1)), aI 2] C2 S (rf mm) (fun C10 => (((C10 28 p1 3) ≠ 0) → P C10) ∧ (((C10 28 p1 3) = 0) → kMetV w mX7_endAct [aO 21 0, aO 28 p1] C10 S (rf mm) (fun C13 => P C13))))))) ∧ ((¬ (0 ≤ x1)) → (-2147483648 < x1) ∧ (kMetV w mX6_die [aO 29 p1, aI ((-x1))] C2 S (rf mm) (fun C17 => (((C17 28 p1 3) ≠ 0) → P C17) ∧ (((C17 28 p1 3) = 0) → kMetV w mX7_endAct [aO 21 0, aO 28 p1] C17 S (rf mm) (fun C20 => P C20))))))) : kMetV w mX7_doOtherAct [aO 21 0, aO 28 p1] C S (rf mm) P := by
  refine cMet_of okX7_doOtherAct (Nat.le_of_ble_eq_true rfl) (fun hos => ?_)
  show cRun w mX7_doOtherAct 0 [some (aO 21 0), some (aO 28 p1), none] [] (mem C S) (rf mm) (kqV (rf mm) S P)
  refine aAload_n (pc' := 1) dX7_doOtherAct_0 rfl rfl ?_
  refine cVI (c := 2) (pc' := 4) [] dX7_doOtherAct_1 lX7_99 okX2_nextAct ⟨by decide, by decide⟩ npX2_nextAct rfl rfl rfl rfl rfl hp1 rfl (cMetI_mono hw (fun x1 J3 hw => ?_))
  obtain ⟨C2, rfl, hw⟩ := hw
  refine aIstore_n (pc' := 5) dX7_doOtherAct_4 (by decide) rfl (L' := [some (aO 21 0), some (aO 28 p1), some (aI x1)]) rfl ?_
  refine aIload_n (pc' := 6) dX7_doOtherAct_5 rfl rfl ?_
  refine aIf_ge (tgt := 21) (pc' := 9) dX7_doOtherAct_6 (by decide) rfl (fun hc => ?_) (fun hc => ?_)
  · have hw := hw.1 hc
    refine aIload_n (pc' := 22) dX7_doOtherAct_21 rfl rfl ?_
    refine aSipush (pc' := 25) ⟨by decide, by decide⟩ dX7_doOtherAct_22 rfl ?_
    refine aIcmp_le (tgt := 40) (pc' := 28) dX7_doOtherAct_25 (by decide) rfl (fun hc => ?_) (fun hc => ?_)
    · have hw := hw.1 hc
      refine aAload_n (pc' := 41) dX7_doOtherAct_40 rfl rfl ?_
      refine aGetI (pc' := 44) dX7_doOtherAct_41 fX7_71 rfl rfl (lv hp1) rfl ?_
      refine aTopEq (y := (C2 28 p1 3)) rfl ?_
      refine aIf_ne (tgt := 52) (pc' := 47) dX7_doOtherAct_44 (by decide) rfl (fun hc => ?_) (fun hc => ?_)
      · have hw := hw.1 hc
        exact cVret dX7_doOtherAct_52 okX7_doOtherAct rfl ⟨rfl, rfl, _, rfl, hw⟩
      · have hw := hw.2 hc
        refine aAload_n (pc' := 48) dX7_doOtherAct_47 rfl rfl ?_
        refine aAload_n (pc' := 49) dX7_doOtherAct_48 rfl rfl ?_
        refine cVV (c := 7) (pc' := 52) [aO 28 p1] dX7_doOtherAct_49 lX7_96 okX7_endAct ⟨by decide, by decide⟩ npX7_endAct rfl rfl rfl rfl rfl (by decide) rfl (cMetV_mono hw (fun J6 hw => ?_))
        obtain ⟨C5, rfl, hw⟩ := hw
        exact cVret dX7_doOtherAct_52 okX7_doOtherAct rfl ⟨rfl, rfl, _, rfl, hw⟩
    · have hw := hw.2 hc
      refine aAload_n (pc' := 29) dX7_doOtherAct_28 rfl rfl ?_
      refine aIload_n (pc' := 30) dX7_doOtherAct_29 rfl rfl ?_
      refine aSipush (pc' := 33) ⟨by decide, by decide⟩ dX7_doOtherAct_30 rfl ?_
      obtain ⟨h7, hw⟩ := hw
      refine aIsub (pc' := 34) h7.1 h7.2 dX7_doOtherAct_33 rfl ?_
      refine aIconst (pc' := 35) ⟨by decide, by decide⟩ dX7_doOtherAct_34 rfl ?_
      obtain ⟨h8, hw⟩ := hw
      refine aIsub (pc' := 36) h8.1 h8.2 dX7_doOtherAct_35 rfl ?_
      refine aIconst (pc' := 37) ⟨by decide, by decide⟩ dX7_doOtherAct_36 rfl ?_
      refine cVV (c := 2) (pc' := 40) [aI (((x1 - 1000) - 1)), aI 2] dX7_doOtherAct_37 lX7_89 okX2_waitFor ⟨by decide, by decide⟩ npX2_waitFor rfl rfl rfl rfl rfl hp1 rfl (cMetV_mono hw (fun J11 hw => ?_))
      obtain ⟨C10, rfl, hw⟩ := hw
      refine aAload_n (pc' := 41) dX7_doOtherAct_40 rfl rfl ?_
      refine aGetI (pc' := 44) dX7_doOtherAct_41 fX7_71 rfl rfl (lv hp1) rfl ?_
      refine aTopEq (y := (C10 28 p1 3)) rfl ?_
      refine aIf_ne (tgt := 52) (pc' := 47) dX7_doOtherAct_44 (by decide) rfl (fun hc => ?_) (fun hc => ?_)
      · have hw := hw.1 hc
        exact cVret dX7_doOtherAct_52 okX7_doOtherAct rfl ⟨rfl, rfl, _, rfl, hw⟩
      · have hw := hw.2 hc
        refine aAload_n (pc' := 48) dX7_doOtherAct_47 rfl rfl ?_
        refine aAload_n (pc' := 49) dX7_doOtherAct_48 rfl rfl ?_
        refine cVV (c := 7) (pc' := 52) [aO 28 p1] dX7_doOtherAct_49 lX7_96 okX7_endAct ⟨by decide, by decide⟩ npX7_endAct rfl rfl rfl rfl rfl (by decide) rfl (cMetV_mono hw (fun J14 hw => ?_))
        obtain ⟨C13, rfl, hw⟩ := hw
        exact cVret dX7_doOtherAct_52 okX7_doOtherAct rfl ⟨rfl, rfl, _, rfl, hw⟩
  · have hw := hw.2 hc
    refine aAload_n (pc' := 10) dX7_doOtherAct_9 rfl rfl ?_
    refine aGetR (pc' := 13) (q := (29, p1)) dX7_doOtherAct_10 fX7_103 rfl rfl (lv hp1) rfl rfl ?_
    refine aIload_n (pc' := 14) dX7_doOtherAct_13 rfl rfl ?_
    obtain ⟨h15, hw⟩ := hw
    refine aIneg (pc' := 15) h15 dX7_doOtherAct_14 rfl ?_
    refine cVV (c := 6) (pc' := 18) [aI ((-x1))] dX7_doOtherAct_15 lX7_107 okX6_die ⟨by decide, by decide⟩ npX6_die rfl rfl rfl rfl rfl hp1 rfl (cMetV_mono hw (fun J18 hw => ?_))
    obtain ⟨C17, rfl, hw⟩ := hw
    refine aGoto (pc' := 40) dX7_doOtherAct_18 (by decide) ?_
    refine aAload_n (pc' := 41) dX7_doOtherAct_40 rfl rfl ?_
    refine aGetI (pc' := 44) dX7_doOtherAct_41 fX7_71 rfl rfl (lv hp1) rfl ?_
    refine aTopEq (y := (C17 28 p1 3)) rfl ?_
    refine aIf_ne (tgt := 52) (pc' := 47) dX7_doOtherAct_44 (by decide) rfl (fun hc => ?_) (fun hc => ?_)
    · have hw := hw.1 hc
      exact cVret dX7_doOtherAct_52 okX7_doOtherAct rfl ⟨rfl, rfl, _, rfl, hw⟩
    · have hw := hw.2 hc
      refine aAload_n (pc' := 48) dX7_doOtherAct_47 rfl rfl ?_
      refine aAload_n (pc' := 49) dX7_doOtherAct_48 rfl rfl ?_
      refine cVV (c := 7) (pc' := 52) [aO 28 p1] dX7_doOtherAct_49 lX7_96 okX7_endAct ⟨by decide, by decide⟩ npX7_endAct rfl rfl rfl rfl rfl (by decide) rfl (cMetV_mono hw (fun J21 hw => ?_))
      obtain ⟨C20, rfl, hw⟩ := hw
      exact cVret dX7_doOtherAct_52 okX7_doOtherAct rfl ⟨rfl, rfl, _, rfl, hw⟩
set_option maxRecDepth 100000 in
set_option maxHeartbeats 4000000 in
theorem gX7_endAct {w : aW} {mm : Nat} {C : aIF} {S : aS} {p1 : Nat} {P : aIF → Prop} (hp1 : p1 < 6) (hmp1 : p1 < mm) (hw : (-2147483648 ≤ ((C 28 p1 7) + 1) ∧ ((C 28 p1 7) + 1) < 2147483648) ∧ ((((C 6 p1 1) ≤ ((C 28 p1 7) + 1)) → kMetV w mX2_endRound [aO 28 p1] (uI C 28 p1 7 (((C 28 p1 7) + 1))) S (rf mm) (fun C3 => (((C3 28 p1 12) ≠ 0) → (((C3 28 p1 6) < (C3 6 p1 3)) → P C3) ∧ ((¬ ((C3 28 p1 6) < (C3 6 p1 3))) → kMetV w mX7_leave [aO 21 0, aO 28 p1, aI 3, aI 6] C3 S (rf mm) (fun C6 => P C6))) ∧ (((C3 28 p1 12) = 0) → (((C3 28 p1 16) < 3) → (((C3 28 p1 6) < (C3 6 p1 3)) → P C3) ∧ ((¬ ((C3 28 p1 6) < (C3 6 p1 3))) → kMetV w mX7_leave [aO 21 0, aO 28 p1, aI 3, aI 6] C3 S (rf mm) (fun C9 => P C9))) ∧ ((¬ ((C3 28 p1 16) < 3)) → kMetV w mX4_add [aO 22 0, aI ((C3 21 0 5)), aI ((C3 28 p1 1)), aI 7, aI ((C3 29 p1 2))] (uI C3 28 p1 12 1) S (rf mm) (fun C12 => (((C12 28 p1 6) < (C12 6 p1 3)) → P C12) ∧ ((¬ ((C12 28 p1 6) < (C12 6 p1 3))) → kMetV w mX7_leave [aO 21 0, aO 28 p1, aI 3, aI 6] C12 S (rf mm) (fun C15 => P C15))))))) ∧ ((¬ ((C 6 p1 1) ≤ ((C 28 p1 7) + 1))) → P (uI C 28 p1 7 (((C 28 p1 7) + 1)))))) : kMetV w mX7_endAct [aO 21 0, aO 28 p1] C S (rf mm) P := by
  refine cMet_of okX7_endAct (Nat.le_of_ble_eq_true rfl) (fun hos => ?_)
  show cRun w mX7_endAct 0 [some (aO 21 0), some (aO 28 p1)] [] (mem C S) (rf mm) (kqV (rf mm) S P)
  refine aAload_n (pc' := 1) dX7_endAct_0 rfl rfl ?_
  refine aDup (pc' := 2) rfl dX7_endAct_1 rfl ?_
  refine aGetI (pc' := 5) dX7_endAct_2 fX7_162 rfl rfl (lv hp1) rfl ?_
  refine aTopEq (y := (C 28 p1 7)) rfl ?_
  refine aIconst (pc' := 6) ⟨by decide, by decide⟩ dX7_endAct_5 rfl ?_
  obtain ⟨h1, hw⟩ := hw
  refine aIadd (pc' := 7) h1.1 h1.2 dX7_endAct_6 rfl ?_
  refine aPutI (pc' := 10) dX7_endAct_7 fX7_162 rfl rfl (Or.inl rfl) (lv hp1) rfl (cEqI (mK rfl) ?_)
  refine aAload_n (pc' := 11) dX7_endAct_10 rfl rfl ?_
  refine aGetI (pc' := 14) dX7_endAct_11 fX7_162 rfl rfl (lv hp1) rfl ?_
  refine aTopEq (y := ((uI C 28 p1 7 (((C 28 p1 7) + 1))) 28 p1 7)) rfl ?_
  refine aTopEq uI_s ?_
  refine aAload_n (pc' := 15) dX7_endAct_14 rfl rfl ?_
  refine aGetR (pc' := 18) (q := (6, p1)) dX7_endAct_15 fX7_165 rfl rfl (lv hp1) (rf_p hmp1) rfl ?_
  refine aGetI (pc' := 21) dX7_endAct_18 fX7_169 rfl rfl (lv hp1) rfl ?_
  refine aTopEq (y := ((uI C 28 p1 7 (((C 28 p1 7) + 1))) 6 p1 1)) rfl ?_
  refine aTopEq (uI_k rfl) ?_
  refine aIcmp_ge (tgt := 25) (pc' := 24) dX7_endAct_21 (by decide) rfl (fun hc => ?_) (fun hc => ?_)
  · have hw := hw.1 hc
    refine aAload_n (pc' := 26) dX7_endAct_25 rfl rfl ?_
    refine cVV (c := 2) (pc' := 29) [] dX7_endAct_26 lX7_174 okX2_endRound ⟨by decide, by decide⟩ npX2_endRound rfl rfl rfl rfl rfl hp1 rfl (cMetV_mono hw (fun J4 hw => ?_))
    obtain ⟨C3, rfl, hw⟩ := hw
    refine aAload_n (pc' := 30) dX7_endAct_29 rfl rfl ?_
    refine aGetI (pc' := 33) dX7_endAct_30 fX7_177 rfl rfl (lv hp1) rfl ?_
    refine aTopEq (y := (C3 28 p1 12)) rfl ?_
    refine aIf_ne (tgt := 73) (pc' := 36) dX7_endAct_33 (by decide) rfl (fun hc => ?_) (fun hc => ?_)
    · have hw := hw.1 hc
      refine aAload_n (pc' := 74) dX7_endAct_73 rfl rfl ?_
      refine aGetI (pc' := 77) dX7_endAct_74 fX7_183 rfl rfl (lv hp1) rfl ?_
      refine aTopEq (y := (C3 28 p1 6)) rfl ?_
      refine aAload_n (pc' := 78) dX7_endAct_77 rfl rfl ?_
      refine aGetR (pc' := 81) (q := (6, p1)) dX7_endAct_78 fX7_165 rfl rfl (lv hp1) (rf_p hmp1) rfl ?_
      refine aGetI (pc' := 84) dX7_endAct_81 fX7_186 rfl rfl (lv hp1) rfl ?_
      refine aTopEq (y := (C3 6 p1 3)) rfl ?_
      refine aIcmp_lt (tgt := 95) (pc' := 87) dX7_endAct_84 (by decide) rfl (fun hc => ?_) (fun hc => ?_)
      · have hw := hw.1 hc
        exact cVret dX7_endAct_95 okX7_endAct rfl ⟨rfl, rfl, _, rfl, hw⟩
      · have hw := hw.2 hc
        refine aAload_n (pc' := 88) dX7_endAct_87 rfl rfl ?_
        refine aAload_n (pc' := 89) dX7_endAct_88 rfl rfl ?_
        refine aIconst (pc' := 90) ⟨by decide, by decide⟩ dX7_endAct_89 rfl ?_
        refine aBipush (pc' := 92) ⟨by decide, by decide⟩ dX7_endAct_90 rfl ?_
        refine cVV (c := 7) (pc' := 95) [aO 28 p1, aI 3, aI 6] dX7_endAct_92 lX7_130 okX7_leave ⟨by decide, by decide⟩ npX7_leave rfl rfl rfl rfl rfl (by decide) rfl (cMetV_mono hw (fun J7 hw => ?_))
        obtain ⟨C6, rfl, hw⟩ := hw
        exact cVret dX7_endAct_95 okX7_endAct rfl ⟨rfl, rfl, _, rfl, hw⟩
    · have hw := hw.2 hc
      refine aAload_n (pc' := 37) dX7_endAct_36 rfl rfl ?_
      refine aGetI (pc' := 40) dX7_endAct_37 fX7_180 rfl rfl (lv hp1) rfl ?_
      refine aTopEq (y := (C3 28 p1 16)) rfl ?_
      refine aIconst (pc' := 41) ⟨by decide, by decide⟩ dX7_endAct_40 rfl ?_
      refine aIcmp_lt (tgt := 73) (pc' := 44) dX7_endAct_41 (by decide) rfl (fun hc => ?_) (fun hc => ?_)
      · have hw := hw.1 hc
        refine aAload_n (pc' := 74) dX7_endAct_73 rfl rfl ?_
        refine aGetI (pc' := 77) dX7_endAct_74 fX7_183 rfl rfl (lv hp1) rfl ?_
        refine aTopEq (y := (C3 28 p1 6)) rfl ?_
        refine aAload_n (pc' := 78) dX7_endAct_77 rfl rfl ?_
        refine aGetR (pc' := 81) (q := (6, p1)) dX7_endAct_78 fX7_165 rfl rfl (lv hp1) (rf_p hmp1) rfl ?_
        refine aGetI (pc' := 84) dX7_endAct_81 fX7_186 rfl rfl (lv hp1) rfl ?_
        refine aTopEq (y := (C3 6 p1 3)) rfl ?_
        refine aIcmp_lt (tgt := 95) (pc' := 87) dX7_endAct_84 (by decide) rfl (fun hc => ?_) (fun hc => ?_)
        · have hw := hw.1 hc
          exact cVret dX7_endAct_95 okX7_endAct rfl ⟨rfl, rfl, _, rfl, hw⟩
        · have hw := hw.2 hc
          refine aAload_n (pc' := 88) dX7_endAct_87 rfl rfl ?_
          refine aAload_n (pc' := 89) dX7_endAct_88 rfl rfl ?_
          refine aIconst (pc' := 90) ⟨by decide, by decide⟩ dX7_endAct_89 rfl ?_
          refine aBipush (pc' := 92) ⟨by decide, by decide⟩ dX7_endAct_90 rfl ?_
          refine cVV (c := 7) (pc' := 95) [aO 28 p1, aI 3, aI 6] dX7_endAct_92 lX7_130 okX7_leave ⟨by decide, by decide⟩ npX7_leave rfl rfl rfl rfl rfl (by decide) rfl (cMetV_mono hw (fun J10 hw => ?_))
          obtain ⟨C9, rfl, hw⟩ := hw
          exact cVret dX7_endAct_95 okX7_endAct rfl ⟨rfl, rfl, _, rfl, hw⟩
      · have hw := hw.2 hc
        refine aAload_n (pc' := 45) dX7_endAct_44 rfl rfl ?_
        refine aIconst (pc' := 46) ⟨by decide, by decide⟩ dX7_endAct_45 rfl ?_
        refine aPutZ (pc' := 49) dX7_endAct_46 fX7_177 rfl rfl (Or.inl rfl) (lv hp1) (by decide) rfl (cEqI (mK rfl) ?_)
        refine aAload_n (pc' := 50) dX7_endAct_49 rfl rfl ?_
        refine aGetR (pc' := 53) (q := (22, 0)) dX7_endAct_50 fX7_12 rfl rfl (lv (by decide)) rfl rfl ?_
        refine aAload_n (pc' := 54) dX7_endAct_53 rfl rfl ?_
        refine aGetI (pc' := 57) dX7_endAct_54 fX7_32 rfl rfl (lv (by decide)) rfl ?_
        refine aTopEq (y := ((uI C3 28 p1 12 1) 21 0 5)) rfl ?_
        refine aTopEq (uI_k rfl) ?_
        refine aAload_n (pc' := 58) dX7_endAct_57 rfl rfl ?_
        refine aGetI (pc' := 61) dX7_endAct_58 fX7_155 rfl rfl (lv hp1) rfl ?_
        refine aTopEq (y := ((uI C3 28 p1 12 1) 28 p1 1)) rfl ?_
        refine aTopEq (uI_j rfl) ?_
        refine aBipush (pc' := 63) ⟨by decide, by decide⟩ dX7_endAct_61 rfl ?_
        refine aAload_n (pc' := 64) dX7_endAct_63 rfl rfl ?_
        refine aGetR (pc' := 67) (q := (29, p1)) dX7_endAct_64 fX7_103 rfl rfl (lv hp1) rfl rfl ?_
        refine aGetI (pc' := 70) dX7_endAct_67 fX7_119 rfl rfl (lv hp1) rfl ?_
        refine aTopEq (y := ((uI C3 28 p1 12 1) 29 p1 2)) rfl ?_
        refine aTopEq (uI_k rfl) ?_
        refine cVV (c := 4) (pc' := 73) [aI ((C3 21 0 5)), aI ((C3 28 p1 1)), aI 7, aI ((C3 29 p1 2))] dX7_endAct_70 lX7_158 okX4_add ⟨by decide, by decide⟩ npX4_add rfl rfl rfl rfl rfl (by decide) rfl (cMetV_mono hw (fun J13 hw => ?_))
        obtain ⟨C12, rfl, hw⟩ := hw
        refine aAload_n (pc' := 74) dX7_endAct_73 rfl rfl ?_
        refine aGetI (pc' := 77) dX7_endAct_74 fX7_183 rfl rfl (lv hp1) rfl ?_
        refine aTopEq (y := (C12 28 p1 6)) rfl ?_
        refine aAload_n (pc' := 78) dX7_endAct_77 rfl rfl ?_
        refine aGetR (pc' := 81) (q := (6, p1)) dX7_endAct_78 fX7_165 rfl rfl (lv hp1) (rf_p hmp1) rfl ?_
        refine aGetI (pc' := 84) dX7_endAct_81 fX7_186 rfl rfl (lv hp1) rfl ?_
        refine aTopEq (y := (C12 6 p1 3)) rfl ?_
        refine aIcmp_lt (tgt := 95) (pc' := 87) dX7_endAct_84 (by decide) rfl (fun hc => ?_) (fun hc => ?_)
        · have hw := hw.1 hc
          exact cVret dX7_endAct_95 okX7_endAct rfl ⟨rfl, rfl, _, rfl, hw⟩
        · have hw := hw.2 hc
          refine aAload_n (pc' := 88) dX7_endAct_87 rfl rfl ?_
          refine aAload_n (pc' := 89) dX7_endAct_88 rfl rfl ?_
          refine aIconst (pc' := 90) ⟨by decide, by decide⟩ dX7_endAct_89 rfl ?_
          refine aBipush (pc' := 92) ⟨by decide, by decide⟩ dX7_endAct_90 rfl ?_
          refine cVV (c := 7) (pc' := 95) [aO 28 p1, aI 3, aI 6] dX7_endAct_92 lX7_130 okX7_leave ⟨by decide, by decide⟩ npX7_leave rfl rfl rfl rfl rfl (by decide) rfl (cMetV_mono hw (fun J16 hw => ?_))
          obtain ⟨C15, rfl, hw⟩ := hw
          exact cVret dX7_endAct_95 okX7_endAct rfl ⟨rfl, rfl, _, rfl, hw⟩
  · have hw := hw.2 hc
    exact cVret dX7_endAct_24 okX7_endAct rfl ⟨rfl, rfl, _, rfl, hw⟩
set_option maxRecDepth 100000 in
set_option maxHeartbeats 4000000 in
theorem gX7_fairPart {w : aW} {mm : Nat} {C : aIF} {S : aS} {P : Int → aIF → Prop} (hw : (((C 21 0 3) ≤ 0) → P 0 C) ∧ ((¬ ((C 21 0 3) ≤ 0)) → (0 ≤ (C 9 0 1) ∧ 0 < (C 21 0 3)) ∧ (P ((C 9 0 1) / (C 21 0 3)) C))) : kMetI w mX7_fairPart [aO 21 0] C S (rf mm) P := by
  refine cMet_of okX7_fairPart (Nat.le_of_ble_eq_true rfl) (fun hos => ?_)
  show cRun w mX7_fairPart 0 [some (aO 21 0)] [] (mem C S) (rf mm) (kqI (rf mm) S P)
  refine aAload_n (pc' := 1) dX7_fairPart_0 rfl rfl ?_
  refine aGetI (pc' := 4) dX7_fairPart_1 fX7_24 rfl rfl (lv (by decide)) rfl ?_
  refine aTopEq (y := (C 21 0 3)) rfl ?_
  refine aIf_le (tgt := 22) (pc' := 7) dX7_fairPart_4 (by decide) rfl (fun hc => ?_) (fun hc => ?_)
  · have hw := hw.1 hc
    refine aIconst (pc' := 23) ⟨by decide, by decide⟩ dX7_fairPart_22 rfl ?_
    exact cIret dX7_fairPart_23 okX7_fairPart rfl ⟨rfl, _, rfl, _, rfl, hw⟩
  · have hw := hw.2 hc
    refine aAload_n (pc' := 8) dX7_fairPart_7 rfl rfl ?_
    refine aGetR (pc' := 11) (q := (9, 0)) dX7_fairPart_8 fX7_38 rfl rfl (lv (by decide)) rfl rfl ?_
    refine aGetI (pc' := 14) dX7_fairPart_11 fX7_48 rfl rfl (lv (by decide)) rfl ?_
    refine aTopEq (y := (C 9 0 1)) rfl ?_
    refine aAload_n (pc' := 15) dX7_fairPart_14 rfl rfl ?_
    refine aGetI (pc' := 18) dX7_fairPart_15 fX7_24 rfl rfl (lv (by decide)) rfl ?_
    refine aTopEq (y := (C 21 0 3)) rfl ?_
    obtain ⟨h1, hw⟩ := hw
    refine aIdiv (pc' := 19) h1.1 h1.2 dX7_fairPart_18 rfl ?_
    refine aGoto (pc' := 23) dX7_fairPart_19 (by decide) ?_
    exact cIret dX7_fairPart_23 okX7_fairPart rfl ⟨rfl, _, rfl, _, rfl, hw⟩
set_option maxRecDepth 100000 in
set_option maxHeartbeats 4000000 in
theorem gX7_getsByAsking {w : aW} {mm : Nat} {C : aIF} {S : aS} {p : Nat} {v : Int} {P : Int → aIF → Prop} (hp : p < 6) (hmp : p < mm) (hw : (-2147483648 ≤ ((C 28 p 5) + v) ∧ ((C 28 p 5) + v) < 2147483648) ∧ (kMetI w mX1_roomFor [aO 6 p, aI (((C 28 p 5) + v))] C S (rf mm) (fun x2 C3 => (-2147483648 ≤ (x2 - (C3 28 p 4)) ∧ (x2 - (C3 28 p 4)) < 2147483648) ∧ (kMetI w mX5_stepsFor [aO 9 0, aI ((x2 - (C3 28 p 4)))] C3 S (rf mm) (fun x6 C7 => (-2147483648 ≤ ((C 9 0 0) * x6) ∧ ((C 9 0 0) * x6) < 2147483648) ∧ (kMetI w mX7_spareOfOthers [aO 21 0, aO 28 p] C7 S (rf mm) (fun x10 C11 => (-2147483648 ≤ ((C7 21 0 6) + x10) ∧ ((C7 21 0 6) + x10) < 2147483648) ∧ (((((C7 21 0 6) + x10) < ((C 9 0 0) * x6)) → P 0 C11) ∧ ((¬ (((C7 21 0 6) + x10) < ((C 9 0 0) * x6))) → (((C11 28 p 12) = 0) → (-2147483648 ≤ ((C11 21 0 6) - (min (C11 21 0 6) ((C 9 0 0) * x6))) ∧ ((C11 21 0 6) - (min (C11 21 0 6) ((C 9 0 0) * x6))) < 2147483648) ∧ ((-2147483648 ≤ (((C 9 0 0) * x6) - (min (C11 21 0 6) ((C 9 0 0) * x6))) ∧ (((C 9 0 0) * x6) - (min (C11 21 0 6) ((C 9 0 0) * x6))) < 2147483648) ∧ (kRunI w mX7_getsByAsking 100 [some (aO 21 0), some (aO 28 p), some (aI v), some (aI (((C 9 0 0) * x6))), some (aI ((min (C11 21 0 6) ((C 9 0 0) * x6)))), some (aI ((((C 9 0 0) * x6) - (min (C11 21 0 6) ((C 9 0 0) * x6))))), some (aI 0), none, none] [] (uI C11 21 0 6 (((C11 21 0 6) - (min (C11 21 0 6) ((C 9 0 0) * x6))))) S (rf mm) P))) ∧ ((¬ ((C11 28 p 12) = 0)) → (-2147483648 ≤ ((C11 28 p 4) + ((C 9 0 0) * x6)) ∧ ((C11 28 p 4) + ((C 9 0 0) * x6)) < 2147483648) ∧ (kMetI w mX7_fairPart [aO 21 0] C11 S (rf mm) (fun x17 C18 => ((((C11 28 p 4) + ((C 9 0 0) * x6)) ≤ x17) → (-2147483648 ≤ ((C18 21 0 6) - (min (C18 21 0 6) ((C 9 0 0) * x6))) ∧ ((C18 21 0 6) - (min (C18 21 0 6) ((C 9 0 0) * x6))) < 2147483648) ∧ ((-2147483648 ≤ (((C 9 0 0) * x6) - (min (C18 21 0 6) ((C 9 0 0) * x6))) ∧ (((C 9 0 0) * x6) - (min (C18 21 0 6) ((C 9 0 0) * x6))) < 2147483648) ∧ (kRunI w mX7_getsByAsking 100 [some (aO 21 0), some (aO 28 p), some (aI v), some (aI (((C 9 0 0) * x6))), some (aI ((min (C18 21 0 6) ((C 9 0 0) * x6)))), some (aI ((((C 9 0 0) * x6) - (min (C18 21 0 6) ((C 9 0 0) * x6))))), some (aI 0), none, none] [] (uI C18 21 0 6 (((C18 21 0 6) - (min (C18 21 0 6) ((C 9 0 0) * x6))))) S (rf mm) P))) ∧ ((¬ (((C11 28 p 4) + ((C 9 0 0) * x6)) ≤ x17)) → P 0 C18))))))))))))) : kMetI w mX7_getsByAsking [aO 21 0, aO 28 p, aI v] C S (rf mm) P := by
  refine cMet_of okX7_getsByAsking (Nat.le_of_ble_eq_true rfl) (fun hos => ?_)
  show cRun w mX7_getsByAsking 0 [some (aO 21 0), some (aO 28 p), some (aI v), none, none, none, none, none, none] [] (mem C S) (rf mm) (kqI (rf mm) S P)
  refine aAload_n (pc' := 1) dX7_getsByAsking_0 rfl rfl ?_
  refine aGetR (pc' := 4) (q := (9, 0)) dX7_getsByAsking_1 fX7_38 rfl rfl (lv (by decide)) rfl rfl ?_
  refine aGetI (pc' := 7) dX7_getsByAsking_4 fX7_53 rfl rfl (lv (by decide)) rfl ?_
  refine aTopEq (y := (C 9 0 0)) rfl ?_
  refine aAload_n (pc' := 8) dX7_getsByAsking_7 rfl rfl ?_
  refine aGetR (pc' := 11) (q := (9, 0)) dX7_getsByAsking_8 fX7_38 rfl rfl (lv (by decide)) rfl rfl ?_
  refine aAload_n (pc' := 12) dX7_getsByAsking_11 rfl rfl ?_
  refine aGetR (pc' := 15) (q := (6, p)) dX7_getsByAsking_12 fX7_165 rfl rfl (lv hp) (rf_p hmp) rfl ?_
  refine aAload_n (pc' := 16) dX7_getsByAsking_15 rfl rfl ?_
  refine aGetI (pc' := 19) dX7_getsByAsking_16 fX7_116 rfl rfl (lv hp) rfl ?_
  refine aTopEq (y := (C 28 p 5)) rfl ?_
  refine aIload_n (pc' := 20) dX7_getsByAsking_19 rfl rfl ?_
  obtain ⟨h1, hw⟩ := hw
  refine aIadd (pc' := 21) h1.1 h1.2 dX7_getsByAsking_20 rfl ?_
  refine cVI (c := 1) (pc' := 24) [aI (((C 28 p 5) + v))] dX7_getsByAsking_21 lX7_194 okX1_roomFor ⟨by decide, by decide⟩ npX1_roomFor rfl rfl rfl rfl rfl hp rfl (cMetI_mono hw (fun x2 J4 hw => ?_))
  obtain ⟨C3, rfl, hw⟩ := hw
  refine aAload_n (pc' := 25) dX7_getsByAsking_24 rfl rfl ?_
  refine aGetI (pc' := 28) dX7_getsByAsking_25 fX7_143 rfl rfl (lv hp) rfl ?_
  refine aTopEq (y := (C3 28 p 4)) rfl ?_
  obtain ⟨h5, hw⟩ := hw
  refine aIsub (pc' := 29) h5.1 h5.2 dX7_getsByAsking_28 rfl ?_
  refine cVI (c := 5) (pc' := 32) [aI ((x2 - (C3 28 p 4)))] dX7_getsByAsking_29 lX7_198 okX5_stepsFor ⟨by decide, by decide⟩ npX5_stepsFor rfl rfl rfl rfl rfl (by decide) rfl (cMetI_mono hw (fun x6 J8 hw => ?_))
  obtain ⟨C7, rfl, hw⟩ := hw
  obtain ⟨h9, hw⟩ := hw
  refine aImul (pc' := 33) h9.1 h9.2 dX7_getsByAsking_32 rfl ?_
  refine aIstore_n (pc' := 34) dX7_getsByAsking_33 (by decide) rfl (L' := [some (aO 21 0), some (aO 28 p), some (aI v), some (aI (((C 9 0 0) * x6))), none, none, none, none, none]) rfl ?_
  refine aAload_n (pc' := 35) dX7_getsByAsking_34 rfl rfl ?_
  refine aGetI (pc' := 38) dX7_getsByAsking_35 fX7_35 rfl rfl (lv (by decide)) rfl ?_
  refine aTopEq (y := (C7 21 0 6)) rfl ?_
  refine aAload_n (pc' := 39) dX7_getsByAsking_38 rfl rfl ?_
  refine aAload_n (pc' := 40) dX7_getsByAsking_39 rfl rfl ?_
  refine cVI (c := 7) (pc' := 43) [aO 28 p] dX7_getsByAsking_40 lX7_201 okX7_spareOfOthers ⟨by decide, by decide⟩ npX7_spareOfOthers rfl rfl rfl rfl rfl (by decide) rfl (cMetI_mono hw (fun x10 J12 hw => ?_))
  obtain ⟨C11, rfl, hw⟩ := hw
  obtain ⟨h13, hw⟩ := hw
  refine aIadd (pc' := 44) h13.1 h13.2 dX7_getsByAsking_43 rfl ?_
  refine aIload_n (pc' := 45) dX7_getsByAsking_44 rfl rfl ?_
  refine aIcmp_lt (tgt := 68) (pc' := 48) dX7_getsByAsking_45 (by decide) rfl (fun hc => ?_) (fun hc => ?_)
  · have hw := hw.1 hc
    refine aIconst (pc' := 69) ⟨by decide, by decide⟩ dX7_getsByAsking_68 rfl ?_
    exact cZret dX7_getsByAsking_69 okX7_getsByAsking rfl (by decide) ⟨rfl, _, rfl, _, rfl, hw⟩
  · have hw := hw.2 hc
    refine aAload_n (pc' := 49) dX7_getsByAsking_48 rfl rfl ?_
    refine aGetI (pc' := 52) dX7_getsByAsking_49 fX7_177 rfl rfl (lv hp) rfl ?_
    refine aTopEq (y := (C11 28 p 12)) rfl ?_
    refine aIf_eq (tgt := 70) (pc' := 55) dX7_getsByAsking_52 (by decide) rfl (fun hc => ?_) (fun hc => ?_)
    · have hw := hw.1 hc
      refine aAload_n (pc' := 71) dX7_getsByAsking_70 rfl rfl ?_
      refine aGetI (pc' := 74) dX7_getsByAsking_71 fX7_35 rfl rfl (lv (by decide)) rfl ?_
      refine aTopEq (y := (C11 21 0 6)) rfl ?_
      refine aIload_n (pc' := 75) dX7_getsByAsking_74 rfl rfl ?_
      refine aMin (pc' := 78) dX7_getsByAsking_75 lX7_152 rfl rfl (Nat.le_refl _) (Nat.le_refl _) rfl ?_
      refine aIstore (pc' := 80) dX7_getsByAsking_78 (by decide) rfl (L' := [some (aO 21 0), some (aO 28 p), some (aI v), some (aI (((C 9 0 0) * x6))), some (aI ((min (C11 21 0 6) ((C 9 0 0) * x6)))), none, none, none, none]) rfl ?_
      refine aAload_n (pc' := 81) dX7_getsByAsking_80 rfl rfl ?_
      refine aDup (pc' := 82) rfl dX7_getsByAsking_81 rfl ?_
      refine aGetI (pc' := 85) dX7_getsByAsking_82 fX7_35 rfl rfl (lv (by decide)) rfl ?_
      refine aTopEq (y := (C11 21 0 6)) rfl ?_
      refine aIload (pc' := 87) dX7_getsByAsking_85 rfl rfl ?_
      obtain ⟨h14, hw⟩ := hw
      refine aIsub (pc' := 88) h14.1 h14.2 dX7_getsByAsking_87 rfl ?_
      refine aPutI (pc' := 91) dX7_getsByAsking_88 fX7_35 rfl rfl (Or.inl rfl) (lv (by decide)) rfl (cEqI (mK rfl) ?_)
      refine aIload_n (pc' := 92) dX7_getsByAsking_91 rfl rfl ?_
      refine aIload (pc' := 94) dX7_getsByAsking_92 rfl rfl ?_
      obtain ⟨h15, hw⟩ := hw
      refine aIsub (pc' := 95) h15.1 h15.2 dX7_getsByAsking_94 rfl ?_
      refine aIstore (pc' := 97) dX7_getsByAsking_95 (by decide) rfl (L' := [some (aO 21 0), some (aO 28 p), some (aI v), some (aI (((C 9 0 0) * x6))), some (aI ((min (C11 21 0 6) ((C 9 0 0) * x6)))), some (aI ((((C 9 0 0) * x6) - (min (C11 21 0 6) ((C 9 0 0) * x6))))), none, none, none]) rfl ?_
      refine aIconst (pc' := 98) ⟨by decide, by decide⟩ dX7_getsByAsking_97 rfl ?_
      refine aIstore (pc' := 100) dX7_getsByAsking_98 (by decide) rfl (L' := [some (aO 21 0), some (aO 28 p), some (aI v), some (aI (((C 9 0 0) * x6))), some (aI ((min (C11 21 0 6) ((C 9 0 0) * x6)))), some (aI ((((C 9 0 0) * x6) - (min (C11 21 0 6) ((C 9 0 0) * x6))))), some (aI 0), none, none]) rfl ?_
      exact hw
    · have hw := hw.2 hc
      refine aAload_n (pc' := 56) dX7_getsByAsking_55 rfl rfl ?_
      refine aGetI (pc' := 59) dX7_getsByAsking_56 fX7_143 rfl rfl (lv hp) rfl ?_
      refine aTopEq (y := (C11 28 p 4)) rfl ?_
      refine aIload_n (pc' := 60) dX7_getsByAsking_59 rfl rfl ?_
      obtain ⟨h16, hw⟩ := hw
      refine aIadd (pc' := 61) h16.1 h16.2 dX7_getsByAsking_60 rfl ?_
      refine aAload_n (pc' := 62) dX7_getsByAsking_61 rfl rfl ?_
      refine cVI (c := 7) (pc' := 65) [] dX7_getsByAsking_62 lX7_204 okX7_fairPart ⟨by decide, by decide⟩ npX7_fairPart rfl rfl rfl rfl rfl (by decide) rfl (cMetI_mono hw (fun x17 J19 hw => ?_))
      obtain ⟨C18, rfl, hw⟩ := hw
      refine aIcmp_le (tgt := 70) (pc' := 68) dX7_getsByAsking_65 (by decide) rfl (fun hc => ?_) (fun hc => ?_)
      · have hw := hw.1 hc
        refine aAload_n (pc' := 71) dX7_getsByAsking_70 rfl rfl ?_
        refine aGetI (pc' := 74) dX7_getsByAsking_71 fX7_35 rfl rfl (lv (by decide)) rfl ?_
        refine aTopEq (y := (C18 21 0 6)) rfl ?_
        refine aIload_n (pc' := 75) dX7_getsByAsking_74 rfl rfl ?_
        refine aMin (pc' := 78) dX7_getsByAsking_75 lX7_152 rfl rfl (Nat.le_refl _) (Nat.le_refl _) rfl ?_
        refine aIstore (pc' := 80) dX7_getsByAsking_78 (by decide) rfl (L' := [some (aO 21 0), some (aO 28 p), some (aI v), some (aI (((C 9 0 0) * x6))), some (aI ((min (C18 21 0 6) ((C 9 0 0) * x6)))), none, none, none, none]) rfl ?_
        refine aAload_n (pc' := 81) dX7_getsByAsking_80 rfl rfl ?_
        refine aDup (pc' := 82) rfl dX7_getsByAsking_81 rfl ?_
        refine aGetI (pc' := 85) dX7_getsByAsking_82 fX7_35 rfl rfl (lv (by decide)) rfl ?_
        refine aTopEq (y := (C18 21 0 6)) rfl ?_
        refine aIload (pc' := 87) dX7_getsByAsking_85 rfl rfl ?_
        obtain ⟨h20, hw⟩ := hw
        refine aIsub (pc' := 88) h20.1 h20.2 dX7_getsByAsking_87 rfl ?_
        refine aPutI (pc' := 91) dX7_getsByAsking_88 fX7_35 rfl rfl (Or.inl rfl) (lv (by decide)) rfl (cEqI (mK rfl) ?_)
        refine aIload_n (pc' := 92) dX7_getsByAsking_91 rfl rfl ?_
        refine aIload (pc' := 94) dX7_getsByAsking_92 rfl rfl ?_
        obtain ⟨h21, hw⟩ := hw
        refine aIsub (pc' := 95) h21.1 h21.2 dX7_getsByAsking_94 rfl ?_
        refine aIstore (pc' := 97) dX7_getsByAsking_95 (by decide) rfl (L' := [some (aO 21 0), some (aO 28 p), some (aI v), some (aI (((C 9 0 0) * x6))), some (aI ((min (C18 21 0 6) ((C 9 0 0) * x6)))), some (aI ((((C 9 0 0) * x6) - (min (C18 21 0 6) ((C 9 0 0) * x6))))), none, none, none]) rfl ?_
        refine aIconst (pc' := 98) ⟨by decide, by decide⟩ dX7_getsByAsking_97 rfl ?_
        refine aIstore (pc' := 100) dX7_getsByAsking_98 (by decide) rfl (L' := [some (aO 21 0), some (aO 28 p), some (aI v), some (aI (((C 9 0 0) * x6))), some (aI ((min (C18 21 0 6) ((C 9 0 0) * x6)))), some (aI ((((C 9 0 0) * x6) - (min (C18 21 0 6) ((C 9 0 0) * x6))))), some (aI 0), none, none]) rfl ?_
        exact hw
      · have hw := hw.2 hc
        refine aIconst (pc' := 69) ⟨by decide, by decide⟩ dX7_getsByAsking_68 rfl ?_
        exact cZret dX7_getsByAsking_69 okX7_getsByAsking rfl (by decide) ⟨rfl, _, rfl, _, rfl, hw⟩
set_option maxRecDepth 100000 in
set_option maxHeartbeats 4000000 in
theorem gX7_getsByAsking_100 {w : aW} {mm : Nat} {C : aIF} {S : aS} {p : Nat} {v : Int} {l3 : Int} {l4 : Int} {l5 : Int} {l6 : Nat} {P : Int → aIF → Prop} (hp : p < 6) (hw : (((C 21 0 3) ≤ (l6 : Int)) → kMetI w mX5_stepsFor [aO 9 0, aI l5] C S (rf mm) (fun x1 C2 => kRunI w mX7_getsByAsking 192 [some (aO 21 0), some (aO 28 p), some (aI v), some (aI l3), some (aI l4), some (aI l5), some (aI x1), some (aI 0), none] [] C2 S (rf mm) P)) ∧ ((¬ ((C 21 0 3) ≤ (l6 : Int))) → ((l5 ≤ 0) → kMetI w mX5_stepsFor [aO 9 0, aI l5] C S (rf mm) (fun x4 C5 => kRunI w mX7_getsByAsking 192 [some (aO 21 0), some (aO 28 p), some (aI v), some (aI l3), some (aI l4), some (aI l5), some (aI x4), some (aI 0), none] [] C5 S (rf mm) P)) ∧ ((¬ (l5 ≤ 0)) → (l6 < 6) ∧ ((((C 28 l6 3) ≠ 2) → (l6 + 1 < 2147483648) ∧ (kRunI w mX7_getsByAsking 100 [some (aO 21 0), some (aO 28 p), some (aI v), some (aI l3), some (aI l4), some (aI l5), some (aI ((((l6 + 1) : Nat) : Int))), none, none] [] C S (rf mm) P)) ∧ (((C 28 l6 3) = 2) → kMetI w mX2_spare [aO 28 l6, aO 9 0] C S (rf mm) (fun x9 C10 => (((min x9 l5) ≤ 0) → (l6 + 1 < 2147483648) ∧ (kRunI w mX7_getsByAsking 100 [some (aO 21 0), some (aO 28 p), some (aI v), some (aI l3), some (aI l4), some (aI l5), some (aI ((((l6 + 1) : Nat) : Int))), none, none] [] C10 S (rf mm) P)) ∧ ((¬ ((min x9 l5) ≤ 0)) → kMetV w mX7_give [aO 21 0, aO 28 l6, aI ((min x9 l5))] C10 S (rf mm) (fun C14 => (-2147483648 ≤ (l5 - (min x9 l5)) ∧ (l5 - (min x9 l5)) < 2147483648) ∧ ((l6 + 1 < 2147483648) ∧ (kRunI w mX7_getsByAsking 100 [some (aO 21 0), some (aO 28 p), some (aI v), some (aI l3), some (aI l4), some (aI ((l5 - (min x9 l5)))), some (aI ((((l6 + 1) : Nat) : Int))), none, none] [] C14 S (rf mm) P)))))))))) : kRunI w mX7_getsByAsking 100 [some (aO 21 0), some (aO 28 p), some (aI v), some (aI l3), some (aI l4), some (aI l5), some (aI ((l6 : Int))), none, none] [] C S (rf mm) P := by
  refine aIload (pc' := 102) dX7_getsByAsking_100 rfl rfl ?_
  refine aAload_n (pc' := 103) dX7_getsByAsking_102 rfl rfl ?_
  refine aGetI (pc' := 106) dX7_getsByAsking_103 fX7_24 rfl rfl (lv (by decide)) rfl ?_
  refine aTopEq (y := (C 21 0 3)) rfl ?_
  refine aIcmp_ge (tgt := 178) (pc' := 109) dX7_getsByAsking_106 (by decide) rfl (fun hc => ?_) (fun hc => ?_)
  · have hw := hw.1 hc
    refine aAload_n (pc' := 179) dX7_getsByAsking_178 rfl rfl ?_
    refine aGetR (pc' := 182) (q := (9, 0)) dX7_getsByAsking_179 fX7_38 rfl rfl (lv (by decide)) rfl rfl ?_
    refine aIload (pc' := 184) dX7_getsByAsking_182 rfl rfl ?_
    refine cVI (c := 5) (pc' := 187) [aI l5] dX7_getsByAsking_184 lX7_198 okX5_stepsFor ⟨by decide, by decide⟩ npX5_stepsFor rfl rfl rfl rfl rfl (by decide) rfl (cMetI_mono hw (fun x1 J3 hw => ?_))
    obtain ⟨C2, rfl, hw⟩ := hw
    refine aIstore (pc' := 189) dX7_getsByAsking_187 (by decide) rfl (L' := [some (aO 21 0), some (aO 28 p), some (aI v), some (aI l3), some (aI l4), some (aI l5), some (aI x1), none, none]) rfl ?_
    refine aIconst (pc' := 190) ⟨by decide, by decide⟩ dX7_getsByAsking_189 rfl ?_
    refine aIstore (pc' := 192) dX7_getsByAsking_190 (by decide) rfl (L' := [some (aO 21 0), some (aO 28 p), some (aI v), some (aI l3), some (aI l4), some (aI l5), some (aI x1), some (aI 0), none]) rfl ?_
    exact hw
  · have hw := hw.2 hc
    refine aIload (pc' := 111) dX7_getsByAsking_109 rfl rfl ?_
    refine aIf_le (tgt := 178) (pc' := 114) dX7_getsByAsking_111 (by decide) rfl (fun hc => ?_) (fun hc => ?_)
    · have hw := hw.1 hc
      refine aAload_n (pc' := 179) dX7_getsByAsking_178 rfl rfl ?_
      refine aGetR (pc' := 182) (q := (9, 0)) dX7_getsByAsking_179 fX7_38 rfl rfl (lv (by decide)) rfl rfl ?_
      refine aIload (pc' := 184) dX7_getsByAsking_182 rfl rfl ?_
      refine cVI (c := 5) (pc' := 187) [aI l5] dX7_getsByAsking_184 lX7_198 okX5_stepsFor ⟨by decide, by decide⟩ npX5_stepsFor rfl rfl rfl rfl rfl (by decide) rfl (cMetI_mono hw (fun x4 J6 hw => ?_))
      obtain ⟨C5, rfl, hw⟩ := hw
      refine aIstore (pc' := 189) dX7_getsByAsking_187 (by decide) rfl (L' := [some (aO 21 0), some (aO 28 p), some (aI v), some (aI l3), some (aI l4), some (aI l5), some (aI x4), none, none]) rfl ?_
      refine aIconst (pc' := 190) ⟨by decide, by decide⟩ dX7_getsByAsking_189 rfl ?_
      refine aIstore (pc' := 192) dX7_getsByAsking_190 (by decide) rfl (L' := [some (aO 21 0), some (aO 28 p), some (aI v), some (aI l3), some (aI l4), some (aI l5), some (aI x4), some (aI 0), none]) rfl ?_
      exact hw
    · have hw := hw.2 hc
      refine aAload_n (pc' := 115) dX7_getsByAsking_114 rfl rfl ?_
      refine aGetR (pc' := 118) (q := (27, 0)) dX7_getsByAsking_115 fX7_20 rfl rfl (lv (by decide)) rfl rfl ?_
      refine aIload (pc' := 120) dX7_getsByAsking_118 rfl rfl ?_
      obtain ⟨h7, hw⟩ := hw
      refine aAald (pc' := 121) (j := l6) (q := (28, l6)) dX7_getsByAsking_120 (t := 5) rfl ⟨by decide, by decide⟩ (lv (by decide)) rfl h7 rfl rfl ?_
      refine aAstore (pc' := 123) dX7_getsByAsking_121 (by decide) rfl (L' := [some (aO 21 0), some (aO 28 p), some (aI v), some (aI l3), some (aI l4), some (aI l5), some (aI ((l6 : Int))), some (aO 28 l6), none]) rfl ?_
      refine aAload (pc' := 125) dX7_getsByAsking_123 rfl rfl ?_
      refine aGetI (pc' := 128) dX7_getsByAsking_125 fX7_71 rfl rfl (lv h7) rfl ?_
      refine aTopEq (y := (C 28 l6 3)) rfl ?_
      refine aIconst (pc' := 129) ⟨by decide, by decide⟩ dX7_getsByAsking_128 rfl ?_
      refine aIcmp_ne (tgt := 149) (pc' := 132) dX7_getsByAsking_129 (by decide) rfl (fun hc => ?_) (fun hc => ?_)
      · have hw := hw.1 hc
        refine aIconst (pc' := 150) ⟨by decide, by decide⟩ dX7_getsByAsking_149 rfl ?_
        refine aIstore (pc' := 152) dX7_getsByAsking_150 (by decide) rfl (L' := [some (aO 21 0), some (aO 28 p), some (aI v), some (aI l3), some (aI l4), some (aI l5), some (aI ((l6 : Int))), some (aO 28 l6), some (aI 0)]) rfl ?_
        refine aIload (pc' := 154) dX7_getsByAsking_152 rfl rfl ?_
        refine aIf_le (tgt := 172) (pc' := 157) dX7_getsByAsking_154 (by decide) rfl (fun hc => ?_) (fun hc => ?_)
        · obtain ⟨h8, hw⟩ := hw
          refine aIinc1 (pc' := 175) dX7_getsByAsking_172 rfl (by decide) h8 rfl (L' := [some (aO 21 0), some (aO 28 p), some (aI v), some (aI l3), some (aI l4), some (aI l5), some (aI ((((l6 + 1) : Nat) : Int))), some (aO 28 l6), some (aI 0)]) rfl ?_
          refine aGoto (pc' := 100) dX7_getsByAsking_175 (by decide) ?_
          exact aDrop [7, 8] (L' := [some (aO 21 0), some (aO 28 p), some (aI v), some (aI l3), some (aI l4), some (aI l5), some (aI ((((l6 + 1) : Nat) : Int))), none, none]) rfl hw
        · exact absurd hc (by decide)
      · have hw := hw.2 hc
        refine aAload (pc' := 134) dX7_getsByAsking_132 rfl rfl ?_
        refine aAload_n (pc' := 135) dX7_getsByAsking_134 rfl rfl ?_
        refine aGetR (pc' := 138) (q := (9, 0)) dX7_getsByAsking_135 fX7_38 rfl rfl (lv (by decide)) rfl rfl ?_
        refine cVI (c := 2) (pc' := 141) [aO 9 0] dX7_getsByAsking_138 lX7_207 okX2_spare ⟨by decide, by decide⟩ npX2_spare rfl rfl rfl rfl rfl h7 rfl (cMetI_mono hw (fun x9 J11 hw => ?_))
        obtain ⟨C10, rfl, hw⟩ := hw
        refine aIload (pc' := 143) dX7_getsByAsking_141 rfl rfl ?_
        refine aMin (pc' := 146) dX7_getsByAsking_143 lX7_152 rfl rfl (Nat.le_refl _) (Nat.le_refl _) rfl ?_
        refine aGoto (pc' := 150) dX7_getsByAsking_146 (by decide) ?_
        refine aIstore (pc' := 152) dX7_getsByAsking_150 (by decide) rfl (L' := [some (aO 21 0), some (aO 28 p), some (aI v), some (aI l3), some (aI l4), some (aI l5), some (aI ((l6 : Int))), some (aO 28 l6), some (aI ((min x9 l5)))]) rfl ?_
        refine aIload (pc' := 154) dX7_getsByAsking_152 rfl rfl ?_
        refine aIf_le (tgt := 172) (pc' := 157) dX7_getsByAsking_154 (by decide) rfl (fun hc => ?_) (fun hc => ?_)
        · have hw := hw.1 hc
          obtain ⟨h12, hw⟩ := hw
          refine aIinc1 (pc' := 175) dX7_getsByAsking_172 rfl (by decide) h12 rfl (L' := [some (aO 21 0), some (aO 28 p), some (aI v), some (aI l3), some (aI l4), some (aI l5), some (aI ((((l6 + 1) : Nat) : Int))), some (aO 28 l6), some (aI ((min x9 l5)))]) rfl ?_
          refine aGoto (pc' := 100) dX7_getsByAsking_175 (by decide) ?_
          exact aDrop [7, 8] (L' := [some (aO 21 0), some (aO 28 p), some (aI v), some (aI l3), some (aI l4), some (aI l5), some (aI ((((l6 + 1) : Nat) : Int))), none, none]) rfl hw
        · have hw := hw.2 hc
          refine aAload_n (pc' := 158) dX7_getsByAsking_157 rfl rfl ?_
          refine aAload (pc' := 160) dX7_getsByAsking_158 rfl rfl ?_
          refine aIload (pc' := 162) dX7_getsByAsking_160 rfl rfl ?_
          refine cVV (c := 7) (pc' := 165) [aO 28 l6, aI ((min x9 l5))] dX7_getsByAsking_162 lX7_211 okX7_give ⟨by decide, by decide⟩ npX7_give rfl rfl rfl rfl rfl (by decide) rfl (cMetV_mono hw (fun J15 hw => ?_))
          obtain ⟨C14, rfl, hw⟩ := hw
          refine aIload (pc' := 167) dX7_getsByAsking_165 rfl rfl ?_
          refine aIload (pc' := 169) dX7_getsByAsking_167 rfl rfl ?_
          obtain ⟨h16, hw⟩ := hw
          refine aIsub (pc' := 170) h16.1 h16.2 dX7_getsByAsking_169 rfl ?_
          refine aIstore (pc' := 172) dX7_getsByAsking_170 (by decide) rfl (L' := [some (aO 21 0), some (aO 28 p), some (aI v), some (aI l3), some (aI l4), some (aI ((l5 - (min x9 l5)))), some (aI ((l6 : Int))), some (aO 28 l6), some (aI ((min x9 l5)))]) rfl ?_
          obtain ⟨h17, hw⟩ := hw
          refine aIinc1 (pc' := 175) dX7_getsByAsking_172 rfl (by decide) h17 rfl (L' := [some (aO 21 0), some (aO 28 p), some (aI v), some (aI l3), some (aI l4), some (aI ((l5 - (min x9 l5)))), some (aI ((((l6 + 1) : Nat) : Int))), some (aO 28 l6), some (aI ((min x9 l5)))]) rfl ?_
          refine aGoto (pc' := 100) dX7_getsByAsking_175 (by decide) ?_
          exact aDrop [7, 8] (L' := [some (aO 21 0), some (aO 28 p), some (aI v), some (aI l3), some (aI l4), some (aI ((l5 - (min x9 l5)))), some (aI ((((l6 + 1) : Nat) : Int))), none, none]) rfl hw
set_option maxRecDepth 100000 in
set_option maxHeartbeats 4000000 in
theorem gX7_getsByAsking_192 {w : aW} {mm : Nat} {C : aIF} {S : aS} {p : Nat} {v : Int} {l3 : Int} {l4 : Int} {l5 : Int} {l6 : Int} {l7 : Nat} {P : Int → aIF → Prop} (hp : p < 6) (hw : ((l6 ≤ (l7 : Int)) → (-2147483648 ≤ ((C 28 p 4) + l3) ∧ ((C 28 p 4) + l3) < 2147483648) ∧ (kMetV w mX4_add [aO 22 0, aI ((C 21 0 5)), aI ((C 28 p 1)), aI 1, aI l3] (uI C 28 p 4 (((C 28 p 4) + l3))) S (rf mm) (fun C3 => P 1 C3))) ∧ ((¬ (l6 ≤ (l7 : Int))) → kMetI w mX7_whoSparesMost [aO 21 0, aO 28 p] C S (rf mm) (fun x5 C6 => ((x5 = (-1)) → (l7 + 1 < 2147483648) ∧ (kRunI w mX7_getsByAsking 192 [some (aO 21 0), some (aO 28 p), some (aI v), some (aI l3), some (aI l4), some (aI l5), some (aI l6), some (aI ((((l7 + 1) : Nat) : Int))), none] [] C6 S (rf mm) P)) ∧ ((¬ (x5 = (-1))) → (0 ≤ x5 ∧ x5 < ((6 : Nat) : Int)) ∧ (kMetV w mX7_give [aO 21 0, aO 28 ((x5).toNat), aI ((C6 9 0 0))] C6 S (rf mm) (fun C11 => (l7 + 1 < 2147483648) ∧ (kRunI w mX7_getsByAsking 192 [some (aO 21 0), some (aO 28 p), some (aI v), some (aI l3), some (aI l4), some (aI l5), some (aI l6), some (aI ((((l7 + 1) : Nat) : Int))), none] [] C11 S (rf mm) P))))))) : kRunI w mX7_getsByAsking 192 [some (aO 21 0), some (aO 28 p), some (aI v), some (aI l3), some (aI l4), some (aI l5), some (aI l6), some (aI ((l7 : Int))), none] [] C S (rf mm) P := by
  refine aIload (pc' := 194) dX7_getsByAsking_192 rfl rfl ?_
  refine aIload (pc' := 196) dX7_getsByAsking_194 rfl rfl ?_
  refine aIcmp_ge (tgt := 236) (pc' := 199) dX7_getsByAsking_196 (by decide) rfl (fun hc => ?_) (fun hc => ?_)
  · have hw := hw.1 hc
    refine aAload_n (pc' := 237) dX7_getsByAsking_236 rfl rfl ?_
    refine aDup (pc' := 238) rfl dX7_getsByAsking_237 rfl ?_
    refine aGetI (pc' := 241) dX7_getsByAsking_238 fX7_143 rfl rfl (lv hp) rfl ?_
    refine aTopEq (y := (C 28 p 4)) rfl ?_
    refine aIload_n (pc' := 242) dX7_getsByAsking_241 rfl rfl ?_
    obtain ⟨h1, hw⟩ := hw
    refine aIadd (pc' := 243) h1.1 h1.2 dX7_getsByAsking_242 rfl ?_
    refine aPutI (pc' := 246) dX7_getsByAsking_243 fX7_143 rfl rfl (Or.inl rfl) (lv hp) rfl (cEqI (mK rfl) ?_)
    refine aAload_n (pc' := 247) dX7_getsByAsking_246 rfl rfl ?_
    refine aGetR (pc' := 250) (q := (22, 0)) dX7_getsByAsking_247 fX7_12 rfl rfl (lv (by decide)) rfl rfl ?_
    refine aAload_n (pc' := 251) dX7_getsByAsking_250 rfl rfl ?_
    refine aGetI (pc' := 254) dX7_getsByAsking_251 fX7_32 rfl rfl (lv (by decide)) rfl ?_
    refine aTopEq (y := ((uI C 28 p 4 (((C 28 p 4) + l3))) 21 0 5)) rfl ?_
    refine aTopEq (uI_k rfl) ?_
    refine aAload_n (pc' := 255) dX7_getsByAsking_254 rfl rfl ?_
    refine aGetI (pc' := 258) dX7_getsByAsking_255 fX7_155 rfl rfl (lv hp) rfl ?_
    refine aTopEq (y := ((uI C 28 p 4 (((C 28 p 4) + l3))) 28 p 1)) rfl ?_
    refine aTopEq (uI_j rfl) ?_
    refine aIconst (pc' := 259) ⟨by decide, by decide⟩ dX7_getsByAsking_258 rfl ?_
    refine aIload_n (pc' := 260) dX7_getsByAsking_259 rfl rfl ?_
    refine cVV (c := 4) (pc' := 263) [aI ((C 21 0 5)), aI ((C 28 p 1)), aI 1, aI l3] dX7_getsByAsking_260 lX7_158 okX4_add ⟨by decide, by decide⟩ npX4_add rfl rfl rfl rfl rfl (by decide) rfl (cMetV_mono hw (fun J4 hw => ?_))
    obtain ⟨C3, rfl, hw⟩ := hw
    refine aIconst (pc' := 264) ⟨by decide, by decide⟩ dX7_getsByAsking_263 rfl ?_
    exact cZret dX7_getsByAsking_264 okX7_getsByAsking rfl (by decide) ⟨rfl, _, rfl, _, rfl, hw⟩
  · have hw := hw.2 hc
    refine aAload_n (pc' := 200) dX7_getsByAsking_199 rfl rfl ?_
    refine aAload_n (pc' := 201) dX7_getsByAsking_200 rfl rfl ?_
    refine cVI (c := 7) (pc' := 204) [aO 28 p] dX7_getsByAsking_201 lX7_215 okX7_whoSparesMost ⟨by decide, by decide⟩ npX7_whoSparesMost rfl rfl rfl rfl rfl (by decide) rfl (cMetI_mono hw (fun x5 J7 hw => ?_))
    obtain ⟨C6, rfl, hw⟩ := hw
    refine aIstore (pc' := 206) dX7_getsByAsking_204 (by decide) rfl (L' := [some (aO 21 0), some (aO 28 p), some (aI v), some (aI l3), some (aI l4), some (aI l5), some (aI l6), some (aI ((l7 : Int))), some (aI x5)]) rfl ?_
    refine aIload (pc' := 208) dX7_getsByAsking_206 rfl rfl ?_
    refine aIconst (pc' := 209) ⟨by decide, by decide⟩ dX7_getsByAsking_208 rfl ?_
    refine aIcmp_eq (tgt := 230) (pc' := 212) dX7_getsByAsking_209 (by decide) rfl (fun hc => ?_) (fun hc => ?_)
    · have hw := hw.1 hc
      obtain ⟨h8, hw⟩ := hw
      refine aIinc1 (pc' := 233) dX7_getsByAsking_230 rfl (by decide) h8 rfl (L' := [some (aO 21 0), some (aO 28 p), some (aI v), some (aI l3), some (aI l4), some (aI l5), some (aI l6), some (aI ((((l7 + 1) : Nat) : Int))), some (aI x5)]) rfl ?_
      refine aGoto (pc' := 192) dX7_getsByAsking_233 (by decide) ?_
      exact aDrop [8] (L' := [some (aO 21 0), some (aO 28 p), some (aI v), some (aI l3), some (aI l4), some (aI l5), some (aI l6), some (aI ((((l7 + 1) : Nat) : Int))), none]) rfl hw
    · have hw := hw.2 hc
      refine aAload_n (pc' := 213) dX7_getsByAsking_212 rfl rfl ?_
      refine aAload_n (pc' := 214) dX7_getsByAsking_213 rfl rfl ?_
      refine aGetR (pc' := 217) (q := (27, 0)) dX7_getsByAsking_214 fX7_20 rfl rfl (lv (by decide)) rfl rfl ?_
      refine aIload (pc' := 219) dX7_getsByAsking_217 rfl rfl ?_
      obtain ⟨h9, hw⟩ := hw
      refine aAald (pc' := 220) (j := (x5).toNat) (q := (28, (x5).toNat)) dX7_getsByAsking_219 (t := 5) rfl ⟨by decide, by decide⟩ (lv (by decide)) (tnIx h9).1 (tnIx h9).2 rfl rfl ?_
      refine aAload_n (pc' := 221) dX7_getsByAsking_220 rfl rfl ?_
      refine aGetR (pc' := 224) (q := (9, 0)) dX7_getsByAsking_221 fX7_38 rfl rfl (lv (by decide)) rfl rfl ?_
      refine aGetI (pc' := 227) dX7_getsByAsking_224 fX7_53 rfl rfl (lv (by decide)) rfl ?_
      refine aTopEq (y := (C6 9 0 0)) rfl ?_
      refine cVV (c := 7) (pc' := 230) [aO 28 ((x5).toNat), aI ((C6 9 0 0))] dX7_getsByAsking_227 lX7_211 okX7_give ⟨by decide, by decide⟩ npX7_give rfl rfl rfl rfl rfl (by decide) rfl (cMetV_mono hw (fun J12 hw => ?_))
      obtain ⟨C11, rfl, hw⟩ := hw
      obtain ⟨h13, hw⟩ := hw
      refine aIinc1 (pc' := 233) dX7_getsByAsking_230 rfl (by decide) h13 rfl (L' := [some (aO 21 0), some (aO 28 p), some (aI v), some (aI l3), some (aI l4), some (aI l5), some (aI l6), some (aI ((((l7 + 1) : Nat) : Int))), some (aI x5)]) rfl ?_
      refine aGoto (pc' := 192) dX7_getsByAsking_233 (by decide) ?_
      exact aDrop [8] (L' := [some (aO 21 0), some (aO 28 p), some (aI v), some (aI l3), some (aI l4), some (aI l5), some (aI l6), some (aI ((((l7 + 1) : Nat) : Int))), none]) rfl hw
set_option maxRecDepth 100000 in
set_option maxHeartbeats 4000000 in
theorem gX7_give {w : aW} {mm : Nat} {C : aIF} {S : aS} {p1 : Nat} {p2 : Int} {P : aIF → Prop} (hp1 : p1 < 6) (hmp1 : p1 < mm) (hw : (-2147483648 ≤ ((C 28 p1 4) - p2) ∧ ((C 28 p1 4) - p2) < 2147483648) ∧ (kMetI w mX1_holds [aO 6 p1, aI (((C 28 p1 4) - p2))] C S (rf mm) (fun x2 C3 => (((C 28 p1 5) ≤ x2) → (-2147483648 ≤ ((C3 28 p1 4) - p2) ∧ ((C3 28 p1 4) - p2) < 2147483648) ∧ (kMetV w mX4_add [aO 22 0, aI ((C3 21 0 5)), aI ((C3 28 p1 1)), aI 3, aI p2] (uI C3 28 p1 4 (((C3 28 p1 4) - p2))) S (rf mm) (fun C7 => P C7))) ∧ ((¬ ((C 28 p1 5) ≤ x2)) → kMetI w mX7_collect [aO 21 0, aO 28 p1] C3 S (rf mm) (fun x9 C10 => (((C10 28 p1 3) = 2) → (-2147483648 ≤ ((C10 28 p1 4) - p2) ∧ ((C10 28 p1 4) - p2) < 2147483648) ∧ (kMetV w mX4_add [aO 22 0, aI ((C10 21 0 5)), aI ((C10 28 p1 1)), aI 3, aI p2] (uI C10 28 p1 4 (((C10 28 p1 4) - p2))) S (rf mm) (fun C14 => P C14))) ∧ ((¬ ((C10 28 p1 3) = 2)) → (-2147483648 ≤ ((C10 28 p1 11) + x9) ∧ ((C10 28 p1 11) + x9) < 2147483648) ∧ (kMetV w mX2_waitFor [aO 28 p1, aI (((C10 28 p1 11) + x9)), aI 1] C10 S (rf mm) (fun C18 => (-2147483648 ≤ ((C18 28 p1 4) - p2) ∧ ((C18 28 p1 4) - p2) < 2147483648) ∧ (kMetV w mX4_add [aO 22 0, aI ((C18 21 0 5)), aI ((C18 28 p1 1)), aI 3, aI p2] (uI C18 28 p1 4 (((C18 28 p1 4) - p2))) S (rf mm) (fun C22 => P C22)))))))))) : kMetV w mX7_give [aO 21 0, aO 28 p1, aI p2] C S (rf mm) P := by
  refine cMet_of okX7_give (Nat.le_of_ble_eq_true rfl) (fun hos => ?_)
  show cRun w mX7_give 0 [some (aO 21 0), some (aO 28 p1), some (aI p2), none] [] (mem C S) (rf mm) (kqV (rf mm) S P)
  refine aAload_n (pc' := 1) dX7_give_0 rfl rfl ?_
  refine aGetI (pc' := 4) dX7_give_1 fX7_116 rfl rfl (lv hp1) rfl ?_
  refine aTopEq (y := (C 28 p1 5)) rfl ?_
  refine aAload_n (pc' := 5) dX7_give_4 rfl rfl ?_
  refine aGetR (pc' := 8) (q := (6, p1)) dX7_give_5 fX7_165 rfl rfl (lv hp1) (rf_p hmp1) rfl ?_
  refine aAload_n (pc' := 9) dX7_give_8 rfl rfl ?_
  refine aGetI (pc' := 12) dX7_give_9 fX7_143 rfl rfl (lv hp1) rfl ?_
  refine aTopEq (y := (C 28 p1 4)) rfl ?_
  refine aIload_n (pc' := 13) dX7_give_12 rfl rfl ?_
  obtain ⟨h1, hw⟩ := hw
  refine aIsub (pc' := 14) h1.1 h1.2 dX7_give_13 rfl ?_
  refine cVI (c := 1) (pc' := 17) [aI (((C 28 p1 4) - p2))] dX7_give_14 lX7_218 okX1_holds ⟨by decide, by decide⟩ npX1_holds rfl rfl rfl rfl rfl hp1 rfl (cMetI_mono hw (fun x2 J4 hw => ?_))
  obtain ⟨C3, rfl, hw⟩ := hw
  refine aIcmp_le (tgt := 45) (pc' := 20) dX7_give_17 (by decide) rfl (fun hc => ?_) (fun hc => ?_)
  · have hw := hw.1 hc
    refine aAload_n (pc' := 46) dX7_give_45 rfl rfl ?_
    refine aDup (pc' := 47) rfl dX7_give_46 rfl ?_
    refine aGetI (pc' := 50) dX7_give_47 fX7_143 rfl rfl (lv hp1) rfl ?_
    refine aTopEq (y := (C3 28 p1 4)) rfl ?_
    refine aIload_n (pc' := 51) dX7_give_50 rfl rfl ?_
    obtain ⟨h5, hw⟩ := hw
    refine aIsub (pc' := 52) h5.1 h5.2 dX7_give_51 rfl ?_
    refine aPutI (pc' := 55) dX7_give_52 fX7_143 rfl rfl (Or.inl rfl) (lv hp1) rfl (cEqI (mK rfl) ?_)
    refine aAload_n (pc' := 56) dX7_give_55 rfl rfl ?_
    refine aGetR (pc' := 59) (q := (22, 0)) dX7_give_56 fX7_12 rfl rfl (lv (by decide)) rfl rfl ?_
    refine aAload_n (pc' := 60) dX7_give_59 rfl rfl ?_
    refine aGetI (pc' := 63) dX7_give_60 fX7_32 rfl rfl (lv (by decide)) rfl ?_
    refine aTopEq (y := ((uI C3 28 p1 4 (((C3 28 p1 4) - p2))) 21 0 5)) rfl ?_
    refine aTopEq (uI_k rfl) ?_
    refine aAload_n (pc' := 64) dX7_give_63 rfl rfl ?_
    refine aGetI (pc' := 67) dX7_give_64 fX7_155 rfl rfl (lv hp1) rfl ?_
    refine aTopEq (y := ((uI C3 28 p1 4 (((C3 28 p1 4) - p2))) 28 p1 1)) rfl ?_
    refine aTopEq (uI_j rfl) ?_
    refine aIconst (pc' := 68) ⟨by decide, by decide⟩ dX7_give_67 rfl ?_
    refine aIload_n (pc' := 69) dX7_give_68 rfl rfl ?_
    refine cVV (c := 4) (pc' := 72) [aI ((C3 21 0 5)), aI ((C3 28 p1 1)), aI 3, aI p2] dX7_give_69 lX7_158 okX4_add ⟨by decide, by decide⟩ npX4_add rfl rfl rfl rfl rfl (by decide) rfl (cMetV_mono hw (fun J8 hw => ?_))
    obtain ⟨C7, rfl, hw⟩ := hw
    exact cVret dX7_give_72 okX7_give rfl ⟨rfl, rfl, _, rfl, hw⟩
  · have hw := hw.2 hc
    refine aAload_n (pc' := 21) dX7_give_20 rfl rfl ?_
    refine aAload_n (pc' := 22) dX7_give_21 rfl rfl ?_
    refine cVI (c := 7) (pc' := 25) [aO 28 p1] dX7_give_22 lX7_122 okX7_collect ⟨by decide, by decide⟩ npX7_collect rfl rfl rfl rfl rfl (by decide) rfl (cMetI_mono hw (fun x9 J11 hw => ?_))
    obtain ⟨C10, rfl, hw⟩ := hw
    refine aIstore_n (pc' := 26) dX7_give_25 (by decide) rfl (L' := [some (aO 21 0), some (aO 28 p1), some (aI p2), some (aI x9)]) rfl ?_
    refine aAload_n (pc' := 27) dX7_give_26 rfl rfl ?_
    refine aGetI (pc' := 30) dX7_give_27 fX7_71 rfl rfl (lv hp1) rfl ?_
    refine aTopEq (y := (C10 28 p1 3)) rfl ?_
    refine aIconst (pc' := 31) ⟨by decide, by decide⟩ dX7_give_30 rfl ?_
    refine aIcmp_eq (tgt := 45) (pc' := 34) dX7_give_31 (by decide) rfl (fun hc => ?_) (fun hc => ?_)
    · have hw := hw.1 hc
      refine aAload_n (pc' := 46) dX7_give_45 rfl rfl ?_
      refine aDup (pc' := 47) rfl dX7_give_46 rfl ?_
      refine aGetI (pc' := 50) dX7_give_47 fX7_143 rfl rfl (lv hp1) rfl ?_
      refine aTopEq (y := (C10 28 p1 4)) rfl ?_
      refine aIload_n (pc' := 51) dX7_give_50 rfl rfl ?_
      obtain ⟨h12, hw⟩ := hw
      refine aIsub (pc' := 52) h12.1 h12.2 dX7_give_51 rfl ?_
      refine aPutI (pc' := 55) dX7_give_52 fX7_143 rfl rfl (Or.inl rfl) (lv hp1) rfl (cEqI (mK rfl) ?_)
      refine aAload_n (pc' := 56) dX7_give_55 rfl rfl ?_
      refine aGetR (pc' := 59) (q := (22, 0)) dX7_give_56 fX7_12 rfl rfl (lv (by decide)) rfl rfl ?_
      refine aAload_n (pc' := 60) dX7_give_59 rfl rfl ?_
      refine aGetI (pc' := 63) dX7_give_60 fX7_32 rfl rfl (lv (by decide)) rfl ?_
      refine aTopEq (y := ((uI C10 28 p1 4 (((C10 28 p1 4) - p2))) 21 0 5)) rfl ?_
      refine aTopEq (uI_k rfl) ?_
      refine aAload_n (pc' := 64) dX7_give_63 rfl rfl ?_
      refine aGetI (pc' := 67) dX7_give_64 fX7_155 rfl rfl (lv hp1) rfl ?_
      refine aTopEq (y := ((uI C10 28 p1 4 (((C10 28 p1 4) - p2))) 28 p1 1)) rfl ?_
      refine aTopEq (uI_j rfl) ?_
      refine aIconst (pc' := 68) ⟨by decide, by decide⟩ dX7_give_67 rfl ?_
      refine aIload_n (pc' := 69) dX7_give_68 rfl rfl ?_
      refine cVV (c := 4) (pc' := 72) [aI ((C10 21 0 5)), aI ((C10 28 p1 1)), aI 3, aI p2] dX7_give_69 lX7_158 okX4_add ⟨by decide, by decide⟩ npX4_add rfl rfl rfl rfl rfl (by decide) rfl (cMetV_mono hw (fun J15 hw => ?_))
      obtain ⟨C14, rfl, hw⟩ := hw
      exact cVret dX7_give_72 okX7_give rfl ⟨rfl, rfl, _, rfl, hw⟩
    · have hw := hw.2 hc
      refine aAload_n (pc' := 35) dX7_give_34 rfl rfl ?_
      refine aAload_n (pc' := 36) dX7_give_35 rfl rfl ?_
      refine aGetI (pc' := 39) dX7_give_36 fX7_86 rfl rfl (lv hp1) rfl ?_
      refine aTopEq (y := (C10 28 p1 11)) rfl ?_
      refine aIload_n (pc' := 40) dX7_give_39 rfl rfl ?_
      obtain ⟨h16, hw⟩ := hw
      refine aIadd (pc' := 41) h16.1 h16.2 dX7_give_40 rfl ?_
      refine aIconst (pc' := 42) ⟨by decide, by decide⟩ dX7_give_41 rfl ?_
      refine cVV (c := 2) (pc' := 45) [aI (((C10 28 p1 11) + x9)), aI 1] dX7_give_42 lX7_89 okX2_waitFor ⟨by decide, by decide⟩ npX2_waitFor rfl rfl rfl rfl rfl hp1 rfl (cMetV_mono hw (fun J19 hw => ?_))
      obtain ⟨C18, rfl, hw⟩ := hw
      refine aAload_n (pc' := 46) dX7_give_45 rfl rfl ?_
      refine aDup (pc' := 47) rfl dX7_give_46 rfl ?_
      refine aGetI (pc' := 50) dX7_give_47 fX7_143 rfl rfl (lv hp1) rfl ?_
      refine aTopEq (y := (C18 28 p1 4)) rfl ?_
      refine aIload_n (pc' := 51) dX7_give_50 rfl rfl ?_
      obtain ⟨h20, hw⟩ := hw
      refine aIsub (pc' := 52) h20.1 h20.2 dX7_give_51 rfl ?_
      refine aPutI (pc' := 55) dX7_give_52 fX7_143 rfl rfl (Or.inl rfl) (lv hp1) rfl (cEqI (mK rfl) ?_)
      refine aAload_n (pc' := 56) dX7_give_55 rfl rfl ?_
      refine aGetR (pc' := 59) (q := (22, 0)) dX7_give_56 fX7_12 rfl rfl (lv (by decide)) rfl rfl ?_
      refine aAload_n (pc' := 60) dX7_give_59 rfl rfl ?_
      refine aGetI (pc' := 63) dX7_give_60 fX7_32 rfl rfl (lv (by decide)) rfl ?_
      refine aTopEq (y := ((uI C18 28 p1 4 (((C18 28 p1 4) - p2))) 21 0 5)) rfl ?_
      refine aTopEq (uI_k rfl) ?_
      refine aAload_n (pc' := 64) dX7_give_63 rfl rfl ?_
      refine aGetI (pc' := 67) dX7_give_64 fX7_155 rfl rfl (lv hp1) rfl ?_
      refine aTopEq (y := ((uI C18 28 p1 4 (((C18 28 p1 4) - p2))) 28 p1 1)) rfl ?_
      refine aTopEq (uI_j rfl) ?_
      refine aIconst (pc' := 68) ⟨by decide, by decide⟩ dX7_give_67 rfl ?_
      refine aIload_n (pc' := 69) dX7_give_68 rfl rfl ?_
      refine cVV (c := 4) (pc' := 72) [aI ((C18 21 0 5)), aI ((C18 28 p1 1)), aI 3, aI p2] dX7_give_69 lX7_158 okX4_add ⟨by decide, by decide⟩ npX4_add rfl rfl rfl rfl rfl (by decide) rfl (cMetV_mono hw (fun J23 hw => ?_))
      obtain ⟨C22, rfl, hw⟩ := hw
      exact cVret dX7_give_72 okX7_give rfl ⟨rfl, rfl, _, rfl, hw⟩
set_option maxRecDepth 100000 in
set_option maxHeartbeats 4000000 in
theorem gX7_leave {w : aW} {mm : Nat} {C : aIF} {S : aS} {p1 : Nat} {p2 : Int} {p3 : Int} {P : aIF → Prop} (hp1 : p1 < 6) (hw : kMetI w mX2_leave [aO 28 p1, aI p2, aI ((C 21 0 5))] C S (rf mm) (fun x1 C2 => (-2147483648 ≤ ((C2 21 0 6) + x1) ∧ ((C2 21 0 6) + x1) < 2147483648) ∧ (kMetV w mX4_add [aO 22 0, aI ((C2 21 0 5)), aI ((C2 28 p1 1)), aI p3, aI x1] (uI C2 21 0 6 (((C2 21 0 6) + x1))) S (rf mm) (fun C6 => P C6)))) : kMetV w mX7_leave [aO 21 0, aO 28 p1, aI p2, aI p3] C S (rf mm) P := by
  refine cMet_of okX7_leave (Nat.le_of_ble_eq_true rfl) (fun hos => ?_)
  show cRun w mX7_leave 0 [some (aO 21 0), some (aO 28 p1), some (aI p2), some (aI p3), none] [] (mem C S) (rf mm) (kqV (rf mm) S P)
  refine aAload_n (pc' := 1) dX7_leave_0 rfl rfl ?_
  refine aIload_n (pc' := 2) dX7_leave_1 rfl rfl ?_
  refine aAload_n (pc' := 3) dX7_leave_2 rfl rfl ?_
  refine aGetI (pc' := 6) dX7_leave_3 fX7_32 rfl rfl (lv (by decide)) rfl ?_
  refine aTopEq (y := (C 21 0 5)) rfl ?_
  refine cVI (c := 2) (pc' := 9) [aI p2, aI ((C 21 0 5))] dX7_leave_6 lX7_189 okX2_leave ⟨by decide, by decide⟩ npX2_leave rfl rfl rfl rfl rfl hp1 rfl (cMetI_mono hw (fun x1 J3 hw => ?_))
  obtain ⟨C2, rfl, hw⟩ := hw
  refine aIstore (pc' := 11) dX7_leave_9 (by decide) rfl (L' := [some (aO 21 0), some (aO 28 p1), some (aI p2), some (aI p3), some (aI x1)]) rfl ?_
  refine aAload_n (pc' := 12) dX7_leave_11 rfl rfl ?_
  refine aDup (pc' := 13) rfl dX7_leave_12 rfl ?_
  refine aGetI (pc' := 16) dX7_leave_13 fX7_35 rfl rfl (lv (by decide)) rfl ?_
  refine aTopEq (y := (C2 21 0 6)) rfl ?_
  refine aIload (pc' := 18) dX7_leave_16 rfl rfl ?_
  obtain ⟨h4, hw⟩ := hw
  refine aIadd (pc' := 19) h4.1 h4.2 dX7_leave_18 rfl ?_
  refine aPutI (pc' := 22) dX7_leave_19 fX7_35 rfl rfl (Or.inl rfl) (lv (by decide)) rfl (cEqI (mK rfl) ?_)
  refine aAload_n (pc' := 23) dX7_leave_22 rfl rfl ?_
  refine aGetR (pc' := 26) (q := (22, 0)) dX7_leave_23 fX7_12 rfl rfl (lv (by decide)) rfl rfl ?_
  refine aAload_n (pc' := 27) dX7_leave_26 rfl rfl ?_
  refine aGetI (pc' := 30) dX7_leave_27 fX7_32 rfl rfl (lv (by decide)) rfl ?_
  refine aTopEq (y := ((uI C2 21 0 6 (((C2 21 0 6) + x1))) 21 0 5)) rfl ?_
  refine aTopEq (uI_j rfl) ?_
  refine aAload_n (pc' := 31) dX7_leave_30 rfl rfl ?_
  refine aGetI (pc' := 34) dX7_leave_31 fX7_155 rfl rfl (lv hp1) rfl ?_
  refine aTopEq (y := ((uI C2 21 0 6 (((C2 21 0 6) + x1))) 28 p1 1)) rfl ?_
  refine aTopEq (uI_k rfl) ?_
  refine aIload_n (pc' := 35) dX7_leave_34 rfl rfl ?_
  refine aIload (pc' := 37) dX7_leave_35 rfl rfl ?_
  refine cVV (c := 4) (pc' := 40) [aI ((C2 21 0 5)), aI ((C2 28 p1 1)), aI p3, aI x1] dX7_leave_37 lX7_158 okX4_add ⟨by decide, by decide⟩ npX4_add rfl rfl rfl rfl rfl (by decide) rfl (cMetV_mono hw (fun J7 hw => ?_))
  obtain ⟨C6, rfl, hw⟩ := hw
  exact cVret dX7_leave_40 okX7_leave rfl ⟨rfl, rfl, _, rfl, hw⟩
set_option maxRecDepth 100000 in
set_option maxHeartbeats 4000000 in
theorem gX7_movesStep {w : aW} {mm : Nat} {C : aIF} {S : aS} {P : Int → aIF → Prop} (hw : kMetI w mX7_whoGainsMost [aO 21 0] C S (rf mm) (fun x1 C2 => ((x1 ≠ (-1)) → (-2147483648 ≤ ((C2 9 0 2) + (C2 9 0 0)) ∧ ((C2 9 0 2) + (C2 9 0 0)) < 2147483648) ∧ ((((C2 21 0 6) < ((C2 9 0 2) + (C2 9 0 0))) → kMetI w mX7_whoLosesLeast [aO 21 0, aI x1] C2 S (rf mm) (fun x5 C6 => ((x5 = (-1)) → P 0 C6) ∧ ((¬ (x5 = (-1))) → (0 ≤ x5 ∧ x5 < ((6 : Nat) : Int)) ∧ (kMetL w mX2_loss [aO 28 ((x5).toNat), aO 9 0] C6 S (rf mm) (fun x9 C10 => (0 ≤ x1 ∧ x1 < ((6 : Nat) : Int)) ∧ (kMetL w mX2_gain [aO 28 ((x1).toNat), aO 9 0] C10 S (rf mm) (fun x13 C14 => ((x9 < x13) → kMetV w mX7_give [aO 21 0, aO 28 ((x5).toNat), aI ((C14 9 0 0))] C14 S (rf mm) (fun C17 => (-2147483648 ≤ ((C17 28 ((x1).toNat) 4) + (C17 9 0 0)) ∧ ((C17 28 ((x1).toNat) 4) + (C17 9 0 0)) < 2147483648) ∧ (kMetV w mX4_add [aO 22 0, aI ((C17 21 0 5)), aI x1, aI 8, aI ((C17 9 0 0))] (uI C17 28 ((x1).toNat) 4 (((C17 28 ((x1).toNat) 4) + (C17 9 0 0)))) S (rf mm) (fun C21 => P 1 C21)))) ∧ ((¬ (x9 < x13)) → P 0 C14)))))))) ∧ ((¬ ((C2 21 0 6) < ((C2 9 0 2) + (C2 9 0 0)))) → (-2147483648 ≤ ((C2 21 0 6) - (C2 9 0 0)) ∧ ((C2 21 0 6) - (C2 9 0 0)) < 2147483648) ∧ ((0 ≤ x1 ∧ x1 < ((6 : Nat) : Int)) ∧ ((-2147483648 ≤ ((C2 28 ((x1).toNat) 4) + (C2 9 0 0)) ∧ ((C2 28 ((x1).toNat) 4) + (C2 9 0 0)) < 2147483648) ∧ (kMetV w mX4_add [aO 22 0, aI ((C2 21 0 5)), aI x1, aI 8, aI ((C2 9 0 0))] (uI (uI C2 21 0 6 (((C2 21 0 6) - (C2 9 0 0)))) 28 ((x1).toNat) 4 (((C2 28 ((x1).toNat) 4) + (C2 9 0 0)))) S (rf mm) (fun C27 => P 1 C27))))))) ∧ ((x1 = (-1)) → P 0 C2))) : kMetI w mX7_movesStep [aO 21 0] C S (rf mm) P := by
  refine cMet_of okX7_movesStep (Nat.le_of_ble_eq_true rfl) (fun hos => ?_)
  show cRun w mX7_movesStep 0 [some (aO 21 0), none, none] [] (mem C S) (rf mm) (kqI (rf mm) S P)
  refine aAload_n (pc' := 1) dX7_movesStep_0 rfl rfl ?_
  refine cVI (c := 7) (pc' := 4) [] dX7_movesStep_1 lX7_233 okX7_whoGainsMost ⟨by decide, by decide⟩ npX7_whoGainsMost rfl rfl rfl rfl rfl (by decide) rfl (cMetI_mono hw (fun x1 J3 hw => ?_))
  obtain ⟨C2, rfl, hw⟩ := hw
  refine aIstore_n (pc' := 5) dX7_movesStep_4 (by decide) rfl (L' := [some (aO 21 0), some (aI x1), none]) rfl ?_
  refine aIload_n (pc' := 6) dX7_movesStep_5 rfl rfl ?_
  refine aIconst (pc' := 7) ⟨by decide, by decide⟩ dX7_movesStep_6 rfl ?_
  refine aIcmp_ne (tgt := 12) (pc' := 10) dX7_movesStep_7 (by decide) rfl (fun hc => ?_) (fun hc => ?_)
  · have hw := hw.1 hc
    refine aAload_n (pc' := 13) dX7_movesStep_12 rfl rfl ?_
    refine aGetI (pc' := 16) dX7_movesStep_13 fX7_35 rfl rfl (lv (by decide)) rfl ?_
    refine aTopEq (y := (C2 21 0 6)) rfl ?_
    refine aAload_n (pc' := 17) dX7_movesStep_16 rfl rfl ?_
    refine aGetR (pc' := 20) (q := (9, 0)) dX7_movesStep_17 fX7_38 rfl rfl (lv (by decide)) rfl rfl ?_
    refine aGetI (pc' := 23) dX7_movesStep_20 fX7_236 rfl rfl (lv (by decide)) rfl ?_
    refine aTopEq (y := (C2 9 0 2)) rfl ?_
    refine aAload_n (pc' := 24) dX7_movesStep_23 rfl rfl ?_
    refine aGetR (pc' := 27) (q := (9, 0)) dX7_movesStep_24 fX7_38 rfl rfl (lv (by decide)) rfl rfl ?_
    refine aGetI (pc' := 30) dX7_movesStep_27 fX7_53 rfl rfl (lv (by decide)) rfl ?_
    refine aTopEq (y := (C2 9 0 0)) rfl ?_
    obtain ⟨h4, hw⟩ := hw
    refine aIadd (pc' := 31) h4.1 h4.2 dX7_movesStep_30 rfl ?_
    refine aIcmp_lt (tgt := 53) (pc' := 34) dX7_movesStep_31 (by decide) rfl (fun hc => ?_) (fun hc => ?_)
    · have hw := hw.1 hc
      refine aAload_n (pc' := 54) dX7_movesStep_53 rfl rfl ?_
      refine aIload_n (pc' := 55) dX7_movesStep_54 rfl rfl ?_
      refine cVI (c := 7) (pc' := 58) [aI x1] dX7_movesStep_55 lX7_239 okX7_whoLosesLeast ⟨by decide, by decide⟩ npX7_whoLosesLeast rfl rfl rfl rfl rfl (by decide) rfl (cMetI_mono hw (fun x5 J7 hw => ?_))
      obtain ⟨C6, rfl, hw⟩ := hw
      refine aIstore_n (pc' := 59) dX7_movesStep_58 (by decide) rfl (L' := [some (aO 21 0), some (aI x1), some (aI x5)]) rfl ?_
      refine aIload_n (pc' := 60) dX7_movesStep_59 rfl rfl ?_
      refine aIconst (pc' := 61) ⟨by decide, by decide⟩ dX7_movesStep_60 rfl ?_
      refine aIcmp_eq (tgt := 94) (pc' := 64) dX7_movesStep_61 (by decide) rfl (fun hc => ?_) (fun hc => ?_)
      · have hw := hw.1 hc
        refine aIconst (pc' := 95) ⟨by decide, by decide⟩ dX7_movesStep_94 rfl ?_
        exact cZret dX7_movesStep_95 okX7_movesStep rfl (by decide) ⟨rfl, _, rfl, _, rfl, hw⟩
      · have hw := hw.2 hc
        refine aAload_n (pc' := 65) dX7_movesStep_64 rfl rfl ?_
        refine aGetR (pc' := 68) (q := (27, 0)) dX7_movesStep_65 fX7_20 rfl rfl (lv (by decide)) rfl rfl ?_
        refine aIload_n (pc' := 69) dX7_movesStep_68 rfl rfl ?_
        obtain ⟨h8, hw⟩ := hw
        refine aAald (pc' := 70) (j := (x5).toNat) (q := (28, (x5).toNat)) dX7_movesStep_69 (t := 5) rfl ⟨by decide, by decide⟩ (lv (by decide)) (tnIx h8).1 (tnIx h8).2 rfl rfl ?_
        refine aAload_n (pc' := 71) dX7_movesStep_70 rfl rfl ?_
        refine aGetR (pc' := 74) (q := (9, 0)) dX7_movesStep_71 fX7_38 rfl rfl (lv (by decide)) rfl rfl ?_
        refine cVL (c := 2) (pc' := 77) [aO 9 0] dX7_movesStep_74 lX7_242 okX2_loss ⟨by decide, by decide⟩ npX2_loss rfl rfl rfl rfl rfl (tnIx h8).2 rfl (cMetL_mono hw (fun x9 J11 hw => ?_))
        obtain ⟨C10, rfl, hw⟩ := hw
        refine aAload_n (pc' := 78) dX7_movesStep_77 rfl rfl ?_
        refine aGetR (pc' := 81) (q := (27, 0)) dX7_movesStep_78 fX7_20 rfl rfl (lv (by decide)) rfl rfl ?_
        refine aIload_n (pc' := 82) dX7_movesStep_81 rfl rfl ?_
        obtain ⟨h12, hw⟩ := hw
        refine aAald (pc' := 83) (j := (x1).toNat) (q := (28, (x1).toNat)) dX7_movesStep_82 (t := 5) rfl ⟨by decide, by decide⟩ (lv (by decide)) (tnIx h12).1 (tnIx h12).2 rfl rfl ?_
        refine aAload_n (pc' := 84) dX7_movesStep_83 rfl rfl ?_
        refine aGetR (pc' := 87) (q := (9, 0)) dX7_movesStep_84 fX7_38 rfl rfl (lv (by decide)) rfl rfl ?_
        refine cVL (c := 2) (pc' := 90) [aO 9 0] dX7_movesStep_87 lX7_246 okX2_gain ⟨by decide, by decide⟩ npX2_gain rfl rfl rfl rfl rfl (tnIx h12).2 rfl (cMetL_mono hw (fun x13 J15 hw => ?_))
        obtain ⟨C14, rfl, hw⟩ := hw
        refine aLc_lt (tgt := 96) (p1 := 91) (pc' := 94) dX7_movesStep_90 rfl dX7_movesStep_91 (by decide) rfl (fun hc => ?_) (fun hc => ?_)
        · have hw := hw.1 hc
          refine aAload_n (pc' := 97) dX7_movesStep_96 rfl rfl ?_
          refine aAload_n (pc' := 98) dX7_movesStep_97 rfl rfl ?_
          refine aGetR (pc' := 101) (q := (27, 0)) dX7_movesStep_98 fX7_20 rfl rfl (lv (by decide)) rfl rfl ?_
          refine aIload_n (pc' := 102) dX7_movesStep_101 rfl rfl ?_
          refine aAald (pc' := 103) (j := (x5).toNat) (q := (28, (x5).toNat)) dX7_movesStep_102 (t := 5) rfl ⟨by decide, by decide⟩ (lv (by decide)) (tnIx h8).1 (tnIx h8).2 rfl rfl ?_
          refine aAload_n (pc' := 104) dX7_movesStep_103 rfl rfl ?_
          refine aGetR (pc' := 107) (q := (9, 0)) dX7_movesStep_104 fX7_38 rfl rfl (lv (by decide)) rfl rfl ?_
          refine aGetI (pc' := 110) dX7_movesStep_107 fX7_53 rfl rfl (lv (by decide)) rfl ?_
          refine aTopEq (y := (C14 9 0 0)) rfl ?_
          refine cVV (c := 7) (pc' := 113) [aO 28 ((x5).toNat), aI ((C14 9 0 0))] dX7_movesStep_110 lX7_211 okX7_give ⟨by decide, by decide⟩ npX7_give rfl rfl rfl rfl rfl (by decide) rfl (cMetV_mono hw (fun J18 hw => ?_))
          obtain ⟨C17, rfl, hw⟩ := hw
          refine aAload_n (pc' := 114) dX7_movesStep_113 rfl rfl ?_
          refine aGetR (pc' := 117) (q := (27, 0)) dX7_movesStep_114 fX7_20 rfl rfl (lv (by decide)) rfl rfl ?_
          refine aIload_n (pc' := 118) dX7_movesStep_117 rfl rfl ?_
          refine aAald (pc' := 119) (j := (x1).toNat) (q := (28, (x1).toNat)) dX7_movesStep_118 (t := 5) rfl ⟨by decide, by decide⟩ (lv (by decide)) (tnIx h12).1 (tnIx h12).2 rfl rfl ?_
          refine aDup (pc' := 120) rfl dX7_movesStep_119 rfl ?_
          refine aGetI (pc' := 123) dX7_movesStep_120 fX7_143 rfl rfl (lv (tnIx h12).2) rfl ?_
          refine aTopEq (y := (C17 28 ((x1).toNat) 4)) rfl ?_
          refine aAload_n (pc' := 124) dX7_movesStep_123 rfl rfl ?_
          refine aGetR (pc' := 127) (q := (9, 0)) dX7_movesStep_124 fX7_38 rfl rfl (lv (by decide)) rfl rfl ?_
          refine aGetI (pc' := 130) dX7_movesStep_127 fX7_53 rfl rfl (lv (by decide)) rfl ?_
          refine aTopEq (y := (C17 9 0 0)) rfl ?_
          obtain ⟨h19, hw⟩ := hw
          refine aIadd (pc' := 131) h19.1 h19.2 dX7_movesStep_130 rfl ?_
          refine aPutI (pc' := 134) dX7_movesStep_131 fX7_143 rfl rfl (Or.inl rfl) (lv (tnIx h12).2) rfl (cEqI (mK rfl) ?_)
          refine aAload_n (pc' := 135) dX7_movesStep_134 rfl rfl ?_
          refine aGetR (pc' := 138) (q := (22, 0)) dX7_movesStep_135 fX7_12 rfl rfl (lv (by decide)) rfl rfl ?_
          refine aAload_n (pc' := 139) dX7_movesStep_138 rfl rfl ?_
          refine aGetI (pc' := 142) dX7_movesStep_139 fX7_32 rfl rfl (lv (by decide)) rfl ?_
          refine aTopEq (y := ((uI C17 28 ((x1).toNat) 4 (((C17 28 ((x1).toNat) 4) + (C17 9 0 0)))) 21 0 5)) rfl ?_
          refine aTopEq (uI_k rfl) ?_
          refine aIload_n (pc' := 143) dX7_movesStep_142 rfl rfl ?_
          refine aBipush (pc' := 145) ⟨by decide, by decide⟩ dX7_movesStep_143 rfl ?_
          refine aAload_n (pc' := 146) dX7_movesStep_145 rfl rfl ?_
          refine aGetR (pc' := 149) (q := (9, 0)) dX7_movesStep_146 fX7_38 rfl rfl (lv (by decide)) rfl rfl ?_
          refine aGetI (pc' := 152) dX7_movesStep_149 fX7_53 rfl rfl (lv (by decide)) rfl ?_
          refine aTopEq (y := ((uI C17 28 ((x1).toNat) 4 (((C17 28 ((x1).toNat) 4) + (C17 9 0 0)))) 9 0 0)) rfl ?_
          refine aTopEq (uI_k rfl) ?_
          refine cVV (c := 4) (pc' := 155) [aI ((C17 21 0 5)), aI x1, aI 8, aI ((C17 9 0 0))] dX7_movesStep_152 lX7_158 okX4_add ⟨by decide, by decide⟩ npX4_add rfl rfl rfl rfl rfl (by decide) rfl (cMetV_mono hw (fun J22 hw => ?_))
          obtain ⟨C21, rfl, hw⟩ := hw
          refine aIconst (pc' := 156) ⟨by decide, by decide⟩ dX7_movesStep_155 rfl ?_
          exact cZret dX7_movesStep_156 okX7_movesStep rfl (by decide) ⟨rfl, _, rfl, _, rfl, hw⟩
        · have hw := hw.2 hc
          refine aIconst (pc' := 95) ⟨by decide, by decide⟩ dX7_movesStep_94 rfl ?_
          exact cZret dX7_movesStep_95 okX7_movesStep rfl (by decide) ⟨rfl, _, rfl, _, rfl, hw⟩
    · have hw := hw.2 hc
      refine aAload_n (pc' := 35) dX7_movesStep_34 rfl rfl ?_
      refine aDup (pc' := 36) rfl dX7_movesStep_35 rfl ?_
      refine aGetI (pc' := 39) dX7_movesStep_36 fX7_35 rfl rfl (lv (by decide)) rfl ?_
      refine aTopEq (y := (C2 21 0 6)) rfl ?_
      refine aAload_n (pc' := 40) dX7_movesStep_39 rfl rfl ?_
      refine aGetR (pc' := 43) (q := (9, 0)) dX7_movesStep_40 fX7_38 rfl rfl (lv (by decide)) rfl rfl ?_
      refine aGetI (pc' := 46) dX7_movesStep_43 fX7_53 rfl rfl (lv (by decide)) rfl ?_
      refine aTopEq (y := (C2 9 0 0)) rfl ?_
      obtain ⟨h23, hw⟩ := hw
      refine aIsub (pc' := 47) h23.1 h23.2 dX7_movesStep_46 rfl ?_
      refine aPutI (pc' := 50) dX7_movesStep_47 fX7_35 rfl rfl (Or.inl rfl) (lv (by decide)) rfl (cEqI (mK rfl) ?_)
      refine aGoto (pc' := 113) dX7_movesStep_50 (by decide) ?_
      refine aAload_n (pc' := 114) dX7_movesStep_113 rfl rfl ?_
      refine aGetR (pc' := 117) (q := (27, 0)) dX7_movesStep_114 fX7_20 rfl rfl (lv (by decide)) rfl rfl ?_
      refine aIload_n (pc' := 118) dX7_movesStep_117 rfl rfl ?_
      obtain ⟨h24, hw⟩ := hw
      refine aAald (pc' := 119) (j := (x1).toNat) (q := (28, (x1).toNat)) dX7_movesStep_118 (t := 5) rfl ⟨by decide, by decide⟩ (lv (by decide)) (tnIx h24).1 (tnIx h24).2 rfl rfl ?_
      refine aDup (pc' := 120) rfl dX7_movesStep_119 rfl ?_
      refine aGetI (pc' := 123) dX7_movesStep_120 fX7_143 rfl rfl (lv (tnIx h24).2) rfl ?_
      refine aTopEq (y := ((uI C2 21 0 6 (((C2 21 0 6) - (C2 9 0 0)))) 28 ((x1).toNat) 4)) rfl ?_
      refine aTopEq (uI_k rfl) ?_
      refine aAload_n (pc' := 124) dX7_movesStep_123 rfl rfl ?_
      refine aGetR (pc' := 127) (q := (9, 0)) dX7_movesStep_124 fX7_38 rfl rfl (lv (by decide)) rfl rfl ?_
      refine aGetI (pc' := 130) dX7_movesStep_127 fX7_53 rfl rfl (lv (by decide)) rfl ?_
      refine aTopEq (y := ((uI C2 21 0 6 (((C2 21 0 6) - (C2 9 0 0)))) 9 0 0)) rfl ?_
      refine aTopEq (uI_k rfl) ?_
      obtain ⟨h25, hw⟩ := hw
      refine aIadd (pc' := 131) h25.1 h25.2 dX7_movesStep_130 rfl ?_
      refine aPutI (pc' := 134) dX7_movesStep_131 fX7_143 rfl rfl (Or.inl rfl) (lv (tnIx h24).2) rfl (cEqI (mK rfl) ?_)
      refine aAload_n (pc' := 135) dX7_movesStep_134 rfl rfl ?_
      refine aGetR (pc' := 138) (q := (22, 0)) dX7_movesStep_135 fX7_12 rfl rfl (lv (by decide)) rfl rfl ?_
      refine aAload_n (pc' := 139) dX7_movesStep_138 rfl rfl ?_
      refine aGetI (pc' := 142) dX7_movesStep_139 fX7_32 rfl rfl (lv (by decide)) rfl ?_
      refine aTopEq (y := ((uI (uI C2 21 0 6 (((C2 21 0 6) - (C2 9 0 0)))) 28 ((x1).toNat) 4 (((C2 28 ((x1).toNat) 4) + (C2 9 0 0)))) 21 0 5)) rfl ?_
      refine aTopEq ((uI_k rfl).trans (uI_j rfl)) ?_
      refine aIload_n (pc' := 143) dX7_movesStep_142 rfl rfl ?_
      refine aBipush (pc' := 145) ⟨by decide, by decide⟩ dX7_movesStep_143 rfl ?_
      refine aAload_n (pc' := 146) dX7_movesStep_145 rfl rfl ?_
      refine aGetR (pc' := 149) (q := (9, 0)) dX7_movesStep_146 fX7_38 rfl rfl (lv (by decide)) rfl rfl ?_
      refine aGetI (pc' := 152) dX7_movesStep_149 fX7_53 rfl rfl (lv (by decide)) rfl ?_
      refine aTopEq (y := ((uI (uI C2 21 0 6 (((C2 21 0 6) - (C2 9 0 0)))) 28 ((x1).toNat) 4 (((C2 28 ((x1).toNat) 4) + (C2 9 0 0)))) 9 0 0)) rfl ?_
      refine aTopEq ((uI_k rfl).trans (uI_k rfl)) ?_
      refine cVV (c := 4) (pc' := 155) [aI ((C2 21 0 5)), aI x1, aI 8, aI ((C2 9 0 0))] dX7_movesStep_152 lX7_158 okX4_add ⟨by decide, by decide⟩ npX4_add rfl rfl rfl rfl rfl (by decide) rfl (cMetV_mono hw (fun J28 hw => ?_))
      obtain ⟨C27, rfl, hw⟩ := hw
      refine aIconst (pc' := 156) ⟨by decide, by decide⟩ dX7_movesStep_155 rfl ?_
      exact cZret dX7_movesStep_156 okX7_movesStep rfl (by decide) ⟨rfl, _, rfl, _, rfl, hw⟩
  · have hw := hw.2 hc
    refine aIconst (pc' := 11) ⟨by decide, by decide⟩ dX7_movesStep_10 rfl ?_
    exact cZret dX7_movesStep_11 okX7_movesStep rfl (by decide) ⟨rfl, _, rfl, _, rfl, hw⟩
set_option maxRecDepth 100000 in
set_option maxHeartbeats 4000000 in
theorem gX7_passTick {w : aW} {mm : Nat} {C : aIF} {S : aS} {p1 : Nat} {P : aIF → Prop} (hp1 : p1 < 6) (hw : (((C 28 p1 3) ≠ 2) → (-2147483648 ≤ ((C 28 p1 11) - 1) ∧ ((C 28 p1 11) - 1) < 2147483648) ∧ (kMetV w mX2_waitFor [aO 28 p1, aI (((C 28 p1 11) - 1)), aI ((C 28 p1 3))] C S (rf mm) (fun C3 => P C3))) ∧ (((C 28 p1 3) = 2) → (-2147483648 ≤ ((C 28 p1 11) - 1) ∧ ((C 28 p1 11) - 1) < 2147483648) ∧ (kMetV w mX2_waitFor [aO 28 p1, aI (((C 28 p1 11) - 1)), aI ((C 28 p1 3))] C S (rf mm) (fun C7 => (((C7 28 p1 3) ≠ 0) → P C7) ∧ (((C7 28 p1 3) = 0) → kMetV w mX7_wake [aO 21 0, aO 28 p1] C7 S (rf mm) (fun C10 => kMetV w mX7_endAct [aO 21 0, aO 28 p1] C10 S (rf mm) (fun C13 => P C13))))))) : kMetV w mX7_passTick [aO 21 0, aO 28 p1] C S (rf mm) P := by
  refine cMet_of okX7_passTick (Nat.le_of_ble_eq_true rfl) (fun hos => ?_)
  show cRun w mX7_passTick 0 [some (aO 21 0), some (aO 28 p1), none] [] (mem C S) (rf mm) (kqV (rf mm) S P)
  refine aAload_n (pc' := 1) dX7_passTick_0 rfl rfl ?_
  refine aGetI (pc' := 4) dX7_passTick_1 fX7_71 rfl rfl (lv hp1) rfl ?_
  refine aTopEq (y := (C 28 p1 3)) rfl ?_
  refine aIconst (pc' := 5) ⟨by decide, by decide⟩ dX7_passTick_4 rfl ?_
  refine aIcmp_ne (tgt := 12) (pc' := 8) dX7_passTick_5 (by decide) rfl (fun hc => ?_) (fun hc => ?_)
  · have hw := hw.1 hc
    refine aIconst (pc' := 13) ⟨by decide, by decide⟩ dX7_passTick_12 rfl ?_
    refine aIstore_n (pc' := 14) dX7_passTick_13 (by decide) rfl (L' := [some (aO 21 0), some (aO 28 p1), some (aI 0)]) rfl ?_
    refine aAload_n (pc' := 15) dX7_passTick_14 rfl rfl ?_
    refine aAload_n (pc' := 16) dX7_passTick_15 rfl rfl ?_
    refine aGetI (pc' := 19) dX7_passTick_16 fX7_86 rfl rfl (lv hp1) rfl ?_
    refine aTopEq (y := (C 28 p1 11)) rfl ?_
    refine aIconst (pc' := 20) ⟨by decide, by decide⟩ dX7_passTick_19 rfl ?_
    obtain ⟨h1, hw⟩ := hw
    refine aIsub (pc' := 21) h1.1 h1.2 dX7_passTick_20 rfl ?_
    refine aAload_n (pc' := 22) dX7_passTick_21 rfl rfl ?_
    refine aGetI (pc' := 25) dX7_passTick_22 fX7_71 rfl rfl (lv hp1) rfl ?_
    refine aTopEq (y := (C 28 p1 3)) rfl ?_
    refine cVV (c := 2) (pc' := 28) [aI (((C 28 p1 11) - 1)), aI ((C 28 p1 3))] dX7_passTick_25 lX7_89 okX2_waitFor ⟨by decide, by decide⟩ npX2_waitFor rfl rfl rfl rfl rfl hp1 rfl (cMetV_mono hw (fun J4 hw => ?_))
    obtain ⟨C3, rfl, hw⟩ := hw
    refine aIload_n (pc' := 29) dX7_passTick_28 rfl rfl ?_
    refine aIf_eq (tgt := 49) (pc' := 32) dX7_passTick_29 (by decide) rfl (fun hc => ?_) (fun hc => ?_)
    · exact cVret dX7_passTick_49 okX7_passTick rfl ⟨rfl, rfl, _, rfl, hw⟩
    · exact absurd hc (by decide)
  · have hw := hw.2 hc
    refine aIconst (pc' := 9) ⟨by decide, by decide⟩ dX7_passTick_8 rfl ?_
    refine aGoto (pc' := 13) dX7_passTick_9 (by decide) ?_
    refine aIstore_n (pc' := 14) dX7_passTick_13 (by decide) rfl (L' := [some (aO 21 0), some (aO 28 p1), some (aI 1)]) rfl ?_
    refine aAload_n (pc' := 15) dX7_passTick_14 rfl rfl ?_
    refine aAload_n (pc' := 16) dX7_passTick_15 rfl rfl ?_
    refine aGetI (pc' := 19) dX7_passTick_16 fX7_86 rfl rfl (lv hp1) rfl ?_
    refine aTopEq (y := (C 28 p1 11)) rfl ?_
    refine aIconst (pc' := 20) ⟨by decide, by decide⟩ dX7_passTick_19 rfl ?_
    obtain ⟨h5, hw⟩ := hw
    refine aIsub (pc' := 21) h5.1 h5.2 dX7_passTick_20 rfl ?_
    refine aAload_n (pc' := 22) dX7_passTick_21 rfl rfl ?_
    refine aGetI (pc' := 25) dX7_passTick_22 fX7_71 rfl rfl (lv hp1) rfl ?_
    refine aTopEq (y := (C 28 p1 3)) rfl ?_
    refine cVV (c := 2) (pc' := 28) [aI (((C 28 p1 11) - 1)), aI ((C 28 p1 3))] dX7_passTick_25 lX7_89 okX2_waitFor ⟨by decide, by decide⟩ npX2_waitFor rfl rfl rfl rfl rfl hp1 rfl (cMetV_mono hw (fun J8 hw => ?_))
    obtain ⟨C7, rfl, hw⟩ := hw
    refine aIload_n (pc' := 29) dX7_passTick_28 rfl rfl ?_
    refine aIf_eq (tgt := 49) (pc' := 32) dX7_passTick_29 (by decide) rfl (fun hc => ?_) (fun hc => ?_)
    · exact absurd hc (by decide)
    · refine aAload_n (pc' := 33) dX7_passTick_32 rfl rfl ?_
      refine aGetI (pc' := 36) dX7_passTick_33 fX7_71 rfl rfl (lv hp1) rfl ?_
      refine aTopEq (y := (C7 28 p1 3)) rfl ?_
      refine aIf_ne (tgt := 49) (pc' := 39) dX7_passTick_36 (by decide) rfl (fun hc => ?_) (fun hc => ?_)
      · have hw := hw.1 hc
        exact cVret dX7_passTick_49 okX7_passTick rfl ⟨rfl, rfl, _, rfl, hw⟩
      · have hw := hw.2 hc
        refine aAload_n (pc' := 40) dX7_passTick_39 rfl rfl ?_
        refine aAload_n (pc' := 41) dX7_passTick_40 rfl rfl ?_
        refine cVV (c := 7) (pc' := 44) [aO 28 p1] dX7_passTick_41 lX7_93 okX7_wake ⟨by decide, by decide⟩ npX7_wake rfl rfl rfl rfl rfl (by decide) rfl (cMetV_mono hw (fun J11 hw => ?_))
        obtain ⟨C10, rfl, hw⟩ := hw
        refine aAload_n (pc' := 45) dX7_passTick_44 rfl rfl ?_
        refine aAload_n (pc' := 46) dX7_passTick_45 rfl rfl ?_
        refine cVV (c := 7) (pc' := 49) [aO 28 p1] dX7_passTick_46 lX7_96 okX7_endAct ⟨by decide, by decide⟩ npX7_endAct rfl rfl rfl rfl rfl (by decide) rfl (cMetV_mono hw (fun J14 hw => ?_))
        obtain ⟨C13, rfl, hw⟩ := hw
        exact cVret dX7_passTick_49 okX7_passTick rfl ⟨rfl, rfl, _, rfl, hw⟩
set_option maxRecDepth 100000 in
set_option maxHeartbeats 4000000 in
theorem gX7_redeal {w : aW} {mm : Nat} {C : aIF} {S : aS} {P : aIF → Prop} (hw : kRunV w mX7_redeal 2 [some (aO 21 0), some (aI 0), none] [] C S (rf mm) P) : kMetV w mX7_redeal [aO 21 0] C S (rf mm) P := by
  refine cMet_of okX7_redeal (Nat.le_of_ble_eq_true rfl) (fun hos => ?_)
  show cRun w mX7_redeal 0 [some (aO 21 0), none, none] [] (mem C S) (rf mm) (kqV (rf mm) S P)
  refine aIconst (pc' := 1) ⟨by decide, by decide⟩ dX7_redeal_0 rfl ?_
  refine aIstore_n (pc' := 2) dX7_redeal_1 (by decide) rfl (L' := [some (aO 21 0), some (aI 0), none]) rfl ?_
  exact hw
set_option maxRecDepth 100000 in
set_option maxHeartbeats 4000000 in
theorem gX7_redeal_2 {w : aW} {mm : Nat} {C : aIF} {S : aS} {l1 : Nat} {P : aIF → Prop} (hw : (((C 21 0 3) ≤ (l1 : Int)) → kRunV w mX7_redeal 55 [some (aO 21 0), some (aI 1), some (aI 0)] [] C S (rf mm) P) ∧ ((¬ ((C 21 0 3) ≤ (l1 : Int))) → (l1 < 6) ∧ ((((C 28 l1 3) ≠ 2) → (l1 + 1 < 2147483648) ∧ (kRunV w mX7_redeal 2 [some (aO 21 0), some (aI ((((l1 + 1) : Nat) : Int))), none] [] C S (rf mm) P)) ∧ (((C 28 l1 3) = 2) → (((C 28 l1 13) ≠ 0) → (l1 + 1 < 2147483648) ∧ (kRunV w mX7_redeal 2 [some (aO 21 0), some (aI ((((l1 + 1) : Nat) : Int))), none] [] C S (rf mm) P)) ∧ (((C 28 l1 13) = 0) → kMetV w mX7_squeeze [aO 21 0, aO 28 l1] C S (rf mm) (fun C5 => (l1 + 1 < 2147483648) ∧ (kRunV w mX7_redeal 2 [some (aO 21 0), some (aI ((((l1 + 1) : Nat) : Int))), none] [] C5 S (rf mm) P))))))) : kRunV w mX7_redeal 2 [some (aO 21 0), some (aI ((l1 : Int))), none] [] C S (rf mm) P := by
  refine aIload_n (pc' := 3) dX7_redeal_2 rfl rfl ?_
  refine aAload_n (pc' := 4) dX7_redeal_3 rfl rfl ?_
  refine aGetI (pc' := 7) dX7_redeal_4 fX7_24 rfl rfl (lv (by decide)) rfl ?_
  refine aTopEq (y := (C 21 0 3)) rfl ?_
  refine aIcmp_ge (tgt := 51) (pc' := 10) dX7_redeal_7 (by decide) rfl (fun hc => ?_) (fun hc => ?_)
  · have hw := hw.1 hc
    refine aIconst (pc' := 52) ⟨by decide, by decide⟩ dX7_redeal_51 rfl ?_
    refine aIstore_n (pc' := 53) dX7_redeal_52 (by decide) rfl (L' := [some (aO 21 0), some (aI 1), none]) rfl ?_
    refine aIconst (pc' := 54) ⟨by decide, by decide⟩ dX7_redeal_53 rfl ?_
    refine aIstore_n (pc' := 55) dX7_redeal_54 (by decide) rfl (L' := [some (aO 21 0), some (aI 1), some (aI 0)]) rfl ?_
    exact hw
  · have hw := hw.2 hc
    refine aAload_n (pc' := 11) dX7_redeal_10 rfl rfl ?_
    refine aGetR (pc' := 14) (q := (27, 0)) dX7_redeal_11 fX7_20 rfl rfl (lv (by decide)) rfl rfl ?_
    refine aIload_n (pc' := 15) dX7_redeal_14 rfl rfl ?_
    obtain ⟨h1, hw⟩ := hw
    refine aAald (pc' := 16) (j := l1) (q := (28, l1)) dX7_redeal_15 (t := 5) rfl ⟨by decide, by decide⟩ (lv (by decide)) rfl h1 rfl rfl ?_
    refine aGetI (pc' := 19) dX7_redeal_16 fX7_71 rfl rfl (lv h1) rfl ?_
    refine aTopEq (y := (C 28 l1 3)) rfl ?_
    refine aIconst (pc' := 20) ⟨by decide, by decide⟩ dX7_redeal_19 rfl ?_
    refine aIcmp_ne (tgt := 45) (pc' := 23) dX7_redeal_20 (by decide) rfl (fun hc => ?_) (fun hc => ?_)
    · have hw := hw.1 hc
      obtain ⟨h2, hw⟩ := hw
      refine aIinc1 (pc' := 48) dX7_redeal_45 rfl (by decide) h2 rfl (L' := [some (aO 21 0), some (aI ((((l1 + 1) : Nat) : Int))), none]) rfl ?_
      refine aGoto (pc' := 2) dX7_redeal_48 (by decide) ?_
      exact hw
    · have hw := hw.2 hc
      refine aAload_n (pc' := 24) dX7_redeal_23 rfl rfl ?_
      refine aGetR (pc' := 27) (q := (27, 0)) dX7_redeal_24 fX7_20 rfl rfl (lv (by decide)) rfl rfl ?_
      refine aIload_n (pc' := 28) dX7_redeal_27 rfl rfl ?_
      refine aAald (pc' := 29) (j := l1) (q := (28, l1)) dX7_redeal_28 (t := 5) rfl ⟨by decide, by decide⟩ (lv (by decide)) rfl h1 rfl rfl ?_
      refine aGetI (pc' := 32) dX7_redeal_29 fX7_137 rfl rfl (lv h1) rfl ?_
      refine aTopEq (y := (C 28 l1 13)) rfl ?_
      refine aIf_ne (tgt := 45) (pc' := 35) dX7_redeal_32 (by decide) rfl (fun hc => ?_) (fun hc => ?_)
      · have hw := hw.1 hc
        obtain ⟨h3, hw⟩ := hw
        refine aIinc1 (pc' := 48) dX7_redeal_45 rfl (by decide) h3 rfl (L' := [some (aO 21 0), some (aI ((((l1 + 1) : Nat) : Int))), none]) rfl ?_
        refine aGoto (pc' := 2) dX7_redeal_48 (by decide) ?_
        exact hw
      · have hw := hw.2 hc
        refine aAload_n (pc' := 36) dX7_redeal_35 rfl rfl ?_
        refine aAload_n (pc' := 37) dX7_redeal_36 rfl rfl ?_
        refine aGetR (pc' := 40) (q := (27, 0)) dX7_redeal_37 fX7_20 rfl rfl (lv (by decide)) rfl rfl ?_
        refine aIload_n (pc' := 41) dX7_redeal_40 rfl rfl ?_
        refine aAald (pc' := 42) (j := l1) (q := (28, l1)) dX7_redeal_41 (t := 5) rfl ⟨by decide, by decide⟩ (lv (by decide)) rfl h1 rfl rfl ?_
        refine cVV (c := 7) (pc' := 45) [aO 28 l1] dX7_redeal_42 lX7_221 okX7_squeeze ⟨by decide, by decide⟩ npX7_squeeze rfl rfl rfl rfl rfl (by decide) rfl (cMetV_mono hw (fun J6 hw => ?_))
        obtain ⟨C5, rfl, hw⟩ := hw
        obtain ⟨h7, hw⟩ := hw
        refine aIinc1 (pc' := 48) dX7_redeal_45 rfl (by decide) h7 rfl (L' := [some (aO 21 0), some (aI ((((l1 + 1) : Nat) : Int))), none]) rfl ?_
        refine aGoto (pc' := 2) dX7_redeal_48 (by decide) ?_
        exact hw
set_option maxRecDepth 100000 in
set_option maxHeartbeats 4000000 in
theorem gX7_redeal_55 {w : aW} {mm : Nat} {C : aIF} {S : aS} {l1 : Int} {l2 : Nat} {P : aIF → Prop} (hw : (((C 9 0 4) ≤ (l2 : Int)) → kRunV w mX7_redeal 83 [some (aO 21 0), some (aI l1), some (aI 0)] [] C S (rf mm) P) ∧ ((¬ ((C 9 0 4) ≤ (l2 : Int))) → ((l1 = 0) → kRunV w mX7_redeal 83 [some (aO 21 0), some (aI l1), some (aI 0)] [] C S (rf mm) P) ∧ ((¬ (l1 = 0)) → kMetI w mX7_movesStep [aO 21 0] C S (rf mm) (fun x1 C2 => (l2 + 1 < 2147483648) ∧ (kRunV w mX7_redeal 55 [some (aO 21 0), some (aI x1), some (aI ((((l2 + 1) : Nat) : Int)))] [] C2 S (rf mm) P))))) : kRunV w mX7_redeal 55 [some (aO 21 0), some (aI l1), some (aI ((l2 : Int)))] [] C S (rf mm) P := by
  refine aIload_n (pc' := 56) dX7_redeal_55 rfl rfl ?_
  refine aAload_n (pc' := 57) dX7_redeal_56 rfl rfl ?_
  refine aGetR (pc' := 60) (q := (9, 0)) dX7_redeal_57 fX7_38 rfl rfl (lv (by decide)) rfl rfl ?_
  refine aGetI (pc' := 63) dX7_redeal_60 fX7_224 rfl rfl (lv (by decide)) rfl ?_
  refine aTopEq (y := (C 9 0 4)) rfl ?_
  refine aIcmp_ge (tgt := 81) (pc' := 66) dX7_redeal_63 (by decide) rfl (fun hc => ?_) (fun hc => ?_)
  · have hw := hw.1 hc
    refine aIconst (pc' := 82) ⟨by decide, by decide⟩ dX7_redeal_81 rfl ?_
    refine aIstore_n (pc' := 83) dX7_redeal_82 (by decide) rfl (L' := [some (aO 21 0), some (aI l1), some (aI 0)]) rfl ?_
    exact hw
  · have hw := hw.2 hc
    refine aIload_n (pc' := 67) dX7_redeal_66 rfl rfl ?_
    refine aIf_eq (tgt := 81) (pc' := 70) dX7_redeal_67 (by decide) rfl (fun hc => ?_) (fun hc => ?_)
    · have hw := hw.1 hc
      refine aIconst (pc' := 82) ⟨by decide, by decide⟩ dX7_redeal_81 rfl ?_
      refine aIstore_n (pc' := 83) dX7_redeal_82 (by decide) rfl (L' := [some (aO 21 0), some (aI l1), some (aI 0)]) rfl ?_
      exact hw
    · have hw := hw.2 hc
      refine aAload_n (pc' := 71) dX7_redeal_70 rfl rfl ?_
      refine cVI (c := 7) (pc' := 74) [] dX7_redeal_71 lX7_227 okX7_movesStep ⟨by decide, by decide⟩ npX7_movesStep rfl rfl rfl rfl rfl (by decide) rfl (cMetI_mono hw (fun x1 J3 hw => ?_))
      obtain ⟨C2, rfl, hw⟩ := hw
      refine aIstore_n (pc' := 75) dX7_redeal_74 (by decide) rfl (L' := [some (aO 21 0), some (aI x1), some (aI ((l2 : Int)))]) rfl ?_
      obtain ⟨h4, hw⟩ := hw
      refine aIinc1 (pc' := 78) dX7_redeal_75 rfl (by decide) h4 rfl (L' := [some (aO 21 0), some (aI x1), some (aI ((((l2 + 1) : Nat) : Int)))]) rfl ?_
      refine aGoto (pc' := 55) dX7_redeal_78 (by decide) ?_
      exact hw
set_option maxRecDepth 100000 in
set_option maxHeartbeats 4000000 in
theorem gX7_redeal_83 {w : aW} {mm : Nat} {C : aIF} {S : aS} {l1 : Nat} {l2 : Int} {P : aIF → Prop} (hw : (((C 21 0 3) ≤ l2) → P C) ∧ ((¬ ((C 21 0 3) ≤ l2)) → (0 ≤ l2 ∧ l2 < ((6 : Nat) : Int)) ∧ ((-2147483648 ≤ (l2 + 1) ∧ (l2 + 1) < 2147483648) ∧ (kRunV w mX7_redeal 83 [some (aO 21 0), some (aI ((l1 : Int))), some (aI ((l2 + 1)))] [] (uI C 28 ((l2).toNat) 9 0) S (rf mm) P)))) : kRunV w mX7_redeal 83 [some (aO 21 0), some (aI ((l1 : Int))), some (aI l2)] [] C S (rf mm) P := by
  refine aIload_n (pc' := 84) dX7_redeal_83 rfl rfl ?_
  refine aAload_n (pc' := 85) dX7_redeal_84 rfl rfl ?_
  refine aGetI (pc' := 88) dX7_redeal_85 fX7_24 rfl rfl (lv (by decide)) rfl ?_
  refine aTopEq (y := (C 21 0 3)) rfl ?_
  refine aIcmp_ge (tgt := 107) (pc' := 91) dX7_redeal_88 (by decide) rfl (fun hc => ?_) (fun hc => ?_)
  · have hw := hw.1 hc
    exact cVret dX7_redeal_107 okX7_redeal rfl ⟨rfl, rfl, _, rfl, hw⟩
  · have hw := hw.2 hc
    refine aAload_n (pc' := 92) dX7_redeal_91 rfl rfl ?_
    refine aGetR (pc' := 95) (q := (27, 0)) dX7_redeal_92 fX7_20 rfl rfl (lv (by decide)) rfl rfl ?_
    refine aIload_n (pc' := 96) dX7_redeal_95 rfl rfl ?_
    obtain ⟨h1, hw⟩ := hw
    refine aAald (pc' := 97) (j := (l2).toNat) (q := (28, (l2).toNat)) dX7_redeal_96 (t := 5) rfl ⟨by decide, by decide⟩ (lv (by decide)) (tnIx h1).1 (tnIx h1).2 rfl rfl ?_
    refine aIconst (pc' := 98) ⟨by decide, by decide⟩ dX7_redeal_97 rfl ?_
    refine aPutI (pc' := 101) dX7_redeal_98 fX7_230 rfl rfl (Or.inl rfl) (lv (tnIx h1).2) rfl (cEqI (mK rfl) ?_)
    obtain ⟨h2, hw⟩ := hw
    refine aIinc (pc' := 104) dX7_redeal_101 rfl (by decide) ⟨by decide, by decide⟩ h2.1 h2.2 rfl (L' := [some (aO 21 0), some (aI ((l1 : Int))), some (aI ((l2 + 1)))]) rfl ?_
    refine aGoto (pc' := 83) dX7_redeal_104 (by decide) ?_
    exact hw
set_option maxRecDepth 100000 in
set_option maxHeartbeats 4000000 in
theorem gX7_someGoOn {w : aW} {mm : Nat} {C : aIF} {S : aS} {P : Int → aIF → Prop} (hw : kRunI w mX7_someGoOn 2 [some (aO 21 0), some (aI 0)] [] C S (rf mm) P) : kMetI w mX7_someGoOn [aO 21 0] C S (rf mm) P := by
  refine cMet_of okX7_someGoOn (Nat.le_of_ble_eq_true rfl) (fun hos => ?_)
  show cRun w mX7_someGoOn 0 [some (aO 21 0), none] [] (mem C S) (rf mm) (kqI (rf mm) S P)
  refine aIconst (pc' := 1) ⟨by decide, by decide⟩ dX7_someGoOn_0 rfl ?_
  refine aIstore_n (pc' := 2) dX7_someGoOn_1 (by decide) rfl (L' := [some (aO 21 0), some (aI 0)]) rfl ?_
  exact hw
set_option maxRecDepth 100000 in
set_option maxHeartbeats 4000000 in
theorem gX7_someGoOn_2 {w : aW} {mm : Nat} {C : aIF} {S : aS} {l1 : Nat} {P : Int → aIF → Prop} (hw : (((C 21 0 3) ≤ (l1 : Int)) → P 0 C) ∧ ((¬ ((C 21 0 3) ≤ (l1 : Int))) → (l1 < 6) ∧ (kMetI w mX2_goesOn [aO 28 l1] C S (rf mm) (fun x2 C3 => ((x2 = 0) → (l1 + 1 < 2147483648) ∧ (kRunI w mX7_someGoOn 2 [some (aO 21 0), some (aI ((((l1 + 1) : Nat) : Int)))] [] C3 S (rf mm) P)) ∧ ((¬ (x2 = 0)) → P 1 C3))))) : kRunI w mX7_someGoOn 2 [some (aO 21 0), some (aI ((l1 : Int)))] [] C S (rf mm) P := by
  refine aIload_n (pc' := 3) dX7_someGoOn_2 rfl rfl ?_
  refine aAload_n (pc' := 4) dX7_someGoOn_3 rfl rfl ?_
  refine aGetI (pc' := 7) dX7_someGoOn_4 fX7_24 rfl rfl (lv (by decide)) rfl ?_
  refine aTopEq (y := (C 21 0 3)) rfl ?_
  refine aIcmp_ge (tgt := 30) (pc' := 10) dX7_someGoOn_7 (by decide) rfl (fun hc => ?_) (fun hc => ?_)
  · have hw := hw.1 hc
    refine aIconst (pc' := 31) ⟨by decide, by decide⟩ dX7_someGoOn_30 rfl ?_
    exact cZret dX7_someGoOn_31 okX7_someGoOn rfl (by decide) ⟨rfl, _, rfl, _, rfl, hw⟩
  · have hw := hw.2 hc
    refine aAload_n (pc' := 11) dX7_someGoOn_10 rfl rfl ?_
    refine aGetR (pc' := 14) (q := (27, 0)) dX7_someGoOn_11 fX7_20 rfl rfl (lv (by decide)) rfl rfl ?_
    refine aIload_n (pc' := 15) dX7_someGoOn_14 rfl rfl ?_
    obtain ⟨h1, hw⟩ := hw
    refine aAald (pc' := 16) (j := l1) (q := (28, l1)) dX7_someGoOn_15 (t := 5) rfl ⟨by decide, by decide⟩ (lv (by decide)) rfl h1 rfl rfl ?_
    refine cVI (c := 2) (pc' := 19) [] dX7_someGoOn_16 lX7_60 okX2_goesOn ⟨by decide, by decide⟩ npX2_goesOn rfl rfl rfl rfl rfl h1 rfl (cMetI_mono hw (fun x2 J4 hw => ?_))
    obtain ⟨C3, rfl, hw⟩ := hw
    refine aIf_eq (tgt := 24) (pc' := 22) dX7_someGoOn_19 (by decide) rfl (fun hc => ?_) (fun hc => ?_)
    · have hw := hw.1 hc
      obtain ⟨h5, hw⟩ := hw
      refine aIinc1 (pc' := 27) dX7_someGoOn_24 rfl (by decide) h5 rfl (L' := [some (aO 21 0), some (aI ((((l1 + 1) : Nat) : Int)))]) rfl ?_
      refine aGoto (pc' := 2) dX7_someGoOn_27 (by decide) ?_
      exact hw
    · have hw := hw.2 hc
      refine aIconst (pc' := 23) ⟨by decide, by decide⟩ dX7_someGoOn_22 rfl ?_
      exact cZret dX7_someGoOn_23 okX7_someGoOn rfl (by decide) ⟨rfl, _, rfl, _, rfl, hw⟩
set_option maxRecDepth 100000 in
set_option maxHeartbeats 4000000 in
theorem gX7_spareOfOthers {w : aW} {mm : Nat} {C : aIF} {S : aS} {p : Nat} {P : Int → aIF → Prop} (hp : p < 6) (hw : kRunI w mX7_spareOfOthers 4 [some (aO 21 0), some (aO 28 p), some (aI 0), some (aI 0)] [] C S (rf mm) P) : kMetI w mX7_spareOfOthers [aO 21 0, aO 28 p] C S (rf mm) P := by
  refine cMet_of okX7_spareOfOthers (Nat.le_of_ble_eq_true rfl) (fun hos => ?_)
  show cRun w mX7_spareOfOthers 0 [some (aO 21 0), some (aO 28 p), none, none] [] (mem C S) (rf mm) (kqI (rf mm) S P)
  refine aIconst (pc' := 1) ⟨by decide, by decide⟩ dX7_spareOfOthers_0 rfl ?_
  refine aIstore_n (pc' := 2) dX7_spareOfOthers_1 (by decide) rfl (L' := [some (aO 21 0), some (aO 28 p), some (aI 0), none]) rfl ?_
  refine aIconst (pc' := 3) ⟨by decide, by decide⟩ dX7_spareOfOthers_2 rfl ?_
  refine aIstore_n (pc' := 4) dX7_spareOfOthers_3 (by decide) rfl (L' := [some (aO 21 0), some (aO 28 p), some (aI 0), some (aI 0)]) rfl ?_
  exact hw
set_option maxRecDepth 100000 in
set_option maxHeartbeats 4000000 in
theorem gX7_spareOfOthers_4 {w : aW} {mm : Nat} {C : aIF} {S : aS} {p : Nat} {l2 : Int} {l3 : Nat} {P : Int → aIF → Prop} (hp : p < 6) (hw : (((C 21 0 3) ≤ (l3 : Int)) → P l2 C) ∧ ((¬ ((C 21 0 3) ≤ (l3 : Int))) → (((l3 : Int) = (C 28 p 1)) → (l3 + 1 < 2147483648) ∧ (kRunI w mX7_spareOfOthers 4 [some (aO 21 0), some (aO 28 p), some (aI l2), some (aI ((((l3 + 1) : Nat) : Int)))] [] C S (rf mm) P)) ∧ ((¬ ((l3 : Int) = (C 28 p 1))) → (l3 < 6) ∧ (kMetI w mX2_spare [aO 28 l3, aO 9 0] C S (rf mm) (fun x3 C4 => (-2147483648 ≤ (l2 + x3) ∧ (l2 + x3) < 2147483648) ∧ ((l3 + 1 < 2147483648) ∧ (kRunI w mX7_spareOfOthers 4 [some (aO 21 0), some (aO 28 p), some (aI ((l2 + x3))), some (aI ((((l3 + 1) : Nat) : Int)))] [] C4 S (rf mm) P))))))) : kRunI w mX7_spareOfOthers 4 [some (aO 21 0), some (aO 28 p), some (aI l2), some (aI ((l3 : Int)))] [] C S (rf mm) P := by
  refine aIload_n (pc' := 5) dX7_spareOfOthers_4 rfl rfl ?_
  refine aAload_n (pc' := 6) dX7_spareOfOthers_5 rfl rfl ?_
  refine aGetI (pc' := 9) dX7_spareOfOthers_6 fX7_24 rfl rfl (lv (by decide)) rfl ?_
  refine aTopEq (y := (C 21 0 3)) rfl ?_
  refine aIcmp_ge (tgt := 42) (pc' := 12) dX7_spareOfOthers_9 (by decide) rfl (fun hc => ?_) (fun hc => ?_)
  · have hw := hw.1 hc
    refine aIload_n (pc' := 43) dX7_spareOfOthers_42 rfl rfl ?_
    exact cIret dX7_spareOfOthers_43 okX7_spareOfOthers rfl ⟨rfl, _, rfl, _, rfl, hw⟩
  · have hw := hw.2 hc
    refine aIload_n (pc' := 13) dX7_spareOfOthers_12 rfl rfl ?_
    refine aAload_n (pc' := 14) dX7_spareOfOthers_13 rfl rfl ?_
    refine aGetI (pc' := 17) dX7_spareOfOthers_14 fX7_155 rfl rfl (lv hp) rfl ?_
    refine aTopEq (y := (C 28 p 1)) rfl ?_
    refine aIcmp_eq (tgt := 36) (pc' := 20) dX7_spareOfOthers_17 (by decide) rfl (fun hc => ?_) (fun hc => ?_)
    · have hw := hw.1 hc
      obtain ⟨h1, hw⟩ := hw
      refine aIinc1 (pc' := 39) dX7_spareOfOthers_36 rfl (by decide) h1 rfl (L' := [some (aO 21 0), some (aO 28 p), some (aI l2), some (aI ((((l3 + 1) : Nat) : Int)))]) rfl ?_
      refine aGoto (pc' := 4) dX7_spareOfOthers_39 (by decide) ?_
      exact hw
    · have hw := hw.2 hc
      refine aIload_n (pc' := 21) dX7_spareOfOthers_20 rfl rfl ?_
      refine aAload_n (pc' := 22) dX7_spareOfOthers_21 rfl rfl ?_
      refine aGetR (pc' := 25) (q := (27, 0)) dX7_spareOfOthers_22 fX7_20 rfl rfl (lv (by decide)) rfl rfl ?_
      refine aIload_n (pc' := 26) dX7_spareOfOthers_25 rfl rfl ?_
      obtain ⟨h2, hw⟩ := hw
      refine aAald (pc' := 27) (j := l3) (q := (28, l3)) dX7_spareOfOthers_26 (t := 5) rfl ⟨by decide, by decide⟩ (lv (by decide)) rfl h2 rfl rfl ?_
      refine aAload_n (pc' := 28) dX7_spareOfOthers_27 rfl rfl ?_
      refine aGetR (pc' := 31) (q := (9, 0)) dX7_spareOfOthers_28 fX7_38 rfl rfl (lv (by decide)) rfl rfl ?_
      refine cVI (c := 2) (pc' := 34) [aO 9 0] dX7_spareOfOthers_31 lX7_207 okX2_spare ⟨by decide, by decide⟩ npX2_spare rfl rfl rfl rfl rfl h2 rfl (cMetI_mono hw (fun x3 J5 hw => ?_))
      obtain ⟨C4, rfl, hw⟩ := hw
      obtain ⟨h6, hw⟩ := hw
      refine aIadd (pc' := 35) h6.1 h6.2 dX7_spareOfOthers_34 rfl ?_
      refine aIstore_n (pc' := 36) dX7_spareOfOthers_35 (by decide) rfl (L' := [some (aO 21 0), some (aO 28 p), some (aI ((l2 + x3))), some (aI ((l3 : Int)))]) rfl ?_
      obtain ⟨h7, hw⟩ := hw
      refine aIinc1 (pc' := 39) dX7_spareOfOthers_36 rfl (by decide) h7 rfl (L' := [some (aO 21 0), some (aO 28 p), some (aI ((l2 + x3))), some (aI ((((l3 + 1) : Nat) : Int)))]) rfl ?_
      refine aGoto (pc' := 4) dX7_spareOfOthers_39 (by decide) ?_
      exact hw
set_option maxRecDepth 100000 in
set_option maxHeartbeats 4000000 in
theorem gX7_squeeze {w : aW} {mm : Nat} {C : aIF} {S : aS} {p1 : Nat} {P : aIF → Prop} (hp1 : p1 < 6) (hw : (((C 28 p1 5) ≤ (C 29 p1 2)) → kMetI w mX2_spare [aO 28 p1, aO 9 0] C S (rf mm) (fun x1 C2 => (-2147483648 ≤ ((C2 28 p1 4) - x1) ∧ ((C2 28 p1 4) - x1) < 2147483648) ∧ ((-2147483648 ≤ ((C2 21 0 6) + x1) ∧ ((C2 21 0 6) + x1) < 2147483648) ∧ (kMetV w mX4_add [aO 22 0, aI ((C2 21 0 5)), aI ((C2 28 p1 1)), aI 4, aI x1] (uI (uI (uI (uI C2 28 p1 13 1) 28 p1 14 ((C2 28 p1 4))) 28 p1 4 (((C2 28 p1 4) - x1))) 21 0 6 (((C2 21 0 6) + x1))) S (rf mm) (fun C7 => P C7))))) ∧ ((¬ ((C 28 p1 5) ≤ (C 29 p1 2))) → kMetI w mX7_collect [aO 21 0, aO 28 p1] C S (rf mm) (fun x9 C10 => kMetI w mX2_spare [aO 28 p1, aO 9 0] C10 S (rf mm) (fun x12 C13 => (-2147483648 ≤ ((C13 28 p1 4) - x12) ∧ ((C13 28 p1 4) - x12) < 2147483648) ∧ ((-2147483648 ≤ ((C13 21 0 6) + x12) ∧ ((C13 21 0 6) + x12) < 2147483648) ∧ (kMetV w mX4_add [aO 22 0, aI ((C13 21 0 5)), aI ((C13 28 p1 1)), aI 4, aI x12] (uI (uI (uI (uI C13 28 p1 13 1) 28 p1 14 ((C13 28 p1 4))) 28 p1 4 (((C13 28 p1 4) - x12))) 21 0 6 (((C13 21 0 6) + x12))) S (rf mm) (fun C18 => P C18))))))) : kMetV w mX7_squeeze [aO 21 0, aO 28 p1] C S (rf mm) P := by
  refine cMet_of okX7_squeeze (Nat.le_of_ble_eq_true rfl) (fun hos => ?_)
  show cRun w mX7_squeeze 0 [some (aO 21 0), some (aO 28 p1), none] [] (mem C S) (rf mm) (kqV (rf mm) S P)
  refine aAload_n (pc' := 1) dX7_squeeze_0 rfl rfl ?_
  refine aGetI (pc' := 4) dX7_squeeze_1 fX7_116 rfl rfl (lv hp1) rfl ?_
  refine aTopEq (y := (C 28 p1 5)) rfl ?_
  refine aAload_n (pc' := 5) dX7_squeeze_4 rfl rfl ?_
  refine aGetR (pc' := 8) (q := (29, p1)) dX7_squeeze_5 fX7_103 rfl rfl (lv hp1) rfl rfl ?_
  refine aGetI (pc' := 11) dX7_squeeze_8 fX7_119 rfl rfl (lv hp1) rfl ?_
  refine aTopEq (y := (C 29 p1 2)) rfl ?_
  refine aIcmp_le (tgt := 20) (pc' := 14) dX7_squeeze_11 (by decide) rfl (fun hc => ?_) (fun hc => ?_)
  · have hw := hw.1 hc
    refine aAload_n (pc' := 21) dX7_squeeze_20 rfl rfl ?_
    refine aAload_n (pc' := 22) dX7_squeeze_21 rfl rfl ?_
    refine aGetR (pc' := 25) (q := (9, 0)) dX7_squeeze_22 fX7_38 rfl rfl (lv (by decide)) rfl rfl ?_
    refine cVI (c := 2) (pc' := 28) [aO 9 0] dX7_squeeze_25 lX7_207 okX2_spare ⟨by decide, by decide⟩ npX2_spare rfl rfl rfl rfl rfl hp1 rfl (cMetI_mono hw (fun x1 J3 hw => ?_))
    obtain ⟨C2, rfl, hw⟩ := hw
    refine aIstore_n (pc' := 29) dX7_squeeze_28 (by decide) rfl (L' := [some (aO 21 0), some (aO 28 p1), some (aI x1)]) rfl ?_
    refine aAload_n (pc' := 30) dX7_squeeze_29 rfl rfl ?_
    refine aIconst (pc' := 31) ⟨by decide, by decide⟩ dX7_squeeze_30 rfl ?_
    refine aPutZ (pc' := 34) dX7_squeeze_31 fX7_137 rfl rfl (Or.inl rfl) (lv hp1) (by decide) rfl (cEqI (mK rfl) ?_)
    refine aAload_n (pc' := 35) dX7_squeeze_34 rfl rfl ?_
    refine aAload_n (pc' := 36) dX7_squeeze_35 rfl rfl ?_
    refine aGetI (pc' := 39) dX7_squeeze_36 fX7_143 rfl rfl (lv hp1) rfl ?_
    refine aTopEq (y := ((uI C2 28 p1 13 1) 28 p1 4)) rfl ?_
    refine aTopEq (uI_j rfl) ?_
    refine aPutI (pc' := 42) dX7_squeeze_39 fX7_140 rfl rfl (Or.inl rfl) (lv hp1) rfl (cEqI (mK rfl) ?_)
    refine aAload_n (pc' := 43) dX7_squeeze_42 rfl rfl ?_
    refine aDup (pc' := 44) rfl dX7_squeeze_43 rfl ?_
    refine aGetI (pc' := 47) dX7_squeeze_44 fX7_143 rfl rfl (lv hp1) rfl ?_
    refine aTopEq (y := ((uI (uI C2 28 p1 13 1) 28 p1 14 ((C2 28 p1 4))) 28 p1 4)) rfl ?_
    refine aTopEq ((uI_j rfl).trans (uI_j rfl)) ?_
    refine aIload_n (pc' := 48) dX7_squeeze_47 rfl rfl ?_
    obtain ⟨h4, hw⟩ := hw
    refine aIsub (pc' := 49) h4.1 h4.2 dX7_squeeze_48 rfl ?_
    refine aPutI (pc' := 52) dX7_squeeze_49 fX7_143 rfl rfl (Or.inl rfl) (lv hp1) rfl (cEqI (mK rfl) ?_)
    refine aAload_n (pc' := 53) dX7_squeeze_52 rfl rfl ?_
    refine aDup (pc' := 54) rfl dX7_squeeze_53 rfl ?_
    refine aGetI (pc' := 57) dX7_squeeze_54 fX7_35 rfl rfl (lv (by decide)) rfl ?_
    refine aTopEq (y := ((uI (uI (uI C2 28 p1 13 1) 28 p1 14 ((C2 28 p1 4))) 28 p1 4 (((C2 28 p1 4) - x1))) 21 0 6)) rfl ?_
    refine aTopEq (((uI_k rfl).trans (uI_k rfl)).trans (uI_k rfl)) ?_
    refine aIload_n (pc' := 58) dX7_squeeze_57 rfl rfl ?_
    obtain ⟨h5, hw⟩ := hw
    refine aIadd (pc' := 59) h5.1 h5.2 dX7_squeeze_58 rfl ?_
    refine aPutI (pc' := 62) dX7_squeeze_59 fX7_35 rfl rfl (Or.inl rfl) (lv (by decide)) rfl (cEqI (mK rfl) ?_)
    refine aAload_n (pc' := 63) dX7_squeeze_62 rfl rfl ?_
    refine aGetR (pc' := 66) (q := (22, 0)) dX7_squeeze_63 fX7_12 rfl rfl (lv (by decide)) rfl rfl ?_
    refine aAload_n (pc' := 67) dX7_squeeze_66 rfl rfl ?_
    refine aGetI (pc' := 70) dX7_squeeze_67 fX7_32 rfl rfl (lv (by decide)) rfl ?_
    refine aTopEq (y := ((uI (uI (uI (uI C2 28 p1 13 1) 28 p1 14 ((C2 28 p1 4))) 28 p1 4 (((C2 28 p1 4) - x1))) 21 0 6 (((C2 21 0 6) + x1))) 21 0 5)) rfl ?_
    refine aTopEq ((((uI_j rfl).trans (uI_k rfl)).trans (uI_k rfl)).trans (uI_k rfl)) ?_
    refine aAload_n (pc' := 71) dX7_squeeze_70 rfl rfl ?_
    refine aGetI (pc' := 74) dX7_squeeze_71 fX7_155 rfl rfl (lv hp1) rfl ?_
    refine aTopEq (y := ((uI (uI (uI (uI C2 28 p1 13 1) 28 p1 14 ((C2 28 p1 4))) 28 p1 4 (((C2 28 p1 4) - x1))) 21 0 6 (((C2 21 0 6) + x1))) 28 p1 1)) rfl ?_
    refine aTopEq ((((uI_k rfl).trans (uI_j rfl)).trans (uI_j rfl)).trans (uI_j rfl)) ?_
    refine aIconst (pc' := 75) ⟨by decide, by decide⟩ dX7_squeeze_74 rfl ?_
    refine aIload_n (pc' := 76) dX7_squeeze_75 rfl rfl ?_
    refine cVV (c := 4) (pc' := 79) [aI ((C2 21 0 5)), aI ((C2 28 p1 1)), aI 4, aI x1] dX7_squeeze_76 lX7_158 okX4_add ⟨by decide, by decide⟩ npX4_add rfl rfl rfl rfl rfl (by decide) rfl (cMetV_mono hw (fun J8 hw => ?_))
    obtain ⟨C7, rfl, hw⟩ := hw
    exact cVret dX7_squeeze_79 okX7_squeeze rfl ⟨rfl, rfl, _, rfl, hw⟩
  · have hw := hw.2 hc
    refine aAload_n (pc' := 15) dX7_squeeze_14 rfl rfl ?_
    refine aAload_n (pc' := 16) dX7_squeeze_15 rfl rfl ?_
    refine cVI (c := 7) (pc' := 19) [aO 28 p1] dX7_squeeze_16 lX7_122 okX7_collect ⟨by decide, by decide⟩ npX7_collect rfl rfl rfl rfl rfl (by decide) rfl (cMetI_mono hw (fun x9 J11 hw => ?_))
    obtain ⟨C10, rfl, hw⟩ := hw
    refine aPop (pc' := 20) rfl dX7_squeeze_19 rfl ?_
    refine aAload_n (pc' := 21) dX7_squeeze_20 rfl rfl ?_
    refine aAload_n (pc' := 22) dX7_squeeze_21 rfl rfl ?_
    refine aGetR (pc' := 25) (q := (9, 0)) dX7_squeeze_22 fX7_38 rfl rfl (lv (by decide)) rfl rfl ?_
    refine cVI (c := 2) (pc' := 28) [aO 9 0] dX7_squeeze_25 lX7_207 okX2_spare ⟨by decide, by decide⟩ npX2_spare rfl rfl rfl rfl rfl hp1 rfl (cMetI_mono hw (fun x12 J14 hw => ?_))
    obtain ⟨C13, rfl, hw⟩ := hw
    refine aIstore_n (pc' := 29) dX7_squeeze_28 (by decide) rfl (L' := [some (aO 21 0), some (aO 28 p1), some (aI x12)]) rfl ?_
    refine aAload_n (pc' := 30) dX7_squeeze_29 rfl rfl ?_
    refine aIconst (pc' := 31) ⟨by decide, by decide⟩ dX7_squeeze_30 rfl ?_
    refine aPutZ (pc' := 34) dX7_squeeze_31 fX7_137 rfl rfl (Or.inl rfl) (lv hp1) (by decide) rfl (cEqI (mK rfl) ?_)
    refine aAload_n (pc' := 35) dX7_squeeze_34 rfl rfl ?_
    refine aAload_n (pc' := 36) dX7_squeeze_35 rfl rfl ?_
    refine aGetI (pc' := 39) dX7_squeeze_36 fX7_143 rfl rfl (lv hp1) rfl ?_
    refine aTopEq (y := ((uI C13 28 p1 13 1) 28 p1 4)) rfl ?_
    refine aTopEq (uI_j rfl) ?_
    refine aPutI (pc' := 42) dX7_squeeze_39 fX7_140 rfl rfl (Or.inl rfl) (lv hp1) rfl (cEqI (mK rfl) ?_)
    refine aAload_n (pc' := 43) dX7_squeeze_42 rfl rfl ?_
    refine aDup (pc' := 44) rfl dX7_squeeze_43 rfl ?_
    refine aGetI (pc' := 47) dX7_squeeze_44 fX7_143 rfl rfl (lv hp1) rfl ?_
    refine aTopEq (y := ((uI (uI C13 28 p1 13 1) 28 p1 14 ((C13 28 p1 4))) 28 p1 4)) rfl ?_
    refine aTopEq ((uI_j rfl).trans (uI_j rfl)) ?_
    refine aIload_n (pc' := 48) dX7_squeeze_47 rfl rfl ?_
    obtain ⟨h15, hw⟩ := hw
    refine aIsub (pc' := 49) h15.1 h15.2 dX7_squeeze_48 rfl ?_
    refine aPutI (pc' := 52) dX7_squeeze_49 fX7_143 rfl rfl (Or.inl rfl) (lv hp1) rfl (cEqI (mK rfl) ?_)
    refine aAload_n (pc' := 53) dX7_squeeze_52 rfl rfl ?_
    refine aDup (pc' := 54) rfl dX7_squeeze_53 rfl ?_
    refine aGetI (pc' := 57) dX7_squeeze_54 fX7_35 rfl rfl (lv (by decide)) rfl ?_
    refine aTopEq (y := ((uI (uI (uI C13 28 p1 13 1) 28 p1 14 ((C13 28 p1 4))) 28 p1 4 (((C13 28 p1 4) - x12))) 21 0 6)) rfl ?_
    refine aTopEq (((uI_k rfl).trans (uI_k rfl)).trans (uI_k rfl)) ?_
    refine aIload_n (pc' := 58) dX7_squeeze_57 rfl rfl ?_
    obtain ⟨h16, hw⟩ := hw
    refine aIadd (pc' := 59) h16.1 h16.2 dX7_squeeze_58 rfl ?_
    refine aPutI (pc' := 62) dX7_squeeze_59 fX7_35 rfl rfl (Or.inl rfl) (lv (by decide)) rfl (cEqI (mK rfl) ?_)
    refine aAload_n (pc' := 63) dX7_squeeze_62 rfl rfl ?_
    refine aGetR (pc' := 66) (q := (22, 0)) dX7_squeeze_63 fX7_12 rfl rfl (lv (by decide)) rfl rfl ?_
    refine aAload_n (pc' := 67) dX7_squeeze_66 rfl rfl ?_
    refine aGetI (pc' := 70) dX7_squeeze_67 fX7_32 rfl rfl (lv (by decide)) rfl ?_
    refine aTopEq (y := ((uI (uI (uI (uI C13 28 p1 13 1) 28 p1 14 ((C13 28 p1 4))) 28 p1 4 (((C13 28 p1 4) - x12))) 21 0 6 (((C13 21 0 6) + x12))) 21 0 5)) rfl ?_
    refine aTopEq ((((uI_j rfl).trans (uI_k rfl)).trans (uI_k rfl)).trans (uI_k rfl)) ?_
    refine aAload_n (pc' := 71) dX7_squeeze_70 rfl rfl ?_
    refine aGetI (pc' := 74) dX7_squeeze_71 fX7_155 rfl rfl (lv hp1) rfl ?_
    refine aTopEq (y := ((uI (uI (uI (uI C13 28 p1 13 1) 28 p1 14 ((C13 28 p1 4))) 28 p1 4 (((C13 28 p1 4) - x12))) 21 0 6 (((C13 21 0 6) + x12))) 28 p1 1)) rfl ?_
    refine aTopEq ((((uI_k rfl).trans (uI_j rfl)).trans (uI_j rfl)).trans (uI_j rfl)) ?_
    refine aIconst (pc' := 75) ⟨by decide, by decide⟩ dX7_squeeze_74 rfl ?_
    refine aIload_n (pc' := 76) dX7_squeeze_75 rfl rfl ?_
    refine cVV (c := 4) (pc' := 79) [aI ((C13 21 0 5)), aI ((C13 28 p1 1)), aI 4, aI x12] dX7_squeeze_76 lX7_158 okX4_add ⟨by decide, by decide⟩ npX4_add rfl rfl rfl rfl rfl (by decide) rfl (cMetV_mono hw (fun J19 hw => ?_))
    obtain ⟨C18, rfl, hw⟩ := hw
    exact cVret dX7_squeeze_79 okX7_squeeze rfl ⟨rfl, rfl, _, rfl, hw⟩
set_option maxRecDepth 100000 in
set_option maxHeartbeats 4000000 in
theorem gX7_start {w : aW} {mm : Nat} {C : aIF} {S : aS} {hw_ : Nat} {P : aIF → Prop} (hw : kMetV w mX4_forget [aO 22 0] C S (rf mm) (fun C2 => kRunV w mX7_start 35 [some (aO 21 0), some (aI ((hw_ : Int))), some (aO 17 0), some (aI 0), none] [] (uI (uI (uI (uI C2 21 0 4 1) 21 0 5 0) 21 0 3 ((hw_ : Int))) 21 0 6 ((C2 9 0 1))) S (rf mm) P)) : kMetV w mX7_start [aO 21 0, aI ((hw_ : Int)), aO 17 0] C S (rf mm) P := by
  refine cMet_of okX7_start (Nat.le_of_ble_eq_true rfl) (fun hos => ?_)
  show cRun w mX7_start 0 [some (aO 21 0), some (aI ((hw_ : Int))), some (aO 17 0), none, none] [] (mem C S) (rf mm) (kqV (rf mm) S P)
  refine aAload_n (pc' := 1) dX7_start_0 rfl rfl ?_
  refine aGetR (pc' := 4) (q := (22, 0)) dX7_start_1 fX7_12 rfl rfl (lv (by decide)) rfl rfl ?_
  refine cVV (c := 4) (pc' := 7) [] dX7_start_4 lX7_45 okX4_forget ⟨by decide, by decide⟩ npX4_forget rfl rfl rfl rfl rfl (by decide) rfl (cMetV_mono hw (fun J3 hw => ?_))
  obtain ⟨C2, rfl, hw⟩ := hw
  refine aAload_n (pc' := 8) dX7_start_7 rfl rfl ?_
  refine aIconst (pc' := 9) ⟨by decide, by decide⟩ dX7_start_8 rfl ?_
  refine aPutZ (pc' := 12) dX7_start_9 fX7_28 rfl rfl (Or.inl rfl) (lv (by decide)) (by decide) rfl (cEqI (mK rfl) ?_)
  refine aAload_n (pc' := 13) dX7_start_12 rfl rfl ?_
  refine aIconst (pc' := 14) ⟨by decide, by decide⟩ dX7_start_13 rfl ?_
  refine aPutI (pc' := 17) dX7_start_14 fX7_32 rfl rfl (Or.inl rfl) (lv (by decide)) rfl (cEqI (mK rfl) ?_)
  refine aAload_n (pc' := 18) dX7_start_17 rfl rfl ?_
  refine aIload_n (pc' := 19) dX7_start_18 rfl rfl ?_
  refine aPutI (pc' := 22) dX7_start_19 fX7_24 rfl rfl (Or.inl rfl) (lv (by decide)) rfl (cEqI (mK rfl) ?_)
  refine aAload_n (pc' := 23) dX7_start_22 rfl rfl ?_
  refine aAload_n (pc' := 24) dX7_start_23 rfl rfl ?_
  refine aGetR (pc' := 27) (q := (9, 0)) dX7_start_24 fX7_38 rfl rfl (lv (by decide)) rfl rfl ?_
  refine aGetI (pc' := 30) dX7_start_27 fX7_48 rfl rfl (lv (by decide)) rfl ?_
  refine aTopEq (y := ((uI (uI (uI C2 21 0 4 1) 21 0 5 0) 21 0 3 ((hw_ : Int))) 9 0 1)) rfl ?_
  refine aTopEq (((uI_k rfl).trans (uI_k rfl)).trans (uI_k rfl)) ?_
  refine aPutI (pc' := 33) dX7_start_30 fX7_35 rfl rfl (Or.inl rfl) (lv (by decide)) rfl (cEqI (mK rfl) ?_)
  refine aIconst (pc' := 34) ⟨by decide, by decide⟩ dX7_start_33 rfl ?_
  refine aIstore_n (pc' := 35) dX7_start_34 (by decide) rfl (L' := [some (aO 21 0), some (aI ((hw_ : Int))), some (aO 17 0), some (aI 0), none]) rfl ?_
  exact hw
set_option maxRecDepth 100000 in
set_option maxHeartbeats 4000000 in
theorem gX7_start_35 {w : aW} {mm : Nat} {C : aIF} {S : aS} {hw_ : Nat} {l3 : Nat} {P : aIF → Prop} (hw : (((C 21 0 3) ≤ (l3 : Int)) → P C) ∧ ((¬ ((C 21 0 3) ≤ (l3 : Int))) → (l3 < 6) ∧ ((-2147483648 ≤ ((C 17 0 l3) * (C 9 0 0)) ∧ ((C 17 0 l3) * (C 9 0 0)) < 2147483648) ∧ (kMetV w mX2_start [aO 28 l3, aI (((C 17 0 l3) * (C 9 0 0)))] C S (rf mm) (fun C4 => (-2147483648 ≤ ((C4 21 0 6) - ((C 17 0 l3) * (C 9 0 0))) ∧ ((C4 21 0 6) - ((C 17 0 l3) * (C 9 0 0))) < 2147483648) ∧ ((l3 + 1 < 2147483648) ∧ (kRunV w mX7_start 35 [some (aO 21 0), some (aI ((hw_ : Int))), some (aO 17 0), some (aI ((((l3 + 1) : Nat) : Int))), none] [] (uI C4 21 0 6 (((C4 21 0 6) - ((C 17 0 l3) * (C 9 0 0))))) S (rf mm) P))))))) : kRunV w mX7_start 35 [some (aO 21 0), some (aI ((hw_ : Int))), some (aO 17 0), some (aI ((l3 : Int))), none] [] C S (rf mm) P := by
  refine aIload_n (pc' := 36) dX7_start_35 rfl rfl ?_
  refine aAload_n (pc' := 37) dX7_start_36 rfl rfl ?_
  refine aGetI (pc' := 40) dX7_start_37 fX7_24 rfl rfl (lv (by decide)) rfl ?_
  refine aTopEq (y := (C 21 0 3)) rfl ?_
  refine aIcmp_ge (tgt := 84) (pc' := 43) dX7_start_40 (by decide) rfl (fun hc => ?_) (fun hc => ?_)
  · have hw := hw.1 hc
    exact cVret dX7_start_84 okX7_start rfl ⟨rfl, rfl, _, rfl, hw⟩
  · have hw := hw.2 hc
    refine aAload_n (pc' := 44) dX7_start_43 rfl rfl ?_
    refine aIload_n (pc' := 45) dX7_start_44 rfl rfl ?_
    obtain ⟨h1, hw⟩ := hw
    refine aIald (pc' := 46) (j := l3) dX7_start_45 rfl (lv (by decide)) rfl h1 rfl ?_
    refine aTopEq (y := (C 17 0 l3)) rfl ?_
    refine aAload_n (pc' := 47) dX7_start_46 rfl rfl ?_
    refine aGetR (pc' := 50) (q := (9, 0)) dX7_start_47 fX7_38 rfl rfl (lv (by decide)) rfl rfl ?_
    refine aGetI (pc' := 53) dX7_start_50 fX7_53 rfl rfl (lv (by decide)) rfl ?_
    refine aTopEq (y := (C 9 0 0)) rfl ?_
    obtain ⟨h2, hw⟩ := hw
    refine aImul (pc' := 54) h2.1 h2.2 dX7_start_53 rfl ?_
    refine aIstore (pc' := 56) dX7_start_54 (by decide) rfl (L' := [some (aO 21 0), some (aI ((hw_ : Int))), some (aO 17 0), some (aI ((l3 : Int))), some (aI (((C 17 0 l3) * (C 9 0 0))))]) rfl ?_
    refine aAload_n (pc' := 57) dX7_start_56 rfl rfl ?_
    refine aGetR (pc' := 60) (q := (27, 0)) dX7_start_57 fX7_20 rfl rfl (lv (by decide)) rfl rfl ?_
    refine aIload_n (pc' := 61) dX7_start_60 rfl rfl ?_
    refine aAald (pc' := 62) (j := l3) (q := (28, l3)) dX7_start_61 (t := 5) rfl ⟨by decide, by decide⟩ (lv (by decide)) rfl h1 rfl rfl ?_
    refine aIload (pc' := 64) dX7_start_62 rfl rfl ?_
    refine cVV (c := 2) (pc' := 67) [aI (((C 17 0 l3) * (C 9 0 0)))] dX7_start_64 lX7_56 okX2_start ⟨by decide, by decide⟩ npX2_start rfl rfl rfl rfl rfl h1 rfl (cMetV_mono hw (fun J5 hw => ?_))
    obtain ⟨C4, rfl, hw⟩ := hw
    refine aAload_n (pc' := 68) dX7_start_67 rfl rfl ?_
    refine aDup (pc' := 69) rfl dX7_start_68 rfl ?_
    refine aGetI (pc' := 72) dX7_start_69 fX7_35 rfl rfl (lv (by decide)) rfl ?_
    refine aTopEq (y := (C4 21 0 6)) rfl ?_
    refine aIload (pc' := 74) dX7_start_72 rfl rfl ?_
    obtain ⟨h6, hw⟩ := hw
    refine aIsub (pc' := 75) h6.1 h6.2 dX7_start_74 rfl ?_
    refine aPutI (pc' := 78) dX7_start_75 fX7_35 rfl rfl (Or.inl rfl) (lv (by decide)) rfl (cEqI (mK rfl) ?_)
    obtain ⟨h7, hw⟩ := hw
    refine aIinc1 (pc' := 81) dX7_start_78 rfl (by decide) h7 rfl (L' := [some (aO 21 0), some (aI ((hw_ : Int))), some (aO 17 0), some (aI ((((l3 + 1) : Nat) : Int))), some (aI (((C 17 0 l3) * (C 9 0 0))))]) rfl ?_
    refine aGoto (pc' := 35) dX7_start_81 (by decide) ?_
    exact aDrop [4] (L' := [some (aO 21 0), some (aI ((hw_ : Int))), some (aO 17 0), some (aI ((((l3 + 1) : Nat) : Int))), none]) rfl hw
set_option maxRecDepth 100000 in
set_option maxHeartbeats 4000000 in
theorem gX7_tick {w : aW} {mm : Nat} {C : aIF} {S : aS} {P : aIF → Prop} (hw : (-2147483648 ≤ ((C 21 0 5) + 1) ∧ ((C 21 0 5) + 1) < 2147483648) ∧ (kRunV w mX7_tick 12 [some (aO 21 0), some (aI 0), none] [] (uI C 21 0 5 (((C 21 0 5) + 1))) S (rf mm) P)) : kMetV w mX7_tick [aO 21 0] C S (rf mm) P := by
  refine cMet_of okX7_tick (Nat.le_of_ble_eq_true rfl) (fun hos => ?_)
  show cRun w mX7_tick 0 [some (aO 21 0), none, none] [] (mem C S) (rf mm) (kqV (rf mm) S P)
  refine aAload_n (pc' := 1) dX7_tick_0 rfl rfl ?_
  refine aDup (pc' := 2) rfl dX7_tick_1 rfl ?_
  refine aGetI (pc' := 5) dX7_tick_2 fX7_32 rfl rfl (lv (by decide)) rfl ?_
  refine aTopEq (y := (C 21 0 5)) rfl ?_
  refine aIconst (pc' := 6) ⟨by decide, by decide⟩ dX7_tick_5 rfl ?_
  obtain ⟨h1, hw⟩ := hw
  refine aIadd (pc' := 7) h1.1 h1.2 dX7_tick_6 rfl ?_
  refine aPutI (pc' := 10) dX7_tick_7 fX7_32 rfl rfl (Or.inl rfl) (lv (by decide)) rfl (cEqI (mK rfl) ?_)
  refine aIconst (pc' := 11) ⟨by decide, by decide⟩ dX7_tick_10 rfl ?_
  refine aIstore_n (pc' := 12) dX7_tick_11 (by decide) rfl (L' := [some (aO 21 0), some (aI 0), none]) rfl ?_
  exact hw
set_option maxRecDepth 100000 in
set_option maxHeartbeats 4000000 in
theorem gX7_tick_12 {w : aW} {mm : Nat} {C : aIF} {S : aS} {l1 : Nat} {P : aIF → Prop} (hw : (((C 21 0 3) ≤ (l1 : Int)) → (0 ≤ (C 21 0 5) ∧ 0 < (C 9 0 3)) ∧ (((((C 21 0 5) % (C 9 0 3)) ≠ 0) → P C) ∧ ((((C 21 0 5) % (C 9 0 3)) = 0) → kMetV w mX7_redeal [aO 21 0] C S (rf mm) (fun C3 => P C3)))) ∧ ((¬ ((C 21 0 3) ≤ (l1 : Int))) → (l1 < 6) ∧ (kMetI w mX2_isAboutToMake [aO 28 l1] C S (rf mm) (fun x6 C7 => ((x6 = 0) → (((C7 28 l1 3) ≠ 0) → kMetI w mX2_goesOn [aO 28 l1] C7 S (rf mm) (fun x9 C10 => ((x9 = 0) → (l1 + 1 < 2147483648) ∧ (kRunV w mX7_tick 12 [some (aO 21 0), some (aI ((((l1 + 1) : Nat) : Int))), none] [] C10 S (rf mm) P)) ∧ ((¬ (x9 = 0)) → kMetV w mX7_passTick [aO 21 0, aO 28 l1] C10 S (rf mm) (fun C14 => (l1 + 1 < 2147483648) ∧ (kRunV w mX7_tick 12 [some (aO 21 0), some (aI ((((l1 + 1) : Nat) : Int))), none] [] C14 S (rf mm) P))))) ∧ (((C7 28 l1 3) = 0) → kMetV w mX7_doOtherAct [aO 21 0, aO 28 l1] C7 S (rf mm) (fun C18 => (l1 + 1 < 2147483648) ∧ (kRunV w mX7_tick 12 [some (aO 21 0), some (aI ((((l1 + 1) : Nat) : Int))), none] [] C18 S (rf mm) P)))) ∧ ((¬ (x6 = 0)) → kMetV w mX7_tryMake [aO 21 0, aO 28 l1] C7 S (rf mm) (fun C22 => (l1 + 1 < 2147483648) ∧ (kRunV w mX7_tick 12 [some (aO 21 0), some (aI ((((l1 + 1) : Nat) : Int))), none] [] C22 S (rf mm) P))))))) : kRunV w mX7_tick 12 [some (aO 21 0), some (aI ((l1 : Int))), none] [] C S (rf mm) P := by
  refine aIload_n (pc' := 13) dX7_tick_12 rfl rfl ?_
  refine aAload_n (pc' := 14) dX7_tick_13 rfl rfl ?_
  refine aGetI (pc' := 17) dX7_tick_14 fX7_24 rfl rfl (lv (by decide)) rfl ?_
  refine aTopEq (y := (C 21 0 3)) rfl ?_
  refine aIcmp_ge (tgt := 75) (pc' := 20) dX7_tick_17 (by decide) rfl (fun hc => ?_) (fun hc => ?_)
  · have hw := hw.1 hc
    refine aAload_n (pc' := 76) dX7_tick_75 rfl rfl ?_
    refine aGetI (pc' := 79) dX7_tick_76 fX7_32 rfl rfl (lv (by decide)) rfl ?_
    refine aTopEq (y := (C 21 0 5)) rfl ?_
    refine aAload_n (pc' := 80) dX7_tick_79 rfl rfl ?_
    refine aGetR (pc' := 83) (q := (9, 0)) dX7_tick_80 fX7_38 rfl rfl (lv (by decide)) rfl rfl ?_
    refine aGetI (pc' := 86) dX7_tick_83 fX7_80 rfl rfl (lv (by decide)) rfl ?_
    refine aTopEq (y := (C 9 0 3)) rfl ?_
    obtain ⟨h1, hw⟩ := hw
    refine aIrem (pc' := 87) h1.1 h1.2 dX7_tick_86 rfl ?_
    refine aIf_ne (tgt := 94) (pc' := 90) dX7_tick_87 (by decide) rfl (fun hc => ?_) (fun hc => ?_)
    · have hw := hw.1 hc
      exact cVret dX7_tick_94 okX7_tick rfl ⟨rfl, rfl, _, rfl, hw⟩
    · have hw := hw.2 hc
      refine aAload_n (pc' := 91) dX7_tick_90 rfl rfl ?_
      refine cVV (c := 7) (pc' := 94) [] dX7_tick_91 lX7_83 okX7_redeal ⟨by decide, by decide⟩ npX7_redeal rfl rfl rfl rfl rfl (by decide) rfl (cMetV_mono hw (fun J4 hw => ?_))
      obtain ⟨C3, rfl, hw⟩ := hw
      exact cVret dX7_tick_94 okX7_tick rfl ⟨rfl, rfl, _, rfl, hw⟩
  · have hw := hw.2 hc
    refine aAload_n (pc' := 21) dX7_tick_20 rfl rfl ?_
    refine aGetR (pc' := 24) (q := (27, 0)) dX7_tick_21 fX7_20 rfl rfl (lv (by decide)) rfl rfl ?_
    refine aIload_n (pc' := 25) dX7_tick_24 rfl rfl ?_
    obtain ⟨h5, hw⟩ := hw
    refine aAald (pc' := 26) (j := l1) (q := (28, l1)) dX7_tick_25 (t := 5) rfl ⟨by decide, by decide⟩ (lv (by decide)) rfl h5 rfl rfl ?_
    refine aAstore_n (pc' := 27) dX7_tick_26 (by decide) rfl (L' := [some (aO 21 0), some (aI ((l1 : Int))), some (aO 28 l1)]) rfl ?_
    refine aAload_n (pc' := 28) dX7_tick_27 rfl rfl ?_
    refine cVI (c := 2) (pc' := 31) [] dX7_tick_28 lX7_64 okX2_isAboutToMake ⟨by decide, by decide⟩ npX2_isAboutToMake rfl rfl rfl rfl rfl h5 rfl (cMetI_mono hw (fun x6 J8 hw => ?_))
    obtain ⟨C7, rfl, hw⟩ := hw
    refine aIf_eq (tgt := 42) (pc' := 34) dX7_tick_31 (by decide) rfl (fun hc => ?_) (fun hc => ?_)
    · have hw := hw.1 hc
      refine aAload_n (pc' := 43) dX7_tick_42 rfl rfl ?_
      refine aGetI (pc' := 46) dX7_tick_43 fX7_71 rfl rfl (lv h5) rfl ?_
      refine aTopEq (y := (C7 28 l1 3)) rfl ?_
      refine aIf_ne (tgt := 57) (pc' := 49) dX7_tick_46 (by decide) rfl (fun hc => ?_) (fun hc => ?_)
      · have hw := hw.1 hc
        refine aAload_n (pc' := 58) dX7_tick_57 rfl rfl ?_
        refine cVI (c := 2) (pc' := 61) [] dX7_tick_58 lX7_60 okX2_goesOn ⟨by decide, by decide⟩ npX2_goesOn rfl rfl rfl rfl rfl h5 rfl (cMetI_mono hw (fun x9 J11 hw => ?_))
        obtain ⟨C10, rfl, hw⟩ := hw
        refine aIf_eq (tgt := 69) (pc' := 64) dX7_tick_61 (by decide) rfl (fun hc => ?_) (fun hc => ?_)
        · have hw := hw.1 hc
          obtain ⟨h12, hw⟩ := hw
          refine aIinc1 (pc' := 72) dX7_tick_69 rfl (by decide) h12 rfl (L' := [some (aO 21 0), some (aI ((((l1 + 1) : Nat) : Int))), some (aO 28 l1)]) rfl ?_
          refine aGoto (pc' := 12) dX7_tick_72 (by decide) ?_
          exact aDrop [2] (L' := [some (aO 21 0), some (aI ((((l1 + 1) : Nat) : Int))), none]) rfl hw
        · have hw := hw.2 hc
          refine aAload_n (pc' := 65) dX7_tick_64 rfl rfl ?_
          refine aAload_n (pc' := 66) dX7_tick_65 rfl rfl ?_
          refine cVV (c := 7) (pc' := 69) [aO 28 l1] dX7_tick_66 lX7_77 okX7_passTick ⟨by decide, by decide⟩ npX7_passTick rfl rfl rfl rfl rfl (by decide) rfl (cMetV_mono hw (fun J15 hw => ?_))
          obtain ⟨C14, rfl, hw⟩ := hw
          obtain ⟨h16, hw⟩ := hw
          refine aIinc1 (pc' := 72) dX7_tick_69 rfl (by decide) h16 rfl (L' := [some (aO 21 0), some (aI ((((l1 + 1) : Nat) : Int))), some (aO 28 l1)]) rfl ?_
          refine aGoto (pc' := 12) dX7_tick_72 (by decide) ?_
          exact aDrop [2] (L' := [some (aO 21 0), some (aI ((((l1 + 1) : Nat) : Int))), none]) rfl hw
      · have hw := hw.2 hc
        refine aAload_n (pc' := 50) dX7_tick_49 rfl rfl ?_
        refine aAload_n (pc' := 51) dX7_tick_50 rfl rfl ?_
        refine cVV (c := 7) (pc' := 54) [aO 28 l1] dX7_tick_51 lX7_74 okX7_doOtherAct ⟨by decide, by decide⟩ npX7_doOtherAct rfl rfl rfl rfl rfl (by decide) rfl (cMetV_mono hw (fun J19 hw => ?_))
        obtain ⟨C18, rfl, hw⟩ := hw
        refine aGoto (pc' := 69) dX7_tick_54 (by decide) ?_
        obtain ⟨h20, hw⟩ := hw
        refine aIinc1 (pc' := 72) dX7_tick_69 rfl (by decide) h20 rfl (L' := [some (aO 21 0), some (aI ((((l1 + 1) : Nat) : Int))), some (aO 28 l1)]) rfl ?_
        refine aGoto (pc' := 12) dX7_tick_72 (by decide) ?_
        exact aDrop [2] (L' := [some (aO 21 0), some (aI ((((l1 + 1) : Nat) : Int))), none]) rfl hw
    · have hw := hw.2 hc
      refine aAload_n (pc' := 35) dX7_tick_34 rfl rfl ?_
      refine aAload_n (pc' := 36) dX7_tick_35 rfl rfl ?_
      refine cVV (c := 7) (pc' := 39) [aO 28 l1] dX7_tick_36 lX7_67 okX7_tryMake ⟨by decide, by decide⟩ npX7_tryMake rfl rfl rfl rfl rfl (by decide) rfl (cMetV_mono hw (fun J23 hw => ?_))
      obtain ⟨C22, rfl, hw⟩ := hw
      refine aGoto (pc' := 69) dX7_tick_39 (by decide) ?_
      obtain ⟨h24, hw⟩ := hw
      refine aIinc1 (pc' := 72) dX7_tick_69 rfl (by decide) h24 rfl (L' := [some (aO 21 0), some (aI ((((l1 + 1) : Nat) : Int))), some (aO 28 l1)]) rfl ?_
      refine aGoto (pc' := 12) dX7_tick_72 (by decide) ?_
      exact aDrop [2] (L' := [some (aO 21 0), some (aI ((((l1 + 1) : Nat) : Int))), none]) rfl hw
set_option maxRecDepth 100000 in
set_option maxHeartbeats 4000000 in
theorem gX7_tryMake {w : aW} {mm : Nat} {C : aIF} {S : aS} {p1 : Nat} {P : aIF → Prop} (hp1 : p1 < 6) (hw : kMetI w mX2_nextAct [aO 28 p1] C S (rf mm) (fun x1 C2 => kMetI w mX2_fits [aO 28 p1, aI x1] C2 S (rf mm) (fun x4 C5 => ((x4 ≠ 0) → kMetV w mX2_makeNow [aO 28 p1, aI x1] C5 S (rf mm) (fun C8 => kMetV w mX7_endAct [aO 21 0, aO 28 p1] C8 S (rf mm) (fun C11 => P C11))) ∧ ((x4 = 0) → (((C5 28 p1 5) ≤ (C5 29 p1 2)) → kMetI w mX7_getsByAsking [aO 21 0, aO 28 p1, aI x1] C5 S (rf mm) (fun x13 C14 => ((x13 ≠ 0) → kMetV w mX2_makeNow [aO 28 p1, aI x1] C14 S (rf mm) (fun C17 => kMetV w mX7_endAct [aO 21 0, aO 28 p1] C17 S (rf mm) (fun C20 => P C20))) ∧ ((x13 = 0) → kMetV w mX7_leave [aO 21 0, aO 28 p1, aI 4, aI 2] C14 S (rf mm) (fun C23 => P C23)))) ∧ ((¬ ((C5 28 p1 5) ≤ (C5 29 p1 2))) → kMetI w mX7_collect [aO 21 0, aO 28 p1] C5 S (rf mm) (fun x25 C26 => (-2147483648 ≤ (x25 - 1) ∧ (x25 - 1) < 2147483648) ∧ (kMetV w mX2_waitFor [aO 28 p1, aI ((x25 - 1)), aI 1] C26 S (rf mm) (fun C30 => P C30)))))))) : kMetV w mX7_tryMake [aO 21 0, aO 28 p1] C S (rf mm) P := by
  refine cMet_of okX7_tryMake (Nat.le_of_ble_eq_true rfl) (fun hos => ?_)
  show cRun w mX7_tryMake 0 [some (aO 21 0), some (aO 28 p1), none] [] (mem C S) (rf mm) (kqV (rf mm) S P)
  refine aAload_n (pc' := 1) dX7_tryMake_0 rfl rfl ?_
  refine cVI (c := 2) (pc' := 4) [] dX7_tryMake_1 lX7_99 okX2_nextAct ⟨by decide, by decide⟩ npX2_nextAct rfl rfl rfl rfl rfl hp1 rfl (cMetI_mono hw (fun x1 J3 hw => ?_))
  obtain ⟨C2, rfl, hw⟩ := hw
  refine aIstore_n (pc' := 5) dX7_tryMake_4 (by decide) rfl (L' := [some (aO 21 0), some (aO 28 p1), some (aI x1)]) rfl ?_
  refine aAload_n (pc' := 6) dX7_tryMake_5 rfl rfl ?_
  refine aIload_n (pc' := 7) dX7_tryMake_6 rfl rfl ?_
  refine cVI (c := 2) (pc' := 10) [aI x1] dX7_tryMake_7 lX7_112 okX2_fits ⟨by decide, by decide⟩ npX2_fits rfl rfl rfl rfl rfl hp1 rfl (cMetI_mono hw (fun x4 J6 hw => ?_))
  obtain ⟨C5, rfl, hw⟩ := hw
  refine aIf_ne (tgt := 57) (pc' := 13) dX7_tryMake_10 (by decide) rfl (fun hc => ?_) (fun hc => ?_)
  · have hw := hw.1 hc
    refine aAload_n (pc' := 58) dX7_tryMake_57 rfl rfl ?_
    refine aIload_n (pc' := 59) dX7_tryMake_58 rfl rfl ?_
    refine cVV (c := 2) (pc' := 62) [aI x1] dX7_tryMake_59 lX7_134 okX2_makeNow ⟨by decide, by decide⟩ npX2_makeNow rfl rfl rfl rfl rfl hp1 rfl (cMetV_mono hw (fun J9 hw => ?_))
    obtain ⟨C8, rfl, hw⟩ := hw
    refine aAload_n (pc' := 63) dX7_tryMake_62 rfl rfl ?_
    refine aAload_n (pc' := 64) dX7_tryMake_63 rfl rfl ?_
    refine cVV (c := 7) (pc' := 67) [aO 28 p1] dX7_tryMake_64 lX7_96 okX7_endAct ⟨by decide, by decide⟩ npX7_endAct rfl rfl rfl rfl rfl (by decide) rfl (cMetV_mono hw (fun J12 hw => ?_))
    obtain ⟨C11, rfl, hw⟩ := hw
    exact cVret dX7_tryMake_67 okX7_tryMake rfl ⟨rfl, rfl, _, rfl, hw⟩
  · have hw := hw.2 hc
    refine aAload_n (pc' := 14) dX7_tryMake_13 rfl rfl ?_
    refine aGetI (pc' := 17) dX7_tryMake_14 fX7_116 rfl rfl (lv hp1) rfl ?_
    refine aTopEq (y := (C5 28 p1 5)) rfl ?_
    refine aAload_n (pc' := 18) dX7_tryMake_17 rfl rfl ?_
    refine aGetR (pc' := 21) (q := (29, p1)) dX7_tryMake_18 fX7_103 rfl rfl (lv hp1) rfl rfl ?_
    refine aGetI (pc' := 24) dX7_tryMake_21 fX7_119 rfl rfl (lv hp1) rfl ?_
    refine aTopEq (y := (C5 29 p1 2)) rfl ?_
    refine aIcmp_le (tgt := 40) (pc' := 27) dX7_tryMake_24 (by decide) rfl (fun hc => ?_) (fun hc => ?_)
    · have hw := hw.1 hc
      refine aAload_n (pc' := 41) dX7_tryMake_40 rfl rfl ?_
      refine aAload_n (pc' := 42) dX7_tryMake_41 rfl rfl ?_
      refine aIload_n (pc' := 43) dX7_tryMake_42 rfl rfl ?_
      refine cVI (c := 7) (pc' := 46) [aO 28 p1, aI x1] dX7_tryMake_43 lX7_126 okX7_getsByAsking ⟨by decide, by decide⟩ npX7_getsByAsking rfl rfl rfl rfl rfl (by decide) rfl (cMetI_mono hw (fun x13 J15 hw => ?_))
      obtain ⟨C14, rfl, hw⟩ := hw
      refine aIf_ne (tgt := 57) (pc' := 49) dX7_tryMake_46 (by decide) rfl (fun hc => ?_) (fun hc => ?_)
      · have hw := hw.1 hc
        refine aAload_n (pc' := 58) dX7_tryMake_57 rfl rfl ?_
        refine aIload_n (pc' := 59) dX7_tryMake_58 rfl rfl ?_
        refine cVV (c := 2) (pc' := 62) [aI x1] dX7_tryMake_59 lX7_134 okX2_makeNow ⟨by decide, by decide⟩ npX2_makeNow rfl rfl rfl rfl rfl hp1 rfl (cMetV_mono hw (fun J18 hw => ?_))
        obtain ⟨C17, rfl, hw⟩ := hw
        refine aAload_n (pc' := 63) dX7_tryMake_62 rfl rfl ?_
        refine aAload_n (pc' := 64) dX7_tryMake_63 rfl rfl ?_
        refine cVV (c := 7) (pc' := 67) [aO 28 p1] dX7_tryMake_64 lX7_96 okX7_endAct ⟨by decide, by decide⟩ npX7_endAct rfl rfl rfl rfl rfl (by decide) rfl (cMetV_mono hw (fun J21 hw => ?_))
        obtain ⟨C20, rfl, hw⟩ := hw
        exact cVret dX7_tryMake_67 okX7_tryMake rfl ⟨rfl, rfl, _, rfl, hw⟩
      · have hw := hw.2 hc
        refine aAload_n (pc' := 50) dX7_tryMake_49 rfl rfl ?_
        refine aAload_n (pc' := 51) dX7_tryMake_50 rfl rfl ?_
        refine aIconst (pc' := 52) ⟨by decide, by decide⟩ dX7_tryMake_51 rfl ?_
        refine aIconst (pc' := 53) ⟨by decide, by decide⟩ dX7_tryMake_52 rfl ?_
        refine cVV (c := 7) (pc' := 56) [aO 28 p1, aI 4, aI 2] dX7_tryMake_53 lX7_130 okX7_leave ⟨by decide, by decide⟩ npX7_leave rfl rfl rfl rfl rfl (by decide) rfl (cMetV_mono hw (fun J24 hw => ?_))
        obtain ⟨C23, rfl, hw⟩ := hw
        exact cVret dX7_tryMake_56 okX7_tryMake rfl ⟨rfl, rfl, _, rfl, hw⟩
    · have hw := hw.2 hc
      refine aAload_n (pc' := 28) dX7_tryMake_27 rfl rfl ?_
      refine aAload_n (pc' := 29) dX7_tryMake_28 rfl rfl ?_
      refine aAload_n (pc' := 30) dX7_tryMake_29 rfl rfl ?_
      refine cVI (c := 7) (pc' := 33) [aO 28 p1] dX7_tryMake_30 lX7_122 okX7_collect ⟨by decide, by decide⟩ npX7_collect rfl rfl rfl rfl rfl (by decide) rfl (cMetI_mono hw (fun x25 J27 hw => ?_))
      obtain ⟨C26, rfl, hw⟩ := hw
      refine aIconst (pc' := 34) ⟨by decide, by decide⟩ dX7_tryMake_33 rfl ?_
      obtain ⟨h28, hw⟩ := hw
      refine aIsub (pc' := 35) h28.1 h28.2 dX7_tryMake_34 rfl ?_
      refine aIconst (pc' := 36) ⟨by decide, by decide⟩ dX7_tryMake_35 rfl ?_
      refine cVV (c := 2) (pc' := 39) [aI ((x25 - 1)), aI 1] dX7_tryMake_36 lX7_89 okX2_waitFor ⟨by decide, by decide⟩ npX2_waitFor rfl rfl rfl rfl rfl hp1 rfl (cMetV_mono hw (fun J31 hw => ?_))
      obtain ⟨C30, rfl, hw⟩ := hw
      exact cVret dX7_tryMake_39 okX7_tryMake rfl ⟨rfl, rfl, _, rfl, hw⟩
set_option maxRecDepth 100000 in
set_option maxHeartbeats 4000000 in
theorem gX7_wake {w : aW} {mm : Nat} {C : aIF} {S : aS} {p1 : Nat} {P : aIF → Prop} (hp1 : p1 < 6) (hw : (((C 28 p1 13) ≠ 0) → (-2147483648 ≤ ((C 28 p1 14) - (C 28 p1 4)) ∧ ((C 28 p1 14) - (C 28 p1 4)) < 2147483648) ∧ ((-2147483648 ≤ ((C 21 0 6) - (min (C 21 0 6) (max ((C 28 p1 14) - (C 28 p1 4)) 0))) ∧ ((C 21 0 6) - (min (C 21 0 6) (max ((C 28 p1 14) - (C 28 p1 4)) 0))) < 2147483648) ∧ ((-2147483648 ≤ ((C 28 p1 4) + (min (C 21 0 6) (max ((C 28 p1 14) - (C 28 p1 4)) 0))) ∧ ((C 28 p1 4) + (min (C 21 0 6) (max ((C 28 p1 14) - (C 28 p1 4)) 0))) < 2147483648) ∧ (kMetV w mX4_add [aO 22 0, aI ((C 21 0 5)), aI ((C 28 p1 1)), aI 5, aI ((min (C 21 0 6) (max ((C 28 p1 14) - (C 28 p1 4)) 0)))] (uI (uI (uI C 21 0 6 (((C 21 0 6) - (min (C 21 0 6) (max ((C 28 p1 14) - (C 28 p1 4)) 0))))) 28 p1 4 (((C 28 p1 4) + (min (C 21 0 6) (max ((C 28 p1 14) - (C 28 p1 4)) 0))))) 28 p1 13 0) S (rf mm) (fun C5 => P C5))))) ∧ (((C 28 p1 13) = 0) → P C)) : kMetV w mX7_wake [aO 21 0, aO 28 p1] C S (rf mm) P := by
  refine cMet_of okX7_wake (Nat.le_of_ble_eq_true rfl) (fun hos => ?_)
  show cRun w mX7_wake 0 [some (aO 21 0), some (aO 28 p1), none] [] (mem C S) (rf mm) (kqV (rf mm) S P)
  refine aAload_n (pc' := 1) dX7_wake_0 rfl rfl ?_
  refine aGetI (pc' := 4) dX7_wake_1 fX7_137 rfl rfl (lv hp1) rfl ?_
  refine aTopEq (y := (C 28 p1 13)) rfl ?_
  refine aIf_ne (tgt := 8) (pc' := 7) dX7_wake_4 (by decide) rfl (fun hc => ?_) (fun hc => ?_)
  · have hw := hw.1 hc
    refine aAload_n (pc' := 9) dX7_wake_8 rfl rfl ?_
    refine aGetI (pc' := 12) dX7_wake_9 fX7_35 rfl rfl (lv (by decide)) rfl ?_
    refine aTopEq (y := (C 21 0 6)) rfl ?_
    refine aAload_n (pc' := 13) dX7_wake_12 rfl rfl ?_
    refine aGetI (pc' := 16) dX7_wake_13 fX7_140 rfl rfl (lv hp1) rfl ?_
    refine aTopEq (y := (C 28 p1 14)) rfl ?_
    refine aAload_n (pc' := 17) dX7_wake_16 rfl rfl ?_
    refine aGetI (pc' := 20) dX7_wake_17 fX7_143 rfl rfl (lv hp1) rfl ?_
    refine aTopEq (y := (C 28 p1 4)) rfl ?_
    obtain ⟨h1, hw⟩ := hw
    refine aIsub (pc' := 21) h1.1 h1.2 dX7_wake_20 rfl ?_
    refine aIconst (pc' := 22) ⟨by decide, by decide⟩ dX7_wake_21 rfl ?_
    refine aMax (pc' := 25) dX7_wake_22 lX7_146 rfl rfl (Nat.le_refl _) (Nat.le_refl _) rfl ?_
    refine aMin (pc' := 28) dX7_wake_25 lX7_152 rfl rfl (Nat.le_refl _) (Nat.le_refl _) rfl ?_
    refine aIstore_n (pc' := 29) dX7_wake_28 (by decide) rfl (L' := [some (aO 21 0), some (aO 28 p1), some (aI ((min (C 21 0 6) (max ((C 28 p1 14) - (C 28 p1 4)) 0))))]) rfl ?_
    refine aAload_n (pc' := 30) dX7_wake_29 rfl rfl ?_
    refine aDup (pc' := 31) rfl dX7_wake_30 rfl ?_
    refine aGetI (pc' := 34) dX7_wake_31 fX7_35 rfl rfl (lv (by decide)) rfl ?_
    refine aTopEq (y := (C 21 0 6)) rfl ?_
    refine aIload_n (pc' := 35) dX7_wake_34 rfl rfl ?_
    obtain ⟨h2, hw⟩ := hw
    refine aIsub (pc' := 36) h2.1 h2.2 dX7_wake_35 rfl ?_
    refine aPutI (pc' := 39) dX7_wake_36 fX7_35 rfl rfl (Or.inl rfl) (lv (by decide)) rfl (cEqI (mK rfl) ?_)
    refine aAload_n (pc' := 40) dX7_wake_39 rfl rfl ?_
    refine aDup (pc' := 41) rfl dX7_wake_40 rfl ?_
    refine aGetI (pc' := 44) dX7_wake_41 fX7_143 rfl rfl (lv hp1) rfl ?_
    refine aTopEq (y := ((uI C 21 0 6 (((C 21 0 6) - (min (C 21 0 6) (max ((C 28 p1 14) - (C 28 p1 4)) 0))))) 28 p1 4)) rfl ?_
    refine aTopEq (uI_k rfl) ?_
    refine aIload_n (pc' := 45) dX7_wake_44 rfl rfl ?_
    obtain ⟨h3, hw⟩ := hw
    refine aIadd (pc' := 46) h3.1 h3.2 dX7_wake_45 rfl ?_
    refine aPutI (pc' := 49) dX7_wake_46 fX7_143 rfl rfl (Or.inl rfl) (lv hp1) rfl (cEqI (mK rfl) ?_)
    refine aAload_n (pc' := 50) dX7_wake_49 rfl rfl ?_
    refine aIconst (pc' := 51) ⟨by decide, by decide⟩ dX7_wake_50 rfl ?_
    refine aPutZ (pc' := 54) dX7_wake_51 fX7_137 rfl rfl (Or.inl rfl) (lv hp1) (by decide) rfl (cEqI (mK rfl) ?_)
    refine aAload_n (pc' := 55) dX7_wake_54 rfl rfl ?_
    refine aGetR (pc' := 58) (q := (22, 0)) dX7_wake_55 fX7_12 rfl rfl (lv (by decide)) rfl rfl ?_
    refine aAload_n (pc' := 59) dX7_wake_58 rfl rfl ?_
    refine aGetI (pc' := 62) dX7_wake_59 fX7_32 rfl rfl (lv (by decide)) rfl ?_
    refine aTopEq (y := ((uI (uI (uI C 21 0 6 (((C 21 0 6) - (min (C 21 0 6) (max ((C 28 p1 14) - (C 28 p1 4)) 0))))) 28 p1 4 (((C 28 p1 4) + (min (C 21 0 6) (max ((C 28 p1 14) - (C 28 p1 4)) 0))))) 28 p1 13 0) 21 0 5)) rfl ?_
    refine aTopEq (((uI_k rfl).trans (uI_k rfl)).trans (uI_j rfl)) ?_
    refine aAload_n (pc' := 63) dX7_wake_62 rfl rfl ?_
    refine aGetI (pc' := 66) dX7_wake_63 fX7_155 rfl rfl (lv hp1) rfl ?_
    refine aTopEq (y := ((uI (uI (uI C 21 0 6 (((C 21 0 6) - (min (C 21 0 6) (max ((C 28 p1 14) - (C 28 p1 4)) 0))))) 28 p1 4 (((C 28 p1 4) + (min (C 21 0 6) (max ((C 28 p1 14) - (C 28 p1 4)) 0))))) 28 p1 13 0) 28 p1 1)) rfl ?_
    refine aTopEq (((uI_j rfl).trans (uI_j rfl)).trans (uI_k rfl)) ?_
    refine aIconst (pc' := 67) ⟨by decide, by decide⟩ dX7_wake_66 rfl ?_
    refine aIload_n (pc' := 68) dX7_wake_67 rfl rfl ?_
    refine cVV (c := 4) (pc' := 71) [aI ((C 21 0 5)), aI ((C 28 p1 1)), aI 5, aI ((min (C 21 0 6) (max ((C 28 p1 14) - (C 28 p1 4)) 0)))] dX7_wake_68 lX7_158 okX4_add ⟨by decide, by decide⟩ npX4_add rfl rfl rfl rfl rfl (by decide) rfl (cMetV_mono hw (fun J6 hw => ?_))
    obtain ⟨C5, rfl, hw⟩ := hw
    exact cVret dX7_wake_71 okX7_wake rfl ⟨rfl, rfl, _, rfl, hw⟩
  · have hw := hw.2 hc
    exact cVret dX7_wake_7 okX7_wake rfl ⟨rfl, rfl, _, rfl, hw⟩
set_option maxRecDepth 100000 in
set_option maxHeartbeats 4000000 in
theorem gX7_whoGainsMost {w : aW} {mm : Nat} {C : aIF} {S : aS} {P : Int → aIF → Prop} (hw : kRunI w mX7_whoGainsMost 7 [some (aO 21 0), some (aI ((-1))), some (aL 0), none, some (aI 0), none, none] [] C S (rf mm) P) : kMetI w mX7_whoGainsMost [aO 21 0] C S (rf mm) P := by
  refine cMet_of okX7_whoGainsMost (Nat.le_of_ble_eq_true rfl) (fun hos => ?_)
  show cRun w mX7_whoGainsMost 0 [some (aO 21 0), none, none, none, none, none, none] [] (mem C S) (rf mm) (kqI (rf mm) S P)
  refine aIconst (pc' := 1) ⟨by decide, by decide⟩ dX7_whoGainsMost_0 rfl ?_
  refine aIstore_n (pc' := 2) dX7_whoGainsMost_1 (by decide) rfl (L' := [some (aO 21 0), some (aI ((-1))), none, none, none, none, none]) rfl ?_
  refine aLconst0 (pc' := 3) dX7_whoGainsMost_2 rfl ?_
  refine aLstore_n (pc' := 4) dX7_whoGainsMost_3 (by decide) rfl (L' := [some (aO 21 0), some (aI ((-1))), some (aL 0), none, none, none, none]) rfl ?_
  refine aIconst (pc' := 5) ⟨by decide, by decide⟩ dX7_whoGainsMost_4 rfl ?_
  refine aIstore (pc' := 7) dX7_whoGainsMost_5 (by decide) rfl (L' := [some (aO 21 0), some (aI ((-1))), some (aL 0), none, some (aI 0), none, none]) rfl ?_
  exact hw
set_option maxRecDepth 100000 in
set_option maxHeartbeats 4000000 in
theorem gX7_whoGainsMost_7 {w : aW} {mm : Nat} {C : aIF} {S : aS} {l1 : Int} {l2 : Int} {l4 : Nat} {P : Int → aIF → Prop} (hw : (((C 21 0 3) ≤ (l4 : Int)) → P l1 C) ∧ ((¬ ((C 21 0 3) ≤ (l4 : Int))) → (l4 < 6) ∧ (kMetL w mX2_gain [aO 28 l4, aO 9 0] C S (rf mm) (fun x2 C3 => ((x2 ≤ l2) → (l4 + 1 < 2147483648) ∧ (kRunI w mX7_whoGainsMost 7 [some (aO 21 0), some (aI l1), some (aL l2), none, some (aI ((((l4 + 1) : Nat) : Int))), none, none] [] C3 S (rf mm) P)) ∧ ((¬ (x2 ≤ l2)) → (l4 + 1 < 2147483648) ∧ (kRunI w mX7_whoGainsMost 7 [some (aO 21 0), some (aI ((l4 : Int))), some (aL x2), none, some (aI ((((l4 + 1) : Nat) : Int))), none, none] [] C3 S (rf mm) P)))))) : kRunI w mX7_whoGainsMost 7 [some (aO 21 0), some (aI l1), some (aL l2), none, some (aI ((l4 : Int))), none, none] [] C S (rf mm) P := by
  refine aIload (pc' := 9) dX7_whoGainsMost_7 rfl rfl ?_
  refine aAload_n (pc' := 10) dX7_whoGainsMost_9 rfl rfl ?_
  refine aGetI (pc' := 13) dX7_whoGainsMost_10 fX7_24 rfl rfl (lv (by decide)) rfl ?_
  refine aTopEq (y := (C 21 0 3)) rfl ?_
  refine aIcmp_ge (tgt := 51) (pc' := 16) dX7_whoGainsMost_13 (by decide) rfl (fun hc => ?_) (fun hc => ?_)
  · have hw := hw.1 hc
    refine aIload_n (pc' := 52) dX7_whoGainsMost_51 rfl rfl ?_
    exact cIret dX7_whoGainsMost_52 okX7_whoGainsMost rfl ⟨rfl, _, rfl, _, rfl, hw⟩
  · have hw := hw.2 hc
    refine aAload_n (pc' := 17) dX7_whoGainsMost_16 rfl rfl ?_
    refine aGetR (pc' := 20) (q := (27, 0)) dX7_whoGainsMost_17 fX7_20 rfl rfl (lv (by decide)) rfl rfl ?_
    refine aIload (pc' := 22) dX7_whoGainsMost_20 rfl rfl ?_
    obtain ⟨h1, hw⟩ := hw
    refine aAald (pc' := 23) (j := l4) (q := (28, l4)) dX7_whoGainsMost_22 (t := 5) rfl ⟨by decide, by decide⟩ (lv (by decide)) rfl h1 rfl rfl ?_
    refine aAload_n (pc' := 24) dX7_whoGainsMost_23 rfl rfl ?_
    refine aGetR (pc' := 27) (q := (9, 0)) dX7_whoGainsMost_24 fX7_38 rfl rfl (lv (by decide)) rfl rfl ?_
    refine cVL (c := 2) (pc' := 30) [aO 9 0] dX7_whoGainsMost_27 lX7_246 okX2_gain ⟨by decide, by decide⟩ npX2_gain rfl rfl rfl rfl rfl h1 rfl (cMetL_mono hw (fun x2 J4 hw => ?_))
    obtain ⟨C3, rfl, hw⟩ := hw
    refine aLstore (pc' := 32) dX7_whoGainsMost_30 (by decide) rfl (L' := [some (aO 21 0), some (aI l1), some (aL l2), none, some (aI ((l4 : Int))), some (aL x2), none]) rfl ?_
    refine aLload (pc' := 34) dX7_whoGainsMost_32 rfl rfl ?_
    refine aLload_n (pc' := 35) dX7_whoGainsMost_34 rfl rfl ?_
    refine aLc_le (tgt := 45) (p1 := 36) (pc' := 39) dX7_whoGainsMost_35 rfl dX7_whoGainsMost_36 (by decide) rfl (fun hc => ?_) (fun hc => ?_)
    · have hw := hw.1 hc
      obtain ⟨h5, hw⟩ := hw
      refine aIinc1 (pc' := 48) dX7_whoGainsMost_45 rfl (by decide) h5 rfl (L' := [some (aO 21 0), some (aI l1), some (aL l2), none, some (aI ((((l4 + 1) : Nat) : Int))), some (aL x2), none]) rfl ?_
      refine aGoto (pc' := 7) dX7_whoGainsMost_48 (by decide) ?_
      exact aDrop [5] (L' := [some (aO 21 0), some (aI l1), some (aL l2), none, some (aI ((((l4 + 1) : Nat) : Int))), none, none]) rfl hw
    · have hw := hw.2 hc
      refine aLload (pc' := 41) dX7_whoGainsMost_39 rfl rfl ?_
      refine aLstore_n (pc' := 42) dX7_whoGainsMost_41 (by decide) rfl (L' := [some (aO 21 0), some (aI l1), some (aL x2), none, some (aI ((l4 : Int))), some (aL x2), none]) rfl ?_
      refine aIload (pc' := 44) dX7_whoGainsMost_42 rfl rfl ?_
      refine aIstore_n (pc' := 45) dX7_whoGainsMost_44 (by decide) rfl (L' := [some (aO 21 0), some (aI ((l4 : Int))), some (aL x2), none, some (aI ((l4 : Int))), some (aL x2), none]) rfl ?_
      obtain ⟨h6, hw⟩ := hw
      refine aIinc1 (pc' := 48) dX7_whoGainsMost_45 rfl (by decide) h6 rfl (L' := [some (aO 21 0), some (aI ((l4 : Int))), some (aL x2), none, some (aI ((((l4 + 1) : Nat) : Int))), some (aL x2), none]) rfl ?_
      refine aGoto (pc' := 7) dX7_whoGainsMost_48 (by decide) ?_
      exact aDrop [5] (L' := [some (aO 21 0), some (aI ((l4 : Int))), some (aL x2), none, some (aI ((((l4 + 1) : Nat) : Int))), none, none]) rfl hw
set_option maxRecDepth 100000 in
set_option maxHeartbeats 4000000 in
theorem gX7_whoLosesLeast {w : aW} {mm : Nat} {C : aIF} {S : aS} {nt : Int} {P : Int → aIF → Prop} (hw : kRunI w mX7_whoLosesLeast 7 [some (aO 21 0), some (aI nt), some (aI ((-1))), some (aL 0), none, some (aI 0), none, none] [] C S (rf mm) P) : kMetI w mX7_whoLosesLeast [aO 21 0, aI nt] C S (rf mm) P := by
  refine cMet_of okX7_whoLosesLeast (Nat.le_of_ble_eq_true rfl) (fun hos => ?_)
  show cRun w mX7_whoLosesLeast 0 [some (aO 21 0), some (aI nt), none, none, none, none, none, none] [] (mem C S) (rf mm) (kqI (rf mm) S P)
  refine aIconst (pc' := 1) ⟨by decide, by decide⟩ dX7_whoLosesLeast_0 rfl ?_
  refine aIstore_n (pc' := 2) dX7_whoLosesLeast_1 (by decide) rfl (L' := [some (aO 21 0), some (aI nt), some (aI ((-1))), none, none, none, none, none]) rfl ?_
  refine aLconst0 (pc' := 3) dX7_whoLosesLeast_2 rfl ?_
  refine aLstore_n (pc' := 4) dX7_whoLosesLeast_3 (by decide) rfl (L' := [some (aO 21 0), some (aI nt), some (aI ((-1))), some (aL 0), none, none, none, none]) rfl ?_
  refine aIconst (pc' := 5) ⟨by decide, by decide⟩ dX7_whoLosesLeast_4 rfl ?_
  refine aIstore (pc' := 7) dX7_whoLosesLeast_5 (by decide) rfl (L' := [some (aO 21 0), some (aI nt), some (aI ((-1))), some (aL 0), none, some (aI 0), none, none]) rfl ?_
  exact hw
set_option maxRecDepth 100000 in
set_option maxHeartbeats 4000000 in
theorem gX7_whoLosesLeast_7 {w : aW} {mm : Nat} {C : aIF} {S : aS} {nt : Int} {l2 : Int} {l3 : Int} {l5 : Nat} {P : Int → aIF → Prop} (hw : (((C 21 0 3) ≤ (l5 : Int)) → P l2 C) ∧ ((¬ ((C 21 0 3) ≤ (l5 : Int))) → (((l5 : Int) ≠ nt) → (l5 < 6) ∧ (kMetL w mX2_loss [aO 28 l5, aO 9 0] C S (rf mm) (fun x2 C3 => ((x2 = (-1)) → (l5 + 1 < 2147483648) ∧ (kRunI w mX7_whoLosesLeast 7 [some (aO 21 0), some (aI nt), some (aI l2), some (aL l3), none, some (aI ((((l5 + 1) : Nat) : Int))), none, none] [] C3 S (rf mm) P)) ∧ ((¬ (x2 = (-1))) → ((l2 = (-1)) → (l5 + 1 < 2147483648) ∧ (kRunI w mX7_whoLosesLeast 7 [some (aO 21 0), some (aI nt), some (aI ((l5 : Int))), some (aL x2), none, some (aI ((((l5 + 1) : Nat) : Int))), none, none] [] C3 S (rf mm) P)) ∧ ((¬ (l2 = (-1))) → ((l3 ≤ x2) → (l5 + 1 < 2147483648) ∧ (kRunI w mX7_whoLosesLeast 7 [some (aO 21 0), some (aI nt), some (aI l2), some (aL l3), none, some (aI ((((l5 + 1) : Nat) : Int))), none, none] [] C3 S (rf mm) P)) ∧ ((¬ (l3 ≤ x2)) → (l5 + 1 < 2147483648) ∧ (kRunI w mX7_whoLosesLeast 7 [some (aO 21 0), some (aI nt), some (aI ((l5 : Int))), some (aL x2), none, some (aI ((((l5 + 1) : Nat) : Int))), none, none] [] C3 S (rf mm) P))))))) ∧ (((l5 : Int) = nt) → (((-1) = (-1)) → (l5 + 1 < 2147483648) ∧ (kRunI w mX7_whoLosesLeast 7 [some (aO 21 0), some (aI nt), some (aI l2), some (aL l3), none, some (aI ((((l5 + 1) : Nat) : Int))), none, none] [] C S (rf mm) P)) ∧ ((¬ ((-1) = (-1))) → ((l2 = (-1)) → (l5 + 1 < 2147483648) ∧ (kRunI w mX7_whoLosesLeast 7 [some (aO 21 0), some (aI nt), some (aI ((l5 : Int))), some (aL ((-1))), none, some (aI ((((l5 + 1) : Nat) : Int))), none, none] [] C S (rf mm) P)) ∧ ((¬ (l2 = (-1))) → ((l3 ≤ (-1)) → (l5 + 1 < 2147483648) ∧ (kRunI w mX7_whoLosesLeast 7 [some (aO 21 0), some (aI nt), some (aI l2), some (aL l3), none, some (aI ((((l5 + 1) : Nat) : Int))), none, none] [] C S (rf mm) P)) ∧ ((¬ (l3 ≤ (-1))) → (l5 + 1 < 2147483648) ∧ (kRunI w mX7_whoLosesLeast 7 [some (aO 21 0), some (aI nt), some (aI ((l5 : Int))), some (aL ((-1))), none, some (aI ((((l5 + 1) : Nat) : Int))), none, none] [] C S (rf mm) P))))))) : kRunI w mX7_whoLosesLeast 7 [some (aO 21 0), some (aI nt), some (aI l2), some (aL l3), none, some (aI ((l5 : Int))), none, none] [] C S (rf mm) P := by
  refine aIload (pc' := 9) dX7_whoLosesLeast_7 rfl rfl ?_
  refine aAload_n (pc' := 10) dX7_whoLosesLeast_9 rfl rfl ?_
  refine aGetI (pc' := 13) dX7_whoLosesLeast_10 fX7_24 rfl rfl (lv (by decide)) rfl ?_
  refine aTopEq (y := (C 21 0 3)) rfl ?_
  refine aIcmp_ge (tgt := 77) (pc' := 16) dX7_whoLosesLeast_13 (by decide) rfl (fun hc => ?_) (fun hc => ?_)
  · have hw := hw.1 hc
    refine aIload_n (pc' := 78) dX7_whoLosesLeast_77 rfl rfl ?_
    exact cIret dX7_whoLosesLeast_78 okX7_whoLosesLeast rfl ⟨rfl, _, rfl, _, rfl, hw⟩
  · have hw := hw.2 hc
    refine aIload (pc' := 18) dX7_whoLosesLeast_16 rfl rfl ?_
    refine aIload_n (pc' := 19) dX7_whoLosesLeast_18 rfl rfl ?_
    refine aIcmp_ne (tgt := 28) (pc' := 22) dX7_whoLosesLeast_19 (by decide) rfl (fun hc => ?_) (fun hc => ?_)
    · have hw := hw.1 hc
      refine aAload_n (pc' := 29) dX7_whoLosesLeast_28 rfl rfl ?_
      refine aGetR (pc' := 32) (q := (27, 0)) dX7_whoLosesLeast_29 fX7_20 rfl rfl (lv (by decide)) rfl rfl ?_
      refine aIload (pc' := 34) dX7_whoLosesLeast_32 rfl rfl ?_
      obtain ⟨h1, hw⟩ := hw
      refine aAald (pc' := 35) (j := l5) (q := (28, l5)) dX7_whoLosesLeast_34 (t := 5) rfl ⟨by decide, by decide⟩ (lv (by decide)) rfl h1 rfl rfl ?_
      refine aAload_n (pc' := 36) dX7_whoLosesLeast_35 rfl rfl ?_
      refine aGetR (pc' := 39) (q := (9, 0)) dX7_whoLosesLeast_36 fX7_38 rfl rfl (lv (by decide)) rfl rfl ?_
      refine cVL (c := 2) (pc' := 42) [aO 9 0] dX7_whoLosesLeast_39 lX7_242 okX2_loss ⟨by decide, by decide⟩ npX2_loss rfl rfl rfl rfl rfl h1 rfl (cMetL_mono hw (fun x2 J4 hw => ?_))
      obtain ⟨C3, rfl, hw⟩ := hw
      refine aLstore (pc' := 44) dX7_whoLosesLeast_42 (by decide) rfl (L' := [some (aO 21 0), some (aI nt), some (aI l2), some (aL l3), none, some (aI ((l5 : Int))), some (aL x2), none]) rfl ?_
      refine aLload (pc' := 46) dX7_whoLosesLeast_44 rfl rfl ?_
      refine aLdc2 (pc' := 49) qX7_249 ⟨by decide, by decide⟩ dX7_whoLosesLeast_46 rfl ?_
      refine aLc_eq (tgt := 71) (p1 := 50) (pc' := 53) dX7_whoLosesLeast_49 rfl dX7_whoLosesLeast_50 (by decide) rfl (fun hc => ?_) (fun hc => ?_)
      · have hw := hw.1 hc
        obtain ⟨h5, hw⟩ := hw
        refine aIinc1 (pc' := 74) dX7_whoLosesLeast_71 rfl (by decide) h5 rfl (L' := [some (aO 21 0), some (aI nt), some (aI l2), some (aL l3), none, some (aI ((((l5 + 1) : Nat) : Int))), some (aL x2), none]) rfl ?_
        refine aGoto (pc' := 7) dX7_whoLosesLeast_74 (by decide) ?_
        exact aDrop [6] (L' := [some (aO 21 0), some (aI nt), some (aI l2), some (aL l3), none, some (aI ((((l5 + 1) : Nat) : Int))), none, none]) rfl hw
      · have hw := hw.2 hc
        refine aIload_n (pc' := 54) dX7_whoLosesLeast_53 rfl rfl ?_
        refine aIconst (pc' := 55) ⟨by decide, by decide⟩ dX7_whoLosesLeast_54 rfl ?_
        refine aIcmp_eq (tgt := 65) (pc' := 58) dX7_whoLosesLeast_55 (by decide) rfl (fun hc => ?_) (fun hc => ?_)
        · have hw := hw.1 hc
          refine aLload (pc' := 67) dX7_whoLosesLeast_65 rfl rfl ?_
          refine aLstore_n (pc' := 68) dX7_whoLosesLeast_67 (by decide) rfl (L' := [some (aO 21 0), some (aI nt), some (aI l2), some (aL x2), none, some (aI ((l5 : Int))), some (aL x2), none]) rfl ?_
          refine aIload (pc' := 70) dX7_whoLosesLeast_68 rfl rfl ?_
          refine aIstore_n (pc' := 71) dX7_whoLosesLeast_70 (by decide) rfl (L' := [some (aO 21 0), some (aI nt), some (aI ((l5 : Int))), some (aL x2), none, some (aI ((l5 : Int))), some (aL x2), none]) rfl ?_
          obtain ⟨h6, hw⟩ := hw
          refine aIinc1 (pc' := 74) dX7_whoLosesLeast_71 rfl (by decide) h6 rfl (L' := [some (aO 21 0), some (aI nt), some (aI ((l5 : Int))), some (aL x2), none, some (aI ((((l5 + 1) : Nat) : Int))), some (aL x2), none]) rfl ?_
          refine aGoto (pc' := 7) dX7_whoLosesLeast_74 (by decide) ?_
          exact aDrop [6] (L' := [some (aO 21 0), some (aI nt), some (aI ((l5 : Int))), some (aL x2), none, some (aI ((((l5 + 1) : Nat) : Int))), none, none]) rfl hw
        · have hw := hw.2 hc
          refine aLload (pc' := 60) dX7_whoLosesLeast_58 rfl rfl ?_
          refine aLload_n (pc' := 61) dX7_whoLosesLeast_60 rfl rfl ?_
          refine aLc_ge (tgt := 71) (p1 := 62) (pc' := 65) dX7_whoLosesLeast_61 rfl dX7_whoLosesLeast_62 (by decide) rfl (fun hc => ?_) (fun hc => ?_)
          · have hw := hw.1 hc
            obtain ⟨h7, hw⟩ := hw
            refine aIinc1 (pc' := 74) dX7_whoLosesLeast_71 rfl (by decide) h7 rfl (L' := [some (aO 21 0), some (aI nt), some (aI l2), some (aL l3), none, some (aI ((((l5 + 1) : Nat) : Int))), some (aL x2), none]) rfl ?_
            refine aGoto (pc' := 7) dX7_whoLosesLeast_74 (by decide) ?_
            exact aDrop [6] (L' := [some (aO 21 0), some (aI nt), some (aI l2), some (aL l3), none, some (aI ((((l5 + 1) : Nat) : Int))), none, none]) rfl hw
          · have hw := hw.2 hc
            refine aLload (pc' := 67) dX7_whoLosesLeast_65 rfl rfl ?_
            refine aLstore_n (pc' := 68) dX7_whoLosesLeast_67 (by decide) rfl (L' := [some (aO 21 0), some (aI nt), some (aI l2), some (aL x2), none, some (aI ((l5 : Int))), some (aL x2), none]) rfl ?_
            refine aIload (pc' := 70) dX7_whoLosesLeast_68 rfl rfl ?_
            refine aIstore_n (pc' := 71) dX7_whoLosesLeast_70 (by decide) rfl (L' := [some (aO 21 0), some (aI nt), some (aI ((l5 : Int))), some (aL x2), none, some (aI ((l5 : Int))), some (aL x2), none]) rfl ?_
            obtain ⟨h8, hw⟩ := hw
            refine aIinc1 (pc' := 74) dX7_whoLosesLeast_71 rfl (by decide) h8 rfl (L' := [some (aO 21 0), some (aI nt), some (aI ((l5 : Int))), some (aL x2), none, some (aI ((((l5 + 1) : Nat) : Int))), some (aL x2), none]) rfl ?_
            refine aGoto (pc' := 7) dX7_whoLosesLeast_74 (by decide) ?_
            exact aDrop [6] (L' := [some (aO 21 0), some (aI nt), some (aI ((l5 : Int))), some (aL x2), none, some (aI ((((l5 + 1) : Nat) : Int))), none, none]) rfl hw
    · have hw := hw.2 hc
      refine aLdc2 (pc' := 25) qX7_249 ⟨by decide, by decide⟩ dX7_whoLosesLeast_22 rfl ?_
      refine aGoto (pc' := 42) dX7_whoLosesLeast_25 (by decide) ?_
      refine aLstore (pc' := 44) dX7_whoLosesLeast_42 (by decide) rfl (L' := [some (aO 21 0), some (aI nt), some (aI l2), some (aL l3), none, some (aI ((l5 : Int))), some (aL ((-1))), none]) rfl ?_
      refine aLload (pc' := 46) dX7_whoLosesLeast_44 rfl rfl ?_
      refine aLdc2 (pc' := 49) qX7_249 ⟨by decide, by decide⟩ dX7_whoLosesLeast_46 rfl ?_
      refine aLc_eq (tgt := 71) (p1 := 50) (pc' := 53) dX7_whoLosesLeast_49 rfl dX7_whoLosesLeast_50 (by decide) rfl (fun hc => ?_) (fun hc => ?_)
      · have hw := hw.1 hc
        obtain ⟨h9, hw⟩ := hw
        refine aIinc1 (pc' := 74) dX7_whoLosesLeast_71 rfl (by decide) h9 rfl (L' := [some (aO 21 0), some (aI nt), some (aI l2), some (aL l3), none, some (aI ((((l5 + 1) : Nat) : Int))), some (aL ((-1))), none]) rfl ?_
        refine aGoto (pc' := 7) dX7_whoLosesLeast_74 (by decide) ?_
        exact aDrop [6] (L' := [some (aO 21 0), some (aI nt), some (aI l2), some (aL l3), none, some (aI ((((l5 + 1) : Nat) : Int))), none, none]) rfl hw
      · have hw := hw.2 hc
        refine aIload_n (pc' := 54) dX7_whoLosesLeast_53 rfl rfl ?_
        refine aIconst (pc' := 55) ⟨by decide, by decide⟩ dX7_whoLosesLeast_54 rfl ?_
        refine aIcmp_eq (tgt := 65) (pc' := 58) dX7_whoLosesLeast_55 (by decide) rfl (fun hc => ?_) (fun hc => ?_)
        · have hw := hw.1 hc
          refine aLload (pc' := 67) dX7_whoLosesLeast_65 rfl rfl ?_
          refine aLstore_n (pc' := 68) dX7_whoLosesLeast_67 (by decide) rfl (L' := [some (aO 21 0), some (aI nt), some (aI l2), some (aL ((-1))), none, some (aI ((l5 : Int))), some (aL ((-1))), none]) rfl ?_
          refine aIload (pc' := 70) dX7_whoLosesLeast_68 rfl rfl ?_
          refine aIstore_n (pc' := 71) dX7_whoLosesLeast_70 (by decide) rfl (L' := [some (aO 21 0), some (aI nt), some (aI ((l5 : Int))), some (aL ((-1))), none, some (aI ((l5 : Int))), some (aL ((-1))), none]) rfl ?_
          obtain ⟨h10, hw⟩ := hw
          refine aIinc1 (pc' := 74) dX7_whoLosesLeast_71 rfl (by decide) h10 rfl (L' := [some (aO 21 0), some (aI nt), some (aI ((l5 : Int))), some (aL ((-1))), none, some (aI ((((l5 + 1) : Nat) : Int))), some (aL ((-1))), none]) rfl ?_
          refine aGoto (pc' := 7) dX7_whoLosesLeast_74 (by decide) ?_
          exact aDrop [6] (L' := [some (aO 21 0), some (aI nt), some (aI ((l5 : Int))), some (aL ((-1))), none, some (aI ((((l5 + 1) : Nat) : Int))), none, none]) rfl hw
        · have hw := hw.2 hc
          refine aLload (pc' := 60) dX7_whoLosesLeast_58 rfl rfl ?_
          refine aLload_n (pc' := 61) dX7_whoLosesLeast_60 rfl rfl ?_
          refine aLc_ge (tgt := 71) (p1 := 62) (pc' := 65) dX7_whoLosesLeast_61 rfl dX7_whoLosesLeast_62 (by decide) rfl (fun hc => ?_) (fun hc => ?_)
          · have hw := hw.1 hc
            obtain ⟨h11, hw⟩ := hw
            refine aIinc1 (pc' := 74) dX7_whoLosesLeast_71 rfl (by decide) h11 rfl (L' := [some (aO 21 0), some (aI nt), some (aI l2), some (aL l3), none, some (aI ((((l5 + 1) : Nat) : Int))), some (aL ((-1))), none]) rfl ?_
            refine aGoto (pc' := 7) dX7_whoLosesLeast_74 (by decide) ?_
            exact aDrop [6] (L' := [some (aO 21 0), some (aI nt), some (aI l2), some (aL l3), none, some (aI ((((l5 + 1) : Nat) : Int))), none, none]) rfl hw
          · have hw := hw.2 hc
            refine aLload (pc' := 67) dX7_whoLosesLeast_65 rfl rfl ?_
            refine aLstore_n (pc' := 68) dX7_whoLosesLeast_67 (by decide) rfl (L' := [some (aO 21 0), some (aI nt), some (aI l2), some (aL ((-1))), none, some (aI ((l5 : Int))), some (aL ((-1))), none]) rfl ?_
            refine aIload (pc' := 70) dX7_whoLosesLeast_68 rfl rfl ?_
            refine aIstore_n (pc' := 71) dX7_whoLosesLeast_70 (by decide) rfl (L' := [some (aO 21 0), some (aI nt), some (aI ((l5 : Int))), some (aL ((-1))), none, some (aI ((l5 : Int))), some (aL ((-1))), none]) rfl ?_
            obtain ⟨h12, hw⟩ := hw
            refine aIinc1 (pc' := 74) dX7_whoLosesLeast_71 rfl (by decide) h12 rfl (L' := [some (aO 21 0), some (aI nt), some (aI ((l5 : Int))), some (aL ((-1))), none, some (aI ((((l5 + 1) : Nat) : Int))), some (aL ((-1))), none]) rfl ?_
            refine aGoto (pc' := 7) dX7_whoLosesLeast_74 (by decide) ?_
            exact aDrop [6] (L' := [some (aO 21 0), some (aI nt), some (aI ((l5 : Int))), some (aL ((-1))), none, some (aI ((((l5 + 1) : Nat) : Int))), none, none]) rfl hw
set_option maxRecDepth 100000 in
set_option maxHeartbeats 4000000 in
theorem gX7_whoSparesMost {w : aW} {mm : Nat} {C : aIF} {S : aS} {p : Nat} {P : Int → aIF → Prop} (hp : p < 6) (hw : kRunI w mX7_whoSparesMost 7 [some (aO 21 0), some (aO 28 p), some (aI ((-1))), some (aI 0), some (aI 0), none] [] C S (rf mm) P) : kMetI w mX7_whoSparesMost [aO 21 0, aO 28 p] C S (rf mm) P := by
  refine cMet_of okX7_whoSparesMost (Nat.le_of_ble_eq_true rfl) (fun hos => ?_)
  show cRun w mX7_whoSparesMost 0 [some (aO 21 0), some (aO 28 p), none, none, none, none] [] (mem C S) (rf mm) (kqI (rf mm) S P)
  refine aIconst (pc' := 1) ⟨by decide, by decide⟩ dX7_whoSparesMost_0 rfl ?_
  refine aIstore_n (pc' := 2) dX7_whoSparesMost_1 (by decide) rfl (L' := [some (aO 21 0), some (aO 28 p), some (aI ((-1))), none, none, none]) rfl ?_
  refine aIconst (pc' := 3) ⟨by decide, by decide⟩ dX7_whoSparesMost_2 rfl ?_
  refine aIstore_n (pc' := 4) dX7_whoSparesMost_3 (by decide) rfl (L' := [some (aO 21 0), some (aO 28 p), some (aI ((-1))), some (aI 0), none, none]) rfl ?_
  refine aIconst (pc' := 5) ⟨by decide, by decide⟩ dX7_whoSparesMost_4 rfl ?_
  refine aIstore (pc' := 7) dX7_whoSparesMost_5 (by decide) rfl (L' := [some (aO 21 0), some (aO 28 p), some (aI ((-1))), some (aI 0), some (aI 0), none]) rfl ?_
  exact hw
set_option maxRecDepth 100000 in
set_option maxHeartbeats 4000000 in
theorem gX7_whoSparesMost_7 {w : aW} {mm : Nat} {C : aIF} {S : aS} {p : Nat} {l2 : Int} {l3 : Int} {l4 : Nat} {P : Int → aIF → Prop} (hp : p < 6) (hw : (((C 21 0 3) ≤ (l4 : Int)) → P l2 C) ∧ ((¬ ((C 21 0 3) ≤ (l4 : Int))) → (((l4 : Int) ≠ (C 28 p 1)) → (l4 < 6) ∧ (kMetI w mX2_spare [aO 28 l4, aO 9 0] C S (rf mm) (fun x2 C3 => ((x2 ≤ l3) → (l4 + 1 < 2147483648) ∧ (kRunI w mX7_whoSparesMost 7 [some (aO 21 0), some (aO 28 p), some (aI l2), some (aI l3), some (aI ((((l4 + 1) : Nat) : Int))), none] [] C3 S (rf mm) P)) ∧ ((¬ (x2 ≤ l3)) → (l4 + 1 < 2147483648) ∧ (kRunI w mX7_whoSparesMost 7 [some (aO 21 0), some (aO 28 p), some (aI ((l4 : Int))), some (aI x2), some (aI ((((l4 + 1) : Nat) : Int))), none] [] C3 S (rf mm) P))))) ∧ (((l4 : Int) = (C 28 p 1)) → ((0 ≤ l3) → (l4 + 1 < 2147483648) ∧ (kRunI w mX7_whoSparesMost 7 [some (aO 21 0), some (aO 28 p), some (aI l2), some (aI l3), some (aI ((((l4 + 1) : Nat) : Int))), none] [] C S (rf mm) P)) ∧ ((¬ (0 ≤ l3)) → (l4 + 1 < 2147483648) ∧ (kRunI w mX7_whoSparesMost 7 [some (aO 21 0), some (aO 28 p), some (aI ((l4 : Int))), some (aI 0), some (aI ((((l4 + 1) : Nat) : Int))), none] [] C S (rf mm) P))))) : kRunI w mX7_whoSparesMost 7 [some (aO 21 0), some (aO 28 p), some (aI l2), some (aI l3), some (aI ((l4 : Int))), none] [] C S (rf mm) P := by
  refine aIload (pc' := 9) dX7_whoSparesMost_7 rfl rfl ?_
  refine aAload_n (pc' := 10) dX7_whoSparesMost_9 rfl rfl ?_
  refine aGetI (pc' := 13) dX7_whoSparesMost_10 fX7_24 rfl rfl (lv (by decide)) rfl ?_
  refine aTopEq (y := (C 21 0 3)) rfl ?_
  refine aIcmp_ge (tgt := 63) (pc' := 16) dX7_whoSparesMost_13 (by decide) rfl (fun hc => ?_) (fun hc => ?_)
  · have hw := hw.1 hc
    refine aIload_n (pc' := 64) dX7_whoSparesMost_63 rfl rfl ?_
    exact cIret dX7_whoSparesMost_64 okX7_whoSparesMost rfl ⟨rfl, _, rfl, _, rfl, hw⟩
  · have hw := hw.2 hc
    refine aIload (pc' := 18) dX7_whoSparesMost_16 rfl rfl ?_
    refine aAload_n (pc' := 19) dX7_whoSparesMost_18 rfl rfl ?_
    refine aGetI (pc' := 22) dX7_whoSparesMost_19 fX7_155 rfl rfl (lv hp) rfl ?_
    refine aTopEq (y := (C 28 p 1)) rfl ?_
    refine aIcmp_ne (tgt := 29) (pc' := 25) dX7_whoSparesMost_22 (by decide) rfl (fun hc => ?_) (fun hc => ?_)
    · have hw := hw.1 hc
      refine aAload_n (pc' := 30) dX7_whoSparesMost_29 rfl rfl ?_
      refine aGetR (pc' := 33) (q := (27, 0)) dX7_whoSparesMost_30 fX7_20 rfl rfl (lv (by decide)) rfl rfl ?_
      refine aIload (pc' := 35) dX7_whoSparesMost_33 rfl rfl ?_
      obtain ⟨h1, hw⟩ := hw
      refine aAald (pc' := 36) (j := l4) (q := (28, l4)) dX7_whoSparesMost_35 (t := 5) rfl ⟨by decide, by decide⟩ (lv (by decide)) rfl h1 rfl rfl ?_
      refine aAload_n (pc' := 37) dX7_whoSparesMost_36 rfl rfl ?_
      refine aGetR (pc' := 40) (q := (9, 0)) dX7_whoSparesMost_37 fX7_38 rfl rfl (lv (by decide)) rfl rfl ?_
      refine cVI (c := 2) (pc' := 43) [aO 9 0] dX7_whoSparesMost_40 lX7_207 okX2_spare ⟨by decide, by decide⟩ npX2_spare rfl rfl rfl rfl rfl h1 rfl (cMetI_mono hw (fun x2 J4 hw => ?_))
      obtain ⟨C3, rfl, hw⟩ := hw
      refine aIstore (pc' := 45) dX7_whoSparesMost_43 (by decide) rfl (L' := [some (aO 21 0), some (aO 28 p), some (aI l2), some (aI l3), some (aI ((l4 : Int))), some (aI x2)]) rfl ?_
      refine aIload (pc' := 47) dX7_whoSparesMost_45 rfl rfl ?_
      refine aIload_n (pc' := 48) dX7_whoSparesMost_47 rfl rfl ?_
      refine aIcmp_le (tgt := 57) (pc' := 51) dX7_whoSparesMost_48 (by decide) rfl (fun hc => ?_) (fun hc => ?_)
      · have hw := hw.1 hc
        obtain ⟨h5, hw⟩ := hw
        refine aIinc1 (pc' := 60) dX7_whoSparesMost_57 rfl (by decide) h5 rfl (L' := [some (aO 21 0), some (aO 28 p), some (aI l2), some (aI l3), some (aI ((((l4 + 1) : Nat) : Int))), some (aI x2)]) rfl ?_
        refine aGoto (pc' := 7) dX7_whoSparesMost_60 (by decide) ?_
        exact aDrop [5] (L' := [some (aO 21 0), some (aO 28 p), some (aI l2), some (aI l3), some (aI ((((l4 + 1) : Nat) : Int))), none]) rfl hw
      · have hw := hw.2 hc
        refine aIload (pc' := 53) dX7_whoSparesMost_51 rfl rfl ?_
        refine aIstore_n (pc' := 54) dX7_whoSparesMost_53 (by decide) rfl (L' := [some (aO 21 0), some (aO 28 p), some (aI l2), some (aI x2), some (aI ((l4 : Int))), some (aI x2)]) rfl ?_
        refine aIload (pc' := 56) dX7_whoSparesMost_54 rfl rfl ?_
        refine aIstore_n (pc' := 57) dX7_whoSparesMost_56 (by decide) rfl (L' := [some (aO 21 0), some (aO 28 p), some (aI ((l4 : Int))), some (aI x2), some (aI ((l4 : Int))), some (aI x2)]) rfl ?_
        obtain ⟨h6, hw⟩ := hw
        refine aIinc1 (pc' := 60) dX7_whoSparesMost_57 rfl (by decide) h6 rfl (L' := [some (aO 21 0), some (aO 28 p), some (aI ((l4 : Int))), some (aI x2), some (aI ((((l4 + 1) : Nat) : Int))), some (aI x2)]) rfl ?_
        refine aGoto (pc' := 7) dX7_whoSparesMost_60 (by decide) ?_
        exact aDrop [5] (L' := [some (aO 21 0), some (aO 28 p), some (aI ((l4 : Int))), some (aI x2), some (aI ((((l4 + 1) : Nat) : Int))), none]) rfl hw
    · have hw := hw.2 hc
      refine aIconst (pc' := 26) ⟨by decide, by decide⟩ dX7_whoSparesMost_25 rfl ?_
      refine aGoto (pc' := 43) dX7_whoSparesMost_26 (by decide) ?_
      refine aIstore (pc' := 45) dX7_whoSparesMost_43 (by decide) rfl (L' := [some (aO 21 0), some (aO 28 p), some (aI l2), some (aI l3), some (aI ((l4 : Int))), some (aI 0)]) rfl ?_
      refine aIload (pc' := 47) dX7_whoSparesMost_45 rfl rfl ?_
      refine aIload_n (pc' := 48) dX7_whoSparesMost_47 rfl rfl ?_
      refine aIcmp_le (tgt := 57) (pc' := 51) dX7_whoSparesMost_48 (by decide) rfl (fun hc => ?_) (fun hc => ?_)
      · have hw := hw.1 hc
        obtain ⟨h7, hw⟩ := hw
        refine aIinc1 (pc' := 60) dX7_whoSparesMost_57 rfl (by decide) h7 rfl (L' := [some (aO 21 0), some (aO 28 p), some (aI l2), some (aI l3), some (aI ((((l4 + 1) : Nat) : Int))), some (aI 0)]) rfl ?_
        refine aGoto (pc' := 7) dX7_whoSparesMost_60 (by decide) ?_
        exact aDrop [5] (L' := [some (aO 21 0), some (aO 28 p), some (aI l2), some (aI l3), some (aI ((((l4 + 1) : Nat) : Int))), none]) rfl hw
      · have hw := hw.2 hc
        refine aIload (pc' := 53) dX7_whoSparesMost_51 rfl rfl ?_
        refine aIstore_n (pc' := 54) dX7_whoSparesMost_53 (by decide) rfl (L' := [some (aO 21 0), some (aO 28 p), some (aI l2), some (aI 0), some (aI ((l4 : Int))), some (aI 0)]) rfl ?_
        refine aIload (pc' := 56) dX7_whoSparesMost_54 rfl rfl ?_
        refine aIstore_n (pc' := 57) dX7_whoSparesMost_56 (by decide) rfl (L' := [some (aO 21 0), some (aO 28 p), some (aI ((l4 : Int))), some (aI 0), some (aI ((l4 : Int))), some (aI 0)]) rfl ?_
        obtain ⟨h8, hw⟩ := hw
        refine aIinc1 (pc' := 60) dX7_whoSparesMost_57 rfl (by decide) h8 rfl (L' := [some (aO 21 0), some (aO 28 p), some (aI ((l4 : Int))), some (aI 0), some (aI ((((l4 + 1) : Nat) : Int))), some (aI 0)]) rfl ?_
        refine aGoto (pc' := 7) dX7_whoSparesMost_60 (by decide) ?_
        exact aDrop [5] (L' := [some (aO 21 0), some (aO 28 p), some (aI ((l4 : Int))), some (aI 0), some (aI ((((l4 + 1) : Nat) : Int))), none]) rfl hw
