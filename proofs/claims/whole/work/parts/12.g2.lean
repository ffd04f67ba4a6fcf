set_option maxRecDepth 100000 in
set_option maxHeartbeats 4000000 in
theorem gX2_cellsOfStep {w : aW} {mm : Nat} {C : aIF} {S : aS} {i : Nat} {p1 : Int} {P : Int → aIF → Prop} (hi : i < 6) (hmi : i < mm) (hw : (((C 6 i 2) = 0) → P p1 C) ∧ ((¬ ((C 6 i 2) = 0)) → (0 ≤ p1) ∧ (P (max (p1 / 2) 1) C))) : kMetI w mX2_cellsOfStep [aO 28 i, aI p1] C S (rf mm) P := by
  refine cMet_of okX2_cellsOfStep (Nat.le_of_ble_eq_true rfl) (fun hos => ?_)
  show cRun w mX2_cellsOfStep 0 [some (aO 28 i), some (aI p1)] [] (mem C S) (rf mm) (kqI (rf mm) S P)
  refine aAload_n (pc' := 1) dX2_cellsOfStep_0 rfl rfl ?_
  refine aGetR (pc' := 4) (q := (6, i)) dX2_cellsOfStep_1 fX2_22 rfl rfl (lv hi) (rf_p hmi) rfl ?_
  refine aGetI (pc' := 7) dX2_cellsOfStep_4 fX2_131 rfl rfl (lv hi) rfl ?_
  refine aTopEq (y := (C 6 i 2)) rfl ?_
  refine aIf_eq (tgt := 20) (pc' := 10) dX2_cellsOfStep_7 (by decide) rfl (fun hc => ?_) (fun hc => ?_)
  · have hw := hw.1 hc
    refine aIload_n (pc' := 21) dX2_cellsOfStep_20 rfl rfl ?_
    exact cIret dX2_cellsOfStep_21 okX2_cellsOfStep rfl ⟨rfl, _, rfl, _, rfl, hw⟩
  · have hw := hw.2 hc
    refine aIload_n (pc' := 11) dX2_cellsOfStep_10 rfl rfl ?_
    refine aIconst (pc' := 12) ⟨by decide, by decide⟩ dX2_cellsOfStep_11 rfl ?_
    obtain ⟨h1, hw⟩ := hw
    refine aIdiv (pc' := 13) h1 (by decide) dX2_cellsOfStep_12 rfl ?_
    refine aIconst (pc' := 14) ⟨by decide, by decide⟩ dX2_cellsOfStep_13 rfl ?_
    refine aMax (pc' := 17) dX2_cellsOfStep_14 lX2_107 rfl rfl (Nat.le_refl _) (Nat.le_refl _) rfl ?_
    refine aGoto (pc' := 21) dX2_cellsOfStep_17 (by decide) ?_
    exact cIret dX2_cellsOfStep_21 okX2_cellsOfStep rfl ⟨rfl, _, rfl, _, rfl, hw⟩
set_option maxRecDepth 100000 in
set_option maxHeartbeats 4000000 in
theorem gX2_collectNow {w : aW} {mm : Nat} {C : aIF} {S : aS} {i : Nat} {P : Int → aIF → Prop} (hi : i < 6) (hmi : i < mm) (hw : kMetI w mX1_costToCollect [aO 6 i, aI ((C 29 i 2)), aI ((C 28 i 5))] C S (rf mm) (fun x1 C2 => P x1 (uI (uI (uI C2 28 i 5 ((C2 29 i 2))) 28 i 8 ((w32 ((C2 28 i 8) + x1)))) 28 i 9 ((w32 ((C2 28 i 9) + x1)))))) : kMetI w mX2_collectNow [aO 28 i] C S (rf mm) P := by
  refine cMet_of okX2_collectNow (Nat.le_of_ble_eq_true rfl) (fun hos => ?_)
  show cRun w mX2_collectNow 0 [some (aO 28 i), none] [] (mem C S) (rf mm) (kqI (rf mm) S P)
  refine aAload_n (pc' := 1) dX2_collectNow_0 rfl rfl ?_
  refine aGetR (pc' := 4) (q := (6, i)) dX2_collectNow_1 fX2_22 rfl rfl (lv hi) (rf_p hmi) rfl ?_
  refine aAload_n (pc' := 5) dX2_collectNow_4 rfl rfl ?_
  refine aGetR (pc' := 8) (q := (29, i)) dX2_collectNow_5 fX2_12 rfl rfl (lv hi) rfl rfl ?_
  refine aGetI (pc' := 11) dX2_collectNow_8 fX2_101 rfl rfl (lv hi) rfl ?_
  refine aTopEq (y := (C 29 i 2)) rfl ?_
  refine aAload_n (pc' := 12) dX2_collectNow_11 rfl rfl ?_
  refine aGetI (pc' := 15) dX2_collectNow_12 fX2_35 rfl rfl (lv hi) rfl ?_
  refine aTopEq (y := (C 28 i 5)) rfl ?_
  refine cVI (c := 1) (pc' := 18) [aI ((C 29 i 2)), aI ((C 28 i 5))] dX2_collectNow_15 lX2_124 okX1_costToCollect ⟨by decide, by decide⟩ npX1_costToCollect rfl rfl rfl rfl rfl hi rfl (cMetI_mono hw (fun x1 J3 hw => ?_))
  obtain ⟨C2, rfl, hw⟩ := hw
  refine aIstore_n (pc' := 19) dX2_collectNow_18 (by decide) rfl (L' := [some (aO 28 i), some (aI x1)]) rfl ?_
  refine aAload_n (pc' := 20) dX2_collectNow_19 rfl rfl ?_
  refine aAload_n (pc' := 21) dX2_collectNow_20 rfl rfl ?_
  refine aGetR (pc' := 24) (q := (29, i)) dX2_collectNow_21 fX2_12 rfl rfl (lv hi) rfl rfl ?_
  refine aGetI (pc' := 27) dX2_collectNow_24 fX2_101 rfl rfl (lv hi) rfl ?_
  refine aTopEq (y := (C2 29 i 2)) rfl ?_
  refine aPutI (pc' := 30) dX2_collectNow_27 fX2_35 rfl rfl (Or.inl rfl) (lv hi) rfl (cEqI (mK rfl) ?_)
  refine aAload_n (pc' := 31) dX2_collectNow_30 rfl rfl ?_
  refine aDup (pc' := 32) rfl dX2_collectNow_31 rfl ?_
  refine aGetI (pc' := 35) dX2_collectNow_32 fX2_44 rfl rfl (lv hi) rfl ?_
  refine aTopEq (y := ((uI C2 28 i 5 ((C2 29 i 2))) 28 i 8)) rfl ?_
  refine aTopEq (uI_j rfl) ?_
  refine aIload_n (pc' := 36) dX2_collectNow_35 rfl rfl ?_
  refine aIaddw (pc' := 37) dX2_collectNow_36 rfl ?_
  refine aPutI (pc' := 40) dX2_collectNow_37 fX2_44 rfl rfl (Or.inl rfl) (lv hi) rfl (cEqI (mK rfl) ?_)
  refine aAload_n (pc' := 41) dX2_collectNow_40 rfl rfl ?_
  refine aDup (pc' := 42) rfl dX2_collectNow_41 rfl ?_
  refine aGetI (pc' := 45) dX2_collectNow_42 fX2_47 rfl rfl (lv hi) rfl ?_
  refine aTopEq (y := ((uI (uI C2 28 i 5 ((C2 29 i 2))) 28 i 8 ((w32 ((C2 28 i 8) + x1)))) 28 i 9)) rfl ?_
  refine aTopEq ((uI_j rfl).trans (uI_j rfl)) ?_
  refine aIload_n (pc' := 46) dX2_collectNow_45 rfl rfl ?_
  refine aIaddw (pc' := 47) dX2_collectNow_46 rfl ?_
  refine aPutI (pc' := 50) dX2_collectNow_47 fX2_47 rfl rfl (Or.inl rfl) (lv hi) rfl (cEqI (mK rfl) ?_)
  refine aIload_n (pc' := 51) dX2_collectNow_50 rfl rfl ?_
  exact cIret dX2_collectNow_51 okX2_collectNow rfl ⟨rfl, _, rfl, _, rfl, hw⟩
set_option maxRecDepth 100000 in
set_option maxHeartbeats 4000000 in
theorem gX2_endRound {w : aW} {mm : Nat} {C : aIF} {S : aS} {i : Nat} {P : aIF → Prop} (hi : i < 6) (hw : (((C 28 i 6) ≤ 0) → (-2147483648 ≤ ((C 28 i 6) + 1) ∧ ((C 28 i 6) + 1) < 2147483648) ∧ (P (uI (uI (uI (uI C 28 i 16 0) 28 i 15 ((C 29 i 2))) 28 i 6 (((C 28 i 6) + 1))) 28 i 7 0))) ∧ ((¬ ((C 28 i 6) ≤ 0)) → (((C 29 i 2) ≤ (C 28 i 15)) → (-2147483648 ≤ ((C 28 i 6) + 1) ∧ ((C 28 i 6) + 1) < 2147483648) ∧ (P (uI (uI (uI (uI C 28 i 16 0) 28 i 15 ((C 29 i 2))) 28 i 6 (((C 28 i 6) + 1))) 28 i 7 0))) ∧ ((¬ ((C 29 i 2) ≤ (C 28 i 15))) → (-2147483648 ≤ ((C 28 i 16) + 1) ∧ ((C 28 i 16) + 1) < 2147483648) ∧ ((-2147483648 ≤ ((C 28 i 6) + 1) ∧ ((C 28 i 6) + 1) < 2147483648) ∧ (P (uI (uI (uI (uI C 28 i 16 (((C 28 i 16) + 1))) 28 i 15 ((C 29 i 2))) 28 i 6 (((C 28 i 6) + 1))) 28 i 7 0)))))) : kMetV w mX2_endRound [aO 28 i] C S (rf mm) P := by
  refine cMet_of okX2_endRound (Nat.le_of_ble_eq_true rfl) (fun hos => ?_)
  show cRun w mX2_endRound 0 [some (aO 28 i)] [] (mem C S) (rf mm) (kqV (rf mm) S P)
  refine aAload_n (pc' := 1) dX2_endRound_0 rfl rfl ?_
  refine aAload_n (pc' := 2) dX2_endRound_1 rfl rfl ?_
  refine aGetI (pc' := 5) dX2_endRound_2 fX2_38 rfl rfl (lv hi) rfl ?_
  refine aTopEq (y := (C 28 i 6)) rfl ?_
  refine aIf_le (tgt := 31) (pc' := 8) dX2_endRound_5 (by decide) rfl (fun hc => ?_) (fun hc => ?_)
  · have hw := hw.1 hc
    refine aIconst (pc' := 32) ⟨by decide, by decide⟩ dX2_endRound_31 rfl ?_
    refine aPutI (pc' := 35) dX2_endRound_32 fX2_69 rfl rfl (Or.inl rfl) (lv hi) rfl (cEqI (mK rfl) ?_)
    refine aAload_n (pc' := 36) dX2_endRound_35 rfl rfl ?_
    refine aAload_n (pc' := 37) dX2_endRound_36 rfl rfl ?_
    refine aGetR (pc' := 40) (q := (29, i)) dX2_endRound_37 fX2_12 rfl rfl (lv hi) rfl rfl ?_
    refine aGetI (pc' := 43) dX2_endRound_40 fX2_101 rfl rfl (lv hi) rfl ?_
    refine aTopEq (y := ((uI C 28 i 16 0) 29 i 2)) rfl ?_
    refine aTopEq (uI_k rfl) ?_
    refine aPutI (pc' := 46) dX2_endRound_43 fX2_66 rfl rfl (Or.inl rfl) (lv hi) rfl (cEqI (mK rfl) ?_)
    refine aAload_n (pc' := 47) dX2_endRound_46 rfl rfl ?_
    refine aDup (pc' := 48) rfl dX2_endRound_47 rfl ?_
    refine aGetI (pc' := 51) dX2_endRound_48 fX2_38 rfl rfl (lv hi) rfl ?_
    refine aTopEq (y := ((uI (uI C 28 i 16 0) 28 i 15 ((C 29 i 2))) 28 i 6)) rfl ?_
    refine aTopEq ((uI_j rfl).trans (uI_j rfl)) ?_
    refine aIconst (pc' := 52) ⟨by decide, by decide⟩ dX2_endRound_51 rfl ?_
    obtain ⟨h1, hw⟩ := hw
    refine aIadd (pc' := 53) h1.1 h1.2 dX2_endRound_52 rfl ?_
    refine aPutI (pc' := 56) dX2_endRound_53 fX2_38 rfl rfl (Or.inl rfl) (lv hi) rfl (cEqI (mK rfl) ?_)
    refine aAload_n (pc' := 57) dX2_endRound_56 rfl rfl ?_
    refine aIconst (pc' := 58) ⟨by decide, by decide⟩ dX2_endRound_57 rfl ?_
    refine aPutI (pc' := 61) dX2_endRound_58 fX2_41 rfl rfl (Or.inl rfl) (lv hi) rfl (cEqI (mK rfl) ?_)
    exact cVret dX2_endRound_61 okX2_endRound rfl ⟨rfl, rfl, _, rfl, hw⟩
  · have hw := hw.2 hc
    refine aAload_n (pc' := 9) dX2_endRound_8 rfl rfl ?_
    refine aGetR (pc' := 12) (q := (29, i)) dX2_endRound_9 fX2_12 rfl rfl (lv hi) rfl rfl ?_
    refine aGetI (pc' := 15) dX2_endRound_12 fX2_101 rfl rfl (lv hi) rfl ?_
    refine aTopEq (y := (C 29 i 2)) rfl ?_
    refine aAload_n (pc' := 16) dX2_endRound_15 rfl rfl ?_
    refine aGetI (pc' := 19) dX2_endRound_16 fX2_66 rfl rfl (lv hi) rfl ?_
    refine aTopEq (y := (C 28 i 15)) rfl ?_
    refine aIcmp_le (tgt := 31) (pc' := 22) dX2_endRound_19 (by decide) rfl (fun hc => ?_) (fun hc => ?_)
    · have hw := hw.1 hc
      refine aIconst (pc' := 32) ⟨by decide, by decide⟩ dX2_endRound_31 rfl ?_
      refine aPutI (pc' := 35) dX2_endRound_32 fX2_69 rfl rfl (Or.inl rfl) (lv hi) rfl (cEqI (mK rfl) ?_)
      refine aAload_n (pc' := 36) dX2_endRound_35 rfl rfl ?_
      refine aAload_n (pc' := 37) dX2_endRound_36 rfl rfl ?_
      refine aGetR (pc' := 40) (q := (29, i)) dX2_endRound_37 fX2_12 rfl rfl (lv hi) rfl rfl ?_
      refine aGetI (pc' := 43) dX2_endRound_40 fX2_101 rfl rfl (lv hi) rfl ?_
      refine aTopEq (y := ((uI C 28 i 16 0) 29 i 2)) rfl ?_
      refine aTopEq (uI_k rfl) ?_
      refine aPutI (pc' := 46) dX2_endRound_43 fX2_66 rfl rfl (Or.inl rfl) (lv hi) rfl (cEqI (mK rfl) ?_)
      refine aAload_n (pc' := 47) dX2_endRound_46 rfl rfl ?_
      refine aDup (pc' := 48) rfl dX2_endRound_47 rfl ?_
      refine aGetI (pc' := 51) dX2_endRound_48 fX2_38 rfl rfl (lv hi) rfl ?_
      refine aTopEq (y := ((uI (uI C 28 i 16 0) 28 i 15 ((C 29 i 2))) 28 i 6)) rfl ?_
      refine aTopEq ((uI_j rfl).trans (uI_j rfl)) ?_
      refine aIconst (pc' := 52) ⟨by decide, by decide⟩ dX2_endRound_51 rfl ?_
      obtain ⟨h2, hw⟩ := hw
      refine aIadd (pc' := 53) h2.1 h2.2 dX2_endRound_52 rfl ?_
      refine aPutI (pc' := 56) dX2_endRound_53 fX2_38 rfl rfl (Or.inl rfl) (lv hi) rfl (cEqI (mK rfl) ?_)
      refine aAload_n (pc' := 57) dX2_endRound_56 rfl rfl ?_
      refine aIconst (pc' := 58) ⟨by decide, by decide⟩ dX2_endRound_57 rfl ?_
      refine aPutI (pc' := 61) dX2_endRound_58 fX2_41 rfl rfl (Or.inl rfl) (lv hi) rfl (cEqI (mK rfl) ?_)
      exact cVret dX2_endRound_61 okX2_endRound rfl ⟨rfl, rfl, _, rfl, hw⟩
    · have hw := hw.2 hc
      refine aAload_n (pc' := 23) dX2_endRound_22 rfl rfl ?_
      refine aGetI (pc' := 26) dX2_endRound_23 fX2_69 rfl rfl (lv hi) rfl ?_
      refine aTopEq (y := (C 28 i 16)) rfl ?_
      refine aIconst (pc' := 27) ⟨by decide, by decide⟩ dX2_endRound_26 rfl ?_
      obtain ⟨h3, hw⟩ := hw
      refine aIadd (pc' := 28) h3.1 h3.2 dX2_endRound_27 rfl ?_
      refine aGoto (pc' := 32) dX2_endRound_28 (by decide) ?_
      refine aPutI (pc' := 35) dX2_endRound_32 fX2_69 rfl rfl (Or.inl rfl) (lv hi) rfl (cEqI (mK rfl) ?_)
      refine aAload_n (pc' := 36) dX2_endRound_35 rfl rfl ?_
      refine aAload_n (pc' := 37) dX2_endRound_36 rfl rfl ?_
      refine aGetR (pc' := 40) (q := (29, i)) dX2_endRound_37 fX2_12 rfl rfl (lv hi) rfl rfl ?_
      refine aGetI (pc' := 43) dX2_endRound_40 fX2_101 rfl rfl (lv hi) rfl ?_
      refine aTopEq (y := ((uI C 28 i 16 (((C 28 i 16) + 1))) 29 i 2)) rfl ?_
      refine aTopEq (uI_k rfl) ?_
      refine aPutI (pc' := 46) dX2_endRound_43 fX2_66 rfl rfl (Or.inl rfl) (lv hi) rfl (cEqI (mK rfl) ?_)
      refine aAload_n (pc' := 47) dX2_endRound_46 rfl rfl ?_
      refine aDup (pc' := 48) rfl dX2_endRound_47 rfl ?_
      refine aGetI (pc' := 51) dX2_endRound_48 fX2_38 rfl rfl (lv hi) rfl ?_
      refine aTopEq (y := ((uI (uI C 28 i 16 (((C 28 i 16) + 1))) 28 i 15 ((C 29 i 2))) 28 i 6)) rfl ?_
      refine aTopEq ((uI_j rfl).trans (uI_j rfl)) ?_
      refine aIconst (pc' := 52) ⟨by decide, by decide⟩ dX2_endRound_51 rfl ?_
      obtain ⟨h4, hw⟩ := hw
      refine aIadd (pc' := 53) h4.1 h4.2 dX2_endRound_52 rfl ?_
      refine aPutI (pc' := 56) dX2_endRound_53 fX2_38 rfl rfl (Or.inl rfl) (lv hi) rfl (cEqI (mK rfl) ?_)
      refine aAload_n (pc' := 57) dX2_endRound_56 rfl rfl ?_
      refine aIconst (pc' := 58) ⟨by decide, by decide⟩ dX2_endRound_57 rfl ?_
      refine aPutI (pc' := 61) dX2_endRound_58 fX2_41 rfl rfl (Or.inl rfl) (lv hi) rfl (cEqI (mK rfl) ?_)
      exact cVret dX2_endRound_61 okX2_endRound rfl ⟨rfl, rfl, _, rfl, hw⟩
set_option maxRecDepth 100000 in
set_option maxHeartbeats 4000000 in
theorem gX2_fits {w : aW} {mm : Nat} {C : aIF} {S : aS} {i : Nat} {p1 : Int} {P : Int → aIF → Prop} (hi : i < 6) (hmi : i < mm) (hw : (-2147483648 ≤ ((C 28 i 5) + p1) ∧ ((C 28 i 5) + p1) < 2147483648) ∧ (kMetI w mX1_holds [aO 6 i, aI ((C 28 i 4))] C S (rf mm) (fun x2 C3 => ((x2 < ((C 28 i 5) + p1)) → P 0 C3) ∧ ((¬ (x2 < ((C 28 i 5) + p1))) → P 1 C3)))) : kMetI w mX2_fits [aO 28 i, aI p1] C S (rf mm) P := by
  refine cMet_of okX2_fits (Nat.le_of_ble_eq_true rfl) (fun hos => ?_)
  show cRun w mX2_fits 0 [some (aO 28 i), some (aI p1)] [] (mem C S) (rf mm) (kqI (rf mm) S P)
  refine aAload_n (pc' := 1) dX2_fits_0 rfl rfl ?_
  refine aGetI (pc' := 4) dX2_fits_1 fX2_35 rfl rfl (lv hi) rfl ?_
  refine aTopEq (y := (C 28 i 5)) rfl ?_
  refine aIload_n (pc' := 5) dX2_fits_4 rfl rfl ?_
  obtain ⟨h1, hw⟩ := hw
  refine aIadd (pc' := 6) h1.1 h1.2 dX2_fits_5 rfl ?_
  refine aAload_n (pc' := 7) dX2_fits_6 rfl rfl ?_
  refine aGetR (pc' := 10) (q := (6, i)) dX2_fits_7 fX2_22 rfl rfl (lv hi) (rf_p hmi) rfl ?_
  refine aAload_n (pc' := 11) dX2_fits_10 rfl rfl ?_
  refine aGetI (pc' := 14) dX2_fits_11 fX2_32 rfl rfl (lv hi) rfl ?_
  refine aTopEq (y := (C 28 i 4)) rfl ?_
  refine cVI (c := 1) (pc' := 17) [aI ((C 28 i 4))] dX2_fits_14 lX2_89 okX1_holds ⟨by decide, by decide⟩ npX1_holds rfl rfl rfl rfl rfl hi rfl (cMetI_mono hw (fun x2 J4 hw => ?_))
  obtain ⟨C3, rfl, hw⟩ := hw
  refine aIcmp_gt (tgt := 24) (pc' := 20) dX2_fits_17 (by decide) rfl (fun hc => ?_) (fun hc => ?_)
  · have hw := hw.1 hc
    refine aIconst (pc' := 25) ⟨by decide, by decide⟩ dX2_fits_24 rfl ?_
    exact cZret dX2_fits_25 okX2_fits rfl (by decide) ⟨rfl, _, rfl, _, rfl, hw⟩
  · have hw := hw.2 hc
    refine aIconst (pc' := 21) ⟨by decide, by decide⟩ dX2_fits_20 rfl ?_
    refine aGoto (pc' := 25) dX2_fits_21 (by decide) ?_
    exact cZret dX2_fits_25 okX2_fits rfl (by decide) ⟨rfl, _, rfl, _, rfl, hw⟩
set_option maxRecDepth 100000 in
set_option maxHeartbeats 4000000 in
theorem gX2_gain {w : aW} {mm : Nat} {C : aIF} {S : aS} {i : Nat} {P : Int → aIF → Prop} (hi : i < 6) (hmi : i < mm) (hw : kMetI w mX2_isAwake [aO 28 i] C S (rf mm) (fun x1 C2 => ((x1 = 0) → P 0 C2) ∧ ((¬ (x1 = 0)) → (((C2 28 i 12) = 0) → kMetI w mX2_cellsOfStep [aO 28 i, aI ((C2 9 0 0))] C2 S (rf mm) (fun x4 C5 => kMetI w mX1_holds [aO 6 i, aI ((C5 28 i 4))] C5 S (rf mm) (fun x7 C8 => (-2147483648 ≤ (x7 - (C8 29 i 2)) ∧ (x7 - (C8 29 i 2)) < 2147483648) ∧ ((-2147483648 ≤ ((x7 - (C8 29 i 2)) + x4) ∧ ((x7 - (C8 29 i 2)) + x4) < 2147483648) ∧ (((((x7 - (C8 29 i 2)) + x4) ≤ 0) → P 0 C8) ∧ ((¬ (((x7 - (C8 29 i 2)) + x4) ≤ 0)) → (-9223372036854775808 ≤ ((C8 28 i 9) * x4) ∧ ((C8 28 i 9) * x4) < 9223372036854775808) ∧ ((0 < ((x7 - (C8 29 i 2)) + x4)) ∧ (P ((((C8 28 i 9) * x4)).tdiv ((x7 - (C8 29 i 2)) + x4)) C8)))))))) ∧ ((¬ ((C2 28 i 12) = 0)) → P 0 C2)))) : kMetL w mX2_gain [aO 28 i, aO 9 0] C S (rf mm) P := by
  refine cMet_of okX2_gain (Nat.le_of_ble_eq_true rfl) (fun hos => ?_)
  show cRun w mX2_gain 0 [some (aO 28 i), some (aO 9 0), none, none] [] (mem C S) (rf mm) (kqL (rf mm) S P)
  refine aAload_n (pc' := 1) dX2_gain_0 rfl rfl ?_
  refine cVI (c := 2) (pc' := 4) [] dX2_gain_1 lX2_134 okX2_isAwake ⟨by decide, by decide⟩ npX2_isAwake rfl rfl rfl rfl rfl hi rfl (cMetI_mono hw (fun x1 J3 hw => ?_))
  obtain ⟨C2, rfl, hw⟩ := hw
  refine aIf_eq (tgt := 14) (pc' := 7) dX2_gain_4 (by decide) rfl (fun hc => ?_) (fun hc => ?_)
  · have hw := hw.1 hc
    refine aLconst0 (pc' := 15) dX2_gain_14 rfl ?_
    exact cLret dX2_gain_15 okX2_gain rfl ⟨rfl, _, rfl, _, rfl, hw⟩
  · have hw := hw.2 hc
    refine aAload_n (pc' := 8) dX2_gain_7 rfl rfl ?_
    refine aGetI (pc' := 11) dX2_gain_8 fX2_56 rfl rfl (lv hi) rfl ?_
    refine aTopEq (y := (C2 28 i 12)) rfl ?_
    refine aIf_eq (tgt := 16) (pc' := 14) dX2_gain_11 (by decide) rfl (fun hc => ?_) (fun hc => ?_)
    · have hw := hw.1 hc
      refine aAload_n (pc' := 17) dX2_gain_16 rfl rfl ?_
      refine aAload_n (pc' := 18) dX2_gain_17 rfl rfl ?_
      refine aGetI (pc' := 21) dX2_gain_18 fX2_93 rfl rfl (lv (by decide)) rfl ?_
      refine aTopEq (y := (C2 9 0 0)) rfl ?_
      refine cVI (c := 2) (pc' := 24) [aI ((C2 9 0 0))] dX2_gain_21 lX2_137 okX2_cellsOfStep ⟨by decide, by decide⟩ npX2_cellsOfStep rfl rfl rfl rfl rfl hi rfl (cMetI_mono hw (fun x4 J6 hw => ?_))
      obtain ⟨C5, rfl, hw⟩ := hw
      refine aIstore_n (pc' := 25) dX2_gain_24 (by decide) rfl (L' := [some (aO 28 i), some (aO 9 0), some (aI x4), none]) rfl ?_
      refine aAload_n (pc' := 26) dX2_gain_25 rfl rfl ?_
      refine aGetR (pc' := 29) (q := (6, i)) dX2_gain_26 fX2_22 rfl rfl (lv hi) (rf_p hmi) rfl ?_
      refine aAload_n (pc' := 30) dX2_gain_29 rfl rfl ?_
      refine aGetI (pc' := 33) dX2_gain_30 fX2_32 rfl rfl (lv hi) rfl ?_
      refine aTopEq (y := (C5 28 i 4)) rfl ?_
      refine cVI (c := 1) (pc' := 36) [aI ((C5 28 i 4))] dX2_gain_33 lX2_89 okX1_holds ⟨by decide, by decide⟩ npX1_holds rfl rfl rfl rfl rfl hi rfl (cMetI_mono hw (fun x7 J9 hw => ?_))
      obtain ⟨C8, rfl, hw⟩ := hw
      refine aAload_n (pc' := 37) dX2_gain_36 rfl rfl ?_
      refine aGetR (pc' := 40) (q := (29, i)) dX2_gain_37 fX2_12 rfl rfl (lv hi) rfl rfl ?_
      refine aGetI (pc' := 43) dX2_gain_40 fX2_101 rfl rfl (lv hi) rfl ?_
      refine aTopEq (y := (C8 29 i 2)) rfl ?_
      obtain ⟨h10, hw⟩ := hw
      refine aIsub (pc' := 44) h10.1 h10.2 dX2_gain_43 rfl ?_
      refine aIload_n (pc' := 45) dX2_gain_44 rfl rfl ?_
      obtain ⟨h11, hw⟩ := hw
      refine aIadd (pc' := 46) h11.1 h11.2 dX2_gain_45 rfl ?_
      refine aIstore_n (pc' := 47) dX2_gain_46 (by decide) rfl (L' := [some (aO 28 i), some (aO 9 0), some (aI x4), some (aI (((x7 - (C8 29 i 2)) + x4)))]) rfl ?_
      refine aIload_n (pc' := 48) dX2_gain_47 rfl rfl ?_
      refine aIf_le (tgt := 65) (pc' := 51) dX2_gain_48 (by decide) rfl (fun hc => ?_) (fun hc => ?_)
      · have hw := hw.1 hc
        refine aLconst0 (pc' := 66) dX2_gain_65 rfl ?_
        exact cLret dX2_gain_66 okX2_gain rfl ⟨rfl, _, rfl, _, rfl, hw⟩
      · have hw := hw.2 hc
        refine aAload_n (pc' := 52) dX2_gain_51 rfl rfl ?_
        refine aGetI (pc' := 55) dX2_gain_52 fX2_47 rfl rfl (lv hi) rfl ?_
        refine aTopEq (y := (C8 28 i 9)) rfl ?_
        refine aI2l (pc' := 56) dX2_gain_55 rfl ?_
        refine aIload_n (pc' := 57) dX2_gain_56 rfl rfl ?_
        refine aI2l (pc' := 58) dX2_gain_57 rfl ?_
        obtain ⟨h12, hw⟩ := hw
        refine aLmul (pc' := 59) h12.1 h12.2 dX2_gain_58 rfl ?_
        refine aIload_n (pc' := 60) dX2_gain_59 rfl rfl ?_
        refine aI2l (pc' := 61) dX2_gain_60 rfl ?_
        obtain ⟨h13, hw⟩ := hw
        refine aLdiv (pc' := 62) h13 dX2_gain_61 rfl ?_
        refine aGoto (pc' := 66) dX2_gain_62 (by decide) ?_
        exact cLret dX2_gain_66 okX2_gain rfl ⟨rfl, _, rfl, _, rfl, hw⟩
    · have hw := hw.2 hc
      refine aLconst0 (pc' := 15) dX2_gain_14 rfl ?_
      exact cLret dX2_gain_15 okX2_gain rfl ⟨rfl, _, rfl, _, rfl, hw⟩
set_option maxRecDepth 100000 in
set_option maxHeartbeats 4000000 in
theorem gX2_goesOn {w : aW} {mm : Nat} {C : aIF} {S : aS} {i : Nat} {P : Int → aIF → Prop} (hi : i < 6) (hw : (((C 28 i 3) = 3) → P 0 C) ∧ ((¬ ((C 28 i 3) = 3)) → (((C 28 i 3) = 4) → P 0 C) ∧ ((¬ ((C 28 i 3) = 4)) → P 1 C))) : kMetI w mX2_goesOn [aO 28 i] C S (rf mm) P := by
  refine cMet_of okX2_goesOn (Nat.le_of_ble_eq_true rfl) (fun hos => ?_)
  show cRun w mX2_goesOn 0 [some (aO 28 i)] [] (mem C S) (rf mm) (kqI (rf mm) S P)
  refine aAload_n (pc' := 1) dX2_goesOn_0 rfl rfl ?_
  refine aGetI (pc' := 4) dX2_goesOn_1 fX2_29 rfl rfl (lv hi) rfl ?_
  refine aTopEq (y := (C 28 i 3)) rfl ?_
  refine aIconst (pc' := 5) ⟨by decide, by decide⟩ dX2_goesOn_4 rfl ?_
  refine aIcmp_eq (tgt := 20) (pc' := 8) dX2_goesOn_5 (by decide) rfl (fun hc => ?_) (fun hc => ?_)
  · have hw := hw.1 hc
    refine aIconst (pc' := 21) ⟨by decide, by decide⟩ dX2_goesOn_20 rfl ?_
    exact cZret dX2_goesOn_21 okX2_goesOn rfl (by decide) ⟨rfl, _, rfl, _, rfl, hw⟩
  · have hw := hw.2 hc
    refine aAload_n (pc' := 9) dX2_goesOn_8 rfl rfl ?_
    refine aGetI (pc' := 12) dX2_goesOn_9 fX2_29 rfl rfl (lv hi) rfl ?_
    refine aTopEq (y := (C 28 i 3)) rfl ?_
    refine aIconst (pc' := 13) ⟨by decide, by decide⟩ dX2_goesOn_12 rfl ?_
    refine aIcmp_eq (tgt := 20) (pc' := 16) dX2_goesOn_13 (by decide) rfl (fun hc => ?_) (fun hc => ?_)
    · have hw := hw.1 hc
      refine aIconst (pc' := 21) ⟨by decide, by decide⟩ dX2_goesOn_20 rfl ?_
      exact cZret dX2_goesOn_21 okX2_goesOn rfl (by decide) ⟨rfl, _, rfl, _, rfl, hw⟩
    · have hw := hw.2 hc
      refine aIconst (pc' := 17) ⟨by decide, by decide⟩ dX2_goesOn_16 rfl ?_
      refine aGoto (pc' := 21) dX2_goesOn_17 (by decide) ?_
      exact cZret dX2_goesOn_21 okX2_goesOn rfl (by decide) ⟨rfl, _, rfl, _, rfl, hw⟩
set_option maxRecDepth 100000 in
set_option maxHeartbeats 4000000 in
theorem gX2_isAboutToMake {w : aW} {mm : Nat} {C : aIF} {S : aS} {i : Nat} {P : Int → aIF → Prop} (hi : i < 6) (hw : (((C 28 i 3) ≠ 0) → P 0 C) ∧ (((C 28 i 3) = 0) → kMetI w mX2_nextAct [aO 28 i] C S (rf mm) (fun x1 C2 => kMetI w mX1_isMake [aI x1] C2 S (rf mm) (fun x4 C5 => ((x4 = 0) → P 0 C5) ∧ ((¬ (x4 = 0)) → P 1 C5))))) : kMetI w mX2_isAboutToMake [aO 28 i] C S (rf mm) P := by
  refine cMet_of okX2_isAboutToMake (Nat.le_of_ble_eq_true rfl) (fun hos => ?_)
  show cRun w mX2_isAboutToMake 0 [some (aO 28 i)] [] (mem C S) (rf mm) (kqI (rf mm) S P)
  refine aAload_n (pc' := 1) dX2_isAboutToMake_0 rfl rfl ?_
  refine aGetI (pc' := 4) dX2_isAboutToMake_1 fX2_29 rfl rfl (lv hi) rfl ?_
  refine aTopEq (y := (C 28 i 3)) rfl ?_
  refine aIf_ne (tgt := 21) (pc' := 7) dX2_isAboutToMake_4 (by decide) rfl (fun hc => ?_) (fun hc => ?_)
  · have hw := hw.1 hc
    refine aIconst (pc' := 22) ⟨by decide, by decide⟩ dX2_isAboutToMake_21 rfl ?_
    exact cZret dX2_isAboutToMake_22 okX2_isAboutToMake rfl (by decide) ⟨rfl, _, rfl, _, rfl, hw⟩
  · have hw := hw.2 hc
    refine aAload_n (pc' := 8) dX2_isAboutToMake_7 rfl rfl ?_
    refine cVI (c := 2) (pc' := 11) [] dX2_isAboutToMake_8 lX2_81 okX2_nextAct ⟨by decide, by decide⟩ npX2_nextAct rfl rfl rfl rfl rfl hi rfl (cMetI_mono hw (fun x1 J3 hw => ?_))
    obtain ⟨C2, rfl, hw⟩ := hw
    refine cSI (pc' := 14) [aI x1] dX2_isAboutToMake_11 lX2_85 okX1_isMake ⟨by decide, by decide⟩ npX1_isMake rfl rfl rfl (cMetI_mono hw (fun x4 J6 hw => ?_))
    obtain ⟨C5, rfl, hw⟩ := hw
    refine aIf_eq (tgt := 21) (pc' := 17) dX2_isAboutToMake_14 (by decide) rfl (fun hc => ?_) (fun hc => ?_)
    · have hw := hw.1 hc
      refine aIconst (pc' := 22) ⟨by decide, by decide⟩ dX2_isAboutToMake_21 rfl ?_
      exact cZret dX2_isAboutToMake_22 okX2_isAboutToMake rfl (by decide) ⟨rfl, _, rfl, _, rfl, hw⟩
    · have hw := hw.2 hc
      refine aIconst (pc' := 18) ⟨by decide, by decide⟩ dX2_isAboutToMake_17 rfl ?_
      refine aGoto (pc' := 22) dX2_isAboutToMake_18 (by decide) ?_
      exact cZret dX2_isAboutToMake_22 okX2_isAboutToMake rfl (by decide) ⟨rfl, _, rfl, _, rfl, hw⟩
set_option maxRecDepth 100000 in
set_option maxHeartbeats 4000000 in
theorem gX2_isAwake {w : aW} {mm : Nat} {C : aIF} {S : aS} {i : Nat} {P : Int → aIF → Prop} (hi : i < 6) (hw : (((C 28 i 3) = 0) → P 1 C) ∧ ((¬ ((C 28 i 3) = 0)) → (((C 28 i 3) ≠ 1) → P 0 C) ∧ (((C 28 i 3) = 1) → P 1 C))) : kMetI w mX2_isAwake [aO 28 i] C S (rf mm) P := by
  refine cMet_of okX2_isAwake (Nat.le_of_ble_eq_true rfl) (fun hos => ?_)
  show cRun w mX2_isAwake 0 [some (aO 28 i)] [] (mem C S) (rf mm) (kqI (rf mm) S P)
  refine aAload_n (pc' := 1) dX2_isAwake_0 rfl rfl ?_
  refine aGetI (pc' := 4) dX2_isAwake_1 fX2_29 rfl rfl (lv hi) rfl ?_
  refine aTopEq (y := (C 28 i 3)) rfl ?_
  refine aIf_eq (tgt := 15) (pc' := 7) dX2_isAwake_4 (by decide) rfl (fun hc => ?_) (fun hc => ?_)
  · have hw := hw.1 hc
    refine aIconst (pc' := 16) ⟨by decide, by decide⟩ dX2_isAwake_15 rfl ?_
    refine aGoto (pc' := 20) dX2_isAwake_16 (by decide) ?_
    exact cZret dX2_isAwake_20 okX2_isAwake rfl (by decide) ⟨rfl, _, rfl, _, rfl, hw⟩
  · have hw := hw.2 hc
    refine aAload_n (pc' := 8) dX2_isAwake_7 rfl rfl ?_
    refine aGetI (pc' := 11) dX2_isAwake_8 fX2_29 rfl rfl (lv hi) rfl ?_
    refine aTopEq (y := (C 28 i 3)) rfl ?_
    refine aIconst (pc' := 12) ⟨by decide, by decide⟩ dX2_isAwake_11 rfl ?_
    refine aIcmp_ne (tgt := 19) (pc' := 15) dX2_isAwake_12 (by decide) rfl (fun hc => ?_) (fun hc => ?_)
    · have hw := hw.1 hc
      refine aIconst (pc' := 20) ⟨by decide, by decide⟩ dX2_isAwake_19 rfl ?_
      exact cZret dX2_isAwake_20 okX2_isAwake rfl (by decide) ⟨rfl, _, rfl, _, rfl, hw⟩
    · have hw := hw.2 hc
      refine aIconst (pc' := 16) ⟨by decide, by decide⟩ dX2_isAwake_15 rfl ?_
      refine aGoto (pc' := 20) dX2_isAwake_16 (by decide) ?_
      exact cZret dX2_isAwake_20 okX2_isAwake rfl (by decide) ⟨rfl, _, rfl, _, rfl, hw⟩
set_option maxRecDepth 100000 in
set_option maxHeartbeats 4000000 in
theorem gX2_keep {w : aW} {mm : Nat} {C : aIF} {S : aS} {i : Nat} {P : Int → aIF → Prop} (hi : i < 6) (hmi : i < mm) (hw : kMetI w mX1_roomFor [aO 6 i, aI ((C 29 i 2))] C S (rf mm) (fun x1 C2 => kMetI w mX5_stepsFor [aO 9 0, aI ((max (C 6 i 4) x1))] C2 S (rf mm) (fun x4 C5 => (-2147483648 ≤ ((C 9 0 0) * x4) ∧ ((C 9 0 0) * x4) < 2147483648) ∧ (P ((C 9 0 0) * x4) C5)))) : kMetI w mX2_keep [aO 28 i, aO 9 0] C S (rf mm) P := by
  refine cMet_of okX2_keep (Nat.le_of_ble_eq_true rfl) (fun hos => ?_)
  show cRun w mX2_keep 0 [some (aO 28 i), some (aO 9 0)] [] (mem C S) (rf mm) (kqI (rf mm) S P)
  refine aAload_n (pc' := 1) dX2_keep_0 rfl rfl ?_
  refine aGetI (pc' := 4) dX2_keep_1 fX2_93 rfl rfl (lv (by decide)) rfl ?_
  refine aTopEq (y := (C 9 0 0)) rfl ?_
  refine aAload_n (pc' := 5) dX2_keep_4 rfl rfl ?_
  refine aAload_n (pc' := 6) dX2_keep_5 rfl rfl ?_
  refine aGetR (pc' := 9) (q := (6, i)) dX2_keep_6 fX2_22 rfl rfl (lv hi) (rf_p hmi) rfl ?_
  refine aGetI (pc' := 12) dX2_keep_9 fX2_98 rfl rfl (lv hi) rfl ?_
  refine aTopEq (y := (C 6 i 4)) rfl ?_
  refine aAload_n (pc' := 13) dX2_keep_12 rfl rfl ?_
  refine aGetR (pc' := 16) (q := (6, i)) dX2_keep_13 fX2_22 rfl rfl (lv hi) (rf_p hmi) rfl ?_
  refine aAload_n (pc' := 17) dX2_keep_16 rfl rfl ?_
  refine aGetR (pc' := 20) (q := (29, i)) dX2_keep_17 fX2_12 rfl rfl (lv hi) rfl rfl ?_
  refine aGetI (pc' := 23) dX2_keep_20 fX2_101 rfl rfl (lv hi) rfl ?_
  refine aTopEq (y := (C 29 i 2)) rfl ?_
  refine cVI (c := 1) (pc' := 26) [aI ((C 29 i 2))] dX2_keep_23 lX2_104 okX1_roomFor ⟨by decide, by decide⟩ npX1_roomFor rfl rfl rfl rfl rfl hi rfl (cMetI_mono hw (fun x1 J3 hw => ?_))
  obtain ⟨C2, rfl, hw⟩ := hw
  refine aMax (pc' := 29) dX2_keep_26 lX2_107 rfl rfl (Nat.le_refl _) (Nat.le_refl _) rfl ?_
  refine cVI (c := 5) (pc' := 32) [aI ((max (C 6 i 4) x1))] dX2_keep_29 lX2_113 okX5_stepsFor ⟨by decide, by decide⟩ npX5_stepsFor rfl rfl rfl rfl rfl (by decide) rfl (cMetI_mono hw (fun x4 J6 hw => ?_))
  obtain ⟨C5, rfl, hw⟩ := hw
  obtain ⟨h7, hw⟩ := hw
  refine aImul (pc' := 33) h7.1 h7.2 dX2_keep_32 rfl ?_
  exact cIret dX2_keep_33 okX2_keep rfl ⟨rfl, _, rfl, _, rfl, hw⟩
set_option maxRecDepth 100000 in
set_option maxHeartbeats 4000000 in
theorem gX2_leave {w : aW} {mm : Nat} {C : aIF} {S : aS} {i : Nat} {p1 : Int} {p2 : Int} {P : Int → aIF → Prop} (hi : i < 6) (hw : P (C 28 i 4) (uI (uI (uI (uI (uI C 28 i 3 p1) 28 i 10 p2) 28 i 4 0) 28 i 5 0) 29 i 2 0)) : kMetI w mX2_leave [aO 28 i, aI p1, aI p2] C S (rf mm) P := by
  refine cMet_of okX2_leave (Nat.le_of_ble_eq_true rfl) (fun hos => ?_)
  show cRun w mX2_leave 0 [some (aO 28 i), some (aI p1), some (aI p2), none] [] (mem C S) (rf mm) (kqI (rf mm) S P)
  refine aAload_n (pc' := 1) dX2_leave_0 rfl rfl ?_
  refine aGetI (pc' := 4) dX2_leave_1 fX2_32 rfl rfl (lv hi) rfl ?_
  refine aTopEq (y := (C 28 i 4)) rfl ?_
  refine aIstore_n (pc' := 5) dX2_leave_4 (by decide) rfl (L' := [some (aO 28 i), some (aI p1), some (aI p2), some (aI ((C 28 i 4)))]) rfl ?_
  refine aAload_n (pc' := 6) dX2_leave_5 rfl rfl ?_
  refine aIload_n (pc' := 7) dX2_leave_6 rfl rfl ?_
  refine aPutI (pc' := 10) dX2_leave_7 fX2_29 rfl rfl (Or.inl rfl) (lv hi) rfl (cEqI (mK rfl) ?_)
  refine aAload_n (pc' := 11) dX2_leave_10 rfl rfl ?_
  refine aIload_n (pc' := 12) dX2_leave_11 rfl rfl ?_
  refine aPutI (pc' := 15) dX2_leave_12 fX2_50 rfl rfl (Or.inl rfl) (lv hi) rfl (cEqI (mK rfl) ?_)
  refine aAload_n (pc' := 16) dX2_leave_15 rfl rfl ?_
  refine aIconst (pc' := 17) ⟨by decide, by decide⟩ dX2_leave_16 rfl ?_
  refine aPutI (pc' := 20) dX2_leave_17 fX2_32 rfl rfl (Or.inl rfl) (lv hi) rfl (cEqI (mK rfl) ?_)
  refine aAload_n (pc' := 21) dX2_leave_20 rfl rfl ?_
  refine aIconst (pc' := 22) ⟨by decide, by decide⟩ dX2_leave_21 rfl ?_
  refine aPutI (pc' := 25) dX2_leave_22 fX2_35 rfl rfl (Or.inl rfl) (lv hi) rfl (cEqI (mK rfl) ?_)
  refine aAload_n (pc' := 26) dX2_leave_25 rfl rfl ?_
  refine aGetR (pc' := 29) (q := (29, i)) dX2_leave_26 fX2_12 rfl rfl (lv hi) rfl rfl ?_
  refine aIconst (pc' := 30) ⟨by decide, by decide⟩ dX2_leave_29 rfl ?_
  refine aPutI (pc' := 33) dX2_leave_30 fX2_101 rfl rfl (Or.inl rfl) (lv hi) rfl (cEqI (mK rfl) ?_)
  refine aIload_n (pc' := 34) dX2_leave_33 rfl rfl ?_
  exact cIret dX2_leave_34 okX2_leave rfl ⟨rfl, _, rfl, _, rfl, hw⟩
set_option maxRecDepth 100000 in
set_option maxHeartbeats 4000000 in
theorem gX2_loss {w : aW} {mm : Nat} {C : aIF} {S : aS} {i : Nat} {P : Int → aIF → Prop} (hi : i < 6) (hmi : i < mm) (hw : kMetI w mX2_isAwake [aO 28 i] C S (rf mm) (fun x1 C2 => ((x1 = 0) → P (-1) C2) ∧ ((¬ (x1 = 0)) → kMetI w mX2_keep [aO 28 i, aO 9 0] C2 S (rf mm) (fun x4 C5 => (-2147483648 ≤ ((C2 28 i 4) - x4) ∧ ((C2 28 i 4) - x4) < 2147483648) ∧ ((((C5 9 0 0) ≤ ((C2 28 i 4) - x4)) → kMetI w mX2_cellsOfStep [aO 28 i, aI ((C5 9 0 0))] C5 S (rf mm) (fun x8 C9 => kMetI w mX1_holds [aO 6 i, aI ((C9 28 i 4))] C9 S (rf mm) (fun x11 C12 => (-2147483648 ≤ (x11 - (C12 29 i 2)) ∧ (x11 - (C12 29 i 2)) < 2147483648) ∧ ((-2147483648 ≤ ((x11 - (C12 29 i 2)) - x8) ∧ ((x11 - (C12 29 i 2)) - x8) < 2147483648) ∧ (((((x11 - (C12 29 i 2)) - x8) ≤ 0) → P (-1) C12) ∧ ((¬ (((x11 - (C12 29 i 2)) - x8) ≤ 0)) → (-9223372036854775808 ≤ ((C12 28 i 9) * x8) ∧ ((C12 28 i 9) * x8) < 9223372036854775808) ∧ ((0 < ((x11 - (C12 29 i 2)) - x8)) ∧ (P ((((C12 28 i 9) * x8)).tdiv ((x11 - (C12 29 i 2)) - x8)) C12)))))))) ∧ ((¬ ((C5 9 0 0) ≤ ((C2 28 i 4) - x4))) → P (-1) C5)))))) : kMetL w mX2_loss [aO 28 i, aO 9 0] C S (rf mm) P := by
  refine cMet_of okX2_loss (Nat.le_of_ble_eq_true rfl) (fun hos => ?_)
  show cRun w mX2_loss 0 [some (aO 28 i), some (aO 9 0), none, none] [] (mem C S) (rf mm) (kqL (rf mm) S P)
  refine aAload_n (pc' := 1) dX2_loss_0 rfl rfl ?_
  refine cVI (c := 2) (pc' := 4) [] dX2_loss_1 lX2_134 okX2_isAwake ⟨by decide, by decide⟩ npX2_isAwake rfl rfl rfl rfl rfl hi rfl (cMetI_mono hw (fun x1 J3 hw => ?_))
  obtain ⟨C2, rfl, hw⟩ := hw
  refine aIf_eq (tgt := 24) (pc' := 7) dX2_loss_4 (by decide) rfl (fun hc => ?_) (fun hc => ?_)
  · have hw := hw.1 hc
    refine aLdc2 (pc' := 27) qX2_140 ⟨by decide, by decide⟩ dX2_loss_24 rfl ?_
    exact cLret dX2_loss_27 okX2_loss rfl ⟨rfl, _, rfl, _, rfl, hw⟩
  · have hw := hw.2 hc
    refine aAload_n (pc' := 8) dX2_loss_7 rfl rfl ?_
    refine aGetI (pc' := 11) dX2_loss_8 fX2_32 rfl rfl (lv hi) rfl ?_
    refine aTopEq (y := (C2 28 i 4)) rfl ?_
    refine aAload_n (pc' := 12) dX2_loss_11 rfl rfl ?_
    refine aAload_n (pc' := 13) dX2_loss_12 rfl rfl ?_
    refine cVI (c := 2) (pc' := 16) [aO 9 0] dX2_loss_13 lX2_120 okX2_keep ⟨by decide, by decide⟩ npX2_keep rfl rfl rfl rfl rfl hi rfl (cMetI_mono hw (fun x4 J6 hw => ?_))
    obtain ⟨C5, rfl, hw⟩ := hw
    obtain ⟨h7, hw⟩ := hw
    refine aIsub (pc' := 17) h7.1 h7.2 dX2_loss_16 rfl ?_
    refine aAload_n (pc' := 18) dX2_loss_17 rfl rfl ?_
    refine aGetI (pc' := 21) dX2_loss_18 fX2_93 rfl rfl (lv (by decide)) rfl ?_
    refine aTopEq (y := (C5 9 0 0)) rfl ?_
    refine aIcmp_ge (tgt := 28) (pc' := 24) dX2_loss_21 (by decide) rfl (fun hc => ?_) (fun hc => ?_)
    · have hw := hw.1 hc
      refine aAload_n (pc' := 29) dX2_loss_28 rfl rfl ?_
      refine aAload_n (pc' := 30) dX2_loss_29 rfl rfl ?_
      refine aGetI (pc' := 33) dX2_loss_30 fX2_93 rfl rfl (lv (by decide)) rfl ?_
      refine aTopEq (y := (C5 9 0 0)) rfl ?_
      refine cVI (c := 2) (pc' := 36) [aI ((C5 9 0 0))] dX2_loss_33 lX2_137 okX2_cellsOfStep ⟨by decide, by decide⟩ npX2_cellsOfStep rfl rfl rfl rfl rfl hi rfl (cMetI_mono hw (fun x8 J10 hw => ?_))
      obtain ⟨C9, rfl, hw⟩ := hw
      refine aIstore_n (pc' := 37) dX2_loss_36 (by decide) rfl (L' := [some (aO 28 i), some (aO 9 0), some (aI x8), none]) rfl ?_
      refine aAload_n (pc' := 38) dX2_loss_37 rfl rfl ?_
      refine aGetR (pc' := 41) (q := (6, i)) dX2_loss_38 fX2_22 rfl rfl (lv hi) (rf_p hmi) rfl ?_
      refine aAload_n (pc' := 42) dX2_loss_41 rfl rfl ?_
      refine aGetI (pc' := 45) dX2_loss_42 fX2_32 rfl rfl (lv hi) rfl ?_
      refine aTopEq (y := (C9 28 i 4)) rfl ?_
      refine cVI (c := 1) (pc' := 48) [aI ((C9 28 i 4))] dX2_loss_45 lX2_89 okX1_holds ⟨by decide, by decide⟩ npX1_holds rfl rfl rfl rfl rfl hi rfl (cMetI_mono hw (fun x11 J13 hw => ?_))
      obtain ⟨C12, rfl, hw⟩ := hw
      refine aAload_n (pc' := 49) dX2_loss_48 rfl rfl ?_
      refine aGetR (pc' := 52) (q := (29, i)) dX2_loss_49 fX2_12 rfl rfl (lv hi) rfl rfl ?_
      refine aGetI (pc' := 55) dX2_loss_52 fX2_101 rfl rfl (lv hi) rfl ?_
      refine aTopEq (y := (C12 29 i 2)) rfl ?_
      obtain ⟨h14, hw⟩ := hw
      refine aIsub (pc' := 56) h14.1 h14.2 dX2_loss_55 rfl ?_
      refine aIload_n (pc' := 57) dX2_loss_56 rfl rfl ?_
      obtain ⟨h15, hw⟩ := hw
      refine aIsub (pc' := 58) h15.1 h15.2 dX2_loss_57 rfl ?_
      refine aIstore_n (pc' := 59) dX2_loss_58 (by decide) rfl (L' := [some (aO 28 i), some (aO 9 0), some (aI x8), some (aI (((x11 - (C12 29 i 2)) - x8)))]) rfl ?_
      refine aIload_n (pc' := 60) dX2_loss_59 rfl rfl ?_
      refine aIf_le (tgt := 77) (pc' := 63) dX2_loss_60 (by decide) rfl (fun hc => ?_) (fun hc => ?_)
      · have hw := hw.1 hc
        refine aLdc2 (pc' := 80) qX2_140 ⟨by decide, by decide⟩ dX2_loss_77 rfl ?_
        exact cLret dX2_loss_80 okX2_loss rfl ⟨rfl, _, rfl, _, rfl, hw⟩
      · have hw := hw.2 hc
        refine aAload_n (pc' := 64) dX2_loss_63 rfl rfl ?_
        refine aGetI (pc' := 67) dX2_loss_64 fX2_47 rfl rfl (lv hi) rfl ?_
        refine aTopEq (y := (C12 28 i 9)) rfl ?_
        refine aI2l (pc' := 68) dX2_loss_67 rfl ?_
        refine aIload_n (pc' := 69) dX2_loss_68 rfl rfl ?_
        refine aI2l (pc' := 70) dX2_loss_69 rfl ?_
        obtain ⟨h16, hw⟩ := hw
        refine aLmul (pc' := 71) h16.1 h16.2 dX2_loss_70 rfl ?_
        refine aIload_n (pc' := 72) dX2_loss_71 rfl rfl ?_
        refine aI2l (pc' := 73) dX2_loss_72 rfl ?_
        obtain ⟨h17, hw⟩ := hw
        refine aLdiv (pc' := 74) h17 dX2_loss_73 rfl ?_
        refine aGoto (pc' := 80) dX2_loss_74 (by decide) ?_
        exact cLret dX2_loss_80 okX2_loss rfl ⟨rfl, _, rfl, _, rfl, hw⟩
    · have hw := hw.2 hc
      refine aLdc2 (pc' := 27) qX2_140 ⟨by decide, by decide⟩ dX2_loss_24 rfl ?_
      exact cLret dX2_loss_27 okX2_loss rfl ⟨rfl, _, rfl, _, rfl, hw⟩
set_option maxRecDepth 100000 in
set_option maxHeartbeats 4000000 in
theorem gX2_makeNow {w : aW} {mm : Nat} {C : aIF} {S : aS} {i : Nat} {p1 : Int} {P : aIF → Prop} (hi : i < 6) (hw : kMetV w mX6_add [aO 29 i, aI p1] C S (rf mm) (fun C2 => (-2147483648 ≤ ((C2 28 i 5) + p1) ∧ ((C2 28 i 5) + p1) < 2147483648) ∧ (P (uI C2 28 i 5 (((C2 28 i 5) + p1)))))) : kMetV w mX2_makeNow [aO 28 i, aI p1] C S (rf mm) P := by
  refine cMet_of okX2_makeNow (Nat.le_of_ble_eq_true rfl) (fun hos => ?_)
  show cRun w mX2_makeNow 0 [some (aO 28 i), some (aI p1)] [] (mem C S) (rf mm) (kqV (rf mm) S P)
  refine aAload_n (pc' := 1) dX2_makeNow_0 rfl rfl ?_
  refine aGetR (pc' := 4) (q := (29, i)) dX2_makeNow_1 fX2_12 rfl rfl (lv hi) rfl rfl ?_
  refine aIload_n (pc' := 5) dX2_makeNow_4 rfl rfl ?_
  refine cVV (c := 6) (pc' := 8) [aI p1] dX2_makeNow_5 lX2_127 okX6_add ⟨by decide, by decide⟩ npX6_add rfl rfl rfl rfl rfl hi rfl (cMetV_mono hw (fun J3 hw => ?_))
  obtain ⟨C2, rfl, hw⟩ := hw
  refine aAload_n (pc' := 9) dX2_makeNow_8 rfl rfl ?_
  refine aDup (pc' := 10) rfl dX2_makeNow_9 rfl ?_
  refine aGetI (pc' := 13) dX2_makeNow_10 fX2_35 rfl rfl (lv hi) rfl ?_
  refine aTopEq (y := (C2 28 i 5)) rfl ?_
  refine aIload_n (pc' := 14) dX2_makeNow_13 rfl rfl ?_
  obtain ⟨h4, hw⟩ := hw
  refine aIadd (pc' := 15) h4.1 h4.2 dX2_makeNow_14 rfl ?_
  refine aPutI (pc' := 18) dX2_makeNow_15 fX2_35 rfl rfl (Or.inl rfl) (lv hi) rfl (cEqI (mK rfl) ?_)
  exact cVret dX2_makeNow_18 okX2_makeNow rfl ⟨rfl, rfl, _, rfl, hw⟩
set_option maxRecDepth 100000 in
set_option maxHeartbeats 4000000 in
theorem gX2_nextAct {w : aW} {mm : Nat} {C : aIF} {S : aS} {i : Nat} {P : Int → aIF → Prop} (hi : i < 6) (hmi : i < mm) (hw : (((C 28 i 7) < 0) → P 0 C) ∧ ((¬ ((C 28 i 7) < 0)) → (((C 6 i 1) ≤ (C 28 i 7)) → P 0 C) ∧ ((¬ ((C 6 i 1) ≤ (C 28 i 7))) → (0 ≤ (C 28 i 7) ∧ (C 28 i 7) < ((60 : Nat) : Int)) ∧ (P (C 7 i (((C 28 i 7)).toNat)) C)))) : kMetI w mX2_nextAct [aO 28 i] C S (rf mm) P := by
  refine cMet_of okX2_nextAct (Nat.le_of_ble_eq_true rfl) (fun hos => ?_)
  show cRun w mX2_nextAct 0 [some (aO 28 i)] [] (mem C S) (rf mm) (kqI (rf mm) S P)
  refine aAload_n (pc' := 1) dX2_nextAct_0 rfl rfl ?_
  refine aGetI (pc' := 4) dX2_nextAct_1 fX2_41 rfl rfl (lv hi) rfl ?_
  refine aTopEq (y := (C 28 i 7)) rfl ?_
  refine aIf_lt (tgt := 36) (pc' := 7) dX2_nextAct_4 (by decide) rfl (fun hc => ?_) (fun hc => ?_)
  · have hw := hw.1 hc
    refine aIconst (pc' := 37) ⟨by decide, by decide⟩ dX2_nextAct_36 rfl ?_
    exact cIret dX2_nextAct_37 okX2_nextAct rfl ⟨rfl, _, rfl, _, rfl, hw⟩
  · have hw := hw.2 hc
    refine aAload_n (pc' := 8) dX2_nextAct_7 rfl rfl ?_
    refine aGetI (pc' := 11) dX2_nextAct_8 fX2_41 rfl rfl (lv hi) rfl ?_
    refine aTopEq (y := (C 28 i 7)) rfl ?_
    refine aAload_n (pc' := 12) dX2_nextAct_11 rfl rfl ?_
    refine aGetR (pc' := 15) (q := (6, i)) dX2_nextAct_12 fX2_22 rfl rfl (lv hi) (rf_p hmi) rfl ?_
    refine aGetI (pc' := 18) dX2_nextAct_15 fX2_72 rfl rfl (lv hi) rfl ?_
    refine aTopEq (y := (C 6 i 1)) rfl ?_
    refine aIcmp_ge (tgt := 36) (pc' := 21) dX2_nextAct_18 (by decide) rfl (fun hc => ?_) (fun hc => ?_)
    · have hw := hw.1 hc
      refine aIconst (pc' := 37) ⟨by decide, by decide⟩ dX2_nextAct_36 rfl ?_
      exact cIret dX2_nextAct_37 okX2_nextAct rfl ⟨rfl, _, rfl, _, rfl, hw⟩
    · have hw := hw.2 hc
      refine aAload_n (pc' := 22) dX2_nextAct_21 rfl rfl ?_
      refine aGetR (pc' := 25) (q := (6, i)) dX2_nextAct_22 fX2_22 rfl rfl (lv hi) (rf_p hmi) rfl ?_
      refine aGetR (pc' := 28) (q := (7, i)) dX2_nextAct_25 fX2_77 rfl rfl (lv hi) rfl rfl ?_
      refine aAload_n (pc' := 29) dX2_nextAct_28 rfl rfl ?_
      refine aGetI (pc' := 32) dX2_nextAct_29 fX2_41 rfl rfl (lv hi) rfl ?_
      refine aTopEq (y := (C 28 i 7)) rfl ?_
      obtain ⟨h1, hw⟩ := hw
      refine aIald (pc' := 33) (j := ((C 28 i 7)).toNat) dX2_nextAct_32 rfl (lv hi) (tnIx h1).1 (tnIx h1).2 rfl ?_
      refine aTopEq (y := (C 7 i (((C 28 i 7)).toNat))) rfl ?_
      refine aGoto (pc' := 37) dX2_nextAct_33 (by decide) ?_
      exact cIret dX2_nextAct_37 okX2_nextAct rfl ⟨rfl, _, rfl, _, rfl, hw⟩
set_option maxRecDepth 100000 in
set_option maxHeartbeats 4000000 in
theorem gX2_spare {w : aW} {mm : Nat} {C : aIF} {S : aS} {i : Nat} {P : Int → aIF → Prop} (hi : i < 6) (hw : kMetI w mX2_goesOn [aO 28 i] C S (rf mm) (fun x1 C2 => ((x1 = 0) → P 0 C2) ∧ ((¬ (x1 = 0)) → kMetI w mX2_keep [aO 28 i, aO 9 0] C2 S (rf mm) (fun x4 C5 => (-2147483648 ≤ ((C2 28 i 4) - x4) ∧ ((C2 28 i 4) - x4) < 2147483648) ∧ (P (max ((C2 28 i 4) - x4) 0) C5))))) : kMetI w mX2_spare [aO 28 i, aO 9 0] C S (rf mm) P := by
  refine cMet_of okX2_spare (Nat.le_of_ble_eq_true rfl) (fun hos => ?_)
  show cRun w mX2_spare 0 [some (aO 28 i), some (aO 9 0)] [] (mem C S) (rf mm) (kqI (rf mm) S P)
  refine aAload_n (pc' := 1) dX2_spare_0 rfl rfl ?_
  refine cVI (c := 2) (pc' := 4) [] dX2_spare_1 lX2_116 okX2_goesOn ⟨by decide, by decide⟩ npX2_goesOn rfl rfl rfl rfl rfl hi rfl (cMetI_mono hw (fun x1 J3 hw => ?_))
  obtain ⟨C2, rfl, hw⟩ := hw
  refine aIf_eq (tgt := 24) (pc' := 7) dX2_spare_4 (by decide) rfl (fun hc => ?_) (fun hc => ?_)
  · have hw := hw.1 hc
    refine aIconst (pc' := 25) ⟨by decide, by decide⟩ dX2_spare_24 rfl ?_
    exact cIret dX2_spare_25 okX2_spare rfl ⟨rfl, _, rfl, _, rfl, hw⟩
  · have hw := hw.2 hc
    refine aAload_n (pc' := 8) dX2_spare_7 rfl rfl ?_
    refine aGetI (pc' := 11) dX2_spare_8 fX2_32 rfl rfl (lv hi) rfl ?_
    refine aTopEq (y := (C2 28 i 4)) rfl ?_
    refine aAload_n (pc' := 12) dX2_spare_11 rfl rfl ?_
    refine aAload_n (pc' := 13) dX2_spare_12 rfl rfl ?_
    refine cVI (c := 2) (pc' := 16) [aO 9 0] dX2_spare_13 lX2_120 okX2_keep ⟨by decide, by decide⟩ npX2_keep rfl rfl rfl rfl rfl hi rfl (cMetI_mono hw (fun x4 J6 hw => ?_))
    obtain ⟨C5, rfl, hw⟩ := hw
    obtain ⟨h7, hw⟩ := hw
    refine aIsub (pc' := 17) h7.1 h7.2 dX2_spare_16 rfl ?_
    refine aIconst (pc' := 18) ⟨by decide, by decide⟩ dX2_spare_17 rfl ?_
    refine aMax (pc' := 21) dX2_spare_18 lX2_107 rfl rfl (Nat.le_refl _) (Nat.le_refl _) rfl ?_
    refine aGoto (pc' := 25) dX2_spare_21 (by decide) ?_
    exact cIret dX2_spare_25 okX2_spare rfl ⟨rfl, _, rfl, _, rfl, hw⟩
set_option maxRecDepth 100000 in
set_option maxHeartbeats 4000000 in
theorem gX2_start {w : aW} {mm : Nat} {C : aIF} {S : aS} {i : Nat} {sh : Int} {P : aIF → Prop} (hi : i < 6) (hw : kMetV w mX6_forget [aO 29 i] C S (rf mm) (fun C2 => P (uI (uI (uI (uI (uI (uI (uI (uI (uI (uI (uI (uI (uI (uI C2 28 i 3 0) 28 i 4 sh) 28 i 5 0) 28 i 6 0) 28 i 7 0) 28 i 8 0) 28 i 9 0) 28 i 10 ((-1))) 28 i 11 0) 28 i 12 0) 28 i 13 0) 28 i 14 0) 28 i 15 0) 28 i 16 0))) : kMetV w mX2_start [aO 28 i, aI sh] C S (rf mm) P := by
  refine cMet_of okX2_start (Nat.le_of_ble_eq_true rfl) (fun hos => ?_)
  show cRun w mX2_start 0 [some (aO 28 i), some (aI sh)] [] (mem C S) (rf mm) (kqV (rf mm) S P)
  refine aAload_n (pc' := 1) dX2_start_0 rfl rfl ?_
  refine aGetR (pc' := 4) (q := (29, i)) dX2_start_1 fX2_12 rfl rfl (lv hi) rfl rfl ?_
  refine cVV (c := 6) (pc' := 7) [] dX2_start_4 lX2_26 okX6_forget ⟨by decide, by decide⟩ npX6_forget rfl rfl rfl rfl rfl hi rfl (cMetV_mono hw (fun J3 hw => ?_))
  obtain ⟨C2, rfl, hw⟩ := hw
  refine aAload_n (pc' := 8) dX2_start_7 rfl rfl ?_
  refine aIconst (pc' := 9) ⟨by decide, by decide⟩ dX2_start_8 rfl ?_
  refine aPutI (pc' := 12) dX2_start_9 fX2_29 rfl rfl (Or.inl rfl) (lv hi) rfl (cEqI (mK rfl) ?_)
  refine aAload_n (pc' := 13) dX2_start_12 rfl rfl ?_
  refine aIload_n (pc' := 14) dX2_start_13 rfl rfl ?_
  refine aPutI (pc' := 17) dX2_start_14 fX2_32 rfl rfl (Or.inl rfl) (lv hi) rfl (cEqI (mK rfl) ?_)
  refine aAload_n (pc' := 18) dX2_start_17 rfl rfl ?_
  refine aIconst (pc' := 19) ⟨by decide, by decide⟩ dX2_start_18 rfl ?_
  refine aPutI (pc' := 22) dX2_start_19 fX2_35 rfl rfl (Or.inl rfl) (lv hi) rfl (cEqI (mK rfl) ?_)
  refine aAload_n (pc' := 23) dX2_start_22 rfl rfl ?_
  refine aIconst (pc' := 24) ⟨by decide, by decide⟩ dX2_start_23 rfl ?_
  refine aPutI (pc' := 27) dX2_start_24 fX2_38 rfl rfl (Or.inl rfl) (lv hi) rfl (cEqI (mK rfl) ?_)
  refine aAload_n (pc' := 28) dX2_start_27 rfl rfl ?_
  refine aIconst (pc' := 29) ⟨by decide, by decide⟩ dX2_start_28 rfl ?_
  refine aPutI (pc' := 32) dX2_start_29 fX2_41 rfl rfl (Or.inl rfl) (lv hi) rfl (cEqI (mK rfl) ?_)
  refine aAload_n (pc' := 33) dX2_start_32 rfl rfl ?_
  refine aIconst (pc' := 34) ⟨by decide, by decide⟩ dX2_start_33 rfl ?_
  refine aPutI (pc' := 37) dX2_start_34 fX2_44 rfl rfl (Or.inl rfl) (lv hi) rfl (cEqI (mK rfl) ?_)
  refine aAload_n (pc' := 38) dX2_start_37 rfl rfl ?_
  refine aIconst (pc' := 39) ⟨by decide, by decide⟩ dX2_start_38 rfl ?_
  refine aPutI (pc' := 42) dX2_start_39 fX2_47 rfl rfl (Or.inl rfl) (lv hi) rfl (cEqI (mK rfl) ?_)
  refine aAload_n (pc' := 43) dX2_start_42 rfl rfl ?_
  refine aIconst (pc' := 44) ⟨by decide, by decide⟩ dX2_start_43 rfl ?_
  refine aPutI (pc' := 47) dX2_start_44 fX2_50 rfl rfl (Or.inl rfl) (lv hi) rfl (cEqI (mK rfl) ?_)
  refine aAload_n (pc' := 48) dX2_start_47 rfl rfl ?_
  refine aIconst (pc' := 49) ⟨by decide, by decide⟩ dX2_start_48 rfl ?_
  refine aPutI (pc' := 52) dX2_start_49 fX2_53 rfl rfl (Or.inl rfl) (lv hi) rfl (cEqI (mK rfl) ?_)
  refine aAload_n (pc' := 53) dX2_start_52 rfl rfl ?_
  refine aIconst (pc' := 54) ⟨by decide, by decide⟩ dX2_start_53 rfl ?_
  refine aPutZ (pc' := 57) dX2_start_54 fX2_56 rfl rfl (Or.inl rfl) (lv hi) (by decide) rfl (cEqI (mK rfl) ?_)
  refine aAload_n (pc' := 58) dX2_start_57 rfl rfl ?_
  refine aIconst (pc' := 59) ⟨by decide, by decide⟩ dX2_start_58 rfl ?_
  refine aPutZ (pc' := 62) dX2_start_59 fX2_60 rfl rfl (Or.inl rfl) (lv hi) (by decide) rfl (cEqI (mK rfl) ?_)
  refine aAload_n (pc' := 63) dX2_start_62 rfl rfl ?_
  refine aIconst (pc' := 64) ⟨by decide, by decide⟩ dX2_start_63 rfl ?_
  refine aPutI (pc' := 67) dX2_start_64 fX2_63 rfl rfl (Or.inl rfl) (lv hi) rfl (cEqI (mK rfl) ?_)
  refine aAload_n (pc' := 68) dX2_start_67 rfl rfl ?_
  refine aIconst (pc' := 69) ⟨by decide, by decide⟩ dX2_start_68 rfl ?_
  refine aPutI (pc' := 72) dX2_start_69 fX2_66 rfl rfl (Or.inl rfl) (lv hi) rfl (cEqI (mK rfl) ?_)
  refine aAload_n (pc' := 73) dX2_start_72 rfl rfl ?_
  refine aIconst (pc' := 74) ⟨by decide, by decide⟩ dX2_start_73 rfl ?_
  refine aPutI (pc' := 77) dX2_start_74 fX2_69 rfl rfl (Or.inl rfl) (lv hi) rfl (cEqI (mK rfl) ?_)
  exact cVret dX2_start_77 okX2_start rfl ⟨rfl, rfl, _, rfl, hw⟩
set_option maxRecDepth 100000 in
set_option maxHeartbeats 4000000 in
theorem gX2_told {w : aW} {mm : Nat} {C : aIF} {S : aS} {i : Nat} {p1 : Int} {P : Int → aIF → Prop} (hi : i < 6) (hw : ((p1 = 0) → P (C 28 i 3) C) ∧ ((p1 = 1) → P (C 28 i 4) C) ∧ ((p1 = 2) → P (C 28 i 5) C) ∧ ((p1 = 3) → P (C 29 i 2) C) ∧ ((p1 = 4) → P (C 28 i 6) C) ∧ ((p1 = 5) → (((C 28 i 3) ≠ 3) → P (C 28 i 7) C) ∧ (((C 28 i 3) = 3) → P (-2) C)) ∧ ((p1 = 6) → P (C 29 i 1) C) ∧ ((p1 = 7) → P (C 28 i 8) C) ∧ ((p1 = 8) → P (C 28 i 9) C) ∧ ((p1 = 9) → P (C 28 i 10) C) ∧ ((p1 = 10) → (((C 28 i 12) = 0) → P 0 C) ∧ ((¬ ((C 28 i 12) = 0)) → P 1 C)) ∧ ((p1 = 11) → (((C 28 i 13) = 0) → P 0 C) ∧ ((¬ ((C 28 i 13) = 0)) → P 1 C)) ∧ ((p1 = 12) → P (C 28 i 11) C) ∧ ((p1 < 0 ∨ 12 < p1) → P (-2) C)) : kMetI w mX2_told [aO 28 i, aI p1] C S (rf mm) P := by
  refine cMet_of okX2_told (Nat.le_of_ble_eq_true rfl) (fun hos => ?_)
  show cRun w mX2_told 0 [some (aO 28 i), some (aI p1)] [] (mem C S) (rf mm) (kqI (rf mm) S P)
  refine aIload_n (pc' := 1) dX2_told_0 rfl rfl ?_
  rcases (show p1 = 0 ∨ p1 = 1 ∨ p1 = 2 ∨ p1 = 3 ∨ p1 = 4 ∨ p1 = 5 ∨ p1 = 6 ∨ p1 = 7 ∨ p1 = 8 ∨ p1 = 9 ∨ p1 = 10 ∨ p1 = 11 ∨ p1 = 12 ∨ (p1 < 0 ∨ 12 < p1) by omega) with hc | hc | hc | hc | hc | hc | hc | hc | hc | hc | hc | hc | hc | hc
  · have hw := hw.1 hc
    refine aTswIn (tgt := 68) dX2_told_1 (by omega) (by omega) (by rw [hc]; rfl) (by decide) ?_
    refine aAload_n (pc' := 69) dX2_told_68 rfl rfl ?_
    refine aGetI (pc' := 72) dX2_told_69 fX2_29 rfl rfl (lv hi) rfl ?_
    refine aTopEq (y := (C 28 i 3)) rfl ?_
    exact cIret dX2_told_72 okX2_told rfl ⟨rfl, _, rfl, _, rfl, hw⟩
  · have hw := hw.2.1 hc
    refine aTswIn (tgt := 73) dX2_told_1 (by omega) (by omega) (by rw [hc]; rfl) (by decide) ?_
    refine aAload_n (pc' := 74) dX2_told_73 rfl rfl ?_
    refine aGetI (pc' := 77) dX2_told_74 fX2_32 rfl rfl (lv hi) rfl ?_
    refine aTopEq (y := (C 28 i 4)) rfl ?_
    exact cIret dX2_told_77 okX2_told rfl ⟨rfl, _, rfl, _, rfl, hw⟩
  · have hw := hw.2.2.1 hc
    refine aTswIn (tgt := 78) dX2_told_1 (by omega) (by omega) (by rw [hc]; rfl) (by decide) ?_
    refine aAload_n (pc' := 79) dX2_told_78 rfl rfl ?_
    refine aGetI (pc' := 82) dX2_told_79 fX2_35 rfl rfl (lv hi) rfl ?_
    refine aTopEq (y := (C 28 i 5)) rfl ?_
    exact cIret dX2_told_82 okX2_told rfl ⟨rfl, _, rfl, _, rfl, hw⟩
  · have hw := hw.2.2.2.1 hc
    refine aTswIn (tgt := 83) dX2_told_1 (by omega) (by omega) (by rw [hc]; rfl) (by decide) ?_
    refine aAload_n (pc' := 84) dX2_told_83 rfl rfl ?_
    refine aGetR (pc' := 87) (q := (29, i)) dX2_told_84 fX2_12 rfl rfl (lv hi) rfl rfl ?_
    refine aGetI (pc' := 90) dX2_told_87 fX2_101 rfl rfl (lv hi) rfl ?_
    refine aTopEq (y := (C 29 i 2)) rfl ?_
    exact cIret dX2_told_90 okX2_told rfl ⟨rfl, _, rfl, _, rfl, hw⟩
  · have hw := hw.2.2.2.2.1 hc
    refine aTswIn (tgt := 91) dX2_told_1 (by omega) (by omega) (by rw [hc]; rfl) (by decide) ?_
    refine aAload_n (pc' := 92) dX2_told_91 rfl rfl ?_
    refine aGetI (pc' := 95) dX2_told_92 fX2_38 rfl rfl (lv hi) rfl ?_
    refine aTopEq (y := (C 28 i 6)) rfl ?_
    exact cIret dX2_told_95 okX2_told rfl ⟨rfl, _, rfl, _, rfl, hw⟩
  · have hw := hw.2.2.2.2.2.1 hc
    refine aTswIn (tgt := 96) dX2_told_1 (by omega) (by omega) (by rw [hc]; rfl) (by decide) ?_
    refine aAload_n (pc' := 97) dX2_told_96 rfl rfl ?_
    refine aGetI (pc' := 100) dX2_told_97 fX2_29 rfl rfl (lv hi) rfl ?_
    refine aTopEq (y := (C 28 i 3)) rfl ?_
    refine aIconst (pc' := 101) ⟨by decide, by decide⟩ dX2_told_100 rfl ?_
    refine aIcmp_ne (tgt := 109) (pc' := 104) dX2_told_101 (by decide) rfl (fun hc => ?_) (fun hc => ?_)
    · have hw := hw.1 hc
      refine aAload_n (pc' := 110) dX2_told_109 rfl rfl ?_
      refine aGetI (pc' := 113) dX2_told_110 fX2_41 rfl rfl (lv hi) rfl ?_
      refine aTopEq (y := (C 28 i 7)) rfl ?_
      exact cIret dX2_told_113 okX2_told rfl ⟨rfl, _, rfl, _, rfl, hw⟩
    · have hw := hw.2 hc
      refine aBipush (pc' := 106) ⟨by decide, by decide⟩ dX2_told_104 rfl ?_
      refine aGoto (pc' := 113) dX2_told_106 (by decide) ?_
      exact cIret dX2_told_113 okX2_told rfl ⟨rfl, _, rfl, _, rfl, hw⟩
  · have hw := hw.2.2.2.2.2.2.1 hc
    refine aTswIn (tgt := 114) dX2_told_1 (by omega) (by omega) (by rw [hc]; rfl) (by decide) ?_
    refine aAload_n (pc' := 115) dX2_told_114 rfl rfl ?_
    refine aGetR (pc' := 118) (q := (29, i)) dX2_told_115 fX2_12 rfl rfl (lv hi) rfl rfl ?_
    refine aGetI (pc' := 121) dX2_told_118 fX2_142 rfl rfl (lv hi) rfl ?_
    refine aTopEq (y := (C 29 i 1)) rfl ?_
    exact cIret dX2_told_121 okX2_told rfl ⟨rfl, _, rfl, _, rfl, hw⟩
  · have hw := hw.2.2.2.2.2.2.2.1 hc
    refine aTswIn (tgt := 122) dX2_told_1 (by omega) (by omega) (by rw [hc]; rfl) (by decide) ?_
    refine aAload_n (pc' := 123) dX2_told_122 rfl rfl ?_
    refine aGetI (pc' := 126) dX2_told_123 fX2_44 rfl rfl (lv hi) rfl ?_
    refine aTopEq (y := (C 28 i 8)) rfl ?_
    exact cIret dX2_told_126 okX2_told rfl ⟨rfl, _, rfl, _, rfl, hw⟩
  · have hw := hw.2.2.2.2.2.2.2.2.1 hc
    refine aTswIn (tgt := 127) dX2_told_1 (by omega) (by omega) (by rw [hc]; rfl) (by decide) ?_
    refine aAload_n (pc' := 128) dX2_told_127 rfl rfl ?_
    refine aGetI (pc' := 131) dX2_told_128 fX2_47 rfl rfl (lv hi) rfl ?_
    refine aTopEq (y := (C 28 i 9)) rfl ?_
    exact cIret dX2_told_131 okX2_told rfl ⟨rfl, _, rfl, _, rfl, hw⟩
  · have hw := hw.2.2.2.2.2.2.2.2.2.1 hc
    refine aTswIn (tgt := 132) dX2_told_1 (by omega) (by omega) (by rw [hc]; rfl) (by decide) ?_
    refine aAload_n (pc' := 133) dX2_told_132 rfl rfl ?_
    refine aGetI (pc' := 136) dX2_told_133 fX2_50 rfl rfl (lv hi) rfl ?_
    refine aTopEq (y := (C 28 i 10)) rfl ?_
    exact cIret dX2_told_136 okX2_told rfl ⟨rfl, _, rfl, _, rfl, hw⟩
  · have hw := hw.2.2.2.2.2.2.2.2.2.2.1 hc
    refine aTswIn (tgt := 137) dX2_told_1 (by omega) (by omega) (by rw [hc]; rfl) (by decide) ?_
    refine aAload_n (pc' := 138) dX2_told_137 rfl rfl ?_
    refine aGetI (pc' := 141) dX2_told_138 fX2_56 rfl rfl (lv hi) rfl ?_
    refine aTopEq (y := (C 28 i 12)) rfl ?_
    refine aIf_eq (tgt := 148) (pc' := 144) dX2_told_141 (by decide) rfl (fun hc => ?_) (fun hc => ?_)
    · have hw := hw.1 hc
      refine aIconst (pc' := 149) ⟨by decide, by decide⟩ dX2_told_148 rfl ?_
      exact cIret dX2_told_149 okX2_told rfl ⟨rfl, _, rfl, _, rfl, hw⟩
    · have hw := hw.2 hc
      refine aIconst (pc' := 145) ⟨by decide, by decide⟩ dX2_told_144 rfl ?_
      refine aGoto (pc' := 149) dX2_told_145 (by decide) ?_
      exact cIret dX2_told_149 okX2_told rfl ⟨rfl, _, rfl, _, rfl, hw⟩
  · have hw := hw.2.2.2.2.2.2.2.2.2.2.2.1 hc
    refine aTswIn (tgt := 150) dX2_told_1 (by omega) (by omega) (by rw [hc]; rfl) (by decide) ?_
    refine aAload_n (pc' := 151) dX2_told_150 rfl rfl ?_
    refine aGetI (pc' := 154) dX2_told_151 fX2_60 rfl rfl (lv hi) rfl ?_
    refine aTopEq (y := (C 28 i 13)) rfl ?_
    refine aIf_eq (tgt := 161) (pc' := 157) dX2_told_154 (by decide) rfl (fun hc => ?_) (fun hc => ?_)
    · have hw := hw.1 hc
      refine aIconst (pc' := 162) ⟨by decide, by decide⟩ dX2_told_161 rfl ?_
      exact cIret dX2_told_162 okX2_told rfl ⟨rfl, _, rfl, _, rfl, hw⟩
    · have hw := hw.2 hc
      refine aIconst (pc' := 158) ⟨by decide, by decide⟩ dX2_told_157 rfl ?_
      refine aGoto (pc' := 162) dX2_told_158 (by decide) ?_
      exact cIret dX2_told_162 okX2_told rfl ⟨rfl, _, rfl, _, rfl, hw⟩
  · have hw := hw.2.2.2.2.2.2.2.2.2.2.2.2.1 hc
    refine aTswIn (tgt := 163) dX2_told_1 (by omega) (by omega) (by rw [hc]; rfl) (by decide) ?_
    refine aAload_n (pc' := 164) dX2_told_163 rfl rfl ?_
    refine aGetI (pc' := 167) dX2_told_164 fX2_53 rfl rfl (lv hi) rfl ?_
    refine aTopEq (y := (C 28 i 11)) rfl ?_
    exact cIret dX2_told_167 okX2_told rfl ⟨rfl, _, rfl, _, rfl, hw⟩
  · have hw := hw.2.2.2.2.2.2.2.2.2.2.2.2.2 hc
    refine aTswOut (tgt := 168) dX2_told_1 hc (by decide) ?_
    refine aBipush (pc' := 170) ⟨by decide, by decide⟩ dX2_told_168 rfl ?_
    exact cIret dX2_told_170 okX2_told rfl ⟨rfl, _, rfl, _, rfl, hw⟩
set_option maxRecDepth 100000 in
set_option maxHeartbeats 4000000 in
theorem gX2_waitFor {w : aW} {mm : Nat} {C : aIF} {S : aS} {i : Nat} {p1 : Int} {p2 : Int} {P : aIF → Prop} (hi : i < 6) (hw : ((p1 ≤ 0) → P (uI (uI C 28 i 11 p1) 28 i 3 0)) ∧ ((¬ (p1 ≤ 0)) → P (uI (uI C 28 i 11 p1) 28 i 3 p2))) : kMetV w mX2_waitFor [aO 28 i, aI p1, aI p2] C S (rf mm) P := by
  refine cMet_of okX2_waitFor (Nat.le_of_ble_eq_true rfl) (fun hos => ?_)
  show cRun w mX2_waitFor 0 [some (aO 28 i), some (aI p1), some (aI p2)] [] (mem C S) (rf mm) (kqV (rf mm) S P)
  refine aAload_n (pc' := 1) dX2_waitFor_0 rfl rfl ?_
  refine aIload_n (pc' := 2) dX2_waitFor_1 rfl rfl ?_
  refine aPutI (pc' := 5) dX2_waitFor_2 fX2_53 rfl rfl (Or.inl rfl) (lv hi) rfl (cEqI (mK rfl) ?_)
  refine aAload_n (pc' := 6) dX2_waitFor_5 rfl rfl ?_
  refine aIload_n (pc' := 7) dX2_waitFor_6 rfl rfl ?_
  refine aIf_le (tgt := 14) (pc' := 10) dX2_waitFor_7 (by decide) rfl (fun hc => ?_) (fun hc => ?_)
  · have hw := hw.1 hc
    refine aIconst (pc' := 15) ⟨by decide, by decide⟩ dX2_waitFor_14 rfl ?_
    refine aPutI (pc' := 18) dX2_waitFor_15 fX2_29 rfl rfl (Or.inl rfl) (lv hi) rfl (cEqI (mK rfl) ?_)
    exact cVret dX2_waitFor_18 okX2_waitFor rfl ⟨rfl, rfl, _, rfl, hw⟩
  · have hw := hw.2 hc
    refine aIload_n (pc' := 11) dX2_waitFor_10 rfl rfl ?_
    refine aGoto (pc' := 15) dX2_waitFor_11 (by decide) ?_
    refine aPutI (pc' := 18) dX2_waitFor_15 fX2_29 rfl rfl (Or.inl rfl) (lv hi) rfl (cEqI (mK rfl) ?_)
    exact cVret dX2_waitFor_18 okX2_waitFor rfl ⟨rfl, rfl, _, rfl, hw⟩
set_option maxRecDepth 100000 in
set_option maxHeartbeats 4000000 in
theorem gX8_makeInAll {w : aW} {mm : Nat} {C : aIF} {S : aS} {i : Nat} {v : Int} {P : aIF → Prop} (hi : i < 6) (hw : kRunV w mX8_makeInAll 8 [some (aO 11 0), some (aO 6 i), some (aI v), some (aI ((C 12 0 2))), none] [] C S (rf mm) P) : kMetV w mX8_makeInAll [aO 11 0, aO 6 i, aI v] C S (rf mm) P := by
  refine cMet_of okX8_makeInAll (Nat.le_of_ble_eq_true rfl) (fun hos => ?_)
  show cRun w mX8_makeInAll 0 [some (aO 11 0), some (aO 6 i), some (aI v), none, none] [] (mem C S) (rf mm) (kqV (rf mm) S P)
  refine aAload_n (pc' := 1) dX8_makeInAll_0 rfl rfl ?_
  refine aGetR (pc' := 4) (q := (12, 0)) dX8_makeInAll_1 fX8_12 rfl rfl (lv (by decide)) rfl rfl ?_
  refine aGetI (pc' := 7) dX8_makeInAll_4 fX8_77 rfl rfl (lv (by decide)) rfl ?_
  refine aTopEq (y := (C 12 0 2)) rfl ?_
  refine aIstore_n (pc' := 8) dX8_makeInAll_7 (by decide) rfl (L' := [some (aO 11 0), some (aO 6 i), some (aI v), some (aI ((C 12 0 2))), none]) rfl ?_
  exact hw
set_option maxRecDepth 100000 in
set_option maxHeartbeats 4000000 in
theorem gX8_makeInAll_8 {w : aW} {mm : Nat} {C : aIF} {S : aS} {i : Nat} {v : Int} {l3 : Int} {P : aIF → Prop} (hi : i < 6) (hw : (((C 11 0 4) ≤ (C 11 0 5)) → kRunV w mX8_makeInAll 53 [some (aO 11 0), some (aO 6 i), some (aI v), some (aI l3), some (aI ((C 11 0 5)))] [] C S (rf mm) P) ∧ ((¬ ((C 11 0 4) ≤ (C 11 0 5))) → (-2147483648 ≤ (l3 + v) ∧ (l3 + v) < 2147483648) ∧ ((0 ≤ (C 11 0 5) ∧ (C 11 0 5) < ((65 : Nat) : Int)) ∧ ((((l3 + v) ≤ (C 14 0 (((C 11 0 5)).toNat))) → kRunV w mX8_makeInAll 53 [some (aO 11 0), some (aO 6 i), some (aI v), some (aI l3), some (aI ((C 11 0 5)))] [] C S (rf mm) P) ∧ ((¬ ((l3 + v) ≤ (C 14 0 (((C 11 0 5)).toNat)))) → (-2147483648 ≤ ((C 11 0 5) + 1) ∧ ((C 11 0 5) + 1) < 2147483648) ∧ (kRunV w mX8_makeInAll 8 [some (aO 11 0), some (aO 6 i), some (aI v), some (aI l3), none] [] (uI C 11 0 5 (((C 11 0 5) + 1))) S (rf mm) P)))))) : kRunV w mX8_makeInAll 8 [some (aO 11 0), some (aO 6 i), some (aI v), some (aI l3), none] [] C S (rf mm) P := by
  refine aAload_n (pc' := 9) dX8_makeInAll_8 rfl rfl ?_
  refine aGetI (pc' := 12) dX8_makeInAll_9 fX8_38 rfl rfl (lv (by decide)) rfl ?_
  refine aTopEq (y := (C 11 0 5)) rfl ?_
  refine aAload_n (pc' := 13) dX8_makeInAll_12 rfl rfl ?_
  refine aGetI (pc' := 16) dX8_makeInAll_13 fX8_34 rfl rfl (lv (by decide)) rfl ?_
  refine aTopEq (y := (C 11 0 4)) rfl ?_
  refine aIcmp_ge (tgt := 47) (pc' := 19) dX8_makeInAll_16 (by decide) rfl (fun hc => ?_) (fun hc => ?_)
  · have hw := hw.1 hc
    refine aAload_n (pc' := 48) dX8_makeInAll_47 rfl rfl ?_
    refine aGetI (pc' := 51) dX8_makeInAll_48 fX8_38 rfl rfl (lv (by decide)) rfl ?_
    refine aTopEq (y := (C 11 0 5)) rfl ?_
    refine aIstore (pc' := 53) dX8_makeInAll_51 (by decide) rfl (L' := [some (aO 11 0), some (aO 6 i), some (aI v), some (aI l3), some (aI ((C 11 0 5)))]) rfl ?_
    exact hw
  · have hw := hw.2 hc
    refine aIload_n (pc' := 20) dX8_makeInAll_19 rfl rfl ?_
    refine aIload_n (pc' := 21) dX8_makeInAll_20 rfl rfl ?_
    obtain ⟨h1, hw⟩ := hw
    refine aIadd (pc' := 22) h1.1 h1.2 dX8_makeInAll_21 rfl ?_
    refine aAload_n (pc' := 23) dX8_makeInAll_22 rfl rfl ?_
    refine aGetR (pc' := 26) (q := (14, 0)) dX8_makeInAll_23 fX8_18 rfl rfl (lv (by decide)) rfl rfl ?_
    refine aAload_n (pc' := 27) dX8_makeInAll_26 rfl rfl ?_
    refine aGetI (pc' := 30) dX8_makeInAll_27 fX8_38 rfl rfl (lv (by decide)) rfl ?_
    refine aTopEq (y := (C 11 0 5)) rfl ?_
    obtain ⟨h2, hw⟩ := hw
    refine aIald (pc' := 31) (j := ((C 11 0 5)).toNat) dX8_makeInAll_30 rfl (lv (by decide)) (tnIx h2).1 (tnIx h2).2 rfl ?_
    refine aTopEq (y := (C 14 0 (((C 11 0 5)).toNat))) rfl ?_
    refine aIcmp_le (tgt := 47) (pc' := 34) dX8_makeInAll_31 (by decide) rfl (fun hc => ?_) (fun hc => ?_)
    · have hw := hw.1 hc
      refine aAload_n (pc' := 48) dX8_makeInAll_47 rfl rfl ?_
      refine aGetI (pc' := 51) dX8_makeInAll_48 fX8_38 rfl rfl (lv (by decide)) rfl ?_
      refine aTopEq (y := (C 11 0 5)) rfl ?_
      refine aIstore (pc' := 53) dX8_makeInAll_51 (by decide) rfl (L' := [some (aO 11 0), some (aO 6 i), some (aI v), some (aI l3), some (aI ((C 11 0 5)))]) rfl ?_
      exact hw
    · have hw := hw.2 hc
      refine aAload_n (pc' := 35) dX8_makeInAll_34 rfl rfl ?_
      refine aDup (pc' := 36) rfl dX8_makeInAll_35 rfl ?_
      refine aGetI (pc' := 39) dX8_makeInAll_36 fX8_38 rfl rfl (lv (by decide)) rfl ?_
      refine aTopEq (y := (C 11 0 5)) rfl ?_
      refine aIconst (pc' := 40) ⟨by decide, by decide⟩ dX8_makeInAll_39 rfl ?_
      obtain ⟨h3, hw⟩ := hw
      refine aIadd (pc' := 41) h3.1 h3.2 dX8_makeInAll_40 rfl ?_
      refine aPutI (pc' := 44) dX8_makeInAll_41 fX8_38 rfl rfl (Or.inl rfl) (lv (by decide)) rfl (cEqI (mK rfl) ?_)
      refine aGoto (pc' := 8) dX8_makeInAll_44 (by decide) ?_
      exact hw
set_option maxRecDepth 100000 in
set_option maxHeartbeats 4000000 in
theorem gX8_makeInAll_53 {w : aW} {mm : Nat} {C : aIF} {S : aS} {i : Nat} {v : Int} {l3 : Int} {l4 : Nat} {P : aIF → Prop} (hi : i < 6) (hw : (((C 11 0 4) ≤ (l4 : Int)) → kMetV w mX6_add [aO 12 0, aI v] C S (rf mm) (fun C2 => P C2)) ∧ ((¬ ((C 11 0 4) ≤ (l4 : Int))) → (l4 < 65) ∧ ((-2147483648 ≤ ((C 15 0 l4) + v) ∧ ((C 15 0 l4) + v) < 2147483648) ∧ (((((C 15 0 l4) + v) ≤ (C 14 0 l4)) → (-2147483648 ≤ ((C 15 0 l4) + v) ∧ ((C 15 0 l4) + v) < 2147483648) ∧ ((l4 + 1 < 2147483648) ∧ (kRunV w mX8_makeInAll 53 [some (aO 11 0), some (aO 6 i), some (aI v), some (aI l3), some (aI ((((l4 + 1) : Nat) : Int)))] [] (uI C 15 0 l4 (((C 15 0 l4) + v))) S (rf mm) P))) ∧ ((¬ (((C 15 0 l4) + v) ≤ (C 14 0 l4))) → kMetI w mX1_costToCollect [aO 6 i, aI l3, aI ((C 15 0 l4))] C S (rf mm) (fun x8 C9 => (-2147483648 ≤ ((C 16 0 l4) + x8) ∧ ((C 16 0 l4) + x8) < 2147483648) ∧ ((-2147483648 ≤ (l3 + v) ∧ (l3 + v) < 2147483648) ∧ ((l4 + 1 < 2147483648) ∧ (kRunV w mX8_makeInAll 53 [some (aO 11 0), some (aO 6 i), some (aI v), some (aI l3), some (aI ((((l4 + 1) : Nat) : Int)))] [] (uI (uI (uI C9 16 0 l4 (((C 16 0 l4) + x8))) 15 0 l4 l3) 15 0 l4 ((l3 + v))) S (rf mm) P))))))))) : kRunV w mX8_makeInAll 53 [some (aO 11 0), some (aO 6 i), some (aI v), some (aI l3), some (aI ((l4 : Int)))] [] C S (rf mm) P := by
  refine aIload (pc' := 55) dX8_makeInAll_53 rfl rfl ?_
  refine aAload_n (pc' := 56) dX8_makeInAll_55 rfl rfl ?_
  refine aGetI (pc' := 59) dX8_makeInAll_56 fX8_34 rfl rfl (lv (by decide)) rfl ?_
  refine aTopEq (y := (C 11 0 4)) rfl ?_
  refine aIcmp_ge (tgt := 128) (pc' := 62) dX8_makeInAll_59 (by decide) rfl (fun hc => ?_) (fun hc => ?_)
  · have hw := hw.1 hc
    refine aAload_n (pc' := 129) dX8_makeInAll_128 rfl rfl ?_
    refine aGetR (pc' := 132) (q := (12, 0)) dX8_makeInAll_129 fX8_12 rfl rfl (lv (by decide)) rfl rfl ?_
    refine aIload_n (pc' := 133) dX8_makeInAll_132 rfl rfl ?_
    refine cVV (c := 6) (pc' := 136) [aI v] dX8_makeInAll_133 lX8_83 okX6_add ⟨by decide, by decide⟩ npX6_add rfl rfl rfl rfl rfl (by decide) rfl (cMetV_mono hw (fun J3 hw => ?_))
    obtain ⟨C2, rfl, hw⟩ := hw
    exact cVret dX8_makeInAll_136 okX8_makeInAll rfl ⟨rfl, rfl, _, rfl, hw⟩
  · have hw := hw.2 hc
    refine aAload_n (pc' := 63) dX8_makeInAll_62 rfl rfl ?_
    refine aGetR (pc' := 66) (q := (15, 0)) dX8_makeInAll_63 fX8_22 rfl rfl (lv (by decide)) rfl rfl ?_
    refine aIload (pc' := 68) dX8_makeInAll_66 rfl rfl ?_
    obtain ⟨h4, hw⟩ := hw
    refine aIald (pc' := 69) (j := l4) dX8_makeInAll_68 rfl (lv (by decide)) rfl h4 rfl ?_
    refine aTopEq (y := (C 15 0 l4)) rfl ?_
    refine aIload_n (pc' := 70) dX8_makeInAll_69 rfl rfl ?_
    obtain ⟨h5, hw⟩ := hw
    refine aIadd (pc' := 71) h5.1 h5.2 dX8_makeInAll_70 rfl ?_
    refine aAload_n (pc' := 72) dX8_makeInAll_71 rfl rfl ?_
    refine aGetR (pc' := 75) (q := (14, 0)) dX8_makeInAll_72 fX8_18 rfl rfl (lv (by decide)) rfl rfl ?_
    refine aIload (pc' := 77) dX8_makeInAll_75 rfl rfl ?_
    refine aIald (pc' := 78) (j := l4) dX8_makeInAll_77 rfl (lv (by decide)) rfl h4 rfl ?_
    refine aTopEq (y := (C 14 0 l4)) rfl ?_
    refine aIcmp_le (tgt := 111) (pc' := 81) dX8_makeInAll_78 (by decide) rfl (fun hc => ?_) (fun hc => ?_)
    · have hw := hw.1 hc
      refine aAload_n (pc' := 112) dX8_makeInAll_111 rfl rfl ?_
      refine aGetR (pc' := 115) (q := (15, 0)) dX8_makeInAll_112 fX8_22 rfl rfl (lv (by decide)) rfl rfl ?_
      refine aIload (pc' := 117) dX8_makeInAll_115 rfl rfl ?_
      refine aDup2 (pc' := 118) rfl rfl dX8_makeInAll_117 rfl ?_
      refine aIald (pc' := 119) (j := l4) dX8_makeInAll_118 rfl (lv (by decide)) rfl h4 rfl ?_
      refine aTopEq (y := (C 15 0 l4)) rfl ?_
      refine aIload_n (pc' := 120) dX8_makeInAll_119 rfl rfl ?_
      obtain ⟨h6, hw⟩ := hw
      refine aIadd (pc' := 121) h6.1 h6.2 dX8_makeInAll_120 rfl ?_
      refine aIast (pc' := 122) (j := l4) dX8_makeInAll_121 rfl (lv (by decide)) rfl h4 rfl (cEqI (mK rfl) ?_)
      obtain ⟨h7, hw⟩ := hw
      refine aIinc1 (pc' := 125) dX8_makeInAll_122 rfl (by decide) h7 rfl (L' := [some (aO 11 0), some (aO 6 i), some (aI v), some (aI l3), some (aI ((((l4 + 1) : Nat) : Int)))]) rfl ?_
      refine aGoto (pc' := 53) dX8_makeInAll_125 (by decide) ?_
      exact hw
    · have hw := hw.2 hc
      refine aAload_n (pc' := 82) dX8_makeInAll_81 rfl rfl ?_
      refine aGetR (pc' := 85) (q := (16, 0)) dX8_makeInAll_82 fX8_25 rfl rfl (lv (by decide)) rfl rfl ?_
      refine aIload (pc' := 87) dX8_makeInAll_85 rfl rfl ?_
      refine aDup2 (pc' := 88) rfl rfl dX8_makeInAll_87 rfl ?_
      refine aIald (pc' := 89) (j := l4) dX8_makeInAll_88 rfl (lv (by decide)) rfl h4 rfl ?_
      refine aTopEq (y := (C 16 0 l4)) rfl ?_
      refine aAload_n (pc' := 90) dX8_makeInAll_89 rfl rfl ?_
      refine aIload_n (pc' := 91) dX8_makeInAll_90 rfl rfl ?_
      refine aAload_n (pc' := 92) dX8_makeInAll_91 rfl rfl ?_
      refine aGetR (pc' := 95) (q := (15, 0)) dX8_makeInAll_92 fX8_22 rfl rfl (lv (by decide)) rfl rfl ?_
      refine aIload (pc' := 97) dX8_makeInAll_95 rfl rfl ?_
      refine aIald (pc' := 98) (j := l4) dX8_makeInAll_97 rfl (lv (by decide)) rfl h4 rfl ?_
      refine aTopEq (y := (C 15 0 l4)) rfl ?_
      refine cVI (c := 1) (pc' := 101) [aI l3, aI ((C 15 0 l4))] dX8_makeInAll_98 lX8_80 okX1_costToCollect ⟨by decide, by decide⟩ npX1_costToCollect rfl rfl rfl rfl rfl hi rfl (cMetI_mono hw (fun x8 J10 hw => ?_))
      obtain ⟨C9, rfl, hw⟩ := hw
      obtain ⟨h11, hw⟩ := hw
      refine aIadd (pc' := 102) h11.1 h11.2 dX8_makeInAll_101 rfl ?_
      refine aIast (pc' := 103) (j := l4) dX8_makeInAll_102 rfl (lv (by decide)) rfl h4 rfl (cEqI (mK rfl) ?_)
      refine aAload_n (pc' := 104) dX8_makeInAll_103 rfl rfl ?_
      refine aGetR (pc' := 107) (q := (15, 0)) dX8_makeInAll_104 fX8_22 rfl rfl (lv (by decide)) rfl rfl ?_
      refine aIload (pc' := 109) dX8_makeInAll_107 rfl rfl ?_
      refine aIload_n (pc' := 110) dX8_makeInAll_109 rfl rfl ?_
      refine aIast (pc' := 111) (j := l4) dX8_makeInAll_110 rfl (lv (by decide)) rfl h4 rfl (cEqI (mK rfl) ?_)
      refine aAload_n (pc' := 112) dX8_makeInAll_111 rfl rfl ?_
      refine aGetR (pc' := 115) (q := (15, 0)) dX8_makeInAll_112 fX8_22 rfl rfl (lv (by decide)) rfl rfl ?_
      refine aIload (pc' := 117) dX8_makeInAll_115 rfl rfl ?_
      refine aDup2 (pc' := 118) rfl rfl dX8_makeInAll_117 rfl ?_
      refine aIald (pc' := 119) (j := l4) dX8_makeInAll_118 rfl (lv (by decide)) rfl h4 rfl ?_
      refine aTopEq (y := ((uI (uI C9 16 0 l4 (((C 16 0 l4) + x8))) 15 0 l4 l3) 15 0 l4)) rfl ?_
      refine aTopEq uI_s ?_
      refine aIload_n (pc' := 120) dX8_makeInAll_119 rfl rfl ?_
      obtain ⟨h12, hw⟩ := hw
      refine aIadd (pc' := 121) h12.1 h12.2 dX8_makeInAll_120 rfl ?_
      refine aIast (pc' := 122) (j := l4) dX8_makeInAll_121 rfl (lv (by decide)) rfl h4 rfl (cEqI (mK rfl) ?_)
      obtain ⟨h13, hw⟩ := hw
      refine aIinc1 (pc' := 125) dX8_makeInAll_122 rfl (by decide) h13 rfl (L' := [some (aO 11 0), some (aO 6 i), some (aI v), some (aI l3), some (aI ((((l4 + 1) : Nat) : Int)))]) rfl ?_
      refine aGoto (pc' := 53) dX8_makeInAll_125 (by decide) ?_
      exact hw
set_option maxRecDepth 100000 in
set_option maxHeartbeats 4000000 in
theorem gX8_pass {w : aW} {mm : Nat} {C : aIF} {S : aS} {i : Nat} {lr : Int} {sp : Int} {hm : Int} {P : aIF → Prop} (hi : i < 6) (hw : kMetV w mX6_forget [aO 12 0] (uI (uI (uI C 11 0 4 ((min hm 65))) 11 0 5 0) 11 0 6 0) S (rf mm) (fun C2 => kRunV w mX8_pass 31 [some (aO 11 0), some (aO 6 i), some (aI lr), some (aI sp), some (aI hm), some (aI 0)] [] C2 S (rf mm) P)) : kMetV w mX8_pass [aO 11 0, aO 6 i, aI lr, aI sp, aI hm] C S (rf mm) P := by
  refine cMet_of okX8_pass (Nat.le_of_ble_eq_true rfl) (fun hos => ?_)
  show cRun w mX8_pass 0 [some (aO 11 0), some (aO 6 i), some (aI lr), some (aI sp), some (aI hm), none] [] (mem C S) (rf mm) (kqV (rf mm) S P)
  refine aAload_n (pc' := 1) dX8_pass_0 rfl rfl ?_
  refine aIload (pc' := 3) dX8_pass_1 rfl rfl ?_
  refine aBipush (pc' := 5) ⟨by decide, by decide⟩ dX8_pass_3 rfl ?_
  refine aMin (pc' := 8) dX8_pass_5 lX8_28 rfl rfl (Nat.le_refl _) (Nat.le_refl _) rfl ?_
  refine aPutI (pc' := 11) dX8_pass_8 fX8_34 rfl rfl (Or.inl rfl) (lv (by decide)) rfl (cEqI (mK rfl) ?_)
  refine aAload_n (pc' := 12) dX8_pass_11 rfl rfl ?_
  refine aIconst (pc' := 13) ⟨by decide, by decide⟩ dX8_pass_12 rfl ?_
  refine aPutI (pc' := 16) dX8_pass_13 fX8_38 rfl rfl (Or.inl rfl) (lv (by decide)) rfl (cEqI (mK rfl) ?_)
  refine aAload_n (pc' := 17) dX8_pass_16 rfl rfl ?_
  refine aIconst (pc' := 18) ⟨by decide, by decide⟩ dX8_pass_17 rfl ?_
  refine aPutI (pc' := 21) dX8_pass_18 fX8_41 rfl rfl (Or.inl rfl) (lv (by decide)) rfl (cEqI (mK rfl) ?_)
  refine aAload_n (pc' := 22) dX8_pass_21 rfl rfl ?_
  refine aGetR (pc' := 25) (q := (12, 0)) dX8_pass_22 fX8_12 rfl rfl (lv (by decide)) rfl rfl ?_
  refine cVV (c := 6) (pc' := 28) [] dX8_pass_25 lX8_44 okX6_forget ⟨by decide, by decide⟩ npX6_forget rfl rfl rfl rfl rfl (by decide) rfl (cMetV_mono hw (fun J3 hw => ?_))
  obtain ⟨C2, rfl, hw⟩ := hw
  refine aIconst (pc' := 29) ⟨by decide, by decide⟩ dX8_pass_28 rfl ?_
  refine aIstore (pc' := 31) dX8_pass_29 (by decide) rfl (L' := [some (aO 11 0), some (aO 6 i), some (aI lr), some (aI sp), some (aI hm), some (aI 0)]) rfl ?_
  exact hw
set_option maxRecDepth 100000 in
set_option maxHeartbeats 4000000 in
theorem gX8_pass_31 {w : aW} {mm : Nat} {C : aIF} {S : aS} {i : Nat} {lr : Int} {sp : Int} {hm : Int} {l5 : Nat} {P : aIF → Prop} (hi : i < 6) (hw : (((C 11 0 4) ≤ (l5 : Int)) → kRunV w mX8_pass 82 [some (aO 11 0), some (aO 6 i), some (aI lr), some (aI sp), some (aI hm), some (aI 0)] [] C S (rf mm) P) ∧ ((¬ ((C 11 0 4) ≤ (l5 : Int))) → (-2147483648 ≤ ((l5 : Int) * sp) ∧ ((l5 : Int) * sp) < 2147483648) ∧ ((-2147483648 ≤ (lr + ((l5 : Int) * sp)) ∧ (lr + ((l5 : Int) * sp)) < 2147483648) ∧ (kMetI w mX1_holds [aO 6 i, aI ((lr + ((l5 : Int) * sp)))] C S (rf mm) (fun x3 C4 => (l5 < 65) ∧ ((l5 + 1 < 2147483648) ∧ (kRunV w mX8_pass 31 [some (aO 11 0), some (aO 6 i), some (aI lr), some (aI sp), some (aI hm), some (aI ((((l5 + 1) : Nat) : Int)))] [] (uI (uI (uI C4 14 0 l5 x3) 15 0 l5 0) 16 0 l5 0) S (rf mm) P))))))) : kRunV w mX8_pass 31 [some (aO 11 0), some (aO 6 i), some (aI lr), some (aI sp), some (aI hm), some (aI ((l5 : Int)))] [] C S (rf mm) P := by
  refine aIload (pc' := 33) dX8_pass_31 rfl rfl ?_
  refine aAload_n (pc' := 34) dX8_pass_33 rfl rfl ?_
  refine aGetI (pc' := 37) dX8_pass_34 fX8_34 rfl rfl (lv (by decide)) rfl ?_
  refine aTopEq (y := (C 11 0 4)) rfl ?_
  refine aIcmp_ge (tgt := 79) (pc' := 40) dX8_pass_37 (by decide) rfl (fun hc => ?_) (fun hc => ?_)
  · have hw := hw.1 hc
    refine aIconst (pc' := 80) ⟨by decide, by decide⟩ dX8_pass_79 rfl ?_
    refine aIstore (pc' := 82) dX8_pass_80 (by decide) rfl (L' := [some (aO 11 0), some (aO 6 i), some (aI lr), some (aI sp), some (aI hm), some (aI 0)]) rfl ?_
    exact hw
  · have hw := hw.2 hc
    refine aAload_n (pc' := 41) dX8_pass_40 rfl rfl ?_
    refine aGetR (pc' := 44) (q := (14, 0)) dX8_pass_41 fX8_18 rfl rfl (lv (by decide)) rfl rfl ?_
    refine aIload (pc' := 46) dX8_pass_44 rfl rfl ?_
    refine aAload_n (pc' := 47) dX8_pass_46 rfl rfl ?_
    refine aIload_n (pc' := 48) dX8_pass_47 rfl rfl ?_
    refine aIload (pc' := 50) dX8_pass_48 rfl rfl ?_
    refine aIload_n (pc' := 51) dX8_pass_50 rfl rfl ?_
    obtain ⟨h1, hw⟩ := hw
    refine aImul (pc' := 52) h1.1 h1.2 dX8_pass_51 rfl ?_
    obtain ⟨h2, hw⟩ := hw
    refine aIadd (pc' := 53) h2.1 h2.2 dX8_pass_52 rfl ?_
    refine cVI (c := 1) (pc' := 56) [aI ((lr + ((l5 : Int) * sp)))] dX8_pass_53 lX8_47 okX1_holds ⟨by decide, by decide⟩ npX1_holds rfl rfl rfl rfl rfl hi rfl (cMetI_mono hw (fun x3 J5 hw => ?_))
    obtain ⟨C4, rfl, hw⟩ := hw
    obtain ⟨h6, hw⟩ := hw
    refine aIast (pc' := 57) (j := l5) dX8_pass_56 rfl (lv (by decide)) rfl h6 rfl (cEqI (mK rfl) ?_)
    refine aAload_n (pc' := 58) dX8_pass_57 rfl rfl ?_
    refine aGetR (pc' := 61) (q := (15, 0)) dX8_pass_58 fX8_22 rfl rfl (lv (by decide)) rfl rfl ?_
    refine aIload (pc' := 63) dX8_pass_61 rfl rfl ?_
    refine aIconst (pc' := 64) ⟨by decide, by decide⟩ dX8_pass_63 rfl ?_
    refine aIast (pc' := 65) (j := l5) dX8_pass_64 rfl (lv (by decide)) rfl h6 rfl (cEqI (mK rfl) ?_)
    refine aAload_n (pc' := 66) dX8_pass_65 rfl rfl ?_
    refine aGetR (pc' := 69) (q := (16, 0)) dX8_pass_66 fX8_25 rfl rfl (lv (by decide)) rfl rfl ?_
    refine aIload (pc' := 71) dX8_pass_69 rfl rfl ?_
    refine aIconst (pc' := 72) ⟨by decide, by decide⟩ dX8_pass_71 rfl ?_
    refine aIast (pc' := 73) (j := l5) dX8_pass_72 rfl (lv (by decide)) rfl h6 rfl (cEqI (mK rfl) ?_)
    obtain ⟨h7, hw⟩ := hw
    refine aIinc1 (pc' := 76) dX8_pass_73 rfl (by decide) h7 rfl (L' := [some (aO 11 0), some (aO 6 i), some (aI lr), some (aI sp), some (aI hm), some (aI ((((l5 + 1) : Nat) : Int)))]) rfl ?_
    refine aGoto (pc' := 31) dX8_pass_76 (by decide) ?_
    exact hw
set_option maxRecDepth 100000 in
set_option maxHeartbeats 4000000 in
theorem gX8_pass_82 {w : aW} {mm : Nat} {C : aIF} {S : aS} {i : Nat} {lr : Int} {sp : Int} {hm : Int} {l5 : Nat} {P : aIF → Prop} (hi : i < 6) (hw : (((C 6 i 3) ≤ (l5 : Int)) → P C) ∧ ((¬ ((C 6 i 3) ≤ (l5 : Int))) → (((C 11 0 4) ≤ (C 11 0 5)) → P C) ∧ ((¬ ((C 11 0 4) ≤ (C 11 0 5))) → kMetV w mX8_passRound [aO 11 0, aO 6 i] C S (rf mm) (fun C2 => (l5 + 1 < 2147483648) ∧ (kRunV w mX8_pass 82 [some (aO 11 0), some (aO 6 i), some (aI lr), some (aI sp), some (aI hm), some (aI ((((l5 + 1) : Nat) : Int)))] [] C2 S (rf mm) P))))) : kRunV w mX8_pass 82 [some (aO 11 0), some (aO 6 i), some (aI lr), some (aI sp), some (aI hm), some (aI ((l5 : Int)))] [] C S (rf mm) P := by
  refine aIload (pc' := 84) dX8_pass_82 rfl rfl ?_
  refine aAload_n (pc' := 85) dX8_pass_84 rfl rfl ?_
  refine aGetI (pc' := 88) dX8_pass_85 fX8_52 rfl rfl (lv hi) rfl ?_
  refine aTopEq (y := (C 6 i 3)) rfl ?_
  refine aIcmp_ge (tgt := 113) (pc' := 91) dX8_pass_88 (by decide) rfl (fun hc => ?_) (fun hc => ?_)
  · have hw := hw.1 hc
    exact cVret dX8_pass_113 okX8_pass rfl ⟨rfl, rfl, _, rfl, hw⟩
  · have hw := hw.2 hc
    refine aAload_n (pc' := 92) dX8_pass_91 rfl rfl ?_
    refine aGetI (pc' := 95) dX8_pass_92 fX8_38 rfl rfl (lv (by decide)) rfl ?_
    refine aTopEq (y := (C 11 0 5)) rfl ?_
    refine aAload_n (pc' := 96) dX8_pass_95 rfl rfl ?_
    refine aGetI (pc' := 99) dX8_pass_96 fX8_34 rfl rfl (lv (by decide)) rfl ?_
    refine aTopEq (y := (C 11 0 4)) rfl ?_
    refine aIcmp_ge (tgt := 113) (pc' := 102) dX8_pass_99 (by decide) rfl (fun hc => ?_) (fun hc => ?_)
    · have hw := hw.1 hc
      exact cVret dX8_pass_113 okX8_pass rfl ⟨rfl, rfl, _, rfl, hw⟩
    · have hw := hw.2 hc
      refine aAload_n (pc' := 103) dX8_pass_102 rfl rfl ?_
      refine aAload_n (pc' := 104) dX8_pass_103 rfl rfl ?_
      refine cVV (c := 8) (pc' := 107) [aO 6 i] dX8_pass_104 lX8_55 okX8_passRound ⟨by decide, by decide⟩ npX8_passRound rfl rfl rfl rfl rfl (by decide) rfl (cMetV_mono hw (fun J3 hw => ?_))
      obtain ⟨C2, rfl, hw⟩ := hw
      obtain ⟨h4, hw⟩ := hw
      refine aIinc1 (pc' := 110) dX8_pass_107 rfl (by decide) h4 rfl (L' := [some (aO 11 0), some (aO 6 i), some (aI lr), some (aI sp), some (aI hm), some (aI ((((l5 + 1) : Nat) : Int)))]) rfl ?_
      refine aGoto (pc' := 82) dX8_pass_110 (by decide) ?_
      exact hw
set_option maxRecDepth 100000 in
set_option maxHeartbeats 4000000 in
theorem gX8_passRound {w : aW} {mm : Nat} {C : aIF} {S : aS} {i : Nat} {P : aIF → Prop} (hi : i < 6) (hw : kRunV w mX8_passRound 2 [some (aO 11 0), some (aO 6 i), some (aI 0), none] [] C S (rf mm) P) : kMetV w mX8_passRound [aO 11 0, aO 6 i] C S (rf mm) P := by
  refine cMet_of okX8_passRound (Nat.le_of_ble_eq_true rfl) (fun hos => ?_)
  show cRun w mX8_passRound 0 [some (aO 11 0), some (aO 6 i), none, none] [] (mem C S) (rf mm) (kqV (rf mm) S P)
  refine aIconst (pc' := 1) ⟨by decide, by decide⟩ dX8_passRound_0 rfl ?_
  refine aIstore_n (pc' := 2) dX8_passRound_1 (by decide) rfl (L' := [some (aO 11 0), some (aO 6 i), some (aI 0), none]) rfl ?_
  exact hw
set_option maxRecDepth 100000 in
set_option maxHeartbeats 4000000 in
theorem gX8_passRound_2 {w : aW} {mm : Nat} {C : aIF} {S : aS} {i : Nat} {l2 : Nat} {P : aIF → Prop} (hi : i < 6) (hw : (((C 6 i 1) ≤ (l2 : Int)) → P C) ∧ ((¬ ((C 6 i 1) ≤ (l2 : Int))) → (l2 < 60) ∧ ((((C 7 i l2) ≤ 1000) → (-2147483648 ≤ ((C 11 0 6) + 1) ∧ ((C 11 0 6) + 1) < 2147483648) ∧ (((0 ≤ (C 7 i l2)) → kMetI w mX1_isMake [aI ((C 7 i l2))] (uI C 11 0 6 (((C 11 0 6) + 1))) S (rf mm) (fun x3 C4 => ((x3 = 0) → (l2 + 1 < 2147483648) ∧ (kRunV w mX8_passRound 2 [some (aO 11 0), some (aO 6 i), some (aI ((((l2 + 1) : Nat) : Int))), none] [] C4 S (rf mm) P)) ∧ ((¬ (x3 = 0)) → kMetV w mX8_makeInAll [aO 11 0, aO 6 i, aI ((C 7 i l2))] C4 S (rf mm) (fun C8 => (l2 + 1 < 2147483648) ∧ (kRunV w mX8_passRound 2 [some (aO 11 0), some (aO 6 i), some (aI ((((l2 + 1) : Nat) : Int))), none] [] C8 S (rf mm) P))))) ∧ ((¬ (0 ≤ (C 7 i l2))) → (-2147483648 < (C 7 i l2)) ∧ (kMetV w mX6_die [aO 12 0, aI ((-(C 7 i l2)))] (uI C 11 0 6 (((C 11 0 6) + 1))) S (rf mm) (fun C13 => (l2 + 1 < 2147483648) ∧ (kRunV w mX8_passRound 2 [some (aO 11 0), some (aO 6 i), some (aI ((((l2 + 1) : Nat) : Int))), none] [] C13 S (rf mm) P)))))) ∧ ((¬ ((C 7 i l2) ≤ 1000)) → (-2147483648 ≤ ((C 7 i l2) - 1000) ∧ ((C 7 i l2) - 1000) < 2147483648) ∧ ((-2147483648 ≤ ((C 11 0 6) + ((C 7 i l2) - 1000)) ∧ ((C 11 0 6) + ((C 7 i l2) - 1000)) < 2147483648) ∧ (((0 ≤ (C 7 i l2)) → kMetI w mX1_isMake [aI ((C 7 i l2))] (uI C 11 0 6 (((C 11 0 6) + ((C 7 i l2) - 1000)))) S (rf mm) (fun x18 C19 => ((x18 = 0) → (l2 + 1 < 2147483648) ∧ (kRunV w mX8_passRound 2 [some (aO 11 0), some (aO 6 i), some (aI ((((l2 + 1) : Nat) : Int))), none] [] C19 S (rf mm) P)) ∧ ((¬ (x18 = 0)) → kMetV w mX8_makeInAll [aO 11 0, aO 6 i, aI ((C 7 i l2))] C19 S (rf mm) (fun C23 => (l2 + 1 < 2147483648) ∧ (kRunV w mX8_passRound 2 [some (aO 11 0), some (aO 6 i), some (aI ((((l2 + 1) : Nat) : Int))), none] [] C23 S (rf mm) P))))) ∧ ((¬ (0 ≤ (C 7 i l2))) → (-2147483648 < (C 7 i l2)) ∧ (kMetV w mX6_die [aO 12 0, aI ((-(C 7 i l2)))] (uI C 11 0 6 (((C 11 0 6) + ((C 7 i l2) - 1000)))) S (rf mm) (fun C28 => (l2 + 1 < 2147483648) ∧ (kRunV w mX8_passRound 2 [some (aO 11 0), some (aO 6 i), some (aI ((((l2 + 1) : Nat) : Int))), none] [] C28 S (rf mm) P)))))))))) : kRunV w mX8_passRound 2 [some (aO 11 0), some (aO 6 i), some (aI ((l2 : Int))), none] [] C S (rf mm) P := by
  refine aIload_n (pc' := 3) dX8_passRound_2 rfl rfl ?_
  refine aAload_n (pc' := 4) dX8_passRound_3 rfl rfl ?_
  refine aGetI (pc' := 7) dX8_passRound_4 fX8_59 rfl rfl (lv hi) rfl ?_
  refine aTopEq (y := (C 6 i 1)) rfl ?_
  refine aIcmp_ge (tgt := 77) (pc' := 10) dX8_passRound_7 (by decide) rfl (fun hc => ?_) (fun hc => ?_)
  · have hw := hw.1 hc
    exact cVret dX8_passRound_77 okX8_passRound rfl ⟨rfl, rfl, _, rfl, hw⟩
  · have hw := hw.2 hc
    refine aAload_n (pc' := 11) dX8_passRound_10 rfl rfl ?_
    refine aGetR (pc' := 14) (q := (7, i)) dX8_passRound_11 fX8_62 rfl rfl (lv hi) rfl rfl ?_
    refine aIload_n (pc' := 15) dX8_passRound_14 rfl rfl ?_
    obtain ⟨h1, hw⟩ := hw
    refine aIald (pc' := 16) (j := l2) dX8_passRound_15 rfl (lv hi) rfl h1 rfl ?_
    refine aTopEq (y := (C 7 i l2)) rfl ?_
    refine aIstore_n (pc' := 17) dX8_passRound_16 (by decide) rfl (L' := [some (aO 11 0), some (aO 6 i), some (aI ((l2 : Int))), some (aI ((C 7 i l2)))]) rfl ?_
    refine aAload_n (pc' := 18) dX8_passRound_17 rfl rfl ?_
    refine aDup (pc' := 19) rfl dX8_passRound_18 rfl ?_
    refine aGetI (pc' := 22) dX8_passRound_19 fX8_41 rfl rfl (lv (by decide)) rfl ?_
    refine aTopEq (y := (C 11 0 6)) rfl ?_
    refine aIload_n (pc' := 23) dX8_passRound_22 rfl rfl ?_
    refine aSipush (pc' := 26) ⟨by decide, by decide⟩ dX8_passRound_23 rfl ?_
    refine aIcmp_le (tgt := 37) (pc' := 29) dX8_passRound_26 (by decide) rfl (fun hc => ?_) (fun hc => ?_)
    · have hw := hw.1 hc
      refine aIconst (pc' := 38) ⟨by decide, by decide⟩ dX8_passRound_37 rfl ?_
      obtain ⟨h2, hw⟩ := hw
      refine aIadd (pc' := 39) h2.1 h2.2 dX8_passRound_38 rfl ?_
      refine aPutI (pc' := 42) dX8_passRound_39 fX8_41 rfl rfl (Or.inl rfl) (lv (by decide)) rfl (cEqI (mK rfl) ?_)
      refine aIload_n (pc' := 43) dX8_passRound_42 rfl rfl ?_
      refine aIf_ge (tgt := 58) (pc' := 46) dX8_passRound_43 (by decide) rfl (fun hc => ?_) (fun hc => ?_)
      · have hw := hw.1 hc
        refine aIload_n (pc' := 59) dX8_passRound_58 rfl rfl ?_
        refine cSI (pc' := 62) [aI ((C 7 i l2))] dX8_passRound_59 lX8_69 okX1_isMake ⟨by decide, by decide⟩ npX1_isMake rfl rfl rfl (cMetI_mono hw (fun x3 J5 hw => ?_))
        obtain ⟨C4, rfl, hw⟩ := hw
        refine aIf_eq (tgt := 71) (pc' := 65) dX8_passRound_62 (by decide) rfl (fun hc => ?_) (fun hc => ?_)
        · have hw := hw.1 hc
          obtain ⟨h6, hw⟩ := hw
          refine aIinc1 (pc' := 74) dX8_passRound_71 rfl (by decide) h6 rfl (L' := [some (aO 11 0), some (aO 6 i), some (aI ((((l2 + 1) : Nat) : Int))), some (aI ((C 7 i l2)))]) rfl ?_
          refine aGoto (pc' := 2) dX8_passRound_74 (by decide) ?_
          exact aDrop [3] (L' := [some (aO 11 0), some (aO 6 i), some (aI ((((l2 + 1) : Nat) : Int))), none]) rfl hw
        · have hw := hw.2 hc
          refine aAload_n (pc' := 66) dX8_passRound_65 rfl rfl ?_
          refine aAload_n (pc' := 67) dX8_passRound_66 rfl rfl ?_
          refine aIload_n (pc' := 68) dX8_passRound_67 rfl rfl ?_
          refine cVV (c := 8) (pc' := 71) [aO 6 i, aI ((C 7 i l2))] dX8_passRound_68 lX8_73 okX8_makeInAll ⟨by decide, by decide⟩ npX8_makeInAll rfl rfl rfl rfl rfl (by decide) rfl (cMetV_mono hw (fun J9 hw => ?_))
          obtain ⟨C8, rfl, hw⟩ := hw
          obtain ⟨h10, hw⟩ := hw
          refine aIinc1 (pc' := 74) dX8_passRound_71 rfl (by decide) h10 rfl (L' := [some (aO 11 0), some (aO 6 i), some (aI ((((l2 + 1) : Nat) : Int))), some (aI ((C 7 i l2)))]) rfl ?_
          refine aGoto (pc' := 2) dX8_passRound_74 (by decide) ?_
          exact aDrop [3] (L' := [some (aO 11 0), some (aO 6 i), some (aI ((((l2 + 1) : Nat) : Int))), none]) rfl hw
      · have hw := hw.2 hc
        refine aAload_n (pc' := 47) dX8_passRound_46 rfl rfl ?_
        refine aGetR (pc' := 50) (q := (12, 0)) dX8_passRound_47 fX8_12 rfl rfl (lv (by decide)) rfl rfl ?_
        refine aIload_n (pc' := 51) dX8_passRound_50 rfl rfl ?_
        obtain ⟨h11, hw⟩ := hw
        refine aIneg (pc' := 52) h11 dX8_passRound_51 rfl ?_
        refine cVV (c := 6) (pc' := 55) [aI ((-(C 7 i l2)))] dX8_passRound_52 lX8_65 okX6_die ⟨by decide, by decide⟩ npX6_die rfl rfl rfl rfl rfl (by decide) rfl (cMetV_mono hw (fun J14 hw => ?_))
        obtain ⟨C13, rfl, hw⟩ := hw
        refine aGoto (pc' := 71) dX8_passRound_55 (by decide) ?_
        obtain ⟨h15, hw⟩ := hw
        refine aIinc1 (pc' := 74) dX8_passRound_71 rfl (by decide) h15 rfl (L' := [some (aO 11 0), some (aO 6 i), some (aI ((((l2 + 1) : Nat) : Int))), some (aI ((C 7 i l2)))]) rfl ?_
        refine aGoto (pc' := 2) dX8_passRound_74 (by decide) ?_
        exact aDrop [3] (L' := [some (aO 11 0), some (aO 6 i), some (aI ((((l2 + 1) : Nat) : Int))), none]) rfl hw
    · have hw := hw.2 hc
      refine aIload_n (pc' := 30) dX8_passRound_29 rfl rfl ?_
      refine aSipush (pc' := 33) ⟨by decide, by decide⟩ dX8_passRound_30 rfl ?_
      obtain ⟨h16, hw⟩ := hw
      refine aIsub (pc' := 34) h16.1 h16.2 dX8_passRound_33 rfl ?_
      refine aGoto (pc' := 38) dX8_passRound_34 (by decide) ?_
      obtain ⟨h17, hw⟩ := hw
      refine aIadd (pc' := 39) h17.1 h17.2 dX8_passRound_38 rfl ?_
      refine aPutI (pc' := 42) dX8_passRound_39 fX8_41 rfl rfl (Or.inl rfl) (lv (by decide)) rfl (cEqI (mK rfl) ?_)
      refine aIload_n (pc' := 43) dX8_passRound_42 rfl rfl ?_
      refine aIf_ge (tgt := 58) (pc' := 46) dX8_passRound_43 (by decide) rfl (fun hc => ?_) (fun hc => ?_)
      · have hw := hw.1 hc
        refine aIload_n (pc' := 59) dX8_passRound_58 rfl rfl ?_
        refine cSI (pc' := 62) [aI ((C 7 i l2))] dX8_passRound_59 lX8_69 okX1_isMake ⟨by decide, by decide⟩ npX1_isMake rfl rfl rfl (cMetI_mono hw (fun x18 J20 hw => ?_))
        obtain ⟨C19, rfl, hw⟩ := hw
        refine aIf_eq (tgt := 71) (pc' := 65) dX8_passRound_62 (by decide) rfl (fun hc => ?_) (fun hc => ?_)
        · have hw := hw.1 hc
          obtain ⟨h21, hw⟩ := hw
          refine aIinc1 (pc' := 74) dX8_passRound_71 rfl (by decide) h21 rfl (L' := [some (aO 11 0), some (aO 6 i), some (aI ((((l2 + 1) : Nat) : Int))), some (aI ((C 7 i l2)))]) rfl ?_
          refine aGoto (pc' := 2) dX8_passRound_74 (by decide) ?_
          exact aDrop [3] (L' := [some (aO 11 0), some (aO 6 i), some (aI ((((l2 + 1) : Nat) : Int))), none]) rfl hw
        · have hw := hw.2 hc
          refine aAload_n (pc' := 66) dX8_passRound_65 rfl rfl ?_
          refine aAload_n (pc' := 67) dX8_passRound_66 rfl rfl ?_
          refine aIload_n (pc' := 68) dX8_passRound_67 rfl rfl ?_
          refine cVV (c := 8) (pc' := 71) [aO 6 i, aI ((C 7 i l2))] dX8_passRound_68 lX8_73 okX8_makeInAll ⟨by decide, by decide⟩ npX8_makeInAll rfl rfl rfl rfl rfl (by decide) rfl (cMetV_mono hw (fun J24 hw => ?_))
          obtain ⟨C23, rfl, hw⟩ := hw
          obtain ⟨h25, hw⟩ := hw
          refine aIinc1 (pc' := 74) dX8_passRound_71 rfl (by decide) h25 rfl (L' := [some (aO 11 0), some (aO 6 i), some (aI ((((l2 + 1) : Nat) : Int))), some (aI ((C 7 i l2)))]) rfl ?_
          refine aGoto (pc' := 2) dX8_passRound_74 (by decide) ?_
          exact aDrop [3] (L' := [some (aO 11 0), some (aO 6 i), some (aI ((((l2 + 1) : Nat) : Int))), none]) rfl hw
      · have hw := hw.2 hc
        refine aAload_n (pc' := 47) dX8_passRound_46 rfl rfl ?_
        refine aGetR (pc' := 50) (q := (12, 0)) dX8_passRound_47 fX8_12 rfl rfl (lv (by decide)) rfl rfl ?_
        refine aIload_n (pc' := 51) dX8_passRound_50 rfl rfl ?_
        obtain ⟨h26, hw⟩ := hw
        refine aIneg (pc' := 52) h26 dX8_passRound_51 rfl ?_
        refine cVV (c := 6) (pc' := 55) [aI ((-(C 7 i l2)))] dX8_passRound_52 lX8_65 okX6_die ⟨by decide, by decide⟩ npX6_die rfl rfl rfl rfl rfl (by decide) rfl (cMetV_mono hw (fun J29 hw => ?_))
        obtain ⟨C28, rfl, hw⟩ := hw
        refine aGoto (pc' := 71) dX8_passRound_55 (by decide) ?_
        obtain ⟨h30, hw⟩ := hw
        refine aIinc1 (pc' := 74) dX8_passRound_71 rfl (by decide) h30 rfl (L' := [some (aO 11 0), some (aO 6 i), some (aI ((((l2 + 1) : Nat) : Int))), some (aI ((C 7 i l2)))]) rfl ?_
        refine aGoto (pc' := 2) dX8_passRound_74 (by decide) ?_
        exact aDrop [3] (L' := [some (aO 11 0), some (aO 6 i), some (aI ((((l2 + 1) : Nat) : Int))), none]) rfl hw
set_option maxRecDepth 100000 in
set_option maxHeartbeats 4000000 in
theorem gX8_timeOf {w : aW} {mm : Nat} {C : aIF} {S : aS} {p1 : Int} {P : Int → aIF → Prop} (hw : ((p1 < (C 11 0 5)) → P (-1) C) ∧ ((¬ (p1 < (C 11 0 5))) → ((p1 < (C 11 0 4)) → (0 ≤ p1 ∧ p1 < ((65 : Nat) : Int)) ∧ ((-2147483648 ≤ ((C 11 0 6) + (C 16 0 ((p1).toNat))) ∧ ((C 11 0 6) + (C 16 0 ((p1).toNat))) < 2147483648) ∧ (P ((C 11 0 6) + (C 16 0 ((p1).toNat))) C))) ∧ ((¬ (p1 < (C 11 0 4))) → P (-1) C))) : kMetI w mX8_timeOf [aO 11 0, aI p1] C S (rf mm) P := by
  refine cMet_of okX8_timeOf (Nat.le_of_ble_eq_true rfl) (fun hos => ?_)
  show cRun w mX8_timeOf 0 [some (aO 11 0), some (aI p1)] [] (mem C S) (rf mm) (kqI (rf mm) S P)
  refine aIload_n (pc' := 1) dX8_timeOf_0 rfl rfl ?_
  refine aAload_n (pc' := 2) dX8_timeOf_1 rfl rfl ?_
  refine aGetI (pc' := 5) dX8_timeOf_2 fX8_38 rfl rfl (lv (by decide)) rfl ?_
  refine aTopEq (y := (C 11 0 5)) rfl ?_
  refine aIcmp_lt (tgt := 16) (pc' := 8) dX8_timeOf_5 (by decide) rfl (fun hc => ?_) (fun hc => ?_)
  · have hw := hw.1 hc
    refine aIconst (pc' := 17) ⟨by decide, by decide⟩ dX8_timeOf_16 rfl ?_
    refine aGoto (pc' := 31) dX8_timeOf_17 (by decide) ?_
    exact cIret dX8_timeOf_31 okX8_timeOf rfl ⟨rfl, _, rfl, _, rfl, hw⟩
  · have hw := hw.2 hc
    refine aIload_n (pc' := 9) dX8_timeOf_8 rfl rfl ?_
    refine aAload_n (pc' := 10) dX8_timeOf_9 rfl rfl ?_
    refine aGetI (pc' := 13) dX8_timeOf_10 fX8_34 rfl rfl (lv (by decide)) rfl ?_
    refine aTopEq (y := (C 11 0 4)) rfl ?_
    refine aIcmp_lt (tgt := 20) (pc' := 16) dX8_timeOf_13 (by decide) rfl (fun hc => ?_) (fun hc => ?_)
    · have hw := hw.1 hc
      refine aAload_n (pc' := 21) dX8_timeOf_20 rfl rfl ?_
      refine aGetI (pc' := 24) dX8_timeOf_21 fX8_41 rfl rfl (lv (by decide)) rfl ?_
      refine aTopEq (y := (C 11 0 6)) rfl ?_
      refine aAload_n (pc' := 25) dX8_timeOf_24 rfl rfl ?_
      refine aGetR (pc' := 28) (q := (16, 0)) dX8_timeOf_25 fX8_25 rfl rfl (lv (by decide)) rfl rfl ?_
      refine aIload_n (pc' := 29) dX8_timeOf_28 rfl rfl ?_
      obtain ⟨h1, hw⟩ := hw
      refine aIald (pc' := 30) (j := (p1).toNat) dX8_timeOf_29 rfl (lv (by decide)) (tnIx h1).1 (tnIx h1).2 rfl ?_
      refine aTopEq (y := (C 16 0 ((p1).toNat))) rfl ?_
      obtain ⟨h2, hw⟩ := hw
      refine aIadd (pc' := 31) h2.1 h2.2 dX8_timeOf_30 rfl ?_
      exact cIret dX8_timeOf_31 okX8_timeOf rfl ⟨rfl, _, rfl, _, rfl, hw⟩
    · have hw := hw.2 hc
      refine aIconst (pc' := 17) ⟨by decide, by decide⟩ dX8_timeOf_16 rfl ?_
      refine aGoto (pc' := 31) dX8_timeOf_17 (by decide) ?_
      exact cIret dX8_timeOf_31 okX8_timeOf rfl ⟨rfl, _, rfl, _, rfl, hw⟩
