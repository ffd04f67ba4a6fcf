set_option maxRecDepth 100000 in
set_option maxHeartbeats 4000000 in
theorem gX10_clear {w : aW} {mm : Nat} {C : aIF} {S : aS} {P : Int → aS → Prop} (hw : P (S 10 0) (sU (sU (sU (sU (sU S 0 0 0) 10 0 0) 23 0 0) 22 0 0) 17 0 0)) : rMetI w mX10_clear [aO 40 0] C S (rf mm) P := by
  refine cMet_of okX10_clear (Nat.le_of_ble_eq_true rfl) (fun hos => ?_)
  show cRun w mX10_clear 0 [some (aO 40 0), none] [] (mem C S) (rf mm) (rqI (rf mm) C P)
  refine aAload_n (pc' := 1) dX10_clear_0 rfl rfl ?_
  refine aIconst (pc' := 2) ⟨by decide, by decide⟩ dX10_clear_1 rfl ?_
  refine aPutI (pc' := 5) dX10_clear_2 fX10_121 rfl rfl (Or.inl rfl) (lv (by decide)) rfl (cEqI (mS (f := 0) rfl) ?_)
  refine aAload_n (pc' := 6) dX10_clear_5 rfl rfl ?_
  refine aGetI (pc' := 9) dX10_clear_6 fX10_146 rfl rfl (lv (by decide)) rfl ?_
  refine aTopEq (y := ((sU S 0 0 0) 10 0)) rfl ?_
  refine aTopEq (sU_f rfl) ?_
  refine aIstore_n (pc' := 10) dX10_clear_9 (by decide) rfl (L' := [some (aO 40 0), some (aI ((S 10 0)))]) rfl ?_
  refine aAload_n (pc' := 11) dX10_clear_10 rfl rfl ?_
  refine aIconst (pc' := 12) ⟨by decide, by decide⟩ dX10_clear_11 rfl ?_
  refine aPutI (pc' := 15) dX10_clear_12 fX10_146 rfl rfl (Or.inl rfl) (lv (by decide)) rfl (cEqI (mS (f := 10) rfl) ?_)
  refine aAload_n (pc' := 16) dX10_clear_15 rfl rfl ?_
  refine aIconst (pc' := 17) ⟨by decide, by decide⟩ dX10_clear_16 rfl ?_
  refine aPutI (pc' := 20) dX10_clear_17 fX10_157 rfl rfl (Or.inl rfl) (lv (by decide)) rfl (cEqI (mS (f := 23) rfl) ?_)
  refine aAload_n (pc' := 21) dX10_clear_20 rfl rfl ?_
  refine aIconst (pc' := 22) ⟨by decide, by decide⟩ dX10_clear_21 rfl ?_
  refine aPutZ (pc' := 25) dX10_clear_22 fX10_136 rfl rfl (Or.inl rfl) (lv (by decide)) (by decide) rfl (cEqI (mS (f := 22) rfl) ?_)
  refine aAload_n (pc' := 26) dX10_clear_25 rfl rfl ?_
  refine aIconst (pc' := 27) ⟨by decide, by decide⟩ dX10_clear_26 rfl ?_
  refine aPutZ (pc' := 30) dX10_clear_27 fX10_143 rfl rfl (Or.inl rfl) (lv (by decide)) (by decide) rfl (cEqI (mS (f := 17) rfl) ?_)
  refine aIload_n (pc' := 31) dX10_clear_30 rfl rfl ?_
  exact cIret dX10_clear_31 okX10_clear rfl ⟨rfl, _, rfl, _, rfl, hw⟩
set_option maxRecDepth 100000 in
set_option maxHeartbeats 4000000 in
theorem gX10_collects {w : aW} {mm : Nat} {C : aIF} {S : aS} {p : Nat} {P : Int → aS → Prop} (hw : (p < 6) ∧ (rMetI w mX10_cost [aI ((S 13 p)), aI ((S 31 p)), aI ((S 30 p))] C S (rf mm) (fun x2 S3 => rMetV w mX10_tells [aO 40 0, aI ((p : Int)), aI 0, aI x2] C (sU (sU (sU S3 35 p ((w32 ((S3 35 p) + x2)))) 36 p ((w32 ((S3 36 p) + x2)))) 30 p ((S3 31 p))) (rf mm) (fun S6 => P x2 S6)))) : rMetI w mX10_collects [aO 40 0, aI ((p : Int))] C S (rf mm) P := by
  refine cMet_of okX10_collects (Nat.le_of_ble_eq_true rfl) (fun hos => ?_)
  show cRun w mX10_collects 0 [some (aO 40 0), some (aI ((p : Int))), none] [] (mem C S) (rf mm) (rqI (rf mm) C P)
  refine aAload_n (pc' := 1) dX10_collects_0 rfl rfl ?_
  refine aGetR (pc' := 4) (q := (53, 0)) dX10_collects_1 fX10_42 rfl rfl (lv (by decide)) rfl rfl ?_
  refine aIload_n (pc' := 5) dX10_collects_4 rfl rfl ?_
  obtain ⟨h1, hw⟩ := hw
  refine aIald (pc' := 6) (j := p) dX10_collects_5 rfl (lv (by decide)) rfl h1 rfl ?_
  refine aTopEq (y := (S 13 p)) rfl ?_
  refine aAload_n (pc' := 7) dX10_collects_6 rfl rfl ?_
  refine aGetR (pc' := 10) (q := (71, 0)) dX10_collects_7 fX10_75 rfl rfl (lv (by decide)) rfl rfl ?_
  refine aIload_n (pc' := 11) dX10_collects_10 rfl rfl ?_
  refine aIald (pc' := 12) (j := p) dX10_collects_11 rfl (lv (by decide)) rfl h1 rfl ?_
  refine aTopEq (y := (S 31 p)) rfl ?_
  refine aAload_n (pc' := 13) dX10_collects_12 rfl rfl ?_
  refine aGetR (pc' := 16) (q := (70, 0)) dX10_collects_13 fX10_72 rfl rfl (lv (by decide)) rfl rfl ?_
  refine aIload_n (pc' := 17) dX10_collects_16 rfl rfl ?_
  refine aIald (pc' := 18) (j := p) dX10_collects_17 rfl (lv (by decide)) rfl h1 rfl ?_
  refine aTopEq (y := (S 30 p)) rfl ?_
  refine cSI (pc' := 21) [aI ((S 13 p)), aI ((S 31 p)), aI ((S 30 p))] dX10_collects_18 lX10_164 okX10_cost ⟨by decide, by decide⟩ npX10_cost rfl rfl rfl (cMetI_mono hw (fun x2 J4 hw => ?_))
  obtain ⟨S3, rfl, hw⟩ := hw
  refine aIstore_n (pc' := 22) dX10_collects_21 (by decide) rfl (L' := [some (aO 40 0), some (aI ((p : Int))), some (aI x2)]) rfl ?_
  refine aAload_n (pc' := 23) dX10_collects_22 rfl rfl ?_
  refine aGetR (pc' := 26) (q := (75, 0)) dX10_collects_23 fX10_87 rfl rfl (lv (by decide)) rfl rfl ?_
  refine aIload_n (pc' := 27) dX10_collects_26 rfl rfl ?_
  refine aDup2 (pc' := 28) rfl rfl dX10_collects_27 rfl ?_
  refine aIald (pc' := 29) (j := p) dX10_collects_28 rfl (lv (by decide)) rfl h1 rfl ?_
  refine aTopEq (y := (S3 35 p)) rfl ?_
  refine aIload_n (pc' := 30) dX10_collects_29 rfl rfl ?_
  refine aIaddw (pc' := 31) dX10_collects_30 rfl ?_
  refine aIast (pc' := 32) (j := p) dX10_collects_31 rfl (lv (by decide)) rfl h1 rfl (cEqI (mA (f := 35) rfl rfl rfl) ?_)
  refine aAload_n (pc' := 33) dX10_collects_32 rfl rfl ?_
  refine aGetR (pc' := 36) (q := (76, 0)) dX10_collects_33 fX10_90 rfl rfl (lv (by decide)) rfl rfl ?_
  refine aIload_n (pc' := 37) dX10_collects_36 rfl rfl ?_
  refine aDup2 (pc' := 38) rfl rfl dX10_collects_37 rfl ?_
  refine aIald (pc' := 39) (j := p) dX10_collects_38 rfl (lv (by decide)) rfl h1 rfl ?_
  refine aTopEq (y := ((sU S3 35 p ((w32 ((S3 35 p) + x2)))) 36 p)) rfl ?_
  refine aTopEq (sU_f rfl) ?_
  refine aIload_n (pc' := 40) dX10_collects_39 rfl rfl ?_
  refine aIaddw (pc' := 41) dX10_collects_40 rfl ?_
  refine aIast (pc' := 42) (j := p) dX10_collects_41 rfl (lv (by decide)) rfl h1 rfl (cEqI (mA (f := 36) rfl rfl rfl) ?_)
  refine aAload_n (pc' := 43) dX10_collects_42 rfl rfl ?_
  refine aGetR (pc' := 46) (q := (70, 0)) dX10_collects_43 fX10_72 rfl rfl (lv (by decide)) rfl rfl ?_
  refine aIload_n (pc' := 47) dX10_collects_46 rfl rfl ?_
  refine aAload_n (pc' := 48) dX10_collects_47 rfl rfl ?_
  refine aGetR (pc' := 51) (q := (71, 0)) dX10_collects_48 fX10_75 rfl rfl (lv (by decide)) rfl rfl ?_
  refine aIload_n (pc' := 52) dX10_collects_51 rfl rfl ?_
  refine aIald (pc' := 53) (j := p) dX10_collects_52 rfl (lv (by decide)) rfl h1 rfl ?_
  refine aTopEq (y := ((sU (sU S3 35 p ((w32 ((S3 35 p) + x2)))) 36 p ((w32 ((S3 36 p) + x2)))) 31 p)) rfl ?_
  refine aTopEq ((sU_f rfl).trans (sU_f rfl)) ?_
  refine aIast (pc' := 54) (j := p) dX10_collects_53 rfl (lv (by decide)) rfl h1 rfl (cEqI (mA (f := 30) rfl rfl rfl) ?_)
  refine aAload_n (pc' := 55) dX10_collects_54 rfl rfl ?_
  refine aIload_n (pc' := 56) dX10_collects_55 rfl rfl ?_
  refine aIconst (pc' := 57) ⟨by decide, by decide⟩ dX10_collects_56 rfl ?_
  refine aIload_n (pc' := 58) dX10_collects_57 rfl rfl ?_
  refine cVV (c := 10) (pc' := 61) [aI ((p : Int)), aI 0, aI x2] dX10_collects_58 lX10_215 okX10_tells ⟨by decide, by decide⟩ npX10_tells rfl rfl rfl rfl rfl (by decide) rfl (cMetV_mono hw (fun J7 hw => ?_))
  obtain ⟨S6, rfl, hw⟩ := hw
  refine aIload_n (pc' := 62) dX10_collects_61 rfl rfl ?_
  exact cIret dX10_collects_62 okX10_collects rfl ⟨rfl, _, rfl, _, rfl, hw⟩
set_option maxRecDepth 100000 in
set_option maxHeartbeats 4000000 in
theorem gX10_cost {w : aW} {mm : Nat} {C : aIF} {S : aS} {p1 : Int} {p2 : Int} {p3 : Int} {P : Int → aS → Prop} (hw : ((p1 ≠ 0) → (-2147483648 ≤ (1 + p2) ∧ (1 + p2) < 2147483648) ∧ ((0 ≤ p3) ∧ ((-2147483648 ≤ ((1 + p2) + (p3 / 2)) ∧ ((1 + p2) + (p3 / 2)) < 2147483648) ∧ (P ((1 + p2) + (p3 / 2)) S)))) ∧ ((p1 = 0) → (-2147483648 ≤ (2 * p2) ∧ (2 * p2) < 2147483648) ∧ ((-2147483648 ≤ (1 + (2 * p2)) ∧ (1 + (2 * p2)) < 2147483648) ∧ (P (1 + (2 * p2)) S)))) : rMetI w mX10_cost [aI p1, aI p2, aI p3] C S (rf mm) P := by
  refine cMet_of okX10_cost (Nat.le_of_ble_eq_true rfl) (fun hos => ?_)
  show cRun w mX10_cost 0 [some (aI p1), some (aI p2), some (aI p3)] [] (mem C S) (rf mm) (rqI (rf mm) C P)
  refine aIload_n (pc' := 1) dX10_cost_0 rfl rfl ?_
  refine aIf_ne (tgt := 12) (pc' := 4) dX10_cost_1 (by decide) rfl (fun hc => ?_) (fun hc => ?_)
  · have hw := hw.1 hc
    refine aIconst (pc' := 13) ⟨by decide, by decide⟩ dX10_cost_12 rfl ?_
    refine aIload_n (pc' := 14) dX10_cost_13 rfl rfl ?_
    obtain ⟨h1, hw⟩ := hw
    refine aIadd (pc' := 15) h1.1 h1.2 dX10_cost_14 rfl ?_
    refine aIload_n (pc' := 16) dX10_cost_15 rfl rfl ?_
    refine aIconst (pc' := 17) ⟨by decide, by decide⟩ dX10_cost_16 rfl ?_
    obtain ⟨h2, hw⟩ := hw
    refine aIdiv (pc' := 18) h2 (by decide) dX10_cost_17 rfl ?_
    obtain ⟨h3, hw⟩ := hw
    refine aIadd (pc' := 19) h3.1 h3.2 dX10_cost_18 rfl ?_
    exact cIret dX10_cost_19 okX10_cost rfl ⟨rfl, _, rfl, _, rfl, hw⟩
  · have hw := hw.2 hc
    refine aIconst (pc' := 5) ⟨by decide, by decide⟩ dX10_cost_4 rfl ?_
    refine aIconst (pc' := 6) ⟨by decide, by decide⟩ dX10_cost_5 rfl ?_
    refine aIload_n (pc' := 7) dX10_cost_6 rfl rfl ?_
    obtain ⟨h4, hw⟩ := hw
    refine aImul (pc' := 8) h4.1 h4.2 dX10_cost_7 rfl ?_
    obtain ⟨h5, hw⟩ := hw
    refine aIadd (pc' := 9) h5.1 h5.2 dX10_cost_8 rfl ?_
    refine aGoto (pc' := 19) dX10_cost_9 (by decide) ?_
    exact cIret dX10_cost_19 okX10_cost rfl ⟨rfl, _, rfl, _, rfl, hw⟩
set_option maxRecDepth 100000 in
set_option maxHeartbeats 4000000 in
theorem gX10_count {w : aW} {mm : Nat} {C : aIF} {S : aS} {p1 : Int} {P : Int → aS → Prop} (hw : ((p1 = 0) → P (S 10 0) (sU S 0 0 0)) ∧ ((p1 = 1) → P (S 5 0) (sU S 0 0 0)) ∧ ((p1 = 2) → P (S 6 0) (sU S 0 0 0)) ∧ ((p1 = 3) → P (S 7 0) (sU S 0 0 0)) ∧ ((p1 = 4) → P (S 8 0) (sU S 0 0 0)) ∧ ((p1 = 5) → P (S 9 0) (sU S 0 0 0)) ∧ ((p1 = 6) → (((S 22 0) = 0) → P 0 (sU S 0 0 0)) ∧ ((¬ ((S 22 0) = 0)) → P 1 (sU S 0 0 0))) ∧ ((p1 = 7) → P (S 24 0) (sU S 0 0 0)) ∧ ((p1 = 8) → P (S 25 0) (sU S 0 0 0)) ∧ ((p1 = 9) → P (S 26 0) (sU S 0 0 0)) ∧ ((p1 = 10) → P (S 27 0) (sU S 0 0 0)) ∧ ((p1 = 11) → rRunI w mX10_count 135 [some (aO 40 0), some (aI p1), some (aI 0), some (aI 0)] [] C (sU S 0 0 0) (rf mm) P) ∧ ((p1 < 0 ∨ 11 < p1) → P (-1) (sU S 0 0 0))) : rMetI w mX10_count [aO 40 0, aI p1] C S (rf mm) P := by
  refine cMet_of okX10_count (Nat.le_of_ble_eq_true rfl) (fun hos => ?_)
  show cRun w mX10_count 0 [some (aO 40 0), some (aI p1), none, none] [] (mem C S) (rf mm) (rqI (rf mm) C P)
  refine aAload_n (pc' := 1) dX10_count_0 rfl rfl ?_
  refine aIconst (pc' := 2) ⟨by decide, by decide⟩ dX10_count_1 rfl ?_
  refine aPutI (pc' := 5) dX10_count_2 fX10_121 rfl rfl (Or.inl rfl) (lv (by decide)) rfl (cEqI (mS (f := 0) rfl) ?_)
  refine aIload_n (pc' := 6) dX10_count_5 rfl rfl ?_
  rcases (show p1 = 0 ∨ p1 = 1 ∨ p1 = 2 ∨ p1 = 3 ∨ p1 = 4 ∨ p1 = 5 ∨ p1 = 6 ∨ p1 = 7 ∨ p1 = 8 ∨ p1 = 9 ∨ p1 = 10 ∨ p1 = 11 ∨ (p1 < 0 ∨ 11 < p1) by omega) with hc | hc | hc | hc | hc | hc | hc | hc | hc | hc | hc | hc | hc
  · have hw := hw.1 hc
    refine aTswIn (tgt := 68) dX10_count_6 (by omega) (by omega) (by rw [hc]; rfl) (by decide) ?_
    refine aAload_n (pc' := 69) dX10_count_68 rfl rfl ?_
    refine aGetI (pc' := 72) dX10_count_69 fX10_146 rfl rfl (lv (by decide)) rfl ?_
    refine aTopEq (y := ((sU S 0 0 0) 10 0)) rfl ?_
    refine aTopEq (sU_f rfl) ?_
    exact cIret dX10_count_72 okX10_count rfl ⟨rfl, _, rfl, _, rfl, hw⟩
  · have hw := hw.2.1 hc
    refine aTswIn (tgt := 73) dX10_count_6 (by omega) (by omega) (by rw [hc]; rfl) (by decide) ?_
    refine aAload_n (pc' := 74) dX10_count_73 rfl rfl ?_
    refine aGetI (pc' := 77) dX10_count_74 fX10_23 rfl rfl (lv (by decide)) rfl ?_
    refine aTopEq (y := ((sU S 0 0 0) 5 0)) rfl ?_
    refine aTopEq (sU_f rfl) ?_
    exact cIret dX10_count_77 okX10_count rfl ⟨rfl, _, rfl, _, rfl, hw⟩
  · have hw := hw.2.2.1 hc
    refine aTswIn (tgt := 78) dX10_count_6 (by omega) (by omega) (by rw [hc]; rfl) (by decide) ?_
    refine aAload_n (pc' := 79) dX10_count_78 rfl rfl ?_
    refine aGetI (pc' := 82) dX10_count_79 fX10_27 rfl rfl (lv (by decide)) rfl ?_
    refine aTopEq (y := ((sU S 0 0 0) 6 0)) rfl ?_
    refine aTopEq (sU_f rfl) ?_
    exact cIret dX10_count_82 okX10_count rfl ⟨rfl, _, rfl, _, rfl, hw⟩
  · have hw := hw.2.2.2.1 hc
    refine aTswIn (tgt := 83) dX10_count_6 (by omega) (by omega) (by rw [hc]; rfl) (by decide) ?_
    refine aAload_n (pc' := 84) dX10_count_83 rfl rfl ?_
    refine aGetI (pc' := 87) dX10_count_84 fX10_140 rfl rfl (lv (by decide)) rfl ?_
    refine aTopEq (y := ((sU S 0 0 0) 7 0)) rfl ?_
    refine aTopEq (sU_f rfl) ?_
    exact cIret dX10_count_87 okX10_count rfl ⟨rfl, _, rfl, _, rfl, hw⟩
  · have hw := hw.2.2.2.2.1 hc
    refine aTswIn (tgt := 88) dX10_count_6 (by omega) (by omega) (by rw [hc]; rfl) (by decide) ?_
    refine aAload_n (pc' := 89) dX10_count_88 rfl rfl ?_
    refine aGetI (pc' := 92) dX10_count_89 fX10_30 rfl rfl (lv (by decide)) rfl ?_
    refine aTopEq (y := ((sU S 0 0 0) 8 0)) rfl ?_
    refine aTopEq (sU_f rfl) ?_
    exact cIret dX10_count_92 okX10_count rfl ⟨rfl, _, rfl, _, rfl, hw⟩
  · have hw := hw.2.2.2.2.2.1 hc
    refine aTswIn (tgt := 93) dX10_count_6 (by omega) (by omega) (by rw [hc]; rfl) (by decide) ?_
    refine aAload_n (pc' := 94) dX10_count_93 rfl rfl ?_
    refine aGetI (pc' := 97) dX10_count_94 fX10_33 rfl rfl (lv (by decide)) rfl ?_
    refine aTopEq (y := ((sU S 0 0 0) 9 0)) rfl ?_
    refine aTopEq (sU_f rfl) ?_
    exact cIret dX10_count_97 okX10_count rfl ⟨rfl, _, rfl, _, rfl, hw⟩
  · have hw := hw.2.2.2.2.2.2.1 hc
    refine aTswIn (tgt := 98) dX10_count_6 (by omega) (by omega) (by rw [hc]; rfl) (by decide) ?_
    refine aAload_n (pc' := 99) dX10_count_98 rfl rfl ?_
    refine aGetI (pc' := 102) dX10_count_99 fX10_136 rfl rfl (lv (by decide)) rfl ?_
    refine aTopEq (y := ((sU S 0 0 0) 22 0)) rfl ?_
    refine aTopEq (sU_f rfl) ?_
    refine aIf_eq (tgt := 109) (pc' := 105) dX10_count_102 (by decide) rfl (fun hc => ?_) (fun hc => ?_)
    · have hw := hw.1 hc
      refine aIconst (pc' := 110) ⟨by decide, by decide⟩ dX10_count_109 rfl ?_
      exact cIret dX10_count_110 okX10_count rfl ⟨rfl, _, rfl, _, rfl, hw⟩
    · have hw := hw.2 hc
      refine aIconst (pc' := 106) ⟨by decide, by decide⟩ dX10_count_105 rfl ?_
      refine aGoto (pc' := 110) dX10_count_106 (by decide) ?_
      exact cIret dX10_count_110 okX10_count rfl ⟨rfl, _, rfl, _, rfl, hw⟩
  · have hw := hw.2.2.2.2.2.2.2.1 hc
    refine aTswIn (tgt := 111) dX10_count_6 (by omega) (by omega) (by rw [hc]; rfl) (by decide) ?_
    refine aAload_n (pc' := 112) dX10_count_111 rfl rfl ?_
    refine aGetI (pc' := 115) dX10_count_112 fX10_203 rfl rfl (lv (by decide)) rfl ?_
    refine aTopEq (y := ((sU S 0 0 0) 24 0)) rfl ?_
    refine aTopEq (sU_f rfl) ?_
    exact cIret dX10_count_115 okX10_count rfl ⟨rfl, _, rfl, _, rfl, hw⟩
  · have hw := hw.2.2.2.2.2.2.2.2.1 hc
    refine aTswIn (tgt := 116) dX10_count_6 (by omega) (by omega) (by rw [hc]; rfl) (by decide) ?_
    refine aAload_n (pc' := 117) dX10_count_116 rfl rfl ?_
    refine aGetI (pc' := 120) dX10_count_117 fX10_206 rfl rfl (lv (by decide)) rfl ?_
    refine aTopEq (y := ((sU S 0 0 0) 25 0)) rfl ?_
    refine aTopEq (sU_f rfl) ?_
    exact cIret dX10_count_120 okX10_count rfl ⟨rfl, _, rfl, _, rfl, hw⟩
  · have hw := hw.2.2.2.2.2.2.2.2.2.1 hc
    refine aTswIn (tgt := 121) dX10_count_6 (by omega) (by omega) (by rw [hc]; rfl) (by decide) ?_
    refine aAload_n (pc' := 122) dX10_count_121 rfl rfl ?_
    refine aGetI (pc' := 125) dX10_count_122 fX10_209 rfl rfl (lv (by decide)) rfl ?_
    refine aTopEq (y := ((sU S 0 0 0) 26 0)) rfl ?_
    refine aTopEq (sU_f rfl) ?_
    exact cIret dX10_count_125 okX10_count rfl ⟨rfl, _, rfl, _, rfl, hw⟩
  · have hw := hw.2.2.2.2.2.2.2.2.2.2.1 hc
    refine aTswIn (tgt := 126) dX10_count_6 (by omega) (by omega) (by rw [hc]; rfl) (by decide) ?_
    refine aAload_n (pc' := 127) dX10_count_126 rfl rfl ?_
    refine aGetI (pc' := 130) dX10_count_127 fX10_212 rfl rfl (lv (by decide)) rfl ?_
    refine aTopEq (y := ((sU S 0 0 0) 27 0)) rfl ?_
    refine aTopEq (sU_f rfl) ?_
    exact cIret dX10_count_130 okX10_count rfl ⟨rfl, _, rfl, _, rfl, hw⟩
  · have hw := hw.2.2.2.2.2.2.2.2.2.2.2.1 hc
    refine aTswIn (tgt := 131) dX10_count_6 (by omega) (by omega) (by rw [hc]; rfl) (by decide) ?_
    refine aIconst (pc' := 132) ⟨by decide, by decide⟩ dX10_count_131 rfl ?_
    refine aIstore_n (pc' := 133) dX10_count_132 (by decide) rfl (L' := [some (aO 40 0), some (aI p1), some (aI 0), none]) rfl ?_
    refine aIconst (pc' := 134) ⟨by decide, by decide⟩ dX10_count_133 rfl ?_
    refine aIstore_n (pc' := 135) dX10_count_134 (by decide) rfl (L' := [some (aO 40 0), some (aI p1), some (aI 0), some (aI 0)]) rfl ?_
    exact hw
  · have hw := hw.2.2.2.2.2.2.2.2.2.2.2.2 hc
    refine aTswOut (tgt := 165) dX10_count_6 hc (by decide) ?_
    refine aIconst (pc' := 166) ⟨by decide, by decide⟩ dX10_count_165 rfl ?_
    exact cIret dX10_count_166 okX10_count rfl ⟨rfl, _, rfl, _, rfl, hw⟩
set_option maxRecDepth 100000 in
set_option maxHeartbeats 4000000 in
theorem gX10_count_135 {w : aW} {mm : Nat} {C : aIF} {S : aS} {p1 : Int} {l2 : Int} {l3 : Nat} {P : Int → aS → Prop} (hw : ((4 ≤ (l3 : Int)) → P l2 S) ∧ ((¬ (4 ≤ (l3 : Int))) → (l3 < 4) ∧ ((((S 1 l3) < 0) → (-2147483648 ≤ (l2 + 0) ∧ (l2 + 0) < 2147483648) ∧ ((l3 + 1 < 2147483648) ∧ (rRunI w mX10_count 135 [some (aO 40 0), some (aI p1), some (aI ((l2 + 0))), some (aI ((((l3 + 1) : Nat) : Int)))] [] C S (rf mm) P))) ∧ ((¬ ((S 1 l3) < 0)) → (-2147483648 ≤ (l2 + 1) ∧ (l2 + 1) < 2147483648) ∧ ((l3 + 1 < 2147483648) ∧ (rRunI w mX10_count 135 [some (aO 40 0), some (aI p1), some (aI ((l2 + 1))), some (aI ((((l3 + 1) : Nat) : Int)))] [] C S (rf mm) P)))))) : rRunI w mX10_count 135 [some (aO 40 0), some (aI p1), some (aI l2), some (aI ((l3 : Int)))] [] C S (rf mm) P := by
  refine aIload_n (pc' := 136) dX10_count_135 rfl rfl ?_
  refine aIconst (pc' := 137) ⟨by decide, by decide⟩ dX10_count_136 rfl ?_
  refine aIcmp_ge (tgt := 163) (pc' := 140) dX10_count_137 (by decide) rfl (fun hc => ?_) (fun hc => ?_)
  · have hw := hw.1 hc
    refine aIload_n (pc' := 164) dX10_count_163 rfl rfl ?_
    exact cIret dX10_count_164 okX10_count rfl ⟨rfl, _, rfl, _, rfl, hw⟩
  · have hw := hw.2 hc
    refine aIload_n (pc' := 141) dX10_count_140 rfl rfl ?_
    refine aAload_n (pc' := 142) dX10_count_141 rfl rfl ?_
    refine aGetR (pc' := 145) (q := (41, 0)) dX10_count_142 fX10_9 rfl rfl (lv (by decide)) rfl rfl ?_
    refine aIload_n (pc' := 146) dX10_count_145 rfl rfl ?_
    obtain ⟨h1, hw⟩ := hw
    refine aIald (pc' := 147) (j := l3) dX10_count_146 rfl (lv (by decide)) rfl h1 rfl ?_
    refine aTopEq (y := (S 1 l3)) rfl ?_
    refine aIf_lt (tgt := 154) (pc' := 150) dX10_count_147 (by decide) rfl (fun hc => ?_) (fun hc => ?_)
    · have hw := hw.1 hc
      refine aIconst (pc' := 155) ⟨by decide, by decide⟩ dX10_count_154 rfl ?_
      obtain ⟨h2, hw⟩ := hw
      refine aIadd (pc' := 156) h2.1 h2.2 dX10_count_155 rfl ?_
      refine aIstore_n (pc' := 157) dX10_count_156 (by decide) rfl (L' := [some (aO 40 0), some (aI p1), some (aI ((l2 + 0))), some (aI ((l3 : Int)))]) rfl ?_
      obtain ⟨h3, hw⟩ := hw
      refine aIinc1 (pc' := 160) dX10_count_157 rfl (by decide) h3 rfl (L' := [some (aO 40 0), some (aI p1), some (aI ((l2 + 0))), some (aI ((((l3 + 1) : Nat) : Int)))]) rfl ?_
      refine aGoto (pc' := 135) dX10_count_160 (by decide) ?_
      exact hw
    · have hw := hw.2 hc
      refine aIconst (pc' := 151) ⟨by decide, by decide⟩ dX10_count_150 rfl ?_
      refine aGoto (pc' := 155) dX10_count_151 (by decide) ?_
      obtain ⟨h4, hw⟩ := hw
      refine aIadd (pc' := 156) h4.1 h4.2 dX10_count_155 rfl ?_
      refine aIstore_n (pc' := 157) dX10_count_156 (by decide) rfl (L' := [some (aO 40 0), some (aI p1), some (aI ((l2 + 1))), some (aI ((l3 : Int)))]) rfl ?_
      obtain ⟨h5, hw⟩ := hw
      refine aIinc1 (pc' := 160) dX10_count_157 rfl (by decide) h5 rfl (L' := [some (aO 40 0), some (aI p1), some (aI ((l2 + 1))), some (aI ((((l3 + 1) : Nat) : Int)))]) rfl ?_
      refine aGoto (pc' := 135) dX10_count_160 (by decide) ?_
      exact hw
set_option maxRecDepth 100000 in
set_option maxHeartbeats 4000000 in
theorem gX10_cut {w : aW} {mm : Nat} {C : aIF} {S : aS} {p1 : Int} {p2 : Int} {P : Int → aS → Prop} (hw : ((p1 ≠ 0) → ((p1 ≠ 1) → ((p1 ≠ 2) → P p2 S) ∧ ((p1 = 2) → P (Int64.ofInt p2).toInt32.toInt S)) ∧ ((p1 = 1) → P (Int32.ofInt ((Int64.ofInt p2).toInt32.toInt)).toInt16.toInt32.toInt S)) ∧ ((p1 = 0) → P (Int32.ofInt ((Int64.ofInt p2).toInt32.toInt)).toInt8.toInt32.toInt S)) : rMetL w mX10_cut [aI p1, aL p2] C S (rf mm) P := by
  refine cMet_of okX10_cut (Nat.le_of_ble_eq_true rfl) (fun hos => ?_)
  show cRun w mX10_cut 0 [some (aI p1), some (aL p2), none] [] (mem C S) (rf mm) (rqL (rf mm) C P)
  refine aIload_n (pc' := 1) dX10_cut_0 rfl rfl ?_
  refine aIf_ne (tgt := 11) (pc' := 4) dX10_cut_1 (by decide) rfl (fun hc => ?_) (fun hc => ?_)
  · have hw := hw.1 hc
    refine aIload_n (pc' := 12) dX10_cut_11 rfl rfl ?_
    refine aIconst (pc' := 13) ⟨by decide, by decide⟩ dX10_cut_12 rfl ?_
    refine aIcmp_ne (tgt := 23) (pc' := 16) dX10_cut_13 (by decide) rfl (fun hc => ?_) (fun hc => ?_)
    · have hw := hw.1 hc
      refine aIload_n (pc' := 24) dX10_cut_23 rfl rfl ?_
      refine aIconst (pc' := 25) ⟨by decide, by decide⟩ dX10_cut_24 rfl ?_
      refine aIcmp_ne (tgt := 34) (pc' := 28) dX10_cut_25 (by decide) rfl (fun hc => ?_) (fun hc => ?_)
      · have hw := hw.1 hc
        refine aLload_n (pc' := 35) dX10_cut_34 rfl rfl ?_
        exact cLret dX10_cut_35 okX10_cut rfl ⟨rfl, _, rfl, _, rfl, hw⟩
      · have hw := hw.2 hc
        refine aLload_n (pc' := 29) dX10_cut_28 rfl rfl ?_
        refine aL2i (pc' := 30) dX10_cut_29 rfl ?_
        refine aI2l (pc' := 31) dX10_cut_30 rfl ?_
        refine aGoto (pc' := 35) dX10_cut_31 (by decide) ?_
        exact cLret dX10_cut_35 okX10_cut rfl ⟨rfl, _, rfl, _, rfl, hw⟩
    · have hw := hw.2 hc
      refine aLload_n (pc' := 17) dX10_cut_16 rfl rfl ?_
      refine aL2i (pc' := 18) dX10_cut_17 rfl ?_
      refine aI2s (pc' := 19) dX10_cut_18 rfl ?_
      refine aI2l (pc' := 20) dX10_cut_19 rfl ?_
      refine aGoto (pc' := 35) dX10_cut_20 (by decide) ?_
      exact cLret dX10_cut_35 okX10_cut rfl ⟨rfl, _, rfl, _, rfl, hw⟩
  · have hw := hw.2 hc
    refine aLload_n (pc' := 5) dX10_cut_4 rfl rfl ?_
    refine aL2i (pc' := 6) dX10_cut_5 rfl ?_
    refine aI2b (pc' := 7) dX10_cut_6 rfl ?_
    refine aI2l (pc' := 8) dX10_cut_7 rfl ?_
    refine aGoto (pc' := 35) dX10_cut_8 (by decide) ?_
    exact cLret dX10_cut_35 okX10_cut rfl ⟨rfl, _, rfl, _, rfl, hw⟩
set_option maxRecDepth 100000 in
set_option maxHeartbeats 4000000 in
theorem gX10_deal {w : aW} {mm : Nat} {C : aIF} {S : aS} {P : Int → aS → Prop} (hw : rMetI w mX10_dealt [aO 40 0] C (sU S 0 0 0) (rf mm) (fun x1 S2 => P x1 S2)) : rMetI w mX10_deal [aO 40 0] C S (rf mm) P := by
  refine cMet_of okX10_deal (Nat.le_of_ble_eq_true rfl) (fun hos => ?_)
  show cRun w mX10_deal 0 [some (aO 40 0)] [] (mem C S) (rf mm) (rqI (rf mm) C P)
  refine aAload_n (pc' := 1) dX10_deal_0 rfl rfl ?_
  refine aIconst (pc' := 2) ⟨by decide, by decide⟩ dX10_deal_1 rfl ?_
  refine aPutI (pc' := 5) dX10_deal_2 fX10_121 rfl rfl (Or.inl rfl) (lv (by decide)) rfl (cEqI (mS (f := 0) rfl) ?_)
  refine aAload_n (pc' := 6) dX10_deal_5 rfl rfl ?_
  refine cVI (c := 10) (pc' := 9) [] dX10_deal_6 lX10_192 okX10_dealt ⟨by decide, by decide⟩ npX10_dealt rfl rfl rfl rfl rfl (by decide) rfl (cMetI_mono hw (fun x1 J3 hw => ?_))
  obtain ⟨S2, rfl, hw⟩ := hw
  exact cIret dX10_deal_9 okX10_deal rfl ⟨rfl, _, rfl, _, rfl, hw⟩
set_option maxRecDepth 100000 in
set_option maxHeartbeats 4000000 in
theorem gX10_dealt {w : aW} {mm : Nat} {C : aIF} {S : aS} {P : Int → aS → Prop} (hw : rMetI w mX10_areNeeds [aO 40 0] C S (rf mm) (fun x1 S2 => (x1 = 0 ∨ x1 = 1) ∧ (((x1 ≠ 0) → (-2147483648 ≤ ((S2 6 0) - (S2 7 0)) ∧ ((S2 6 0) - (S2 7 0)) < 2147483648) ∧ (rRunI w mX10_dealt 29 [some (aO 40 0), some (aI (((S2 6 0) - (S2 7 0)))), some (aI 0), none, none, none, none] [] C (sU S2 17 0 x1) (rf mm) P)) ∧ ((x1 = 0) → P (-1) (sU S2 17 0 x1))))) : rMetI w mX10_dealt [aO 40 0] C S (rf mm) P := by
  refine cMet_of okX10_dealt (Nat.le_of_ble_eq_true rfl) (fun hos => ?_)
  show cRun w mX10_dealt 0 [some (aO 40 0), none, none, none, none, none, none] [] (mem C S) (rf mm) (rqI (rf mm) C P)
  refine aAload_n (pc' := 1) dX10_dealt_0 rfl rfl ?_
  refine aAload_n (pc' := 2) dX10_dealt_1 rfl rfl ?_
  refine cVI (c := 10) (pc' := 5) [] dX10_dealt_2 lX10_184 okX10_areNeeds ⟨by decide, by decide⟩ npX10_areNeeds rfl rfl rfl rfl rfl (by decide) rfl (cMetI_mono hw (fun x1 J3 hw => ?_))
  obtain ⟨S2, rfl, hw⟩ := hw
  obtain ⟨h4, hw⟩ := hw
  refine aPutZ (pc' := 8) dX10_dealt_5 fX10_143 rfl rfl (Or.inl rfl) (lv (by decide)) h4 rfl (cEqI (mS (f := 17) rfl) ?_)
  refine aAload_n (pc' := 9) dX10_dealt_8 rfl rfl ?_
  refine aGetI (pc' := 12) dX10_dealt_9 fX10_143 rfl rfl (lv (by decide)) rfl ?_
  refine aTopEq (y := ((sU S2 17 0 x1) 17 0)) rfl ?_
  refine aTopEq sU_s ?_
  refine aIf_ne (tgt := 17) (pc' := 15) dX10_dealt_12 (by decide) rfl (fun hc => ?_) (fun hc => ?_)
  · have hw := hw.1 hc
    refine aAload_n (pc' := 18) dX10_dealt_17 rfl rfl ?_
    refine aGetI (pc' := 21) dX10_dealt_18 fX10_27 rfl rfl (lv (by decide)) rfl ?_
    refine aTopEq (y := ((sU S2 17 0 x1) 6 0)) rfl ?_
    refine aTopEq (sU_f rfl) ?_
    refine aAload_n (pc' := 22) dX10_dealt_21 rfl rfl ?_
    refine aGetI (pc' := 25) dX10_dealt_22 fX10_140 rfl rfl (lv (by decide)) rfl ?_
    refine aTopEq (y := ((sU S2 17 0 x1) 7 0)) rfl ?_
    refine aTopEq (sU_f rfl) ?_
    obtain ⟨h5, hw⟩ := hw
    refine aIsub (pc' := 26) h5.1 h5.2 dX10_dealt_25 rfl ?_
    refine aIstore_n (pc' := 27) dX10_dealt_26 (by decide) rfl (L' := [some (aO 40 0), some (aI (((S2 6 0) - (S2 7 0)))), none, none, none, none, none]) rfl ?_
    refine aIconst (pc' := 28) ⟨by decide, by decide⟩ dX10_dealt_27 rfl ?_
    refine aIstore_n (pc' := 29) dX10_dealt_28 (by decide) rfl (L' := [some (aO 40 0), some (aI (((S2 6 0) - (S2 7 0)))), some (aI 0), none, none, none, none]) rfl ?_
    exact hw
  · have hw := hw.2 hc
    refine aIconst (pc' := 16) ⟨by decide, by decide⟩ dX10_dealt_15 rfl ?_
    exact cIret dX10_dealt_16 okX10_dealt rfl ⟨rfl, _, rfl, _, rfl, hw⟩
set_option maxRecDepth 100000 in
set_option maxHeartbeats 4000000 in
theorem gX10_dealt_29 {w : aW} {mm : Nat} {C : aIF} {S : aS} {l1 : Int} {l2 : Nat} {P : Int → aS → Prop} (hw : (((S 10 0) ≤ (l2 : Int)) → rRunI w mX10_dealt 66 [some (aO 40 0), some (aI l1), some (aI 1), none, none, none, none] [] C S (rf mm) P) ∧ ((¬ ((S 10 0) ≤ (l2 : Int))) → (l2 < 6) ∧ ((-2147483648 ≤ (l1 - (S 19 l2)) ∧ (l1 - (S 19 l2)) < 2147483648) ∧ ((l2 + 1 < 2147483648) ∧ (rRunI w mX10_dealt 29 [some (aO 40 0), some (aI ((l1 - (S 19 l2)))), some (aI ((((l2 + 1) : Nat) : Int))), none, none, none, none] [] C (sU S 18 l2 ((S 19 l2))) (rf mm) P))))) : rRunI w mX10_dealt 29 [some (aO 40 0), some (aI l1), some (aI ((l2 : Int))), none, none, none, none] [] C S (rf mm) P := by
  refine aIload_n (pc' := 30) dX10_dealt_29 rfl rfl ?_
  refine aAload_n (pc' := 31) dX10_dealt_30 rfl rfl ?_
  refine aGetI (pc' := 34) dX10_dealt_31 fX10_146 rfl rfl (lv (by decide)) rfl ?_
  refine aTopEq (y := (S 10 0)) rfl ?_
  refine aIcmp_ge (tgt := 64) (pc' := 37) dX10_dealt_34 (by decide) rfl (fun hc => ?_) (fun hc => ?_)
  · have hw := hw.1 hc
    refine aIconst (pc' := 65) ⟨by decide, by decide⟩ dX10_dealt_64 rfl ?_
    refine aIstore_n (pc' := 66) dX10_dealt_65 (by decide) rfl (L' := [some (aO 40 0), some (aI l1), some (aI 1), none, none, none, none]) rfl ?_
    exact hw
  · have hw := hw.2 hc
    refine aAload_n (pc' := 38) dX10_dealt_37 rfl rfl ?_
    refine aGetR (pc' := 41) (q := (58, 0)) dX10_dealt_38 fX10_54 rfl rfl (lv (by decide)) rfl rfl ?_
    refine aIload_n (pc' := 42) dX10_dealt_41 rfl rfl ?_
    refine aAload_n (pc' := 43) dX10_dealt_42 rfl rfl ?_
    refine aGetR (pc' := 46) (q := (59, 0)) dX10_dealt_43 fX10_57 rfl rfl (lv (by decide)) rfl rfl ?_
    refine aIload_n (pc' := 47) dX10_dealt_46 rfl rfl ?_
    obtain ⟨h1, hw⟩ := hw
    refine aIald (pc' := 48) (j := l2) dX10_dealt_47 rfl (lv (by decide)) rfl h1 rfl ?_
    refine aTopEq (y := (S 19 l2)) rfl ?_
    refine aIast (pc' := 49) (j := l2) dX10_dealt_48 rfl (lv (by decide)) rfl h1 rfl (cEqI (mA (f := 18) rfl rfl rfl) ?_)
    refine aIload_n (pc' := 50) dX10_dealt_49 rfl rfl ?_
    refine aAload_n (pc' := 51) dX10_dealt_50 rfl rfl ?_
    refine aGetR (pc' := 54) (q := (59, 0)) dX10_dealt_51 fX10_57 rfl rfl (lv (by decide)) rfl rfl ?_
    refine aIload_n (pc' := 55) dX10_dealt_54 rfl rfl ?_
    refine aIald (pc' := 56) (j := l2) dX10_dealt_55 rfl (lv (by decide)) rfl h1 rfl ?_
    refine aTopEq (y := ((sU S 18 l2 ((S 19 l2))) 19 l2)) rfl ?_
    refine aTopEq (sU_f rfl) ?_
    obtain ⟨h2, hw⟩ := hw
    refine aIsub (pc' := 57) h2.1 h2.2 dX10_dealt_56 rfl ?_
    refine aIstore_n (pc' := 58) dX10_dealt_57 (by decide) rfl (L' := [some (aO 40 0), some (aI ((l1 - (S 19 l2)))), some (aI ((l2 : Int))), none, none, none, none]) rfl ?_
    obtain ⟨h3, hw⟩ := hw
    refine aIinc1 (pc' := 61) dX10_dealt_58 rfl (by decide) h3 rfl (L' := [some (aO 40 0), some (aI ((l1 - (S 19 l2)))), some (aI ((((l2 + 1) : Nat) : Int))), none, none, none, none]) rfl ?_
    refine aGoto (pc' := 29) dX10_dealt_61 (by decide) ?_
    exact hw
set_option maxRecDepth 100000 in
set_option maxHeartbeats 4000000 in
theorem gX10_dealt_66 {w : aW} {mm : Nat} {C : aIF} {S : aS} {l1 : Int} {l2 : Int} {P : Int → aS → Prop} (hw : ((l2 = 0) → rMetI w mX10_sum [aO 40 0] C S (rf mm) (fun x1 S2 => P x1 S2)) ∧ ((¬ (l2 = 0)) → ((l1 < (S 5 0)) → rMetI w mX10_sum [aO 40 0] C S (rf mm) (fun x4 S5 => P x4 S5)) ∧ ((¬ (l1 < (S 5 0))) → rRunI w mX10_dealt 86 [some (aO 40 0), some (aI l1), some (aI l2), some (aI ((-1))), some (aI 0), some (aI 0), none] [] C S (rf mm) P))) : rRunI w mX10_dealt 66 [some (aO 40 0), some (aI l1), some (aI l2), none, none, none, none] [] C S (rf mm) P := by
  refine aIload_n (pc' := 67) dX10_dealt_66 rfl rfl ?_
  refine aIf_eq (tgt := 193) (pc' := 70) dX10_dealt_67 (by decide) rfl (fun hc => ?_) (fun hc => ?_)
  · have hw := hw.1 hc
    refine aAload_n (pc' := 194) dX10_dealt_193 rfl rfl ?_
    refine cVI (c := 10) (pc' := 197) [] dX10_dealt_194 lX10_188 okX10_sum ⟨by decide, by decide⟩ npX10_sum rfl rfl rfl rfl rfl (by decide) rfl (cMetI_mono hw (fun x1 J3 hw => ?_))
    obtain ⟨S2, rfl, hw⟩ := hw
    exact cIret dX10_dealt_197 okX10_dealt rfl ⟨rfl, _, rfl, _, rfl, hw⟩
  · have hw := hw.2 hc
    refine aIload_n (pc' := 71) dX10_dealt_70 rfl rfl ?_
    refine aAload_n (pc' := 72) dX10_dealt_71 rfl rfl ?_
    refine aGetI (pc' := 75) dX10_dealt_72 fX10_23 rfl rfl (lv (by decide)) rfl ?_
    refine aTopEq (y := (S 5 0)) rfl ?_
    refine aIcmp_lt (tgt := 193) (pc' := 78) dX10_dealt_75 (by decide) rfl (fun hc => ?_) (fun hc => ?_)
    · have hw := hw.1 hc
      refine aAload_n (pc' := 194) dX10_dealt_193 rfl rfl ?_
      refine cVI (c := 10) (pc' := 197) [] dX10_dealt_194 lX10_188 okX10_sum ⟨by decide, by decide⟩ npX10_sum rfl rfl rfl rfl rfl (by decide) rfl (cMetI_mono hw (fun x4 J6 hw => ?_))
      obtain ⟨S5, rfl, hw⟩ := hw
      exact cIret dX10_dealt_197 okX10_dealt rfl ⟨rfl, _, rfl, _, rfl, hw⟩
    · have hw := hw.2 hc
      refine aIconst (pc' := 79) ⟨by decide, by decide⟩ dX10_dealt_78 rfl ?_
      refine aIstore_n (pc' := 80) dX10_dealt_79 (by decide) rfl (L' := [some (aO 40 0), some (aI l1), some (aI l2), some (aI ((-1))), none, none, none]) rfl ?_
      refine aIconst (pc' := 81) ⟨by decide, by decide⟩ dX10_dealt_80 rfl ?_
      refine aIstore (pc' := 83) dX10_dealt_81 (by decide) rfl (L' := [some (aO 40 0), some (aI l1), some (aI l2), some (aI ((-1))), some (aI 0), none, none]) rfl ?_
      refine aIconst (pc' := 84) ⟨by decide, by decide⟩ dX10_dealt_83 rfl ?_
      refine aIstore (pc' := 86) dX10_dealt_84 (by decide) rfl (L' := [some (aO 40 0), some (aI l1), some (aI l2), some (aI ((-1))), some (aI 0), some (aI 0), none]) rfl ?_
      exact hw
set_option maxRecDepth 100000 in
set_option maxHeartbeats 4000000 in
theorem gX10_dealt_86 {w : aW} {mm : Nat} {C : aIF} {S : aS} {l1 : Int} {l2 : Int} {l3 : Int} {l4 : Int} {l5 : Nat} {P : Int → aS → Prop} (hw : (((S 10 0) ≤ (l5 : Int)) → ((l3 = (-1)) → rRunI w mX10_dealt 66 [some (aO 40 0), some (aI l1), some (aI 0), none, none, none, none] [] C S (rf mm) P) ∧ ((¬ (l3 = (-1))) → (0 ≤ l3 ∧ l3 < ((6 : Nat) : Int)) ∧ ((-2147483648 ≤ ((S 18 ((l3).toNat)) + (S 5 0)) ∧ ((S 18 ((l3).toNat)) + (S 5 0)) < 2147483648) ∧ ((-2147483648 ≤ (l1 - (S 5 0)) ∧ (l1 - (S 5 0)) < 2147483648) ∧ (rRunI w mX10_dealt 66 [some (aO 40 0), some (aI ((l1 - (S 5 0)))), some (aI 1), none, none, none, none] [] C (sU S 18 ((l3).toNat) (((S 18 ((l3).toNat)) + (S 5 0)))) (rf mm) P))))) ∧ ((¬ ((S 10 0) ≤ (l5 : Int))) → (l5 < 6) ∧ (rMetI w mX10_alone [aO 40 0, aI ((l5 : Int)), aI ((S 18 l5))] C S (rf mm) (fun x5 S6 => (-2147483648 ≤ ((S6 18 l5) + (S6 5 0)) ∧ ((S6 18 l5) + (S6 5 0)) < 2147483648) ∧ (rMetI w mX10_alone [aO 40 0, aI ((l5 : Int)), aI (((S6 18 l5) + (S6 5 0)))] C S6 (rf mm) (fun x9 S10 => (-2147483648 ≤ (x5 - x9) ∧ (x5 - x9) < 2147483648) ∧ (((l4 < (x5 - x9)) → (l5 + 1 < 2147483648) ∧ (rRunI w mX10_dealt 86 [some (aO 40 0), some (aI l1), some (aI l2), some (aI ((l5 : Int))), some (aI ((x5 - x9))), some (aI ((((l5 + 1) : Nat) : Int))), none] [] C S10 (rf mm) P)) ∧ ((¬ (l4 < (x5 - x9))) → (l5 + 1 < 2147483648) ∧ (rRunI w mX10_dealt 86 [some (aO 40 0), some (aI l1), some (aI l2), some (aI l3), some (aI l4), some (aI ((((l5 + 1) : Nat) : Int))), none] [] C S10 (rf mm) P))))))))) : rRunI w mX10_dealt 86 [some (aO 40 0), some (aI l1), some (aI l2), some (aI l3), some (aI l4), some (aI ((l5 : Int))), none] [] C S (rf mm) P := by
  refine aIload (pc' := 88) dX10_dealt_86 rfl rfl ?_
  refine aAload_n (pc' := 89) dX10_dealt_88 rfl rfl ?_
  refine aGetI (pc' := 92) dX10_dealt_89 fX10_146 rfl rfl (lv (by decide)) rfl ?_
  refine aTopEq (y := (S 10 0)) rfl ?_
  refine aIcmp_ge (tgt := 152) (pc' := 95) dX10_dealt_92 (by decide) rfl (fun hc => ?_) (fun hc => ?_)
  · have hw := hw.1 hc
    refine aIload_n (pc' := 153) dX10_dealt_152 rfl rfl ?_
    refine aIconst (pc' := 154) ⟨by decide, by decide⟩ dX10_dealt_153 rfl ?_
    refine aIcmp_eq (tgt := 161) (pc' := 157) dX10_dealt_154 (by decide) rfl (fun hc => ?_) (fun hc => ?_)
    · have hw := hw.1 hc
      refine aIconst (pc' := 162) ⟨by decide, by decide⟩ dX10_dealt_161 rfl ?_
      refine aIstore_n (pc' := 163) dX10_dealt_162 (by decide) rfl (L' := [some (aO 40 0), some (aI l1), some (aI 0), some (aI l3), some (aI l4), some (aI ((l5 : Int))), none]) rfl ?_
      refine aIload_n (pc' := 164) dX10_dealt_163 rfl rfl ?_
      refine aIf_ne (tgt := 170) (pc' := 167) dX10_dealt_164 (by decide) rfl (fun hc => ?_) (fun hc => ?_)
      · exact absurd hc (by decide)
      · refine aGoto (pc' := 66) dX10_dealt_167 (by decide) ?_
        exact aDrop [3, 4, 5] (L' := [some (aO 40 0), some (aI l1), some (aI 0), none, none, none, none]) rfl hw
    · have hw := hw.2 hc
      refine aIconst (pc' := 158) ⟨by decide, by decide⟩ dX10_dealt_157 rfl ?_
      refine aGoto (pc' := 162) dX10_dealt_158 (by decide) ?_
      refine aIstore_n (pc' := 163) dX10_dealt_162 (by decide) rfl (L' := [some (aO 40 0), some (aI l1), some (aI 1), some (aI l3), some (aI l4), some (aI ((l5 : Int))), none]) rfl ?_
      refine aIload_n (pc' := 164) dX10_dealt_163 rfl rfl ?_
      refine aIf_ne (tgt := 170) (pc' := 167) dX10_dealt_164 (by decide) rfl (fun hc => ?_) (fun hc => ?_)
      · refine aAload_n (pc' := 171) dX10_dealt_170 rfl rfl ?_
        refine aGetR (pc' := 174) (q := (58, 0)) dX10_dealt_171 fX10_54 rfl rfl (lv (by decide)) rfl rfl ?_
        refine aIload_n (pc' := 175) dX10_dealt_174 rfl rfl ?_
        refine aDup2 (pc' := 176) rfl rfl dX10_dealt_175 rfl ?_
        obtain ⟨h1, hw⟩ := hw
        refine aIald (pc' := 177) (j := (l3).toNat) dX10_dealt_176 rfl (lv (by decide)) (tnIx h1).1 (tnIx h1).2 rfl ?_
        refine aTopEq (y := (S 18 ((l3).toNat))) rfl ?_
        refine aAload_n (pc' := 178) dX10_dealt_177 rfl rfl ?_
        refine aGetI (pc' := 181) dX10_dealt_178 fX10_23 rfl rfl (lv (by decide)) rfl ?_
        refine aTopEq (y := (S 5 0)) rfl ?_
        obtain ⟨h2, hw⟩ := hw
        refine aIadd (pc' := 182) h2.1 h2.2 dX10_dealt_181 rfl ?_
        refine aIast (pc' := 183) (j := (l3).toNat) dX10_dealt_182 rfl (lv (by decide)) (tnIx h1).1 (tnIx h1).2 rfl (cEqI (mA (f := 18) rfl rfl rfl) ?_)
        refine aIload_n (pc' := 184) dX10_dealt_183 rfl rfl ?_
        refine aAload_n (pc' := 185) dX10_dealt_184 rfl rfl ?_
        refine aGetI (pc' := 188) dX10_dealt_185 fX10_23 rfl rfl (lv (by decide)) rfl ?_
        refine aTopEq (y := ((sU S 18 ((l3).toNat) (((S 18 ((l3).toNat)) + (S 5 0)))) 5 0)) rfl ?_
        refine aTopEq (sU_f rfl) ?_
        obtain ⟨h3, hw⟩ := hw
        refine aIsub (pc' := 189) h3.1 h3.2 dX10_dealt_188 rfl ?_
        refine aIstore_n (pc' := 190) dX10_dealt_189 (by decide) rfl (L' := [some (aO 40 0), some (aI ((l1 - (S 5 0)))), some (aI 1), some (aI l3), some (aI l4), some (aI ((l5 : Int))), none]) rfl ?_
        refine aGoto (pc' := 66) dX10_dealt_190 (by decide) ?_
        exact aDrop [3, 4, 5] (L' := [some (aO 40 0), some (aI ((l1 - (S 5 0)))), some (aI 1), none, none, none, none]) rfl hw
      · exact absurd hc (by decide)
  · have hw := hw.2 hc
    refine aAload_n (pc' := 96) dX10_dealt_95 rfl rfl ?_
    refine aIload (pc' := 98) dX10_dealt_96 rfl rfl ?_
    refine aAload_n (pc' := 99) dX10_dealt_98 rfl rfl ?_
    refine aGetR (pc' := 102) (q := (58, 0)) dX10_dealt_99 fX10_54 rfl rfl (lv (by decide)) rfl rfl ?_
    refine aIload (pc' := 104) dX10_dealt_102 rfl rfl ?_
    obtain ⟨h4, hw⟩ := hw
    refine aIald (pc' := 105) (j := l5) dX10_dealt_104 rfl (lv (by decide)) rfl h4 rfl ?_
    refine aTopEq (y := (S 18 l5)) rfl ?_
    refine cVI (c := 10) (pc' := 108) [aI ((l5 : Int)), aI ((S 18 l5))] dX10_dealt_105 lX10_171 okX10_alone ⟨by decide, by decide⟩ npX10_alone rfl rfl rfl rfl rfl (by decide) rfl (cMetI_mono hw (fun x5 J7 hw => ?_))
    obtain ⟨S6, rfl, hw⟩ := hw
    refine aAload_n (pc' := 109) dX10_dealt_108 rfl rfl ?_
    refine aIload (pc' := 111) dX10_dealt_109 rfl rfl ?_
    refine aAload_n (pc' := 112) dX10_dealt_111 rfl rfl ?_
    refine aGetR (pc' := 115) (q := (58, 0)) dX10_dealt_112 fX10_54 rfl rfl (lv (by decide)) rfl rfl ?_
    refine aIload (pc' := 117) dX10_dealt_115 rfl rfl ?_
    refine aIald (pc' := 118) (j := l5) dX10_dealt_117 rfl (lv (by decide)) rfl h4 rfl ?_
    refine aTopEq (y := (S6 18 l5)) rfl ?_
    refine aAload_n (pc' := 119) dX10_dealt_118 rfl rfl ?_
    refine aGetI (pc' := 122) dX10_dealt_119 fX10_23 rfl rfl (lv (by decide)) rfl ?_
    refine aTopEq (y := (S6 5 0)) rfl ?_
    obtain ⟨h8, hw⟩ := hw
    refine aIadd (pc' := 123) h8.1 h8.2 dX10_dealt_122 rfl ?_
    refine cVI (c := 10) (pc' := 126) [aI ((l5 : Int)), aI (((S6 18 l5) + (S6 5 0)))] dX10_dealt_123 lX10_171 okX10_alone ⟨by decide, by decide⟩ npX10_alone rfl rfl rfl rfl rfl (by decide) rfl (cMetI_mono hw (fun x9 J11 hw => ?_))
    obtain ⟨S10, rfl, hw⟩ := hw
    obtain ⟨h12, hw⟩ := hw
    refine aIsub (pc' := 127) h12.1 h12.2 dX10_dealt_126 rfl ?_
    refine aIstore (pc' := 129) dX10_dealt_127 (by decide) rfl (L' := [some (aO 40 0), some (aI l1), some (aI l2), some (aI l3), some (aI l4), some (aI ((l5 : Int))), some (aI ((x5 - x9)))]) rfl ?_
    refine aIload (pc' := 131) dX10_dealt_129 rfl rfl ?_
    refine aIload (pc' := 133) dX10_dealt_131 rfl rfl ?_
    refine aIcmp_gt (tgt := 139) (pc' := 136) dX10_dealt_133 (by decide) rfl (fun hc => ?_) (fun hc => ?_)
    · have hw := hw.1 hc
      refine aIload (pc' := 141) dX10_dealt_139 rfl rfl ?_
      refine aIstore (pc' := 143) dX10_dealt_141 (by decide) rfl (L' := [some (aO 40 0), some (aI l1), some (aI l2), some (aI l3), some (aI ((x5 - x9))), some (aI ((l5 : Int))), some (aI ((x5 - x9)))]) rfl ?_
      refine aIload (pc' := 145) dX10_dealt_143 rfl rfl ?_
      refine aIstore_n (pc' := 146) dX10_dealt_145 (by decide) rfl (L' := [some (aO 40 0), some (aI l1), some (aI l2), some (aI ((l5 : Int))), some (aI ((x5 - x9))), some (aI ((l5 : Int))), some (aI ((x5 - x9)))]) rfl ?_
      obtain ⟨h13, hw⟩ := hw
      refine aIinc1 (pc' := 149) dX10_dealt_146 rfl (by decide) h13 rfl (L' := [some (aO 40 0), some (aI l1), some (aI l2), some (aI ((l5 : Int))), some (aI ((x5 - x9))), some (aI ((((l5 + 1) : Nat) : Int))), some (aI ((x5 - x9)))]) rfl ?_
      refine aGoto (pc' := 86) dX10_dealt_149 (by decide) ?_
      exact aDrop [6] (L' := [some (aO 40 0), some (aI l1), some (aI l2), some (aI ((l5 : Int))), some (aI ((x5 - x9))), some (aI ((((l5 + 1) : Nat) : Int))), none]) rfl hw
    · have hw := hw.2 hc
      refine aGoto (pc' := 146) dX10_dealt_136 (by decide) ?_
      obtain ⟨h14, hw⟩ := hw
      refine aIinc1 (pc' := 149) dX10_dealt_146 rfl (by decide) h14 rfl (L' := [some (aO 40 0), some (aI l1), some (aI l2), some (aI l3), some (aI l4), some (aI ((((l5 + 1) : Nat) : Int))), some (aI ((x5 - x9)))]) rfl ?_
      refine aGoto (pc' := 86) dX10_dealt_149 (by decide) ?_
      exact aDrop [6] (L' := [some (aO 40 0), some (aI l1), some (aI l2), some (aI l3), some (aI l4), some (aI ((((l5 + 1) : Nat) : Int))), none]) rfl hw
set_option maxRecDepth 100000 in
set_option maxHeartbeats 4000000 in
theorem gX10_falls {w : aW} {mm : Nat} {C : aIF} {S : aS} {p : Int} {P : Int → aS → Prop} (hw : rMetI w mX10_isProgram [aO 40 0, aI p] C (sU S 0 0 0) (rf mm) (fun x1 S2 => ((x1 ≠ 0) → rMetI w mX10_needOf [aO 40 0, aI p] C S2 (rf mm) (fun x4 S5 => ((x4 ≠ (-1)) → rMetI w mX10_alone [aO 40 0, aI p, aI x4] C S5 (rf mm) (fun x7 S8 => rRunI w mX10_falls 40 [some (aO 40 0), some (aI p), some (aI x4), some (aI 2147483647), some (aI x7), none, none] [] C S8 (rf mm) P)) ∧ ((x4 = (-1)) → P (-1) S5))) ∧ ((x1 = 0) → P (-2) S2))) : rMetI w mX10_falls [aO 40 0, aI p] C S (rf mm) P := by
  refine cMet_of okX10_falls (Nat.le_of_ble_eq_true rfl) (fun hos => ?_)
  show cRun w mX10_falls 0 [some (aO 40 0), some (aI p), none, none, none, none, none] [] (mem C S) (rf mm) (rqI (rf mm) C P)
  refine aAload_n (pc' := 1) dX10_falls_0 rfl rfl ?_
  refine aIconst (pc' := 2) ⟨by decide, by decide⟩ dX10_falls_1 rfl ?_
  refine aPutI (pc' := 5) dX10_falls_2 fX10_121 rfl rfl (Or.inl rfl) (lv (by decide)) rfl (cEqI (mS (f := 0) rfl) ?_)
  refine aAload_n (pc' := 6) dX10_falls_5 rfl rfl ?_
  refine aIload_n (pc' := 7) dX10_falls_6 rfl rfl ?_
  refine cVI (c := 10) (pc' := 10) [aI p] dX10_falls_7 lX10_168 okX10_isProgram ⟨by decide, by decide⟩ npX10_isProgram rfl rfl rfl rfl rfl (by decide) rfl (cMetI_mono hw (fun x1 J3 hw => ?_))
  obtain ⟨S2, rfl, hw⟩ := hw
  refine aIf_ne (tgt := 16) (pc' := 13) dX10_falls_10 (by decide) rfl (fun hc => ?_) (fun hc => ?_)
  · have hw := hw.1 hc
    refine aAload_n (pc' := 17) dX10_falls_16 rfl rfl ?_
    refine aIload_n (pc' := 18) dX10_falls_17 rfl rfl ?_
    refine cVI (c := 10) (pc' := 21) [aI p] dX10_falls_18 lX10_178 okX10_needOf ⟨by decide, by decide⟩ npX10_needOf rfl rfl rfl rfl rfl (by decide) rfl (cMetI_mono hw (fun x4 J6 hw => ?_))
    obtain ⟨S5, rfl, hw⟩ := hw
    refine aIstore_n (pc' := 22) dX10_falls_21 (by decide) rfl (L' := [some (aO 40 0), some (aI p), some (aI x4), none, none, none, none]) rfl ?_
    refine aIload_n (pc' := 23) dX10_falls_22 rfl rfl ?_
    refine aIconst (pc' := 24) ⟨by decide, by decide⟩ dX10_falls_23 rfl ?_
    refine aIcmp_ne (tgt := 29) (pc' := 27) dX10_falls_24 (by decide) rfl (fun hc => ?_) (fun hc => ?_)
    · have hw := hw.1 hc
      refine aLdc (pc' := 31) qX10_183 ⟨by decide, by decide⟩ dX10_falls_29 rfl ?_
      refine aIstore_n (pc' := 32) dX10_falls_31 (by decide) rfl (L' := [some (aO 40 0), some (aI p), some (aI x4), some (aI 2147483647), none, none, none]) rfl ?_
      refine aAload_n (pc' := 33) dX10_falls_32 rfl rfl ?_
      refine aIload_n (pc' := 34) dX10_falls_33 rfl rfl ?_
      refine aIload_n (pc' := 35) dX10_falls_34 rfl rfl ?_
      refine cVI (c := 10) (pc' := 38) [aI p, aI x4] dX10_falls_35 lX10_171 okX10_alone ⟨by decide, by decide⟩ npX10_alone rfl rfl rfl rfl rfl (by decide) rfl (cMetI_mono hw (fun x7 J9 hw => ?_))
      obtain ⟨S8, rfl, hw⟩ := hw
      refine aIstore (pc' := 40) dX10_falls_38 (by decide) rfl (L' := [some (aO 40 0), some (aI p), some (aI x4), some (aI 2147483647), some (aI x7), none, none]) rfl ?_
      exact hw
    · have hw := hw.2 hc
      refine aIconst (pc' := 28) ⟨by decide, by decide⟩ dX10_falls_27 rfl ?_
      exact cIret dX10_falls_28 okX10_falls rfl ⟨rfl, _, rfl, _, rfl, hw⟩
  · have hw := hw.2 hc
    refine aBipush (pc' := 15) ⟨by decide, by decide⟩ dX10_falls_13 rfl ?_
    exact cIret dX10_falls_15 okX10_falls rfl ⟨rfl, _, rfl, _, rfl, hw⟩
set_option maxRecDepth 100000 in
set_option maxHeartbeats 4000000 in
theorem gX10_falls_40 {w : aW} {mm : Nat} {C : aIF} {S : aS} {q : Nat} {l2 : Int} {l3 : Int} {l4 : Int} {P : Int → aS → Prop} (hw : (-2147483648 ≤ (l2 + (S 5 0)) ∧ (l2 + (S 5 0)) < 2147483648) ∧ ((((S 6 0) < (l2 + (S 5 0))) → P 1 S) ∧ ((¬ ((S 6 0) < (l2 + (S 5 0)))) → (-2147483648 ≤ (l2 + (S 5 0)) ∧ (l2 + (S 5 0)) < 2147483648) ∧ (rMetI w mX10_alone [aO 40 0, aI ((q : Int)), aI ((l2 + (S 5 0)))] C S (rf mm) (fun x3 S4 => (-2147483648 ≤ (l4 - x3) ∧ (l4 - x3) < 2147483648) ∧ ((((l4 - x3) < 0) → P 0 S4) ∧ ((¬ ((l4 - x3) < 0)) → (((l4 - x3) ≤ l3) → rRunI w mX10_falls 40 [some (aO 40 0), some (aI ((q : Int))), some (aI ((l2 + (S 5 0)))), some (aI ((l4 - x3))), some (aI x3), none, none] [] C S4 (rf mm) P) ∧ ((¬ ((l4 - x3) ≤ l3)) → P 0 S4)))))))) : rRunI w mX10_falls 40 [some (aO 40 0), some (aI ((q : Int))), some (aI l2), some (aI l3), some (aI l4), none, none] [] C S (rf mm) P := by
  refine aIload_n (pc' := 41) dX10_falls_40 rfl rfl ?_
  refine aAload_n (pc' := 42) dX10_falls_41 rfl rfl ?_
  refine aGetI (pc' := 45) dX10_falls_42 fX10_23 rfl rfl (lv (by decide)) rfl ?_
  refine aTopEq (y := (S 5 0)) rfl ?_
  obtain ⟨h1, hw⟩ := hw
  refine aIadd (pc' := 46) h1.1 h1.2 dX10_falls_45 rfl ?_
  refine aAload_n (pc' := 47) dX10_falls_46 rfl rfl ?_
  refine aGetI (pc' := 50) dX10_falls_47 fX10_27 rfl rfl (lv (by decide)) rfl ?_
  refine aTopEq (y := (S 6 0)) rfl ?_
  refine aIcmp_gt (tgt := 98) (pc' := 53) dX10_falls_50 (by decide) rfl (fun hc => ?_) (fun hc => ?_)
  · have hw := hw.1 hc
    refine aIconst (pc' := 99) ⟨by decide, by decide⟩ dX10_falls_98 rfl ?_
    exact cIret dX10_falls_99 okX10_falls rfl ⟨rfl, _, rfl, _, rfl, hw⟩
  · have hw := hw.2 hc
    refine aIload_n (pc' := 54) dX10_falls_53 rfl rfl ?_
    refine aAload_n (pc' := 55) dX10_falls_54 rfl rfl ?_
    refine aGetI (pc' := 58) dX10_falls_55 fX10_23 rfl rfl (lv (by decide)) rfl ?_
    refine aTopEq (y := (S 5 0)) rfl ?_
    obtain ⟨h2, hw⟩ := hw
    refine aIadd (pc' := 59) h2.1 h2.2 dX10_falls_58 rfl ?_
    refine aIstore_n (pc' := 60) dX10_falls_59 (by decide) rfl (L' := [some (aO 40 0), some (aI ((q : Int))), some (aI ((l2 + (S 5 0)))), some (aI l3), some (aI l4), none, none]) rfl ?_
    refine aAload_n (pc' := 61) dX10_falls_60 rfl rfl ?_
    refine aIload_n (pc' := 62) dX10_falls_61 rfl rfl ?_
    refine aIload_n (pc' := 63) dX10_falls_62 rfl rfl ?_
    refine cVI (c := 10) (pc' := 66) [aI ((q : Int)), aI ((l2 + (S 5 0)))] dX10_falls_63 lX10_171 okX10_alone ⟨by decide, by decide⟩ npX10_alone rfl rfl rfl rfl rfl (by decide) rfl (cMetI_mono hw (fun x3 J5 hw => ?_))
    obtain ⟨S4, rfl, hw⟩ := hw
    refine aIstore (pc' := 68) dX10_falls_66 (by decide) rfl (L' := [some (aO 40 0), some (aI ((q : Int))), some (aI ((l2 + (S 5 0)))), some (aI l3), some (aI l4), some (aI x3), none]) rfl ?_
    refine aIload (pc' := 70) dX10_falls_68 rfl rfl ?_
    refine aIload (pc' := 72) dX10_falls_70 rfl rfl ?_
    obtain ⟨h6, hw⟩ := hw
    refine aIsub (pc' := 73) h6.1 h6.2 dX10_falls_72 rfl ?_
    refine aIstore (pc' := 75) dX10_falls_73 (by decide) rfl (L' := [some (aO 40 0), some (aI ((q : Int))), some (aI ((l2 + (S 5 0)))), some (aI l3), some (aI l4), some (aI x3), some (aI ((l4 - x3)))]) rfl ?_
    refine aIload (pc' := 77) dX10_falls_75 rfl rfl ?_
    refine aIf_lt (tgt := 86) (pc' := 80) dX10_falls_77 (by decide) rfl (fun hc => ?_) (fun hc => ?_)
    · have hw := hw.1 hc
      refine aIconst (pc' := 87) ⟨by decide, by decide⟩ dX10_falls_86 rfl ?_
      exact cIret dX10_falls_87 okX10_falls rfl ⟨rfl, _, rfl, _, rfl, hw⟩
    · have hw := hw.2 hc
      refine aIload (pc' := 82) dX10_falls_80 rfl rfl ?_
      refine aIload_n (pc' := 83) dX10_falls_82 rfl rfl ?_
      refine aIcmp_le (tgt := 88) (pc' := 86) dX10_falls_83 (by decide) rfl (fun hc => ?_) (fun hc => ?_)
      · have hw := hw.1 hc
        refine aIload (pc' := 90) dX10_falls_88 rfl rfl ?_
        refine aIstore_n (pc' := 91) dX10_falls_90 (by decide) rfl (L' := [some (aO 40 0), some (aI ((q : Int))), some (aI ((l2 + (S 5 0)))), some (aI ((l4 - x3))), some (aI l4), some (aI x3), some (aI ((l4 - x3)))]) rfl ?_
        refine aIload (pc' := 93) dX10_falls_91 rfl rfl ?_
        refine aIstore (pc' := 95) dX10_falls_93 (by decide) rfl (L' := [some (aO 40 0), some (aI ((q : Int))), some (aI ((l2 + (S 5 0)))), some (aI ((l4 - x3))), some (aI x3), some (aI x3), some (aI ((l4 - x3)))]) rfl ?_
        refine aGoto (pc' := 40) dX10_falls_95 (by decide) ?_
        exact aDrop [5, 6] (L' := [some (aO 40 0), some (aI ((q : Int))), some (aI ((l2 + (S 5 0)))), some (aI ((l4 - x3))), some (aI x3), none, none]) rfl hw
      · have hw := hw.2 hc
        refine aIconst (pc' := 87) ⟨by decide, by decide⟩ dX10_falls_86 rfl ?_
        exact cIret dX10_falls_87 okX10_falls rfl ⟨rfl, _, rfl, _, rfl, hw⟩
set_option maxRecDepth 100000 in
set_option maxHeartbeats 4000000 in
theorem gX10_gives {w : aW} {mm : Nat} {C : aIF} {S : aS} {p : Nat} {n : Int} {P : aS → Prop} (hw : (p < 6) ∧ ((-2147483648 ≤ ((S 29 p) - n) ∧ ((S 29 p) - n) < 2147483648) ∧ (rMetI w mX10_holds [aI ((S 13 p)), aI (((S 29 p) - n))] C S (rf mm) (fun x3 S4 => (((S 30 p) ≤ x3) → (-2147483648 ≤ ((S4 29 p) - n) ∧ ((S4 29 p) - n) < 2147483648) ∧ (rMetV w mX10_tells [aO 40 0, aI ((p : Int)), aI 3, aI n] C (sU S4 29 p (((S4 29 p) - n))) (rf mm) (fun S8 => P S8))) ∧ ((¬ ((S 30 p) ≤ x3)) → rMetI w mX10_collects [aO 40 0, aI ((p : Int))] C S4 (rf mm) (fun x10 S11 => (((S11 28 p) = 2) → (-2147483648 ≤ ((S11 29 p) - n) ∧ ((S11 29 p) - n) < 2147483648) ∧ (rMetV w mX10_tells [aO 40 0, aI ((p : Int)), aI 3, aI n] C (sU S11 29 p (((S11 29 p) - n))) (rf mm) (fun S15 => P S15))) ∧ ((¬ ((S11 28 p) = 2)) → (-2147483648 ≤ ((S11 37 p) + x10) ∧ ((S11 37 p) + x10) < 2147483648) ∧ ((-2147483648 ≤ ((S11 29 p) - n) ∧ ((S11 29 p) - n) < 2147483648) ∧ (rMetV w mX10_tells [aO 40 0, aI ((p : Int)), aI 3, aI n] C (sU (sU (sU S11 28 p 1) 37 p (((S11 37 p) + x10))) 29 p (((S11 29 p) - n))) (rf mm) (fun S20 => P S20)))))))))) : rMetV w mX10_gives [aO 40 0, aI ((p : Int)), aI n] C S (rf mm) P := by
  refine cMet_of okX10_gives (Nat.le_of_ble_eq_true rfl) (fun hos => ?_)
  show cRun w mX10_gives 0 [some (aO 40 0), some (aI ((p : Int))), some (aI n), none] [] (mem C S) (rf mm) (rqV (rf mm) C P)
  refine aAload_n (pc' := 1) dX10_gives_0 rfl rfl ?_
  refine aGetR (pc' := 4) (q := (70, 0)) dX10_gives_1 fX10_72 rfl rfl (lv (by decide)) rfl rfl ?_
  refine aIload_n (pc' := 5) dX10_gives_4 rfl rfl ?_
  obtain ⟨h1, hw⟩ := hw
  refine aIald (pc' := 6) (j := p) dX10_gives_5 rfl (lv (by decide)) rfl h1 rfl ?_
  refine aTopEq (y := (S 30 p)) rfl ?_
  refine aAload_n (pc' := 7) dX10_gives_6 rfl rfl ?_
  refine aGetR (pc' := 10) (q := (53, 0)) dX10_gives_7 fX10_42 rfl rfl (lv (by decide)) rfl rfl ?_
  refine aIload_n (pc' := 11) dX10_gives_10 rfl rfl ?_
  refine aIald (pc' := 12) (j := p) dX10_gives_11 rfl (lv (by decide)) rfl h1 rfl ?_
  refine aTopEq (y := (S 13 p)) rfl ?_
  refine aAload_n (pc' := 13) dX10_gives_12 rfl rfl ?_
  refine aGetR (pc' := 16) (q := (69, 0)) dX10_gives_13 fX10_69 rfl rfl (lv (by decide)) rfl rfl ?_
  refine aIload_n (pc' := 17) dX10_gives_16 rfl rfl ?_
  refine aIald (pc' := 18) (j := p) dX10_gives_17 rfl (lv (by decide)) rfl h1 rfl ?_
  refine aTopEq (y := (S 29 p)) rfl ?_
  refine aIload_n (pc' := 19) dX10_gives_18 rfl rfl ?_
  obtain ⟨h2, hw⟩ := hw
  refine aIsub (pc' := 20) h2.1 h2.2 dX10_gives_19 rfl ?_
  refine cSI (pc' := 23) [aI ((S 13 p)), aI (((S 29 p) - n))] dX10_gives_20 lX10_160 okX10_holds ⟨by decide, by decide⟩ npX10_holds rfl rfl rfl (cMetI_mono hw (fun x3 J5 hw => ?_))
  obtain ⟨S4, rfl, hw⟩ := hw
  refine aIcmp_le (tgt := 59) (pc' := 26) dX10_gives_23 (by decide) rfl (fun hc => ?_) (fun hc => ?_)
  · have hw := hw.1 hc
    refine aAload_n (pc' := 60) dX10_gives_59 rfl rfl ?_
    refine aGetR (pc' := 63) (q := (69, 0)) dX10_gives_60 fX10_69 rfl rfl (lv (by decide)) rfl rfl ?_
    refine aIload_n (pc' := 64) dX10_gives_63 rfl rfl ?_
    refine aDup2 (pc' := 65) rfl rfl dX10_gives_64 rfl ?_
    refine aIald (pc' := 66) (j := p) dX10_gives_65 rfl (lv (by decide)) rfl h1 rfl ?_
    refine aTopEq (y := (S4 29 p)) rfl ?_
    refine aIload_n (pc' := 67) dX10_gives_66 rfl rfl ?_
    obtain ⟨h6, hw⟩ := hw
    refine aIsub (pc' := 68) h6.1 h6.2 dX10_gives_67 rfl ?_
    refine aIast (pc' := 69) (j := p) dX10_gives_68 rfl (lv (by decide)) rfl h1 rfl (cEqI (mA (f := 29) rfl rfl rfl) ?_)
    refine aAload_n (pc' := 70) dX10_gives_69 rfl rfl ?_
    refine aIload_n (pc' := 71) dX10_gives_70 rfl rfl ?_
    refine aIconst (pc' := 72) ⟨by decide, by decide⟩ dX10_gives_71 rfl ?_
    refine aIload_n (pc' := 73) dX10_gives_72 rfl rfl ?_
    refine cVV (c := 10) (pc' := 76) [aI ((p : Int)), aI 3, aI n] dX10_gives_73 lX10_215 okX10_tells ⟨by decide, by decide⟩ npX10_tells rfl rfl rfl rfl rfl (by decide) rfl (cMetV_mono hw (fun J9 hw => ?_))
    obtain ⟨S8, rfl, hw⟩ := hw
    exact cVret dX10_gives_76 okX10_gives rfl ⟨rfl, rfl, _, rfl, hw⟩
  · have hw := hw.2 hc
    refine aAload_n (pc' := 27) dX10_gives_26 rfl rfl ?_
    refine aIload_n (pc' := 28) dX10_gives_27 rfl rfl ?_
    refine cVI (c := 10) (pc' := 31) [aI ((p : Int))] dX10_gives_28 lX10_225 okX10_collects ⟨by decide, by decide⟩ npX10_collects rfl rfl rfl rfl rfl (by decide) rfl (cMetI_mono hw (fun x10 J12 hw => ?_))
    obtain ⟨S11, rfl, hw⟩ := hw
    refine aIstore_n (pc' := 32) dX10_gives_31 (by decide) rfl (L' := [some (aO 40 0), some (aI ((p : Int))), some (aI n), some (aI x10)]) rfl ?_
    refine aAload_n (pc' := 33) dX10_gives_32 rfl rfl ?_
    refine aGetR (pc' := 36) (q := (68, 0)) dX10_gives_33 fX10_66 rfl rfl (lv (by decide)) rfl rfl ?_
    refine aIload_n (pc' := 37) dX10_gives_36 rfl rfl ?_
    refine aIald (pc' := 38) (j := p) dX10_gives_37 rfl (lv (by decide)) rfl h1 rfl ?_
    refine aTopEq (y := (S11 28 p)) rfl ?_
    refine aIconst (pc' := 39) ⟨by decide, by decide⟩ dX10_gives_38 rfl ?_
    refine aIcmp_eq (tgt := 59) (pc' := 42) dX10_gives_39 (by decide) rfl (fun hc => ?_) (fun hc => ?_)
    · have hw := hw.1 hc
      refine aAload_n (pc' := 60) dX10_gives_59 rfl rfl ?_
      refine aGetR (pc' := 63) (q := (69, 0)) dX10_gives_60 fX10_69 rfl rfl (lv (by decide)) rfl rfl ?_
      refine aIload_n (pc' := 64) dX10_gives_63 rfl rfl ?_
      refine aDup2 (pc' := 65) rfl rfl dX10_gives_64 rfl ?_
      refine aIald (pc' := 66) (j := p) dX10_gives_65 rfl (lv (by decide)) rfl h1 rfl ?_
      refine aTopEq (y := (S11 29 p)) rfl ?_
      refine aIload_n (pc' := 67) dX10_gives_66 rfl rfl ?_
      obtain ⟨h13, hw⟩ := hw
      refine aIsub (pc' := 68) h13.1 h13.2 dX10_gives_67 rfl ?_
      refine aIast (pc' := 69) (j := p) dX10_gives_68 rfl (lv (by decide)) rfl h1 rfl (cEqI (mA (f := 29) rfl rfl rfl) ?_)
      refine aAload_n (pc' := 70) dX10_gives_69 rfl rfl ?_
      refine aIload_n (pc' := 71) dX10_gives_70 rfl rfl ?_
      refine aIconst (pc' := 72) ⟨by decide, by decide⟩ dX10_gives_71 rfl ?_
      refine aIload_n (pc' := 73) dX10_gives_72 rfl rfl ?_
      refine cVV (c := 10) (pc' := 76) [aI ((p : Int)), aI 3, aI n] dX10_gives_73 lX10_215 okX10_tells ⟨by decide, by decide⟩ npX10_tells rfl rfl rfl rfl rfl (by decide) rfl (cMetV_mono hw (fun J16 hw => ?_))
      obtain ⟨S15, rfl, hw⟩ := hw
      exact cVret dX10_gives_76 okX10_gives rfl ⟨rfl, rfl, _, rfl, hw⟩
    · have hw := hw.2 hc
      refine aAload_n (pc' := 43) dX10_gives_42 rfl rfl ?_
      refine aGetR (pc' := 46) (q := (68, 0)) dX10_gives_43 fX10_66 rfl rfl (lv (by decide)) rfl rfl ?_
      refine aIload_n (pc' := 47) dX10_gives_46 rfl rfl ?_
      refine aIconst (pc' := 48) ⟨by decide, by decide⟩ dX10_gives_47 rfl ?_
      refine aIast (pc' := 49) (j := p) dX10_gives_48 rfl (lv (by decide)) rfl h1 rfl (cEqI (mA (f := 28) rfl rfl rfl) ?_)
      refine aAload_n (pc' := 50) dX10_gives_49 rfl rfl ?_
      refine aGetR (pc' := 53) (q := (77, 0)) dX10_gives_50 fX10_93 rfl rfl (lv (by decide)) rfl rfl ?_
      refine aIload_n (pc' := 54) dX10_gives_53 rfl rfl ?_
      refine aDup2 (pc' := 55) rfl rfl dX10_gives_54 rfl ?_
      refine aIald (pc' := 56) (j := p) dX10_gives_55 rfl (lv (by decide)) rfl h1 rfl ?_
      refine aTopEq (y := ((sU S11 28 p 1) 37 p)) rfl ?_
      refine aTopEq (sU_f rfl) ?_
      refine aIload_n (pc' := 57) dX10_gives_56 rfl rfl ?_
      obtain ⟨h17, hw⟩ := hw
      refine aIadd (pc' := 58) h17.1 h17.2 dX10_gives_57 rfl ?_
      refine aIast (pc' := 59) (j := p) dX10_gives_58 rfl (lv (by decide)) rfl h1 rfl (cEqI (mA (f := 37) rfl rfl rfl) ?_)
      refine aAload_n (pc' := 60) dX10_gives_59 rfl rfl ?_
      refine aGetR (pc' := 63) (q := (69, 0)) dX10_gives_60 fX10_69 rfl rfl (lv (by decide)) rfl rfl ?_
      refine aIload_n (pc' := 64) dX10_gives_63 rfl rfl ?_
      refine aDup2 (pc' := 65) rfl rfl dX10_gives_64 rfl ?_
      refine aIald (pc' := 66) (j := p) dX10_gives_65 rfl (lv (by decide)) rfl h1 rfl ?_
      refine aTopEq (y := ((sU (sU S11 28 p 1) 37 p (((S11 37 p) + x10))) 29 p)) rfl ?_
      refine aTopEq ((sU_f rfl).trans (sU_f rfl)) ?_
      refine aIload_n (pc' := 67) dX10_gives_66 rfl rfl ?_
      obtain ⟨h18, hw⟩ := hw
      refine aIsub (pc' := 68) h18.1 h18.2 dX10_gives_67 rfl ?_
      refine aIast (pc' := 69) (j := p) dX10_gives_68 rfl (lv (by decide)) rfl h1 rfl (cEqI (mA (f := 29) rfl rfl rfl) ?_)
      refine aAload_n (pc' := 70) dX10_gives_69 rfl rfl ?_
      refine aIload_n (pc' := 71) dX10_gives_70 rfl rfl ?_
      refine aIconst (pc' := 72) ⟨by decide, by decide⟩ dX10_gives_71 rfl ?_
      refine aIload_n (pc' := 73) dX10_gives_72 rfl rfl ?_
      refine cVV (c := 10) (pc' := 76) [aI ((p : Int)), aI 3, aI n] dX10_gives_73 lX10_215 okX10_tells ⟨by decide, by decide⟩ npX10_tells rfl rfl rfl rfl rfl (by decide) rfl (cMetV_mono hw (fun J21 hw => ?_))
      obtain ⟨S20, rfl, hw⟩ := hw
      exact cVret dX10_gives_76 okX10_gives rfl ⟨rfl, rfl, _, rfl, hw⟩
set_option maxRecDepth 100000 in
set_option maxHeartbeats 4000000 in
theorem gX10_holds {w : aW} {mm : Nat} {C : aIF} {S : aS} {p1 : Int} {p2 : Int} {P : Int → aS → Prop} (hw : ((p1 ≠ 0) → P p2 S) ∧ ((p1 = 0) → (0 ≤ p2) ∧ (P (p2 / 2) S))) : rMetI w mX10_holds [aI p1, aI p2] C S (rf mm) P := by
  refine cMet_of okX10_holds (Nat.le_of_ble_eq_true rfl) (fun hos => ?_)
  show cRun w mX10_holds 0 [some (aI p1), some (aI p2)] [] (mem C S) (rf mm) (rqI (rf mm) C P)
  refine aIload_n (pc' := 1) dX10_holds_0 rfl rfl ?_
  refine aIf_ne (tgt := 10) (pc' := 4) dX10_holds_1 (by decide) rfl (fun hc => ?_) (fun hc => ?_)
  · have hw := hw.1 hc
    refine aIload_n (pc' := 11) dX10_holds_10 rfl rfl ?_
    exact cIret dX10_holds_11 okX10_holds rfl ⟨rfl, _, rfl, _, rfl, hw⟩
  · have hw := hw.2 hc
    refine aIload_n (pc' := 5) dX10_holds_4 rfl rfl ?_
    refine aIconst (pc' := 6) ⟨by decide, by decide⟩ dX10_holds_5 rfl ?_
    obtain ⟨h1, hw⟩ := hw
    refine aIdiv (pc' := 7) h1 (by decide) dX10_holds_6 rfl ?_
    refine aGoto (pc' := 11) dX10_holds_7 (by decide) ?_
    exact cIret dX10_holds_11 okX10_holds rfl ⟨rfl, _, rfl, _, rfl, hw⟩
set_option maxRecDepth 100000 in
set_option maxHeartbeats 4000000 in
theorem gX10_in {w : aW} {mm : Nat} {C : aIF} {S : aS} {p1 : Int} {p2 : Int} {p3 : Int} {P : Int → aS → Prop} (hw : ((p1 < p2) → P 0 S) ∧ ((¬ (p1 < p2)) → ((p3 < p1) → P 0 S) ∧ ((¬ (p3 < p1)) → P 1 S))) : rMetI w mX10_in [aI p1, aI p2, aI p3] C S (rf mm) P := by
  refine cMet_of okX10_in (Nat.le_of_ble_eq_true rfl) (fun hos => ?_)
  show cRun w mX10_in 0 [some (aI p1), some (aI p2), some (aI p3)] [] (mem C S) (rf mm) (rqI (rf mm) C P)
  refine aIload_n (pc' := 1) dX10_in_0 rfl rfl ?_
  refine aIload_n (pc' := 2) dX10_in_1 rfl rfl ?_
  refine aIcmp_lt (tgt := 14) (pc' := 5) dX10_in_2 (by decide) rfl (fun hc => ?_) (fun hc => ?_)
  · have hw := hw.1 hc
    refine aIconst (pc' := 15) ⟨by decide, by decide⟩ dX10_in_14 rfl ?_
    exact cZret dX10_in_15 okX10_in rfl (by decide) ⟨rfl, _, rfl, _, rfl, hw⟩
  · have hw := hw.2 hc
    refine aIload_n (pc' := 6) dX10_in_5 rfl rfl ?_
    refine aIload_n (pc' := 7) dX10_in_6 rfl rfl ?_
    refine aIcmp_gt (tgt := 14) (pc' := 10) dX10_in_7 (by decide) rfl (fun hc => ?_) (fun hc => ?_)
    · have hw := hw.1 hc
      refine aIconst (pc' := 15) ⟨by decide, by decide⟩ dX10_in_14 rfl ?_
      exact cZret dX10_in_15 okX10_in rfl (by decide) ⟨rfl, _, rfl, _, rfl, hw⟩
    · have hw := hw.2 hc
      refine aIconst (pc' := 11) ⟨by decide, by decide⟩ dX10_in_10 rfl ?_
      refine aGoto (pc' := 15) dX10_in_11 (by decide) ?_
      exact cZret dX10_in_15 okX10_in rfl (by decide) ⟨rfl, _, rfl, _, rfl, hw⟩
set_option maxRecDepth 100000 in
set_option maxHeartbeats 4000000 in
theorem gX10_isAny {w : aW} {mm : Nat} {C : aIF} {S : aS} {P : Int → aS → Prop} (hw : rRunI w mX10_isAny 2 [some (aO 40 0), some (aI 0)] [] C S (rf mm) P) : rMetI w mX10_isAny [aO 40 0] C S (rf mm) P := by
  refine cMet_of okX10_isAny (Nat.le_of_ble_eq_true rfl) (fun hos => ?_)
  show cRun w mX10_isAny 0 [some (aO 40 0), none] [] (mem C S) (rf mm) (rqI (rf mm) C P)
  refine aIconst (pc' := 1) ⟨by decide, by decide⟩ dX10_isAny_0 rfl ?_
  refine aIstore_n (pc' := 2) dX10_isAny_1 (by decide) rfl (L' := [some (aO 40 0), some (aI 0)]) rfl ?_
  exact hw
set_option maxRecDepth 100000 in
set_option maxHeartbeats 4000000 in
theorem gX10_isAny_2 {w : aW} {mm : Nat} {C : aIF} {S : aS} {l1 : Nat} {P : Int → aS → Prop} (hw : (((S 23 0) ≤ (l1 : Int)) → P 0 S) ∧ ((¬ ((S 23 0) ≤ (l1 : Int))) → rMetI w mX10_isThere [aO 40 0, aI ((l1 : Int))] C S (rf mm) (fun x1 S2 => ((x1 = 0) → (l1 + 1 < 2147483648) ∧ (rRunI w mX10_isAny 2 [some (aO 40 0), some (aI ((((l1 + 1) : Nat) : Int)))] [] C S2 (rf mm) P)) ∧ ((¬ (x1 = 0)) → P 1 S2)))) : rRunI w mX10_isAny 2 [some (aO 40 0), some (aI ((l1 : Int)))] [] C S (rf mm) P := by
  refine aIload_n (pc' := 3) dX10_isAny_2 rfl rfl ?_
  refine aAload_n (pc' := 4) dX10_isAny_3 rfl rfl ?_
  refine aGetI (pc' := 7) dX10_isAny_4 fX10_157 rfl rfl (lv (by decide)) rfl ?_
  refine aTopEq (y := (S 23 0)) rfl ?_
  refine aIcmp_ge (tgt := 26) (pc' := 10) dX10_isAny_7 (by decide) rfl (fun hc => ?_) (fun hc => ?_)
  · have hw := hw.1 hc
    refine aIconst (pc' := 27) ⟨by decide, by decide⟩ dX10_isAny_26 rfl ?_
    exact cZret dX10_isAny_27 okX10_isAny rfl (by decide) ⟨rfl, _, rfl, _, rfl, hw⟩
  · have hw := hw.2 hc
    refine aAload_n (pc' := 11) dX10_isAny_10 rfl rfl ?_
    refine aIload_n (pc' := 12) dX10_isAny_11 rfl rfl ?_
    refine cVI (c := 10) (pc' := 15) [aI ((l1 : Int))] dX10_isAny_12 lX10_219 okX10_isThere ⟨by decide, by decide⟩ npX10_isThere rfl rfl rfl rfl rfl (by decide) rfl (cMetI_mono hw (fun x1 J3 hw => ?_))
    obtain ⟨S2, rfl, hw⟩ := hw
    refine aIf_eq (tgt := 20) (pc' := 18) dX10_isAny_15 (by decide) rfl (fun hc => ?_) (fun hc => ?_)
    · have hw := hw.1 hc
      obtain ⟨h4, hw⟩ := hw
      refine aIinc1 (pc' := 23) dX10_isAny_20 rfl (by decide) h4 rfl (L' := [some (aO 40 0), some (aI ((((l1 + 1) : Nat) : Int)))]) rfl ?_
      refine aGoto (pc' := 2) dX10_isAny_23 (by decide) ?_
      exact hw
    · have hw := hw.2 hc
      refine aIconst (pc' := 19) ⟨by decide, by decide⟩ dX10_isAny_18 rfl ?_
      exact cZret dX10_isAny_19 okX10_isAny rfl (by decide) ⟨rfl, _, rfl, _, rfl, hw⟩
set_option maxRecDepth 100000 in
set_option maxHeartbeats 4000000 in
theorem gX10_isOver {w : aW} {mm : Nat} {C : aIF} {S : aS} {p : Nat} {a1 : Int} {P : aS → Prop} (hw : (p < 6) ∧ ((-2147483648 ≤ ((S 25 0) + (S 29 p)) ∧ ((S 25 0) + (S 29 p)) < 2147483648) ∧ (((a1 ≠ 3) → rMetV w mX10_tells [aO 40 0, aI ((p : Int)), aI 2, aI ((S 29 p))] C (sU (sU (sU (sU (sU (sU (sU S 28 p a1) 38 p ((S 24 0))) 37 p 0) 25 0 (((S 25 0) + (S 29 p)))) 29 p 0) 30 p 0) 31 p 0) (rf mm) (fun S4 => P S4)) ∧ ((a1 = 3) → rMetV w mX10_tells [aO 40 0, aI ((p : Int)), aI 6, aI ((S 29 p))] C (sU (sU (sU (sU (sU (sU (sU S 28 p a1) 38 p ((S 24 0))) 37 p 0) 25 0 (((S 25 0) + (S 29 p)))) 29 p 0) 30 p 0) 31 p 0) (rf mm) (fun S7 => P S7))))) : rMetV w mX10_isOver [aO 40 0, aI ((p : Int)), aI a1] C S (rf mm) P := by
  refine cMet_of okX10_isOver (Nat.le_of_ble_eq_true rfl) (fun hos => ?_)
  show cRun w mX10_isOver 0 [some (aO 40 0), some (aI ((p : Int))), some (aI a1), none] [] (mem C S) (rf mm) (rqV (rf mm) C P)
  refine aAload_n (pc' := 1) dX10_isOver_0 rfl rfl ?_
  refine aGetR (pc' := 4) (q := (68, 0)) dX10_isOver_1 fX10_66 rfl rfl (lv (by decide)) rfl rfl ?_
  refine aIload_n (pc' := 5) dX10_isOver_4 rfl rfl ?_
  refine aIload_n (pc' := 6) dX10_isOver_5 rfl rfl ?_
  obtain ⟨h1, hw⟩ := hw
  refine aIast (pc' := 7) (j := p) dX10_isOver_6 rfl (lv (by decide)) rfl h1 rfl (cEqI (mA (f := 28) rfl rfl rfl) ?_)
  refine aAload_n (pc' := 8) dX10_isOver_7 rfl rfl ?_
  refine aGetR (pc' := 11) (q := (78, 0)) dX10_isOver_8 fX10_96 rfl rfl (lv (by decide)) rfl rfl ?_
  refine aIload_n (pc' := 12) dX10_isOver_11 rfl rfl ?_
  refine aAload_n (pc' := 13) dX10_isOver_12 rfl rfl ?_
  refine aGetI (pc' := 16) dX10_isOver_13 fX10_203 rfl rfl (lv (by decide)) rfl ?_
  refine aTopEq (y := ((sU S 28 p a1) 24 0)) rfl ?_
  refine aTopEq (sU_f rfl) ?_
  refine aIast (pc' := 17) (j := p) dX10_isOver_16 rfl (lv (by decide)) rfl h1 rfl (cEqI (mA (f := 38) rfl rfl rfl) ?_)
  refine aAload_n (pc' := 18) dX10_isOver_17 rfl rfl ?_
  refine aGetR (pc' := 21) (q := (77, 0)) dX10_isOver_18 fX10_93 rfl rfl (lv (by decide)) rfl rfl ?_
  refine aIload_n (pc' := 22) dX10_isOver_21 rfl rfl ?_
  refine aIconst (pc' := 23) ⟨by decide, by decide⟩ dX10_isOver_22 rfl ?_
  refine aIast (pc' := 24) (j := p) dX10_isOver_23 rfl (lv (by decide)) rfl h1 rfl (cEqI (mA (f := 37) rfl rfl rfl) ?_)
  refine aAload_n (pc' := 25) dX10_isOver_24 rfl rfl ?_
  refine aGetR (pc' := 28) (q := (69, 0)) dX10_isOver_25 fX10_69 rfl rfl (lv (by decide)) rfl rfl ?_
  refine aIload_n (pc' := 29) dX10_isOver_28 rfl rfl ?_
  refine aIald (pc' := 30) (j := p) dX10_isOver_29 rfl (lv (by decide)) rfl h1 rfl ?_
  refine aTopEq (y := ((sU (sU (sU S 28 p a1) 38 p ((S 24 0))) 37 p 0) 29 p)) rfl ?_
  refine aTopEq (((sU_f rfl).trans (sU_f rfl)).trans (sU_f rfl)) ?_
  refine aIstore_n (pc' := 31) dX10_isOver_30 (by decide) rfl (L' := [some (aO 40 0), some (aI ((p : Int))), some (aI a1), some (aI ((S 29 p)))]) rfl ?_
  refine aAload_n (pc' := 32) dX10_isOver_31 rfl rfl ?_
  refine aDup (pc' := 33) rfl dX10_isOver_32 rfl ?_
  refine aGetI (pc' := 36) dX10_isOver_33 fX10_206 rfl rfl (lv (by decide)) rfl ?_
  refine aTopEq (y := ((sU (sU (sU S 28 p a1) 38 p ((S 24 0))) 37 p 0) 25 0)) rfl ?_
  refine aTopEq (((sU_f rfl).trans (sU_f rfl)).trans (sU_f rfl)) ?_
  refine aIload_n (pc' := 37) dX10_isOver_36 rfl rfl ?_
  obtain ⟨h2, hw⟩ := hw
  refine aIadd (pc' := 38) h2.1 h2.2 dX10_isOver_37 rfl ?_
  refine aPutI (pc' := 41) dX10_isOver_38 fX10_206 rfl rfl (Or.inl rfl) (lv (by decide)) rfl (cEqI (mS (f := 25) rfl) ?_)
  refine aAload_n (pc' := 42) dX10_isOver_41 rfl rfl ?_
  refine aGetR (pc' := 45) (q := (69, 0)) dX10_isOver_42 fX10_69 rfl rfl (lv (by decide)) rfl rfl ?_
  refine aIload_n (pc' := 46) dX10_isOver_45 rfl rfl ?_
  refine aIconst (pc' := 47) ⟨by decide, by decide⟩ dX10_isOver_46 rfl ?_
  refine aIast (pc' := 48) (j := p) dX10_isOver_47 rfl (lv (by decide)) rfl h1 rfl (cEqI (mA (f := 29) rfl rfl rfl) ?_)
  refine aAload_n (pc' := 49) dX10_isOver_48 rfl rfl ?_
  refine aGetR (pc' := 52) (q := (70, 0)) dX10_isOver_49 fX10_72 rfl rfl (lv (by decide)) rfl rfl ?_
  refine aIload_n (pc' := 53) dX10_isOver_52 rfl rfl ?_
  refine aIconst (pc' := 54) ⟨by decide, by decide⟩ dX10_isOver_53 rfl ?_
  refine aIast (pc' := 55) (j := p) dX10_isOver_54 rfl (lv (by decide)) rfl h1 rfl (cEqI (mA (f := 30) rfl rfl rfl) ?_)
  refine aAload_n (pc' := 56) dX10_isOver_55 rfl rfl ?_
  refine aGetR (pc' := 59) (q := (71, 0)) dX10_isOver_56 fX10_75 rfl rfl (lv (by decide)) rfl rfl ?_
  refine aIload_n (pc' := 60) dX10_isOver_59 rfl rfl ?_
  refine aIconst (pc' := 61) ⟨by decide, by decide⟩ dX10_isOver_60 rfl ?_
  refine aIast (pc' := 62) (j := p) dX10_isOver_61 rfl (lv (by decide)) rfl h1 rfl (cEqI (mA (f := 31) rfl rfl rfl) ?_)
  refine aAload_n (pc' := 63) dX10_isOver_62 rfl rfl ?_
  refine aIload_n (pc' := 64) dX10_isOver_63 rfl rfl ?_
  refine aIload_n (pc' := 65) dX10_isOver_64 rfl rfl ?_
  refine aIconst (pc' := 66) ⟨by decide, by decide⟩ dX10_isOver_65 rfl ?_
  refine aIcmp_ne (tgt := 74) (pc' := 69) dX10_isOver_66 (by decide) rfl (fun hc => ?_) (fun hc => ?_)
  · have hw := hw.1 hc
    refine aIconst (pc' := 75) ⟨by decide, by decide⟩ dX10_isOver_74 rfl ?_
    refine aIload_n (pc' := 76) dX10_isOver_75 rfl rfl ?_
    refine cVV (c := 10) (pc' := 79) [aI ((p : Int)), aI 2, aI ((S 29 p))] dX10_isOver_76 lX10_215 okX10_tells ⟨by decide, by decide⟩ npX10_tells rfl rfl rfl rfl rfl (by decide) rfl (cMetV_mono hw (fun J5 hw => ?_))
    obtain ⟨S4, rfl, hw⟩ := hw
    exact cVret dX10_isOver_79 okX10_isOver rfl ⟨rfl, rfl, _, rfl, hw⟩
  · have hw := hw.2 hc
    refine aBipush (pc' := 71) ⟨by decide, by decide⟩ dX10_isOver_69 rfl ?_
    refine aGoto (pc' := 75) dX10_isOver_71 (by decide) ?_
    refine aIload_n (pc' := 76) dX10_isOver_75 rfl rfl ?_
    refine cVV (c := 10) (pc' := 79) [aI ((p : Int)), aI 6, aI ((S 29 p))] dX10_isOver_76 lX10_215 okX10_tells ⟨by decide, by decide⟩ npX10_tells rfl rfl rfl rfl rfl (by decide) rfl (cMetV_mono hw (fun J8 hw => ?_))
    obtain ⟨S7, rfl, hw⟩ := hw
    exact cVret dX10_isOver_79 okX10_isOver rfl ⟨rfl, rfl, _, rfl, hw⟩
set_option maxRecDepth 100000 in
set_option maxHeartbeats 4000000 in
theorem gX10_isProgram {w : aW} {mm : Nat} {C : aIF} {S : aS} {p1 : Int} {P : Int → aS → Prop} (hw : (-2147483648 ≤ ((S 10 0) - 1) ∧ ((S 10 0) - 1) < 2147483648) ∧ (rMetI w mX10_in [aI p1, aI 0, aI (((S 10 0) - 1))] C S (rf mm) (fun x2 S3 => (x2 = 0 ∨ x2 = 1) ∧ (P x2 S3)))) : rMetI w mX10_isProgram [aO 40 0, aI p1] C S (rf mm) P := by
  refine cMet_of okX10_isProgram (Nat.le_of_ble_eq_true rfl) (fun hos => ?_)
  show cRun w mX10_isProgram 0 [some (aO 40 0), some (aI p1)] [] (mem C S) (rf mm) (rqI (rf mm) C P)
  refine aIload_n (pc' := 1) dX10_isProgram_0 rfl rfl ?_
  refine aIconst (pc' := 2) ⟨by decide, by decide⟩ dX10_isProgram_1 rfl ?_
  refine aAload_n (pc' := 3) dX10_isProgram_2 rfl rfl ?_
  refine aGetI (pc' := 6) dX10_isProgram_3 fX10_146 rfl rfl (lv (by decide)) rfl ?_
  refine aTopEq (y := (S 10 0)) rfl ?_
  refine aIconst (pc' := 7) ⟨by decide, by decide⟩ dX10_isProgram_6 rfl ?_
  obtain ⟨h1, hw⟩ := hw
  refine aIsub (pc' := 8) h1.1 h1.2 dX10_isProgram_7 rfl ?_
  refine cSI (pc' := 11) [aI p1, aI 0, aI (((S 10 0) - 1))] dX10_isProgram_8 lX10_124 okX10_in ⟨by decide, by decide⟩ npX10_in rfl rfl rfl (cMetI_mono hw (fun x2 J4 hw => ?_))
  obtain ⟨S3, rfl, hw⟩ := hw
  exact cZret dX10_isProgram_11 okX10_isProgram rfl hw.1 ⟨rfl, _, rfl, _, rfl, hw.2⟩
set_option maxRecDepth 100000 in
set_option maxHeartbeats 4000000 in
theorem gX10_isSlot {w : aW} {mm : Nat} {C : aIF} {S : aS} {p1 : Int} {P : Int → aS → Prop} (hw : rMetI w mX10_in [aI p1, aI 0, aI 3] C S (rf mm) (fun x1 S2 => (x1 = 0 ∨ x1 = 1) ∧ (P x1 S2))) : rMetI w mX10_isSlot [aI p1] C S (rf mm) P := by
  refine cMet_of okX10_isSlot (Nat.le_of_ble_eq_true rfl) (fun hos => ?_)
  show cRun w mX10_isSlot 0 [some (aI p1)] [] (mem C S) (rf mm) (rqI (rf mm) C P)
  refine aIload_n (pc' := 1) dX10_isSlot_0 rfl rfl ?_
  refine aIconst (pc' := 2) ⟨by decide, by decide⟩ dX10_isSlot_1 rfl ?_
  refine aIconst (pc' := 3) ⟨by decide, by decide⟩ dX10_isSlot_2 rfl ?_
  refine cSI (pc' := 6) [aI p1, aI 0, aI 3] dX10_isSlot_3 lX10_124 okX10_in ⟨by decide, by decide⟩ npX10_in rfl rfl rfl (cMetI_mono hw (fun x1 J3 hw => ?_))
  obtain ⟨S2, rfl, hw⟩ := hw
  exact cZret dX10_isSlot_6 okX10_isSlot rfl hw.1 ⟨rfl, _, rfl, _, rfl, hw.2⟩
set_option maxRecDepth 100000 in
set_option maxHeartbeats 4000000 in
theorem gX10_isThere {w : aW} {mm : Nat} {C : aIF} {S : aS} {p : Nat} {P : Int → aS → Prop} (hw : (p < 6) ∧ (((3 ≤ (S 28 p)) → P 0 S) ∧ ((¬ (3 ≤ (S 28 p))) → P 1 S))) : rMetI w mX10_isThere [aO 40 0, aI ((p : Int))] C S (rf mm) P := by
  refine cMet_of okX10_isThere (Nat.le_of_ble_eq_true rfl) (fun hos => ?_)
  show cRun w mX10_isThere 0 [some (aO 40 0), some (aI ((p : Int)))] [] (mem C S) (rf mm) (rqI (rf mm) C P)
  refine aAload_n (pc' := 1) dX10_isThere_0 rfl rfl ?_
  refine aGetR (pc' := 4) (q := (68, 0)) dX10_isThere_1 fX10_66 rfl rfl (lv (by decide)) rfl rfl ?_
  refine aIload_n (pc' := 5) dX10_isThere_4 rfl rfl ?_
  obtain ⟨h1, hw⟩ := hw
  refine aIald (pc' := 6) (j := p) dX10_isThere_5 rfl (lv (by decide)) rfl h1 rfl ?_
  refine aTopEq (y := (S 28 p)) rfl ?_
  refine aIconst (pc' := 7) ⟨by decide, by decide⟩ dX10_isThere_6 rfl ?_
  refine aIcmp_ge (tgt := 14) (pc' := 10) dX10_isThere_7 (by decide) rfl (fun hc => ?_) (fun hc => ?_)
  · have hw := hw.1 hc
    refine aIconst (pc' := 15) ⟨by decide, by decide⟩ dX10_isThere_14 rfl ?_
    exact cZret dX10_isThere_15 okX10_isThere rfl (by decide) ⟨rfl, _, rfl, _, rfl, hw⟩
  · have hw := hw.2 hc
    refine aIconst (pc' := 11) ⟨by decide, by decide⟩ dX10_isThere_10 rfl ?_
    refine aGoto (pc' := 15) dX10_isThere_11 (by decide) ?_
    exact cZret dX10_isThere_15 okX10_isThere rfl (by decide) ⟨rfl, _, rfl, _, rfl, hw⟩
set_option maxRecDepth 100000 in
set_option maxHeartbeats 4000000 in
theorem gX10_isUp {w : aW} {mm : Nat} {C : aIF} {S : aS} {p : Nat} {P : Int → aS → Prop} (hw : (p < 6) ∧ ((((S 28 p) = 0) → P 1 S) ∧ ((¬ ((S 28 p) = 0)) → (((S 28 p) ≠ 1) → P 0 S) ∧ (((S 28 p) = 1) → P 1 S)))) : rMetI w mX10_isUp [aO 40 0, aI ((p : Int))] C S (rf mm) P := by
  refine cMet_of okX10_isUp (Nat.le_of_ble_eq_true rfl) (fun hos => ?_)
  show cRun w mX10_isUp 0 [some (aO 40 0), some (aI ((p : Int)))] [] (mem C S) (rf mm) (rqI (rf mm) C P)
  refine aAload_n (pc' := 1) dX10_isUp_0 rfl rfl ?_
  refine aGetR (pc' := 4) (q := (68, 0)) dX10_isUp_1 fX10_66 rfl rfl (lv (by decide)) rfl rfl ?_
  refine aIload_n (pc' := 5) dX10_isUp_4 rfl rfl ?_
  obtain ⟨h1, hw⟩ := hw
  refine aIald (pc' := 6) (j := p) dX10_isUp_5 rfl (lv (by decide)) rfl h1 rfl ?_
  refine aTopEq (y := (S 28 p)) rfl ?_
  refine aIf_eq (tgt := 19) (pc' := 9) dX10_isUp_6 (by decide) rfl (fun hc => ?_) (fun hc => ?_)
  · have hw := hw.1 hc
    refine aIconst (pc' := 20) ⟨by decide, by decide⟩ dX10_isUp_19 rfl ?_
    refine aGoto (pc' := 24) dX10_isUp_20 (by decide) ?_
    exact cZret dX10_isUp_24 okX10_isUp rfl (by decide) ⟨rfl, _, rfl, _, rfl, hw⟩
  · have hw := hw.2 hc
    refine aAload_n (pc' := 10) dX10_isUp_9 rfl rfl ?_
    refine aGetR (pc' := 13) (q := (68, 0)) dX10_isUp_10 fX10_66 rfl rfl (lv (by decide)) rfl rfl ?_
    refine aIload_n (pc' := 14) dX10_isUp_13 rfl rfl ?_
    refine aIald (pc' := 15) (j := p) dX10_isUp_14 rfl (lv (by decide)) rfl h1 rfl ?_
    refine aTopEq (y := (S 28 p)) rfl ?_
    refine aIconst (pc' := 16) ⟨by decide, by decide⟩ dX10_isUp_15 rfl ?_
    refine aIcmp_ne (tgt := 23) (pc' := 19) dX10_isUp_16 (by decide) rfl (fun hc => ?_) (fun hc => ?_)
    · have hw := hw.1 hc
      refine aIconst (pc' := 24) ⟨by decide, by decide⟩ dX10_isUp_23 rfl ?_
      exact cZret dX10_isUp_24 okX10_isUp rfl (by decide) ⟨rfl, _, rfl, _, rfl, hw⟩
    · have hw := hw.2 hc
      refine aIconst (pc' := 20) ⟨by decide, by decide⟩ dX10_isUp_19 rfl ?_
      refine aGoto (pc' := 24) dX10_isUp_20 (by decide) ?_
      exact cZret dX10_isUp_24 okX10_isUp rfl (by decide) ⟨rfl, _, rfl, _, rfl, hw⟩
set_option maxRecDepth 100000 in
set_option maxHeartbeats 4000000 in
theorem gX10_log {w : aW} {mm : Nat} {C : aIF} {S : aS} {p1 : Int} {p2 : Int} {P : Int → aS → Prop} (hw : (-2147483648 ≤ ((S 26 0) - 1) ∧ ((S 26 0) - 1) < 2147483648) ∧ (rMetI w mX10_in [aI p1, aI 0, aI (((S 26 0) - 1))] C (sU S 0 0 0) (rf mm) (fun x2 S3 => ((x2 = 0) → P (-2) S3) ∧ ((¬ (x2 = 0)) → rMetI w mX10_in [aI p2, aI 0, aI 3] C S3 (rf mm) (fun x5 S6 => ((x5 = 0) → P (-2) S6) ∧ ((¬ (x5 = 0)) → (-2147483648 ≤ (4 * p1) ∧ (4 * p1) < 2147483648) ∧ ((-2147483648 ≤ ((4 * p1) + p2) ∧ ((4 * p1) + p2) < 2147483648) ∧ ((0 ≤ ((4 * p1) + p2) ∧ ((4 * p1) + p2) < ((240 : Nat) : Int)) ∧ (P (S6 45 ((((4 * p1) + p2)).toNat)) S6))))))))) : rMetI w mX10_log [aO 40 0, aI p1, aI p2] C S (rf mm) P := by
  refine cMet_of okX10_log (Nat.le_of_ble_eq_true rfl) (fun hos => ?_)
  show cRun w mX10_log 0 [some (aO 40 0), some (aI p1), some (aI p2)] [] (mem C S) (rf mm) (rqI (rf mm) C P)
  refine aAload_n (pc' := 1) dX10_log_0 rfl rfl ?_
  refine aIconst (pc' := 2) ⟨by decide, by decide⟩ dX10_log_1 rfl ?_
  refine aPutI (pc' := 5) dX10_log_2 fX10_121 rfl rfl (Or.inl rfl) (lv (by decide)) rfl (cEqI (mS (f := 0) rfl) ?_)
  refine aIload_n (pc' := 6) dX10_log_5 rfl rfl ?_
  refine aIconst (pc' := 7) ⟨by decide, by decide⟩ dX10_log_6 rfl ?_
  refine aAload_n (pc' := 8) dX10_log_7 rfl rfl ?_
  refine aGetI (pc' := 11) dX10_log_8 fX10_209 rfl rfl (lv (by decide)) rfl ?_
  refine aTopEq (y := ((sU S 0 0 0) 26 0)) rfl ?_
  refine aTopEq (sU_f rfl) ?_
  refine aIconst (pc' := 12) ⟨by decide, by decide⟩ dX10_log_11 rfl ?_
  obtain ⟨h1, hw⟩ := hw
  refine aIsub (pc' := 13) h1.1 h1.2 dX10_log_12 rfl ?_
  refine cSI (pc' := 16) [aI p1, aI 0, aI (((S 26 0) - 1))] dX10_log_13 lX10_124 okX10_in ⟨by decide, by decide⟩ npX10_in rfl rfl rfl (cMetI_mono hw (fun x2 J4 hw => ?_))
  obtain ⟨S3, rfl, hw⟩ := hw
  refine aIf_eq (tgt := 41) (pc' := 19) dX10_log_16 (by decide) rfl (fun hc => ?_) (fun hc => ?_)
  · have hw := hw.1 hc
    refine aBipush (pc' := 43) ⟨by decide, by decide⟩ dX10_log_41 rfl ?_
    exact cIret dX10_log_43 okX10_log rfl ⟨rfl, _, rfl, _, rfl, hw⟩
  · have hw := hw.2 hc
    refine aIload_n (pc' := 20) dX10_log_19 rfl rfl ?_
    refine aIconst (pc' := 21) ⟨by decide, by decide⟩ dX10_log_20 rfl ?_
    refine aIconst (pc' := 22) ⟨by decide, by decide⟩ dX10_log_21 rfl ?_
    refine cSI (pc' := 25) [aI p2, aI 0, aI 3] dX10_log_22 lX10_124 okX10_in ⟨by decide, by decide⟩ npX10_in rfl rfl rfl (cMetI_mono hw (fun x5 J7 hw => ?_))
    obtain ⟨S6, rfl, hw⟩ := hw
    refine aIf_eq (tgt := 41) (pc' := 28) dX10_log_25 (by decide) rfl (fun hc => ?_) (fun hc => ?_)
    · have hw := hw.1 hc
      refine aBipush (pc' := 43) ⟨by decide, by decide⟩ dX10_log_41 rfl ?_
      exact cIret dX10_log_43 okX10_log rfl ⟨rfl, _, rfl, _, rfl, hw⟩
    · have hw := hw.2 hc
      refine aAload_n (pc' := 29) dX10_log_28 rfl rfl ?_
      refine aGetR (pc' := 32) (q := (85, 0)) dX10_log_29 fX10_118 rfl rfl (lv (by decide)) rfl rfl ?_
      refine aIconst (pc' := 33) ⟨by decide, by decide⟩ dX10_log_32 rfl ?_
      refine aIload_n (pc' := 34) dX10_log_33 rfl rfl ?_
      obtain ⟨h8, hw⟩ := hw
      refine aImul (pc' := 35) h8.1 h8.2 dX10_log_34 rfl ?_
      refine aIload_n (pc' := 36) dX10_log_35 rfl rfl ?_
      obtain ⟨h9, hw⟩ := hw
      refine aIadd (pc' := 37) h9.1 h9.2 dX10_log_36 rfl ?_
      obtain ⟨h10, hw⟩ := hw
      refine aIald (pc' := 38) (j := (((4 * p1) + p2)).toNat) dX10_log_37 rfl (lv (by decide)) (tnIx h10).1 (tnIx h10).2 rfl ?_
      refine aTopEq (y := (S6 45 ((((4 * p1) + p2)).toNat))) rfl ?_
      refine aGoto (pc' := 43) dX10_log_38 (by decide) ?_
      exact cIret dX10_log_43 okX10_log rfl ⟨rfl, _, rfl, _, rfl, hw⟩
set_option maxRecDepth 100000 in
set_option maxHeartbeats 4000000 in
theorem gX10_makes {w : aW} {mm : Nat} {C : aIF} {S : aS} {p : Nat} {v : Int} {P : aS → Prop} (hw : (-2147483648 ≤ (2400 * (p : Int)) ∧ (2400 * (p : Int)) < 2147483648) ∧ ((p < 6) ∧ ((-2147483648 ≤ ((2400 * (p : Int)) + (S 34 p)) ∧ ((2400 * (p : Int)) + (S 34 p)) < 2147483648) ∧ ((0 ≤ ((2400 * (p : Int)) + (S 34 p)) ∧ ((2400 * (p : Int)) + (S 34 p)) < ((14400 : Nat) : Int)) ∧ ((-2147483648 ≤ ((S 34 p) + 1) ∧ ((S 34 p) + 1) < 2147483648) ∧ ((-2147483648 ≤ ((S 31 p) + v) ∧ ((S 31 p) + v) < 2147483648) ∧ ((-2147483648 ≤ ((S 30 p) + v) ∧ ((S 30 p) + v) < 2147483648) ∧ (rMetV w mX10_passes [aO 40 0, aI ((p : Int))] C (sU (sU (sU (sU S 44 ((((2400 * (p : Int)) + (S 34 p))).toNat) v) 34 p (((S 34 p) + 1))) 31 p (((S 31 p) + v))) 30 p (((S 30 p) + v))) (rf mm) (fun S9 => P S9))))))))) : rMetV w mX10_makes [aO 40 0, aI ((p : Int)), aI v] C S (rf mm) P := by
  refine cMet_of okX10_makes (Nat.le_of_ble_eq_true rfl) (fun hos => ?_)
  show cRun w mX10_makes 0 [some (aO 40 0), some (aI ((p : Int))), some (aI v)] [] (mem C S) (rf mm) (rqV (rf mm) C P)
  refine aAload_n (pc' := 1) dX10_makes_0 rfl rfl ?_
  refine aGetR (pc' := 4) (q := (84, 0)) dX10_makes_1 fX10_115 rfl rfl (lv (by decide)) rfl rfl ?_
  refine aSipush (pc' := 7) ⟨by decide, by decide⟩ dX10_makes_4 rfl ?_
  refine aIload_n (pc' := 8) dX10_makes_7 rfl rfl ?_
  obtain ⟨h1, hw⟩ := hw
  refine aImul (pc' := 9) h1.1 h1.2 dX10_makes_8 rfl ?_
  refine aAload_n (pc' := 10) dX10_makes_9 rfl rfl ?_
  refine aGetR (pc' := 13) (q := (74, 0)) dX10_makes_10 fX10_84 rfl rfl (lv (by decide)) rfl rfl ?_
  refine aIload_n (pc' := 14) dX10_makes_13 rfl rfl ?_
  obtain ⟨h2, hw⟩ := hw
  refine aIald (pc' := 15) (j := p) dX10_makes_14 rfl (lv (by decide)) rfl h2 rfl ?_
  refine aTopEq (y := (S 34 p)) rfl ?_
  obtain ⟨h3, hw⟩ := hw
  refine aIadd (pc' := 16) h3.1 h3.2 dX10_makes_15 rfl ?_
  refine aIload_n (pc' := 17) dX10_makes_16 rfl rfl ?_
  obtain ⟨h4, hw⟩ := hw
  refine aIast (pc' := 18) (j := (((2400 * (p : Int)) + (S 34 p))).toNat) dX10_makes_17 rfl (lv (by decide)) (tnIx h4).1 (tnIx h4).2 rfl (cEqI (mA (f := 44) rfl rfl rfl) ?_)
  refine aAload_n (pc' := 19) dX10_makes_18 rfl rfl ?_
  refine aGetR (pc' := 22) (q := (74, 0)) dX10_makes_19 fX10_84 rfl rfl (lv (by decide)) rfl rfl ?_
  refine aIload_n (pc' := 23) dX10_makes_22 rfl rfl ?_
  refine aDup2 (pc' := 24) rfl rfl dX10_makes_23 rfl ?_
  refine aIald (pc' := 25) (j := p) dX10_makes_24 rfl (lv (by decide)) rfl h2 rfl ?_
  refine aTopEq (y := ((sU S 44 ((((2400 * (p : Int)) + (S 34 p))).toNat) v) 34 p)) rfl ?_
  refine aTopEq (sU_f rfl) ?_
  refine aIconst (pc' := 26) ⟨by decide, by decide⟩ dX10_makes_25 rfl ?_
  obtain ⟨h5, hw⟩ := hw
  refine aIadd (pc' := 27) h5.1 h5.2 dX10_makes_26 rfl ?_
  refine aIast (pc' := 28) (j := p) dX10_makes_27 rfl (lv (by decide)) rfl h2 rfl (cEqI (mA (f := 34) rfl rfl rfl) ?_)
  refine aAload_n (pc' := 29) dX10_makes_28 rfl rfl ?_
  refine aGetR (pc' := 32) (q := (71, 0)) dX10_makes_29 fX10_75 rfl rfl (lv (by decide)) rfl rfl ?_
  refine aIload_n (pc' := 33) dX10_makes_32 rfl rfl ?_
  refine aDup2 (pc' := 34) rfl rfl dX10_makes_33 rfl ?_
  refine aIald (pc' := 35) (j := p) dX10_makes_34 rfl (lv (by decide)) rfl h2 rfl ?_
  refine aTopEq (y := ((sU (sU S 44 ((((2400 * (p : Int)) + (S 34 p))).toNat) v) 34 p (((S 34 p) + 1))) 31 p)) rfl ?_
  refine aTopEq ((sU_f rfl).trans (sU_f rfl)) ?_
  refine aIload_n (pc' := 36) dX10_makes_35 rfl rfl ?_
  obtain ⟨h6, hw⟩ := hw
  refine aIadd (pc' := 37) h6.1 h6.2 dX10_makes_36 rfl ?_
  refine aIast (pc' := 38) (j := p) dX10_makes_37 rfl (lv (by decide)) rfl h2 rfl (cEqI (mA (f := 31) rfl rfl rfl) ?_)
  refine aAload_n (pc' := 39) dX10_makes_38 rfl rfl ?_
  refine aGetR (pc' := 42) (q := (70, 0)) dX10_makes_39 fX10_72 rfl rfl (lv (by decide)) rfl rfl ?_
  refine aIload_n (pc' := 43) dX10_makes_42 rfl rfl ?_
  refine aDup2 (pc' := 44) rfl rfl dX10_makes_43 rfl ?_
  refine aIald (pc' := 45) (j := p) dX10_makes_44 rfl (lv (by decide)) rfl h2 rfl ?_
  refine aTopEq (y := ((sU (sU (sU S 44 ((((2400 * (p : Int)) + (S 34 p))).toNat) v) 34 p (((S 34 p) + 1))) 31 p (((S 31 p) + v))) 30 p)) rfl ?_
  refine aTopEq (((sU_f rfl).trans (sU_f rfl)).trans (sU_f rfl)) ?_
  refine aIload_n (pc' := 46) dX10_makes_45 rfl rfl ?_
  obtain ⟨h7, hw⟩ := hw
  refine aIadd (pc' := 47) h7.1 h7.2 dX10_makes_46 rfl ?_
  refine aIast (pc' := 48) (j := p) dX10_makes_47 rfl (lv (by decide)) rfl h2 rfl (cEqI (mA (f := 30) rfl rfl rfl) ?_)
  refine aAload_n (pc' := 49) dX10_makes_48 rfl rfl ?_
  refine aIload_n (pc' := 50) dX10_makes_49 rfl rfl ?_
  refine cVV (c := 10) (pc' := 53) [aI ((p : Int))] dX10_makes_50 lX10_234 okX10_passes ⟨by decide, by decide⟩ npX10_passes rfl rfl rfl rfl rfl (by decide) rfl (cMetV_mono hw (fun J10 hw => ?_))
  obtain ⟨S9, rfl, hw⟩ := hw
  exact cVret dX10_makes_53 okX10_makes rfl ⟨rfl, rfl, _, rfl, hw⟩
set_option maxRecDepth 100000 in
set_option maxHeartbeats 4000000 in
theorem gX10_need {w : aW} {mm : Nat} {C : aIF} {S : aS} {p1 : Int} {P : Int → aS → Prop} (hw : rMetI w mX10_isProgram [aO 40 0, aI p1] C (sU S 0 0 0) (rf mm) (fun x1 S2 => ((x1 = 0) → P (-2) S2) ∧ ((¬ (x1 = 0)) → rMetI w mX10_needOf [aO 40 0, aI p1] C S2 (rf mm) (fun x4 S5 => P x4 S5)))) : rMetI w mX10_need [aO 40 0, aI p1] C S (rf mm) P := by
  refine cMet_of okX10_need (Nat.le_of_ble_eq_true rfl) (fun hos => ?_)
  show cRun w mX10_need 0 [some (aO 40 0), some (aI p1)] [] (mem C S) (rf mm) (rqI (rf mm) C P)
  refine aAload_n (pc' := 1) dX10_need_0 rfl rfl ?_
  refine aIconst (pc' := 2) ⟨by decide, by decide⟩ dX10_need_1 rfl ?_
  refine aPutI (pc' := 5) dX10_need_2 fX10_121 rfl rfl (Or.inl rfl) (lv (by decide)) rfl (cEqI (mS (f := 0) rfl) ?_)
  refine aAload_n (pc' := 6) dX10_need_5 rfl rfl ?_
  refine aIload_n (pc' := 7) dX10_need_6 rfl rfl ?_
  refine cVI (c := 10) (pc' := 10) [aI p1] dX10_need_7 lX10_168 okX10_isProgram ⟨by decide, by decide⟩ npX10_isProgram rfl rfl rfl rfl rfl (by decide) rfl (cMetI_mono hw (fun x1 J3 hw => ?_))
  obtain ⟨S2, rfl, hw⟩ := hw
  refine aIf_eq (tgt := 21) (pc' := 13) dX10_need_10 (by decide) rfl (fun hc => ?_) (fun hc => ?_)
  · have hw := hw.1 hc
    refine aBipush (pc' := 23) ⟨by decide, by decide⟩ dX10_need_21 rfl ?_
    exact cIret dX10_need_23 okX10_need rfl ⟨rfl, _, rfl, _, rfl, hw⟩
  · have hw := hw.2 hc
    refine aAload_n (pc' := 14) dX10_need_13 rfl rfl ?_
    refine aIload_n (pc' := 15) dX10_need_14 rfl rfl ?_
    refine cVI (c := 10) (pc' := 18) [aI p1] dX10_need_15 lX10_178 okX10_needOf ⟨by decide, by decide⟩ npX10_needOf rfl rfl rfl rfl rfl (by decide) rfl (cMetI_mono hw (fun x4 J6 hw => ?_))
    obtain ⟨S5, rfl, hw⟩ := hw
    refine aGoto (pc' := 23) dX10_need_18 (by decide) ?_
    exact cIret dX10_need_23 okX10_need rfl ⟨rfl, _, rfl, _, rfl, hw⟩
set_option maxRecDepth 100000 in
set_option maxHeartbeats 4000000 in
theorem gX10_needOf {w : aW} {mm : Nat} {C : aIF} {S : aS} {p : Nat} {P : Int → aS → Prop} (hw : (p < 6) ∧ (rMetI w mX10_up [aO 40 0, aI ((S 15 p))] C S (rf mm) (fun x2 S3 => rRunI w mX10_needOf 11 [some (aO 40 0), some (aI ((p : Int))), some (aI x2)] [] C S3 (rf mm) P))) : rMetI w mX10_needOf [aO 40 0, aI ((p : Int))] C S (rf mm) P := by
  refine cMet_of okX10_needOf (Nat.le_of_ble_eq_true rfl) (fun hos => ?_)
  show cRun w mX10_needOf 0 [some (aO 40 0), some (aI ((p : Int))), none] [] (mem C S) (rf mm) (rqI (rf mm) C P)
  refine aAload_n (pc' := 1) dX10_needOf_0 rfl rfl ?_
  refine aAload_n (pc' := 2) dX10_needOf_1 rfl rfl ?_
  refine aGetR (pc' := 5) (q := (55, 0)) dX10_needOf_2 fX10_48 rfl rfl (lv (by decide)) rfl rfl ?_
  refine aIload_n (pc' := 6) dX10_needOf_5 rfl rfl ?_
  obtain ⟨h1, hw⟩ := hw
  refine aIald (pc' := 7) (j := p) dX10_needOf_6 rfl (lv (by decide)) rfl h1 rfl ?_
  refine aTopEq (y := (S 15 p)) rfl ?_
  refine cVI (c := 10) (pc' := 10) [aI ((S 15 p))] dX10_needOf_7 lX10_174 okX10_up ⟨by decide, by decide⟩ npX10_up rfl rfl rfl rfl rfl (by decide) rfl (cMetI_mono hw (fun x2 J4 hw => ?_))
  obtain ⟨S3, rfl, hw⟩ := hw
  refine aIstore_n (pc' := 11) dX10_needOf_10 (by decide) rfl (L' := [some (aO 40 0), some (aI ((p : Int))), some (aI x2)]) rfl ?_
  exact hw
set_option maxRecDepth 100000 in
set_option maxHeartbeats 4000000 in
theorem gX10_needOf_11 {w : aW} {mm : Nat} {C : aIF} {S : aS} {p : Nat} {l2 : Int} {P : Int → aS → Prop} (hw : (((S 6 0) < l2) → P (-1) S) ∧ ((¬ ((S 6 0) < l2)) → rMetI w mX10_alone [aO 40 0, aI ((p : Int)), aI l2] C S (rf mm) (fun x1 S2 => ((x1 = (-1)) → (-2147483648 ≤ (l2 + (S2 5 0)) ∧ (l2 + (S2 5 0)) < 2147483648) ∧ (rRunI w mX10_needOf 11 [some (aO 40 0), some (aI ((p : Int))), some (aI ((l2 + (S2 5 0))))] [] C S2 (rf mm) P)) ∧ ((¬ (x1 = (-1))) → P l2 S2)))) : rRunI w mX10_needOf 11 [some (aO 40 0), some (aI ((p : Int))), some (aI l2)] [] C S (rf mm) P := by
  refine aIload_n (pc' := 12) dX10_needOf_11 rfl rfl ?_
  refine aAload_n (pc' := 13) dX10_needOf_12 rfl rfl ?_
  refine aGetI (pc' := 16) dX10_needOf_13 fX10_27 rfl rfl (lv (by decide)) rfl ?_
  refine aTopEq (y := (S 6 0)) rfl ?_
  refine aIcmp_gt (tgt := 41) (pc' := 19) dX10_needOf_16 (by decide) rfl (fun hc => ?_) (fun hc => ?_)
  · have hw := hw.1 hc
    refine aIconst (pc' := 42) ⟨by decide, by decide⟩ dX10_needOf_41 rfl ?_
    exact cIret dX10_needOf_42 okX10_needOf rfl ⟨rfl, _, rfl, _, rfl, hw⟩
  · have hw := hw.2 hc
    refine aAload_n (pc' := 20) dX10_needOf_19 rfl rfl ?_
    refine aIload_n (pc' := 21) dX10_needOf_20 rfl rfl ?_
    refine aIload_n (pc' := 22) dX10_needOf_21 rfl rfl ?_
    refine cVI (c := 10) (pc' := 25) [aI ((p : Int)), aI l2] dX10_needOf_22 lX10_171 okX10_alone ⟨by decide, by decide⟩ npX10_alone rfl rfl rfl rfl rfl (by decide) rfl (cMetI_mono hw (fun x1 J3 hw => ?_))
    obtain ⟨S2, rfl, hw⟩ := hw
    refine aIconst (pc' := 26) ⟨by decide, by decide⟩ dX10_needOf_25 rfl ?_
    refine aIcmp_eq (tgt := 31) (pc' := 29) dX10_needOf_26 (by decide) rfl (fun hc => ?_) (fun hc => ?_)
    · have hw := hw.1 hc
      refine aIload_n (pc' := 32) dX10_needOf_31 rfl rfl ?_
      refine aAload_n (pc' := 33) dX10_needOf_32 rfl rfl ?_
      refine aGetI (pc' := 36) dX10_needOf_33 fX10_23 rfl rfl (lv (by decide)) rfl ?_
      refine aTopEq (y := (S2 5 0)) rfl ?_
      obtain ⟨h4, hw⟩ := hw
      refine aIadd (pc' := 37) h4.1 h4.2 dX10_needOf_36 rfl ?_
      refine aIstore_n (pc' := 38) dX10_needOf_37 (by decide) rfl (L' := [some (aO 40 0), some (aI ((p : Int))), some (aI ((l2 + (S2 5 0))))]) rfl ?_
      refine aGoto (pc' := 11) dX10_needOf_38 (by decide) ?_
      exact hw
    · have hw := hw.2 hc
      refine aIload_n (pc' := 30) dX10_needOf_29 rfl rfl ?_
      exact cIret dX10_needOf_30 okX10_needOf rfl ⟨rfl, _, rfl, _, rfl, hw⟩
set_option maxRecDepth 100000 in
set_option maxHeartbeats 4000000 in
theorem gX10_of {w : aW} {mm : Nat} {C : aIF} {S : aS} {p1 : Int} {p2 : Int} {P : Int → aS → Prop} (hw : (-2147483648 ≤ ((S 23 0) - 1) ∧ ((S 23 0) - 1) < 2147483648) ∧ (rMetI w mX10_in [aI p1, aI 0, aI (((S 23 0) - 1))] C (sU S 0 0 0) (rf mm) (fun x2 S3 => ((x2 ≠ 0) → ((p2 = 0) → (0 ≤ p1 ∧ p1 < ((6 : Nat) : Int)) ∧ (P (S3 28 ((p1).toNat)) S3)) ∧ ((p2 = 1) → (0 ≤ p1 ∧ p1 < ((6 : Nat) : Int)) ∧ (P (S3 29 ((p1).toNat)) S3)) ∧ ((p2 = 2) → (0 ≤ p1 ∧ p1 < ((6 : Nat) : Int)) ∧ (P (S3 30 ((p1).toNat)) S3)) ∧ ((p2 = 3) → (0 ≤ p1 ∧ p1 < ((6 : Nat) : Int)) ∧ (P (S3 31 ((p1).toNat)) S3)) ∧ ((p2 = 4) → (0 ≤ p1 ∧ p1 < ((6 : Nat) : Int)) ∧ (P (S3 32 ((p1).toNat)) S3)) ∧ ((p2 = 5) → (0 ≤ p1 ∧ p1 < ((6 : Nat) : Int)) ∧ ((((S3 28 ((p1).toNat)) ≠ 3) → P (S3 33 ((p1).toNat)) S3) ∧ (((S3 28 ((p1).toNat)) = 3) → P (-2) S3))) ∧ ((p2 = 6) → (0 ≤ p1 ∧ p1 < ((6 : Nat) : Int)) ∧ (P (S3 34 ((p1).toNat)) S3)) ∧ ((p2 = 7) → (0 ≤ p1 ∧ p1 < ((6 : Nat) : Int)) ∧ (P (S3 35 ((p1).toNat)) S3)) ∧ ((p2 = 8) → (0 ≤ p1 ∧ p1 < ((6 : Nat) : Int)) ∧ (P (S3 36 ((p1).toNat)) S3)) ∧ ((p2 = 9) → (0 ≤ p1 ∧ p1 < ((6 : Nat) : Int)) ∧ (P (S3 38 ((p1).toNat)) S3)) ∧ ((p2 = 10) → (0 ≤ p1 ∧ p1 < ((6 : Nat) : Int)) ∧ ((((S3 42 ((p1).toNat)) = 0) → P 0 S3) ∧ ((¬ ((S3 42 ((p1).toNat)) = 0)) → P 1 S3))) ∧ ((p2 = 11) → (0 ≤ p1 ∧ p1 < ((6 : Nat) : Int)) ∧ ((((S3 43 ((p1).toNat)) = 0) → P 0 S3) ∧ ((¬ ((S3 43 ((p1).toNat)) = 0)) → P 1 S3))) ∧ ((p2 = 12) → (0 ≤ p1 ∧ p1 < ((6 : Nat) : Int)) ∧ (P (S3 37 ((p1).toNat)) S3)) ∧ ((p2 < 0 ∨ 12 < p2) → P (-2) S3)) ∧ ((x2 = 0) → P (-2) S3)))) : rMetI w mX10_of [aO 40 0, aI p1, aI p2] C S (rf mm) P := by
  refine cMet_of okX10_of (Nat.le_of_ble_eq_true rfl) (fun hos => ?_)
  show cRun w mX10_of 0 [some (aO 40 0), some (aI p1), some (aI p2)] [] (mem C S) (rf mm) (rqI (rf mm) C P)
  refine aAload_n (pc' := 1) dX10_of_0 rfl rfl ?_
  refine aIconst (pc' := 2) ⟨by decide, by decide⟩ dX10_of_1 rfl ?_
  refine aPutI (pc' := 5) dX10_of_2 fX10_121 rfl rfl (Or.inl rfl) (lv (by decide)) rfl (cEqI (mS (f := 0) rfl) ?_)
  refine aIload_n (pc' := 6) dX10_of_5 rfl rfl ?_
  refine aIconst (pc' := 7) ⟨by decide, by decide⟩ dX10_of_6 rfl ?_
  refine aAload_n (pc' := 8) dX10_of_7 rfl rfl ?_
  refine aGetI (pc' := 11) dX10_of_8 fX10_157 rfl rfl (lv (by decide)) rfl ?_
  refine aTopEq (y := ((sU S 0 0 0) 23 0)) rfl ?_
  refine aTopEq (sU_f rfl) ?_
  refine aIconst (pc' := 12) ⟨by decide, by decide⟩ dX10_of_11 rfl ?_
  obtain ⟨h1, hw⟩ := hw
  refine aIsub (pc' := 13) h1.1 h1.2 dX10_of_12 rfl ?_
  refine cSI (pc' := 16) [aI p1, aI 0, aI (((S 23 0) - 1))] dX10_of_13 lX10_124 okX10_in ⟨by decide, by decide⟩ npX10_in rfl rfl rfl (cMetI_mono hw (fun x2 J4 hw => ?_))
  obtain ⟨S3, rfl, hw⟩ := hw
  refine aIf_ne (tgt := 22) (pc' := 19) dX10_of_16 (by decide) rfl (fun hc => ?_) (fun hc => ?_)
  · have hw := hw.1 hc
    refine aIload_n (pc' := 23) dX10_of_22 rfl rfl ?_
    rcases (show p2 = 0 ∨ p2 = 1 ∨ p2 = 2 ∨ p2 = 3 ∨ p2 = 4 ∨ p2 = 5 ∨ p2 = 6 ∨ p2 = 7 ∨ p2 = 8 ∨ p2 = 9 ∨ p2 = 10 ∨ p2 = 11 ∨ p2 = 12 ∨ (p2 < 0 ∨ 12 < p2) by omega) with hc | hc | hc | hc | hc | hc | hc | hc | hc | hc | hc | hc | hc | hc
    · have hw := hw.1 hc
      refine aTswIn (tgt := 88) dX10_of_23 (by omega) (by omega) (by rw [hc]; rfl) (by decide) ?_
      refine aAload_n (pc' := 89) dX10_of_88 rfl rfl ?_
      refine aGetR (pc' := 92) (q := (68, 0)) dX10_of_89 fX10_66 rfl rfl (lv (by decide)) rfl rfl ?_
      refine aIload_n (pc' := 93) dX10_of_92 rfl rfl ?_
      obtain ⟨h5, hw⟩ := hw
      refine aIald (pc' := 94) (j := (p1).toNat) dX10_of_93 rfl (lv (by decide)) (tnIx h5).1 (tnIx h5).2 rfl ?_
      refine aTopEq (y := (S3 28 ((p1).toNat))) rfl ?_
      exact cIret dX10_of_94 okX10_of rfl ⟨rfl, _, rfl, _, rfl, hw⟩
    · have hw := hw.2.1 hc
      refine aTswIn (tgt := 95) dX10_of_23 (by omega) (by omega) (by rw [hc]; rfl) (by decide) ?_
      refine aAload_n (pc' := 96) dX10_of_95 rfl rfl ?_
      refine aGetR (pc' := 99) (q := (69, 0)) dX10_of_96 fX10_69 rfl rfl (lv (by decide)) rfl rfl ?_
      refine aIload_n (pc' := 100) dX10_of_99 rfl rfl ?_
      obtain ⟨h6, hw⟩ := hw
      refine aIald (pc' := 101) (j := (p1).toNat) dX10_of_100 rfl (lv (by decide)) (tnIx h6).1 (tnIx h6).2 rfl ?_
      refine aTopEq (y := (S3 29 ((p1).toNat))) rfl ?_
      exact cIret dX10_of_101 okX10_of rfl ⟨rfl, _, rfl, _, rfl, hw⟩
    · have hw := hw.2.2.1 hc
      refine aTswIn (tgt := 102) dX10_of_23 (by omega) (by omega) (by rw [hc]; rfl) (by decide) ?_
      refine aAload_n (pc' := 103) dX10_of_102 rfl rfl ?_
      refine aGetR (pc' := 106) (q := (70, 0)) dX10_of_103 fX10_72 rfl rfl (lv (by decide)) rfl rfl ?_
      refine aIload_n (pc' := 107) dX10_of_106 rfl rfl ?_
      obtain ⟨h7, hw⟩ := hw
      refine aIald (pc' := 108) (j := (p1).toNat) dX10_of_107 rfl (lv (by decide)) (tnIx h7).1 (tnIx h7).2 rfl ?_
      refine aTopEq (y := (S3 30 ((p1).toNat))) rfl ?_
      exact cIret dX10_of_108 okX10_of rfl ⟨rfl, _, rfl, _, rfl, hw⟩
    · have hw := hw.2.2.2.1 hc
      refine aTswIn (tgt := 109) dX10_of_23 (by omega) (by omega) (by rw [hc]; rfl) (by decide) ?_
      refine aAload_n (pc' := 110) dX10_of_109 rfl rfl ?_
      refine aGetR (pc' := 113) (q := (71, 0)) dX10_of_110 fX10_75 rfl rfl (lv (by decide)) rfl rfl ?_
      refine aIload_n (pc' := 114) dX10_of_113 rfl rfl ?_
      obtain ⟨h8, hw⟩ := hw
      refine aIald (pc' := 115) (j := (p1).toNat) dX10_of_114 rfl (lv (by decide)) (tnIx h8).1 (tnIx h8).2 rfl ?_
      refine aTopEq (y := (S3 31 ((p1).toNat))) rfl ?_
      exact cIret dX10_of_115 okX10_of rfl ⟨rfl, _, rfl, _, rfl, hw⟩
    · have hw := hw.2.2.2.2.1 hc
      refine aTswIn (tgt := 116) dX10_of_23 (by omega) (by omega) (by rw [hc]; rfl) (by decide) ?_
      refine aAload_n (pc' := 117) dX10_of_116 rfl rfl ?_
      refine aGetR (pc' := 120) (q := (72, 0)) dX10_of_117 fX10_78 rfl rfl (lv (by decide)) rfl rfl ?_
      refine aIload_n (pc' := 121) dX10_of_120 rfl rfl ?_
      obtain ⟨h9, hw⟩ := hw
      refine aIald (pc' := 122) (j := (p1).toNat) dX10_of_121 rfl (lv (by decide)) (tnIx h9).1 (tnIx h9).2 rfl ?_
      refine aTopEq (y := (S3 32 ((p1).toNat))) rfl ?_
      exact cIret dX10_of_122 okX10_of rfl ⟨rfl, _, rfl, _, rfl, hw⟩
    · have hw := hw.2.2.2.2.2.1 hc
      refine aTswIn (tgt := 123) dX10_of_23 (by omega) (by omega) (by rw [hc]; rfl) (by decide) ?_
      refine aAload_n (pc' := 124) dX10_of_123 rfl rfl ?_
      refine aGetR (pc' := 127) (q := (68, 0)) dX10_of_124 fX10_66 rfl rfl (lv (by decide)) rfl rfl ?_
      refine aIload_n (pc' := 128) dX10_of_127 rfl rfl ?_
      obtain ⟨h10, hw⟩ := hw
      refine aIald (pc' := 129) (j := (p1).toNat) dX10_of_128 rfl (lv (by decide)) (tnIx h10).1 (tnIx h10).2 rfl ?_
      refine aTopEq (y := (S3 28 ((p1).toNat))) rfl ?_
      refine aIconst (pc' := 130) ⟨by decide, by decide⟩ dX10_of_129 rfl ?_
      refine aIcmp_ne (tgt := 138) (pc' := 133) dX10_of_130 (by decide) rfl (fun hc => ?_) (fun hc => ?_)
      · have hw := hw.1 hc
        refine aAload_n (pc' := 139) dX10_of_138 rfl rfl ?_
        refine aGetR (pc' := 142) (q := (73, 0)) dX10_of_139 fX10_81 rfl rfl (lv (by decide)) rfl rfl ?_
        refine aIload_n (pc' := 143) dX10_of_142 rfl rfl ?_
        refine aIald (pc' := 144) (j := (p1).toNat) dX10_of_143 rfl (lv (by decide)) (tnIx h10).1 (tnIx h10).2 rfl ?_
        refine aTopEq (y := (S3 33 ((p1).toNat))) rfl ?_
        exact cIret dX10_of_144 okX10_of rfl ⟨rfl, _, rfl, _, rfl, hw⟩
      · have hw := hw.2 hc
        refine aBipush (pc' := 135) ⟨by decide, by decide⟩ dX10_of_133 rfl ?_
        refine aGoto (pc' := 144) dX10_of_135 (by decide) ?_
        exact cIret dX10_of_144 okX10_of rfl ⟨rfl, _, rfl, _, rfl, hw⟩
    · have hw := hw.2.2.2.2.2.2.1 hc
      refine aTswIn (tgt := 145) dX10_of_23 (by omega) (by omega) (by rw [hc]; rfl) (by decide) ?_
      refine aAload_n (pc' := 146) dX10_of_145 rfl rfl ?_
      refine aGetR (pc' := 149) (q := (74, 0)) dX10_of_146 fX10_84 rfl rfl (lv (by decide)) rfl rfl ?_
      refine aIload_n (pc' := 150) dX10_of_149 rfl rfl ?_
      obtain ⟨h11, hw⟩ := hw
      refine aIald (pc' := 151) (j := (p1).toNat) dX10_of_150 rfl (lv (by decide)) (tnIx h11).1 (tnIx h11).2 rfl ?_
      refine aTopEq (y := (S3 34 ((p1).toNat))) rfl ?_
      exact cIret dX10_of_151 okX10_of rfl ⟨rfl, _, rfl, _, rfl, hw⟩
    · have hw := hw.2.2.2.2.2.2.2.1 hc
      refine aTswIn (tgt := 152) dX10_of_23 (by omega) (by omega) (by rw [hc]; rfl) (by decide) ?_
      refine aAload_n (pc' := 153) dX10_of_152 rfl rfl ?_
      refine aGetR (pc' := 156) (q := (75, 0)) dX10_of_153 fX10_87 rfl rfl (lv (by decide)) rfl rfl ?_
      refine aIload_n (pc' := 157) dX10_of_156 rfl rfl ?_
      obtain ⟨h12, hw⟩ := hw
      refine aIald (pc' := 158) (j := (p1).toNat) dX10_of_157 rfl (lv (by decide)) (tnIx h12).1 (tnIx h12).2 rfl ?_
      refine aTopEq (y := (S3 35 ((p1).toNat))) rfl ?_
      exact cIret dX10_of_158 okX10_of rfl ⟨rfl, _, rfl, _, rfl, hw⟩
    · have hw := hw.2.2.2.2.2.2.2.2.1 hc
      refine aTswIn (tgt := 159) dX10_of_23 (by omega) (by omega) (by rw [hc]; rfl) (by decide) ?_
      refine aAload_n (pc' := 160) dX10_of_159 rfl rfl ?_
      refine aGetR (pc' := 163) (q := (76, 0)) dX10_of_160 fX10_90 rfl rfl (lv (by decide)) rfl rfl ?_
      refine aIload_n (pc' := 164) dX10_of_163 rfl rfl ?_
      obtain ⟨h13, hw⟩ := hw
      refine aIald (pc' := 165) (j := (p1).toNat) dX10_of_164 rfl (lv (by decide)) (tnIx h13).1 (tnIx h13).2 rfl ?_
      refine aTopEq (y := (S3 36 ((p1).toNat))) rfl ?_
      exact cIret dX10_of_165 okX10_of rfl ⟨rfl, _, rfl, _, rfl, hw⟩
    · have hw := hw.2.2.2.2.2.2.2.2.2.1 hc
      refine aTswIn (tgt := 166) dX10_of_23 (by omega) (by omega) (by rw [hc]; rfl) (by decide) ?_
      refine aAload_n (pc' := 167) dX10_of_166 rfl rfl ?_
      refine aGetR (pc' := 170) (q := (78, 0)) dX10_of_167 fX10_96 rfl rfl (lv (by decide)) rfl rfl ?_
      refine aIload_n (pc' := 171) dX10_of_170 rfl rfl ?_
      obtain ⟨h14, hw⟩ := hw
      refine aIald (pc' := 172) (j := (p1).toNat) dX10_of_171 rfl (lv (by decide)) (tnIx h14).1 (tnIx h14).2 rfl ?_
      refine aTopEq (y := (S3 38 ((p1).toNat))) rfl ?_
      exact cIret dX10_of_172 okX10_of rfl ⟨rfl, _, rfl, _, rfl, hw⟩
    · have hw := hw.2.2.2.2.2.2.2.2.2.2.1 hc
      refine aTswIn (tgt := 173) dX10_of_23 (by omega) (by omega) (by rw [hc]; rfl) (by decide) ?_
      refine aAload_n (pc' := 174) dX10_of_173 rfl rfl ?_
      refine aGetR (pc' := 177) (q := (82, 0)) dX10_of_174 fX10_108 rfl rfl (lv (by decide)) rfl rfl ?_
      refine aIload_n (pc' := 178) dX10_of_177 rfl rfl ?_
      obtain ⟨h15, hw⟩ := hw
      refine aZald (pc' := 179) (j := (p1).toNat) dX10_of_178 rfl (lv (by decide)) (tnIx h15).1 (tnIx h15).2 rfl ?_
      refine aTopEq (y := (S3 42 ((p1).toNat))) rfl ?_
      refine aIf_eq (tgt := 186) (pc' := 182) dX10_of_179 (by decide) rfl (fun hc => ?_) (fun hc => ?_)
      · have hw := hw.1 hc
        refine aIconst (pc' := 187) ⟨by decide, by decide⟩ dX10_of_186 rfl ?_
        exact cIret dX10_of_187 okX10_of rfl ⟨rfl, _, rfl, _, rfl, hw⟩
      · have hw := hw.2 hc
        refine aIconst (pc' := 183) ⟨by decide, by decide⟩ dX10_of_182 rfl ?_
        refine aGoto (pc' := 187) dX10_of_183 (by decide) ?_
        exact cIret dX10_of_187 okX10_of rfl ⟨rfl, _, rfl, _, rfl, hw⟩
    · have hw := hw.2.2.2.2.2.2.2.2.2.2.2.1 hc
      refine aTswIn (tgt := 188) dX10_of_23 (by omega) (by omega) (by rw [hc]; rfl) (by decide) ?_
      refine aAload_n (pc' := 189) dX10_of_188 rfl rfl ?_
      refine aGetR (pc' := 192) (q := (83, 0)) dX10_of_189 fX10_112 rfl rfl (lv (by decide)) rfl rfl ?_
      refine aIload_n (pc' := 193) dX10_of_192 rfl rfl ?_
      obtain ⟨h16, hw⟩ := hw
      refine aZald (pc' := 194) (j := (p1).toNat) dX10_of_193 rfl (lv (by decide)) (tnIx h16).1 (tnIx h16).2 rfl ?_
      refine aTopEq (y := (S3 43 ((p1).toNat))) rfl ?_
      refine aIf_eq (tgt := 201) (pc' := 197) dX10_of_194 (by decide) rfl (fun hc => ?_) (fun hc => ?_)
      · have hw := hw.1 hc
        refine aIconst (pc' := 202) ⟨by decide, by decide⟩ dX10_of_201 rfl ?_
        exact cIret dX10_of_202 okX10_of rfl ⟨rfl, _, rfl, _, rfl, hw⟩
      · have hw := hw.2 hc
        refine aIconst (pc' := 198) ⟨by decide, by decide⟩ dX10_of_197 rfl ?_
        refine aGoto (pc' := 202) dX10_of_198 (by decide) ?_
        exact cIret dX10_of_202 okX10_of rfl ⟨rfl, _, rfl, _, rfl, hw⟩
    · have hw := hw.2.2.2.2.2.2.2.2.2.2.2.2.1 hc
      refine aTswIn (tgt := 203) dX10_of_23 (by omega) (by omega) (by rw [hc]; rfl) (by decide) ?_
      refine aAload_n (pc' := 204) dX10_of_203 rfl rfl ?_
      refine aGetR (pc' := 207) (q := (77, 0)) dX10_of_204 fX10_93 rfl rfl (lv (by decide)) rfl rfl ?_
      refine aIload_n (pc' := 208) dX10_of_207 rfl rfl ?_
      obtain ⟨h17, hw⟩ := hw
      refine aIald (pc' := 209) (j := (p1).toNat) dX10_of_208 rfl (lv (by decide)) (tnIx h17).1 (tnIx h17).2 rfl ?_
      refine aTopEq (y := (S3 37 ((p1).toNat))) rfl ?_
      exact cIret dX10_of_209 okX10_of rfl ⟨rfl, _, rfl, _, rfl, hw⟩
    · have hw := hw.2.2.2.2.2.2.2.2.2.2.2.2.2 hc
      refine aTswOut (tgt := 210) dX10_of_23 hc (by decide) ?_
      refine aBipush (pc' := 212) ⟨by decide, by decide⟩ dX10_of_210 rfl ?_
      exact cIret dX10_of_212 okX10_of rfl ⟨rfl, _, rfl, _, rfl, hw⟩
  · have hw := hw.2 hc
    refine aBipush (pc' := 21) ⟨by decide, by decide⟩ dX10_of_19 rfl ?_
    exact cIret dX10_of_21 okX10_of rfl ⟨rfl, _, rfl, _, rfl, hw⟩
set_option maxRecDepth 100000 in
set_option maxHeartbeats 4000000 in
theorem gX10_passes {w : aW} {mm : Nat} {C : aIF} {S : aS} {p : Nat} {P : aS → Prop} (hw : (p < 6) ∧ ((((S 28 p) ≠ 2) → (-2147483648 ≤ ((S 33 p) + 1) ∧ ((S 33 p) + 1) < 2147483648) ∧ ((((S 11 p) ≤ ((S 33 p) + 1)) → (((S 32 p) ≤ 0) → (-2147483648 ≤ ((S 32 p) + 1) ∧ ((S 32 p) + 1) < 2147483648) ∧ (((((S 32 p) + 1) ≠ (S 14 p)) → P (sU (sU (sU (sU (sU (sU (sU S 28 p 0) 37 p 0) 33 p (((S 33 p) + 1))) 33 p 0) 40 p 0) 41 p ((S 31 p))) 32 p (((S 32 p) + 1)))) ∧ ((((S 32 p) + 1) = (S 14 p)) → rMetV w mX10_isOver [aO 40 0, aI ((p : Int)), aI 3] C (sU (sU (sU (sU (sU (sU (sU S 28 p 0) 37 p 0) 33 p (((S 33 p) + 1))) 33 p 0) 40 p 0) 41 p ((S 31 p))) 32 p (((S 32 p) + 1))) (rf mm) (fun S5 => P S5)))) ∧ ((¬ ((S 32 p) ≤ 0)) → (((S 31 p) ≤ (S 41 p)) → (-2147483648 ≤ ((S 32 p) + 1) ∧ ((S 32 p) + 1) < 2147483648) ∧ (((((S 32 p) + 1) ≠ (S 14 p)) → P (sU (sU (sU (sU (sU (sU (sU S 28 p 0) 37 p 0) 33 p (((S 33 p) + 1))) 33 p 0) 40 p 0) 41 p ((S 31 p))) 32 p (((S 32 p) + 1)))) ∧ ((((S 32 p) + 1) = (S 14 p)) → rMetV w mX10_isOver [aO 40 0, aI ((p : Int)), aI 3] C (sU (sU (sU (sU (sU (sU (sU S 28 p 0) 37 p 0) 33 p (((S 33 p) + 1))) 33 p 0) 40 p 0) 41 p ((S 31 p))) 32 p (((S 32 p) + 1))) (rf mm) (fun S9 => P S9)))) ∧ ((¬ ((S 31 p) ≤ (S 41 p))) → (-2147483648 ≤ ((S 40 p) + 1) ∧ ((S 40 p) + 1) < 2147483648) ∧ ((-2147483648 ≤ ((S 32 p) + 1) ∧ ((S 32 p) + 1) < 2147483648) ∧ (((((S 40 p) + 1) < 3) → ((((S 32 p) + 1) ≠ (S 14 p)) → P (sU (sU (sU (sU (sU (sU (sU S 28 p 0) 37 p 0) 33 p (((S 33 p) + 1))) 33 p 0) 40 p (((S 40 p) + 1))) 41 p ((S 31 p))) 32 p (((S 32 p) + 1)))) ∧ ((((S 32 p) + 1) = (S 14 p)) → rMetV w mX10_isOver [aO 40 0, aI ((p : Int)), aI 3] C (sU (sU (sU (sU (sU (sU (sU S 28 p 0) 37 p 0) 33 p (((S 33 p) + 1))) 33 p 0) 40 p (((S 40 p) + 1))) 41 p ((S 31 p))) 32 p (((S 32 p) + 1))) (rf mm) (fun S14 => P S14))) ∧ ((¬ (((S 40 p) + 1) < 3)) → (((S 42 p) ≠ 0) → ((((S 32 p) + 1) ≠ (S 14 p)) → P (sU (sU (sU (sU (sU (sU (sU S 28 p 0) 37 p 0) 33 p (((S 33 p) + 1))) 33 p 0) 40 p (((S 40 p) + 1))) 41 p ((S 31 p))) 32 p (((S 32 p) + 1)))) ∧ ((((S 32 p) + 1) = (S 14 p)) → rMetV w mX10_isOver [aO 40 0, aI ((p : Int)), aI 3] C (sU (sU (sU (sU (sU (sU (sU S 28 p 0) 37 p 0) 33 p (((S 33 p) + 1))) 33 p 0) 40 p (((S 40 p) + 1))) 41 p ((S 31 p))) 32 p (((S 32 p) + 1))) (rf mm) (fun S17 => P S17))) ∧ (((S 42 p) = 0) → rMetV w mX10_tells [aO 40 0, aI ((p : Int)), aI 7, aI ((S 31 p))] C (sU (sU (sU (sU (sU (sU (sU (sU S 28 p 0) 37 p 0) 33 p (((S 33 p) + 1))) 33 p 0) 40 p (((S 40 p) + 1))) 41 p ((S 31 p))) 32 p (((S 32 p) + 1))) 42 p 1) (rf mm) (fun S20 => (((S20 32 p) ≠ (S20 14 p)) → P S20) ∧ (((S20 32 p) = (S20 14 p)) → rMetV w mX10_isOver [aO 40 0, aI ((p : Int)), aI 3] C S20 (rf mm) (fun S23 => P S23)))))))))) ∧ ((¬ ((S 11 p) ≤ ((S 33 p) + 1))) → P (sU (sU (sU S 28 p 0) 37 p 0) 33 p (((S 33 p) + 1)))))) ∧ (((S 28 p) = 2) → (((S 43 p) = 0) → (-2147483648 ≤ ((S 33 p) + 1) ∧ ((S 33 p) + 1) < 2147483648) ∧ ((((S 11 p) ≤ ((S 33 p) + 1)) → (((S 32 p) ≤ 0) → (-2147483648 ≤ ((S 32 p) + 1) ∧ ((S 32 p) + 1) < 2147483648) ∧ (((((S 32 p) + 1) ≠ (S 14 p)) → P (sU (sU (sU (sU (sU (sU (sU S 28 p 0) 37 p 0) 33 p (((S 33 p) + 1))) 33 p 0) 40 p 0) 41 p ((S 31 p))) 32 p (((S 32 p) + 1)))) ∧ ((((S 32 p) + 1) = (S 14 p)) → rMetV w mX10_isOver [aO 40 0, aI ((p : Int)), aI 3] C (sU (sU (sU (sU (sU (sU (sU S 28 p 0) 37 p 0) 33 p (((S 33 p) + 1))) 33 p 0) 40 p 0) 41 p ((S 31 p))) 32 p (((S 32 p) + 1))) (rf mm) (fun S28 => P S28)))) ∧ ((¬ ((S 32 p) ≤ 0)) → (((S 31 p) ≤ (S 41 p)) → (-2147483648 ≤ ((S 32 p) + 1) ∧ ((S 32 p) + 1) < 2147483648) ∧ (((((S 32 p) + 1) ≠ (S 14 p)) → P (sU (sU (sU (sU (sU (sU (sU S 28 p 0) 37 p 0) 33 p (((S 33 p) + 1))) 33 p 0) 40 p 0) 41 p ((S 31 p))) 32 p (((S 32 p) + 1)))) ∧ ((((S 32 p) + 1) = (S 14 p)) → rMetV w mX10_isOver [aO 40 0, aI ((p : Int)), aI 3] C (sU (sU (sU (sU (sU (sU (sU S 28 p 0) 37 p 0) 33 p (((S 33 p) + 1))) 33 p 0) 40 p 0) 41 p ((S 31 p))) 32 p (((S 32 p) + 1))) (rf mm) (fun S32 => P S32)))) ∧ ((¬ ((S 31 p) ≤ (S 41 p))) → (-2147483648 ≤ ((S 40 p) + 1) ∧ ((S 40 p) + 1) < 2147483648) ∧ ((-2147483648 ≤ ((S 32 p) + 1) ∧ ((S 32 p) + 1) < 2147483648) ∧ (((((S 40 p) + 1) < 3) → ((((S 32 p) + 1) ≠ (S 14 p)) → P (sU (sU (sU (sU (sU (sU (sU S 28 p 0) 37 p 0) 33 p (((S 33 p) + 1))) 33 p 0) 40 p (((S 40 p) + 1))) 41 p ((S 31 p))) 32 p (((S 32 p) + 1)))) ∧ ((((S 32 p) + 1) = (S 14 p)) → rMetV w mX10_isOver [aO 40 0, aI ((p : Int)), aI 3] C (sU (sU (sU (sU (sU (sU (sU S 28 p 0) 37 p 0) 33 p (((S 33 p) + 1))) 33 p 0) 40 p (((S 40 p) + 1))) 41 p ((S 31 p))) 32 p (((S 32 p) + 1))) (rf mm) (fun S37 => P S37))) ∧ ((¬ (((S 40 p) + 1) < 3)) → (((S 42 p) ≠ 0) → ((((S 32 p) + 1) ≠ (S 14 p)) → P (sU (sU (sU (sU (sU (sU (sU S 28 p 0) 37 p 0) 33 p (((S 33 p) + 1))) 33 p 0) 40 p (((S 40 p) + 1))) 41 p ((S 31 p))) 32 p (((S 32 p) + 1)))) ∧ ((((S 32 p) + 1) = (S 14 p)) → rMetV w mX10_isOver [aO 40 0, aI ((p : Int)), aI 3] C (sU (sU (sU (sU (sU (sU (sU S 28 p 0) 37 p 0) 33 p (((S 33 p) + 1))) 33 p 0) 40 p (((S 40 p) + 1))) 41 p ((S 31 p))) 32 p (((S 32 p) + 1))) (rf mm) (fun S40 => P S40))) ∧ (((S 42 p) = 0) → rMetV w mX10_tells [aO 40 0, aI ((p : Int)), aI 7, aI ((S 31 p))] C (sU (sU (sU (sU (sU (sU (sU (sU S 28 p 0) 37 p 0) 33 p (((S 33 p) + 1))) 33 p 0) 40 p (((S 40 p) + 1))) 41 p ((S 31 p))) 32 p (((S 32 p) + 1))) 42 p 1) (rf mm) (fun S43 => (((S43 32 p) ≠ (S43 14 p)) → P S43) ∧ (((S43 32 p) = (S43 14 p)) → rMetV w mX10_isOver [aO 40 0, aI ((p : Int)), aI 3] C S43 (rf mm) (fun S46 => P S46)))))))))) ∧ ((¬ ((S 11 p) ≤ ((S 33 p) + 1))) → P (sU (sU (sU S 28 p 0) 37 p 0) 33 p (((S 33 p) + 1)))))) ∧ ((¬ ((S 43 p) = 0)) → (0 ≤ (S 25 0) ∧ 0 < (S 5 0)) ∧ ((-2147483648 ≤ (((S 25 0) / (S 5 0)) * (S 5 0)) ∧ (((S 25 0) / (S 5 0)) * (S 5 0)) < 2147483648) ∧ ((-2147483648 ≤ ((S 39 p) - (S 29 p)) ∧ ((S 39 p) - (S 29 p)) < 2147483648) ∧ ((-2147483648 ≤ ((S 25 0) - (min (((S 25 0) / (S 5 0)) * (S 5 0)) ((S 39 p) - (S 29 p)))) ∧ ((S 25 0) - (min (((S 25 0) / (S 5 0)) * (S 5 0)) ((S 39 p) - (S 29 p)))) < 2147483648) ∧ ((-2147483648 ≤ ((S 29 p) + (min (((S 25 0) / (S 5 0)) * (S 5 0)) ((S 39 p) - (S 29 p)))) ∧ ((S 29 p) + (min (((S 25 0) / (S 5 0)) * (S 5 0)) ((S 39 p) - (S 29 p)))) < 2147483648) ∧ (rMetV w mX10_tells [aO 40 0, aI ((p : Int)), aI 5, aI ((min (((S 25 0) / (S 5 0)) * (S 5 0)) ((S 39 p) - (S 29 p))))] C (sU (sU (sU S 25 0 (((S 25 0) - (min (((S 25 0) / (S 5 0)) * (S 5 0)) ((S 39 p) - (S 29 p)))))) 29 p (((S 29 p) + (min (((S 25 0) / (S 5 0)) * (S 5 0)) ((S 39 p) - (S 29 p)))))) 43 p 0) (rf mm) (fun S54 => (-2147483648 ≤ ((S54 33 p) + 1) ∧ ((S54 33 p) + 1) < 2147483648) ∧ ((((S54 11 p) ≤ ((S54 33 p) + 1)) → (((S54 32 p) ≤ 0) → (-2147483648 ≤ ((S54 32 p) + 1) ∧ ((S54 32 p) + 1) < 2147483648) ∧ (((((S54 32 p) + 1) ≠ (S54 14 p)) → P (sU (sU (sU (sU (sU (sU (sU S54 28 p 0) 37 p 0) 33 p (((S54 33 p) + 1))) 33 p 0) 40 p 0) 41 p ((S54 31 p))) 32 p (((S54 32 p) + 1)))) ∧ ((((S54 32 p) + 1) = (S54 14 p)) → rMetV w mX10_isOver [aO 40 0, aI ((p : Int)), aI 3] C (sU (sU (sU (sU (sU (sU (sU S54 28 p 0) 37 p 0) 33 p (((S54 33 p) + 1))) 33 p 0) 40 p 0) 41 p ((S54 31 p))) 32 p (((S54 32 p) + 1))) (rf mm) (fun S59 => P S59)))) ∧ ((¬ ((S54 32 p) ≤ 0)) → (((S54 31 p) ≤ (S54 41 p)) → (-2147483648 ≤ ((S54 32 p) + 1) ∧ ((S54 32 p) + 1) < 2147483648) ∧ (((((S54 32 p) + 1) ≠ (S54 14 p)) → P (sU (sU (sU (sU (sU (sU (sU S54 28 p 0) 37 p 0) 33 p (((S54 33 p) + 1))) 33 p 0) 40 p 0) 41 p ((S54 31 p))) 32 p (((S54 32 p) + 1)))) ∧ ((((S54 32 p) + 1) = (S54 14 p)) → rMetV w mX10_isOver [aO 40 0, aI ((p : Int)), aI 3] C (sU (sU (sU (sU (sU (sU (sU S54 28 p 0) 37 p 0) 33 p (((S54 33 p) + 1))) 33 p 0) 40 p 0) 41 p ((S54 31 p))) 32 p (((S54 32 p) + 1))) (rf mm) (fun S63 => P S63)))) ∧ ((¬ ((S54 31 p) ≤ (S54 41 p))) → (-2147483648 ≤ ((S54 40 p) + 1) ∧ ((S54 40 p) + 1) < 2147483648) ∧ ((-2147483648 ≤ ((S54 32 p) + 1) ∧ ((S54 32 p) + 1) < 2147483648) ∧ (((((S54 40 p) + 1) < 3) → ((((S54 32 p) + 1) ≠ (S54 14 p)) → P (sU (sU (sU (sU (sU (sU (sU S54 28 p 0) 37 p 0) 33 p (((S54 33 p) + 1))) 33 p 0) 40 p (((S54 40 p) + 1))) 41 p ((S54 31 p))) 32 p (((S54 32 p) + 1)))) ∧ ((((S54 32 p) + 1) = (S54 14 p)) → rMetV w mX10_isOver [aO 40 0, aI ((p : Int)), aI 3] C (sU (sU (sU (sU (sU (sU (sU S54 28 p 0) 37 p 0) 33 p (((S54 33 p) + 1))) 33 p 0) 40 p (((S54 40 p) + 1))) 41 p ((S54 31 p))) 32 p (((S54 32 p) + 1))) (rf mm) (fun S68 => P S68))) ∧ ((¬ (((S54 40 p) + 1) < 3)) → (((S54 42 p) ≠ 0) → ((((S54 32 p) + 1) ≠ (S54 14 p)) → P (sU (sU (sU (sU (sU (sU (sU S54 28 p 0) 37 p 0) 33 p (((S54 33 p) + 1))) 33 p 0) 40 p (((S54 40 p) + 1))) 41 p ((S54 31 p))) 32 p (((S54 32 p) + 1)))) ∧ ((((S54 32 p) + 1) = (S54 14 p)) → rMetV w mX10_isOver [aO 40 0, aI ((p : Int)), aI 3] C (sU (sU (sU (sU (sU (sU (sU S54 28 p 0) 37 p 0) 33 p (((S54 33 p) + 1))) 33 p 0) 40 p (((S54 40 p) + 1))) 41 p ((S54 31 p))) 32 p (((S54 32 p) + 1))) (rf mm) (fun S71 => P S71))) ∧ (((S54 42 p) = 0) → rMetV w mX10_tells [aO 40 0, aI ((p : Int)), aI 7, aI ((S54 31 p))] C (sU (sU (sU (sU (sU (sU (sU (sU S54 28 p 0) 37 p 0) 33 p (((S54 33 p) + 1))) 33 p 0) 40 p (((S54 40 p) + 1))) 41 p ((S54 31 p))) 32 p (((S54 32 p) + 1))) 42 p 1) (rf mm) (fun S74 => (((S74 32 p) ≠ (S74 14 p)) → P S74) ∧ (((S74 32 p) = (S74 14 p)) → rMetV w mX10_isOver [aO 40 0, aI ((p : Int)), aI 3] C S74 (rf mm) (fun S77 => P S77)))))))))) ∧ ((¬ ((S54 11 p) ≤ ((S54 33 p) + 1))) → P (sU (sU (sU S54 28 p 0) 37 p 0) 33 p (((S54 33 p) + 1))))))))))))))) : rMetV w mX10_passes [aO 40 0, aI ((p : Int))] C S (rf mm) P := by
  refine cMet_of okX10_passes (Nat.le_of_ble_eq_true rfl) (fun hos => ?_)
  show cRun w mX10_passes 0 [some (aO 40 0), some (aI ((p : Int))), none] [] (mem C S) (rf mm) (rqV (rf mm) C P)
  refine aAload_n (pc' := 1) dX10_passes_0 rfl rfl ?_
  refine aGetR (pc' := 4) (q := (68, 0)) dX10_passes_1 fX10_66 rfl rfl (lv (by decide)) rfl rfl ?_
  refine aIload_n (pc' := 5) dX10_passes_4 rfl rfl ?_
  obtain ⟨h1, hw⟩ := hw
  refine aIald (pc' := 6) (j := p) dX10_passes_5 rfl (lv (by decide)) rfl h1 rfl ?_
  refine aTopEq (y := (S 28 p)) rfl ?_
  refine aIconst (pc' := 7) ⟨by decide, by decide⟩ dX10_passes_6 rfl ?_
  refine aIcmp_ne (tgt := 84) (pc' := 10) dX10_passes_7 (by decide) rfl (fun hc => ?_) (fun hc => ?_)
  · have hw := hw.1 hc
    refine aAload_n (pc' := 85) dX10_passes_84 rfl rfl ?_
    refine aGetR (pc' := 88) (q := (68, 0)) dX10_passes_85 fX10_66 rfl rfl (lv (by decide)) rfl rfl ?_
    refine aIload_n (pc' := 89) dX10_passes_88 rfl rfl ?_
    refine aIconst (pc' := 90) ⟨by decide, by decide⟩ dX10_passes_89 rfl ?_
    refine aIast (pc' := 91) (j := p) dX10_passes_90 rfl (lv (by decide)) rfl h1 rfl (cEqI (mA (f := 28) rfl rfl rfl) ?_)
    refine aAload_n (pc' := 92) dX10_passes_91 rfl rfl ?_
    refine aGetR (pc' := 95) (q := (77, 0)) dX10_passes_92 fX10_93 rfl rfl (lv (by decide)) rfl rfl ?_
    refine aIload_n (pc' := 96) dX10_passes_95 rfl rfl ?_
    refine aIconst (pc' := 97) ⟨by decide, by decide⟩ dX10_passes_96 rfl ?_
    refine aIast (pc' := 98) (j := p) dX10_passes_97 rfl (lv (by decide)) rfl h1 rfl (cEqI (mA (f := 37) rfl rfl rfl) ?_)
    refine aAload_n (pc' := 99) dX10_passes_98 rfl rfl ?_
    refine aGetR (pc' := 102) (q := (73, 0)) dX10_passes_99 fX10_81 rfl rfl (lv (by decide)) rfl rfl ?_
    refine aIload_n (pc' := 103) dX10_passes_102 rfl rfl ?_
    refine aDup2 (pc' := 104) rfl rfl dX10_passes_103 rfl ?_
    refine aIald (pc' := 105) (j := p) dX10_passes_104 rfl (lv (by decide)) rfl h1 rfl ?_
    refine aTopEq (y := ((sU (sU S 28 p 0) 37 p 0) 33 p)) rfl ?_
    refine aTopEq ((sU_f rfl).trans (sU_f rfl)) ?_
    refine aIconst (pc' := 106) ⟨by decide, by decide⟩ dX10_passes_105 rfl ?_
    obtain ⟨h2, hw⟩ := hw
    refine aIadd (pc' := 107) h2.1 h2.2 dX10_passes_106 rfl ?_
    refine aIast (pc' := 108) (j := p) dX10_passes_107 rfl (lv (by decide)) rfl h1 rfl (cEqI (mA (f := 33) rfl rfl rfl) ?_)
    refine aAload_n (pc' := 109) dX10_passes_108 rfl rfl ?_
    refine aGetR (pc' := 112) (q := (73, 0)) dX10_passes_109 fX10_81 rfl rfl (lv (by decide)) rfl rfl ?_
    refine aIload_n (pc' := 113) dX10_passes_112 rfl rfl ?_
    refine aIald (pc' := 114) (j := p) dX10_passes_113 rfl (lv (by decide)) rfl h1 rfl ?_
    refine aTopEq (y := ((sU (sU (sU S 28 p 0) 37 p 0) 33 p (((S 33 p) + 1))) 33 p)) rfl ?_
    refine aTopEq sU_s ?_
    refine aAload_n (pc' := 115) dX10_passes_114 rfl rfl ?_
    refine aGetR (pc' := 118) (q := (51, 0)) dX10_passes_115 fX10_36 rfl rfl (lv (by decide)) rfl rfl ?_
    refine aIload_n (pc' := 119) dX10_passes_118 rfl rfl ?_
    refine aIald (pc' := 120) (j := p) dX10_passes_119 rfl (lv (by decide)) rfl h1 rfl ?_
    refine aTopEq (y := ((sU (sU (sU S 28 p 0) 37 p 0) 33 p (((S 33 p) + 1))) 11 p)) rfl ?_
    refine aTopEq (((sU_f rfl).trans (sU_f rfl)).trans (sU_f rfl)) ?_
    refine aIcmp_ge (tgt := 124) (pc' := 123) dX10_passes_120 (by decide) rfl (fun hc => ?_) (fun hc => ?_)
    · have hw := hw.1 hc
      refine aAload_n (pc' := 125) dX10_passes_124 rfl rfl ?_
      refine aGetR (pc' := 128) (q := (73, 0)) dX10_passes_125 fX10_81 rfl rfl (lv (by decide)) rfl rfl ?_
      refine aIload_n (pc' := 129) dX10_passes_128 rfl rfl ?_
      refine aIconst (pc' := 130) ⟨by decide, by decide⟩ dX10_passes_129 rfl ?_
      refine aIast (pc' := 131) (j := p) dX10_passes_130 rfl (lv (by decide)) rfl h1 rfl (cEqI (mA (f := 33) rfl rfl rfl) ?_)
      refine aAload_n (pc' := 132) dX10_passes_131 rfl rfl ?_
      refine aGetR (pc' := 135) (q := (80, 0)) dX10_passes_132 fX10_102 rfl rfl (lv (by decide)) rfl rfl ?_
      refine aIload_n (pc' := 136) dX10_passes_135 rfl rfl ?_
      refine aAload_n (pc' := 137) dX10_passes_136 rfl rfl ?_
      refine aGetR (pc' := 140) (q := (72, 0)) dX10_passes_137 fX10_78 rfl rfl (lv (by decide)) rfl rfl ?_
      refine aIload_n (pc' := 141) dX10_passes_140 rfl rfl ?_
      refine aIald (pc' := 142) (j := p) dX10_passes_141 rfl (lv (by decide)) rfl h1 rfl ?_
      refine aTopEq (y := ((sU (sU (sU (sU S 28 p 0) 37 p 0) 33 p (((S 33 p) + 1))) 33 p 0) 32 p)) rfl ?_
      refine aTopEq ((((sU_f rfl).trans (sU_f rfl)).trans (sU_f rfl)).trans (sU_f rfl)) ?_
      refine aIf_le (tgt := 171) (pc' := 145) dX10_passes_142 (by decide) rfl (fun hc => ?_) (fun hc => ?_)
      · have hw := hw.1 hc
        refine aIconst (pc' := 172) ⟨by decide, by decide⟩ dX10_passes_171 rfl ?_
        refine aIast (pc' := 173) (j := p) dX10_passes_172 rfl (lv (by decide)) rfl h1 rfl (cEqI (mA (f := 40) rfl rfl rfl) ?_)
        refine aAload_n (pc' := 174) dX10_passes_173 rfl rfl ?_
        refine aGetR (pc' := 177) (q := (81, 0)) dX10_passes_174 fX10_105 rfl rfl (lv (by decide)) rfl rfl ?_
        refine aIload_n (pc' := 178) dX10_passes_177 rfl rfl ?_
        refine aAload_n (pc' := 179) dX10_passes_178 rfl rfl ?_
        refine aGetR (pc' := 182) (q := (71, 0)) dX10_passes_179 fX10_75 rfl rfl (lv (by decide)) rfl rfl ?_
        refine aIload_n (pc' := 183) dX10_passes_182 rfl rfl ?_
        refine aIald (pc' := 184) (j := p) dX10_passes_183 rfl (lv (by decide)) rfl h1 rfl ?_
        refine aTopEq (y := ((sU (sU (sU (sU (sU S 28 p 0) 37 p 0) 33 p (((S 33 p) + 1))) 33 p 0) 40 p 0) 31 p)) rfl ?_
        refine aTopEq (((((sU_f rfl).trans (sU_f rfl)).trans (sU_f rfl)).trans (sU_f rfl)).trans (sU_f rfl)) ?_
        refine aIast (pc' := 185) (j := p) dX10_passes_184 rfl (lv (by decide)) rfl h1 rfl (cEqI (mA (f := 41) rfl rfl rfl) ?_)
        refine aAload_n (pc' := 186) dX10_passes_185 rfl rfl ?_
        refine aGetR (pc' := 189) (q := (72, 0)) dX10_passes_186 fX10_78 rfl rfl (lv (by decide)) rfl rfl ?_
        refine aIload_n (pc' := 190) dX10_passes_189 rfl rfl ?_
        refine aDup2 (pc' := 191) rfl rfl dX10_passes_190 rfl ?_
        refine aIald (pc' := 192) (j := p) dX10_passes_191 rfl (lv (by decide)) rfl h1 rfl ?_
        refine aTopEq (y := ((sU (sU (sU (sU (sU (sU S 28 p 0) 37 p 0) 33 p (((S 33 p) + 1))) 33 p 0) 40 p 0) 41 p ((S 31 p))) 32 p)) rfl ?_
        refine aTopEq ((((((sU_f rfl).trans (sU_f rfl)).trans (sU_f rfl)).trans (sU_f rfl)).trans (sU_f rfl)).trans (sU_f rfl)) ?_
        refine aIconst (pc' := 193) ⟨by decide, by decide⟩ dX10_passes_192 rfl ?_
        obtain ⟨h3, hw⟩ := hw
        refine aIadd (pc' := 194) h3.1 h3.2 dX10_passes_193 rfl ?_
        refine aIast (pc' := 195) (j := p) dX10_passes_194 rfl (lv (by decide)) rfl h1 rfl (cEqI (mA (f := 32) rfl rfl rfl) ?_)
        refine aAload_n (pc' := 196) dX10_passes_195 rfl rfl ?_
        refine aGetR (pc' := 199) (q := (80, 0)) dX10_passes_196 fX10_102 rfl rfl (lv (by decide)) rfl rfl ?_
        refine aIload_n (pc' := 200) dX10_passes_199 rfl rfl ?_
        refine aIald (pc' := 201) (j := p) dX10_passes_200 rfl (lv (by decide)) rfl h1 rfl ?_
        refine aTopEq (y := ((sU (sU (sU (sU (sU (sU (sU S 28 p 0) 37 p 0) 33 p (((S 33 p) + 1))) 33 p 0) 40 p 0) 41 p ((S 31 p))) 32 p (((S 32 p) + 1))) 40 p)) rfl ?_
        refine aTopEq (((sU_f rfl).trans (sU_f rfl)).trans (sU_s)) ?_
        refine aIconst (pc' := 202) ⟨by decide, by decide⟩ dX10_passes_201 rfl ?_
        refine aIcmp_lt (tgt := 234) (pc' := 205) dX10_passes_202 (by decide) rfl (fun hc => ?_) (fun hc => ?_)
        · refine aAload_n (pc' := 235) dX10_passes_234 rfl rfl ?_
          refine aGetR (pc' := 238) (q := (72, 0)) dX10_passes_235 fX10_78 rfl rfl (lv (by decide)) rfl rfl ?_
          refine aIload_n (pc' := 239) dX10_passes_238 rfl rfl ?_
          refine aIald (pc' := 240) (j := p) dX10_passes_239 rfl (lv (by decide)) rfl h1 rfl ?_
          refine aTopEq (y := ((sU (sU (sU (sU (sU (sU (sU S 28 p 0) 37 p 0) 33 p (((S 33 p) + 1))) 33 p 0) 40 p 0) 41 p ((S 31 p))) 32 p (((S 32 p) + 1))) 32 p)) rfl ?_
          refine aTopEq sU_s ?_
          refine aAload_n (pc' := 241) dX10_passes_240 rfl rfl ?_
          refine aGetR (pc' := 244) (q := (54, 0)) dX10_passes_241 fX10_45 rfl rfl (lv (by decide)) rfl rfl ?_
          refine aIload_n (pc' := 245) dX10_passes_244 rfl rfl ?_
          refine aIald (pc' := 246) (j := p) dX10_passes_245 rfl (lv (by decide)) rfl h1 rfl ?_
          refine aTopEq (y := ((sU (sU (sU (sU (sU (sU (sU S 28 p 0) 37 p 0) 33 p (((S 33 p) + 1))) 33 p 0) 40 p 0) 41 p ((S 31 p))) 32 p (((S 32 p) + 1))) 14 p)) rfl ?_
          refine aTopEq (((((((sU_f rfl).trans (sU_f rfl)).trans (sU_f rfl)).trans (sU_f rfl)).trans (sU_f rfl)).trans (sU_f rfl)).trans (sU_f rfl)) ?_
          refine aIcmp_ne (tgt := 255) (pc' := 249) dX10_passes_246 (by decide) rfl (fun hc => ?_) (fun hc => ?_)
          · have hw := hw.1 hc
            exact cVret dX10_passes_255 okX10_passes rfl ⟨rfl, rfl, _, rfl, hw⟩
          · have hw := hw.2 hc
            refine aAload_n (pc' := 250) dX10_passes_249 rfl rfl ?_
            refine aIload_n (pc' := 251) dX10_passes_250 rfl rfl ?_
            refine aIconst (pc' := 252) ⟨by decide, by decide⟩ dX10_passes_251 rfl ?_
            refine cVV (c := 10) (pc' := 255) [aI ((p : Int)), aI 3] dX10_passes_252 lX10_230 okX10_isOver ⟨by decide, by decide⟩ npX10_isOver rfl rfl rfl rfl rfl (by decide) rfl (cMetV_mono hw (fun J6 hw => ?_))
            obtain ⟨S5, rfl, hw⟩ := hw
            exact cVret dX10_passes_255 okX10_passes rfl ⟨rfl, rfl, _, rfl, hw⟩
        · exact absurd hc (by decide)
      · have hw := hw.2 hc
        refine aAload_n (pc' := 146) dX10_passes_145 rfl rfl ?_
        refine aGetR (pc' := 149) (q := (71, 0)) dX10_passes_146 fX10_75 rfl rfl (lv (by decide)) rfl rfl ?_
        refine aIload_n (pc' := 150) dX10_passes_149 rfl rfl ?_
        refine aIald (pc' := 151) (j := p) dX10_passes_150 rfl (lv (by decide)) rfl h1 rfl ?_
        refine aTopEq (y := ((sU (sU (sU (sU S 28 p 0) 37 p 0) 33 p (((S 33 p) + 1))) 33 p 0) 31 p)) rfl ?_
        refine aTopEq ((((sU_f rfl).trans (sU_f rfl)).trans (sU_f rfl)).trans (sU_f rfl)) ?_
        refine aAload_n (pc' := 152) dX10_passes_151 rfl rfl ?_
        refine aGetR (pc' := 155) (q := (81, 0)) dX10_passes_152 fX10_105 rfl rfl (lv (by decide)) rfl rfl ?_
        refine aIload_n (pc' := 156) dX10_passes_155 rfl rfl ?_
        refine aIald (pc' := 157) (j := p) dX10_passes_156 rfl (lv (by decide)) rfl h1 rfl ?_
        refine aTopEq (y := ((sU (sU (sU (sU S 28 p 0) 37 p 0) 33 p (((S 33 p) + 1))) 33 p 0) 41 p)) rfl ?_
        refine aTopEq ((((sU_f rfl).trans (sU_f rfl)).trans (sU_f rfl)).trans (sU_f rfl)) ?_
        refine aIcmp_le (tgt := 171) (pc' := 160) dX10_passes_157 (by decide) rfl (fun hc => ?_) (fun hc => ?_)
        · have hw := hw.1 hc
          refine aIconst (pc' := 172) ⟨by decide, by decide⟩ dX10_passes_171 rfl ?_
          refine aIast (pc' := 173) (j := p) dX10_passes_172 rfl (lv (by decide)) rfl h1 rfl (cEqI (mA (f := 40) rfl rfl rfl) ?_)
          refine aAload_n (pc' := 174) dX10_passes_173 rfl rfl ?_
          refine aGetR (pc' := 177) (q := (81, 0)) dX10_passes_174 fX10_105 rfl rfl (lv (by decide)) rfl rfl ?_
          refine aIload_n (pc' := 178) dX10_passes_177 rfl rfl ?_
          refine aAload_n (pc' := 179) dX10_passes_178 rfl rfl ?_
          refine aGetR (pc' := 182) (q := (71, 0)) dX10_passes_179 fX10_75 rfl rfl (lv (by decide)) rfl rfl ?_
          refine aIload_n (pc' := 183) dX10_passes_182 rfl rfl ?_
          refine aIald (pc' := 184) (j := p) dX10_passes_183 rfl (lv (by decide)) rfl h1 rfl ?_
          refine aTopEq (y := ((sU (sU (sU (sU (sU S 28 p 0) 37 p 0) 33 p (((S 33 p) + 1))) 33 p 0) 40 p 0) 31 p)) rfl ?_
          refine aTopEq (((((sU_f rfl).trans (sU_f rfl)).trans (sU_f rfl)).trans (sU_f rfl)).trans (sU_f rfl)) ?_
          refine aIast (pc' := 185) (j := p) dX10_passes_184 rfl (lv (by decide)) rfl h1 rfl (cEqI (mA (f := 41) rfl rfl rfl) ?_)
          refine aAload_n (pc' := 186) dX10_passes_185 rfl rfl ?_
          refine aGetR (pc' := 189) (q := (72, 0)) dX10_passes_186 fX10_78 rfl rfl (lv (by decide)) rfl rfl ?_
          refine aIload_n (pc' := 190) dX10_passes_189 rfl rfl ?_
          refine aDup2 (pc' := 191) rfl rfl dX10_passes_190 rfl ?_
          refine aIald (pc' := 192) (j := p) dX10_passes_191 rfl (lv (by decide)) rfl h1 rfl ?_
          refine aTopEq (y := ((sU (sU (sU (sU (sU (sU S 28 p 0) 37 p 0) 33 p (((S 33 p) + 1))) 33 p 0) 40 p 0) 41 p ((S 31 p))) 32 p)) rfl ?_
          refine aTopEq ((((((sU_f rfl).trans (sU_f rfl)).trans (sU_f rfl)).trans (sU_f rfl)).trans (sU_f rfl)).trans (sU_f rfl)) ?_
          refine aIconst (pc' := 193) ⟨by decide, by decide⟩ dX10_passes_192 rfl ?_
          obtain ⟨h7, hw⟩ := hw
          refine aIadd (pc' := 194) h7.1 h7.2 dX10_passes_193 rfl ?_
          refine aIast (pc' := 195) (j := p) dX10_passes_194 rfl (lv (by decide)) rfl h1 rfl (cEqI (mA (f := 32) rfl rfl rfl) ?_)
          refine aAload_n (pc' := 196) dX10_passes_195 rfl rfl ?_
          refine aGetR (pc' := 199) (q := (80, 0)) dX10_passes_196 fX10_102 rfl rfl (lv (by decide)) rfl rfl ?_
          refine aIload_n (pc' := 200) dX10_passes_199 rfl rfl ?_
          refine aIald (pc' := 201) (j := p) dX10_passes_200 rfl (lv (by decide)) rfl h1 rfl ?_
          refine aTopEq (y := ((sU (sU (sU (sU (sU (sU (sU S 28 p 0) 37 p 0) 33 p (((S 33 p) + 1))) 33 p 0) 40 p 0) 41 p ((S 31 p))) 32 p (((S 32 p) + 1))) 40 p)) rfl ?_
          refine aTopEq (((sU_f rfl).trans (sU_f rfl)).trans (sU_s)) ?_
          refine aIconst (pc' := 202) ⟨by decide, by decide⟩ dX10_passes_201 rfl ?_
          refine aIcmp_lt (tgt := 234) (pc' := 205) dX10_passes_202 (by decide) rfl (fun hc => ?_) (fun hc => ?_)
          · refine aAload_n (pc' := 235) dX10_passes_234 rfl rfl ?_
            refine aGetR (pc' := 238) (q := (72, 0)) dX10_passes_235 fX10_78 rfl rfl (lv (by decide)) rfl rfl ?_
            refine aIload_n (pc' := 239) dX10_passes_238 rfl rfl ?_
            refine aIald (pc' := 240) (j := p) dX10_passes_239 rfl (lv (by decide)) rfl h1 rfl ?_
            refine aTopEq (y := ((sU (sU (sU (sU (sU (sU (sU S 28 p 0) 37 p 0) 33 p (((S 33 p) + 1))) 33 p 0) 40 p 0) 41 p ((S 31 p))) 32 p (((S 32 p) + 1))) 32 p)) rfl ?_
            refine aTopEq sU_s ?_
            refine aAload_n (pc' := 241) dX10_passes_240 rfl rfl ?_
            refine aGetR (pc' := 244) (q := (54, 0)) dX10_passes_241 fX10_45 rfl rfl (lv (by decide)) rfl rfl ?_
            refine aIload_n (pc' := 245) dX10_passes_244 rfl rfl ?_
            refine aIald (pc' := 246) (j := p) dX10_passes_245 rfl (lv (by decide)) rfl h1 rfl ?_
            refine aTopEq (y := ((sU (sU (sU (sU (sU (sU (sU S 28 p 0) 37 p 0) 33 p (((S 33 p) + 1))) 33 p 0) 40 p 0) 41 p ((S 31 p))) 32 p (((S 32 p) + 1))) 14 p)) rfl ?_
            refine aTopEq (((((((sU_f rfl).trans (sU_f rfl)).trans (sU_f rfl)).trans (sU_f rfl)).trans (sU_f rfl)).trans (sU_f rfl)).trans (sU_f rfl)) ?_
            refine aIcmp_ne (tgt := 255) (pc' := 249) dX10_passes_246 (by decide) rfl (fun hc => ?_) (fun hc => ?_)
            · have hw := hw.1 hc
              exact cVret dX10_passes_255 okX10_passes rfl ⟨rfl, rfl, _, rfl, hw⟩
            · have hw := hw.2 hc
              refine aAload_n (pc' := 250) dX10_passes_249 rfl rfl ?_
              refine aIload_n (pc' := 251) dX10_passes_250 rfl rfl ?_
              refine aIconst (pc' := 252) ⟨by decide, by decide⟩ dX10_passes_251 rfl ?_
              refine cVV (c := 10) (pc' := 255) [aI ((p : Int)), aI 3] dX10_passes_252 lX10_230 okX10_isOver ⟨by decide, by decide⟩ npX10_isOver rfl rfl rfl rfl rfl (by decide) rfl (cMetV_mono hw (fun J10 hw => ?_))
              obtain ⟨S9, rfl, hw⟩ := hw
              exact cVret dX10_passes_255 okX10_passes rfl ⟨rfl, rfl, _, rfl, hw⟩
          · exact absurd hc (by decide)
        · have hw := hw.2 hc
          refine aAload_n (pc' := 161) dX10_passes_160 rfl rfl ?_
          refine aGetR (pc' := 164) (q := (80, 0)) dX10_passes_161 fX10_102 rfl rfl (lv (by decide)) rfl rfl ?_
          refine aIload_n (pc' := 165) dX10_passes_164 rfl rfl ?_
          refine aIald (pc' := 166) (j := p) dX10_passes_165 rfl (lv (by decide)) rfl h1 rfl ?_
          refine aTopEq (y := ((sU (sU (sU (sU S 28 p 0) 37 p 0) 33 p (((S 33 p) + 1))) 33 p 0) 40 p)) rfl ?_
          refine aTopEq ((((sU_f rfl).trans (sU_f rfl)).trans (sU_f rfl)).trans (sU_f rfl)) ?_
          refine aIconst (pc' := 167) ⟨by decide, by decide⟩ dX10_passes_166 rfl ?_
          obtain ⟨h11, hw⟩ := hw
          refine aIadd (pc' := 168) h11.1 h11.2 dX10_passes_167 rfl ?_
          refine aGoto (pc' := 172) dX10_passes_168 (by decide) ?_
          refine aIast (pc' := 173) (j := p) dX10_passes_172 rfl (lv (by decide)) rfl h1 rfl (cEqI (mA (f := 40) rfl rfl rfl) ?_)
          refine aAload_n (pc' := 174) dX10_passes_173 rfl rfl ?_
          refine aGetR (pc' := 177) (q := (81, 0)) dX10_passes_174 fX10_105 rfl rfl (lv (by decide)) rfl rfl ?_
          refine aIload_n (pc' := 178) dX10_passes_177 rfl rfl ?_
          refine aAload_n (pc' := 179) dX10_passes_178 rfl rfl ?_
          refine aGetR (pc' := 182) (q := (71, 0)) dX10_passes_179 fX10_75 rfl rfl (lv (by decide)) rfl rfl ?_
          refine aIload_n (pc' := 183) dX10_passes_182 rfl rfl ?_
          refine aIald (pc' := 184) (j := p) dX10_passes_183 rfl (lv (by decide)) rfl h1 rfl ?_
          refine aTopEq (y := ((sU (sU (sU (sU (sU S 28 p 0) 37 p 0) 33 p (((S 33 p) + 1))) 33 p 0) 40 p (((S 40 p) + 1))) 31 p)) rfl ?_
          refine aTopEq (((((sU_f rfl).trans (sU_f rfl)).trans (sU_f rfl)).trans (sU_f rfl)).trans (sU_f rfl)) ?_
          refine aIast (pc' := 185) (j := p) dX10_passes_184 rfl (lv (by decide)) rfl h1 rfl (cEqI (mA (f := 41) rfl rfl rfl) ?_)
          refine aAload_n (pc' := 186) dX10_passes_185 rfl rfl ?_
          refine aGetR (pc' := 189) (q := (72, 0)) dX10_passes_186 fX10_78 rfl rfl (lv (by decide)) rfl rfl ?_
          refine aIload_n (pc' := 190) dX10_passes_189 rfl rfl ?_
          refine aDup2 (pc' := 191) rfl rfl dX10_passes_190 rfl ?_
          refine aIald (pc' := 192) (j := p) dX10_passes_191 rfl (lv (by decide)) rfl h1 rfl ?_
          refine aTopEq (y := ((sU (sU (sU (sU (sU (sU S 28 p 0) 37 p 0) 33 p (((S 33 p) + 1))) 33 p 0) 40 p (((S 40 p) + 1))) 41 p ((S 31 p))) 32 p)) rfl ?_
          refine aTopEq ((((((sU_f rfl).trans (sU_f rfl)).trans (sU_f rfl)).trans (sU_f rfl)).trans (sU_f rfl)).trans (sU_f rfl)) ?_
          refine aIconst (pc' := 193) ⟨by decide, by decide⟩ dX10_passes_192 rfl ?_
          obtain ⟨h12, hw⟩ := hw
          refine aIadd (pc' := 194) h12.1 h12.2 dX10_passes_193 rfl ?_
          refine aIast (pc' := 195) (j := p) dX10_passes_194 rfl (lv (by decide)) rfl h1 rfl (cEqI (mA (f := 32) rfl rfl rfl) ?_)
          refine aAload_n (pc' := 196) dX10_passes_195 rfl rfl ?_
          refine aGetR (pc' := 199) (q := (80, 0)) dX10_passes_196 fX10_102 rfl rfl (lv (by decide)) rfl rfl ?_
          refine aIload_n (pc' := 200) dX10_passes_199 rfl rfl ?_
          refine aIald (pc' := 201) (j := p) dX10_passes_200 rfl (lv (by decide)) rfl h1 rfl ?_
          refine aTopEq (y := ((sU (sU (sU (sU (sU (sU (sU S 28 p 0) 37 p 0) 33 p (((S 33 p) + 1))) 33 p 0) 40 p (((S 40 p) + 1))) 41 p ((S 31 p))) 32 p (((S 32 p) + 1))) 40 p)) rfl ?_
          refine aTopEq (((sU_f rfl).trans (sU_f rfl)).trans (sU_s)) ?_
          refine aIconst (pc' := 202) ⟨by decide, by decide⟩ dX10_passes_201 rfl ?_
          refine aIcmp_lt (tgt := 234) (pc' := 205) dX10_passes_202 (by decide) rfl (fun hc => ?_) (fun hc => ?_)
          · have hw := hw.1 hc
            refine aAload_n (pc' := 235) dX10_passes_234 rfl rfl ?_
            refine aGetR (pc' := 238) (q := (72, 0)) dX10_passes_235 fX10_78 rfl rfl (lv (by decide)) rfl rfl ?_
            refine aIload_n (pc' := 239) dX10_passes_238 rfl rfl ?_
            refine aIald (pc' := 240) (j := p) dX10_passes_239 rfl (lv (by decide)) rfl h1 rfl ?_
            refine aTopEq (y := ((sU (sU (sU (sU (sU (sU (sU S 28 p 0) 37 p 0) 33 p (((S 33 p) + 1))) 33 p 0) 40 p (((S 40 p) + 1))) 41 p ((S 31 p))) 32 p (((S 32 p) + 1))) 32 p)) rfl ?_
            refine aTopEq sU_s ?_
            refine aAload_n (pc' := 241) dX10_passes_240 rfl rfl ?_
            refine aGetR (pc' := 244) (q := (54, 0)) dX10_passes_241 fX10_45 rfl rfl (lv (by decide)) rfl rfl ?_
            refine aIload_n (pc' := 245) dX10_passes_244 rfl rfl ?_
            refine aIald (pc' := 246) (j := p) dX10_passes_245 rfl (lv (by decide)) rfl h1 rfl ?_
            refine aTopEq (y := ((sU (sU (sU (sU (sU (sU (sU S 28 p 0) 37 p 0) 33 p (((S 33 p) + 1))) 33 p 0) 40 p (((S 40 p) + 1))) 41 p ((S 31 p))) 32 p (((S 32 p) + 1))) 14 p)) rfl ?_
            refine aTopEq (((((((sU_f rfl).trans (sU_f rfl)).trans (sU_f rfl)).trans (sU_f rfl)).trans (sU_f rfl)).trans (sU_f rfl)).trans (sU_f rfl)) ?_
            refine aIcmp_ne (tgt := 255) (pc' := 249) dX10_passes_246 (by decide) rfl (fun hc => ?_) (fun hc => ?_)
            · have hw := hw.1 hc
              exact cVret dX10_passes_255 okX10_passes rfl ⟨rfl, rfl, _, rfl, hw⟩
            · have hw := hw.2 hc
              refine aAload_n (pc' := 250) dX10_passes_249 rfl rfl ?_
              refine aIload_n (pc' := 251) dX10_passes_250 rfl rfl ?_
              refine aIconst (pc' := 252) ⟨by decide, by decide⟩ dX10_passes_251 rfl ?_
              refine cVV (c := 10) (pc' := 255) [aI ((p : Int)), aI 3] dX10_passes_252 lX10_230 okX10_isOver ⟨by decide, by decide⟩ npX10_isOver rfl rfl rfl rfl rfl (by decide) rfl (cMetV_mono hw (fun J15 hw => ?_))
              obtain ⟨S14, rfl, hw⟩ := hw
              exact cVret dX10_passes_255 okX10_passes rfl ⟨rfl, rfl, _, rfl, hw⟩
          · have hw := hw.2 hc
            refine aAload_n (pc' := 206) dX10_passes_205 rfl rfl ?_
            refine aGetR (pc' := 209) (q := (82, 0)) dX10_passes_206 fX10_108 rfl rfl (lv (by decide)) rfl rfl ?_
            refine aIload_n (pc' := 210) dX10_passes_209 rfl rfl ?_
            refine aZald (pc' := 211) (j := p) dX10_passes_210 rfl (lv (by decide)) rfl h1 rfl ?_
            refine aTopEq (y := ((sU (sU (sU (sU (sU (sU (sU S 28 p 0) 37 p 0) 33 p (((S 33 p) + 1))) 33 p 0) 40 p (((S 40 p) + 1))) 41 p ((S 31 p))) 32 p (((S 32 p) + 1))) 42 p)) rfl ?_
            refine aTopEq (((((((sU_f rfl).trans (sU_f rfl)).trans (sU_f rfl)).trans (sU_f rfl)).trans (sU_f rfl)).trans (sU_f rfl)).trans (sU_f rfl)) ?_
            refine aIf_ne (tgt := 234) (pc' := 214) dX10_passes_211 (by decide) rfl (fun hc => ?_) (fun hc => ?_)
            · have hw := hw.1 hc
              refine aAload_n (pc' := 235) dX10_passes_234 rfl rfl ?_
              refine aGetR (pc' := 238) (q := (72, 0)) dX10_passes_235 fX10_78 rfl rfl (lv (by decide)) rfl rfl ?_
              refine aIload_n (pc' := 239) dX10_passes_238 rfl rfl ?_
              refine aIald (pc' := 240) (j := p) dX10_passes_239 rfl (lv (by decide)) rfl h1 rfl ?_
              refine aTopEq (y := ((sU (sU (sU (sU (sU (sU (sU S 28 p 0) 37 p 0) 33 p (((S 33 p) + 1))) 33 p 0) 40 p (((S 40 p) + 1))) 41 p ((S 31 p))) 32 p (((S 32 p) + 1))) 32 p)) rfl ?_
              refine aTopEq sU_s ?_
              refine aAload_n (pc' := 241) dX10_passes_240 rfl rfl ?_
              refine aGetR (pc' := 244) (q := (54, 0)) dX10_passes_241 fX10_45 rfl rfl (lv (by decide)) rfl rfl ?_
              refine aIload_n (pc' := 245) dX10_passes_244 rfl rfl ?_
              refine aIald (pc' := 246) (j := p) dX10_passes_245 rfl (lv (by decide)) rfl h1 rfl ?_
              refine aTopEq (y := ((sU (sU (sU (sU (sU (sU (sU S 28 p 0) 37 p 0) 33 p (((S 33 p) + 1))) 33 p 0) 40 p (((S 40 p) + 1))) 41 p ((S 31 p))) 32 p (((S 32 p) + 1))) 14 p)) rfl ?_
              refine aTopEq (((((((sU_f rfl).trans (sU_f rfl)).trans (sU_f rfl)).trans (sU_f rfl)).trans (sU_f rfl)).trans (sU_f rfl)).trans (sU_f rfl)) ?_
              refine aIcmp_ne (tgt := 255) (pc' := 249) dX10_passes_246 (by decide) rfl (fun hc => ?_) (fun hc => ?_)
              · have hw := hw.1 hc
                exact cVret dX10_passes_255 okX10_passes rfl ⟨rfl, rfl, _, rfl, hw⟩
              · have hw := hw.2 hc
                refine aAload_n (pc' := 250) dX10_passes_249 rfl rfl ?_
                refine aIload_n (pc' := 251) dX10_passes_250 rfl rfl ?_
                refine aIconst (pc' := 252) ⟨by decide, by decide⟩ dX10_passes_251 rfl ?_
                refine cVV (c := 10) (pc' := 255) [aI ((p : Int)), aI 3] dX10_passes_252 lX10_230 okX10_isOver ⟨by decide, by decide⟩ npX10_isOver rfl rfl rfl rfl rfl (by decide) rfl (cMetV_mono hw (fun J18 hw => ?_))
                obtain ⟨S17, rfl, hw⟩ := hw
                exact cVret dX10_passes_255 okX10_passes rfl ⟨rfl, rfl, _, rfl, hw⟩
            · have hw := hw.2 hc
              refine aAload_n (pc' := 215) dX10_passes_214 rfl rfl ?_
              refine aGetR (pc' := 218) (q := (82, 0)) dX10_passes_215 fX10_108 rfl rfl (lv (by decide)) rfl rfl ?_
              refine aIload_n (pc' := 219) dX10_passes_218 rfl rfl ?_
              refine aIconst (pc' := 220) ⟨by decide, by decide⟩ dX10_passes_219 rfl ?_
              refine aZast (pc' := 221) (j := p) dX10_passes_220 rfl (lv (by decide)) rfl h1 (by decide) rfl (cEqI (mA (f := 42) rfl rfl rfl) ?_)
              refine aAload_n (pc' := 222) dX10_passes_221 rfl rfl ?_
              refine aIload_n (pc' := 223) dX10_passes_222 rfl rfl ?_
              refine aBipush (pc' := 225) ⟨by decide, by decide⟩ dX10_passes_223 rfl ?_
              refine aAload_n (pc' := 226) dX10_passes_225 rfl rfl ?_
              refine aGetR (pc' := 229) (q := (71, 0)) dX10_passes_226 fX10_75 rfl rfl (lv (by decide)) rfl rfl ?_
              refine aIload_n (pc' := 230) dX10_passes_229 rfl rfl ?_
              refine aIald (pc' := 231) (j := p) dX10_passes_230 rfl (lv (by decide)) rfl h1 rfl ?_
              refine aTopEq (y := ((sU (sU (sU (sU (sU (sU (sU (sU S 28 p 0) 37 p 0) 33 p (((S 33 p) + 1))) 33 p 0) 40 p (((S 40 p) + 1))) 41 p ((S 31 p))) 32 p (((S 32 p) + 1))) 42 p 1) 31 p)) rfl ?_
              refine aTopEq ((((((((sU_f rfl).trans (sU_f rfl)).trans (sU_f rfl)).trans (sU_f rfl)).trans (sU_f rfl)).trans (sU_f rfl)).trans (sU_f rfl)).trans (sU_f rfl)) ?_
              refine cVV (c := 10) (pc' := 234) [aI ((p : Int)), aI 7, aI ((S 31 p))] dX10_passes_231 lX10_215 okX10_tells ⟨by decide, by decide⟩ npX10_tells rfl rfl rfl rfl rfl (by decide) rfl (cMetV_mono hw (fun J21 hw => ?_))
              obtain ⟨S20, rfl, hw⟩ := hw
              refine aAload_n (pc' := 235) dX10_passes_234 rfl rfl ?_
              refine aGetR (pc' := 238) (q := (72, 0)) dX10_passes_235 fX10_78 rfl rfl (lv (by decide)) rfl rfl ?_
              refine aIload_n (pc' := 239) dX10_passes_238 rfl rfl ?_
              refine aIald (pc' := 240) (j := p) dX10_passes_239 rfl (lv (by decide)) rfl h1 rfl ?_
              refine aTopEq (y := (S20 32 p)) rfl ?_
              refine aAload_n (pc' := 241) dX10_passes_240 rfl rfl ?_
              refine aGetR (pc' := 244) (q := (54, 0)) dX10_passes_241 fX10_45 rfl rfl (lv (by decide)) rfl rfl ?_
              refine aIload_n (pc' := 245) dX10_passes_244 rfl rfl ?_
              refine aIald (pc' := 246) (j := p) dX10_passes_245 rfl (lv (by decide)) rfl h1 rfl ?_
              refine aTopEq (y := (S20 14 p)) rfl ?_
              refine aIcmp_ne (tgt := 255) (pc' := 249) dX10_passes_246 (by decide) rfl (fun hc => ?_) (fun hc => ?_)
              · have hw := hw.1 hc
                exact cVret dX10_passes_255 okX10_passes rfl ⟨rfl, rfl, _, rfl, hw⟩
              · have hw := hw.2 hc
                refine aAload_n (pc' := 250) dX10_passes_249 rfl rfl ?_
                refine aIload_n (pc' := 251) dX10_passes_250 rfl rfl ?_
                refine aIconst (pc' := 252) ⟨by decide, by decide⟩ dX10_passes_251 rfl ?_
                refine cVV (c := 10) (pc' := 255) [aI ((p : Int)), aI 3] dX10_passes_252 lX10_230 okX10_isOver ⟨by decide, by decide⟩ npX10_isOver rfl rfl rfl rfl rfl (by decide) rfl (cMetV_mono hw (fun J24 hw => ?_))
                obtain ⟨S23, rfl, hw⟩ := hw
                exact cVret dX10_passes_255 okX10_passes rfl ⟨rfl, rfl, _, rfl, hw⟩
    · have hw := hw.2 hc
      exact cVret dX10_passes_123 okX10_passes rfl ⟨rfl, rfl, _, rfl, hw⟩
  · have hw := hw.2 hc
    refine aAload_n (pc' := 11) dX10_passes_10 rfl rfl ?_
    refine aGetR (pc' := 14) (q := (83, 0)) dX10_passes_11 fX10_112 rfl rfl (lv (by decide)) rfl rfl ?_
    refine aIload_n (pc' := 15) dX10_passes_14 rfl rfl ?_
    refine aZald (pc' := 16) (j := p) dX10_passes_15 rfl (lv (by decide)) rfl h1 rfl ?_
    refine aTopEq (y := (S 43 p)) rfl ?_
    refine aIf_eq (tgt := 84) (pc' := 19) dX10_passes_16 (by decide) rfl (fun hc => ?_) (fun hc => ?_)
    · have hw := hw.1 hc
      refine aAload_n (pc' := 85) dX10_passes_84 rfl rfl ?_
      refine aGetR (pc' := 88) (q := (68, 0)) dX10_passes_85 fX10_66 rfl rfl (lv (by decide)) rfl rfl ?_
      refine aIload_n (pc' := 89) dX10_passes_88 rfl rfl ?_
      refine aIconst (pc' := 90) ⟨by decide, by decide⟩ dX10_passes_89 rfl ?_
      refine aIast (pc' := 91) (j := p) dX10_passes_90 rfl (lv (by decide)) rfl h1 rfl (cEqI (mA (f := 28) rfl rfl rfl) ?_)
      refine aAload_n (pc' := 92) dX10_passes_91 rfl rfl ?_
      refine aGetR (pc' := 95) (q := (77, 0)) dX10_passes_92 fX10_93 rfl rfl (lv (by decide)) rfl rfl ?_
      refine aIload_n (pc' := 96) dX10_passes_95 rfl rfl ?_
      refine aIconst (pc' := 97) ⟨by decide, by decide⟩ dX10_passes_96 rfl ?_
      refine aIast (pc' := 98) (j := p) dX10_passes_97 rfl (lv (by decide)) rfl h1 rfl (cEqI (mA (f := 37) rfl rfl rfl) ?_)
      refine aAload_n (pc' := 99) dX10_passes_98 rfl rfl ?_
      refine aGetR (pc' := 102) (q := (73, 0)) dX10_passes_99 fX10_81 rfl rfl (lv (by decide)) rfl rfl ?_
      refine aIload_n (pc' := 103) dX10_passes_102 rfl rfl ?_
      refine aDup2 (pc' := 104) rfl rfl dX10_passes_103 rfl ?_
      refine aIald (pc' := 105) (j := p) dX10_passes_104 rfl (lv (by decide)) rfl h1 rfl ?_
      refine aTopEq (y := ((sU (sU S 28 p 0) 37 p 0) 33 p)) rfl ?_
      refine aTopEq ((sU_f rfl).trans (sU_f rfl)) ?_
      refine aIconst (pc' := 106) ⟨by decide, by decide⟩ dX10_passes_105 rfl ?_
      obtain ⟨h25, hw⟩ := hw
      refine aIadd (pc' := 107) h25.1 h25.2 dX10_passes_106 rfl ?_
      refine aIast (pc' := 108) (j := p) dX10_passes_107 rfl (lv (by decide)) rfl h1 rfl (cEqI (mA (f := 33) rfl rfl rfl) ?_)
      refine aAload_n (pc' := 109) dX10_passes_108 rfl rfl ?_
      refine aGetR (pc' := 112) (q := (73, 0)) dX10_passes_109 fX10_81 rfl rfl (lv (by decide)) rfl rfl ?_
      refine aIload_n (pc' := 113) dX10_passes_112 rfl rfl ?_
      refine aIald (pc' := 114) (j := p) dX10_passes_113 rfl (lv (by decide)) rfl h1 rfl ?_
      refine aTopEq (y := ((sU (sU (sU S 28 p 0) 37 p 0) 33 p (((S 33 p) + 1))) 33 p)) rfl ?_
      refine aTopEq sU_s ?_
      refine aAload_n (pc' := 115) dX10_passes_114 rfl rfl ?_
      refine aGetR (pc' := 118) (q := (51, 0)) dX10_passes_115 fX10_36 rfl rfl (lv (by decide)) rfl rfl ?_
      refine aIload_n (pc' := 119) dX10_passes_118 rfl rfl ?_
      refine aIald (pc' := 120) (j := p) dX10_passes_119 rfl (lv (by decide)) rfl h1 rfl ?_
      refine aTopEq (y := ((sU (sU (sU S 28 p 0) 37 p 0) 33 p (((S 33 p) + 1))) 11 p)) rfl ?_
      refine aTopEq (((sU_f rfl).trans (sU_f rfl)).trans (sU_f rfl)) ?_
      refine aIcmp_ge (tgt := 124) (pc' := 123) dX10_passes_120 (by decide) rfl (fun hc => ?_) (fun hc => ?_)
      · have hw := hw.1 hc
        refine aAload_n (pc' := 125) dX10_passes_124 rfl rfl ?_
        refine aGetR (pc' := 128) (q := (73, 0)) dX10_passes_125 fX10_81 rfl rfl (lv (by decide)) rfl rfl ?_
        refine aIload_n (pc' := 129) dX10_passes_128 rfl rfl ?_
        refine aIconst (pc' := 130) ⟨by decide, by decide⟩ dX10_passes_129 rfl ?_
        refine aIast (pc' := 131) (j := p) dX10_passes_130 rfl (lv (by decide)) rfl h1 rfl (cEqI (mA (f := 33) rfl rfl rfl) ?_)
        refine aAload_n (pc' := 132) dX10_passes_131 rfl rfl ?_
        refine aGetR (pc' := 135) (q := (80, 0)) dX10_passes_132 fX10_102 rfl rfl (lv (by decide)) rfl rfl ?_
        refine aIload_n (pc' := 136) dX10_passes_135 rfl rfl ?_
        refine aAload_n (pc' := 137) dX10_passes_136 rfl rfl ?_
        refine aGetR (pc' := 140) (q := (72, 0)) dX10_passes_137 fX10_78 rfl rfl (lv (by decide)) rfl rfl ?_
        refine aIload_n (pc' := 141) dX10_passes_140 rfl rfl ?_
        refine aIald (pc' := 142) (j := p) dX10_passes_141 rfl (lv (by decide)) rfl h1 rfl ?_
        refine aTopEq (y := ((sU (sU (sU (sU S 28 p 0) 37 p 0) 33 p (((S 33 p) + 1))) 33 p 0) 32 p)) rfl ?_
        refine aTopEq ((((sU_f rfl).trans (sU_f rfl)).trans (sU_f rfl)).trans (sU_f rfl)) ?_
        refine aIf_le (tgt := 171) (pc' := 145) dX10_passes_142 (by decide) rfl (fun hc => ?_) (fun hc => ?_)
        · have hw := hw.1 hc
          refine aIconst (pc' := 172) ⟨by decide, by decide⟩ dX10_passes_171 rfl ?_
          refine aIast (pc' := 173) (j := p) dX10_passes_172 rfl (lv (by decide)) rfl h1 rfl (cEqI (mA (f := 40) rfl rfl rfl) ?_)
          refine aAload_n (pc' := 174) dX10_passes_173 rfl rfl ?_
          refine aGetR (pc' := 177) (q := (81, 0)) dX10_passes_174 fX10_105 rfl rfl (lv (by decide)) rfl rfl ?_
          refine aIload_n (pc' := 178) dX10_passes_177 rfl rfl ?_
          refine aAload_n (pc' := 179) dX10_passes_178 rfl rfl ?_
          refine aGetR (pc' := 182) (q := (71, 0)) dX10_passes_179 fX10_75 rfl rfl (lv (by decide)) rfl rfl ?_
          refine aIload_n (pc' := 183) dX10_passes_182 rfl rfl ?_
          refine aIald (pc' := 184) (j := p) dX10_passes_183 rfl (lv (by decide)) rfl h1 rfl ?_
          refine aTopEq (y := ((sU (sU (sU (sU (sU S 28 p 0) 37 p 0) 33 p (((S 33 p) + 1))) 33 p 0) 40 p 0) 31 p)) rfl ?_
          refine aTopEq (((((sU_f rfl).trans (sU_f rfl)).trans (sU_f rfl)).trans (sU_f rfl)).trans (sU_f rfl)) ?_
          refine aIast (pc' := 185) (j := p) dX10_passes_184 rfl (lv (by decide)) rfl h1 rfl (cEqI (mA (f := 41) rfl rfl rfl) ?_)
          refine aAload_n (pc' := 186) dX10_passes_185 rfl rfl ?_
          refine aGetR (pc' := 189) (q := (72, 0)) dX10_passes_186 fX10_78 rfl rfl (lv (by decide)) rfl rfl ?_
          refine aIload_n (pc' := 190) dX10_passes_189 rfl rfl ?_
          refine aDup2 (pc' := 191) rfl rfl dX10_passes_190 rfl ?_
          refine aIald (pc' := 192) (j := p) dX10_passes_191 rfl (lv (by decide)) rfl h1 rfl ?_
          refine aTopEq (y := ((sU (sU (sU (sU (sU (sU S 28 p 0) 37 p 0) 33 p (((S 33 p) + 1))) 33 p 0) 40 p 0) 41 p ((S 31 p))) 32 p)) rfl ?_
          refine aTopEq ((((((sU_f rfl).trans (sU_f rfl)).trans (sU_f rfl)).trans (sU_f rfl)).trans (sU_f rfl)).trans (sU_f rfl)) ?_
          refine aIconst (pc' := 193) ⟨by decide, by decide⟩ dX10_passes_192 rfl ?_
          obtain ⟨h26, hw⟩ := hw
          refine aIadd (pc' := 194) h26.1 h26.2 dX10_passes_193 rfl ?_
          refine aIast (pc' := 195) (j := p) dX10_passes_194 rfl (lv (by decide)) rfl h1 rfl (cEqI (mA (f := 32) rfl rfl rfl) ?_)
          refine aAload_n (pc' := 196) dX10_passes_195 rfl rfl ?_
          refine aGetR (pc' := 199) (q := (80, 0)) dX10_passes_196 fX10_102 rfl rfl (lv (by decide)) rfl rfl ?_
          refine aIload_n (pc' := 200) dX10_passes_199 rfl rfl ?_
          refine aIald (pc' := 201) (j := p) dX10_passes_200 rfl (lv (by decide)) rfl h1 rfl ?_
          refine aTopEq (y := ((sU (sU (sU (sU (sU (sU (sU S 28 p 0) 37 p 0) 33 p (((S 33 p) + 1))) 33 p 0) 40 p 0) 41 p ((S 31 p))) 32 p (((S 32 p) + 1))) 40 p)) rfl ?_
          refine aTopEq (((sU_f rfl).trans (sU_f rfl)).trans (sU_s)) ?_
          refine aIconst (pc' := 202) ⟨by decide, by decide⟩ dX10_passes_201 rfl ?_
          refine aIcmp_lt (tgt := 234) (pc' := 205) dX10_passes_202 (by decide) rfl (fun hc => ?_) (fun hc => ?_)
          · refine aAload_n (pc' := 235) dX10_passes_234 rfl rfl ?_
            refine aGetR (pc' := 238) (q := (72, 0)) dX10_passes_235 fX10_78 rfl rfl (lv (by decide)) rfl rfl ?_
            refine aIload_n (pc' := 239) dX10_passes_238 rfl rfl ?_
            refine aIald (pc' := 240) (j := p) dX10_passes_239 rfl (lv (by decide)) rfl h1 rfl ?_
            refine aTopEq (y := ((sU (sU (sU (sU (sU (sU (sU S 28 p 0) 37 p 0) 33 p (((S 33 p) + 1))) 33 p 0) 40 p 0) 41 p ((S 31 p))) 32 p (((S 32 p) + 1))) 32 p)) rfl ?_
            refine aTopEq sU_s ?_
            refine aAload_n (pc' := 241) dX10_passes_240 rfl rfl ?_
            refine aGetR (pc' := 244) (q := (54, 0)) dX10_passes_241 fX10_45 rfl rfl (lv (by decide)) rfl rfl ?_
            refine aIload_n (pc' := 245) dX10_passes_244 rfl rfl ?_
            refine aIald (pc' := 246) (j := p) dX10_passes_245 rfl (lv (by decide)) rfl h1 rfl ?_
            refine aTopEq (y := ((sU (sU (sU (sU (sU (sU (sU S 28 p 0) 37 p 0) 33 p (((S 33 p) + 1))) 33 p 0) 40 p 0) 41 p ((S 31 p))) 32 p (((S 32 p) + 1))) 14 p)) rfl ?_
            refine aTopEq (((((((sU_f rfl).trans (sU_f rfl)).trans (sU_f rfl)).trans (sU_f rfl)).trans (sU_f rfl)).trans (sU_f rfl)).trans (sU_f rfl)) ?_
            refine aIcmp_ne (tgt := 255) (pc' := 249) dX10_passes_246 (by decide) rfl (fun hc => ?_) (fun hc => ?_)
            · have hw := hw.1 hc
              exact cVret dX10_passes_255 okX10_passes rfl ⟨rfl, rfl, _, rfl, hw⟩
            · have hw := hw.2 hc
              refine aAload_n (pc' := 250) dX10_passes_249 rfl rfl ?_
              refine aIload_n (pc' := 251) dX10_passes_250 rfl rfl ?_
              refine aIconst (pc' := 252) ⟨by decide, by decide⟩ dX10_passes_251 rfl ?_
              refine cVV (c := 10) (pc' := 255) [aI ((p : Int)), aI 3] dX10_passes_252 lX10_230 okX10_isOver ⟨by decide, by decide⟩ npX10_isOver rfl rfl rfl rfl rfl (by decide) rfl (cMetV_mono hw (fun J29 hw => ?_))
              obtain ⟨S28, rfl, hw⟩ := hw
              exact cVret dX10_passes_255 okX10_passes rfl ⟨rfl, rfl, _, rfl, hw⟩
          · exact absurd hc (by decide)
        · have hw := hw.2 hc
          refine aAload_n (pc' := 146) dX10_passes_145 rfl rfl ?_
          refine aGetR (pc' := 149) (q := (71, 0)) dX10_passes_146 fX10_75 rfl rfl (lv (by decide)) rfl rfl ?_
          refine aIload_n (pc' := 150) dX10_passes_149 rfl rfl ?_
          refine aIald (pc' := 151) (j := p) dX10_passes_150 rfl (lv (by decide)) rfl h1 rfl ?_
          refine aTopEq (y := ((sU (sU (sU (sU S 28 p 0) 37 p 0) 33 p (((S 33 p) + 1))) 33 p 0) 31 p)) rfl ?_
          refine aTopEq ((((sU_f rfl).trans (sU_f rfl)).trans (sU_f rfl)).trans (sU_f rfl)) ?_
          refine aAload_n (pc' := 152) dX10_passes_151 rfl rfl ?_
          refine aGetR (pc' := 155) (q := (81, 0)) dX10_passes_152 fX10_105 rfl rfl (lv (by decide)) rfl rfl ?_
          refine aIload_n (pc' := 156) dX10_passes_155 rfl rfl ?_
          refine aIald (pc' := 157) (j := p) dX10_passes_156 rfl (lv (by decide)) rfl h1 rfl ?_
          refine aTopEq (y := ((sU (sU (sU (sU S 28 p 0) 37 p 0) 33 p (((S 33 p) + 1))) 33 p 0) 41 p)) rfl ?_
          refine aTopEq ((((sU_f rfl).trans (sU_f rfl)).trans (sU_f rfl)).trans (sU_f rfl)) ?_
          refine aIcmp_le (tgt := 171) (pc' := 160) dX10_passes_157 (by decide) rfl (fun hc => ?_) (fun hc => ?_)
          · have hw := hw.1 hc
            refine aIconst (pc' := 172) ⟨by decide, by decide⟩ dX10_passes_171 rfl ?_
            refine aIast (pc' := 173) (j := p) dX10_passes_172 rfl (lv (by decide)) rfl h1 rfl (cEqI (mA (f := 40) rfl rfl rfl) ?_)
            refine aAload_n (pc' := 174) dX10_passes_173 rfl rfl ?_
            refine aGetR (pc' := 177) (q := (81, 0)) dX10_passes_174 fX10_105 rfl rfl (lv (by decide)) rfl rfl ?_
            refine aIload_n (pc' := 178) dX10_passes_177 rfl rfl ?_
            refine aAload_n (pc' := 179) dX10_passes_178 rfl rfl ?_
            refine aGetR (pc' := 182) (q := (71, 0)) dX10_passes_179 fX10_75 rfl rfl (lv (by decide)) rfl rfl ?_
            refine aIload_n (pc' := 183) dX10_passes_182 rfl rfl ?_
            refine aIald (pc' := 184) (j := p) dX10_passes_183 rfl (lv (by decide)) rfl h1 rfl ?_
            refine aTopEq (y := ((sU (sU (sU (sU (sU S 28 p 0) 37 p 0) 33 p (((S 33 p) + 1))) 33 p 0) 40 p 0) 31 p)) rfl ?_
            refine aTopEq (((((sU_f rfl).trans (sU_f rfl)).trans (sU_f rfl)).trans (sU_f rfl)).trans (sU_f rfl)) ?_
            refine aIast (pc' := 185) (j := p) dX10_passes_184 rfl (lv (by decide)) rfl h1 rfl (cEqI (mA (f := 41) rfl rfl rfl) ?_)
            refine aAload_n (pc' := 186) dX10_passes_185 rfl rfl ?_
            refine aGetR (pc' := 189) (q := (72, 0)) dX10_passes_186 fX10_78 rfl rfl (lv (by decide)) rfl rfl ?_
            refine aIload_n (pc' := 190) dX10_passes_189 rfl rfl ?_
            refine aDup2 (pc' := 191) rfl rfl dX10_passes_190 rfl ?_
            refine aIald (pc' := 192) (j := p) dX10_passes_191 rfl (lv (by decide)) rfl h1 rfl ?_
            refine aTopEq (y := ((sU (sU (sU (sU (sU (sU S 28 p 0) 37 p 0) 33 p (((S 33 p) + 1))) 33 p 0) 40 p 0) 41 p ((S 31 p))) 32 p)) rfl ?_
            refine aTopEq ((((((sU_f rfl).trans (sU_f rfl)).trans (sU_f rfl)).trans (sU_f rfl)).trans (sU_f rfl)).trans (sU_f rfl)) ?_
            refine aIconst (pc' := 193) ⟨by decide, by decide⟩ dX10_passes_192 rfl ?_
            obtain ⟨h30, hw⟩ := hw
            refine aIadd (pc' := 194) h30.1 h30.2 dX10_passes_193 rfl ?_
            refine aIast (pc' := 195) (j := p) dX10_passes_194 rfl (lv (by decide)) rfl h1 rfl (cEqI (mA (f := 32) rfl rfl rfl) ?_)
            refine aAload_n (pc' := 196) dX10_passes_195 rfl rfl ?_
            refine aGetR (pc' := 199) (q := (80, 0)) dX10_passes_196 fX10_102 rfl rfl (lv (by decide)) rfl rfl ?_
            refine aIload_n (pc' := 200) dX10_passes_199 rfl rfl ?_
            refine aIald (pc' := 201) (j := p) dX10_passes_200 rfl (lv (by decide)) rfl h1 rfl ?_
            refine aTopEq (y := ((sU (sU (sU (sU (sU (sU (sU S 28 p 0) 37 p 0) 33 p (((S 33 p) + 1))) 33 p 0) 40 p 0) 41 p ((S 31 p))) 32 p (((S 32 p) + 1))) 40 p)) rfl ?_
            refine aTopEq (((sU_f rfl).trans (sU_f rfl)).trans (sU_s)) ?_
            refine aIconst (pc' := 202) ⟨by decide, by decide⟩ dX10_passes_201 rfl ?_
            refine aIcmp_lt (tgt := 234) (pc' := 205) dX10_passes_202 (by decide) rfl (fun hc => ?_) (fun hc => ?_)
            · refine aAload_n (pc' := 235) dX10_passes_234 rfl rfl ?_
              refine aGetR (pc' := 238) (q := (72, 0)) dX10_passes_235 fX10_78 rfl rfl (lv (by decide)) rfl rfl ?_
              refine aIload_n (pc' := 239) dX10_passes_238 rfl rfl ?_
              refine aIald (pc' := 240) (j := p) dX10_passes_239 rfl (lv (by decide)) rfl h1 rfl ?_
              refine aTopEq (y := ((sU (sU (sU (sU (sU (sU (sU S 28 p 0) 37 p 0) 33 p (((S 33 p) + 1))) 33 p 0) 40 p 0) 41 p ((S 31 p))) 32 p (((S 32 p) + 1))) 32 p)) rfl ?_
              refine aTopEq sU_s ?_
              refine aAload_n (pc' := 241) dX10_passes_240 rfl rfl ?_
              refine aGetR (pc' := 244) (q := (54, 0)) dX10_passes_241 fX10_45 rfl rfl (lv (by decide)) rfl rfl ?_
              refine aIload_n (pc' := 245) dX10_passes_244 rfl rfl ?_
              refine aIald (pc' := 246) (j := p) dX10_passes_245 rfl (lv (by decide)) rfl h1 rfl ?_
              refine aTopEq (y := ((sU (sU (sU (sU (sU (sU (sU S 28 p 0) 37 p 0) 33 p (((S 33 p) + 1))) 33 p 0) 40 p 0) 41 p ((S 31 p))) 32 p (((S 32 p) + 1))) 14 p)) rfl ?_
              refine aTopEq (((((((sU_f rfl).trans (sU_f rfl)).trans (sU_f rfl)).trans (sU_f rfl)).trans (sU_f rfl)).trans (sU_f rfl)).trans (sU_f rfl)) ?_
              refine aIcmp_ne (tgt := 255) (pc' := 249) dX10_passes_246 (by decide) rfl (fun hc => ?_) (fun hc => ?_)
              · have hw := hw.1 hc
                exact cVret dX10_passes_255 okX10_passes rfl ⟨rfl, rfl, _, rfl, hw⟩
              · have hw := hw.2 hc
                refine aAload_n (pc' := 250) dX10_passes_249 rfl rfl ?_
                refine aIload_n (pc' := 251) dX10_passes_250 rfl rfl ?_
                refine aIconst (pc' := 252) ⟨by decide, by decide⟩ dX10_passes_251 rfl ?_
                refine cVV (c := 10) (pc' := 255) [aI ((p : Int)), aI 3] dX10_passes_252 lX10_230 okX10_isOver ⟨by decide, by decide⟩ npX10_isOver rfl rfl rfl rfl rfl (by decide) rfl (cMetV_mono hw (fun J33 hw => ?_))
                obtain ⟨S32, rfl, hw⟩ := hw
                exact cVret dX10_passes_255 okX10_passes rfl ⟨rfl, rfl, _, rfl, hw⟩
            · exact absurd hc (by decide)
          · have hw := hw.2 hc
            refine aAload_n (pc' := 161) dX10_passes_160 rfl rfl ?_
            refine aGetR (pc' := 164) (q := (80, 0)) dX10_passes_161 fX10_102 rfl rfl (lv (by decide)) rfl rfl ?_
            refine aIload_n (pc' := 165) dX10_passes_164 rfl rfl ?_
            refine aIald (pc' := 166) (j := p) dX10_passes_165 rfl (lv (by decide)) rfl h1 rfl ?_
            refine aTopEq (y := ((sU (sU (sU (sU S 28 p 0) 37 p 0) 33 p (((S 33 p) + 1))) 33 p 0) 40 p)) rfl ?_
            refine aTopEq ((((sU_f rfl).trans (sU_f rfl)).trans (sU_f rfl)).trans (sU_f rfl)) ?_
            refine aIconst (pc' := 167) ⟨by decide, by decide⟩ dX10_passes_166 rfl ?_
            obtain ⟨h34, hw⟩ := hw
            refine aIadd (pc' := 168) h34.1 h34.2 dX10_passes_167 rfl ?_
            refine aGoto (pc' := 172) dX10_passes_168 (by decide) ?_
            refine aIast (pc' := 173) (j := p) dX10_passes_172 rfl (lv (by decide)) rfl h1 rfl (cEqI (mA (f := 40) rfl rfl rfl) ?_)
            refine aAload_n (pc' := 174) dX10_passes_173 rfl rfl ?_
            refine aGetR (pc' := 177) (q := (81, 0)) dX10_passes_174 fX10_105 rfl rfl (lv (by decide)) rfl rfl ?_
            refine aIload_n (pc' := 178) dX10_passes_177 rfl rfl ?_
            refine aAload_n (pc' := 179) dX10_passes_178 rfl rfl ?_
            refine aGetR (pc' := 182) (q := (71, 0)) dX10_passes_179 fX10_75 rfl rfl (lv (by decide)) rfl rfl ?_
            refine aIload_n (pc' := 183) dX10_passes_182 rfl rfl ?_
            refine aIald (pc' := 184) (j := p) dX10_passes_183 rfl (lv (by decide)) rfl h1 rfl ?_
            refine aTopEq (y := ((sU (sU (sU (sU (sU S 28 p 0) 37 p 0) 33 p (((S 33 p) + 1))) 33 p 0) 40 p (((S 40 p) + 1))) 31 p)) rfl ?_
            refine aTopEq (((((sU_f rfl).trans (sU_f rfl)).trans (sU_f rfl)).trans (sU_f rfl)).trans (sU_f rfl)) ?_
            refine aIast (pc' := 185) (j := p) dX10_passes_184 rfl (lv (by decide)) rfl h1 rfl (cEqI (mA (f := 41) rfl rfl rfl) ?_)
            refine aAload_n (pc' := 186) dX10_passes_185 rfl rfl ?_
            refine aGetR (pc' := 189) (q := (72, 0)) dX10_passes_186 fX10_78 rfl rfl (lv (by decide)) rfl rfl ?_
            refine aIload_n (pc' := 190) dX10_passes_189 rfl rfl ?_
            refine aDup2 (pc' := 191) rfl rfl dX10_passes_190 rfl ?_
            refine aIald (pc' := 192) (j := p) dX10_passes_191 rfl (lv (by decide)) rfl h1 rfl ?_
            refine aTopEq (y := ((sU (sU (sU (sU (sU (sU S 28 p 0) 37 p 0) 33 p (((S 33 p) + 1))) 33 p 0) 40 p (((S 40 p) + 1))) 41 p ((S 31 p))) 32 p)) rfl ?_
            refine aTopEq ((((((sU_f rfl).trans (sU_f rfl)).trans (sU_f rfl)).trans (sU_f rfl)).trans (sU_f rfl)).trans (sU_f rfl)) ?_
            refine aIconst (pc' := 193) ⟨by decide, by decide⟩ dX10_passes_192 rfl ?_
            obtain ⟨h35, hw⟩ := hw
            refine aIadd (pc' := 194) h35.1 h35.2 dX10_passes_193 rfl ?_
            refine aIast (pc' := 195) (j := p) dX10_passes_194 rfl (lv (by decide)) rfl h1 rfl (cEqI (mA (f := 32) rfl rfl rfl) ?_)
            refine aAload_n (pc' := 196) dX10_passes_195 rfl rfl ?_
            refine aGetR (pc' := 199) (q := (80, 0)) dX10_passes_196 fX10_102 rfl rfl (lv (by decide)) rfl rfl ?_
            refine aIload_n (pc' := 200) dX10_passes_199 rfl rfl ?_
            refine aIald (pc' := 201) (j := p) dX10_passes_200 rfl (lv (by decide)) rfl h1 rfl ?_
            refine aTopEq (y := ((sU (sU (sU (sU (sU (sU (sU S 28 p 0) 37 p 0) 33 p (((S 33 p) + 1))) 33 p 0) 40 p (((S 40 p) + 1))) 41 p ((S 31 p))) 32 p (((S 32 p) + 1))) 40 p)) rfl ?_
            refine aTopEq (((sU_f rfl).trans (sU_f rfl)).trans (sU_s)) ?_
            refine aIconst (pc' := 202) ⟨by decide, by decide⟩ dX10_passes_201 rfl ?_
            refine aIcmp_lt (tgt := 234) (pc' := 205) dX10_passes_202 (by decide) rfl (fun hc => ?_) (fun hc => ?_)
            · have hw := hw.1 hc
              refine aAload_n (pc' := 235) dX10_passes_234 rfl rfl ?_
              refine aGetR (pc' := 238) (q := (72, 0)) dX10_passes_235 fX10_78 rfl rfl (lv (by decide)) rfl rfl ?_
              refine aIload_n (pc' := 239) dX10_passes_238 rfl rfl ?_
              refine aIald (pc' := 240) (j := p) dX10_passes_239 rfl (lv (by decide)) rfl h1 rfl ?_
              refine aTopEq (y := ((sU (sU (sU (sU (sU (sU (sU S 28 p 0) 37 p 0) 33 p (((S 33 p) + 1))) 33 p 0) 40 p (((S 40 p) + 1))) 41 p ((S 31 p))) 32 p (((S 32 p) + 1))) 32 p)) rfl ?_
              refine aTopEq sU_s ?_
              refine aAload_n (pc' := 241) dX10_passes_240 rfl rfl ?_
              refine aGetR (pc' := 244) (q := (54, 0)) dX10_passes_241 fX10_45 rfl rfl (lv (by decide)) rfl rfl ?_
              refine aIload_n (pc' := 245) dX10_passes_244 rfl rfl ?_
              refine aIald (pc' := 246) (j := p) dX10_passes_245 rfl (lv (by decide)) rfl h1 rfl ?_
              refine aTopEq (y := ((sU (sU (sU (sU (sU (sU (sU S 28 p 0) 37 p 0) 33 p (((S 33 p) + 1))) 33 p 0) 40 p (((S 40 p) + 1))) 41 p ((S 31 p))) 32 p (((S 32 p) + 1))) 14 p)) rfl ?_
              refine aTopEq (((((((sU_f rfl).trans (sU_f rfl)).trans (sU_f rfl)).trans (sU_f rfl)).trans (sU_f rfl)).trans (sU_f rfl)).trans (sU_f rfl)) ?_
              refine aIcmp_ne (tgt := 255) (pc' := 249) dX10_passes_246 (by decide) rfl (fun hc => ?_) (fun hc => ?_)
              · have hw := hw.1 hc
                exact cVret dX10_passes_255 okX10_passes rfl ⟨rfl, rfl, _, rfl, hw⟩
              · have hw := hw.2 hc
                refine aAload_n (pc' := 250) dX10_passes_249 rfl rfl ?_
                refine aIload_n (pc' := 251) dX10_passes_250 rfl rfl ?_
                refine aIconst (pc' := 252) ⟨by decide, by decide⟩ dX10_passes_251 rfl ?_
                refine cVV (c := 10) (pc' := 255) [aI ((p : Int)), aI 3] dX10_passes_252 lX10_230 okX10_isOver ⟨by decide, by decide⟩ npX10_isOver rfl rfl rfl rfl rfl (by decide) rfl (cMetV_mono hw (fun J38 hw => ?_))
                obtain ⟨S37, rfl, hw⟩ := hw
                exact cVret dX10_passes_255 okX10_passes rfl ⟨rfl, rfl, _, rfl, hw⟩
            · have hw := hw.2 hc
              refine aAload_n (pc' := 206) dX10_passes_205 rfl rfl ?_
              refine aGetR (pc' := 209) (q := (82, 0)) dX10_passes_206 fX10_108 rfl rfl (lv (by decide)) rfl rfl ?_
              refine aIload_n (pc' := 210) dX10_passes_209 rfl rfl ?_
              refine aZald (pc' := 211) (j := p) dX10_passes_210 rfl (lv (by decide)) rfl h1 rfl ?_
              refine aTopEq (y := ((sU (sU (sU (sU (sU (sU (sU S 28 p 0) 37 p 0) 33 p (((S 33 p) + 1))) 33 p 0) 40 p (((S 40 p) + 1))) 41 p ((S 31 p))) 32 p (((S 32 p) + 1))) 42 p)) rfl ?_
              refine aTopEq (((((((sU_f rfl).trans (sU_f rfl)).trans (sU_f rfl)).trans (sU_f rfl)).trans (sU_f rfl)).trans (sU_f rfl)).trans (sU_f rfl)) ?_
              refine aIf_ne (tgt := 234) (pc' := 214) dX10_passes_211 (by decide) rfl (fun hc => ?_) (fun hc => ?_)
              · have hw := hw.1 hc
                refine aAload_n (pc' := 235) dX10_passes_234 rfl rfl ?_
                refine aGetR (pc' := 238) (q := (72, 0)) dX10_passes_235 fX10_78 rfl rfl (lv (by decide)) rfl rfl ?_
                refine aIload_n (pc' := 239) dX10_passes_238 rfl rfl ?_
                refine aIald (pc' := 240) (j := p) dX10_passes_239 rfl (lv (by decide)) rfl h1 rfl ?_
                refine aTopEq (y := ((sU (sU (sU (sU (sU (sU (sU S 28 p 0) 37 p 0) 33 p (((S 33 p) + 1))) 33 p 0) 40 p (((S 40 p) + 1))) 41 p ((S 31 p))) 32 p (((S 32 p) + 1))) 32 p)) rfl ?_
                refine aTopEq sU_s ?_
                refine aAload_n (pc' := 241) dX10_passes_240 rfl rfl ?_
                refine aGetR (pc' := 244) (q := (54, 0)) dX10_passes_241 fX10_45 rfl rfl (lv (by decide)) rfl rfl ?_
                refine aIload_n (pc' := 245) dX10_passes_244 rfl rfl ?_
                refine aIald (pc' := 246) (j := p) dX10_passes_245 rfl (lv (by decide)) rfl h1 rfl ?_
                refine aTopEq (y := ((sU (sU (sU (sU (sU (sU (sU S 28 p 0) 37 p 0) 33 p (((S 33 p) + 1))) 33 p 0) 40 p (((S 40 p) + 1))) 41 p ((S 31 p))) 32 p (((S 32 p) + 1))) 14 p)) rfl ?_
                refine aTopEq (((((((sU_f rfl).trans (sU_f rfl)).trans (sU_f rfl)).trans (sU_f rfl)).trans (sU_f rfl)).trans (sU_f rfl)).trans (sU_f rfl)) ?_
                refine aIcmp_ne (tgt := 255) (pc' := 249) dX10_passes_246 (by decide) rfl (fun hc => ?_) (fun hc => ?_)
                · have hw := hw.1 hc
                  exact cVret dX10_passes_255 okX10_passes rfl ⟨rfl, rfl, _, rfl, hw⟩
                · have hw := hw.2 hc
                  refine aAload_n (pc' := 250) dX10_passes_249 rfl rfl ?_
                  refine aIload_n (pc' := 251) dX10_passes_250 rfl rfl ?_
                  refine aIconst (pc' := 252) ⟨by decide, by decide⟩ dX10_passes_251 rfl ?_
                  refine cVV (c := 10) (pc' := 255) [aI ((p : Int)), aI 3] dX10_passes_252 lX10_230 okX10_isOver ⟨by decide, by decide⟩ npX10_isOver rfl rfl rfl rfl rfl (by decide) rfl (cMetV_mono hw (fun J41 hw => ?_))
                  obtain ⟨S40, rfl, hw⟩ := hw
                  exact cVret dX10_passes_255 okX10_passes rfl ⟨rfl, rfl, _, rfl, hw⟩
              · have hw := hw.2 hc
                refine aAload_n (pc' := 215) dX10_passes_214 rfl rfl ?_
                refine aGetR (pc' := 218) (q := (82, 0)) dX10_passes_215 fX10_108 rfl rfl (lv (by decide)) rfl rfl ?_
                refine aIload_n (pc' := 219) dX10_passes_218 rfl rfl ?_
                refine aIconst (pc' := 220) ⟨by decide, by decide⟩ dX10_passes_219 rfl ?_
                refine aZast (pc' := 221) (j := p) dX10_passes_220 rfl (lv (by decide)) rfl h1 (by decide) rfl (cEqI (mA (f := 42) rfl rfl rfl) ?_)
                refine aAload_n (pc' := 222) dX10_passes_221 rfl rfl ?_
                refine aIload_n (pc' := 223) dX10_passes_222 rfl rfl ?_
                refine aBipush (pc' := 225) ⟨by decide, by decide⟩ dX10_passes_223 rfl ?_
                refine aAload_n (pc' := 226) dX10_passes_225 rfl rfl ?_
                refine aGetR (pc' := 229) (q := (71, 0)) dX10_passes_226 fX10_75 rfl rfl (lv (by decide)) rfl rfl ?_
                refine aIload_n (pc' := 230) dX10_passes_229 rfl rfl ?_
                refine aIald (pc' := 231) (j := p) dX10_passes_230 rfl (lv (by decide)) rfl h1 rfl ?_
                refine aTopEq (y := ((sU (sU (sU (sU (sU (sU (sU (sU S 28 p 0) 37 p 0) 33 p (((S 33 p) + 1))) 33 p 0) 40 p (((S 40 p) + 1))) 41 p ((S 31 p))) 32 p (((S 32 p) + 1))) 42 p 1) 31 p)) rfl ?_
                refine aTopEq ((((((((sU_f rfl).trans (sU_f rfl)).trans (sU_f rfl)).trans (sU_f rfl)).trans (sU_f rfl)).trans (sU_f rfl)).trans (sU_f rfl)).trans (sU_f rfl)) ?_
                refine cVV (c := 10) (pc' := 234) [aI ((p : Int)), aI 7, aI ((S 31 p))] dX10_passes_231 lX10_215 okX10_tells ⟨by decide, by decide⟩ npX10_tells rfl rfl rfl rfl rfl (by decide) rfl (cMetV_mono hw (fun J44 hw => ?_))
                obtain ⟨S43, rfl, hw⟩ := hw
                refine aAload_n (pc' := 235) dX10_passes_234 rfl rfl ?_
                refine aGetR (pc' := 238) (q := (72, 0)) dX10_passes_235 fX10_78 rfl rfl (lv (by decide)) rfl rfl ?_
                refine aIload_n (pc' := 239) dX10_passes_238 rfl rfl ?_
                refine aIald (pc' := 240) (j := p) dX10_passes_239 rfl (lv (by decide)) rfl h1 rfl ?_
                refine aTopEq (y := (S43 32 p)) rfl ?_
                refine aAload_n (pc' := 241) dX10_passes_240 rfl rfl ?_
                refine aGetR (pc' := 244) (q := (54, 0)) dX10_passes_241 fX10_45 rfl rfl (lv (by decide)) rfl rfl ?_
                refine aIload_n (pc' := 245) dX10_passes_244 rfl rfl ?_
                refine aIald (pc' := 246) (j := p) dX10_passes_245 rfl (lv (by decide)) rfl h1 rfl ?_
                refine aTopEq (y := (S43 14 p)) rfl ?_
                refine aIcmp_ne (tgt := 255) (pc' := 249) dX10_passes_246 (by decide) rfl (fun hc => ?_) (fun hc => ?_)
                · have hw := hw.1 hc
                  exact cVret dX10_passes_255 okX10_passes rfl ⟨rfl, rfl, _, rfl, hw⟩
                · have hw := hw.2 hc
                  refine aAload_n (pc' := 250) dX10_passes_249 rfl rfl ?_
                  refine aIload_n (pc' := 251) dX10_passes_250 rfl rfl ?_
                  refine aIconst (pc' := 252) ⟨by decide, by decide⟩ dX10_passes_251 rfl ?_
                  refine cVV (c := 10) (pc' := 255) [aI ((p : Int)), aI 3] dX10_passes_252 lX10_230 okX10_isOver ⟨by decide, by decide⟩ npX10_isOver rfl rfl rfl rfl rfl (by decide) rfl (cMetV_mono hw (fun J47 hw => ?_))
                  obtain ⟨S46, rfl, hw⟩ := hw
                  exact cVret dX10_passes_255 okX10_passes rfl ⟨rfl, rfl, _, rfl, hw⟩
      · have hw := hw.2 hc
        exact cVret dX10_passes_123 okX10_passes rfl ⟨rfl, rfl, _, rfl, hw⟩
    · have hw := hw.2 hc
      refine aAload_n (pc' := 20) dX10_passes_19 rfl rfl ?_
      refine aGetI (pc' := 23) dX10_passes_20 fX10_206 rfl rfl (lv (by decide)) rfl ?_
      refine aTopEq (y := (S 25 0)) rfl ?_
      refine aAload_n (pc' := 24) dX10_passes_23 rfl rfl ?_
      refine aGetI (pc' := 27) dX10_passes_24 fX10_23 rfl rfl (lv (by decide)) rfl ?_
      refine aTopEq (y := (S 5 0)) rfl ?_
      obtain ⟨h48, hw⟩ := hw
      refine aIdiv (pc' := 28) h48.1 h48.2 dX10_passes_27 rfl ?_
      refine aAload_n (pc' := 29) dX10_passes_28 rfl rfl ?_
      refine aGetI (pc' := 32) dX10_passes_29 fX10_23 rfl rfl (lv (by decide)) rfl ?_
      refine aTopEq (y := (S 5 0)) rfl ?_
      obtain ⟨h49, hw⟩ := hw
      refine aImul (pc' := 33) h49.1 h49.2 dX10_passes_32 rfl ?_
      refine aAload_n (pc' := 34) dX10_passes_33 rfl rfl ?_
      refine aGetR (pc' := 37) (q := (79, 0)) dX10_passes_34 fX10_99 rfl rfl (lv (by decide)) rfl rfl ?_
      refine aIload_n (pc' := 38) dX10_passes_37 rfl rfl ?_
      refine aIald (pc' := 39) (j := p) dX10_passes_38 rfl (lv (by decide)) rfl h1 rfl ?_
      refine aTopEq (y := (S 39 p)) rfl ?_
      refine aAload_n (pc' := 40) dX10_passes_39 rfl rfl ?_
      refine aGetR (pc' := 43) (q := (69, 0)) dX10_passes_40 fX10_69 rfl rfl (lv (by decide)) rfl rfl ?_
      refine aIload_n (pc' := 44) dX10_passes_43 rfl rfl ?_
      refine aIald (pc' := 45) (j := p) dX10_passes_44 rfl (lv (by decide)) rfl h1 rfl ?_
      refine aTopEq (y := (S 29 p)) rfl ?_
      obtain ⟨h50, hw⟩ := hw
      refine aIsub (pc' := 46) h50.1 h50.2 dX10_passes_45 rfl ?_
      refine aMin (pc' := 49) dX10_passes_46 lX10_228 rfl rfl (Nat.le_refl _) (Nat.le_refl _) rfl ?_
      refine aIstore_n (pc' := 50) dX10_passes_49 (by decide) rfl (L' := [some (aO 40 0), some (aI ((p : Int))), some (aI ((min (((S 25 0) / (S 5 0)) * (S 5 0)) ((S 39 p) - (S 29 p)))))]) rfl ?_
      refine aAload_n (pc' := 51) dX10_passes_50 rfl rfl ?_
      refine aDup (pc' := 52) rfl dX10_passes_51 rfl ?_
      refine aGetI (pc' := 55) dX10_passes_52 fX10_206 rfl rfl (lv (by decide)) rfl ?_
      refine aTopEq (y := (S 25 0)) rfl ?_
      refine aIload_n (pc' := 56) dX10_passes_55 rfl rfl ?_
      obtain ⟨h51, hw⟩ := hw
      refine aIsub (pc' := 57) h51.1 h51.2 dX10_passes_56 rfl ?_
      refine aPutI (pc' := 60) dX10_passes_57 fX10_206 rfl rfl (Or.inl rfl) (lv (by decide)) rfl (cEqI (mS (f := 25) rfl) ?_)
      refine aAload_n (pc' := 61) dX10_passes_60 rfl rfl ?_
      refine aGetR (pc' := 64) (q := (69, 0)) dX10_passes_61 fX10_69 rfl rfl (lv (by decide)) rfl rfl ?_
      refine aIload_n (pc' := 65) dX10_passes_64 rfl rfl ?_
      refine aDup2 (pc' := 66) rfl rfl dX10_passes_65 rfl ?_
      refine aIald (pc' := 67) (j := p) dX10_passes_66 rfl (lv (by decide)) rfl h1 rfl ?_
      refine aTopEq (y := ((sU S 25 0 (((S 25 0) - (min (((S 25 0) / (S 5 0)) * (S 5 0)) ((S 39 p) - (S 29 p)))))) 29 p)) rfl ?_
      refine aTopEq (sU_f rfl) ?_
      refine aIload_n (pc' := 68) dX10_passes_67 rfl rfl ?_
      obtain ⟨h52, hw⟩ := hw
      refine aIadd (pc' := 69) h52.1 h52.2 dX10_passes_68 rfl ?_
      refine aIast (pc' := 70) (j := p) dX10_passes_69 rfl (lv (by decide)) rfl h1 rfl (cEqI (mA (f := 29) rfl rfl rfl) ?_)
      refine aAload_n (pc' := 71) dX10_passes_70 rfl rfl ?_
      refine aGetR (pc' := 74) (q := (83, 0)) dX10_passes_71 fX10_112 rfl rfl (lv (by decide)) rfl rfl ?_
      refine aIload_n (pc' := 75) dX10_passes_74 rfl rfl ?_
      refine aIconst (pc' := 76) ⟨by decide, by decide⟩ dX10_passes_75 rfl ?_
      refine aZast (pc' := 77) (j := p) dX10_passes_76 rfl (lv (by decide)) rfl h1 (by decide) rfl (cEqI (mA (f := 43) rfl rfl rfl) ?_)
      refine aAload_n (pc' := 78) dX10_passes_77 rfl rfl ?_
      refine aIload_n (pc' := 79) dX10_passes_78 rfl rfl ?_
      refine aIconst (pc' := 80) ⟨by decide, by decide⟩ dX10_passes_79 rfl ?_
      refine aIload_n (pc' := 81) dX10_passes_80 rfl rfl ?_
      refine cVV (c := 10) (pc' := 84) [aI ((p : Int)), aI 5, aI ((min (((S 25 0) / (S 5 0)) * (S 5 0)) ((S 39 p) - (S 29 p))))] dX10_passes_81 lX10_215 okX10_tells ⟨by decide, by decide⟩ npX10_tells rfl rfl rfl rfl rfl (by decide) rfl (cMetV_mono hw (fun J55 hw => ?_))
      obtain ⟨S54, rfl, hw⟩ := hw
      refine aAload_n (pc' := 85) dX10_passes_84 rfl rfl ?_
      refine aGetR (pc' := 88) (q := (68, 0)) dX10_passes_85 fX10_66 rfl rfl (lv (by decide)) rfl rfl ?_
      refine aIload_n (pc' := 89) dX10_passes_88 rfl rfl ?_
      refine aIconst (pc' := 90) ⟨by decide, by decide⟩ dX10_passes_89 rfl ?_
      refine aIast (pc' := 91) (j := p) dX10_passes_90 rfl (lv (by decide)) rfl h1 rfl (cEqI (mA (f := 28) rfl rfl rfl) ?_)
      refine aAload_n (pc' := 92) dX10_passes_91 rfl rfl ?_
      refine aGetR (pc' := 95) (q := (77, 0)) dX10_passes_92 fX10_93 rfl rfl (lv (by decide)) rfl rfl ?_
      refine aIload_n (pc' := 96) dX10_passes_95 rfl rfl ?_
      refine aIconst (pc' := 97) ⟨by decide, by decide⟩ dX10_passes_96 rfl ?_
      refine aIast (pc' := 98) (j := p) dX10_passes_97 rfl (lv (by decide)) rfl h1 rfl (cEqI (mA (f := 37) rfl rfl rfl) ?_)
      refine aAload_n (pc' := 99) dX10_passes_98 rfl rfl ?_
      refine aGetR (pc' := 102) (q := (73, 0)) dX10_passes_99 fX10_81 rfl rfl (lv (by decide)) rfl rfl ?_
      refine aIload_n (pc' := 103) dX10_passes_102 rfl rfl ?_
      refine aDup2 (pc' := 104) rfl rfl dX10_passes_103 rfl ?_
      refine aIald (pc' := 105) (j := p) dX10_passes_104 rfl (lv (by decide)) rfl h1 rfl ?_
      refine aTopEq (y := ((sU (sU S54 28 p 0) 37 p 0) 33 p)) rfl ?_
      refine aTopEq ((sU_f rfl).trans (sU_f rfl)) ?_
      refine aIconst (pc' := 106) ⟨by decide, by decide⟩ dX10_passes_105 rfl ?_
      obtain ⟨h56, hw⟩ := hw
      refine aIadd (pc' := 107) h56.1 h56.2 dX10_passes_106 rfl ?_
      refine aIast (pc' := 108) (j := p) dX10_passes_107 rfl (lv (by decide)) rfl h1 rfl (cEqI (mA (f := 33) rfl rfl rfl) ?_)
      refine aAload_n (pc' := 109) dX10_passes_108 rfl rfl ?_
      refine aGetR (pc' := 112) (q := (73, 0)) dX10_passes_109 fX10_81 rfl rfl (lv (by decide)) rfl rfl ?_
      refine aIload_n (pc' := 113) dX10_passes_112 rfl rfl ?_
      refine aIald (pc' := 114) (j := p) dX10_passes_113 rfl (lv (by decide)) rfl h1 rfl ?_
      refine aTopEq (y := ((sU (sU (sU S54 28 p 0) 37 p 0) 33 p (((S54 33 p) + 1))) 33 p)) rfl ?_
      refine aTopEq sU_s ?_
      refine aAload_n (pc' := 115) dX10_passes_114 rfl rfl ?_
      refine aGetR (pc' := 118) (q := (51, 0)) dX10_passes_115 fX10_36 rfl rfl (lv (by decide)) rfl rfl ?_
      refine aIload_n (pc' := 119) dX10_passes_118 rfl rfl ?_
      refine aIald (pc' := 120) (j := p) dX10_passes_119 rfl (lv (by decide)) rfl h1 rfl ?_
      refine aTopEq (y := ((sU (sU (sU S54 28 p 0) 37 p 0) 33 p (((S54 33 p) + 1))) 11 p)) rfl ?_
      refine aTopEq (((sU_f rfl).trans (sU_f rfl)).trans (sU_f rfl)) ?_
      refine aIcmp_ge (tgt := 124) (pc' := 123) dX10_passes_120 (by decide) rfl (fun hc => ?_) (fun hc => ?_)
      · have hw := hw.1 hc
        refine aAload_n (pc' := 125) dX10_passes_124 rfl rfl ?_
        refine aGetR (pc' := 128) (q := (73, 0)) dX10_passes_125 fX10_81 rfl rfl (lv (by decide)) rfl rfl ?_
        refine aIload_n (pc' := 129) dX10_passes_128 rfl rfl ?_
        refine aIconst (pc' := 130) ⟨by decide, by decide⟩ dX10_passes_129 rfl ?_
        refine aIast (pc' := 131) (j := p) dX10_passes_130 rfl (lv (by decide)) rfl h1 rfl (cEqI (mA (f := 33) rfl rfl rfl) ?_)
        refine aAload_n (pc' := 132) dX10_passes_131 rfl rfl ?_
        refine aGetR (pc' := 135) (q := (80, 0)) dX10_passes_132 fX10_102 rfl rfl (lv (by decide)) rfl rfl ?_
        refine aIload_n (pc' := 136) dX10_passes_135 rfl rfl ?_
        refine aAload_n (pc' := 137) dX10_passes_136 rfl rfl ?_
        refine aGetR (pc' := 140) (q := (72, 0)) dX10_passes_137 fX10_78 rfl rfl (lv (by decide)) rfl rfl ?_
        refine aIload_n (pc' := 141) dX10_passes_140 rfl rfl ?_
        refine aIald (pc' := 142) (j := p) dX10_passes_141 rfl (lv (by decide)) rfl h1 rfl ?_
        refine aTopEq (y := ((sU (sU (sU (sU S54 28 p 0) 37 p 0) 33 p (((S54 33 p) + 1))) 33 p 0) 32 p)) rfl ?_
        refine aTopEq ((((sU_f rfl).trans (sU_f rfl)).trans (sU_f rfl)).trans (sU_f rfl)) ?_
        refine aIf_le (tgt := 171) (pc' := 145) dX10_passes_142 (by decide) rfl (fun hc => ?_) (fun hc => ?_)
        · have hw := hw.1 hc
          refine aIconst (pc' := 172) ⟨by decide, by decide⟩ dX10_passes_171 rfl ?_
          refine aIast (pc' := 173) (j := p) dX10_passes_172 rfl (lv (by decide)) rfl h1 rfl (cEqI (mA (f := 40) rfl rfl rfl) ?_)
          refine aAload_n (pc' := 174) dX10_passes_173 rfl rfl ?_
          refine aGetR (pc' := 177) (q := (81, 0)) dX10_passes_174 fX10_105 rfl rfl (lv (by decide)) rfl rfl ?_
          refine aIload_n (pc' := 178) dX10_passes_177 rfl rfl ?_
          refine aAload_n (pc' := 179) dX10_passes_178 rfl rfl ?_
          refine aGetR (pc' := 182) (q := (71, 0)) dX10_passes_179 fX10_75 rfl rfl (lv (by decide)) rfl rfl ?_
          refine aIload_n (pc' := 183) dX10_passes_182 rfl rfl ?_
          refine aIald (pc' := 184) (j := p) dX10_passes_183 rfl (lv (by decide)) rfl h1 rfl ?_
          refine aTopEq (y := ((sU (sU (sU (sU (sU S54 28 p 0) 37 p 0) 33 p (((S54 33 p) + 1))) 33 p 0) 40 p 0) 31 p)) rfl ?_
          refine aTopEq (((((sU_f rfl).trans (sU_f rfl)).trans (sU_f rfl)).trans (sU_f rfl)).trans (sU_f rfl)) ?_
          refine aIast (pc' := 185) (j := p) dX10_passes_184 rfl (lv (by decide)) rfl h1 rfl (cEqI (mA (f := 41) rfl rfl rfl) ?_)
          refine aAload_n (pc' := 186) dX10_passes_185 rfl rfl ?_
          refine aGetR (pc' := 189) (q := (72, 0)) dX10_passes_186 fX10_78 rfl rfl (lv (by decide)) rfl rfl ?_
          refine aIload_n (pc' := 190) dX10_passes_189 rfl rfl ?_
          refine aDup2 (pc' := 191) rfl rfl dX10_passes_190 rfl ?_
          refine aIald (pc' := 192) (j := p) dX10_passes_191 rfl (lv (by decide)) rfl h1 rfl ?_
          refine aTopEq (y := ((sU (sU (sU (sU (sU (sU S54 28 p 0) 37 p 0) 33 p (((S54 33 p) + 1))) 33 p 0) 40 p 0) 41 p ((S54 31 p))) 32 p)) rfl ?_
          refine aTopEq ((((((sU_f rfl).trans (sU_f rfl)).trans (sU_f rfl)).trans (sU_f rfl)).trans (sU_f rfl)).trans (sU_f rfl)) ?_
          refine aIconst (pc' := 193) ⟨by decide, by decide⟩ dX10_passes_192 rfl ?_
          obtain ⟨h57, hw⟩ := hw
          refine aIadd (pc' := 194) h57.1 h57.2 dX10_passes_193 rfl ?_
          refine aIast (pc' := 195) (j := p) dX10_passes_194 rfl (lv (by decide)) rfl h1 rfl (cEqI (mA (f := 32) rfl rfl rfl) ?_)
          refine aAload_n (pc' := 196) dX10_passes_195 rfl rfl ?_
          refine aGetR (pc' := 199) (q := (80, 0)) dX10_passes_196 fX10_102 rfl rfl (lv (by decide)) rfl rfl ?_
          refine aIload_n (pc' := 200) dX10_passes_199 rfl rfl ?_
          refine aIald (pc' := 201) (j := p) dX10_passes_200 rfl (lv (by decide)) rfl h1 rfl ?_
          refine aTopEq (y := ((sU (sU (sU (sU (sU (sU (sU S54 28 p 0) 37 p 0) 33 p (((S54 33 p) + 1))) 33 p 0) 40 p 0) 41 p ((S54 31 p))) 32 p (((S54 32 p) + 1))) 40 p)) rfl ?_
          refine aTopEq (((sU_f rfl).trans (sU_f rfl)).trans (sU_s)) ?_
          refine aIconst (pc' := 202) ⟨by decide, by decide⟩ dX10_passes_201 rfl ?_
          refine aIcmp_lt (tgt := 234) (pc' := 205) dX10_passes_202 (by decide) rfl (fun hc => ?_) (fun hc => ?_)
          · refine aAload_n (pc' := 235) dX10_passes_234 rfl rfl ?_
            refine aGetR (pc' := 238) (q := (72, 0)) dX10_passes_235 fX10_78 rfl rfl (lv (by decide)) rfl rfl ?_
            refine aIload_n (pc' := 239) dX10_passes_238 rfl rfl ?_
            refine aIald (pc' := 240) (j := p) dX10_passes_239 rfl (lv (by decide)) rfl h1 rfl ?_
            refine aTopEq (y := ((sU (sU (sU (sU (sU (sU (sU S54 28 p 0) 37 p 0) 33 p (((S54 33 p) + 1))) 33 p 0) 40 p 0) 41 p ((S54 31 p))) 32 p (((S54 32 p) + 1))) 32 p)) rfl ?_
            refine aTopEq sU_s ?_
            refine aAload_n (pc' := 241) dX10_passes_240 rfl rfl ?_
            refine aGetR (pc' := 244) (q := (54, 0)) dX10_passes_241 fX10_45 rfl rfl (lv (by decide)) rfl rfl ?_
            refine aIload_n (pc' := 245) dX10_passes_244 rfl rfl ?_
            refine aIald (pc' := 246) (j := p) dX10_passes_245 rfl (lv (by decide)) rfl h1 rfl ?_
            refine aTopEq (y := ((sU (sU (sU (sU (sU (sU (sU S54 28 p 0) 37 p 0) 33 p (((S54 33 p) + 1))) 33 p 0) 40 p 0) 41 p ((S54 31 p))) 32 p (((S54 32 p) + 1))) 14 p)) rfl ?_
            refine aTopEq (((((((sU_f rfl).trans (sU_f rfl)).trans (sU_f rfl)).trans (sU_f rfl)).trans (sU_f rfl)).trans (sU_f rfl)).trans (sU_f rfl)) ?_
            refine aIcmp_ne (tgt := 255) (pc' := 249) dX10_passes_246 (by decide) rfl (fun hc => ?_) (fun hc => ?_)
            · have hw := hw.1 hc
              exact cVret dX10_passes_255 okX10_passes rfl ⟨rfl, rfl, _, rfl, hw⟩
            · have hw := hw.2 hc
              refine aAload_n (pc' := 250) dX10_passes_249 rfl rfl ?_
              refine aIload_n (pc' := 251) dX10_passes_250 rfl rfl ?_
              refine aIconst (pc' := 252) ⟨by decide, by decide⟩ dX10_passes_251 rfl ?_
              refine cVV (c := 10) (pc' := 255) [aI ((p : Int)), aI 3] dX10_passes_252 lX10_230 okX10_isOver ⟨by decide, by decide⟩ npX10_isOver rfl rfl rfl rfl rfl (by decide) rfl (cMetV_mono hw (fun J60 hw => ?_))
              obtain ⟨S59, rfl, hw⟩ := hw
              exact cVret dX10_passes_255 okX10_passes rfl ⟨rfl, rfl, _, rfl, hw⟩
          · exact absurd hc (by decide)
        · have hw := hw.2 hc
          refine aAload_n (pc' := 146) dX10_passes_145 rfl rfl ?_
          refine aGetR (pc' := 149) (q := (71, 0)) dX10_passes_146 fX10_75 rfl rfl (lv (by decide)) rfl rfl ?_
          refine aIload_n (pc' := 150) dX10_passes_149 rfl rfl ?_
          refine aIald (pc' := 151) (j := p) dX10_passes_150 rfl (lv (by decide)) rfl h1 rfl ?_
          refine aTopEq (y := ((sU (sU (sU (sU S54 28 p 0) 37 p 0) 33 p (((S54 33 p) + 1))) 33 p 0) 31 p)) rfl ?_
          refine aTopEq ((((sU_f rfl).trans (sU_f rfl)).trans (sU_f rfl)).trans (sU_f rfl)) ?_
          refine aAload_n (pc' := 152) dX10_passes_151 rfl rfl ?_
          refine aGetR (pc' := 155) (q := (81, 0)) dX10_passes_152 fX10_105 rfl rfl (lv (by decide)) rfl rfl ?_
          refine aIload_n (pc' := 156) dX10_passes_155 rfl rfl ?_
          refine aIald (pc' := 157) (j := p) dX10_passes_156 rfl (lv (by decide)) rfl h1 rfl ?_
          refine aTopEq (y := ((sU (sU (sU (sU S54 28 p 0) 37 p 0) 33 p (((S54 33 p) + 1))) 33 p 0) 41 p)) rfl ?_
          refine aTopEq ((((sU_f rfl).trans (sU_f rfl)).trans (sU_f rfl)).trans (sU_f rfl)) ?_
          refine aIcmp_le (tgt := 171) (pc' := 160) dX10_passes_157 (by decide) rfl (fun hc => ?_) (fun hc => ?_)
          · have hw := hw.1 hc
            refine aIconst (pc' := 172) ⟨by decide, by decide⟩ dX10_passes_171 rfl ?_
            refine aIast (pc' := 173) (j := p) dX10_passes_172 rfl (lv (by decide)) rfl h1 rfl (cEqI (mA (f := 40) rfl rfl rfl) ?_)
            refine aAload_n (pc' := 174) dX10_passes_173 rfl rfl ?_
            refine aGetR (pc' := 177) (q := (81, 0)) dX10_passes_174 fX10_105 rfl rfl (lv (by decide)) rfl rfl ?_
            refine aIload_n (pc' := 178) dX10_passes_177 rfl rfl ?_
            refine aAload_n (pc' := 179) dX10_passes_178 rfl rfl ?_
            refine aGetR (pc' := 182) (q := (71, 0)) dX10_passes_179 fX10_75 rfl rfl (lv (by decide)) rfl rfl ?_
            refine aIload_n (pc' := 183) dX10_passes_182 rfl rfl ?_
            refine aIald (pc' := 184) (j := p) dX10_passes_183 rfl (lv (by decide)) rfl h1 rfl ?_
            refine aTopEq (y := ((sU (sU (sU (sU (sU S54 28 p 0) 37 p 0) 33 p (((S54 33 p) + 1))) 33 p 0) 40 p 0) 31 p)) rfl ?_
            refine aTopEq (((((sU_f rfl).trans (sU_f rfl)).trans (sU_f rfl)).trans (sU_f rfl)).trans (sU_f rfl)) ?_
            refine aIast (pc' := 185) (j := p) dX10_passes_184 rfl (lv (by decide)) rfl h1 rfl (cEqI (mA (f := 41) rfl rfl rfl) ?_)
            refine aAload_n (pc' := 186) dX10_passes_185 rfl rfl ?_
            refine aGetR (pc' := 189) (q := (72, 0)) dX10_passes_186 fX10_78 rfl rfl (lv (by decide)) rfl rfl ?_
            refine aIload_n (pc' := 190) dX10_passes_189 rfl rfl ?_
            refine aDup2 (pc' := 191) rfl rfl dX10_passes_190 rfl ?_
            refine aIald (pc' := 192) (j := p) dX10_passes_191 rfl (lv (by decide)) rfl h1 rfl ?_
            refine aTopEq (y := ((sU (sU (sU (sU (sU (sU S54 28 p 0) 37 p 0) 33 p (((S54 33 p) + 1))) 33 p 0) 40 p 0) 41 p ((S54 31 p))) 32 p)) rfl ?_
            refine aTopEq ((((((sU_f rfl).trans (sU_f rfl)).trans (sU_f rfl)).trans (sU_f rfl)).trans (sU_f rfl)).trans (sU_f rfl)) ?_
            refine aIconst (pc' := 193) ⟨by decide, by decide⟩ dX10_passes_192 rfl ?_
            obtain ⟨h61, hw⟩ := hw
            refine aIadd (pc' := 194) h61.1 h61.2 dX10_passes_193 rfl ?_
            refine aIast (pc' := 195) (j := p) dX10_passes_194 rfl (lv (by decide)) rfl h1 rfl (cEqI (mA (f := 32) rfl rfl rfl) ?_)
            refine aAload_n (pc' := 196) dX10_passes_195 rfl rfl ?_
            refine aGetR (pc' := 199) (q := (80, 0)) dX10_passes_196 fX10_102 rfl rfl (lv (by decide)) rfl rfl ?_
            refine aIload_n (pc' := 200) dX10_passes_199 rfl rfl ?_
            refine aIald (pc' := 201) (j := p) dX10_passes_200 rfl (lv (by decide)) rfl h1 rfl ?_
            refine aTopEq (y := ((sU (sU (sU (sU (sU (sU (sU S54 28 p 0) 37 p 0) 33 p (((S54 33 p) + 1))) 33 p 0) 40 p 0) 41 p ((S54 31 p))) 32 p (((S54 32 p) + 1))) 40 p)) rfl ?_
            refine aTopEq (((sU_f rfl).trans (sU_f rfl)).trans (sU_s)) ?_
            refine aIconst (pc' := 202) ⟨by decide, by decide⟩ dX10_passes_201 rfl ?_
            refine aIcmp_lt (tgt := 234) (pc' := 205) dX10_passes_202 (by decide) rfl (fun hc => ?_) (fun hc => ?_)
            · refine aAload_n (pc' := 235) dX10_passes_234 rfl rfl ?_
              refine aGetR (pc' := 238) (q := (72, 0)) dX10_passes_235 fX10_78 rfl rfl (lv (by decide)) rfl rfl ?_
              refine aIload_n (pc' := 239) dX10_passes_238 rfl rfl ?_
              refine aIald (pc' := 240) (j := p) dX10_passes_239 rfl (lv (by decide)) rfl h1 rfl ?_
              refine aTopEq (y := ((sU (sU (sU (sU (sU (sU (sU S54 28 p 0) 37 p 0) 33 p (((S54 33 p) + 1))) 33 p 0) 40 p 0) 41 p ((S54 31 p))) 32 p (((S54 32 p) + 1))) 32 p)) rfl ?_
              refine aTopEq sU_s ?_
              refine aAload_n (pc' := 241) dX10_passes_240 rfl rfl ?_
              refine aGetR (pc' := 244) (q := (54, 0)) dX10_passes_241 fX10_45 rfl rfl (lv (by decide)) rfl rfl ?_
              refine aIload_n (pc' := 245) dX10_passes_244 rfl rfl ?_
              refine aIald (pc' := 246) (j := p) dX10_passes_245 rfl (lv (by decide)) rfl h1 rfl ?_
              refine aTopEq (y := ((sU (sU (sU (sU (sU (sU (sU S54 28 p 0) 37 p 0) 33 p (((S54 33 p) + 1))) 33 p 0) 40 p 0) 41 p ((S54 31 p))) 32 p (((S54 32 p) + 1))) 14 p)) rfl ?_
              refine aTopEq (((((((sU_f rfl).trans (sU_f rfl)).trans (sU_f rfl)).trans (sU_f rfl)).trans (sU_f rfl)).trans (sU_f rfl)).trans (sU_f rfl)) ?_
              refine aIcmp_ne (tgt := 255) (pc' := 249) dX10_passes_246 (by decide) rfl (fun hc => ?_) (fun hc => ?_)
              · have hw := hw.1 hc
                exact cVret dX10_passes_255 okX10_passes rfl ⟨rfl, rfl, _, rfl, hw⟩
              · have hw := hw.2 hc
                refine aAload_n (pc' := 250) dX10_passes_249 rfl rfl ?_
                refine aIload_n (pc' := 251) dX10_passes_250 rfl rfl ?_
                refine aIconst (pc' := 252) ⟨by decide, by decide⟩ dX10_passes_251 rfl ?_
                refine cVV (c := 10) (pc' := 255) [aI ((p : Int)), aI 3] dX10_passes_252 lX10_230 okX10_isOver ⟨by decide, by decide⟩ npX10_isOver rfl rfl rfl rfl rfl (by decide) rfl (cMetV_mono hw (fun J64 hw => ?_))
                obtain ⟨S63, rfl, hw⟩ := hw
                exact cVret dX10_passes_255 okX10_passes rfl ⟨rfl, rfl, _, rfl, hw⟩
            · exact absurd hc (by decide)
          · have hw := hw.2 hc
            refine aAload_n (pc' := 161) dX10_passes_160 rfl rfl ?_
            refine aGetR (pc' := 164) (q := (80, 0)) dX10_passes_161 fX10_102 rfl rfl (lv (by decide)) rfl rfl ?_
            refine aIload_n (pc' := 165) dX10_passes_164 rfl rfl ?_
            refine aIald (pc' := 166) (j := p) dX10_passes_165 rfl (lv (by decide)) rfl h1 rfl ?_
            refine aTopEq (y := ((sU (sU (sU (sU S54 28 p 0) 37 p 0) 33 p (((S54 33 p) + 1))) 33 p 0) 40 p)) rfl ?_
            refine aTopEq ((((sU_f rfl).trans (sU_f rfl)).trans (sU_f rfl)).trans (sU_f rfl)) ?_
            refine aIconst (pc' := 167) ⟨by decide, by decide⟩ dX10_passes_166 rfl ?_
            obtain ⟨h65, hw⟩ := hw
            refine aIadd (pc' := 168) h65.1 h65.2 dX10_passes_167 rfl ?_
            refine aGoto (pc' := 172) dX10_passes_168 (by decide) ?_
            refine aIast (pc' := 173) (j := p) dX10_passes_172 rfl (lv (by decide)) rfl h1 rfl (cEqI (mA (f := 40) rfl rfl rfl) ?_)
            refine aAload_n (pc' := 174) dX10_passes_173 rfl rfl ?_
            refine aGetR (pc' := 177) (q := (81, 0)) dX10_passes_174 fX10_105 rfl rfl (lv (by decide)) rfl rfl ?_
            refine aIload_n (pc' := 178) dX10_passes_177 rfl rfl ?_
            refine aAload_n (pc' := 179) dX10_passes_178 rfl rfl ?_
            refine aGetR (pc' := 182) (q := (71, 0)) dX10_passes_179 fX10_75 rfl rfl (lv (by decide)) rfl rfl ?_
            refine aIload_n (pc' := 183) dX10_passes_182 rfl rfl ?_
            refine aIald (pc' := 184) (j := p) dX10_passes_183 rfl (lv (by decide)) rfl h1 rfl ?_
            refine aTopEq (y := ((sU (sU (sU (sU (sU S54 28 p 0) 37 p 0) 33 p (((S54 33 p) + 1))) 33 p 0) 40 p (((S54 40 p) + 1))) 31 p)) rfl ?_
            refine aTopEq (((((sU_f rfl).trans (sU_f rfl)).trans (sU_f rfl)).trans (sU_f rfl)).trans (sU_f rfl)) ?_
            refine aIast (pc' := 185) (j := p) dX10_passes_184 rfl (lv (by decide)) rfl h1 rfl (cEqI (mA (f := 41) rfl rfl rfl) ?_)
            refine aAload_n (pc' := 186) dX10_passes_185 rfl rfl ?_
            refine aGetR (pc' := 189) (q := (72, 0)) dX10_passes_186 fX10_78 rfl rfl (lv (by decide)) rfl rfl ?_
            refine aIload_n (pc' := 190) dX10_passes_189 rfl rfl ?_
            refine aDup2 (pc' := 191) rfl rfl dX10_passes_190 rfl ?_
            refine aIald (pc' := 192) (j := p) dX10_passes_191 rfl (lv (by decide)) rfl h1 rfl ?_
            refine aTopEq (y := ((sU (sU (sU (sU (sU (sU S54 28 p 0) 37 p 0) 33 p (((S54 33 p) + 1))) 33 p 0) 40 p (((S54 40 p) + 1))) 41 p ((S54 31 p))) 32 p)) rfl ?_
            refine aTopEq ((((((sU_f rfl).trans (sU_f rfl)).trans (sU_f rfl)).trans (sU_f rfl)).trans (sU_f rfl)).trans (sU_f rfl)) ?_
            refine aIconst (pc' := 193) ⟨by decide, by decide⟩ dX10_passes_192 rfl ?_
            obtain ⟨h66, hw⟩ := hw
            refine aIadd (pc' := 194) h66.1 h66.2 dX10_passes_193 rfl ?_
            refine aIast (pc' := 195) (j := p) dX10_passes_194 rfl (lv (by decide)) rfl h1 rfl (cEqI (mA (f := 32) rfl rfl rfl) ?_)
            refine aAload_n (pc' := 196) dX10_passes_195 rfl rfl ?_
            refine aGetR (pc' := 199) (q := (80, 0)) dX10_passes_196 fX10_102 rfl rfl (lv (by decide)) rfl rfl ?_
            refine aIload_n (pc' := 200) dX10_passes_199 rfl rfl ?_
            refine aIald (pc' := 201) (j := p) dX10_passes_200 rfl (lv (by decide)) rfl h1 rfl ?_
            refine aTopEq (y := ((sU (sU (sU (sU (sU (sU (sU S54 28 p 0) 37 p 0) 33 p (((S54 33 p) + 1))) 33 p 0) 40 p (((S54 40 p) + 1))) 41 p ((S54 31 p))) 32 p (((S54 32 p) + 1))) 40 p)) rfl ?_
            refine aTopEq (((sU_f rfl).trans (sU_f rfl)).trans (sU_s)) ?_
            refine aIconst (pc' := 202) ⟨by decide, by decide⟩ dX10_passes_201 rfl ?_
            refine aIcmp_lt (tgt := 234) (pc' := 205) dX10_passes_202 (by decide) rfl (fun hc => ?_) (fun hc => ?_)
            · have hw := hw.1 hc
              refine aAload_n (pc' := 235) dX10_passes_234 rfl rfl ?_
              refine aGetR (pc' := 238) (q := (72, 0)) dX10_passes_235 fX10_78 rfl rfl (lv (by decide)) rfl rfl ?_
              refine aIload_n (pc' := 239) dX10_passes_238 rfl rfl ?_
              refine aIald (pc' := 240) (j := p) dX10_passes_239 rfl (lv (by decide)) rfl h1 rfl ?_
              refine aTopEq (y := ((sU (sU (sU (sU (sU (sU (sU S54 28 p 0) 37 p 0) 33 p (((S54 33 p) + 1))) 33 p 0) 40 p (((S54 40 p) + 1))) 41 p ((S54 31 p))) 32 p (((S54 32 p) + 1))) 32 p)) rfl ?_
              refine aTopEq sU_s ?_
              refine aAload_n (pc' := 241) dX10_passes_240 rfl rfl ?_
              refine aGetR (pc' := 244) (q := (54, 0)) dX10_passes_241 fX10_45 rfl rfl (lv (by decide)) rfl rfl ?_
              refine aIload_n (pc' := 245) dX10_passes_244 rfl rfl ?_
              refine aIald (pc' := 246) (j := p) dX10_passes_245 rfl (lv (by decide)) rfl h1 rfl ?_
              refine aTopEq (y := ((sU (sU (sU (sU (sU (sU (sU S54 28 p 0) 37 p 0) 33 p (((S54 33 p) + 1))) 33 p 0) 40 p (((S54 40 p) + 1))) 41 p ((S54 31 p))) 32 p (((S54 32 p) + 1))) 14 p)) rfl ?_
              refine aTopEq (((((((sU_f rfl).trans (sU_f rfl)).trans (sU_f rfl)).trans (sU_f rfl)).trans (sU_f rfl)).trans (sU_f rfl)).trans (sU_f rfl)) ?_
              refine aIcmp_ne (tgt := 255) (pc' := 249) dX10_passes_246 (by decide) rfl (fun hc => ?_) (fun hc => ?_)
              · have hw := hw.1 hc
                exact cVret dX10_passes_255 okX10_passes rfl ⟨rfl, rfl, _, rfl, hw⟩
              · have hw := hw.2 hc
                refine aAload_n (pc' := 250) dX10_passes_249 rfl rfl ?_
                refine aIload_n (pc' := 251) dX10_passes_250 rfl rfl ?_
                refine aIconst (pc' := 252) ⟨by decide, by decide⟩ dX10_passes_251 rfl ?_
                refine cVV (c := 10) (pc' := 255) [aI ((p : Int)), aI 3] dX10_passes_252 lX10_230 okX10_isOver ⟨by decide, by decide⟩ npX10_isOver rfl rfl rfl rfl rfl (by decide) rfl (cMetV_mono hw (fun J69 hw => ?_))
                obtain ⟨S68, rfl, hw⟩ := hw
                exact cVret dX10_passes_255 okX10_passes rfl ⟨rfl, rfl, _, rfl, hw⟩
            · have hw := hw.2 hc
              refine aAload_n (pc' := 206) dX10_passes_205 rfl rfl ?_
              refine aGetR (pc' := 209) (q := (82, 0)) dX10_passes_206 fX10_108 rfl rfl (lv (by decide)) rfl rfl ?_
              refine aIload_n (pc' := 210) dX10_passes_209 rfl rfl ?_
              refine aZald (pc' := 211) (j := p) dX10_passes_210 rfl (lv (by decide)) rfl h1 rfl ?_
              refine aTopEq (y := ((sU (sU (sU (sU (sU (sU (sU S54 28 p 0) 37 p 0) 33 p (((S54 33 p) + 1))) 33 p 0) 40 p (((S54 40 p) + 1))) 41 p ((S54 31 p))) 32 p (((S54 32 p) + 1))) 42 p)) rfl ?_
              refine aTopEq (((((((sU_f rfl).trans (sU_f rfl)).trans (sU_f rfl)).trans (sU_f rfl)).trans (sU_f rfl)).trans (sU_f rfl)).trans (sU_f rfl)) ?_
              refine aIf_ne (tgt := 234) (pc' := 214) dX10_passes_211 (by decide) rfl (fun hc => ?_) (fun hc => ?_)
              · have hw := hw.1 hc
                refine aAload_n (pc' := 235) dX10_passes_234 rfl rfl ?_
                refine aGetR (pc' := 238) (q := (72, 0)) dX10_passes_235 fX10_78 rfl rfl (lv (by decide)) rfl rfl ?_
                refine aIload_n (pc' := 239) dX10_passes_238 rfl rfl ?_
                refine aIald (pc' := 240) (j := p) dX10_passes_239 rfl (lv (by decide)) rfl h1 rfl ?_
                refine aTopEq (y := ((sU (sU (sU (sU (sU (sU (sU S54 28 p 0) 37 p 0) 33 p (((S54 33 p) + 1))) 33 p 0) 40 p (((S54 40 p) + 1))) 41 p ((S54 31 p))) 32 p (((S54 32 p) + 1))) 32 p)) rfl ?_
                refine aTopEq sU_s ?_
                refine aAload_n (pc' := 241) dX10_passes_240 rfl rfl ?_
                refine aGetR (pc' := 244) (q := (54, 0)) dX10_passes_241 fX10_45 rfl rfl (lv (by decide)) rfl rfl ?_
                refine aIload_n (pc' := 245) dX10_passes_244 rfl rfl ?_
                refine aIald (pc' := 246) (j := p) dX10_passes_245 rfl (lv (by decide)) rfl h1 rfl ?_
                refine aTopEq (y := ((sU (sU (sU (sU (sU (sU (sU S54 28 p 0) 37 p 0) 33 p (((S54 33 p) + 1))) 33 p 0) 40 p (((S54 40 p) + 1))) 41 p ((S54 31 p))) 32 p (((S54 32 p) + 1))) 14 p)) rfl ?_
                refine aTopEq (((((((sU_f rfl).trans (sU_f rfl)).trans (sU_f rfl)).trans (sU_f rfl)).trans (sU_f rfl)).trans (sU_f rfl)).trans (sU_f rfl)) ?_
                refine aIcmp_ne (tgt := 255) (pc' := 249) dX10_passes_246 (by decide) rfl (fun hc => ?_) (fun hc => ?_)
                · have hw := hw.1 hc
                  exact cVret dX10_passes_255 okX10_passes rfl ⟨rfl, rfl, _, rfl, hw⟩
                · have hw := hw.2 hc
                  refine aAload_n (pc' := 250) dX10_passes_249 rfl rfl ?_
                  refine aIload_n (pc' := 251) dX10_passes_250 rfl rfl ?_
                  refine aIconst (pc' := 252) ⟨by decide, by decide⟩ dX10_passes_251 rfl ?_
                  refine cVV (c := 10) (pc' := 255) [aI ((p : Int)), aI 3] dX10_passes_252 lX10_230 okX10_isOver ⟨by decide, by decide⟩ npX10_isOver rfl rfl rfl rfl rfl (by decide) rfl (cMetV_mono hw (fun J72 hw => ?_))
                  obtain ⟨S71, rfl, hw⟩ := hw
                  exact cVret dX10_passes_255 okX10_passes rfl ⟨rfl, rfl, _, rfl, hw⟩
              · have hw := hw.2 hc
                refine aAload_n (pc' := 215) dX10_passes_214 rfl rfl ?_
                refine aGetR (pc' := 218) (q := (82, 0)) dX10_passes_215 fX10_108 rfl rfl (lv (by decide)) rfl rfl ?_
                refine aIload_n (pc' := 219) dX10_passes_218 rfl rfl ?_
                refine aIconst (pc' := 220) ⟨by decide, by decide⟩ dX10_passes_219 rfl ?_
                refine aZast (pc' := 221) (j := p) dX10_passes_220 rfl (lv (by decide)) rfl h1 (by decide) rfl (cEqI (mA (f := 42) rfl rfl rfl) ?_)
                refine aAload_n (pc' := 222) dX10_passes_221 rfl rfl ?_
                refine aIload_n (pc' := 223) dX10_passes_222 rfl rfl ?_
                refine aBipush (pc' := 225) ⟨by decide, by decide⟩ dX10_passes_223 rfl ?_
                refine aAload_n (pc' := 226) dX10_passes_225 rfl rfl ?_
                refine aGetR (pc' := 229) (q := (71, 0)) dX10_passes_226 fX10_75 rfl rfl (lv (by decide)) rfl rfl ?_
                refine aIload_n (pc' := 230) dX10_passes_229 rfl rfl ?_
                refine aIald (pc' := 231) (j := p) dX10_passes_230 rfl (lv (by decide)) rfl h1 rfl ?_
                refine aTopEq (y := ((sU (sU (sU (sU (sU (sU (sU (sU S54 28 p 0) 37 p 0) 33 p (((S54 33 p) + 1))) 33 p 0) 40 p (((S54 40 p) + 1))) 41 p ((S54 31 p))) 32 p (((S54 32 p) + 1))) 42 p 1) 31 p)) rfl ?_
                refine aTopEq ((((((((sU_f rfl).trans (sU_f rfl)).trans (sU_f rfl)).trans (sU_f rfl)).trans (sU_f rfl)).trans (sU_f rfl)).trans (sU_f rfl)).trans (sU_f rfl)) ?_
                refine cVV (c := 10) (pc' := 234) [aI ((p : Int)), aI 7, aI ((S54 31 p))] dX10_passes_231 lX10_215 okX10_tells ⟨by decide, by decide⟩ npX10_tells rfl rfl rfl rfl rfl (by decide) rfl (cMetV_mono hw (fun J75 hw => ?_))
                obtain ⟨S74, rfl, hw⟩ := hw
                refine aAload_n (pc' := 235) dX10_passes_234 rfl rfl ?_
                refine aGetR (pc' := 238) (q := (72, 0)) dX10_passes_235 fX10_78 rfl rfl (lv (by decide)) rfl rfl ?_
                refine aIload_n (pc' := 239) dX10_passes_238 rfl rfl ?_
                refine aIald (pc' := 240) (j := p) dX10_passes_239 rfl (lv (by decide)) rfl h1 rfl ?_
                refine aTopEq (y := (S74 32 p)) rfl ?_
                refine aAload_n (pc' := 241) dX10_passes_240 rfl rfl ?_
                refine aGetR (pc' := 244) (q := (54, 0)) dX10_passes_241 fX10_45 rfl rfl (lv (by decide)) rfl rfl ?_
                refine aIload_n (pc' := 245) dX10_passes_244 rfl rfl ?_
                refine aIald (pc' := 246) (j := p) dX10_passes_245 rfl (lv (by decide)) rfl h1 rfl ?_
                refine aTopEq (y := (S74 14 p)) rfl ?_
                refine aIcmp_ne (tgt := 255) (pc' := 249) dX10_passes_246 (by decide) rfl (fun hc => ?_) (fun hc => ?_)
                · have hw := hw.1 hc
                  exact cVret dX10_passes_255 okX10_passes rfl ⟨rfl, rfl, _, rfl, hw⟩
                · have hw := hw.2 hc
                  refine aAload_n (pc' := 250) dX10_passes_249 rfl rfl ?_
                  refine aIload_n (pc' := 251) dX10_passes_250 rfl rfl ?_
                  refine aIconst (pc' := 252) ⟨by decide, by decide⟩ dX10_passes_251 rfl ?_
                  refine cVV (c := 10) (pc' := 255) [aI ((p : Int)), aI 3] dX10_passes_252 lX10_230 okX10_isOver ⟨by decide, by decide⟩ npX10_isOver rfl rfl rfl rfl rfl (by decide) rfl (cMetV_mono hw (fun J78 hw => ?_))
                  obtain ⟨S77, rfl, hw⟩ := hw
                  exact cVret dX10_passes_255 okX10_passes rfl ⟨rfl, rfl, _, rfl, hw⟩
      · have hw := hw.2 hc
        exact cVret dX10_passes_123 okX10_passes rfl ⟨rfl, rfl, _, rfl, hw⟩
set_option maxRecDepth 100000 in
set_option maxHeartbeats 4000000 in
theorem gX10_paste {w : aW} {mm : Nat} {C : aIF} {S : aS} {a : Int} {b : Int} {c : Int} {d : Int} {e : Int} {P : Int → aS → Prop} (hw : rMetI w mX10_isSlot [aI a] C (sU S 0 0 0) (rf mm) (fun x1 S2 => ((x1 = 0) → P (-2) S2) ∧ ((¬ (x1 = 0)) → rMetI w mX10_isSlot [aI c] C S2 (rf mm) (fun x4 S5 => ((x4 ≠ 0) → (0 ≤ a ∧ a < ((4 : Nat) : Int)) ∧ ((((S5 1 ((a).toNat)) < 0) → P (-5) S5) ∧ ((¬ ((S5 1 ((a).toNat)) < 0)) → (0 ≤ c ∧ c < ((4 : Nat) : Int)) ∧ (((0 ≤ (S5 1 ((c).toNat))) → (((S5 1 ((a).toNat)) = (S5 1 ((c).toNat))) → ((b < 0) → P (-6) S5) ∧ ((¬ (b < 0)) → ((d < 0) → P (-6) S5) ∧ ((¬ (d < 0)) → ((e < 0) → P (-6) S5) ∧ ((¬ (e < 0)) → (-9223372036854775808 ≤ (b + e) ∧ (b + e) < 9223372036854775808) ∧ ((((S5 2 ((a).toNat)) < (b + e)) → P (-6) S5) ∧ ((¬ ((S5 2 ((a).toNat)) < (b + e))) → (-9223372036854775808 ≤ (d + e) ∧ (d + e) < 9223372036854775808) ∧ ((((d + e) ≤ (S5 2 ((c).toNat))) → rRunI w mX10_paste 116 [some (aO 40 0), some (aI a), some (aI b), some (aI c), some (aI d), some (aI e), some (aI 0)] [] C S5 (rf mm) P) ∧ ((¬ ((d + e) ≤ (S5 2 ((c).toNat)))) → P (-6) S5)))))))) ∧ ((¬ ((S5 1 ((a).toNat)) = (S5 1 ((c).toNat)))) → P (-7) S5)) ∧ ((¬ (0 ≤ (S5 1 ((c).toNat)))) → P (-5) S5))))) ∧ ((x4 = 0) → P (-2) S5))))) : rMetI w mX10_paste [aO 40 0, aI a, aI b, aI c, aI d, aI e] C S (rf mm) P := by
  refine cMet_of okX10_paste (Nat.le_of_ble_eq_true rfl) (fun hos => ?_)
  show cRun w mX10_paste 0 [some (aO 40 0), some (aI a), some (aI b), some (aI c), some (aI d), some (aI e), none] [] (mem C S) (rf mm) (rqI (rf mm) C P)
  refine aAload_n (pc' := 1) dX10_paste_0 rfl rfl ?_
  refine aIconst (pc' := 2) ⟨by decide, by decide⟩ dX10_paste_1 rfl ?_
  refine aPutI (pc' := 5) dX10_paste_2 fX10_121 rfl rfl (Or.inl rfl) (lv (by decide)) rfl (cEqI (mS (f := 0) rfl) ?_)
  refine aIload_n (pc' := 6) dX10_paste_5 rfl rfl ?_
  refine cSI (pc' := 9) [aI a] dX10_paste_6 lX10_128 okX10_isSlot ⟨by decide, by decide⟩ npX10_isSlot rfl rfl rfl (cMetI_mono hw (fun x1 J3 hw => ?_))
  obtain ⟨S2, rfl, hw⟩ := hw
  refine aIf_eq (tgt := 19) (pc' := 12) dX10_paste_9 (by decide) rfl (fun hc => ?_) (fun hc => ?_)
  · have hw := hw.1 hc
    refine aBipush (pc' := 21) ⟨by decide, by decide⟩ dX10_paste_19 rfl ?_
    exact cIret dX10_paste_21 okX10_paste rfl ⟨rfl, _, rfl, _, rfl, hw⟩
  · have hw := hw.2 hc
    refine aIload_n (pc' := 13) dX10_paste_12 rfl rfl ?_
    refine cSI (pc' := 16) [aI c] dX10_paste_13 lX10_128 okX10_isSlot ⟨by decide, by decide⟩ npX10_isSlot rfl rfl rfl (cMetI_mono hw (fun x4 J6 hw => ?_))
    obtain ⟨S5, rfl, hw⟩ := hw
    refine aIf_ne (tgt := 22) (pc' := 19) dX10_paste_16 (by decide) rfl (fun hc => ?_) (fun hc => ?_)
    · have hw := hw.1 hc
      refine aAload_n (pc' := 23) dX10_paste_22 rfl rfl ?_
      refine aGetR (pc' := 26) (q := (41, 0)) dX10_paste_23 fX10_9 rfl rfl (lv (by decide)) rfl rfl ?_
      refine aIload_n (pc' := 27) dX10_paste_26 rfl rfl ?_
      obtain ⟨h7, hw⟩ := hw
      refine aIald (pc' := 28) (j := (a).toNat) dX10_paste_27 rfl (lv (by decide)) (tnIx h7).1 (tnIx h7).2 rfl ?_
      refine aTopEq (y := (S5 1 ((a).toNat))) rfl ?_
      refine aIf_lt (tgt := 40) (pc' := 31) dX10_paste_28 (by decide) rfl (fun hc => ?_) (fun hc => ?_)
      · have hw := hw.1 hc
        refine aBipush (pc' := 42) ⟨by decide, by decide⟩ dX10_paste_40 rfl ?_
        exact cIret dX10_paste_42 okX10_paste rfl ⟨rfl, _, rfl, _, rfl, hw⟩
      · have hw := hw.2 hc
        refine aAload_n (pc' := 32) dX10_paste_31 rfl rfl ?_
        refine aGetR (pc' := 35) (q := (41, 0)) dX10_paste_32 fX10_9 rfl rfl (lv (by decide)) rfl rfl ?_
        refine aIload_n (pc' := 36) dX10_paste_35 rfl rfl ?_
        obtain ⟨h8, hw⟩ := hw
        refine aIald (pc' := 37) (j := (c).toNat) dX10_paste_36 rfl (lv (by decide)) (tnIx h8).1 (tnIx h8).2 rfl ?_
        refine aTopEq (y := (S5 1 ((c).toNat))) rfl ?_
        refine aIf_ge (tgt := 43) (pc' := 40) dX10_paste_37 (by decide) rfl (fun hc => ?_) (fun hc => ?_)
        · have hw := hw.1 hc
          refine aAload_n (pc' := 44) dX10_paste_43 rfl rfl ?_
          refine aGetR (pc' := 47) (q := (41, 0)) dX10_paste_44 fX10_9 rfl rfl (lv (by decide)) rfl rfl ?_
          refine aIload_n (pc' := 48) dX10_paste_47 rfl rfl ?_
          refine aIald (pc' := 49) (j := (a).toNat) dX10_paste_48 rfl (lv (by decide)) (tnIx h7).1 (tnIx h7).2 rfl ?_
          refine aTopEq (y := (S5 1 ((a).toNat))) rfl ?_
          refine aAload_n (pc' := 50) dX10_paste_49 rfl rfl ?_
          refine aGetR (pc' := 53) (q := (41, 0)) dX10_paste_50 fX10_9 rfl rfl (lv (by decide)) rfl rfl ?_
          refine aIload_n (pc' := 54) dX10_paste_53 rfl rfl ?_
          refine aIald (pc' := 55) (j := (c).toNat) dX10_paste_54 rfl (lv (by decide)) (tnIx h8).1 (tnIx h8).2 rfl ?_
          refine aTopEq (y := (S5 1 ((c).toNat))) rfl ?_
          refine aIcmp_eq (tgt := 61) (pc' := 58) dX10_paste_55 (by decide) rfl (fun hc => ?_) (fun hc => ?_)
          · have hw := hw.1 hc
            refine aIload_n (pc' := 62) dX10_paste_61 rfl rfl ?_
            refine aIf_lt (tgt := 110) (pc' := 65) dX10_paste_62 (by decide) rfl (fun hc => ?_) (fun hc => ?_)
            · have hw := hw.1 hc
              refine aBipush (pc' := 112) ⟨by decide, by decide⟩ dX10_paste_110 rfl ?_
              exact cIret dX10_paste_112 okX10_paste rfl ⟨rfl, _, rfl, _, rfl, hw⟩
            · have hw := hw.2 hc
              refine aIload (pc' := 67) dX10_paste_65 rfl rfl ?_
              refine aIf_lt (tgt := 110) (pc' := 70) dX10_paste_67 (by decide) rfl (fun hc => ?_) (fun hc => ?_)
              · have hw := hw.1 hc
                refine aBipush (pc' := 112) ⟨by decide, by decide⟩ dX10_paste_110 rfl ?_
                exact cIret dX10_paste_112 okX10_paste rfl ⟨rfl, _, rfl, _, rfl, hw⟩
              · have hw := hw.2 hc
                refine aIload (pc' := 72) dX10_paste_70 rfl rfl ?_
                refine aIf_lt (tgt := 110) (pc' := 75) dX10_paste_72 (by decide) rfl (fun hc => ?_) (fun hc => ?_)
                · have hw := hw.1 hc
                  refine aBipush (pc' := 112) ⟨by decide, by decide⟩ dX10_paste_110 rfl ?_
                  exact cIret dX10_paste_112 okX10_paste rfl ⟨rfl, _, rfl, _, rfl, hw⟩
                · have hw := hw.2 hc
                  refine aIload_n (pc' := 76) dX10_paste_75 rfl rfl ?_
                  refine aI2l (pc' := 77) dX10_paste_76 rfl ?_
                  refine aIload (pc' := 79) dX10_paste_77 rfl rfl ?_
                  refine aI2l (pc' := 80) dX10_paste_79 rfl ?_
                  obtain ⟨h9, hw⟩ := hw
                  refine aLadd (pc' := 81) h9.1 h9.2 dX10_paste_80 rfl ?_
                  refine aAload_n (pc' := 82) dX10_paste_81 rfl rfl ?_
                  refine aGetR (pc' := 85) (q := (42, 0)) dX10_paste_82 fX10_13 rfl rfl (lv (by decide)) rfl rfl ?_
                  refine aIload_n (pc' := 86) dX10_paste_85 rfl rfl ?_
                  refine aIald (pc' := 87) (j := (a).toNat) dX10_paste_86 rfl (lv (by decide)) (tnIx h7).1 (tnIx h7).2 rfl ?_
                  refine aTopEq (y := (S5 2 ((a).toNat))) rfl ?_
                  refine aI2l (pc' := 88) dX10_paste_87 rfl ?_
                  refine aLc_gt (tgt := 110) (p1 := 89) (pc' := 92) dX10_paste_88 rfl dX10_paste_89 (by decide) rfl (fun hc => ?_) (fun hc => ?_)
                  · have hw := hw.1 hc
                    refine aBipush (pc' := 112) ⟨by decide, by decide⟩ dX10_paste_110 rfl ?_
                    exact cIret dX10_paste_112 okX10_paste rfl ⟨rfl, _, rfl, _, rfl, hw⟩
                  · have hw := hw.2 hc
                    refine aIload (pc' := 94) dX10_paste_92 rfl rfl ?_
                    refine aI2l (pc' := 95) dX10_paste_94 rfl ?_
                    refine aIload (pc' := 97) dX10_paste_95 rfl rfl ?_
                    refine aI2l (pc' := 98) dX10_paste_97 rfl ?_
                    obtain ⟨h10, hw⟩ := hw
                    refine aLadd (pc' := 99) h10.1 h10.2 dX10_paste_98 rfl ?_
                    refine aAload_n (pc' := 100) dX10_paste_99 rfl rfl ?_
                    refine aGetR (pc' := 103) (q := (42, 0)) dX10_paste_100 fX10_13 rfl rfl (lv (by decide)) rfl rfl ?_
                    refine aIload_n (pc' := 104) dX10_paste_103 rfl rfl ?_
                    refine aIald (pc' := 105) (j := (c).toNat) dX10_paste_104 rfl (lv (by decide)) (tnIx h8).1 (tnIx h8).2 rfl ?_
                    refine aTopEq (y := (S5 2 ((c).toNat))) rfl ?_
                    refine aI2l (pc' := 106) dX10_paste_105 rfl ?_
                    refine aLc_le (tgt := 113) (p1 := 107) (pc' := 110) dX10_paste_106 rfl dX10_paste_107 (by decide) rfl (fun hc => ?_) (fun hc => ?_)
                    · have hw := hw.1 hc
                      refine aIconst (pc' := 114) ⟨by decide, by decide⟩ dX10_paste_113 rfl ?_
                      refine aIstore (pc' := 116) dX10_paste_114 (by decide) rfl (L' := [some (aO 40 0), some (aI a), some (aI b), some (aI c), some (aI d), some (aI e), some (aI 0)]) rfl ?_
                      exact hw
                    · have hw := hw.2 hc
                      refine aBipush (pc' := 112) ⟨by decide, by decide⟩ dX10_paste_110 rfl ?_
                      exact cIret dX10_paste_112 okX10_paste rfl ⟨rfl, _, rfl, _, rfl, hw⟩
          · have hw := hw.2 hc
            refine aBipush (pc' := 60) ⟨by decide, by decide⟩ dX10_paste_58 rfl ?_
            exact cIret dX10_paste_60 okX10_paste rfl ⟨rfl, _, rfl, _, rfl, hw⟩
        · have hw := hw.2 hc
          refine aBipush (pc' := 42) ⟨by decide, by decide⟩ dX10_paste_40 rfl ?_
          exact cIret dX10_paste_42 okX10_paste rfl ⟨rfl, _, rfl, _, rfl, hw⟩
    · have hw := hw.2 hc
      refine aBipush (pc' := 21) ⟨by decide, by decide⟩ dX10_paste_19 rfl ?_
      exact cIret dX10_paste_21 okX10_paste rfl ⟨rfl, _, rfl, _, rfl, hw⟩
set_option maxRecDepth 100000 in
set_option maxHeartbeats 4000000 in
theorem gX10_paste_116 {w : aW} {mm : Nat} {C : aIF} {S : aS} {s : Nat} {i : Nat} {t : Nat} {k : Nat} {m : Nat} {l6 : Nat} {P : Int → aS → Prop} (hw : (((m : Int) ≤ (l6 : Int)) → rRunI w mX10_paste 153 [some (aO 40 0), some (aI ((s : Int))), some (aI ((i : Int))), some (aI ((t : Int))), some (aI ((k : Int))), some (aI ((m : Int))), some (aI 0)] [] C S (rf mm) P) ∧ ((¬ ((m : Int) ≤ (l6 : Int))) → (-2147483648 ≤ (60 * (s : Int)) ∧ (60 * (s : Int)) < 2147483648) ∧ ((-2147483648 ≤ ((60 * (s : Int)) + (i : Int)) ∧ ((60 * (s : Int)) + (i : Int)) < 2147483648) ∧ ((-2147483648 ≤ (((60 * (s : Int)) + (i : Int)) + (l6 : Int)) ∧ (((60 * (s : Int)) + (i : Int)) + (l6 : Int)) < 2147483648) ∧ (((((60 * s) + i) + l6) < 240) ∧ ((l6 < 60) ∧ ((l6 + 1 < 2147483648) ∧ (rRunI w mX10_paste 116 [some (aO 40 0), some (aI ((s : Int))), some (aI ((i : Int))), some (aI ((t : Int))), some (aI ((k : Int))), some (aI ((m : Int))), some (aI ((((l6 + 1) : Nat) : Int)))] [] C (sU S 4 l6 ((S 3 ((((60 * s) + i) + l6))))) (rf mm) P)))))))) : rRunI w mX10_paste 116 [some (aO 40 0), some (aI ((s : Int))), some (aI ((i : Int))), some (aI ((t : Int))), some (aI ((k : Int))), some (aI ((m : Int))), some (aI ((l6 : Int)))] [] C S (rf mm) P := by
  refine aIload (pc' := 118) dX10_paste_116 rfl rfl ?_
  refine aIload (pc' := 120) dX10_paste_118 rfl rfl ?_
  refine aIcmp_ge (tgt := 150) (pc' := 123) dX10_paste_120 (by decide) rfl (fun hc => ?_) (fun hc => ?_)
  · have hw := hw.1 hc
    refine aIconst (pc' := 151) ⟨by decide, by decide⟩ dX10_paste_150 rfl ?_
    refine aIstore (pc' := 153) dX10_paste_151 (by decide) rfl (L' := [some (aO 40 0), some (aI ((s : Int))), some (aI ((i : Int))), some (aI ((t : Int))), some (aI ((k : Int))), some (aI ((m : Int))), some (aI 0)]) rfl ?_
    exact hw
  · have hw := hw.2 hc
    refine aAload_n (pc' := 124) dX10_paste_123 rfl rfl ?_
    refine aGetR (pc' := 127) (q := (44, 0)) dX10_paste_124 fX10_20 rfl rfl (lv (by decide)) rfl rfl ?_
    refine aIload (pc' := 129) dX10_paste_127 rfl rfl ?_
    refine aAload_n (pc' := 130) dX10_paste_129 rfl rfl ?_
    refine aGetR (pc' := 133) (q := (43, 0)) dX10_paste_130 fX10_16 rfl rfl (lv (by decide)) rfl rfl ?_
    refine aBipush (pc' := 135) ⟨by decide, by decide⟩ dX10_paste_133 rfl ?_
    refine aIload_n (pc' := 136) dX10_paste_135 rfl rfl ?_
    obtain ⟨h1, hw⟩ := hw
    refine aImul (pc' := 137) h1.1 h1.2 dX10_paste_136 rfl ?_
    refine aIload_n (pc' := 138) dX10_paste_137 rfl rfl ?_
    obtain ⟨h2, hw⟩ := hw
    refine aIadd (pc' := 139) h2.1 h2.2 dX10_paste_138 rfl ?_
    refine aIload (pc' := 141) dX10_paste_139 rfl rfl ?_
    obtain ⟨h3, hw⟩ := hw
    refine aIadd (pc' := 142) h3.1 h3.2 dX10_paste_141 rfl ?_
    obtain ⟨h4, hw⟩ := hw
    refine aLald (pc' := 143) (j := (((60 * s) + i) + l6)) dX10_paste_142 rfl (lv (by decide)) (by omega) h4 rfl ?_
    refine aTopEqL (y := (S 3 ((((60 * s) + i) + l6)))) rfl ?_
    obtain ⟨h5, hw⟩ := hw
    refine aLast (pc' := 144) (j := l6) dX10_paste_143 rfl (lv (by decide)) rfl h5 rfl (cEqI (mA (f := 4) rfl rfl rfl) ?_)
    obtain ⟨h6, hw⟩ := hw
    refine aIinc1 (pc' := 147) dX10_paste_144 rfl (by decide) h6 rfl (L' := [some (aO 40 0), some (aI ((s : Int))), some (aI ((i : Int))), some (aI ((t : Int))), some (aI ((k : Int))), some (aI ((m : Int))), some (aI ((((l6 + 1) : Nat) : Int)))]) rfl ?_
    refine aGoto (pc' := 116) dX10_paste_147 (by decide) ?_
    exact hw
set_option maxRecDepth 100000 in
set_option maxHeartbeats 4000000 in
theorem gX10_paste_153 {w : aW} {mm : Nat} {C : aIF} {S : aS} {s : Nat} {i : Nat} {t : Nat} {k : Nat} {m : Nat} {l6 : Nat} {P : Int → aS → Prop} (hw : (((m : Int) ≤ (l6 : Int)) → P 0 S) ∧ ((¬ ((m : Int) ≤ (l6 : Int))) → (-2147483648 ≤ (60 * (t : Int)) ∧ (60 * (t : Int)) < 2147483648) ∧ ((-2147483648 ≤ ((60 * (t : Int)) + (k : Int)) ∧ ((60 * (t : Int)) + (k : Int)) < 2147483648) ∧ ((-2147483648 ≤ (((60 * (t : Int)) + (k : Int)) + (l6 : Int)) ∧ (((60 * (t : Int)) + (k : Int)) + (l6 : Int)) < 2147483648) ∧ ((l6 < 60) ∧ (((((60 * t) + k) + l6) < 240) ∧ ((l6 + 1 < 2147483648) ∧ (rRunI w mX10_paste 153 [some (aO 40 0), some (aI ((s : Int))), some (aI ((i : Int))), some (aI ((t : Int))), some (aI ((k : Int))), some (aI ((m : Int))), some (aI ((((l6 + 1) : Nat) : Int)))] [] C (sU S 3 ((((60 * t) + k) + l6)) ((S 4 l6))) (rf mm) P)))))))) : rRunI w mX10_paste 153 [some (aO 40 0), some (aI ((s : Int))), some (aI ((i : Int))), some (aI ((t : Int))), some (aI ((k : Int))), some (aI ((m : Int))), some (aI ((l6 : Int)))] [] C S (rf mm) P := by
  refine aIload (pc' := 155) dX10_paste_153 rfl rfl ?_
  refine aIload (pc' := 157) dX10_paste_155 rfl rfl ?_
  refine aIcmp_ge (tgt := 188) (pc' := 160) dX10_paste_157 (by decide) rfl (fun hc => ?_) (fun hc => ?_)
  · have hw := hw.1 hc
    refine aIconst (pc' := 189) ⟨by decide, by decide⟩ dX10_paste_188 rfl ?_
    exact cIret dX10_paste_189 okX10_paste rfl ⟨rfl, _, rfl, _, rfl, hw⟩
  · have hw := hw.2 hc
    refine aAload_n (pc' := 161) dX10_paste_160 rfl rfl ?_
    refine aGetR (pc' := 164) (q := (43, 0)) dX10_paste_161 fX10_16 rfl rfl (lv (by decide)) rfl rfl ?_
    refine aBipush (pc' := 166) ⟨by decide, by decide⟩ dX10_paste_164 rfl ?_
    refine aIload_n (pc' := 167) dX10_paste_166 rfl rfl ?_
    obtain ⟨h1, hw⟩ := hw
    refine aImul (pc' := 168) h1.1 h1.2 dX10_paste_167 rfl ?_
    refine aIload (pc' := 170) dX10_paste_168 rfl rfl ?_
    obtain ⟨h2, hw⟩ := hw
    refine aIadd (pc' := 171) h2.1 h2.2 dX10_paste_170 rfl ?_
    refine aIload (pc' := 173) dX10_paste_171 rfl rfl ?_
    obtain ⟨h3, hw⟩ := hw
    refine aIadd (pc' := 174) h3.1 h3.2 dX10_paste_173 rfl ?_
    refine aAload_n (pc' := 175) dX10_paste_174 rfl rfl ?_
    refine aGetR (pc' := 178) (q := (44, 0)) dX10_paste_175 fX10_20 rfl rfl (lv (by decide)) rfl rfl ?_
    refine aIload (pc' := 180) dX10_paste_178 rfl rfl ?_
    obtain ⟨h4, hw⟩ := hw
    refine aLald (pc' := 181) (j := l6) dX10_paste_180 rfl (lv (by decide)) rfl h4 rfl ?_
    refine aTopEqL (y := (S 4 l6)) rfl ?_
    obtain ⟨h5, hw⟩ := hw
    refine aLast (pc' := 182) (j := (((60 * t) + k) + l6)) dX10_paste_181 rfl (lv (by decide)) (by omega) h5 rfl (cEqI (mA (f := 3) rfl rfl rfl) ?_)
    obtain ⟨h6, hw⟩ := hw
    refine aIinc1 (pc' := 185) dX10_paste_182 rfl (by decide) h6 rfl (L' := [some (aO 40 0), some (aI ((s : Int))), some (aI ((i : Int))), some (aI ((t : Int))), some (aI ((k : Int))), some (aI ((m : Int))), some (aI ((((l6 + 1) : Nat) : Int)))]) rfl ?_
    refine aGoto (pc' := 153) dX10_paste_185 (by decide) ?_
    exact hw
set_option maxRecDepth 100000 in
set_option maxHeartbeats 4000000 in
theorem gX10_program {w : aW} {mm : Nat} {C : aIF} {S : aS} {p1 : Int} {p2 : Int} {p3 : Int} {p4 : Int} {P : Int → aS → Prop} (hw : (((S 22 0) = 0) → rMetI w mX10_isSlot [aI p1] C (sU S 0 0 0) (rf mm) (fun x1 S2 => ((x1 = 0) → P (-2) S2) ∧ ((¬ (x1 = 0)) → rMetI w mX10_in [aI p2, aI 0, aI 1] C S2 (rf mm) (fun x4 S5 => ((x4 = 0) → P (-2) S5) ∧ ((¬ (x4 = 0)) → rMetI w mX10_in [aI p3, aI 1, aI 40] C S5 (rf mm) (fun x7 S8 => ((x7 = 0) → P (-2) S8) ∧ ((¬ (x7 = 0)) → rMetI w mX10_in [aI p4, aI 0, aI 1000] C S8 (rf mm) (fun x10 S11 => ((x10 ≠ 0) → (((S11 10 0) ≠ 6) → (0 ≤ p1 ∧ p1 < ((4 : Nat) : Int)) ∧ (((0 ≤ (S11 1 ((p1).toNat))) → (((S11 2 ((p1).toNat)) ≠ 0) → rRunI w mX10_program 95 [some (aO 40 0), some (aI p1), some (aI p2), some (aI p3), some (aI p4), some (aI 0), none, none] [] C S11 (rf mm) P) ∧ (((S11 2 ((p1).toNat)) = 0) → P (-8) S11)) ∧ ((¬ (0 ≤ (S11 1 ((p1).toNat)))) → P (-5) S11))) ∧ (((S11 10 0) = 6) → P (-3) S11)) ∧ ((x10 = 0) → P (-2) S11))))))))) ∧ ((¬ ((S 22 0) = 0)) → P (-9) (sU S 0 0 0))) : rMetI w mX10_program [aO 40 0, aI p1, aI p2, aI p3, aI p4] C S (rf mm) P := by
  refine cMet_of okX10_program (Nat.le_of_ble_eq_true rfl) (fun hos => ?_)
  show cRun w mX10_program 0 [some (aO 40 0), some (aI p1), some (aI p2), some (aI p3), some (aI p4), none, none, none] [] (mem C S) (rf mm) (rqI (rf mm) C P)
  refine aAload_n (pc' := 1) dX10_program_0 rfl rfl ?_
  refine aIconst (pc' := 2) ⟨by decide, by decide⟩ dX10_program_1 rfl ?_
  refine aPutI (pc' := 5) dX10_program_2 fX10_121 rfl rfl (Or.inl rfl) (lv (by decide)) rfl (cEqI (mS (f := 0) rfl) ?_)
  refine aAload_n (pc' := 6) dX10_program_5 rfl rfl ?_
  refine aGetI (pc' := 9) dX10_program_6 fX10_136 rfl rfl (lv (by decide)) rfl ?_
  refine aTopEq (y := ((sU S 0 0 0) 22 0)) rfl ?_
  refine aTopEq (sU_f rfl) ?_
  refine aIf_eq (tgt := 15) (pc' := 12) dX10_program_9 (by decide) rfl (fun hc => ?_) (fun hc => ?_)
  · have hw := hw.1 hc
    refine aIload_n (pc' := 16) dX10_program_15 rfl rfl ?_
    refine cSI (pc' := 19) [aI p1] dX10_program_16 lX10_128 okX10_isSlot ⟨by decide, by decide⟩ npX10_isSlot rfl rfl rfl (cMetI_mono hw (fun x1 J3 hw => ?_))
    obtain ⟨S2, rfl, hw⟩ := hw
    refine aIf_eq (tgt := 53) (pc' := 22) dX10_program_19 (by decide) rfl (fun hc => ?_) (fun hc => ?_)
    · have hw := hw.1 hc
      refine aBipush (pc' := 55) ⟨by decide, by decide⟩ dX10_program_53 rfl ?_
      exact cIret dX10_program_55 okX10_program rfl ⟨rfl, _, rfl, _, rfl, hw⟩
    · have hw := hw.2 hc
      refine aIload_n (pc' := 23) dX10_program_22 rfl rfl ?_
      refine aIconst (pc' := 24) ⟨by decide, by decide⟩ dX10_program_23 rfl ?_
      refine aIconst (pc' := 25) ⟨by decide, by decide⟩ dX10_program_24 rfl ?_
      refine cSI (pc' := 28) [aI p2, aI 0, aI 1] dX10_program_25 lX10_124 okX10_in ⟨by decide, by decide⟩ npX10_in rfl rfl rfl (cMetI_mono hw (fun x4 J6 hw => ?_))
      obtain ⟨S5, rfl, hw⟩ := hw
      refine aIf_eq (tgt := 53) (pc' := 31) dX10_program_28 (by decide) rfl (fun hc => ?_) (fun hc => ?_)
      · have hw := hw.1 hc
        refine aBipush (pc' := 55) ⟨by decide, by decide⟩ dX10_program_53 rfl ?_
        exact cIret dX10_program_55 okX10_program rfl ⟨rfl, _, rfl, _, rfl, hw⟩
      · have hw := hw.2 hc
        refine aIload_n (pc' := 32) dX10_program_31 rfl rfl ?_
        refine aIconst (pc' := 33) ⟨by decide, by decide⟩ dX10_program_32 rfl ?_
        refine aBipush (pc' := 35) ⟨by decide, by decide⟩ dX10_program_33 rfl ?_
        refine cSI (pc' := 38) [aI p3, aI 1, aI 40] dX10_program_35 lX10_124 okX10_in ⟨by decide, by decide⟩ npX10_in rfl rfl rfl (cMetI_mono hw (fun x7 J9 hw => ?_))
        obtain ⟨S8, rfl, hw⟩ := hw
        refine aIf_eq (tgt := 53) (pc' := 41) dX10_program_38 (by decide) rfl (fun hc => ?_) (fun hc => ?_)
        · have hw := hw.1 hc
          refine aBipush (pc' := 55) ⟨by decide, by decide⟩ dX10_program_53 rfl ?_
          exact cIret dX10_program_55 okX10_program rfl ⟨rfl, _, rfl, _, rfl, hw⟩
        · have hw := hw.2 hc
          refine aIload (pc' := 43) dX10_program_41 rfl rfl ?_
          refine aIconst (pc' := 44) ⟨by decide, by decide⟩ dX10_program_43 rfl ?_
          refine aSipush (pc' := 47) ⟨by decide, by decide⟩ dX10_program_44 rfl ?_
          refine cSI (pc' := 50) [aI p4, aI 0, aI 1000] dX10_program_47 lX10_124 okX10_in ⟨by decide, by decide⟩ npX10_in rfl rfl rfl (cMetI_mono hw (fun x10 J12 hw => ?_))
          obtain ⟨S11, rfl, hw⟩ := hw
          refine aIf_ne (tgt := 56) (pc' := 53) dX10_program_50 (by decide) rfl (fun hc => ?_) (fun hc => ?_)
          · have hw := hw.1 hc
            refine aAload_n (pc' := 57) dX10_program_56 rfl rfl ?_
            refine aGetI (pc' := 60) dX10_program_57 fX10_146 rfl rfl (lv (by decide)) rfl ?_
            refine aTopEq (y := (S11 10 0)) rfl ?_
            refine aBipush (pc' := 62) ⟨by decide, by decide⟩ dX10_program_60 rfl ?_
            refine aIcmp_ne (tgt := 68) (pc' := 65) dX10_program_62 (by decide) rfl (fun hc => ?_) (fun hc => ?_)
            · have hw := hw.1 hc
              refine aAload_n (pc' := 69) dX10_program_68 rfl rfl ?_
              refine aGetR (pc' := 72) (q := (41, 0)) dX10_program_69 fX10_9 rfl rfl (lv (by decide)) rfl rfl ?_
              refine aIload_n (pc' := 73) dX10_program_72 rfl rfl ?_
              obtain ⟨h13, hw⟩ := hw
              refine aIald (pc' := 74) (j := (p1).toNat) dX10_program_73 rfl (lv (by decide)) (tnIx h13).1 (tnIx h13).2 rfl ?_
              refine aTopEq (y := (S11 1 ((p1).toNat))) rfl ?_
              refine aIf_ge (tgt := 80) (pc' := 77) dX10_program_74 (by decide) rfl (fun hc => ?_) (fun hc => ?_)
              · have hw := hw.1 hc
                refine aAload_n (pc' := 81) dX10_program_80 rfl rfl ?_
                refine aGetR (pc' := 84) (q := (42, 0)) dX10_program_81 fX10_13 rfl rfl (lv (by decide)) rfl rfl ?_
                refine aIload_n (pc' := 85) dX10_program_84 rfl rfl ?_
                refine aIald (pc' := 86) (j := (p1).toNat) dX10_program_85 rfl (lv (by decide)) (tnIx h13).1 (tnIx h13).2 rfl ?_
                refine aTopEq (y := (S11 2 ((p1).toNat))) rfl ?_
                refine aIf_ne (tgt := 92) (pc' := 89) dX10_program_86 (by decide) rfl (fun hc => ?_) (fun hc => ?_)
                · have hw := hw.1 hc
                  refine aIconst (pc' := 93) ⟨by decide, by decide⟩ dX10_program_92 rfl ?_
                  refine aIstore (pc' := 95) dX10_program_93 (by decide) rfl (L' := [some (aO 40 0), some (aI p1), some (aI p2), some (aI p3), some (aI p4), some (aI 0), none, none]) rfl ?_
                  exact hw
                · have hw := hw.2 hc
                  refine aBipush (pc' := 91) ⟨by decide, by decide⟩ dX10_program_89 rfl ?_
                  exact cIret dX10_program_91 okX10_program rfl ⟨rfl, _, rfl, _, rfl, hw⟩
              · have hw := hw.2 hc
                refine aBipush (pc' := 79) ⟨by decide, by decide⟩ dX10_program_77 rfl ?_
                exact cIret dX10_program_79 okX10_program rfl ⟨rfl, _, rfl, _, rfl, hw⟩
            · have hw := hw.2 hc
              refine aBipush (pc' := 67) ⟨by decide, by decide⟩ dX10_program_65 rfl ?_
              exact cIret dX10_program_67 okX10_program rfl ⟨rfl, _, rfl, _, rfl, hw⟩
          · have hw := hw.2 hc
            refine aBipush (pc' := 55) ⟨by decide, by decide⟩ dX10_program_53 rfl ?_
            exact cIret dX10_program_55 okX10_program rfl ⟨rfl, _, rfl, _, rfl, hw⟩
  · have hw := hw.2 hc
    refine aBipush (pc' := 14) ⟨by decide, by decide⟩ dX10_program_12 rfl ?_
    exact cIret dX10_program_14 okX10_program rfl ⟨rfl, _, rfl, _, rfl, hw⟩
set_option maxRecDepth 100000 in
set_option maxHeartbeats 4000000 in
theorem gX10_program_95 {w : aW} {mm : Nat} {C : aIF} {S : aS} {s : Nat} {p2 : Int} {p3 : Int} {p4 : Int} {l5 : Nat} {P : Int → aS → Prop} (hw : (s < 4) ∧ ((((S 2 s) ≤ (l5 : Int)) → rRunI w mX10_program 168 [some (aO 40 0), some (aI ((s : Int))), some (aI p2), some (aI p3), some (aI p4), some (aI 0), none, none] [] C S (rf mm) P) ∧ ((¬ ((S 2 s) ≤ (l5 : Int))) → (-2147483648 ≤ (60 * (s : Int)) ∧ (60 * (s : Int)) < 2147483648) ∧ ((-2147483648 ≤ ((60 * (s : Int)) + (l5 : Int)) ∧ ((60 * (s : Int)) + (l5 : Int)) < 2147483648) ∧ ((((60 * s) + l5) < 240) ∧ ((((S 3 (((60 * s) + l5))) < (-59)) → P (-4) S) ∧ ((¬ ((S 3 (((60 * s) + l5))) < (-59))) → (((S 3 (((60 * s) + l5))) ≤ 99) → (((S 3 (((60 * s) + l5))) ≤ 1200) → (l5 + 1 < 2147483648) ∧ (rRunI w mX10_program 95 [some (aO 40 0), some (aI ((s : Int))), some (aI p2), some (aI p3), some (aI p4), some (aI ((((l5 + 1) : Nat) : Int))), none, none] [] C S (rf mm) P)) ∧ ((¬ ((S 3 (((60 * s) + l5))) ≤ 1200)) → P (-4) S)) ∧ ((¬ ((S 3 (((60 * s) + l5))) ≤ 99)) → (((S 3 (((60 * s) + l5))) < 1001) → P (-4) S) ∧ ((¬ ((S 3 (((60 * s) + l5))) < 1001)) → (((S 3 (((60 * s) + l5))) ≤ 1200) → (l5 + 1 < 2147483648) ∧ (rRunI w mX10_program 95 [some (aO 40 0), some (aI ((s : Int))), some (aI p2), some (aI p3), some (aI p4), some (aI ((((l5 + 1) : Nat) : Int))), none, none] [] C S (rf mm) P)) ∧ ((¬ ((S 3 (((60 * s) + l5))) ≤ 1200)) → P (-4) S)))))))))) : rRunI w mX10_program 95 [some (aO 40 0), some (aI ((s : Int))), some (aI p2), some (aI p3), some (aI p4), some (aI ((l5 : Int))), none, none] [] C S (rf mm) P := by
  refine aIload (pc' := 97) dX10_program_95 rfl rfl ?_
  refine aAload_n (pc' := 98) dX10_program_97 rfl rfl ?_
  refine aGetR (pc' := 101) (q := (42, 0)) dX10_program_98 fX10_13 rfl rfl (lv (by decide)) rfl rfl ?_
  refine aIload_n (pc' := 102) dX10_program_101 rfl rfl ?_
  obtain ⟨h1, hw⟩ := hw
  refine aIald (pc' := 103) (j := s) dX10_program_102 rfl (lv (by decide)) rfl h1 rfl ?_
  refine aTopEq (y := (S 2 s)) rfl ?_
  refine aIcmp_ge (tgt := 165) (pc' := 106) dX10_program_103 (by decide) rfl (fun hc => ?_) (fun hc => ?_)
  · have hw := hw.1 hc
    refine aIconst (pc' := 166) ⟨by decide, by decide⟩ dX10_program_165 rfl ?_
    refine aIstore (pc' := 168) dX10_program_166 (by decide) rfl (L' := [some (aO 40 0), some (aI ((s : Int))), some (aI p2), some (aI p3), some (aI p4), some (aI 0), none, none]) rfl ?_
    exact hw
  · have hw := hw.2 hc
    refine aAload_n (pc' := 107) dX10_program_106 rfl rfl ?_
    refine aGetR (pc' := 110) (q := (43, 0)) dX10_program_107 fX10_16 rfl rfl (lv (by decide)) rfl rfl ?_
    refine aBipush (pc' := 112) ⟨by decide, by decide⟩ dX10_program_110 rfl ?_
    refine aIload_n (pc' := 113) dX10_program_112 rfl rfl ?_
    obtain ⟨h2, hw⟩ := hw
    refine aImul (pc' := 114) h2.1 h2.2 dX10_program_113 rfl ?_
    refine aIload (pc' := 116) dX10_program_114 rfl rfl ?_
    obtain ⟨h3, hw⟩ := hw
    refine aIadd (pc' := 117) h3.1 h3.2 dX10_program_116 rfl ?_
    obtain ⟨h4, hw⟩ := hw
    refine aLald (pc' := 118) (j := ((60 * s) + l5)) dX10_program_117 rfl (lv (by decide)) (by omega) h4 rfl ?_
    refine aTopEqL (y := (S 3 (((60 * s) + l5)))) rfl ?_
    refine aLstore (pc' := 120) dX10_program_118 (by decide) rfl (L' := [some (aO 40 0), some (aI ((s : Int))), some (aI p2), some (aI p3), some (aI p4), some (aI ((l5 : Int))), some (aL ((S 3 (((60 * s) + l5))))), none]) rfl ?_
    refine aLload (pc' := 122) dX10_program_120 rfl rfl ?_
    refine aLdc2 (pc' := 125) qX10_149 ⟨by decide, by decide⟩ dX10_program_122 rfl ?_
    refine aLc_lt (tgt := 156) (p1 := 126) (pc' := 129) dX10_program_125 rfl dX10_program_126 (by decide) rfl (fun hc => ?_) (fun hc => ?_)
    · have hw := hw.1 hc
      refine aBipush (pc' := 158) ⟨by decide, by decide⟩ dX10_program_156 rfl ?_
      exact cIret dX10_program_158 okX10_program rfl ⟨rfl, _, rfl, _, rfl, hw⟩
    · have hw := hw.2 hc
      refine aLload (pc' := 131) dX10_program_129 rfl rfl ?_
      refine aLdc2 (pc' := 134) qX10_151 ⟨by decide, by decide⟩ dX10_program_131 rfl ?_
      refine aLc_le (tgt := 147) (p1 := 135) (pc' := 138) dX10_program_134 rfl dX10_program_135 (by decide) rfl (fun hc => ?_) (fun hc => ?_)
      · have hw := hw.1 hc
        refine aLload (pc' := 149) dX10_program_147 rfl rfl ?_
        refine aLdc2 (pc' := 152) qX10_155 ⟨by decide, by decide⟩ dX10_program_149 rfl ?_
        refine aLc_le (tgt := 159) (p1 := 153) (pc' := 156) dX10_program_152 rfl dX10_program_153 (by decide) rfl (fun hc => ?_) (fun hc => ?_)
        · have hw := hw.1 hc
          obtain ⟨h5, hw⟩ := hw
          refine aIinc1 (pc' := 162) dX10_program_159 rfl (by decide) h5 rfl (L' := [some (aO 40 0), some (aI ((s : Int))), some (aI p2), some (aI p3), some (aI p4), some (aI ((((l5 + 1) : Nat) : Int))), some (aL ((S 3 (((60 * s) + l5))))), none]) rfl ?_
          refine aGoto (pc' := 95) dX10_program_162 (by decide) ?_
          exact aDrop [6] (L' := [some (aO 40 0), some (aI ((s : Int))), some (aI p2), some (aI p3), some (aI p4), some (aI ((((l5 + 1) : Nat) : Int))), none, none]) rfl hw
        · have hw := hw.2 hc
          refine aBipush (pc' := 158) ⟨by decide, by decide⟩ dX10_program_156 rfl ?_
          exact cIret dX10_program_158 okX10_program rfl ⟨rfl, _, rfl, _, rfl, hw⟩
      · have hw := hw.2 hc
        refine aLload (pc' := 140) dX10_program_138 rfl rfl ?_
        refine aLdc2 (pc' := 143) qX10_153 ⟨by decide, by decide⟩ dX10_program_140 rfl ?_
        refine aLc_lt (tgt := 156) (p1 := 144) (pc' := 147) dX10_program_143 rfl dX10_program_144 (by decide) rfl (fun hc => ?_) (fun hc => ?_)
        · have hw := hw.1 hc
          refine aBipush (pc' := 158) ⟨by decide, by decide⟩ dX10_program_156 rfl ?_
          exact cIret dX10_program_158 okX10_program rfl ⟨rfl, _, rfl, _, rfl, hw⟩
        · have hw := hw.2 hc
          refine aLload (pc' := 149) dX10_program_147 rfl rfl ?_
          refine aLdc2 (pc' := 152) qX10_155 ⟨by decide, by decide⟩ dX10_program_149 rfl ?_
          refine aLc_le (tgt := 159) (p1 := 153) (pc' := 156) dX10_program_152 rfl dX10_program_153 (by decide) rfl (fun hc => ?_) (fun hc => ?_)
          · have hw := hw.1 hc
            obtain ⟨h6, hw⟩ := hw
            refine aIinc1 (pc' := 162) dX10_program_159 rfl (by decide) h6 rfl (L' := [some (aO 40 0), some (aI ((s : Int))), some (aI p2), some (aI p3), some (aI p4), some (aI ((((l5 + 1) : Nat) : Int))), some (aL ((S 3 (((60 * s) + l5))))), none]) rfl ?_
            refine aGoto (pc' := 95) dX10_program_162 (by decide) ?_
            exact aDrop [6] (L' := [some (aO 40 0), some (aI ((s : Int))), some (aI p2), some (aI p3), some (aI p4), some (aI ((((l5 + 1) : Nat) : Int))), none, none]) rfl hw
          · have hw := hw.2 hc
            refine aBipush (pc' := 158) ⟨by decide, by decide⟩ dX10_program_156 rfl ?_
            exact cIret dX10_program_158 okX10_program rfl ⟨rfl, _, rfl, _, rfl, hw⟩
set_option maxRecDepth 100000 in
set_option maxHeartbeats 4000000 in
theorem gX10_program_168 {w : aW} {mm : Nat} {C : aIF} {S : aS} {s : Nat} {p2 : Int} {p3 : Int} {p4 : Int} {l5 : Nat} {P : Int → aS → Prop} (hw : (s < 4) ∧ ((((S 2 s) ≤ (l5 : Int)) → (0 ≤ (S 10 0) ∧ (S 10 0) < ((6 : Nat) : Int)) ∧ ((-2147483648 ≤ ((S 10 0) + 1) ∧ ((S 10 0) + 1) < 2147483648) ∧ ((-2147483648 ≤ (((S 10 0) + 1) - 1) ∧ (((S 10 0) + 1) - 1) < 2147483648) ∧ (P (((S 10 0) + 1) - 1) (sU (sU (sU (sU (sU (sU S 11 (((S 10 0)).toNat) ((S 2 s))) 13 (((S 10 0)).toNat) p2) 14 (((S 10 0)).toNat) p3) 15 (((S 10 0)).toNat) p4) 10 0 (((S 10 0) + 1))) 17 0 0))))) ∧ ((¬ ((S 2 s) ≤ (l5 : Int))) → (-2147483648 ≤ (60 * (S 10 0)) ∧ (60 * (S 10 0)) < 2147483648) ∧ ((-2147483648 ≤ ((60 * (S 10 0)) + (l5 : Int)) ∧ ((60 * (S 10 0)) + (l5 : Int)) < 2147483648) ∧ ((-2147483648 ≤ (60 * (s : Int)) ∧ (60 * (s : Int)) < 2147483648) ∧ ((-2147483648 ≤ ((60 * (s : Int)) + (l5 : Int)) ∧ ((60 * (s : Int)) + (l5 : Int)) < 2147483648) ∧ ((((60 * s) + l5) < 240) ∧ ((0 ≤ ((60 * (S 10 0)) + (l5 : Int)) ∧ ((60 * (S 10 0)) + (l5 : Int)) < ((360 : Nat) : Int)) ∧ ((l5 + 1 < 2147483648) ∧ (rRunI w mX10_program 168 [some (aO 40 0), some (aI ((s : Int))), some (aI p2), some (aI p3), some (aI p4), some (aI ((((l5 + 1) : Nat) : Int))), none, none] [] C (sU S 12 ((((60 * (S 10 0)) + (l5 : Int))).toNat) ((Int64.ofInt ((S 3 (((60 * s) + l5))))).toInt32.toInt)) (rf mm) P)))))))))) : rRunI w mX10_program 168 [some (aO 40 0), some (aI ((s : Int))), some (aI p2), some (aI p3), some (aI p4), some (aI ((l5 : Int))), none, none] [] C S (rf mm) P := by
  refine aIload (pc' := 170) dX10_program_168 rfl rfl ?_
  refine aAload_n (pc' := 171) dX10_program_170 rfl rfl ?_
  refine aGetR (pc' := 174) (q := (42, 0)) dX10_program_171 fX10_13 rfl rfl (lv (by decide)) rfl rfl ?_
  refine aIload_n (pc' := 175) dX10_program_174 rfl rfl ?_
  obtain ⟨h1, hw⟩ := hw
  refine aIald (pc' := 176) (j := s) dX10_program_175 rfl (lv (by decide)) rfl h1 rfl ?_
  refine aTopEq (y := (S 2 s)) rfl ?_
  refine aIcmp_ge (tgt := 213) (pc' := 179) dX10_program_176 (by decide) rfl (fun hc => ?_) (fun hc => ?_)
  · have hw := hw.1 hc
    refine aAload_n (pc' := 214) dX10_program_213 rfl rfl ?_
    refine aGetR (pc' := 217) (q := (51, 0)) dX10_program_214 fX10_36 rfl rfl (lv (by decide)) rfl rfl ?_
    refine aAload_n (pc' := 218) dX10_program_217 rfl rfl ?_
    refine aGetI (pc' := 221) dX10_program_218 fX10_146 rfl rfl (lv (by decide)) rfl ?_
    refine aTopEq (y := (S 10 0)) rfl ?_
    refine aAload_n (pc' := 222) dX10_program_221 rfl rfl ?_
    refine aGetR (pc' := 225) (q := (42, 0)) dX10_program_222 fX10_13 rfl rfl (lv (by decide)) rfl rfl ?_
    refine aIload_n (pc' := 226) dX10_program_225 rfl rfl ?_
    refine aIald (pc' := 227) (j := s) dX10_program_226 rfl (lv (by decide)) rfl h1 rfl ?_
    refine aTopEq (y := (S 2 s)) rfl ?_
    obtain ⟨h2, hw⟩ := hw
    refine aIast (pc' := 228) (j := ((S 10 0)).toNat) dX10_program_227 rfl (lv (by decide)) (tnIx h2).1 (tnIx h2).2 rfl (cEqI (mA (f := 11) rfl rfl rfl) ?_)
    refine aAload_n (pc' := 229) dX10_program_228 rfl rfl ?_
    refine aGetR (pc' := 232) (q := (53, 0)) dX10_program_229 fX10_42 rfl rfl (lv (by decide)) rfl rfl ?_
    refine aAload_n (pc' := 233) dX10_program_232 rfl rfl ?_
    refine aGetI (pc' := 236) dX10_program_233 fX10_146 rfl rfl (lv (by decide)) rfl ?_
    refine aTopEq (y := ((sU S 11 (((S 10 0)).toNat) ((S 2 s))) 10 0)) rfl ?_
    refine aTopEq (sU_f rfl) ?_
    refine aIload_n (pc' := 237) dX10_program_236 rfl rfl ?_
    refine aIast (pc' := 238) (j := ((S 10 0)).toNat) dX10_program_237 rfl (lv (by decide)) (tnIx h2).1 (tnIx h2).2 rfl (cEqI (mA (f := 13) rfl rfl rfl) ?_)
    refine aAload_n (pc' := 239) dX10_program_238 rfl rfl ?_
    refine aGetR (pc' := 242) (q := (54, 0)) dX10_program_239 fX10_45 rfl rfl (lv (by decide)) rfl rfl ?_
    refine aAload_n (pc' := 243) dX10_program_242 rfl rfl ?_
    refine aGetI (pc' := 246) dX10_program_243 fX10_146 rfl rfl (lv (by decide)) rfl ?_
    refine aTopEq (y := ((sU (sU S 11 (((S 10 0)).toNat) ((S 2 s))) 13 (((S 10 0)).toNat) p2) 10 0)) rfl ?_
    refine aTopEq ((sU_f rfl).trans (sU_f rfl)) ?_
    refine aIload_n (pc' := 247) dX10_program_246 rfl rfl ?_
    refine aIast (pc' := 248) (j := ((S 10 0)).toNat) dX10_program_247 rfl (lv (by decide)) (tnIx h2).1 (tnIx h2).2 rfl (cEqI (mA (f := 14) rfl rfl rfl) ?_)
    refine aAload_n (pc' := 249) dX10_program_248 rfl rfl ?_
    refine aGetR (pc' := 252) (q := (55, 0)) dX10_program_249 fX10_48 rfl rfl (lv (by decide)) rfl rfl ?_
    refine aAload_n (pc' := 253) dX10_program_252 rfl rfl ?_
    refine aGetI (pc' := 256) dX10_program_253 fX10_146 rfl rfl (lv (by decide)) rfl ?_
    refine aTopEq (y := ((sU (sU (sU S 11 (((S 10 0)).toNat) ((S 2 s))) 13 (((S 10 0)).toNat) p2) 14 (((S 10 0)).toNat) p3) 10 0)) rfl ?_
    refine aTopEq (((sU_f rfl).trans (sU_f rfl)).trans (sU_f rfl)) ?_
    refine aIload (pc' := 258) dX10_program_256 rfl rfl ?_
    refine aIast (pc' := 259) (j := ((S 10 0)).toNat) dX10_program_258 rfl (lv (by decide)) (tnIx h2).1 (tnIx h2).2 rfl (cEqI (mA (f := 15) rfl rfl rfl) ?_)
    refine aAload_n (pc' := 260) dX10_program_259 rfl rfl ?_
    refine aDup (pc' := 261) rfl dX10_program_260 rfl ?_
    refine aGetI (pc' := 264) dX10_program_261 fX10_146 rfl rfl (lv (by decide)) rfl ?_
    refine aTopEq (y := ((sU (sU (sU (sU S 11 (((S 10 0)).toNat) ((S 2 s))) 13 (((S 10 0)).toNat) p2) 14 (((S 10 0)).toNat) p3) 15 (((S 10 0)).toNat) p4) 10 0)) rfl ?_
    refine aTopEq ((((sU_f rfl).trans (sU_f rfl)).trans (sU_f rfl)).trans (sU_f rfl)) ?_
    refine aIconst (pc' := 265) ⟨by decide, by decide⟩ dX10_program_264 rfl ?_
    obtain ⟨h3, hw⟩ := hw
    refine aIadd (pc' := 266) h3.1 h3.2 dX10_program_265 rfl ?_
    refine aPutI (pc' := 269) dX10_program_266 fX10_146 rfl rfl (Or.inl rfl) (lv (by decide)) rfl (cEqI (mS (f := 10) rfl) ?_)
    refine aAload_n (pc' := 270) dX10_program_269 rfl rfl ?_
    refine aIconst (pc' := 271) ⟨by decide, by decide⟩ dX10_program_270 rfl ?_
    refine aPutZ (pc' := 274) dX10_program_271 fX10_143 rfl rfl (Or.inl rfl) (lv (by decide)) (by decide) rfl (cEqI (mS (f := 17) rfl) ?_)
    refine aAload_n (pc' := 275) dX10_program_274 rfl rfl ?_
    refine aGetI (pc' := 278) dX10_program_275 fX10_146 rfl rfl (lv (by decide)) rfl ?_
    refine aTopEq (y := ((sU (sU (sU (sU (sU (sU S 11 (((S 10 0)).toNat) ((S 2 s))) 13 (((S 10 0)).toNat) p2) 14 (((S 10 0)).toNat) p3) 15 (((S 10 0)).toNat) p4) 10 0 (((S 10 0) + 1))) 17 0 0) 10 0)) rfl ?_
    refine aTopEq ((sU_f rfl).trans (sU_s)) ?_
    refine aIconst (pc' := 279) ⟨by decide, by decide⟩ dX10_program_278 rfl ?_
    obtain ⟨h4, hw⟩ := hw
    refine aIsub (pc' := 280) h4.1 h4.2 dX10_program_279 rfl ?_
    exact cIret dX10_program_280 okX10_program rfl ⟨rfl, _, rfl, _, rfl, hw⟩
  · have hw := hw.2 hc
    refine aAload_n (pc' := 180) dX10_program_179 rfl rfl ?_
    refine aGetR (pc' := 183) (q := (52, 0)) dX10_program_180 fX10_39 rfl rfl (lv (by decide)) rfl rfl ?_
    refine aBipush (pc' := 185) ⟨by decide, by decide⟩ dX10_program_183 rfl ?_
    refine aAload_n (pc' := 186) dX10_program_185 rfl rfl ?_
    refine aGetI (pc' := 189) dX10_program_186 fX10_146 rfl rfl (lv (by decide)) rfl ?_
    refine aTopEq (y := (S 10 0)) rfl ?_
    obtain ⟨h5, hw⟩ := hw
    refine aImul (pc' := 190) h5.1 h5.2 dX10_program_189 rfl ?_
    refine aIload (pc' := 192) dX10_program_190 rfl rfl ?_
    obtain ⟨h6, hw⟩ := hw
    refine aIadd (pc' := 193) h6.1 h6.2 dX10_program_192 rfl ?_
    refine aAload_n (pc' := 194) dX10_program_193 rfl rfl ?_
    refine aGetR (pc' := 197) (q := (43, 0)) dX10_program_194 fX10_16 rfl rfl (lv (by decide)) rfl rfl ?_
    refine aBipush (pc' := 199) ⟨by decide, by decide⟩ dX10_program_197 rfl ?_
    refine aIload_n (pc' := 200) dX10_program_199 rfl rfl ?_
    obtain ⟨h7, hw⟩ := hw
    refine aImul (pc' := 201) h7.1 h7.2 dX10_program_200 rfl ?_
    refine aIload (pc' := 203) dX10_program_201 rfl rfl ?_
    obtain ⟨h8, hw⟩ := hw
    refine aIadd (pc' := 204) h8.1 h8.2 dX10_program_203 rfl ?_
    obtain ⟨h9, hw⟩ := hw
    refine aLald (pc' := 205) (j := ((60 * s) + l5)) dX10_program_204 rfl (lv (by decide)) (by omega) h9 rfl ?_
    refine aTopEqL (y := (S 3 (((60 * s) + l5)))) rfl ?_
    refine aL2i (pc' := 206) dX10_program_205 rfl ?_
    obtain ⟨h10, hw⟩ := hw
    refine aIast (pc' := 207) (j := (((60 * (S 10 0)) + (l5 : Int))).toNat) dX10_program_206 rfl (lv (by decide)) (tnIx h10).1 (tnIx h10).2 rfl (cEqI (mA (f := 12) rfl rfl rfl) ?_)
    obtain ⟨h11, hw⟩ := hw
    refine aIinc1 (pc' := 210) dX10_program_207 rfl (by decide) h11 rfl (L' := [some (aO 40 0), some (aI ((s : Int))), some (aI p2), some (aI p3), some (aI p4), some (aI ((((l5 + 1) : Nat) : Int))), none, none]) rfl ?_
    refine aGoto (pc' := 168) dX10_program_210 (by decide) ?_
    exact hw
set_option maxRecDepth 100000 in
set_option maxHeartbeats 4000000 in
theorem gX10_redeals {w : aW} {mm : Nat} {C : aIF} {S : aS} {P : aS → Prop} (hw : rRunV w mX10_redeals 2 [some (aO 40 0), some (aI 0), none] [] C S (rf mm) P) : rMetV w mX10_redeals [aO 40 0] C S (rf mm) P := by
  refine cMet_of okX10_redeals (Nat.le_of_ble_eq_true rfl) (fun hos => ?_)
  show cRun w mX10_redeals 0 [some (aO 40 0), none, none] [] (mem C S) (rf mm) (rqV (rf mm) C P)
  refine aIconst (pc' := 1) ⟨by decide, by decide⟩ dX10_redeals_0 rfl ?_
  refine aIstore_n (pc' := 2) dX10_redeals_1 (by decide) rfl (L' := [some (aO 40 0), some (aI 0), none]) rfl ?_
  exact hw
set_option maxRecDepth 100000 in
set_option maxHeartbeats 4000000 in
theorem gX10_redeals_2 {w : aW} {mm : Nat} {C : aIF} {S : aS} {l1 : Nat} {P : aS → Prop} (hw : (((S 23 0) ≤ (l1 : Int)) → rRunV w mX10_redeals 113 [some (aO 40 0), some (aI 0), none] [] C S (rf mm) P) ∧ ((¬ ((S 23 0) ≤ (l1 : Int))) → (l1 < 6) ∧ ((((S 28 l1) ≠ 2) → (l1 + 1 < 2147483648) ∧ (rRunV w mX10_redeals 2 [some (aO 40 0), some (aI ((((l1 + 1) : Nat) : Int))), none] [] C S (rf mm) P)) ∧ (((S 28 l1) = 2) → (((S 43 l1) = 0) → (((S 30 l1) ≤ (S 31 l1)) → rMetI w mX10_spare [aO 40 0, aI ((l1 : Int))] C (sU (sU S 43 l1 1) 39 l1 ((S 29 l1))) (rf mm) (fun x3 S4 => (-2147483648 ≤ ((S4 29 l1) - x3) ∧ ((S4 29 l1) - x3) < 2147483648) ∧ ((-2147483648 ≤ ((S4 25 0) + x3) ∧ ((S4 25 0) + x3) < 2147483648) ∧ (rMetV w mX10_tells [aO 40 0, aI ((l1 : Int)), aI 4, aI x3] C (sU (sU S4 29 l1 (((S4 29 l1) - x3))) 25 0 (((S4 25 0) + x3))) (rf mm) (fun S9 => (l1 + 1 < 2147483648) ∧ (rRunV w mX10_redeals 2 [some (aO 40 0), some (aI ((((l1 + 1) : Nat) : Int))), none] [] C S9 (rf mm) P)))))) ∧ ((¬ ((S 30 l1) ≤ (S 31 l1))) → rMetI w mX10_collects [aO 40 0, aI ((l1 : Int))] C (sU (sU S 43 l1 1) 39 l1 ((S 29 l1))) (rf mm) (fun x12 S13 => rMetI w mX10_spare [aO 40 0, aI ((l1 : Int))] C S13 (rf mm) (fun x15 S16 => (-2147483648 ≤ ((S16 29 l1) - x15) ∧ ((S16 29 l1) - x15) < 2147483648) ∧ ((-2147483648 ≤ ((S16 25 0) + x15) ∧ ((S16 25 0) + x15) < 2147483648) ∧ (rMetV w mX10_tells [aO 40 0, aI ((l1 : Int)), aI 4, aI x15] C (sU (sU S16 29 l1 (((S16 29 l1) - x15))) 25 0 (((S16 25 0) + x15))) (rf mm) (fun S21 => (l1 + 1 < 2147483648) ∧ (rRunV w mX10_redeals 2 [some (aO 40 0), some (aI ((((l1 + 1) : Nat) : Int))), none] [] C S21 (rf mm) P)))))))) ∧ ((¬ ((S 43 l1) = 0)) → (l1 + 1 < 2147483648) ∧ (rRunV w mX10_redeals 2 [some (aO 40 0), some (aI ((((l1 + 1) : Nat) : Int))), none] [] C S (rf mm) P)))))) : rRunV w mX10_redeals 2 [some (aO 40 0), some (aI ((l1 : Int))), none] [] C S (rf mm) P := by
  refine aIload_n (pc' := 3) dX10_redeals_2 rfl rfl ?_
  refine aAload_n (pc' := 4) dX10_redeals_3 rfl rfl ?_
  refine aGetI (pc' := 7) dX10_redeals_4 fX10_157 rfl rfl (lv (by decide)) rfl ?_
  refine aTopEq (y := (S 23 0)) rfl ?_
  refine aIcmp_ge (tgt := 111) (pc' := 10) dX10_redeals_7 (by decide) rfl (fun hc => ?_) (fun hc => ?_)
  · have hw := hw.1 hc
    refine aIconst (pc' := 112) ⟨by decide, by decide⟩ dX10_redeals_111 rfl ?_
    refine aIstore_n (pc' := 113) dX10_redeals_112 (by decide) rfl (L' := [some (aO 40 0), some (aI 0), none]) rfl ?_
    exact hw
  · have hw := hw.2 hc
    refine aAload_n (pc' := 11) dX10_redeals_10 rfl rfl ?_
    refine aGetR (pc' := 14) (q := (68, 0)) dX10_redeals_11 fX10_66 rfl rfl (lv (by decide)) rfl rfl ?_
    refine aIload_n (pc' := 15) dX10_redeals_14 rfl rfl ?_
    obtain ⟨h1, hw⟩ := hw
    refine aIald (pc' := 16) (j := l1) dX10_redeals_15 rfl (lv (by decide)) rfl h1 rfl ?_
    refine aTopEq (y := (S 28 l1)) rfl ?_
    refine aIconst (pc' := 17) ⟨by decide, by decide⟩ dX10_redeals_16 rfl ?_
    refine aIcmp_ne (tgt := 105) (pc' := 20) dX10_redeals_17 (by decide) rfl (fun hc => ?_) (fun hc => ?_)
    · have hw := hw.1 hc
      obtain ⟨h2, hw⟩ := hw
      refine aIinc1 (pc' := 108) dX10_redeals_105 rfl (by decide) h2 rfl (L' := [some (aO 40 0), some (aI ((((l1 + 1) : Nat) : Int))), none]) rfl ?_
      refine aGoto (pc' := 2) dX10_redeals_108 (by decide) ?_
      exact hw
    · have hw := hw.2 hc
      refine aAload_n (pc' := 21) dX10_redeals_20 rfl rfl ?_
      refine aGetR (pc' := 24) (q := (83, 0)) dX10_redeals_21 fX10_112 rfl rfl (lv (by decide)) rfl rfl ?_
      refine aIload_n (pc' := 25) dX10_redeals_24 rfl rfl ?_
      refine aZald (pc' := 26) (j := l1) dX10_redeals_25 rfl (lv (by decide)) rfl h1 rfl ?_
      refine aTopEq (y := (S 43 l1)) rfl ?_
      refine aIf_eq (tgt := 32) (pc' := 29) dX10_redeals_26 (by decide) rfl (fun hc => ?_) (fun hc => ?_)
      · have hw := hw.1 hc
        refine aAload_n (pc' := 33) dX10_redeals_32 rfl rfl ?_
        refine aGetR (pc' := 36) (q := (83, 0)) dX10_redeals_33 fX10_112 rfl rfl (lv (by decide)) rfl rfl ?_
        refine aIload_n (pc' := 37) dX10_redeals_36 rfl rfl ?_
        refine aIconst (pc' := 38) ⟨by decide, by decide⟩ dX10_redeals_37 rfl ?_
        refine aZast (pc' := 39) (j := l1) dX10_redeals_38 rfl (lv (by decide)) rfl h1 (by decide) rfl (cEqI (mA (f := 43) rfl rfl rfl) ?_)
        refine aAload_n (pc' := 40) dX10_redeals_39 rfl rfl ?_
        refine aGetR (pc' := 43) (q := (79, 0)) dX10_redeals_40 fX10_99 rfl rfl (lv (by decide)) rfl rfl ?_
        refine aIload_n (pc' := 44) dX10_redeals_43 rfl rfl ?_
        refine aAload_n (pc' := 45) dX10_redeals_44 rfl rfl ?_
        refine aGetR (pc' := 48) (q := (69, 0)) dX10_redeals_45 fX10_69 rfl rfl (lv (by decide)) rfl rfl ?_
        refine aIload_n (pc' := 49) dX10_redeals_48 rfl rfl ?_
        refine aIald (pc' := 50) (j := l1) dX10_redeals_49 rfl (lv (by decide)) rfl h1 rfl ?_
        refine aTopEq (y := ((sU S 43 l1 1) 29 l1)) rfl ?_
        refine aTopEq (sU_f rfl) ?_
        refine aIast (pc' := 51) (j := l1) dX10_redeals_50 rfl (lv (by decide)) rfl h1 rfl (cEqI (mA (f := 39) rfl rfl rfl) ?_)
        refine aAload_n (pc' := 52) dX10_redeals_51 rfl rfl ?_
        refine aGetR (pc' := 55) (q := (70, 0)) dX10_redeals_52 fX10_72 rfl rfl (lv (by decide)) rfl rfl ?_
        refine aIload_n (pc' := 56) dX10_redeals_55 rfl rfl ?_
        refine aIald (pc' := 57) (j := l1) dX10_redeals_56 rfl (lv (by decide)) rfl h1 rfl ?_
        refine aTopEq (y := ((sU (sU S 43 l1 1) 39 l1 ((S 29 l1))) 30 l1)) rfl ?_
        refine aTopEq ((sU_f rfl).trans (sU_f rfl)) ?_
        refine aAload_n (pc' := 58) dX10_redeals_57 rfl rfl ?_
        refine aGetR (pc' := 61) (q := (71, 0)) dX10_redeals_58 fX10_75 rfl rfl (lv (by decide)) rfl rfl ?_
        refine aIload_n (pc' := 62) dX10_redeals_61 rfl rfl ?_
        refine aIald (pc' := 63) (j := l1) dX10_redeals_62 rfl (lv (by decide)) rfl h1 rfl ?_
        refine aTopEq (y := ((sU (sU S 43 l1 1) 39 l1 ((S 29 l1))) 31 l1)) rfl ?_
        refine aTopEq ((sU_f rfl).trans (sU_f rfl)) ?_
        refine aIcmp_le (tgt := 72) (pc' := 66) dX10_redeals_63 (by decide) rfl (fun hc => ?_) (fun hc => ?_)
        · have hw := hw.1 hc
          refine aAload_n (pc' := 73) dX10_redeals_72 rfl rfl ?_
          refine aIload_n (pc' := 74) dX10_redeals_73 rfl rfl ?_
          refine cVI (c := 10) (pc' := 77) [aI ((l1 : Int))] dX10_redeals_74 lX10_238 okX10_spare ⟨by decide, by decide⟩ npX10_spare rfl rfl rfl rfl rfl (by decide) rfl (cMetI_mono hw (fun x3 J5 hw => ?_))
          obtain ⟨S4, rfl, hw⟩ := hw
          refine aIstore_n (pc' := 78) dX10_redeals_77 (by decide) rfl (L' := [some (aO 40 0), some (aI ((l1 : Int))), some (aI x3)]) rfl ?_
          refine aAload_n (pc' := 79) dX10_redeals_78 rfl rfl ?_
          refine aGetR (pc' := 82) (q := (69, 0)) dX10_redeals_79 fX10_69 rfl rfl (lv (by decide)) rfl rfl ?_
          refine aIload_n (pc' := 83) dX10_redeals_82 rfl rfl ?_
          refine aDup2 (pc' := 84) rfl rfl dX10_redeals_83 rfl ?_
          refine aIald (pc' := 85) (j := l1) dX10_redeals_84 rfl (lv (by decide)) rfl h1 rfl ?_
          refine aTopEq (y := (S4 29 l1)) rfl ?_
          refine aIload_n (pc' := 86) dX10_redeals_85 rfl rfl ?_
          obtain ⟨h6, hw⟩ := hw
          refine aIsub (pc' := 87) h6.1 h6.2 dX10_redeals_86 rfl ?_
          refine aIast (pc' := 88) (j := l1) dX10_redeals_87 rfl (lv (by decide)) rfl h1 rfl (cEqI (mA (f := 29) rfl rfl rfl) ?_)
          refine aAload_n (pc' := 89) dX10_redeals_88 rfl rfl ?_
          refine aDup (pc' := 90) rfl dX10_redeals_89 rfl ?_
          refine aGetI (pc' := 93) dX10_redeals_90 fX10_206 rfl rfl (lv (by decide)) rfl ?_
          refine aTopEq (y := ((sU S4 29 l1 (((S4 29 l1) - x3))) 25 0)) rfl ?_
          refine aTopEq (sU_f rfl) ?_
          refine aIload_n (pc' := 94) dX10_redeals_93 rfl rfl ?_
          obtain ⟨h7, hw⟩ := hw
          refine aIadd (pc' := 95) h7.1 h7.2 dX10_redeals_94 rfl ?_
          refine aPutI (pc' := 98) dX10_redeals_95 fX10_206 rfl rfl (Or.inl rfl) (lv (by decide)) rfl (cEqI (mS (f := 25) rfl) ?_)
          refine aAload_n (pc' := 99) dX10_redeals_98 rfl rfl ?_
          refine aIload_n (pc' := 100) dX10_redeals_99 rfl rfl ?_
          refine aIconst (pc' := 101) ⟨by decide, by decide⟩ dX10_redeals_100 rfl ?_
          refine aIload_n (pc' := 102) dX10_redeals_101 rfl rfl ?_
          refine cVV (c := 10) (pc' := 105) [aI ((l1 : Int)), aI 4, aI x3] dX10_redeals_102 lX10_215 okX10_tells ⟨by decide, by decide⟩ npX10_tells rfl rfl rfl rfl rfl (by decide) rfl (cMetV_mono hw (fun J10 hw => ?_))
          obtain ⟨S9, rfl, hw⟩ := hw
          obtain ⟨h11, hw⟩ := hw
          refine aIinc1 (pc' := 108) dX10_redeals_105 rfl (by decide) h11 rfl (L' := [some (aO 40 0), some (aI ((((l1 + 1) : Nat) : Int))), some (aI x3)]) rfl ?_
          refine aGoto (pc' := 2) dX10_redeals_108 (by decide) ?_
          exact aDrop [2] (L' := [some (aO 40 0), some (aI ((((l1 + 1) : Nat) : Int))), none]) rfl hw
        · have hw := hw.2 hc
          refine aAload_n (pc' := 67) dX10_redeals_66 rfl rfl ?_
          refine aIload_n (pc' := 68) dX10_redeals_67 rfl rfl ?_
          refine cVI (c := 10) (pc' := 71) [aI ((l1 : Int))] dX10_redeals_68 lX10_225 okX10_collects ⟨by decide, by decide⟩ npX10_collects rfl rfl rfl rfl rfl (by decide) rfl (cMetI_mono hw (fun x12 J14 hw => ?_))
          obtain ⟨S13, rfl, hw⟩ := hw
          refine aIstore_n (pc' := 72) dX10_redeals_71 (by decide) rfl (L' := [some (aO 40 0), some (aI ((l1 : Int))), some (aI x12)]) rfl ?_
          refine aAload_n (pc' := 73) dX10_redeals_72 rfl rfl ?_
          refine aIload_n (pc' := 74) dX10_redeals_73 rfl rfl ?_
          refine cVI (c := 10) (pc' := 77) [aI ((l1 : Int))] dX10_redeals_74 lX10_238 okX10_spare ⟨by decide, by decide⟩ npX10_spare rfl rfl rfl rfl rfl (by decide) rfl (cMetI_mono hw (fun x15 J17 hw => ?_))
          obtain ⟨S16, rfl, hw⟩ := hw
          refine aIstore_n (pc' := 78) dX10_redeals_77 (by decide) rfl (L' := [some (aO 40 0), some (aI ((l1 : Int))), some (aI x15)]) rfl ?_
          refine aAload_n (pc' := 79) dX10_redeals_78 rfl rfl ?_
          refine aGetR (pc' := 82) (q := (69, 0)) dX10_redeals_79 fX10_69 rfl rfl (lv (by decide)) rfl rfl ?_
          refine aIload_n (pc' := 83) dX10_redeals_82 rfl rfl ?_
          refine aDup2 (pc' := 84) rfl rfl dX10_redeals_83 rfl ?_
          refine aIald (pc' := 85) (j := l1) dX10_redeals_84 rfl (lv (by decide)) rfl h1 rfl ?_
          refine aTopEq (y := (S16 29 l1)) rfl ?_
          refine aIload_n (pc' := 86) dX10_redeals_85 rfl rfl ?_
          obtain ⟨h18, hw⟩ := hw
          refine aIsub (pc' := 87) h18.1 h18.2 dX10_redeals_86 rfl ?_
          refine aIast (pc' := 88) (j := l1) dX10_redeals_87 rfl (lv (by decide)) rfl h1 rfl (cEqI (mA (f := 29) rfl rfl rfl) ?_)
          refine aAload_n (pc' := 89) dX10_redeals_88 rfl rfl ?_
          refine aDup (pc' := 90) rfl dX10_redeals_89 rfl ?_
          refine aGetI (pc' := 93) dX10_redeals_90 fX10_206 rfl rfl (lv (by decide)) rfl ?_
          refine aTopEq (y := ((sU S16 29 l1 (((S16 29 l1) - x15))) 25 0)) rfl ?_
          refine aTopEq (sU_f rfl) ?_
          refine aIload_n (pc' := 94) dX10_redeals_93 rfl rfl ?_
          obtain ⟨h19, hw⟩ := hw
          refine aIadd (pc' := 95) h19.1 h19.2 dX10_redeals_94 rfl ?_
          refine aPutI (pc' := 98) dX10_redeals_95 fX10_206 rfl rfl (Or.inl rfl) (lv (by decide)) rfl (cEqI (mS (f := 25) rfl) ?_)
          refine aAload_n (pc' := 99) dX10_redeals_98 rfl rfl ?_
          refine aIload_n (pc' := 100) dX10_redeals_99 rfl rfl ?_
          refine aIconst (pc' := 101) ⟨by decide, by decide⟩ dX10_redeals_100 rfl ?_
          refine aIload_n (pc' := 102) dX10_redeals_101 rfl rfl ?_
          refine cVV (c := 10) (pc' := 105) [aI ((l1 : Int)), aI 4, aI x15] dX10_redeals_102 lX10_215 okX10_tells ⟨by decide, by decide⟩ npX10_tells rfl rfl rfl rfl rfl (by decide) rfl (cMetV_mono hw (fun J22 hw => ?_))
          obtain ⟨S21, rfl, hw⟩ := hw
          obtain ⟨h23, hw⟩ := hw
          refine aIinc1 (pc' := 108) dX10_redeals_105 rfl (by decide) h23 rfl (L' := [some (aO 40 0), some (aI ((((l1 + 1) : Nat) : Int))), some (aI x15)]) rfl ?_
          refine aGoto (pc' := 2) dX10_redeals_108 (by decide) ?_
          exact aDrop [2] (L' := [some (aO 40 0), some (aI ((((l1 + 1) : Nat) : Int))), none]) rfl hw
      · have hw := hw.2 hc
        refine aGoto (pc' := 105) dX10_redeals_29 (by decide) ?_
        obtain ⟨h24, hw⟩ := hw
        refine aIinc1 (pc' := 108) dX10_redeals_105 rfl (by decide) h24 rfl (L' := [some (aO 40 0), some (aI ((((l1 + 1) : Nat) : Int))), none]) rfl ?_
        refine aGoto (pc' := 2) dX10_redeals_108 (by decide) ?_
        exact hw
set_option maxRecDepth 100000 in
set_option maxHeartbeats 4000000 in
theorem gX10_redeals_113 {w : aW} {mm : Nat} {C : aIF} {S : aS} {l1 : Int} {P : aS → Prop} (hw : (((S 9 0) ≤ l1) → rRunV w mX10_redeals 136 [some (aO 40 0), some (aI l1), some (aI 0)] [] C S (rf mm) P) ∧ ((¬ ((S 9 0) ≤ l1)) → rMetI w mX10_swung [aO 40 0] C S (rf mm) (fun x1 S2 => ((x1 = 0) → rRunV w mX10_redeals 136 [some (aO 40 0), some (aI l1), some (aI 0)] [] C S2 (rf mm) P) ∧ ((¬ (x1 = 0)) → (-2147483648 ≤ (l1 + 1) ∧ (l1 + 1) < 2147483648) ∧ (rRunV w mX10_redeals 113 [some (aO 40 0), some (aI ((l1 + 1))), none] [] C S2 (rf mm) P))))) : rRunV w mX10_redeals 113 [some (aO 40 0), some (aI l1), none] [] C S (rf mm) P := by
  refine aIload_n (pc' := 114) dX10_redeals_113 rfl rfl ?_
  refine aAload_n (pc' := 115) dX10_redeals_114 rfl rfl ?_
  refine aGetI (pc' := 118) dX10_redeals_115 fX10_33 rfl rfl (lv (by decide)) rfl ?_
  refine aTopEq (y := (S 9 0)) rfl ?_
  refine aIcmp_ge (tgt := 134) (pc' := 121) dX10_redeals_118 (by decide) rfl (fun hc => ?_) (fun hc => ?_)
  · have hw := hw.1 hc
    refine aIconst (pc' := 135) ⟨by decide, by decide⟩ dX10_redeals_134 rfl ?_
    refine aIstore_n (pc' := 136) dX10_redeals_135 (by decide) rfl (L' := [some (aO 40 0), some (aI l1), some (aI 0)]) rfl ?_
    exact hw
  · have hw := hw.2 hc
    refine aAload_n (pc' := 122) dX10_redeals_121 rfl rfl ?_
    refine cVI (c := 10) (pc' := 125) [] dX10_redeals_122 lX10_259 okX10_swung ⟨by decide, by decide⟩ npX10_swung rfl rfl rfl rfl rfl (by decide) rfl (cMetI_mono hw (fun x1 J3 hw => ?_))
    obtain ⟨S2, rfl, hw⟩ := hw
    refine aIf_eq (tgt := 134) (pc' := 128) dX10_redeals_125 (by decide) rfl (fun hc => ?_) (fun hc => ?_)
    · have hw := hw.1 hc
      refine aIconst (pc' := 135) ⟨by decide, by decide⟩ dX10_redeals_134 rfl ?_
      refine aIstore_n (pc' := 136) dX10_redeals_135 (by decide) rfl (L' := [some (aO 40 0), some (aI l1), some (aI 0)]) rfl ?_
      exact hw
    · have hw := hw.2 hc
      obtain ⟨h4, hw⟩ := hw
      refine aIinc (pc' := 131) dX10_redeals_128 rfl (by decide) ⟨by decide, by decide⟩ h4.1 h4.2 rfl (L' := [some (aO 40 0), some (aI ((l1 + 1))), none]) rfl ?_
      refine aGoto (pc' := 113) dX10_redeals_131 (by decide) ?_
      exact hw
set_option maxRecDepth 100000 in
set_option maxHeartbeats 4000000 in
theorem gX10_redeals_136 {w : aW} {mm : Nat} {C : aIF} {S : aS} {l1 : Nat} {l2 : Int} {P : aS → Prop} (hw : (((S 23 0) ≤ l2) → P S) ∧ ((¬ ((S 23 0) ≤ l2)) → (0 ≤ l2 ∧ l2 < ((6 : Nat) : Int)) ∧ ((-2147483648 ≤ (l2 + 1) ∧ (l2 + 1) < 2147483648) ∧ (rRunV w mX10_redeals 136 [some (aO 40 0), some (aI ((l1 : Int))), some (aI ((l2 + 1)))] [] C (sU S 36 ((l2).toNat) 0) (rf mm) P)))) : rRunV w mX10_redeals 136 [some (aO 40 0), some (aI ((l1 : Int))), some (aI l2)] [] C S (rf mm) P := by
  refine aIload_n (pc' := 137) dX10_redeals_136 rfl rfl ?_
  refine aAload_n (pc' := 138) dX10_redeals_137 rfl rfl ?_
  refine aGetI (pc' := 141) dX10_redeals_138 fX10_157 rfl rfl (lv (by decide)) rfl ?_
  refine aTopEq (y := (S 23 0)) rfl ?_
  refine aIcmp_ge (tgt := 157) (pc' := 144) dX10_redeals_141 (by decide) rfl (fun hc => ?_) (fun hc => ?_)
  · have hw := hw.1 hc
    exact cVret dX10_redeals_157 okX10_redeals rfl ⟨rfl, rfl, _, rfl, hw⟩
  · have hw := hw.2 hc
    refine aAload_n (pc' := 145) dX10_redeals_144 rfl rfl ?_
    refine aGetR (pc' := 148) (q := (76, 0)) dX10_redeals_145 fX10_90 rfl rfl (lv (by decide)) rfl rfl ?_
    refine aIload_n (pc' := 149) dX10_redeals_148 rfl rfl ?_
    refine aIconst (pc' := 150) ⟨by decide, by decide⟩ dX10_redeals_149 rfl ?_
    obtain ⟨h1, hw⟩ := hw
    refine aIast (pc' := 151) (j := (l2).toNat) dX10_redeals_150 rfl (lv (by decide)) (tnIx h1).1 (tnIx h1).2 rfl (cEqI (mA (f := 36) rfl rfl rfl) ?_)
    obtain ⟨h2, hw⟩ := hw
    refine aIinc (pc' := 154) dX10_redeals_151 rfl (by decide) ⟨by decide, by decide⟩ h2.1 h2.2 rfl (L' := [some (aO 40 0), some (aI ((l1 : Int))), some (aI ((l2 + 1)))]) rfl ?_
    refine aGoto (pc' := 136) dX10_redeals_154 (by decide) ?_
    exact hw
set_option maxRecDepth 100000 in
set_option maxHeartbeats 4000000 in
theorem gX10_row {w : aW} {mm : Nat} {C : aIF} {S : aS} {p1 : Int} {p2 : Int} {p3 : Int} {P : Int → aS → Prop} (hw : rMetI w mX10_isSlot [aI p1] C (sU S 0 0 0) (rf mm) (fun x1 S2 => ((x1 = 0) → P (-2) S2) ∧ ((¬ (x1 = 0)) → rMetI w mX10_in [aI p2, aI 0, aI 3] C S2 (rf mm) (fun x4 S5 => ((x4 = 0) → P (-2) S5) ∧ ((¬ (x4 = 0)) → ((p3 ≤ 60) → ((0 ≤ p3) → (0 ≤ p1 ∧ p1 < ((4 : Nat) : Int)) ∧ (rRunI w mX10_row 54 [some (aO 40 0), some (aI p1), some (aI p2), some (aI p3), some (aI 0)] [] C (sU (sU S5 1 ((p1).toNat) p2) 2 ((p1).toNat) p3) (rf mm) P)) ∧ ((¬ (0 ≤ p3)) → P (-3) S5)) ∧ ((¬ (p3 ≤ 60)) → P (-2) S5)))))) : rMetI w mX10_row [aO 40 0, aI p1, aI p2, aI p3] C S (rf mm) P := by
  refine cMet_of okX10_row (Nat.le_of_ble_eq_true rfl) (fun hos => ?_)
  show cRun w mX10_row 0 [some (aO 40 0), some (aI p1), some (aI p2), some (aI p3), none] [] (mem C S) (rf mm) (rqI (rf mm) C P)
  refine aAload_n (pc' := 1) dX10_row_0 rfl rfl ?_
  refine aIconst (pc' := 2) ⟨by decide, by decide⟩ dX10_row_1 rfl ?_
  refine aPutI (pc' := 5) dX10_row_2 fX10_121 rfl rfl (Or.inl rfl) (lv (by decide)) rfl (cEqI (mS (f := 0) rfl) ?_)
  refine aIload_n (pc' := 6) dX10_row_5 rfl rfl ?_
  refine cSI (pc' := 9) [aI p1] dX10_row_6 lX10_128 okX10_isSlot ⟨by decide, by decide⟩ npX10_isSlot rfl rfl rfl (cMetI_mono hw (fun x1 J3 hw => ?_))
  obtain ⟨S2, rfl, hw⟩ := hw
  refine aIf_eq (tgt := 27) (pc' := 12) dX10_row_9 (by decide) rfl (fun hc => ?_) (fun hc => ?_)
  · have hw := hw.1 hc
    refine aBipush (pc' := 29) ⟨by decide, by decide⟩ dX10_row_27 rfl ?_
    exact cIret dX10_row_29 okX10_row rfl ⟨rfl, _, rfl, _, rfl, hw⟩
  · have hw := hw.2 hc
    refine aIload_n (pc' := 13) dX10_row_12 rfl rfl ?_
    refine aIconst (pc' := 14) ⟨by decide, by decide⟩ dX10_row_13 rfl ?_
    refine aIconst (pc' := 15) ⟨by decide, by decide⟩ dX10_row_14 rfl ?_
    refine cSI (pc' := 18) [aI p2, aI 0, aI 3] dX10_row_15 lX10_124 okX10_in ⟨by decide, by decide⟩ npX10_in rfl rfl rfl (cMetI_mono hw (fun x4 J6 hw => ?_))
    obtain ⟨S5, rfl, hw⟩ := hw
    refine aIf_eq (tgt := 27) (pc' := 21) dX10_row_18 (by decide) rfl (fun hc => ?_) (fun hc => ?_)
    · have hw := hw.1 hc
      refine aBipush (pc' := 29) ⟨by decide, by decide⟩ dX10_row_27 rfl ?_
      exact cIret dX10_row_29 okX10_row rfl ⟨rfl, _, rfl, _, rfl, hw⟩
    · have hw := hw.2 hc
      refine aIload_n (pc' := 22) dX10_row_21 rfl rfl ?_
      refine aBipush (pc' := 24) ⟨by decide, by decide⟩ dX10_row_22 rfl ?_
      refine aIcmp_le (tgt := 30) (pc' := 27) dX10_row_24 (by decide) rfl (fun hc => ?_) (fun hc => ?_)
      · have hw := hw.1 hc
        refine aIload_n (pc' := 31) dX10_row_30 rfl rfl ?_
        refine aIf_ge (tgt := 37) (pc' := 34) dX10_row_31 (by decide) rfl (fun hc => ?_) (fun hc => ?_)
        · have hw := hw.1 hc
          refine aAload_n (pc' := 38) dX10_row_37 rfl rfl ?_
          refine aGetR (pc' := 41) (q := (41, 0)) dX10_row_38 fX10_9 rfl rfl (lv (by decide)) rfl rfl ?_
          refine aIload_n (pc' := 42) dX10_row_41 rfl rfl ?_
          refine aIload_n (pc' := 43) dX10_row_42 rfl rfl ?_
          obtain ⟨h7, hw⟩ := hw
          refine aIast (pc' := 44) (j := (p1).toNat) dX10_row_43 rfl (lv (by decide)) (tnIx h7).1 (tnIx h7).2 rfl (cEqI (mA (f := 1) rfl rfl rfl) ?_)
          refine aAload_n (pc' := 45) dX10_row_44 rfl rfl ?_
          refine aGetR (pc' := 48) (q := (42, 0)) dX10_row_45 fX10_13 rfl rfl (lv (by decide)) rfl rfl ?_
          refine aIload_n (pc' := 49) dX10_row_48 rfl rfl ?_
          refine aIload_n (pc' := 50) dX10_row_49 rfl rfl ?_
          refine aIast (pc' := 51) (j := (p1).toNat) dX10_row_50 rfl (lv (by decide)) (tnIx h7).1 (tnIx h7).2 rfl (cEqI (mA (f := 2) rfl rfl rfl) ?_)
          refine aIconst (pc' := 52) ⟨by decide, by decide⟩ dX10_row_51 rfl ?_
          refine aIstore (pc' := 54) dX10_row_52 (by decide) rfl (L' := [some (aO 40 0), some (aI p1), some (aI p2), some (aI p3), some (aI 0)]) rfl ?_
          exact hw
        · have hw := hw.2 hc
          refine aBipush (pc' := 36) ⟨by decide, by decide⟩ dX10_row_34 rfl ?_
          exact cIret dX10_row_36 okX10_row rfl ⟨rfl, _, rfl, _, rfl, hw⟩
      · have hw := hw.2 hc
        refine aBipush (pc' := 29) ⟨by decide, by decide⟩ dX10_row_27 rfl ?_
        exact cIret dX10_row_29 okX10_row rfl ⟨rfl, _, rfl, _, rfl, hw⟩
set_option maxRecDepth 100000 in
set_option maxHeartbeats 4000000 in
theorem gX10_row_54 {w : aW} {mm : Nat} {C : aIF} {S : aS} {s : Nat} {p2 : Int} {p3 : Int} {l4 : Nat} {P : Int → aS → Prop} (hw : ((60 ≤ (l4 : Int)) → P 0 S) ∧ ((¬ (60 ≤ (l4 : Int))) → (-2147483648 ≤ (60 * (s : Int)) ∧ (60 * (s : Int)) < 2147483648) ∧ ((-2147483648 ≤ ((60 * (s : Int)) + (l4 : Int)) ∧ ((60 * (s : Int)) + (l4 : Int)) < 2147483648) ∧ ((((60 * s) + l4) < 240) ∧ ((l4 + 1 < 2147483648) ∧ (rRunI w mX10_row 54 [some (aO 40 0), some (aI ((s : Int))), some (aI p2), some (aI p3), some (aI ((((l4 + 1) : Nat) : Int)))] [] C (sU S 3 (((60 * s) + l4)) 0) (rf mm) P)))))) : rRunI w mX10_row 54 [some (aO 40 0), some (aI ((s : Int))), some (aI p2), some (aI p3), some (aI ((l4 : Int)))] [] C S (rf mm) P := by
  refine aIload (pc' := 56) dX10_row_54 rfl rfl ?_
  refine aBipush (pc' := 58) ⟨by decide, by decide⟩ dX10_row_56 rfl ?_
  refine aIcmp_ge (tgt := 80) (pc' := 61) dX10_row_58 (by decide) rfl (fun hc => ?_) (fun hc => ?_)
  · have hw := hw.1 hc
    refine aIconst (pc' := 81) ⟨by decide, by decide⟩ dX10_row_80 rfl ?_
    exact cIret dX10_row_81 okX10_row rfl ⟨rfl, _, rfl, _, rfl, hw⟩
  · have hw := hw.2 hc
    refine aAload_n (pc' := 62) dX10_row_61 rfl rfl ?_
    refine aGetR (pc' := 65) (q := (43, 0)) dX10_row_62 fX10_16 rfl rfl (lv (by decide)) rfl rfl ?_
    refine aBipush (pc' := 67) ⟨by decide, by decide⟩ dX10_row_65 rfl ?_
    refine aIload_n (pc' := 68) dX10_row_67 rfl rfl ?_
    obtain ⟨h1, hw⟩ := hw
    refine aImul (pc' := 69) h1.1 h1.2 dX10_row_68 rfl ?_
    refine aIload (pc' := 71) dX10_row_69 rfl rfl ?_
    obtain ⟨h2, hw⟩ := hw
    refine aIadd (pc' := 72) h2.1 h2.2 dX10_row_71 rfl ?_
    refine aLconst0 (pc' := 73) dX10_row_72 rfl ?_
    obtain ⟨h3, hw⟩ := hw
    refine aLast (pc' := 74) (j := ((60 * s) + l4)) dX10_row_73 rfl (lv (by decide)) (by omega) h3 rfl (cEqI (mA (f := 3) rfl rfl rfl) ?_)
    obtain ⟨h4, hw⟩ := hw
    refine aIinc1 (pc' := 77) dX10_row_74 rfl (by decide) h4 rfl (L' := [some (aO 40 0), some (aI ((s : Int))), some (aI p2), some (aI p3), some (aI ((((l4 + 1) : Nat) : Int)))]) rfl ?_
    refine aGoto (pc' := 54) dX10_row_77 (by decide) ?_
    exact hw
set_option maxRecDepth 100000 in
set_option maxHeartbeats 4000000 in
theorem gX10_run {w : aW} {mm : Nat} {C : aIF} {S : aS} {p1 : Int} {P : Int → aS → Prop} (hw : rMetI w mX10_in [aI p1, aI 1, aI 2000] C (sU S 0 0 0) (rf mm) (fun x1 S2 => ((x1 ≠ 0) → (((S2 22 0) ≠ 0) → rRunI w mX10_run 31 [some (aO 40 0), some (aI p1), some (aI 0)] [] C S2 (rf mm) P) ∧ (((S2 22 0) = 0) → P (-9) S2)) ∧ ((x1 = 0) → P (-2) S2))) : rMetI w mX10_run [aO 40 0, aI p1] C S (rf mm) P := by
  refine cMet_of okX10_run (Nat.le_of_ble_eq_true rfl) (fun hos => ?_)
  show cRun w mX10_run 0 [some (aO 40 0), some (aI p1), none] [] (mem C S) (rf mm) (rqI (rf mm) C P)
  refine aAload_n (pc' := 1) dX10_run_0 rfl rfl ?_
  refine aIconst (pc' := 2) ⟨by decide, by decide⟩ dX10_run_1 rfl ?_
  refine aPutI (pc' := 5) dX10_run_2 fX10_121 rfl rfl (Or.inl rfl) (lv (by decide)) rfl (cEqI (mS (f := 0) rfl) ?_)
  refine aIload_n (pc' := 6) dX10_run_5 rfl rfl ?_
  refine aIconst (pc' := 7) ⟨by decide, by decide⟩ dX10_run_6 rfl ?_
  refine aSipush (pc' := 10) ⟨by decide, by decide⟩ dX10_run_7 rfl ?_
  refine cSI (pc' := 13) [aI p1, aI 1, aI 2000] dX10_run_10 lX10_124 okX10_in ⟨by decide, by decide⟩ npX10_in rfl rfl rfl (cMetI_mono hw (fun x1 J3 hw => ?_))
  obtain ⟨S2, rfl, hw⟩ := hw
  refine aIf_ne (tgt := 19) (pc' := 16) dX10_run_13 (by decide) rfl (fun hc => ?_) (fun hc => ?_)
  · have hw := hw.1 hc
    refine aAload_n (pc' := 20) dX10_run_19 rfl rfl ?_
    refine aGetI (pc' := 23) dX10_run_20 fX10_136 rfl rfl (lv (by decide)) rfl ?_
    refine aTopEq (y := (S2 22 0)) rfl ?_
    refine aIf_ne (tgt := 29) (pc' := 26) dX10_run_23 (by decide) rfl (fun hc => ?_) (fun hc => ?_)
    · have hw := hw.1 hc
      refine aIconst (pc' := 30) ⟨by decide, by decide⟩ dX10_run_29 rfl ?_
      refine aIstore_n (pc' := 31) dX10_run_30 (by decide) rfl (L' := [some (aO 40 0), some (aI p1), some (aI 0)]) rfl ?_
      exact hw
    · have hw := hw.2 hc
      refine aBipush (pc' := 28) ⟨by decide, by decide⟩ dX10_run_26 rfl ?_
      exact cIret dX10_run_28 okX10_run rfl ⟨rfl, _, rfl, _, rfl, hw⟩
  · have hw := hw.2 hc
    refine aBipush (pc' := 18) ⟨by decide, by decide⟩ dX10_run_16 rfl ?_
    exact cIret dX10_run_18 okX10_run rfl ⟨rfl, _, rfl, _, rfl, hw⟩
set_option maxRecDepth 100000 in
set_option maxHeartbeats 4000000 in
theorem gX10_run_31 {w : aW} {mm : Nat} {C : aIF} {S : aS} {p1 : Int} {l2 : Nat} {P : Int → aS → Prop} (hw : ((p1 ≤ (l2 : Int)) → P (S 24 0) S) ∧ ((¬ (p1 ≤ (l2 : Int))) → rMetI w mX10_isAny [aO 40 0] C S (rf mm) (fun x1 S2 => ((x1 = 0) → P (S2 24 0) S2) ∧ ((¬ (x1 = 0)) → rMetV w mX10_ticks [aO 40 0] C S2 (rf mm) (fun S5 => (l2 + 1 < 2147483648) ∧ (rRunI w mX10_run 31 [some (aO 40 0), some (aI p1), some (aI ((((l2 + 1) : Nat) : Int)))] [] C S5 (rf mm) P)))))) : rRunI w mX10_run 31 [some (aO 40 0), some (aI p1), some (aI ((l2 : Int)))] [] C S (rf mm) P := by
  refine aIload_n (pc' := 32) dX10_run_31 rfl rfl ?_
  refine aIload_n (pc' := 33) dX10_run_32 rfl rfl ?_
  refine aIcmp_ge (tgt := 53) (pc' := 36) dX10_run_33 (by decide) rfl (fun hc => ?_) (fun hc => ?_)
  · have hw := hw.1 hc
    refine aAload_n (pc' := 54) dX10_run_53 rfl rfl ?_
    refine aGetI (pc' := 57) dX10_run_54 fX10_203 rfl rfl (lv (by decide)) rfl ?_
    refine aTopEq (y := (S 24 0)) rfl ?_
    exact cIret dX10_run_57 okX10_run rfl ⟨rfl, _, rfl, _, rfl, hw⟩
  · have hw := hw.2 hc
    refine aAload_n (pc' := 37) dX10_run_36 rfl rfl ?_
    refine cVI (c := 10) (pc' := 40) [] dX10_run_37 lX10_265 okX10_isAny ⟨by decide, by decide⟩ npX10_isAny rfl rfl rfl rfl rfl (by decide) rfl (cMetI_mono hw (fun x1 J3 hw => ?_))
    obtain ⟨S2, rfl, hw⟩ := hw
    refine aIf_eq (tgt := 53) (pc' := 43) dX10_run_40 (by decide) rfl (fun hc => ?_) (fun hc => ?_)
    · have hw := hw.1 hc
      refine aAload_n (pc' := 54) dX10_run_53 rfl rfl ?_
      refine aGetI (pc' := 57) dX10_run_54 fX10_203 rfl rfl (lv (by decide)) rfl ?_
      refine aTopEq (y := (S2 24 0)) rfl ?_
      exact cIret dX10_run_57 okX10_run rfl ⟨rfl, _, rfl, _, rfl, hw⟩
    · have hw := hw.2 hc
      refine aAload_n (pc' := 44) dX10_run_43 rfl rfl ?_
      refine cVV (c := 10) (pc' := 47) [] dX10_run_44 lX10_268 okX10_ticks ⟨by decide, by decide⟩ npX10_ticks rfl rfl rfl rfl rfl (by decide) rfl (cMetV_mono hw (fun J6 hw => ?_))
      obtain ⟨S5, rfl, hw⟩ := hw
      obtain ⟨h7, hw⟩ := hw
      refine aIinc1 (pc' := 50) dX10_run_47 rfl (by decide) h7 rfl (L' := [some (aO 40 0), some (aI p1), some (aI ((((l2 + 1) : Nat) : Int)))]) rfl ?_
      refine aGoto (pc' := 31) dX10_run_50 (by decide) ?_
      exact hw
set_option maxRecDepth 100000 in
set_option maxHeartbeats 4000000 in
theorem gX10_s {w : aW} {mm : Nat} {C : aIF} {S : aS} {p : Nat} {P : Int → aS → Prop} (hw : (p < 6) ∧ ((((S 13 p) ≠ 0) → P (S 5 0) S) ∧ (((S 13 p) = 0) → (0 ≤ (S 5 0)) ∧ (P (max 1 ((S 5 0) / 2)) S)))) : rMetI w mX10_s [aO 40 0, aI ((p : Int))] C S (rf mm) P := by
  refine cMet_of okX10_s (Nat.le_of_ble_eq_true rfl) (fun hos => ?_)
  show cRun w mX10_s 0 [some (aO 40 0), some (aI ((p : Int)))] [] (mem C S) (rf mm) (rqI (rf mm) C P)
  refine aAload_n (pc' := 1) dX10_s_0 rfl rfl ?_
  refine aGetR (pc' := 4) (q := (53, 0)) dX10_s_1 fX10_42 rfl rfl (lv (by decide)) rfl rfl ?_
  refine aIload_n (pc' := 5) dX10_s_4 rfl rfl ?_
  obtain ⟨h1, hw⟩ := hw
  refine aIald (pc' := 6) (j := p) dX10_s_5 rfl (lv (by decide)) rfl h1 rfl ?_
  refine aTopEq (y := (S 13 p)) rfl ?_
  refine aIf_ne (tgt := 22) (pc' := 9) dX10_s_6 (by decide) rfl (fun hc => ?_) (fun hc => ?_)
  · have hw := hw.1 hc
    refine aAload_n (pc' := 23) dX10_s_22 rfl rfl ?_
    refine aGetI (pc' := 26) dX10_s_23 fX10_23 rfl rfl (lv (by decide)) rfl ?_
    refine aTopEq (y := (S 5 0)) rfl ?_
    exact cIret dX10_s_26 okX10_s rfl ⟨rfl, _, rfl, _, rfl, hw⟩
  · have hw := hw.2 hc
    refine aIconst (pc' := 10) ⟨by decide, by decide⟩ dX10_s_9 rfl ?_
    refine aAload_n (pc' := 11) dX10_s_10 rfl rfl ?_
    refine aGetI (pc' := 14) dX10_s_11 fX10_23 rfl rfl (lv (by decide)) rfl ?_
    refine aTopEq (y := (S 5 0)) rfl ?_
    refine aIconst (pc' := 15) ⟨by decide, by decide⟩ dX10_s_14 rfl ?_
    obtain ⟨h2, hw⟩ := hw
    refine aIdiv (pc' := 16) h2 (by decide) dX10_s_15 rfl ?_
    refine aMax (pc' := 19) dX10_s_16 lX10_222 rfl rfl (Nat.le_refl _) (Nat.le_refl _) rfl ?_
    refine aGoto (pc' := 26) dX10_s_19 (by decide) ?_
    exact cIret dX10_s_26 okX10_s rfl ⟨rfl, _, rfl, _, rfl, hw⟩
set_option maxRecDepth 100000 in
set_option maxHeartbeats 4000000 in
theorem gX10_share {w : aW} {mm : Nat} {C : aIF} {S : aS} {p1 : Int} {P : Int → aS → Prop} (hw : (((S 17 0) = 0) → P (-1) (sU S 0 0 0)) ∧ ((¬ ((S 17 0) = 0)) → rMetI w mX10_isProgram [aO 40 0, aI p1] C (sU S 0 0 0) (rf mm) (fun x1 S2 => ((x1 = 0) → P (-1) S2) ∧ ((¬ (x1 = 0)) → (0 ≤ p1 ∧ p1 < ((6 : Nat) : Int)) ∧ (P (S2 18 ((p1).toNat)) S2))))) : rMetI w mX10_share [aO 40 0, aI p1] C S (rf mm) P := by
  refine cMet_of okX10_share (Nat.le_of_ble_eq_true rfl) (fun hos => ?_)
  show cRun w mX10_share 0 [some (aO 40 0), some (aI p1)] [] (mem C S) (rf mm) (rqI (rf mm) C P)
  refine aAload_n (pc' := 1) dX10_share_0 rfl rfl ?_
  refine aIconst (pc' := 2) ⟨by decide, by decide⟩ dX10_share_1 rfl ?_
  refine aPutI (pc' := 5) dX10_share_2 fX10_121 rfl rfl (Or.inl rfl) (lv (by decide)) rfl (cEqI (mS (f := 0) rfl) ?_)
  refine aAload_n (pc' := 6) dX10_share_5 rfl rfl ?_
  refine aGetI (pc' := 9) dX10_share_6 fX10_143 rfl rfl (lv (by decide)) rfl ?_
  refine aTopEq (y := ((sU S 0 0 0) 17 0)) rfl ?_
  refine aTopEq (sU_f rfl) ?_
  refine aIf_eq (tgt := 29) (pc' := 12) dX10_share_9 (by decide) rfl (fun hc => ?_) (fun hc => ?_)
  · have hw := hw.1 hc
    refine aIconst (pc' := 30) ⟨by decide, by decide⟩ dX10_share_29 rfl ?_
    exact cIret dX10_share_30 okX10_share rfl ⟨rfl, _, rfl, _, rfl, hw⟩
  · have hw := hw.2 hc
    refine aAload_n (pc' := 13) dX10_share_12 rfl rfl ?_
    refine aIload_n (pc' := 14) dX10_share_13 rfl rfl ?_
    refine cVI (c := 10) (pc' := 17) [aI p1] dX10_share_14 lX10_168 okX10_isProgram ⟨by decide, by decide⟩ npX10_isProgram rfl rfl rfl rfl rfl (by decide) rfl (cMetI_mono hw (fun x1 J3 hw => ?_))
    obtain ⟨S2, rfl, hw⟩ := hw
    refine aIf_eq (tgt := 29) (pc' := 20) dX10_share_17 (by decide) rfl (fun hc => ?_) (fun hc => ?_)
    · have hw := hw.1 hc
      refine aIconst (pc' := 30) ⟨by decide, by decide⟩ dX10_share_29 rfl ?_
      exact cIret dX10_share_30 okX10_share rfl ⟨rfl, _, rfl, _, rfl, hw⟩
    · have hw := hw.2 hc
      refine aAload_n (pc' := 21) dX10_share_20 rfl rfl ?_
      refine aGetR (pc' := 24) (q := (58, 0)) dX10_share_21 fX10_54 rfl rfl (lv (by decide)) rfl rfl ?_
      refine aIload_n (pc' := 25) dX10_share_24 rfl rfl ?_
      obtain ⟨h4, hw⟩ := hw
      refine aIald (pc' := 26) (j := (p1).toNat) dX10_share_25 rfl (lv (by decide)) (tnIx h4).1 (tnIx h4).2 rfl ?_
      refine aTopEq (y := (S2 18 ((p1).toNat))) rfl ?_
      refine aGoto (pc' := 30) dX10_share_26 (by decide) ?_
      exact cIret dX10_share_30 okX10_share rfl ⟨rfl, _, rfl, _, rfl, hw⟩
set_option maxRecDepth 100000 in
set_option maxHeartbeats 4000000 in
theorem gX10_spare {w : aW} {mm : Nat} {C : aIF} {S : aS} {p : Nat} {P : Int → aS → Prop} (hw : rMetI w mX10_isThere [aO 40 0, aI ((p : Int))] C S (rf mm) (fun x1 S2 => ((x1 ≠ 0) → (p < 6) ∧ ((((S2 13 p) ≠ 0) → rMetI w mX10_up [aO 40 0, aI ((max (S2 15 p) (S2 31 p)))] C S2 (rf mm) (fun x5 S6 => (-2147483648 ≤ ((S6 29 p) - x5) ∧ ((S6 29 p) - x5) < 2147483648) ∧ (P (max 0 ((S6 29 p) - x5)) S6))) ∧ (((S2 13 p) = 0) → (-2147483648 ≤ (2 * (S2 31 p)) ∧ (2 * (S2 31 p)) < 2147483648) ∧ (rMetI w mX10_up [aO 40 0, aI ((max (S2 15 p) (2 * (S2 31 p))))] C S2 (rf mm) (fun x10 S11 => (-2147483648 ≤ ((S11 29 p) - x10) ∧ ((S11 29 p) - x10) < 2147483648) ∧ (P (max 0 ((S11 29 p) - x10)) S11)))))) ∧ ((x1 = 0) → P 0 S2))) : rMetI w mX10_spare [aO 40 0, aI ((p : Int))] C S (rf mm) P := by
  refine cMet_of okX10_spare (Nat.le_of_ble_eq_true rfl) (fun hos => ?_)
  show cRun w mX10_spare 0 [some (aO 40 0), some (aI ((p : Int))), none] [] (mem C S) (rf mm) (rqI (rf mm) C P)
  refine aAload_n (pc' := 1) dX10_spare_0 rfl rfl ?_
  refine aIload_n (pc' := 2) dX10_spare_1 rfl rfl ?_
  refine cVI (c := 10) (pc' := 5) [aI ((p : Int))] dX10_spare_2 lX10_219 okX10_isThere ⟨by decide, by decide⟩ npX10_isThere rfl rfl rfl rfl rfl (by decide) rfl (cMetI_mono hw (fun x1 J3 hw => ?_))
  obtain ⟨S2, rfl, hw⟩ := hw
  refine aIf_ne (tgt := 10) (pc' := 8) dX10_spare_5 (by decide) rfl (fun hc => ?_) (fun hc => ?_)
  · have hw := hw.1 hc
    refine aAload_n (pc' := 11) dX10_spare_10 rfl rfl ?_
    refine aAload_n (pc' := 12) dX10_spare_11 rfl rfl ?_
    refine aGetR (pc' := 15) (q := (55, 0)) dX10_spare_12 fX10_48 rfl rfl (lv (by decide)) rfl rfl ?_
    refine aIload_n (pc' := 16) dX10_spare_15 rfl rfl ?_
    obtain ⟨h4, hw⟩ := hw
    refine aIald (pc' := 17) (j := p) dX10_spare_16 rfl (lv (by decide)) rfl h4 rfl ?_
    refine aTopEq (y := (S2 15 p)) rfl ?_
    refine aAload_n (pc' := 18) dX10_spare_17 rfl rfl ?_
    refine aGetR (pc' := 21) (q := (53, 0)) dX10_spare_18 fX10_42 rfl rfl (lv (by decide)) rfl rfl ?_
    refine aIload_n (pc' := 22) dX10_spare_21 rfl rfl ?_
    refine aIald (pc' := 23) (j := p) dX10_spare_22 rfl (lv (by decide)) rfl h4 rfl ?_
    refine aTopEq (y := (S2 13 p)) rfl ?_
    refine aIf_ne (tgt := 37) (pc' := 26) dX10_spare_23 (by decide) rfl (fun hc => ?_) (fun hc => ?_)
    · have hw := hw.1 hc
      refine aAload_n (pc' := 38) dX10_spare_37 rfl rfl ?_
      refine aGetR (pc' := 41) (q := (71, 0)) dX10_spare_38 fX10_75 rfl rfl (lv (by decide)) rfl rfl ?_
      refine aIload_n (pc' := 42) dX10_spare_41 rfl rfl ?_
      refine aIald (pc' := 43) (j := p) dX10_spare_42 rfl (lv (by decide)) rfl h4 rfl ?_
      refine aTopEq (y := (S2 31 p)) rfl ?_
      refine aMax (pc' := 46) dX10_spare_43 lX10_222 rfl rfl (Nat.le_refl _) (Nat.le_refl _) rfl ?_
      refine cVI (c := 10) (pc' := 49) [aI ((max (S2 15 p) (S2 31 p)))] dX10_spare_46 lX10_174 okX10_up ⟨by decide, by decide⟩ npX10_up rfl rfl rfl rfl rfl (by decide) rfl (cMetI_mono hw (fun x5 J7 hw => ?_))
      obtain ⟨S6, rfl, hw⟩ := hw
      refine aIstore_n (pc' := 50) dX10_spare_49 (by decide) rfl (L' := [some (aO 40 0), some (aI ((p : Int))), some (aI x5)]) rfl ?_
      refine aIconst (pc' := 51) ⟨by decide, by decide⟩ dX10_spare_50 rfl ?_
      refine aAload_n (pc' := 52) dX10_spare_51 rfl rfl ?_
      refine aGetR (pc' := 55) (q := (69, 0)) dX10_spare_52 fX10_69 rfl rfl (lv (by decide)) rfl rfl ?_
      refine aIload_n (pc' := 56) dX10_spare_55 rfl rfl ?_
      refine aIald (pc' := 57) (j := p) dX10_spare_56 rfl (lv (by decide)) rfl h4 rfl ?_
      refine aTopEq (y := (S6 29 p)) rfl ?_
      refine aIload_n (pc' := 58) dX10_spare_57 rfl rfl ?_
      obtain ⟨h8, hw⟩ := hw
      refine aIsub (pc' := 59) h8.1 h8.2 dX10_spare_58 rfl ?_
      refine aMax (pc' := 62) dX10_spare_59 lX10_222 rfl rfl (Nat.le_refl _) (Nat.le_refl _) rfl ?_
      exact cIret dX10_spare_62 okX10_spare rfl ⟨rfl, _, rfl, _, rfl, hw⟩
    · have hw := hw.2 hc
      refine aIconst (pc' := 27) ⟨by decide, by decide⟩ dX10_spare_26 rfl ?_
      refine aAload_n (pc' := 28) dX10_spare_27 rfl rfl ?_
      refine aGetR (pc' := 31) (q := (71, 0)) dX10_spare_28 fX10_75 rfl rfl (lv (by decide)) rfl rfl ?_
      refine aIload_n (pc' := 32) dX10_spare_31 rfl rfl ?_
      refine aIald (pc' := 33) (j := p) dX10_spare_32 rfl (lv (by decide)) rfl h4 rfl ?_
      refine aTopEq (y := (S2 31 p)) rfl ?_
      obtain ⟨h9, hw⟩ := hw
      refine aImul (pc' := 34) h9.1 h9.2 dX10_spare_33 rfl ?_
      refine aGoto (pc' := 43) dX10_spare_34 (by decide) ?_
      refine aMax (pc' := 46) dX10_spare_43 lX10_222 rfl rfl (Nat.le_refl _) (Nat.le_refl _) rfl ?_
      refine cVI (c := 10) (pc' := 49) [aI ((max (S2 15 p) (2 * (S2 31 p))))] dX10_spare_46 lX10_174 okX10_up ⟨by decide, by decide⟩ npX10_up rfl rfl rfl rfl rfl (by decide) rfl (cMetI_mono hw (fun x10 J12 hw => ?_))
      obtain ⟨S11, rfl, hw⟩ := hw
      refine aIstore_n (pc' := 50) dX10_spare_49 (by decide) rfl (L' := [some (aO 40 0), some (aI ((p : Int))), some (aI x10)]) rfl ?_
      refine aIconst (pc' := 51) ⟨by decide, by decide⟩ dX10_spare_50 rfl ?_
      refine aAload_n (pc' := 52) dX10_spare_51 rfl rfl ?_
      refine aGetR (pc' := 55) (q := (69, 0)) dX10_spare_52 fX10_69 rfl rfl (lv (by decide)) rfl rfl ?_
      refine aIload_n (pc' := 56) dX10_spare_55 rfl rfl ?_
      refine aIald (pc' := 57) (j := p) dX10_spare_56 rfl (lv (by decide)) rfl h4 rfl ?_
      refine aTopEq (y := (S11 29 p)) rfl ?_
      refine aIload_n (pc' := 58) dX10_spare_57 rfl rfl ?_
      obtain ⟨h13, hw⟩ := hw
      refine aIsub (pc' := 59) h13.1 h13.2 dX10_spare_58 rfl ?_
      refine aMax (pc' := 62) dX10_spare_59 lX10_222 rfl rfl (Nat.le_refl _) (Nat.le_refl _) rfl ?_
      exact cIret dX10_spare_62 okX10_spare rfl ⟨rfl, _, rfl, _, rfl, hw⟩
  · have hw := hw.2 hc
    refine aIconst (pc' := 9) ⟨by decide, by decide⟩ dX10_spare_8 rfl ?_
    exact cIret dX10_spare_9 okX10_spare rfl ⟨rfl, _, rfl, _, rfl, hw⟩
set_option maxRecDepth 100000 in
set_option maxHeartbeats 4000000 in
theorem gX10_stop {w : aW} {mm : Nat} {C : aIF} {S : aS} {P : Int → aS → Prop} (hw : ((S 22 0) = 0 ∨ (S 22 0) = 1) ∧ (P (S 22 0) (sU (sU S 0 0 0) 22 0 0))) : rMetI w mX10_stop [aO 40 0] C S (rf mm) P := by
  refine cMet_of okX10_stop (Nat.le_of_ble_eq_true rfl) (fun hos => ?_)
  show cRun w mX10_stop 0 [some (aO 40 0), none] [] (mem C S) (rf mm) (rqI (rf mm) C P)
  refine aAload_n (pc' := 1) dX10_stop_0 rfl rfl ?_
  refine aIconst (pc' := 2) ⟨by decide, by decide⟩ dX10_stop_1 rfl ?_
  refine aPutI (pc' := 5) dX10_stop_2 fX10_121 rfl rfl (Or.inl rfl) (lv (by decide)) rfl (cEqI (mS (f := 0) rfl) ?_)
  refine aAload_n (pc' := 6) dX10_stop_5 rfl rfl ?_
  refine aGetI (pc' := 9) dX10_stop_6 fX10_136 rfl rfl (lv (by decide)) rfl ?_
  refine aTopEq (y := ((sU S 0 0 0) 22 0)) rfl ?_
  refine aTopEq (sU_f rfl) ?_
  refine aIstore_n (pc' := 10) dX10_stop_9 (by decide) rfl (L' := [some (aO 40 0), some (aI ((S 22 0)))]) rfl ?_
  refine aAload_n (pc' := 11) dX10_stop_10 rfl rfl ?_
  refine aIconst (pc' := 12) ⟨by decide, by decide⟩ dX10_stop_11 rfl ?_
  refine aPutZ (pc' := 15) dX10_stop_12 fX10_136 rfl rfl (Or.inl rfl) (lv (by decide)) (by decide) rfl (cEqI (mS (f := 22) rfl) ?_)
  refine aIload_n (pc' := 16) dX10_stop_15 rfl rfl ?_
  exact cZret dX10_stop_16 okX10_stop rfl hw.1 ⟨rfl, _, rfl, _, rfl, hw.2⟩
set_option maxRecDepth 100000 in
set_option maxHeartbeats 4000000 in
theorem gX10_sum {w : aW} {mm : Nat} {C : aIF} {S : aS} {P : Int → aS → Prop} (hw : rRunI w mX10_sum 4 [some (aO 40 0), some (aI 0), some (aI 0)] [] C S (rf mm) P) : rMetI w mX10_sum [aO 40 0] C S (rf mm) P := by
  refine cMet_of okX10_sum (Nat.le_of_ble_eq_true rfl) (fun hos => ?_)
  show cRun w mX10_sum 0 [some (aO 40 0), none, none] [] (mem C S) (rf mm) (rqI (rf mm) C P)
  refine aIconst (pc' := 1) ⟨by decide, by decide⟩ dX10_sum_0 rfl ?_
  refine aIstore_n (pc' := 2) dX10_sum_1 (by decide) rfl (L' := [some (aO 40 0), some (aI 0), none]) rfl ?_
  refine aIconst (pc' := 3) ⟨by decide, by decide⟩ dX10_sum_2 rfl ?_
  refine aIstore_n (pc' := 4) dX10_sum_3 (by decide) rfl (L' := [some (aO 40 0), some (aI 0), some (aI 0)]) rfl ?_
  exact hw
set_option maxRecDepth 100000 in
set_option maxHeartbeats 4000000 in
theorem gX10_sum_4 {w : aW} {mm : Nat} {C : aIF} {S : aS} {l1 : Int} {l2 : Nat} {P : Int → aS → Prop} (hw : (((S 10 0) ≤ (l2 : Int)) → P l1 S) ∧ ((¬ ((S 10 0) ≤ (l2 : Int))) → (l2 < 6) ∧ (rMetI w mX10_alone [aO 40 0, aI ((l2 : Int)), aI ((S 18 l2))] C S (rf mm) (fun x2 S3 => (-2147483648 ≤ (l1 + x2) ∧ (l1 + x2) < 2147483648) ∧ ((l2 + 1 < 2147483648) ∧ (rRunI w mX10_sum 4 [some (aO 40 0), some (aI ((l1 + x2))), some (aI ((((l2 + 1) : Nat) : Int)))] [] C S3 (rf mm) P)))))) : rRunI w mX10_sum 4 [some (aO 40 0), some (aI l1), some (aI ((l2 : Int)))] [] C S (rf mm) P := by
  refine aIload_n (pc' := 5) dX10_sum_4 rfl rfl ?_
  refine aAload_n (pc' := 6) dX10_sum_5 rfl rfl ?_
  refine aGetI (pc' := 9) dX10_sum_6 fX10_146 rfl rfl (lv (by decide)) rfl ?_
  refine aTopEq (y := (S 10 0)) rfl ?_
  refine aIcmp_ge (tgt := 32) (pc' := 12) dX10_sum_9 (by decide) rfl (fun hc => ?_) (fun hc => ?_)
  · have hw := hw.1 hc
    refine aIload_n (pc' := 33) dX10_sum_32 rfl rfl ?_
    exact cIret dX10_sum_33 okX10_sum rfl ⟨rfl, _, rfl, _, rfl, hw⟩
  · have hw := hw.2 hc
    refine aIload_n (pc' := 13) dX10_sum_12 rfl rfl ?_
    refine aAload_n (pc' := 14) dX10_sum_13 rfl rfl ?_
    refine aIload_n (pc' := 15) dX10_sum_14 rfl rfl ?_
    refine aAload_n (pc' := 16) dX10_sum_15 rfl rfl ?_
    refine aGetR (pc' := 19) (q := (58, 0)) dX10_sum_16 fX10_54 rfl rfl (lv (by decide)) rfl rfl ?_
    refine aIload_n (pc' := 20) dX10_sum_19 rfl rfl ?_
    obtain ⟨h1, hw⟩ := hw
    refine aIald (pc' := 21) (j := l2) dX10_sum_20 rfl (lv (by decide)) rfl h1 rfl ?_
    refine aTopEq (y := (S 18 l2)) rfl ?_
    refine cVI (c := 10) (pc' := 24) [aI ((l2 : Int)), aI ((S 18 l2))] dX10_sum_21 lX10_171 okX10_alone ⟨by decide, by decide⟩ npX10_alone rfl rfl rfl rfl rfl (by decide) rfl (cMetI_mono hw (fun x2 J4 hw => ?_))
    obtain ⟨S3, rfl, hw⟩ := hw
    obtain ⟨h5, hw⟩ := hw
    refine aIadd (pc' := 25) h5.1 h5.2 dX10_sum_24 rfl ?_
    refine aIstore_n (pc' := 26) dX10_sum_25 (by decide) rfl (L' := [some (aO 40 0), some (aI ((l1 + x2))), some (aI ((l2 : Int)))]) rfl ?_
    obtain ⟨h6, hw⟩ := hw
    refine aIinc1 (pc' := 29) dX10_sum_26 rfl (by decide) h6 rfl (L' := [some (aO 40 0), some (aI ((l1 + x2))), some (aI ((((l2 + 1) : Nat) : Int)))]) rfl ?_
    refine aGoto (pc' := 4) dX10_sum_29 (by decide) ?_
    exact hw
set_option maxRecDepth 100000 in
set_option maxHeartbeats 4000000 in
theorem gX10_swung {w : aW} {mm : Nat} {C : aIF} {S : aS} {P : Int → aS → Prop} (hw : rRunI w mX10_swung 7 [some (aO 40 0), some (aI ((-1))), some (aL 0), none, some (aI 0), none, none, none, none, none, none] [] C S (rf mm) P) : rMetI w mX10_swung [aO 40 0] C S (rf mm) P := by
  refine cMet_of okX10_swung (Nat.le_of_ble_eq_true rfl) (fun hos => ?_)
  show cRun w mX10_swung 0 [some (aO 40 0), none, none, none, none, none, none, none, none, none, none] [] (mem C S) (rf mm) (rqI (rf mm) C P)
  refine aIconst (pc' := 1) ⟨by decide, by decide⟩ dX10_swung_0 rfl ?_
  refine aIstore_n (pc' := 2) dX10_swung_1 (by decide) rfl (L' := [some (aO 40 0), some (aI ((-1))), none, none, none, none, none, none, none, none, none]) rfl ?_
  refine aLconst0 (pc' := 3) dX10_swung_2 rfl ?_
  refine aLstore_n (pc' := 4) dX10_swung_3 (by decide) rfl (L' := [some (aO 40 0), some (aI ((-1))), some (aL 0), none, none, none, none, none, none, none, none]) rfl ?_
  refine aIconst (pc' := 5) ⟨by decide, by decide⟩ dX10_swung_4 rfl ?_
  refine aIstore (pc' := 7) dX10_swung_5 (by decide) rfl (L' := [some (aO 40 0), some (aI ((-1))), some (aL 0), none, some (aI 0), none, none, none, none, none, none]) rfl ?_
  exact hw
set_option maxRecDepth 100000 in
set_option maxHeartbeats 4000000 in
theorem gX10_swung_7 {w : aW} {mm : Nat} {C : aIF} {S : aS} {l1 : Int} {l2 : Int} {l4 : Nat} {P : Int → aS → Prop} (hw : (((S 23 0) ≤ (l4 : Int)) → ((l1 ≠ (-1)) → (-2147483648 ≤ ((S 7 0) + (S 5 0)) ∧ ((S 7 0) + (S 5 0)) < 2147483648) ∧ ((((S 25 0) < ((S 7 0) + (S 5 0))) → rRunI w mX10_swung 160 [some (aO 40 0), some (aI l1), some (aL l2), none, some (aI ((-1))), some (aL l2), none, some (aI 0), none, none, none] [] C S (rf mm) P) ∧ ((¬ ((S 25 0) < ((S 7 0) + (S 5 0)))) → (-2147483648 ≤ ((S 25 0) - (S 5 0)) ∧ ((S 25 0) - (S 5 0)) < 2147483648) ∧ ((0 ≤ l1 ∧ l1 < ((6 : Nat) : Int)) ∧ ((-2147483648 ≤ ((S 29 ((l1).toNat)) + (S 5 0)) ∧ ((S 29 ((l1).toNat)) + (S 5 0)) < 2147483648) ∧ (rMetV w mX10_tells [aO 40 0, aI l1, aI 8, aI ((S 5 0))] C (sU (sU S 25 0 (((S 25 0) - (S 5 0)))) 29 ((l1).toNat) (((S 29 ((l1).toNat)) + (S 5 0)))) (rf mm) (fun S6 => P 1 S6))))))) ∧ ((l1 = (-1)) → P 0 S)) ∧ ((¬ ((S 23 0) ≤ (l4 : Int))) → rMetI w mX10_isUp [aO 40 0, aI ((l4 : Int))] C S (rf mm) (fun x8 S9 => ((x8 = 0) → (l4 + 1 < 2147483648) ∧ (rRunI w mX10_swung 7 [some (aO 40 0), some (aI l1), some (aL l2), none, some (aI ((((l4 + 1) : Nat) : Int))), none, none, none, none, none, none] [] C S9 (rf mm) P)) ∧ ((¬ (x8 = 0)) → (l4 < 6) ∧ ((((S9 42 l4) = 0) → rMetI w mX10_s [aO 40 0, aI ((l4 : Int))] C S9 (rf mm) (fun x13 S14 => (-9223372036854775808 ≤ ((S9 36 l4) * x13) ∧ ((S9 36 l4) * x13) < 9223372036854775808) ∧ (rMetI w mX10_holds [aI ((S14 13 l4)), aI ((S14 29 l4))] C S14 (rf mm) (fun x17 S18 => (-2147483648 ≤ (x17 - (S18 31 l4)) ∧ (x17 - (S18 31 l4)) < 2147483648) ∧ (rMetI w mX10_s [aO 40 0, aI ((l4 : Int))] C S18 (rf mm) (fun x21 S22 => (-2147483648 ≤ ((x17 - (S18 31 l4)) + x21) ∧ ((x17 - (S18 31 l4)) + x21) < 2147483648) ∧ ((0 < ((x17 - (S18 31 l4)) + x21)) ∧ (((l2 < ((((S9 36 l4) * x13)).tdiv ((x17 - (S18 31 l4)) + x21))) → (l4 + 1 < 2147483648) ∧ (rRunI w mX10_swung 7 [some (aO 40 0), some (aI ((l4 : Int))), some (aL (((((S9 36 l4) * x13)).tdiv ((x17 - (S18 31 l4)) + x21)))), none, some (aI ((((l4 + 1) : Nat) : Int))), none, none, none, none, none, none] [] C S22 (rf mm) P)) ∧ ((¬ (l2 < ((((S9 36 l4) * x13)).tdiv ((x17 - (S18 31 l4)) + x21)))) → (l4 + 1 < 2147483648) ∧ (rRunI w mX10_swung 7 [some (aO 40 0), some (aI l1), some (aL l2), none, some (aI ((((l4 + 1) : Nat) : Int))), none, none, none, none, none, none] [] C S22 (rf mm) P)))))))))) ∧ ((¬ ((S9 42 l4) = 0)) → (l4 + 1 < 2147483648) ∧ (rRunI w mX10_swung 7 [some (aO 40 0), some (aI l1), some (aL l2), none, some (aI ((((l4 + 1) : Nat) : Int))), none, none, none, none, none, none] [] C S9 (rf mm) P))))))) : rRunI w mX10_swung 7 [some (aO 40 0), some (aI l1), some (aL l2), none, some (aI ((l4 : Int))), none, none, none, none, none, none] [] C S (rf mm) P := by
  refine aIload (pc' := 9) dX10_swung_7 rfl rfl ?_
  refine aAload_n (pc' := 10) dX10_swung_9 rfl rfl ?_
  refine aGetI (pc' := 13) dX10_swung_10 fX10_157 rfl rfl (lv (by decide)) rfl ?_
  refine aTopEq (y := (S 23 0)) rfl ?_
  refine aIcmp_ge (tgt := 112) (pc' := 16) dX10_swung_13 (by decide) rfl (fun hc => ?_) (fun hc => ?_)
  · have hw := hw.1 hc
    refine aIload_n (pc' := 113) dX10_swung_112 rfl rfl ?_
    refine aIconst (pc' := 114) ⟨by decide, by decide⟩ dX10_swung_113 rfl ?_
    refine aIcmp_ne (tgt := 119) (pc' := 117) dX10_swung_114 (by decide) rfl (fun hc => ?_) (fun hc => ?_)
    · have hw := hw.1 hc
      refine aAload_n (pc' := 120) dX10_swung_119 rfl rfl ?_
      refine aGetI (pc' := 123) dX10_swung_120 fX10_206 rfl rfl (lv (by decide)) rfl ?_
      refine aTopEq (y := (S 25 0)) rfl ?_
      refine aAload_n (pc' := 124) dX10_swung_123 rfl rfl ?_
      refine aGetI (pc' := 127) dX10_swung_124 fX10_140 rfl rfl (lv (by decide)) rfl ?_
      refine aTopEq (y := (S 7 0)) rfl ?_
      refine aAload_n (pc' := 128) dX10_swung_127 rfl rfl ?_
      refine aGetI (pc' := 131) dX10_swung_128 fX10_23 rfl rfl (lv (by decide)) rfl ?_
      refine aTopEq (y := (S 5 0)) rfl ?_
      obtain ⟨h1, hw⟩ := hw
      refine aIadd (pc' := 132) h1.1 h1.2 dX10_swung_131 rfl ?_
      refine aIcmp_lt (tgt := 151) (pc' := 135) dX10_swung_132 (by decide) rfl (fun hc => ?_) (fun hc => ?_)
      · have hw := hw.1 hc
        refine aIconst (pc' := 152) ⟨by decide, by decide⟩ dX10_swung_151 rfl ?_
        refine aIstore (pc' := 154) dX10_swung_152 (by decide) rfl (L' := [some (aO 40 0), some (aI l1), some (aL l2), none, some (aI ((-1))), none, none, none, none, none, none]) rfl ?_
        refine aLload_n (pc' := 155) dX10_swung_154 rfl rfl ?_
        refine aLstore (pc' := 157) dX10_swung_155 (by decide) rfl (L' := [some (aO 40 0), some (aI l1), some (aL l2), none, some (aI ((-1))), some (aL l2), none, none, none, none, none]) rfl ?_
        refine aIconst (pc' := 158) ⟨by decide, by decide⟩ dX10_swung_157 rfl ?_
        refine aIstore (pc' := 160) dX10_swung_158 (by decide) rfl (L' := [some (aO 40 0), some (aI l1), some (aL l2), none, some (aI ((-1))), some (aL l2), none, some (aI 0), none, none, none]) rfl ?_
        exact hw
      · have hw := hw.2 hc
        refine aAload_n (pc' := 136) dX10_swung_135 rfl rfl ?_
        refine aDup (pc' := 137) rfl dX10_swung_136 rfl ?_
        refine aGetI (pc' := 140) dX10_swung_137 fX10_206 rfl rfl (lv (by decide)) rfl ?_
        refine aTopEq (y := (S 25 0)) rfl ?_
        refine aAload_n (pc' := 141) dX10_swung_140 rfl rfl ?_
        refine aGetI (pc' := 144) dX10_swung_141 fX10_23 rfl rfl (lv (by decide)) rfl ?_
        refine aTopEq (y := (S 5 0)) rfl ?_
        obtain ⟨h2, hw⟩ := hw
        refine aIsub (pc' := 145) h2.1 h2.2 dX10_swung_144 rfl ?_
        refine aPutI (pc' := 148) dX10_swung_145 fX10_206 rfl rfl (Or.inl rfl) (lv (by decide)) rfl (cEqI (mS (f := 25) rfl) ?_)
        refine aGoto (pc' := 310) dX10_swung_148 (by decide) ?_
        refine aAload_n (pc' := 311) dX10_swung_310 rfl rfl ?_
        refine aGetR (pc' := 314) (q := (69, 0)) dX10_swung_311 fX10_69 rfl rfl (lv (by decide)) rfl rfl ?_
        refine aIload_n (pc' := 315) dX10_swung_314 rfl rfl ?_
        refine aDup2 (pc' := 316) rfl rfl dX10_swung_315 rfl ?_
        obtain ⟨h3, hw⟩ := hw
        refine aIald (pc' := 317) (j := (l1).toNat) dX10_swung_316 rfl (lv (by decide)) (tnIx h3).1 (tnIx h3).2 rfl ?_
        refine aTopEq (y := ((sU S 25 0 (((S 25 0) - (S 5 0)))) 29 ((l1).toNat))) rfl ?_
        refine aTopEq (sU_f rfl) ?_
        refine aAload_n (pc' := 318) dX10_swung_317 rfl rfl ?_
        refine aGetI (pc' := 321) dX10_swung_318 fX10_23 rfl rfl (lv (by decide)) rfl ?_
        refine aTopEq (y := ((sU S 25 0 (((S 25 0) - (S 5 0)))) 5 0)) rfl ?_
        refine aTopEq (sU_f rfl) ?_
        obtain ⟨h4, hw⟩ := hw
        refine aIadd (pc' := 322) h4.1 h4.2 dX10_swung_321 rfl ?_
        refine aIast (pc' := 323) (j := (l1).toNat) dX10_swung_322 rfl (lv (by decide)) (tnIx h3).1 (tnIx h3).2 rfl (cEqI (mA (f := 29) rfl rfl rfl) ?_)
        refine aAload_n (pc' := 324) dX10_swung_323 rfl rfl ?_
        refine aIload_n (pc' := 325) dX10_swung_324 rfl rfl ?_
        refine aBipush (pc' := 327) ⟨by decide, by decide⟩ dX10_swung_325 rfl ?_
        refine aAload_n (pc' := 328) dX10_swung_327 rfl rfl ?_
        refine aGetI (pc' := 331) dX10_swung_328 fX10_23 rfl rfl (lv (by decide)) rfl ?_
        refine aTopEq (y := ((sU (sU S 25 0 (((S 25 0) - (S 5 0)))) 29 ((l1).toNat) (((S 29 ((l1).toNat)) + (S 5 0)))) 5 0)) rfl ?_
        refine aTopEq ((sU_f rfl).trans (sU_f rfl)) ?_
        refine cVV (c := 10) (pc' := 334) [aI l1, aI 8, aI ((S 5 0))] dX10_swung_331 lX10_215 okX10_tells ⟨by decide, by decide⟩ npX10_tells rfl rfl rfl rfl rfl (by decide) rfl (cMetV_mono hw (fun J7 hw => ?_))
        obtain ⟨S6, rfl, hw⟩ := hw
        refine aIconst (pc' := 335) ⟨by decide, by decide⟩ dX10_swung_334 rfl ?_
        exact cZret dX10_swung_335 okX10_swung rfl (by decide) ⟨rfl, _, rfl, _, rfl, hw⟩
    · have hw := hw.2 hc
      refine aIconst (pc' := 118) ⟨by decide, by decide⟩ dX10_swung_117 rfl ?_
      exact cZret dX10_swung_118 okX10_swung rfl (by decide) ⟨rfl, _, rfl, _, rfl, hw⟩
  · have hw := hw.2 hc
    refine aAload_n (pc' := 17) dX10_swung_16 rfl rfl ?_
    refine aIload (pc' := 19) dX10_swung_17 rfl rfl ?_
    refine cVI (c := 10) (pc' := 22) [aI ((l4 : Int))] dX10_swung_19 lX10_244 okX10_isUp ⟨by decide, by decide⟩ npX10_isUp rfl rfl rfl rfl rfl (by decide) rfl (cMetI_mono hw (fun x8 J10 hw => ?_))
    obtain ⟨S9, rfl, hw⟩ := hw
    refine aIf_eq (tgt := 106) (pc' := 25) dX10_swung_22 (by decide) rfl (fun hc => ?_) (fun hc => ?_)
    · have hw := hw.1 hc
      obtain ⟨h11, hw⟩ := hw
      refine aIinc1 (pc' := 109) dX10_swung_106 rfl (by decide) h11 rfl (L' := [some (aO 40 0), some (aI l1), some (aL l2), none, some (aI ((((l4 + 1) : Nat) : Int))), none, none, none, none, none, none]) rfl ?_
      refine aGoto (pc' := 7) dX10_swung_109 (by decide) ?_
      exact hw
    · have hw := hw.2 hc
      refine aAload_n (pc' := 26) dX10_swung_25 rfl rfl ?_
      refine aGetR (pc' := 29) (q := (82, 0)) dX10_swung_26 fX10_108 rfl rfl (lv (by decide)) rfl rfl ?_
      refine aIload (pc' := 31) dX10_swung_29 rfl rfl ?_
      obtain ⟨h12, hw⟩ := hw
      refine aZald (pc' := 32) (j := l4) dX10_swung_31 rfl (lv (by decide)) rfl h12 rfl ?_
      refine aTopEq (y := (S9 42 l4)) rfl ?_
      refine aIf_eq (tgt := 38) (pc' := 35) dX10_swung_32 (by decide) rfl (fun hc => ?_) (fun hc => ?_)
      · have hw := hw.1 hc
        refine aAload_n (pc' := 39) dX10_swung_38 rfl rfl ?_
        refine aGetR (pc' := 42) (q := (76, 0)) dX10_swung_39 fX10_90 rfl rfl (lv (by decide)) rfl rfl ?_
        refine aIload (pc' := 44) dX10_swung_42 rfl rfl ?_
        refine aIald (pc' := 45) (j := l4) dX10_swung_44 rfl (lv (by decide)) rfl h12 rfl ?_
        refine aTopEq (y := (S9 36 l4)) rfl ?_
        refine aI2l (pc' := 46) dX10_swung_45 rfl ?_
        refine aAload_n (pc' := 47) dX10_swung_46 rfl rfl ?_
        refine aIload (pc' := 49) dX10_swung_47 rfl rfl ?_
        refine cVI (c := 10) (pc' := 52) [aI ((l4 : Int))] dX10_swung_49 lX10_262 okX10_s ⟨by decide, by decide⟩ npX10_s rfl rfl rfl rfl rfl (by decide) rfl (cMetI_mono hw (fun x13 J15 hw => ?_))
        obtain ⟨S14, rfl, hw⟩ := hw
        refine aI2l (pc' := 53) dX10_swung_52 rfl ?_
        obtain ⟨h16, hw⟩ := hw
        refine aLmul (pc' := 54) h16.1 h16.2 dX10_swung_53 rfl ?_
        refine aAload_n (pc' := 55) dX10_swung_54 rfl rfl ?_
        refine aGetR (pc' := 58) (q := (53, 0)) dX10_swung_55 fX10_42 rfl rfl (lv (by decide)) rfl rfl ?_
        refine aIload (pc' := 60) dX10_swung_58 rfl rfl ?_
        refine aIald (pc' := 61) (j := l4) dX10_swung_60 rfl (lv (by decide)) rfl h12 rfl ?_
        refine aTopEq (y := (S14 13 l4)) rfl ?_
        refine aAload_n (pc' := 62) dX10_swung_61 rfl rfl ?_
        refine aGetR (pc' := 65) (q := (69, 0)) dX10_swung_62 fX10_69 rfl rfl (lv (by decide)) rfl rfl ?_
        refine aIload (pc' := 67) dX10_swung_65 rfl rfl ?_
        refine aIald (pc' := 68) (j := l4) dX10_swung_67 rfl (lv (by decide)) rfl h12 rfl ?_
        refine aTopEq (y := (S14 29 l4)) rfl ?_
        refine cSI (pc' := 71) [aI ((S14 13 l4)), aI ((S14 29 l4))] dX10_swung_68 lX10_160 okX10_holds ⟨by decide, by decide⟩ npX10_holds rfl rfl rfl (cMetI_mono hw (fun x17 J19 hw => ?_))
        obtain ⟨S18, rfl, hw⟩ := hw
        refine aAload_n (pc' := 72) dX10_swung_71 rfl rfl ?_
        refine aGetR (pc' := 75) (q := (71, 0)) dX10_swung_72 fX10_75 rfl rfl (lv (by decide)) rfl rfl ?_
        refine aIload (pc' := 77) dX10_swung_75 rfl rfl ?_
        refine aIald (pc' := 78) (j := l4) dX10_swung_77 rfl (lv (by decide)) rfl h12 rfl ?_
        refine aTopEq (y := (S18 31 l4)) rfl ?_
        obtain ⟨h20, hw⟩ := hw
        refine aIsub (pc' := 79) h20.1 h20.2 dX10_swung_78 rfl ?_
        refine aAload_n (pc' := 80) dX10_swung_79 rfl rfl ?_
        refine aIload (pc' := 82) dX10_swung_80 rfl rfl ?_
        refine cVI (c := 10) (pc' := 85) [aI ((l4 : Int))] dX10_swung_82 lX10_262 okX10_s ⟨by decide, by decide⟩ npX10_s rfl rfl rfl rfl rfl (by decide) rfl (cMetI_mono hw (fun x21 J23 hw => ?_))
        obtain ⟨S22, rfl, hw⟩ := hw
        obtain ⟨h24, hw⟩ := hw
        refine aIadd (pc' := 86) h24.1 h24.2 dX10_swung_85 rfl ?_
        refine aI2l (pc' := 87) dX10_swung_86 rfl ?_
        obtain ⟨h25, hw⟩ := hw
        refine aLdiv (pc' := 88) h25 dX10_swung_87 rfl ?_
        refine aLstore (pc' := 90) dX10_swung_88 (by decide) rfl (L' := [some (aO 40 0), some (aI l1), some (aL l2), none, some (aI ((l4 : Int))), some (aL (((((S9 36 l4) * x13)).tdiv ((x17 - (S18 31 l4)) + x21)))), none, none, none, none, none]) rfl ?_
        refine aLload (pc' := 92) dX10_swung_90 rfl rfl ?_
        refine aLload_n (pc' := 93) dX10_swung_92 rfl rfl ?_
        refine aLc_gt (tgt := 100) (p1 := 94) (pc' := 97) dX10_swung_93 rfl dX10_swung_94 (by decide) rfl (fun hc => ?_) (fun hc => ?_)
        · have hw := hw.1 hc
          refine aLload (pc' := 102) dX10_swung_100 rfl rfl ?_
          refine aLstore_n (pc' := 103) dX10_swung_102 (by decide) rfl (L' := [some (aO 40 0), some (aI l1), some (aL (((((S9 36 l4) * x13)).tdiv ((x17 - (S18 31 l4)) + x21)))), none, some (aI ((l4 : Int))), some (aL (((((S9 36 l4) * x13)).tdiv ((x17 - (S18 31 l4)) + x21)))), none, none, none, none, none]) rfl ?_
          refine aIload (pc' := 105) dX10_swung_103 rfl rfl ?_
          refine aIstore_n (pc' := 106) dX10_swung_105 (by decide) rfl (L' := [some (aO 40 0), some (aI ((l4 : Int))), some (aL (((((S9 36 l4) * x13)).tdiv ((x17 - (S18 31 l4)) + x21)))), none, some (aI ((l4 : Int))), some (aL (((((S9 36 l4) * x13)).tdiv ((x17 - (S18 31 l4)) + x21)))), none, none, none, none, none]) rfl ?_
          obtain ⟨h26, hw⟩ := hw
          refine aIinc1 (pc' := 109) dX10_swung_106 rfl (by decide) h26 rfl (L' := [some (aO 40 0), some (aI ((l4 : Int))), some (aL (((((S9 36 l4) * x13)).tdiv ((x17 - (S18 31 l4)) + x21)))), none, some (aI ((((l4 + 1) : Nat) : Int))), some (aL (((((S9 36 l4) * x13)).tdiv ((x17 - (S18 31 l4)) + x21)))), none, none, none, none, none]) rfl ?_
          refine aGoto (pc' := 7) dX10_swung_109 (by decide) ?_
          exact aDrop [5] (L' := [some (aO 40 0), some (aI ((l4 : Int))), some (aL (((((S9 36 l4) * x13)).tdiv ((x17 - (S18 31 l4)) + x21)))), none, some (aI ((((l4 + 1) : Nat) : Int))), none, none, none, none, none, none]) rfl hw
        · have hw := hw.2 hc
          refine aGoto (pc' := 106) dX10_swung_97 (by decide) ?_
          obtain ⟨h27, hw⟩ := hw
          refine aIinc1 (pc' := 109) dX10_swung_106 rfl (by decide) h27 rfl (L' := [some (aO 40 0), some (aI l1), some (aL l2), none, some (aI ((((l4 + 1) : Nat) : Int))), some (aL (((((S9 36 l4) * x13)).tdiv ((x17 - (S18 31 l4)) + x21)))), none, none, none, none, none]) rfl ?_
          refine aGoto (pc' := 7) dX10_swung_109 (by decide) ?_
          exact aDrop [5] (L' := [some (aO 40 0), some (aI l1), some (aL l2), none, some (aI ((((l4 + 1) : Nat) : Int))), none, none, none, none, none, none]) rfl hw
      · have hw := hw.2 hc
        refine aGoto (pc' := 106) dX10_swung_35 (by decide) ?_
        obtain ⟨h28, hw⟩ := hw
        refine aIinc1 (pc' := 109) dX10_swung_106 rfl (by decide) h28 rfl (L' := [some (aO 40 0), some (aI l1), some (aL l2), none, some (aI ((((l4 + 1) : Nat) : Int))), none, none, none, none, none, none]) rfl ?_
        refine aGoto (pc' := 7) dX10_swung_109 (by decide) ?_
        exact hw
set_option maxRecDepth 100000 in
set_option maxHeartbeats 4000000 in
theorem gX10_swung_160 {w : aW} {mm : Nat} {C : aIF} {S : aS} {l1 : Int} {l2 : Int} {l4 : Int} {l5 : Int} {l7 : Nat} {P : Int → aS → Prop} (hw : (((S 23 0) ≤ (l7 : Int)) → ((l4 ≠ (-1)) → rMetV w mX10_gives [aO 40 0, aI l4, aI ((S 5 0))] C S (rf mm) (fun S2 => (0 ≤ l1 ∧ l1 < ((6 : Nat) : Int)) ∧ ((-2147483648 ≤ ((S2 29 ((l1).toNat)) + (S2 5 0)) ∧ ((S2 29 ((l1).toNat)) + (S2 5 0)) < 2147483648) ∧ (rMetV w mX10_tells [aO 40 0, aI l1, aI 8, aI ((S2 5 0))] C (sU S2 29 ((l1).toNat) (((S2 29 ((l1).toNat)) + (S2 5 0)))) (rf mm) (fun S7 => P 1 S7))))) ∧ ((l4 = (-1)) → P 0 S)) ∧ ((¬ ((S 23 0) ≤ (l7 : Int))) → (l7 < 6) ∧ (rMetI w mX10_holds [aI ((S 13 l7)), aI ((S 29 l7))] C S (rf mm) (fun x10 S11 => (-2147483648 ≤ (x10 - (S11 31 l7)) ∧ (x10 - (S11 31 l7)) < 2147483648) ∧ ((((l7 : Int) = l1) → (l7 + 1 < 2147483648) ∧ (rRunI w mX10_swung 160 [some (aO 40 0), some (aI l1), some (aL l2), none, some (aI l4), some (aL l5), none, some (aI ((((l7 + 1) : Nat) : Int))), none, none, none] [] C S11 (rf mm) P)) ∧ ((¬ ((l7 : Int) = l1)) → rMetI w mX10_isUp [aO 40 0, aI ((l7 : Int))] C S11 (rf mm) (fun x15 S16 => ((x15 = 0) → (l7 + 1 < 2147483648) ∧ (rRunI w mX10_swung 160 [some (aO 40 0), some (aI l1), some (aL l2), none, some (aI l4), some (aL l5), none, some (aI ((((l7 + 1) : Nat) : Int))), none, none, none] [] C S16 (rf mm) P)) ∧ ((¬ (x15 = 0)) → rMetI w mX10_spare [aO 40 0, aI ((l7 : Int))] C S16 (rf mm) (fun x19 S20 => ((x19 < (S20 5 0)) → (l7 + 1 < 2147483648) ∧ (rRunI w mX10_swung 160 [some (aO 40 0), some (aI l1), some (aL l2), none, some (aI l4), some (aL l5), none, some (aI ((((l7 + 1) : Nat) : Int))), none, none, none] [] C S20 (rf mm) P)) ∧ ((¬ (x19 < (S20 5 0))) → rMetI w mX10_s [aO 40 0, aI ((l7 : Int))] C S20 (rf mm) (fun x23 S24 => ((x23 < (x10 - (S11 31 l7))) → rMetI w mX10_s [aO 40 0, aI ((l7 : Int))] C S24 (rf mm) (fun x26 S27 => (-9223372036854775808 ≤ ((S24 36 l7) * x26) ∧ ((S24 36 l7) * x26) < 9223372036854775808) ∧ (rMetI w mX10_s [aO 40 0, aI ((l7 : Int))] C S27 (rf mm) (fun x30 S31 => (-2147483648 ≤ ((x10 - (S11 31 l7)) - x30) ∧ ((x10 - (S11 31 l7)) - x30) < 2147483648) ∧ ((0 < ((x10 - (S11 31 l7)) - x30)) ∧ (((((((S24 36 l7) * x26)).tdiv ((x10 - (S11 31 l7)) - x30)) < l5) → (l7 + 1 < 2147483648) ∧ (rRunI w mX10_swung 160 [some (aO 40 0), some (aI l1), some (aL l2), none, some (aI ((l7 : Int))), some (aL (((((S24 36 l7) * x26)).tdiv ((x10 - (S11 31 l7)) - x30)))), none, some (aI ((((l7 + 1) : Nat) : Int))), none, none, none] [] C S31 (rf mm) P)) ∧ ((¬ (((((S24 36 l7) * x26)).tdiv ((x10 - (S11 31 l7)) - x30)) < l5)) → (l7 + 1 < 2147483648) ∧ (rRunI w mX10_swung 160 [some (aO 40 0), some (aI l1), some (aL l2), none, some (aI l4), some (aL l5), none, some (aI ((((l7 + 1) : Nat) : Int))), none, none, none] [] C S31 (rf mm) P)))))))) ∧ ((¬ (x23 < (x10 - (S11 31 l7)))) → (l7 + 1 < 2147483648) ∧ (rRunI w mX10_swung 160 [some (aO 40 0), some (aI l1), some (aL l2), none, some (aI l4), some (aL l5), none, some (aI ((((l7 + 1) : Nat) : Int))), none, none, none] [] C S24 (rf mm) P))))))))))))) : rRunI w mX10_swung 160 [some (aO 40 0), some (aI l1), some (aL l2), none, some (aI l4), some (aL l5), none, some (aI ((l7 : Int))), none, none, none] [] C S (rf mm) P := by
  refine aIload (pc' := 162) dX10_swung_160 rfl rfl ?_
  refine aAload_n (pc' := 163) dX10_swung_162 rfl rfl ?_
  refine aGetI (pc' := 166) dX10_swung_163 fX10_157 rfl rfl (lv (by decide)) rfl ?_
  refine aTopEq (y := (S 23 0)) rfl ?_
  refine aIcmp_ge (tgt := 292) (pc' := 169) dX10_swung_166 (by decide) rfl (fun hc => ?_) (fun hc => ?_)
  · have hw := hw.1 hc
    refine aIload (pc' := 294) dX10_swung_292 rfl rfl ?_
    refine aIconst (pc' := 295) ⟨by decide, by decide⟩ dX10_swung_294 rfl ?_
    refine aIcmp_ne (tgt := 300) (pc' := 298) dX10_swung_295 (by decide) rfl (fun hc => ?_) (fun hc => ?_)
    · have hw := hw.1 hc
      refine aAload_n (pc' := 301) dX10_swung_300 rfl rfl ?_
      refine aIload (pc' := 303) dX10_swung_301 rfl rfl ?_
      refine aAload_n (pc' := 304) dX10_swung_303 rfl rfl ?_
      refine aGetI (pc' := 307) dX10_swung_304 fX10_23 rfl rfl (lv (by decide)) rfl ?_
      refine aTopEq (y := (S 5 0)) rfl ?_
      refine cVV (c := 10) (pc' := 310) [aI l4, aI ((S 5 0))] dX10_swung_307 lX10_241 okX10_gives ⟨by decide, by decide⟩ npX10_gives rfl rfl rfl rfl rfl (by decide) rfl (cMetV_mono hw (fun J3 hw => ?_))
      obtain ⟨S2, rfl, hw⟩ := hw
      refine aAload_n (pc' := 311) dX10_swung_310 rfl rfl ?_
      refine aGetR (pc' := 314) (q := (69, 0)) dX10_swung_311 fX10_69 rfl rfl (lv (by decide)) rfl rfl ?_
      refine aIload_n (pc' := 315) dX10_swung_314 rfl rfl ?_
      refine aDup2 (pc' := 316) rfl rfl dX10_swung_315 rfl ?_
      obtain ⟨h4, hw⟩ := hw
      refine aIald (pc' := 317) (j := (l1).toNat) dX10_swung_316 rfl (lv (by decide)) (tnIx h4).1 (tnIx h4).2 rfl ?_
      refine aTopEq (y := (S2 29 ((l1).toNat))) rfl ?_
      refine aAload_n (pc' := 318) dX10_swung_317 rfl rfl ?_
      refine aGetI (pc' := 321) dX10_swung_318 fX10_23 rfl rfl (lv (by decide)) rfl ?_
      refine aTopEq (y := (S2 5 0)) rfl ?_
      obtain ⟨h5, hw⟩ := hw
      refine aIadd (pc' := 322) h5.1 h5.2 dX10_swung_321 rfl ?_
      refine aIast (pc' := 323) (j := (l1).toNat) dX10_swung_322 rfl (lv (by decide)) (tnIx h4).1 (tnIx h4).2 rfl (cEqI (mA (f := 29) rfl rfl rfl) ?_)
      refine aAload_n (pc' := 324) dX10_swung_323 rfl rfl ?_
      refine aIload_n (pc' := 325) dX10_swung_324 rfl rfl ?_
      refine aBipush (pc' := 327) ⟨by decide, by decide⟩ dX10_swung_325 rfl ?_
      refine aAload_n (pc' := 328) dX10_swung_327 rfl rfl ?_
      refine aGetI (pc' := 331) dX10_swung_328 fX10_23 rfl rfl (lv (by decide)) rfl ?_
      refine aTopEq (y := ((sU S2 29 ((l1).toNat) (((S2 29 ((l1).toNat)) + (S2 5 0)))) 5 0)) rfl ?_
      refine aTopEq (sU_f rfl) ?_
      refine cVV (c := 10) (pc' := 334) [aI l1, aI 8, aI ((S2 5 0))] dX10_swung_331 lX10_215 okX10_tells ⟨by decide, by decide⟩ npX10_tells rfl rfl rfl rfl rfl (by decide) rfl (cMetV_mono hw (fun J8 hw => ?_))
      obtain ⟨S7, rfl, hw⟩ := hw
      refine aIconst (pc' := 335) ⟨by decide, by decide⟩ dX10_swung_334 rfl ?_
      exact cZret dX10_swung_335 okX10_swung rfl (by decide) ⟨rfl, _, rfl, _, rfl, hw⟩
    · have hw := hw.2 hc
      refine aIconst (pc' := 299) ⟨by decide, by decide⟩ dX10_swung_298 rfl ?_
      exact cZret dX10_swung_299 okX10_swung rfl (by decide) ⟨rfl, _, rfl, _, rfl, hw⟩
  · have hw := hw.2 hc
    refine aAload_n (pc' := 170) dX10_swung_169 rfl rfl ?_
    refine aGetR (pc' := 173) (q := (53, 0)) dX10_swung_170 fX10_42 rfl rfl (lv (by decide)) rfl rfl ?_
    refine aIload (pc' := 175) dX10_swung_173 rfl rfl ?_
    obtain ⟨h9, hw⟩ := hw
    refine aIald (pc' := 176) (j := l7) dX10_swung_175 rfl (lv (by decide)) rfl h9 rfl ?_
    refine aTopEq (y := (S 13 l7)) rfl ?_
    refine aAload_n (pc' := 177) dX10_swung_176 rfl rfl ?_
    refine aGetR (pc' := 180) (q := (69, 0)) dX10_swung_177 fX10_69 rfl rfl (lv (by decide)) rfl rfl ?_
    refine aIload (pc' := 182) dX10_swung_180 rfl rfl ?_
    refine aIald (pc' := 183) (j := l7) dX10_swung_182 rfl (lv (by decide)) rfl h9 rfl ?_
    refine aTopEq (y := (S 29 l7)) rfl ?_
    refine cSI (pc' := 186) [aI ((S 13 l7)), aI ((S 29 l7))] dX10_swung_183 lX10_160 okX10_holds ⟨by decide, by decide⟩ npX10_holds rfl rfl rfl (cMetI_mono hw (fun x10 J12 hw => ?_))
    obtain ⟨S11, rfl, hw⟩ := hw
    refine aAload_n (pc' := 187) dX10_swung_186 rfl rfl ?_
    refine aGetR (pc' := 190) (q := (71, 0)) dX10_swung_187 fX10_75 rfl rfl (lv (by decide)) rfl rfl ?_
    refine aIload (pc' := 192) dX10_swung_190 rfl rfl ?_
    refine aIald (pc' := 193) (j := l7) dX10_swung_192 rfl (lv (by decide)) rfl h9 rfl ?_
    refine aTopEq (y := (S11 31 l7)) rfl ?_
    obtain ⟨h13, hw⟩ := hw
    refine aIsub (pc' := 194) h13.1 h13.2 dX10_swung_193 rfl ?_
    refine aIstore (pc' := 196) dX10_swung_194 (by decide) rfl (L' := [some (aO 40 0), some (aI l1), some (aL l2), none, some (aI l4), some (aL l5), none, some (aI ((l7 : Int))), some (aI ((x10 - (S11 31 l7)))), none, none]) rfl ?_
    refine aIload (pc' := 198) dX10_swung_196 rfl rfl ?_
    refine aIload_n (pc' := 199) dX10_swung_198 rfl rfl ?_
    refine aIcmp_eq (tgt := 286) (pc' := 202) dX10_swung_199 (by decide) rfl (fun hc => ?_) (fun hc => ?_)
    · have hw := hw.1 hc
      obtain ⟨h14, hw⟩ := hw
      refine aIinc1 (pc' := 289) dX10_swung_286 rfl (by decide) h14 rfl (L' := [some (aO 40 0), some (aI l1), some (aL l2), none, some (aI l4), some (aL l5), none, some (aI ((((l7 + 1) : Nat) : Int))), some (aI ((x10 - (S11 31 l7)))), none, none]) rfl ?_
      refine aGoto (pc' := 160) dX10_swung_289 (by decide) ?_
      exact aDrop [8] (L' := [some (aO 40 0), some (aI l1), some (aL l2), none, some (aI l4), some (aL l5), none, some (aI ((((l7 + 1) : Nat) : Int))), none, none, none]) rfl hw
    · have hw := hw.2 hc
      refine aAload_n (pc' := 203) dX10_swung_202 rfl rfl ?_
      refine aIload (pc' := 205) dX10_swung_203 rfl rfl ?_
      refine cVI (c := 10) (pc' := 208) [aI ((l7 : Int))] dX10_swung_205 lX10_244 okX10_isUp ⟨by decide, by decide⟩ npX10_isUp rfl rfl rfl rfl rfl (by decide) rfl (cMetI_mono hw (fun x15 J17 hw => ?_))
      obtain ⟨S16, rfl, hw⟩ := hw
      refine aIf_eq (tgt := 286) (pc' := 211) dX10_swung_208 (by decide) rfl (fun hc => ?_) (fun hc => ?_)
      · have hw := hw.1 hc
        obtain ⟨h18, hw⟩ := hw
        refine aIinc1 (pc' := 289) dX10_swung_286 rfl (by decide) h18 rfl (L' := [some (aO 40 0), some (aI l1), some (aL l2), none, some (aI l4), some (aL l5), none, some (aI ((((l7 + 1) : Nat) : Int))), some (aI ((x10 - (S11 31 l7)))), none, none]) rfl ?_
        refine aGoto (pc' := 160) dX10_swung_289 (by decide) ?_
        exact aDrop [8] (L' := [some (aO 40 0), some (aI l1), some (aL l2), none, some (aI l4), some (aL l5), none, some (aI ((((l7 + 1) : Nat) : Int))), none, none, none]) rfl hw
      · have hw := hw.2 hc
        refine aAload_n (pc' := 212) dX10_swung_211 rfl rfl ?_
        refine aIload (pc' := 214) dX10_swung_212 rfl rfl ?_
        refine cVI (c := 10) (pc' := 217) [aI ((l7 : Int))] dX10_swung_214 lX10_238 okX10_spare ⟨by decide, by decide⟩ npX10_spare rfl rfl rfl rfl rfl (by decide) rfl (cMetI_mono hw (fun x19 J21 hw => ?_))
        obtain ⟨S20, rfl, hw⟩ := hw
        refine aAload_n (pc' := 218) dX10_swung_217 rfl rfl ?_
        refine aGetI (pc' := 221) dX10_swung_218 fX10_23 rfl rfl (lv (by decide)) rfl ?_
        refine aTopEq (y := (S20 5 0)) rfl ?_
        refine aIcmp_lt (tgt := 286) (pc' := 224) dX10_swung_221 (by decide) rfl (fun hc => ?_) (fun hc => ?_)
        · have hw := hw.1 hc
          obtain ⟨h22, hw⟩ := hw
          refine aIinc1 (pc' := 289) dX10_swung_286 rfl (by decide) h22 rfl (L' := [some (aO 40 0), some (aI l1), some (aL l2), none, some (aI l4), some (aL l5), none, some (aI ((((l7 + 1) : Nat) : Int))), some (aI ((x10 - (S11 31 l7)))), none, none]) rfl ?_
          refine aGoto (pc' := 160) dX10_swung_289 (by decide) ?_
          exact aDrop [8] (L' := [some (aO 40 0), some (aI l1), some (aL l2), none, some (aI l4), some (aL l5), none, some (aI ((((l7 + 1) : Nat) : Int))), none, none, none]) rfl hw
        · have hw := hw.2 hc
          refine aIload (pc' := 226) dX10_swung_224 rfl rfl ?_
          refine aAload_n (pc' := 227) dX10_swung_226 rfl rfl ?_
          refine aIload (pc' := 229) dX10_swung_227 rfl rfl ?_
          refine cVI (c := 10) (pc' := 232) [aI ((l7 : Int))] dX10_swung_229 lX10_262 okX10_s ⟨by decide, by decide⟩ npX10_s rfl rfl rfl rfl rfl (by decide) rfl (cMetI_mono hw (fun x23 J25 hw => ?_))
          obtain ⟨S24, rfl, hw⟩ := hw
          refine aIcmp_gt (tgt := 238) (pc' := 235) dX10_swung_232 (by decide) rfl (fun hc => ?_) (fun hc => ?_)
          · have hw := hw.1 hc
            refine aAload_n (pc' := 239) dX10_swung_238 rfl rfl ?_
            refine aGetR (pc' := 242) (q := (76, 0)) dX10_swung_239 fX10_90 rfl rfl (lv (by decide)) rfl rfl ?_
            refine aIload (pc' := 244) dX10_swung_242 rfl rfl ?_
            refine aIald (pc' := 245) (j := l7) dX10_swung_244 rfl (lv (by decide)) rfl h9 rfl ?_
            refine aTopEq (y := (S24 36 l7)) rfl ?_
            refine aI2l (pc' := 246) dX10_swung_245 rfl ?_
            refine aAload_n (pc' := 247) dX10_swung_246 rfl rfl ?_
            refine aIload (pc' := 249) dX10_swung_247 rfl rfl ?_
            refine cVI (c := 10) (pc' := 252) [aI ((l7 : Int))] dX10_swung_249 lX10_262 okX10_s ⟨by decide, by decide⟩ npX10_s rfl rfl rfl rfl rfl (by decide) rfl (cMetI_mono hw (fun x26 J28 hw => ?_))
            obtain ⟨S27, rfl, hw⟩ := hw
            refine aI2l (pc' := 253) dX10_swung_252 rfl ?_
            obtain ⟨h29, hw⟩ := hw
            refine aLmul (pc' := 254) h29.1 h29.2 dX10_swung_253 rfl ?_
            refine aIload (pc' := 256) dX10_swung_254 rfl rfl ?_
            refine aAload_n (pc' := 257) dX10_swung_256 rfl rfl ?_
            refine aIload (pc' := 259) dX10_swung_257 rfl rfl ?_
            refine cVI (c := 10) (pc' := 262) [aI ((l7 : Int))] dX10_swung_259 lX10_262 okX10_s ⟨by decide, by decide⟩ npX10_s rfl rfl rfl rfl rfl (by decide) rfl (cMetI_mono hw (fun x30 J32 hw => ?_))
            obtain ⟨S31, rfl, hw⟩ := hw
            obtain ⟨h33, hw⟩ := hw
            refine aIsub (pc' := 263) h33.1 h33.2 dX10_swung_262 rfl ?_
            refine aI2l (pc' := 264) dX10_swung_263 rfl ?_
            obtain ⟨h34, hw⟩ := hw
            refine aLdiv (pc' := 265) h34 dX10_swung_264 rfl ?_
            refine aLstore (pc' := 267) dX10_swung_265 (by decide) rfl (L' := [some (aO 40 0), some (aI l1), some (aL l2), none, some (aI l4), some (aL l5), none, some (aI ((l7 : Int))), some (aI ((x10 - (S11 31 l7)))), some (aL (((((S24 36 l7) * x26)).tdiv ((x10 - (S11 31 l7)) - x30)))), none]) rfl ?_
            refine aLload (pc' := 269) dX10_swung_267 rfl rfl ?_
            refine aLload (pc' := 271) dX10_swung_269 rfl rfl ?_
            refine aLc_lt (tgt := 278) (p1 := 272) (pc' := 275) dX10_swung_271 rfl dX10_swung_272 (by decide) rfl (fun hc => ?_) (fun hc => ?_)
            · have hw := hw.1 hc
              refine aLload (pc' := 280) dX10_swung_278 rfl rfl ?_
              refine aLstore (pc' := 282) dX10_swung_280 (by decide) rfl (L' := [some (aO 40 0), some (aI l1), some (aL l2), none, some (aI l4), some (aL (((((S24 36 l7) * x26)).tdiv ((x10 - (S11 31 l7)) - x30)))), none, some (aI ((l7 : Int))), some (aI ((x10 - (S11 31 l7)))), some (aL (((((S24 36 l7) * x26)).tdiv ((x10 - (S11 31 l7)) - x30)))), none]) rfl ?_
              refine aIload (pc' := 284) dX10_swung_282 rfl rfl ?_
              refine aIstore (pc' := 286) dX10_swung_284 (by decide) rfl (L' := [some (aO 40 0), some (aI l1), some (aL l2), none, some (aI ((l7 : Int))), some (aL (((((S24 36 l7) * x26)).tdiv ((x10 - (S11 31 l7)) - x30)))), none, some (aI ((l7 : Int))), some (aI ((x10 - (S11 31 l7)))), some (aL (((((S24 36 l7) * x26)).tdiv ((x10 - (S11 31 l7)) - x30)))), none]) rfl ?_
              obtain ⟨h35, hw⟩ := hw
              refine aIinc1 (pc' := 289) dX10_swung_286 rfl (by decide) h35 rfl (L' := [some (aO 40 0), some (aI l1), some (aL l2), none, some (aI ((l7 : Int))), some (aL (((((S24 36 l7) * x26)).tdiv ((x10 - (S11 31 l7)) - x30)))), none, some (aI ((((l7 + 1) : Nat) : Int))), some (aI ((x10 - (S11 31 l7)))), some (aL (((((S24 36 l7) * x26)).tdiv ((x10 - (S11 31 l7)) - x30)))), none]) rfl ?_
              refine aGoto (pc' := 160) dX10_swung_289 (by decide) ?_
              exact aDrop [8, 9] (L' := [some (aO 40 0), some (aI l1), some (aL l2), none, some (aI ((l7 : Int))), some (aL (((((S24 36 l7) * x26)).tdiv ((x10 - (S11 31 l7)) - x30)))), none, some (aI ((((l7 + 1) : Nat) : Int))), none, none, none]) rfl hw
            · have hw := hw.2 hc
              refine aGoto (pc' := 286) dX10_swung_275 (by decide) ?_
              obtain ⟨h36, hw⟩ := hw
              refine aIinc1 (pc' := 289) dX10_swung_286 rfl (by decide) h36 rfl (L' := [some (aO 40 0), some (aI l1), some (aL l2), none, some (aI l4), some (aL l5), none, some (aI ((((l7 + 1) : Nat) : Int))), some (aI ((x10 - (S11 31 l7)))), some (aL (((((S24 36 l7) * x26)).tdiv ((x10 - (S11 31 l7)) - x30)))), none]) rfl ?_
              refine aGoto (pc' := 160) dX10_swung_289 (by decide) ?_
              exact aDrop [8, 9] (L' := [some (aO 40 0), some (aI l1), some (aL l2), none, some (aI l4), some (aL l5), none, some (aI ((((l7 + 1) : Nat) : Int))), none, none, none]) rfl hw
          · have hw := hw.2 hc
            refine aGoto (pc' := 286) dX10_swung_235 (by decide) ?_
            obtain ⟨h37, hw⟩ := hw
            refine aIinc1 (pc' := 289) dX10_swung_286 rfl (by decide) h37 rfl (L' := [some (aO 40 0), some (aI l1), some (aL l2), none, some (aI l4), some (aL l5), none, some (aI ((((l7 + 1) : Nat) : Int))), some (aI ((x10 - (S11 31 l7)))), none, none]) rfl ?_
            refine aGoto (pc' := 160) dX10_swung_289 (by decide) ?_
            exact aDrop [8] (L' := [some (aO 40 0), some (aI l1), some (aL l2), none, some (aI l4), some (aL l5), none, some (aI ((((l7 + 1) : Nat) : Int))), none, none, none]) rfl hw
set_option maxRecDepth 100000 in
set_option maxHeartbeats 4000000 in
theorem gX10_tear {w : aW} {mm : Nat} {C : aIF} {S : aS} {p1 : Int} {P : Int → aS → Prop} (hw : rMetI w mX10_isSlot [aI p1] C (sU S 0 0 0) (rf mm) (fun x1 S2 => ((x1 = 0) → P 0 S2) ∧ ((¬ (x1 = 0)) → (0 ≤ p1 ∧ p1 < ((4 : Nat) : Int)) ∧ (((0 ≤ (S2 1 ((p1).toNat))) → P 1 (sU S2 1 ((p1).toNat) ((-1)))) ∧ ((¬ (0 ≤ (S2 1 ((p1).toNat)))) → P 0 S2))))) : rMetI w mX10_tear [aO 40 0, aI p1] C S (rf mm) P := by
  refine cMet_of okX10_tear (Nat.le_of_ble_eq_true rfl) (fun hos => ?_)
  show cRun w mX10_tear 0 [some (aO 40 0), some (aI p1)] [] (mem C S) (rf mm) (rqI (rf mm) C P)
  refine aAload_n (pc' := 1) dX10_tear_0 rfl rfl ?_
  refine aIconst (pc' := 2) ⟨by decide, by decide⟩ dX10_tear_1 rfl ?_
  refine aPutI (pc' := 5) dX10_tear_2 fX10_121 rfl rfl (Or.inl rfl) (lv (by decide)) rfl (cEqI (mS (f := 0) rfl) ?_)
  refine aIload_n (pc' := 6) dX10_tear_5 rfl rfl ?_
  refine cSI (pc' := 9) [aI p1] dX10_tear_6 lX10_128 okX10_isSlot ⟨by decide, by decide⟩ npX10_isSlot rfl rfl rfl (cMetI_mono hw (fun x1 J3 hw => ?_))
  obtain ⟨S2, rfl, hw⟩ := hw
  refine aIf_eq (tgt := 21) (pc' := 12) dX10_tear_9 (by decide) rfl (fun hc => ?_) (fun hc => ?_)
  · have hw := hw.1 hc
    refine aIconst (pc' := 22) ⟨by decide, by decide⟩ dX10_tear_21 rfl ?_
    exact cZret dX10_tear_22 okX10_tear rfl (by decide) ⟨rfl, _, rfl, _, rfl, hw⟩
  · have hw := hw.2 hc
    refine aAload_n (pc' := 13) dX10_tear_12 rfl rfl ?_
    refine aGetR (pc' := 16) (q := (41, 0)) dX10_tear_13 fX10_9 rfl rfl (lv (by decide)) rfl rfl ?_
    refine aIload_n (pc' := 17) dX10_tear_16 rfl rfl ?_
    obtain ⟨h4, hw⟩ := hw
    refine aIald (pc' := 18) (j := (p1).toNat) dX10_tear_17 rfl (lv (by decide)) (tnIx h4).1 (tnIx h4).2 rfl ?_
    refine aTopEq (y := (S2 1 ((p1).toNat))) rfl ?_
    refine aIf_ge (tgt := 23) (pc' := 21) dX10_tear_18 (by decide) rfl (fun hc => ?_) (fun hc => ?_)
    · have hw := hw.1 hc
      refine aAload_n (pc' := 24) dX10_tear_23 rfl rfl ?_
      refine aGetR (pc' := 27) (q := (41, 0)) dX10_tear_24 fX10_9 rfl rfl (lv (by decide)) rfl rfl ?_
      refine aIload_n (pc' := 28) dX10_tear_27 rfl rfl ?_
      refine aIconst (pc' := 29) ⟨by decide, by decide⟩ dX10_tear_28 rfl ?_
      refine aIast (pc' := 30) (j := (p1).toNat) dX10_tear_29 rfl (lv (by decide)) (tnIx h4).1 (tnIx h4).2 rfl (cEqI (mA (f := 1) rfl rfl rfl) ?_)
      refine aIconst (pc' := 31) ⟨by decide, by decide⟩ dX10_tear_30 rfl ?_
      exact cZret dX10_tear_31 okX10_tear rfl (by decide) ⟨rfl, _, rfl, _, rfl, hw⟩
    · have hw := hw.2 hc
      refine aIconst (pc' := 22) ⟨by decide, by decide⟩ dX10_tear_21 rfl ?_
      exact cZret dX10_tear_22 okX10_tear rfl (by decide) ⟨rfl, _, rfl, _, rfl, hw⟩
set_option maxRecDepth 100000 in
set_option maxHeartbeats 4000000 in
theorem gX10_tells {w : aW} {mm : Nat} {C : aIF} {S : aS} {p1 : Int} {p2 : Int} {p3 : Int} {P : aS → Prop} (hw : (((S 26 0) ≠ 60) → (-2147483648 ≤ (4 * (S 26 0)) ∧ (4 * (S 26 0)) < 2147483648) ∧ ((0 ≤ (4 * (S 26 0)) ∧ (4 * (S 26 0)) < ((240 : Nat) : Int)) ∧ ((-2147483648 ≤ (4 * (S 26 0)) ∧ (4 * (S 26 0)) < 2147483648) ∧ ((-2147483648 ≤ ((4 * (S 26 0)) + 1) ∧ ((4 * (S 26 0)) + 1) < 2147483648) ∧ ((0 ≤ ((4 * (S 26 0)) + 1) ∧ ((4 * (S 26 0)) + 1) < ((240 : Nat) : Int)) ∧ ((-2147483648 ≤ (4 * (S 26 0)) ∧ (4 * (S 26 0)) < 2147483648) ∧ ((-2147483648 ≤ ((4 * (S 26 0)) + 2) ∧ ((4 * (S 26 0)) + 2) < 2147483648) ∧ ((0 ≤ ((4 * (S 26 0)) + 2) ∧ ((4 * (S 26 0)) + 2) < ((240 : Nat) : Int)) ∧ ((-2147483648 ≤ (4 * (S 26 0)) ∧ (4 * (S 26 0)) < 2147483648) ∧ ((-2147483648 ≤ ((4 * (S 26 0)) + 3) ∧ ((4 * (S 26 0)) + 3) < 2147483648) ∧ ((0 ≤ ((4 * (S 26 0)) + 3) ∧ ((4 * (S 26 0)) + 3) < ((240 : Nat) : Int)) ∧ ((-2147483648 ≤ ((S 26 0) + 1) ∧ ((S 26 0) + 1) < 2147483648) ∧ ((-2147483648 ≤ ((S 27 0) + 1) ∧ ((S 27 0) + 1) < 2147483648) ∧ (P (sU (sU (sU (sU (sU (sU S 45 (((4 * (S 26 0))).toNat) ((S 24 0))) 45 ((((4 * (S 26 0)) + 1)).toNat) p1) 45 ((((4 * (S 26 0)) + 2)).toNat) p2) 45 ((((4 * (S 26 0)) + 3)).toNat) p3) 26 0 (((S 26 0) + 1))) 27 0 (((S 27 0) + 1))))))))))))))))) ∧ (((S 26 0) = 60) → rRunV w mX10_tells 12 [some (aO 40 0), some (aI p1), some (aI p2), some (aI p3), some (aI 0)] [] C S (rf mm) P)) : rMetV w mX10_tells [aO 40 0, aI p1, aI p2, aI p3] C S (rf mm) P := by
  refine cMet_of okX10_tells (Nat.le_of_ble_eq_true rfl) (fun hos => ?_)
  show cRun w mX10_tells 0 [some (aO 40 0), some (aI p1), some (aI p2), some (aI p3), none] [] (mem C S) (rf mm) (rqV (rf mm) C P)
  refine aAload_n (pc' := 1) dX10_tells_0 rfl rfl ?_
  refine aGetI (pc' := 4) dX10_tells_1 fX10_209 rfl rfl (lv (by decide)) rfl ?_
  refine aTopEq (y := (S 26 0)) rfl ?_
  refine aBipush (pc' := 6) ⟨by decide, by decide⟩ dX10_tells_4 rfl ?_
  refine aIcmp_ne (tgt := 52) (pc' := 9) dX10_tells_6 (by decide) rfl (fun hc => ?_) (fun hc => ?_)
  · have hw := hw.1 hc
    refine aAload_n (pc' := 53) dX10_tells_52 rfl rfl ?_
    refine aGetR (pc' := 56) (q := (85, 0)) dX10_tells_53 fX10_118 rfl rfl (lv (by decide)) rfl rfl ?_
    refine aIconst (pc' := 57) ⟨by decide, by decide⟩ dX10_tells_56 rfl ?_
    refine aAload_n (pc' := 58) dX10_tells_57 rfl rfl ?_
    refine aGetI (pc' := 61) dX10_tells_58 fX10_209 rfl rfl (lv (by decide)) rfl ?_
    refine aTopEq (y := (S 26 0)) rfl ?_
    obtain ⟨h1, hw⟩ := hw
    refine aImul (pc' := 62) h1.1 h1.2 dX10_tells_61 rfl ?_
    refine aAload_n (pc' := 63) dX10_tells_62 rfl rfl ?_
    refine aGetI (pc' := 66) dX10_tells_63 fX10_203 rfl rfl (lv (by decide)) rfl ?_
    refine aTopEq (y := (S 24 0)) rfl ?_
    obtain ⟨h2, hw⟩ := hw
    refine aIast (pc' := 67) (j := ((4 * (S 26 0))).toNat) dX10_tells_66 rfl (lv (by decide)) (tnIx h2).1 (tnIx h2).2 rfl (cEqI (mA (f := 45) rfl rfl rfl) ?_)
    refine aAload_n (pc' := 68) dX10_tells_67 rfl rfl ?_
    refine aGetR (pc' := 71) (q := (85, 0)) dX10_tells_68 fX10_118 rfl rfl (lv (by decide)) rfl rfl ?_
    refine aIconst (pc' := 72) ⟨by decide, by decide⟩ dX10_tells_71 rfl ?_
    refine aAload_n (pc' := 73) dX10_tells_72 rfl rfl ?_
    refine aGetI (pc' := 76) dX10_tells_73 fX10_209 rfl rfl (lv (by decide)) rfl ?_
    refine aTopEq (y := ((sU S 45 (((4 * (S 26 0))).toNat) ((S 24 0))) 26 0)) rfl ?_
    refine aTopEq (sU_f rfl) ?_
    obtain ⟨h3, hw⟩ := hw
    refine aImul (pc' := 77) h3.1 h3.2 dX10_tells_76 rfl ?_
    refine aIconst (pc' := 78) ⟨by decide, by decide⟩ dX10_tells_77 rfl ?_
    obtain ⟨h4, hw⟩ := hw
    refine aIadd (pc' := 79) h4.1 h4.2 dX10_tells_78 rfl ?_
    refine aIload_n (pc' := 80) dX10_tells_79 rfl rfl ?_
    obtain ⟨h5, hw⟩ := hw
    refine aIast (pc' := 81) (j := (((4 * (S 26 0)) + 1)).toNat) dX10_tells_80 rfl (lv (by decide)) (tnIx h5).1 (tnIx h5).2 rfl (cEqI (mA (f := 45) rfl rfl rfl) ?_)
    refine aAload_n (pc' := 82) dX10_tells_81 rfl rfl ?_
    refine aGetR (pc' := 85) (q := (85, 0)) dX10_tells_82 fX10_118 rfl rfl (lv (by decide)) rfl rfl ?_
    refine aIconst (pc' := 86) ⟨by decide, by decide⟩ dX10_tells_85 rfl ?_
    refine aAload_n (pc' := 87) dX10_tells_86 rfl rfl ?_
    refine aGetI (pc' := 90) dX10_tells_87 fX10_209 rfl rfl (lv (by decide)) rfl ?_
    refine aTopEq (y := ((sU (sU S 45 (((4 * (S 26 0))).toNat) ((S 24 0))) 45 ((((4 * (S 26 0)) + 1)).toNat) p1) 26 0)) rfl ?_
    refine aTopEq ((sU_f rfl).trans (sU_f rfl)) ?_
    obtain ⟨h6, hw⟩ := hw
    refine aImul (pc' := 91) h6.1 h6.2 dX10_tells_90 rfl ?_
    refine aIconst (pc' := 92) ⟨by decide, by decide⟩ dX10_tells_91 rfl ?_
    obtain ⟨h7, hw⟩ := hw
    refine aIadd (pc' := 93) h7.1 h7.2 dX10_tells_92 rfl ?_
    refine aIload_n (pc' := 94) dX10_tells_93 rfl rfl ?_
    obtain ⟨h8, hw⟩ := hw
    refine aIast (pc' := 95) (j := (((4 * (S 26 0)) + 2)).toNat) dX10_tells_94 rfl (lv (by decide)) (tnIx h8).1 (tnIx h8).2 rfl (cEqI (mA (f := 45) rfl rfl rfl) ?_)
    refine aAload_n (pc' := 96) dX10_tells_95 rfl rfl ?_
    refine aGetR (pc' := 99) (q := (85, 0)) dX10_tells_96 fX10_118 rfl rfl (lv (by decide)) rfl rfl ?_
    refine aIconst (pc' := 100) ⟨by decide, by decide⟩ dX10_tells_99 rfl ?_
    refine aAload_n (pc' := 101) dX10_tells_100 rfl rfl ?_
    refine aGetI (pc' := 104) dX10_tells_101 fX10_209 rfl rfl (lv (by decide)) rfl ?_
    refine aTopEq (y := ((sU (sU (sU S 45 (((4 * (S 26 0))).toNat) ((S 24 0))) 45 ((((4 * (S 26 0)) + 1)).toNat) p1) 45 ((((4 * (S 26 0)) + 2)).toNat) p2) 26 0)) rfl ?_
    refine aTopEq (((sU_f rfl).trans (sU_f rfl)).trans (sU_f rfl)) ?_
    obtain ⟨h9, hw⟩ := hw
    refine aImul (pc' := 105) h9.1 h9.2 dX10_tells_104 rfl ?_
    refine aIconst (pc' := 106) ⟨by decide, by decide⟩ dX10_tells_105 rfl ?_
    obtain ⟨h10, hw⟩ := hw
    refine aIadd (pc' := 107) h10.1 h10.2 dX10_tells_106 rfl ?_
    refine aIload_n (pc' := 108) dX10_tells_107 rfl rfl ?_
    obtain ⟨h11, hw⟩ := hw
    refine aIast (pc' := 109) (j := (((4 * (S 26 0)) + 3)).toNat) dX10_tells_108 rfl (lv (by decide)) (tnIx h11).1 (tnIx h11).2 rfl (cEqI (mA (f := 45) rfl rfl rfl) ?_)
    refine aAload_n (pc' := 110) dX10_tells_109 rfl rfl ?_
    refine aDup (pc' := 111) rfl dX10_tells_110 rfl ?_
    refine aGetI (pc' := 114) dX10_tells_111 fX10_209 rfl rfl (lv (by decide)) rfl ?_
    refine aTopEq (y := ((sU (sU (sU (sU S 45 (((4 * (S 26 0))).toNat) ((S 24 0))) 45 ((((4 * (S 26 0)) + 1)).toNat) p1) 45 ((((4 * (S 26 0)) + 2)).toNat) p2) 45 ((((4 * (S 26 0)) + 3)).toNat) p3) 26 0)) rfl ?_
    refine aTopEq ((((sU_f rfl).trans (sU_f rfl)).trans (sU_f rfl)).trans (sU_f rfl)) ?_
    refine aIconst (pc' := 115) ⟨by decide, by decide⟩ dX10_tells_114 rfl ?_
    obtain ⟨h12, hw⟩ := hw
    refine aIadd (pc' := 116) h12.1 h12.2 dX10_tells_115 rfl ?_
    refine aPutI (pc' := 119) dX10_tells_116 fX10_209 rfl rfl (Or.inl rfl) (lv (by decide)) rfl (cEqI (mS (f := 26) rfl) ?_)
    refine aAload_n (pc' := 120) dX10_tells_119 rfl rfl ?_
    refine aDup (pc' := 121) rfl dX10_tells_120 rfl ?_
    refine aGetI (pc' := 124) dX10_tells_121 fX10_212 rfl rfl (lv (by decide)) rfl ?_
    refine aTopEq (y := ((sU (sU (sU (sU (sU S 45 (((4 * (S 26 0))).toNat) ((S 24 0))) 45 ((((4 * (S 26 0)) + 1)).toNat) p1) 45 ((((4 * (S 26 0)) + 2)).toNat) p2) 45 ((((4 * (S 26 0)) + 3)).toNat) p3) 26 0 (((S 26 0) + 1))) 27 0)) rfl ?_
    refine aTopEq (((((sU_f rfl).trans (sU_f rfl)).trans (sU_f rfl)).trans (sU_f rfl)).trans (sU_f rfl)) ?_
    refine aIconst (pc' := 125) ⟨by decide, by decide⟩ dX10_tells_124 rfl ?_
    obtain ⟨h13, hw⟩ := hw
    refine aIadd (pc' := 126) h13.1 h13.2 dX10_tells_125 rfl ?_
    refine aPutI (pc' := 129) dX10_tells_126 fX10_212 rfl rfl (Or.inl rfl) (lv (by decide)) rfl (cEqI (mS (f := 27) rfl) ?_)
    exact cVret dX10_tells_129 okX10_tells rfl ⟨rfl, rfl, _, rfl, hw⟩
  · have hw := hw.2 hc
    refine aIconst (pc' := 10) ⟨by decide, by decide⟩ dX10_tells_9 rfl ?_
    refine aIstore (pc' := 12) dX10_tells_10 (by decide) rfl (L' := [some (aO 40 0), some (aI p1), some (aI p2), some (aI p3), some (aI 0)]) rfl ?_
    exact hw
set_option maxRecDepth 100000 in
set_option maxHeartbeats 4000000 in
theorem gX10_tells_12 {w : aW} {mm : Nat} {C : aIF} {S : aS} {p1 : Int} {p2 : Int} {p3 : Int} {l4 : Nat} {P : aS → Prop} (hw : ((236 ≤ (l4 : Int)) → (-2147483648 ≤ ((S 26 0) - 1) ∧ ((S 26 0) - 1) < 2147483648) ∧ ((-2147483648 ≤ (4 * ((S 26 0) - 1)) ∧ (4 * ((S 26 0) - 1)) < 2147483648) ∧ ((0 ≤ (4 * ((S 26 0) - 1)) ∧ (4 * ((S 26 0) - 1)) < ((240 : Nat) : Int)) ∧ ((-2147483648 ≤ (4 * ((S 26 0) - 1)) ∧ (4 * ((S 26 0) - 1)) < 2147483648) ∧ ((-2147483648 ≤ ((4 * ((S 26 0) - 1)) + 1) ∧ ((4 * ((S 26 0) - 1)) + 1) < 2147483648) ∧ ((0 ≤ ((4 * ((S 26 0) - 1)) + 1) ∧ ((4 * ((S 26 0) - 1)) + 1) < ((240 : Nat) : Int)) ∧ ((-2147483648 ≤ (4 * ((S 26 0) - 1)) ∧ (4 * ((S 26 0) - 1)) < 2147483648) ∧ ((-2147483648 ≤ ((4 * ((S 26 0) - 1)) + 2) ∧ ((4 * ((S 26 0) - 1)) + 2) < 2147483648) ∧ ((0 ≤ ((4 * ((S 26 0) - 1)) + 2) ∧ ((4 * ((S 26 0) - 1)) + 2) < ((240 : Nat) : Int)) ∧ ((-2147483648 ≤ (4 * ((S 26 0) - 1)) ∧ (4 * ((S 26 0) - 1)) < 2147483648) ∧ ((-2147483648 ≤ ((4 * ((S 26 0) - 1)) + 3) ∧ ((4 * ((S 26 0) - 1)) + 3) < 2147483648) ∧ ((0 ≤ ((4 * ((S 26 0) - 1)) + 3) ∧ ((4 * ((S 26 0) - 1)) + 3) < ((240 : Nat) : Int)) ∧ ((-2147483648 ≤ (((S 26 0) - 1) + 1) ∧ (((S 26 0) - 1) + 1) < 2147483648) ∧ ((-2147483648 ≤ ((S 27 0) + 1) ∧ ((S 27 0) + 1) < 2147483648) ∧ (P (sU (sU (sU (sU (sU (sU (sU S 26 0 (((S 26 0) - 1))) 45 (((4 * ((S 26 0) - 1))).toNat) ((S 24 0))) 45 ((((4 * ((S 26 0) - 1)) + 1)).toNat) p1) 45 ((((4 * ((S 26 0) - 1)) + 2)).toNat) p2) 45 ((((4 * ((S 26 0) - 1)) + 3)).toNat) p3) 26 0 ((((S 26 0) - 1) + 1))) 27 0 (((S 27 0) + 1)))))))))))))))))) ∧ ((¬ (236 ≤ (l4 : Int))) → (-2147483648 ≤ ((l4 : Int) + 4) ∧ ((l4 : Int) + 4) < 2147483648) ∧ (((l4 + 4) < 240) ∧ ((l4 < 240) ∧ ((l4 + 1 < 2147483648) ∧ (rRunV w mX10_tells 12 [some (aO 40 0), some (aI p1), some (aI p2), some (aI p3), some (aI ((((l4 + 1) : Nat) : Int)))] [] C (sU S 45 l4 ((S 45 ((l4 + 4))))) (rf mm) P)))))) : rRunV w mX10_tells 12 [some (aO 40 0), some (aI p1), some (aI p2), some (aI p3), some (aI ((l4 : Int)))] [] C S (rf mm) P := by
  refine aIload (pc' := 14) dX10_tells_12 rfl rfl ?_
  refine aSipush (pc' := 17) ⟨by decide, by decide⟩ dX10_tells_14 rfl ?_
  refine aIcmp_ge (tgt := 42) (pc' := 20) dX10_tells_17 (by decide) rfl (fun hc => ?_) (fun hc => ?_)
  · have hw := hw.1 hc
    refine aAload_n (pc' := 43) dX10_tells_42 rfl rfl ?_
    refine aDup (pc' := 44) rfl dX10_tells_43 rfl ?_
    refine aGetI (pc' := 47) dX10_tells_44 fX10_209 rfl rfl (lv (by decide)) rfl ?_
    refine aTopEq (y := (S 26 0)) rfl ?_
    refine aIconst (pc' := 48) ⟨by decide, by decide⟩ dX10_tells_47 rfl ?_
    obtain ⟨h1, hw⟩ := hw
    refine aIsub (pc' := 49) h1.1 h1.2 dX10_tells_48 rfl ?_
    refine aPutI (pc' := 52) dX10_tells_49 fX10_209 rfl rfl (Or.inl rfl) (lv (by decide)) rfl (cEqI (mS (f := 26) rfl) ?_)
    refine aAload_n (pc' := 53) dX10_tells_52 rfl rfl ?_
    refine aGetR (pc' := 56) (q := (85, 0)) dX10_tells_53 fX10_118 rfl rfl (lv (by decide)) rfl rfl ?_
    refine aIconst (pc' := 57) ⟨by decide, by decide⟩ dX10_tells_56 rfl ?_
    refine aAload_n (pc' := 58) dX10_tells_57 rfl rfl ?_
    refine aGetI (pc' := 61) dX10_tells_58 fX10_209 rfl rfl (lv (by decide)) rfl ?_
    refine aTopEq (y := ((sU S 26 0 (((S 26 0) - 1))) 26 0)) rfl ?_
    refine aTopEq sU_s ?_
    obtain ⟨h2, hw⟩ := hw
    refine aImul (pc' := 62) h2.1 h2.2 dX10_tells_61 rfl ?_
    refine aAload_n (pc' := 63) dX10_tells_62 rfl rfl ?_
    refine aGetI (pc' := 66) dX10_tells_63 fX10_203 rfl rfl (lv (by decide)) rfl ?_
    refine aTopEq (y := ((sU S 26 0 (((S 26 0) - 1))) 24 0)) rfl ?_
    refine aTopEq (sU_f rfl) ?_
    obtain ⟨h3, hw⟩ := hw
    refine aIast (pc' := 67) (j := ((4 * ((S 26 0) - 1))).toNat) dX10_tells_66 rfl (lv (by decide)) (tnIx h3).1 (tnIx h3).2 rfl (cEqI (mA (f := 45) rfl rfl rfl) ?_)
    refine aAload_n (pc' := 68) dX10_tells_67 rfl rfl ?_
    refine aGetR (pc' := 71) (q := (85, 0)) dX10_tells_68 fX10_118 rfl rfl (lv (by decide)) rfl rfl ?_
    refine aIconst (pc' := 72) ⟨by decide, by decide⟩ dX10_tells_71 rfl ?_
    refine aAload_n (pc' := 73) dX10_tells_72 rfl rfl ?_
    refine aGetI (pc' := 76) dX10_tells_73 fX10_209 rfl rfl (lv (by decide)) rfl ?_
    refine aTopEq (y := ((sU (sU S 26 0 (((S 26 0) - 1))) 45 (((4 * ((S 26 0) - 1))).toNat) ((S 24 0))) 26 0)) rfl ?_
    refine aTopEq ((sU_f rfl).trans (sU_s)) ?_
    obtain ⟨h4, hw⟩ := hw
    refine aImul (pc' := 77) h4.1 h4.2 dX10_tells_76 rfl ?_
    refine aIconst (pc' := 78) ⟨by decide, by decide⟩ dX10_tells_77 rfl ?_
    obtain ⟨h5, hw⟩ := hw
    refine aIadd (pc' := 79) h5.1 h5.2 dX10_tells_78 rfl ?_
    refine aIload_n (pc' := 80) dX10_tells_79 rfl rfl ?_
    obtain ⟨h6, hw⟩ := hw
    refine aIast (pc' := 81) (j := (((4 * ((S 26 0) - 1)) + 1)).toNat) dX10_tells_80 rfl (lv (by decide)) (tnIx h6).1 (tnIx h6).2 rfl (cEqI (mA (f := 45) rfl rfl rfl) ?_)
    refine aAload_n (pc' := 82) dX10_tells_81 rfl rfl ?_
    refine aGetR (pc' := 85) (q := (85, 0)) dX10_tells_82 fX10_118 rfl rfl (lv (by decide)) rfl rfl ?_
    refine aIconst (pc' := 86) ⟨by decide, by decide⟩ dX10_tells_85 rfl ?_
    refine aAload_n (pc' := 87) dX10_tells_86 rfl rfl ?_
    refine aGetI (pc' := 90) dX10_tells_87 fX10_209 rfl rfl (lv (by decide)) rfl ?_
    refine aTopEq (y := ((sU (sU (sU S 26 0 (((S 26 0) - 1))) 45 (((4 * ((S 26 0) - 1))).toNat) ((S 24 0))) 45 ((((4 * ((S 26 0) - 1)) + 1)).toNat) p1) 26 0)) rfl ?_
    refine aTopEq (((sU_f rfl).trans (sU_f rfl)).trans (sU_s)) ?_
    obtain ⟨h7, hw⟩ := hw
    refine aImul (pc' := 91) h7.1 h7.2 dX10_tells_90 rfl ?_
    refine aIconst (pc' := 92) ⟨by decide, by decide⟩ dX10_tells_91 rfl ?_
    obtain ⟨h8, hw⟩ := hw
    refine aIadd (pc' := 93) h8.1 h8.2 dX10_tells_92 rfl ?_
    refine aIload_n (pc' := 94) dX10_tells_93 rfl rfl ?_
    obtain ⟨h9, hw⟩ := hw
    refine aIast (pc' := 95) (j := (((4 * ((S 26 0) - 1)) + 2)).toNat) dX10_tells_94 rfl (lv (by decide)) (tnIx h9).1 (tnIx h9).2 rfl (cEqI (mA (f := 45) rfl rfl rfl) ?_)
    refine aAload_n (pc' := 96) dX10_tells_95 rfl rfl ?_
    refine aGetR (pc' := 99) (q := (85, 0)) dX10_tells_96 fX10_118 rfl rfl (lv (by decide)) rfl rfl ?_
    refine aIconst (pc' := 100) ⟨by decide, by decide⟩ dX10_tells_99 rfl ?_
    refine aAload_n (pc' := 101) dX10_tells_100 rfl rfl ?_
    refine aGetI (pc' := 104) dX10_tells_101 fX10_209 rfl rfl (lv (by decide)) rfl ?_
    refine aTopEq (y := ((sU (sU (sU (sU S 26 0 (((S 26 0) - 1))) 45 (((4 * ((S 26 0) - 1))).toNat) ((S 24 0))) 45 ((((4 * ((S 26 0) - 1)) + 1)).toNat) p1) 45 ((((4 * ((S 26 0) - 1)) + 2)).toNat) p2) 26 0)) rfl ?_
    refine aTopEq ((((sU_f rfl).trans (sU_f rfl)).trans (sU_f rfl)).trans (sU_s)) ?_
    obtain ⟨h10, hw⟩ := hw
    refine aImul (pc' := 105) h10.1 h10.2 dX10_tells_104 rfl ?_
    refine aIconst (pc' := 106) ⟨by decide, by decide⟩ dX10_tells_105 rfl ?_
    obtain ⟨h11, hw⟩ := hw
    refine aIadd (pc' := 107) h11.1 h11.2 dX10_tells_106 rfl ?_
    refine aIload_n (pc' := 108) dX10_tells_107 rfl rfl ?_
    obtain ⟨h12, hw⟩ := hw
    refine aIast (pc' := 109) (j := (((4 * ((S 26 0) - 1)) + 3)).toNat) dX10_tells_108 rfl (lv (by decide)) (tnIx h12).1 (tnIx h12).2 rfl (cEqI (mA (f := 45) rfl rfl rfl) ?_)
    refine aAload_n (pc' := 110) dX10_tells_109 rfl rfl ?_
    refine aDup (pc' := 111) rfl dX10_tells_110 rfl ?_
    refine aGetI (pc' := 114) dX10_tells_111 fX10_209 rfl rfl (lv (by decide)) rfl ?_
    refine aTopEq (y := ((sU (sU (sU (sU (sU S 26 0 (((S 26 0) - 1))) 45 (((4 * ((S 26 0) - 1))).toNat) ((S 24 0))) 45 ((((4 * ((S 26 0) - 1)) + 1)).toNat) p1) 45 ((((4 * ((S 26 0) - 1)) + 2)).toNat) p2) 45 ((((4 * ((S 26 0) - 1)) + 3)).toNat) p3) 26 0)) rfl ?_
    refine aTopEq (((((sU_f rfl).trans (sU_f rfl)).trans (sU_f rfl)).trans (sU_f rfl)).trans (sU_s)) ?_
    refine aIconst (pc' := 115) ⟨by decide, by decide⟩ dX10_tells_114 rfl ?_
    obtain ⟨h13, hw⟩ := hw
    refine aIadd (pc' := 116) h13.1 h13.2 dX10_tells_115 rfl ?_
    refine aPutI (pc' := 119) dX10_tells_116 fX10_209 rfl rfl (Or.inl rfl) (lv (by decide)) rfl (cEqI (mS (f := 26) rfl) ?_)
    refine aAload_n (pc' := 120) dX10_tells_119 rfl rfl ?_
    refine aDup (pc' := 121) rfl dX10_tells_120 rfl ?_
    refine aGetI (pc' := 124) dX10_tells_121 fX10_212 rfl rfl (lv (by decide)) rfl ?_
    refine aTopEq (y := ((sU (sU (sU (sU (sU (sU S 26 0 (((S 26 0) - 1))) 45 (((4 * ((S 26 0) - 1))).toNat) ((S 24 0))) 45 ((((4 * ((S 26 0) - 1)) + 1)).toNat) p1) 45 ((((4 * ((S 26 0) - 1)) + 2)).toNat) p2) 45 ((((4 * ((S 26 0) - 1)) + 3)).toNat) p3) 26 0 ((((S 26 0) - 1) + 1))) 27 0)) rfl ?_
    refine aTopEq ((((((sU_f rfl).trans (sU_f rfl)).trans (sU_f rfl)).trans (sU_f rfl)).trans (sU_f rfl)).trans (sU_f rfl)) ?_
    refine aIconst (pc' := 125) ⟨by decide, by decide⟩ dX10_tells_124 rfl ?_
    obtain ⟨h14, hw⟩ := hw
    refine aIadd (pc' := 126) h14.1 h14.2 dX10_tells_125 rfl ?_
    refine aPutI (pc' := 129) dX10_tells_126 fX10_212 rfl rfl (Or.inl rfl) (lv (by decide)) rfl (cEqI (mS (f := 27) rfl) ?_)
    exact cVret dX10_tells_129 okX10_tells rfl ⟨rfl, rfl, _, rfl, hw⟩
  · have hw := hw.2 hc
    refine aAload_n (pc' := 21) dX10_tells_20 rfl rfl ?_
    refine aGetR (pc' := 24) (q := (85, 0)) dX10_tells_21 fX10_118 rfl rfl (lv (by decide)) rfl rfl ?_
    refine aIload (pc' := 26) dX10_tells_24 rfl rfl ?_
    refine aAload_n (pc' := 27) dX10_tells_26 rfl rfl ?_
    refine aGetR (pc' := 30) (q := (85, 0)) dX10_tells_27 fX10_118 rfl rfl (lv (by decide)) rfl rfl ?_
    refine aIload (pc' := 32) dX10_tells_30 rfl rfl ?_
    refine aIconst (pc' := 33) ⟨by decide, by decide⟩ dX10_tells_32 rfl ?_
    obtain ⟨h15, hw⟩ := hw
    refine aIadd (pc' := 34) h15.1 h15.2 dX10_tells_33 rfl ?_
    obtain ⟨h16, hw⟩ := hw
    refine aIald (pc' := 35) (j := (l4 + 4)) dX10_tells_34 rfl (lv (by decide)) (by omega) h16 rfl ?_
    refine aTopEq (y := (S 45 ((l4 + 4)))) rfl ?_
    obtain ⟨h17, hw⟩ := hw
    refine aIast (pc' := 36) (j := l4) dX10_tells_35 rfl (lv (by decide)) rfl h17 rfl (cEqI (mA (f := 45) rfl rfl rfl) ?_)
    obtain ⟨h18, hw⟩ := hw
    refine aIinc1 (pc' := 39) dX10_tells_36 rfl (by decide) h18 rfl (L' := [some (aO 40 0), some (aI p1), some (aI p2), some (aI p3), some (aI ((((l4 + 1) : Nat) : Int)))]) rfl ?_
    refine aGoto (pc' := 12) dX10_tells_39 (by decide) ?_
    exact hw
set_option maxRecDepth 100000 in
set_option maxHeartbeats 4000000 in
theorem gX10_terms {w : aW} {mm : Nat} {C : aIF} {S : aS} {p1 : Int} {p2 : Int} {p3 : Int} {p4 : Int} {p5 : Int} {P : Int → aS → Prop} (hw : (((S 22 0) = 0) → rMetI w mX10_in [aI p1, aI 1, aI 64] C (sU S 0 0 0) (rf mm) (fun x1 S2 => ((x1 = 0) → P (-2) S2) ∧ ((¬ (x1 = 0)) → rMetI w mX10_in [aI p2, aI p1, aI 4096] C S2 (rf mm) (fun x4 S5 => ((x4 = 0) → P (-2) S5) ∧ ((¬ (x4 = 0)) → (0 ≤ p2 ∧ 0 < p1) ∧ ((((p2 % p1) ≠ 0) → P (-2) S5) ∧ (((p2 % p1) = 0) → (0 ≤ p2 ∧ 0 < p1) ∧ (((64 < (p2 / p1)) → P (-2) S5) ∧ ((¬ (64 < (p2 / p1))) → rMetI w mX10_in [aI p3, aI 0, aI p2] C S5 (rf mm) (fun x9 S10 => ((x9 = 0) → P (-2) S10) ∧ ((¬ (x9 = 0)) → (0 ≤ p3 ∧ 0 < p1) ∧ ((((p3 % p1) ≠ 0) → P (-2) S10) ∧ (((p3 % p1) = 0) → rMetI w mX10_in [aI p4, aI 1, aI 1000] C S10 (rf mm) (fun x13 S14 => ((x13 = 0) → P (-2) S14) ∧ ((¬ (x13 = 0)) → rMetI w mX10_in [aI p5, aI 0, aI 9] C S14 (rf mm) (fun x16 S17 => ((x16 ≠ 0) → P 0 (sU (sU (sU (sU (sU (sU S17 5 0 p1) 6 0 p2) 7 0 p3) 8 0 p4) 9 0 p5) 17 0 0)) ∧ ((x16 = 0) → P (-2) S17))))))))))))))))) ∧ ((¬ ((S 22 0) = 0)) → P (-9) (sU S 0 0 0))) : rMetI w mX10_terms [aO 40 0, aI p1, aI p2, aI p3, aI p4, aI p5] C S (rf mm) P := by
  refine cMet_of okX10_terms (Nat.le_of_ble_eq_true rfl) (fun hos => ?_)
  show cRun w mX10_terms 0 [some (aO 40 0), some (aI p1), some (aI p2), some (aI p3), some (aI p4), some (aI p5)] [] (mem C S) (rf mm) (rqI (rf mm) C P)
  refine aAload_n (pc' := 1) dX10_terms_0 rfl rfl ?_
  refine aIconst (pc' := 2) ⟨by decide, by decide⟩ dX10_terms_1 rfl ?_
  refine aPutI (pc' := 5) dX10_terms_2 fX10_121 rfl rfl (Or.inl rfl) (lv (by decide)) rfl (cEqI (mS (f := 0) rfl) ?_)
  refine aAload_n (pc' := 6) dX10_terms_5 rfl rfl ?_
  refine aGetI (pc' := 9) dX10_terms_6 fX10_136 rfl rfl (lv (by decide)) rfl ?_
  refine aTopEq (y := ((sU S 0 0 0) 22 0)) rfl ?_
  refine aTopEq (sU_f rfl) ?_
  refine aIf_eq (tgt := 15) (pc' := 12) dX10_terms_9 (by decide) rfl (fun hc => ?_) (fun hc => ?_)
  · have hw := hw.1 hc
    refine aIload_n (pc' := 16) dX10_terms_15 rfl rfl ?_
    refine aIconst (pc' := 17) ⟨by decide, by decide⟩ dX10_terms_16 rfl ?_
    refine aBipush (pc' := 19) ⟨by decide, by decide⟩ dX10_terms_17 rfl ?_
    refine cSI (pc' := 22) [aI p1, aI 1, aI 64] dX10_terms_19 lX10_124 okX10_in ⟨by decide, by decide⟩ npX10_in rfl rfl rfl (cMetI_mono hw (fun x1 J3 hw => ?_))
    obtain ⟨S2, rfl, hw⟩ := hw
    refine aIf_eq (tgt := 88) (pc' := 25) dX10_terms_22 (by decide) rfl (fun hc => ?_) (fun hc => ?_)
    · have hw := hw.1 hc
      refine aBipush (pc' := 90) ⟨by decide, by decide⟩ dX10_terms_88 rfl ?_
      exact cIret dX10_terms_90 okX10_terms rfl ⟨rfl, _, rfl, _, rfl, hw⟩
    · have hw := hw.2 hc
      refine aIload_n (pc' := 26) dX10_terms_25 rfl rfl ?_
      refine aIload_n (pc' := 27) dX10_terms_26 rfl rfl ?_
      refine aSipush (pc' := 30) ⟨by decide, by decide⟩ dX10_terms_27 rfl ?_
      refine cSI (pc' := 33) [aI p2, aI p1, aI 4096] dX10_terms_30 lX10_124 okX10_in ⟨by decide, by decide⟩ npX10_in rfl rfl rfl (cMetI_mono hw (fun x4 J6 hw => ?_))
      obtain ⟨S5, rfl, hw⟩ := hw
      refine aIf_eq (tgt := 88) (pc' := 36) dX10_terms_33 (by decide) rfl (fun hc => ?_) (fun hc => ?_)
      · have hw := hw.1 hc
        refine aBipush (pc' := 90) ⟨by decide, by decide⟩ dX10_terms_88 rfl ?_
        exact cIret dX10_terms_90 okX10_terms rfl ⟨rfl, _, rfl, _, rfl, hw⟩
      · have hw := hw.2 hc
        refine aIload_n (pc' := 37) dX10_terms_36 rfl rfl ?_
        refine aIload_n (pc' := 38) dX10_terms_37 rfl rfl ?_
        obtain ⟨h7, hw⟩ := hw
        refine aIrem (pc' := 39) h7.1 h7.2 dX10_terms_38 rfl ?_
        refine aIf_ne (tgt := 88) (pc' := 42) dX10_terms_39 (by decide) rfl (fun hc => ?_) (fun hc => ?_)
        · have hw := hw.1 hc
          refine aBipush (pc' := 90) ⟨by decide, by decide⟩ dX10_terms_88 rfl ?_
          exact cIret dX10_terms_90 okX10_terms rfl ⟨rfl, _, rfl, _, rfl, hw⟩
        · have hw := hw.2 hc
          refine aIload_n (pc' := 43) dX10_terms_42 rfl rfl ?_
          refine aIload_n (pc' := 44) dX10_terms_43 rfl rfl ?_
          obtain ⟨h8, hw⟩ := hw
          refine aIdiv (pc' := 45) h8.1 h8.2 dX10_terms_44 rfl ?_
          refine aBipush (pc' := 47) ⟨by decide, by decide⟩ dX10_terms_45 rfl ?_
          refine aIcmp_gt (tgt := 88) (pc' := 50) dX10_terms_47 (by decide) rfl (fun hc => ?_) (fun hc => ?_)
          · have hw := hw.1 hc
            refine aBipush (pc' := 90) ⟨by decide, by decide⟩ dX10_terms_88 rfl ?_
            exact cIret dX10_terms_90 okX10_terms rfl ⟨rfl, _, rfl, _, rfl, hw⟩
          · have hw := hw.2 hc
            refine aIload_n (pc' := 51) dX10_terms_50 rfl rfl ?_
            refine aIconst (pc' := 52) ⟨by decide, by decide⟩ dX10_terms_51 rfl ?_
            refine aIload_n (pc' := 53) dX10_terms_52 rfl rfl ?_
            refine cSI (pc' := 56) [aI p3, aI 0, aI p2] dX10_terms_53 lX10_124 okX10_in ⟨by decide, by decide⟩ npX10_in rfl rfl rfl (cMetI_mono hw (fun x9 J11 hw => ?_))
            obtain ⟨S10, rfl, hw⟩ := hw
            refine aIf_eq (tgt := 88) (pc' := 59) dX10_terms_56 (by decide) rfl (fun hc => ?_) (fun hc => ?_)
            · have hw := hw.1 hc
              refine aBipush (pc' := 90) ⟨by decide, by decide⟩ dX10_terms_88 rfl ?_
              exact cIret dX10_terms_90 okX10_terms rfl ⟨rfl, _, rfl, _, rfl, hw⟩
            · have hw := hw.2 hc
              refine aIload_n (pc' := 60) dX10_terms_59 rfl rfl ?_
              refine aIload_n (pc' := 61) dX10_terms_60 rfl rfl ?_
              obtain ⟨h12, hw⟩ := hw
              refine aIrem (pc' := 62) h12.1 h12.2 dX10_terms_61 rfl ?_
              refine aIf_ne (tgt := 88) (pc' := 65) dX10_terms_62 (by decide) rfl (fun hc => ?_) (fun hc => ?_)
              · have hw := hw.1 hc
                refine aBipush (pc' := 90) ⟨by decide, by decide⟩ dX10_terms_88 rfl ?_
                exact cIret dX10_terms_90 okX10_terms rfl ⟨rfl, _, rfl, _, rfl, hw⟩
              · have hw := hw.2 hc
                refine aIload (pc' := 67) dX10_terms_65 rfl rfl ?_
                refine aIconst (pc' := 68) ⟨by decide, by decide⟩ dX10_terms_67 rfl ?_
                refine aSipush (pc' := 71) ⟨by decide, by decide⟩ dX10_terms_68 rfl ?_
                refine cSI (pc' := 74) [aI p4, aI 1, aI 1000] dX10_terms_71 lX10_124 okX10_in ⟨by decide, by decide⟩ npX10_in rfl rfl rfl (cMetI_mono hw (fun x13 J15 hw => ?_))
                obtain ⟨S14, rfl, hw⟩ := hw
                refine aIf_eq (tgt := 88) (pc' := 77) dX10_terms_74 (by decide) rfl (fun hc => ?_) (fun hc => ?_)
                · have hw := hw.1 hc
                  refine aBipush (pc' := 90) ⟨by decide, by decide⟩ dX10_terms_88 rfl ?_
                  exact cIret dX10_terms_90 okX10_terms rfl ⟨rfl, _, rfl, _, rfl, hw⟩
                · have hw := hw.2 hc
                  refine aIload (pc' := 79) dX10_terms_77 rfl rfl ?_
                  refine aIconst (pc' := 80) ⟨by decide, by decide⟩ dX10_terms_79 rfl ?_
                  refine aBipush (pc' := 82) ⟨by decide, by decide⟩ dX10_terms_80 rfl ?_
                  refine cSI (pc' := 85) [aI p5, aI 0, aI 9] dX10_terms_82 lX10_124 okX10_in ⟨by decide, by decide⟩ npX10_in rfl rfl rfl (cMetI_mono hw (fun x16 J18 hw => ?_))
                  obtain ⟨S17, rfl, hw⟩ := hw
                  refine aIf_ne (tgt := 91) (pc' := 88) dX10_terms_85 (by decide) rfl (fun hc => ?_) (fun hc => ?_)
                  · have hw := hw.1 hc
                    refine aAload_n (pc' := 92) dX10_terms_91 rfl rfl ?_
                    refine aIload_n (pc' := 93) dX10_terms_92 rfl rfl ?_
                    refine aPutI (pc' := 96) dX10_terms_93 fX10_23 rfl rfl (Or.inl rfl) (lv (by decide)) rfl (cEqI (mS (f := 5) rfl) ?_)
                    refine aAload_n (pc' := 97) dX10_terms_96 rfl rfl ?_
                    refine aIload_n (pc' := 98) dX10_terms_97 rfl rfl ?_
                    refine aPutI (pc' := 101) dX10_terms_98 fX10_27 rfl rfl (Or.inl rfl) (lv (by decide)) rfl (cEqI (mS (f := 6) rfl) ?_)
                    refine aAload_n (pc' := 102) dX10_terms_101 rfl rfl ?_
                    refine aIload_n (pc' := 103) dX10_terms_102 rfl rfl ?_
                    refine aPutI (pc' := 106) dX10_terms_103 fX10_140 rfl rfl (Or.inl rfl) (lv (by decide)) rfl (cEqI (mS (f := 7) rfl) ?_)
                    refine aAload_n (pc' := 107) dX10_terms_106 rfl rfl ?_
                    refine aIload (pc' := 109) dX10_terms_107 rfl rfl ?_
                    refine aPutI (pc' := 112) dX10_terms_109 fX10_30 rfl rfl (Or.inl rfl) (lv (by decide)) rfl (cEqI (mS (f := 8) rfl) ?_)
                    refine aAload_n (pc' := 113) dX10_terms_112 rfl rfl ?_
                    refine aIload (pc' := 115) dX10_terms_113 rfl rfl ?_
                    refine aPutI (pc' := 118) dX10_terms_115 fX10_33 rfl rfl (Or.inl rfl) (lv (by decide)) rfl (cEqI (mS (f := 9) rfl) ?_)
                    refine aAload_n (pc' := 119) dX10_terms_118 rfl rfl ?_
                    refine aIconst (pc' := 120) ⟨by decide, by decide⟩ dX10_terms_119 rfl ?_
                    refine aPutZ (pc' := 123) dX10_terms_120 fX10_143 rfl rfl (Or.inl rfl) (lv (by decide)) (by decide) rfl (cEqI (mS (f := 17) rfl) ?_)
                    refine aIconst (pc' := 124) ⟨by decide, by decide⟩ dX10_terms_123 rfl ?_
                    exact cIret dX10_terms_124 okX10_terms rfl ⟨rfl, _, rfl, _, rfl, hw⟩
                  · have hw := hw.2 hc
                    refine aBipush (pc' := 90) ⟨by decide, by decide⟩ dX10_terms_88 rfl ?_
                    exact cIret dX10_terms_90 okX10_terms rfl ⟨rfl, _, rfl, _, rfl, hw⟩
  · have hw := hw.2 hc
    refine aBipush (pc' := 14) ⟨by decide, by decide⟩ dX10_terms_12 rfl ?_
    exact cIret dX10_terms_14 okX10_terms rfl ⟨rfl, _, rfl, _, rfl, hw⟩
set_option maxRecDepth 100000 in
set_option maxHeartbeats 4000000 in
theorem gX10_ticks {w : aW} {mm : Nat} {C : aIF} {S : aS} {P : aS → Prop} (hw : (-2147483648 ≤ ((S 24 0) + 1) ∧ ((S 24 0) + 1) < 2147483648) ∧ (rRunV w mX10_ticks 12 [some (aO 40 0), some (aI 0)] [] C (sU S 24 0 (((S 24 0) + 1))) (rf mm) P)) : rMetV w mX10_ticks [aO 40 0] C S (rf mm) P := by
  refine cMet_of okX10_ticks (Nat.le_of_ble_eq_true rfl) (fun hos => ?_)
  show cRun w mX10_ticks 0 [some (aO 40 0), none] [] (mem C S) (rf mm) (rqV (rf mm) C P)
  refine aAload_n (pc' := 1) dX10_ticks_0 rfl rfl ?_
  refine aDup (pc' := 2) rfl dX10_ticks_1 rfl ?_
  refine aGetI (pc' := 5) dX10_ticks_2 fX10_203 rfl rfl (lv (by decide)) rfl ?_
  refine aTopEq (y := (S 24 0)) rfl ?_
  refine aIconst (pc' := 6) ⟨by decide, by decide⟩ dX10_ticks_5 rfl ?_
  obtain ⟨h1, hw⟩ := hw
  refine aIadd (pc' := 7) h1.1 h1.2 dX10_ticks_6 rfl ?_
  refine aPutI (pc' := 10) dX10_ticks_7 fX10_203 rfl rfl (Or.inl rfl) (lv (by decide)) rfl (cEqI (mS (f := 24) rfl) ?_)
  refine aIconst (pc' := 11) ⟨by decide, by decide⟩ dX10_ticks_10 rfl ?_
  refine aIstore_n (pc' := 12) dX10_ticks_11 (by decide) rfl (L' := [some (aO 40 0), some (aI 0)]) rfl ?_
  exact hw
set_option maxRecDepth 100000 in
set_option maxHeartbeats 4000000 in
theorem gX10_ticks_12 {w : aW} {mm : Nat} {C : aIF} {S : aS} {l1 : Nat} {P : aS → Prop} (hw : (((S 23 0) ≤ (l1 : Int)) → (0 ≤ (S 24 0) ∧ 0 < (S 8 0)) ∧ (((((S 24 0) % (S 8 0)) ≠ 0) → P S) ∧ ((((S 24 0) % (S 8 0)) = 0) → rMetV w mX10_redeals [aO 40 0] C S (rf mm) (fun S3 => P S3)))) ∧ ((¬ ((S 23 0) ≤ (l1 : Int))) → (l1 < 6) ∧ ((((S 28 l1) ≠ 0) → (((S 28 l1) ≠ 1) → (((S 28 l1) ≠ 2) → (l1 + 1 < 2147483648) ∧ (rRunV w mX10_ticks 12 [some (aO 40 0), some (aI ((((l1 + 1) : Nat) : Int)))] [] C S (rf mm) P)) ∧ (((S 28 l1) = 2) → (-2147483648 ≤ ((S 37 l1) - 1) ∧ ((S 37 l1) - 1) < 2147483648) ∧ (((((S 37 l1) - 1) ≠ 0) → (l1 + 1 < 2147483648) ∧ (rRunV w mX10_ticks 12 [some (aO 40 0), some (aI ((((l1 + 1) : Nat) : Int)))] [] C (sU S 37 l1 (((S 37 l1) - 1))) (rf mm) P)) ∧ ((((S 37 l1) - 1) = 0) → rMetV w mX10_passes [aO 40 0, aI ((l1 : Int))] C (sU S 37 l1 (((S 37 l1) - 1))) (rf mm) (fun S10 => (l1 + 1 < 2147483648) ∧ (rRunV w mX10_ticks 12 [some (aO 40 0), some (aI ((((l1 + 1) : Nat) : Int)))] [] C S10 (rf mm) P)))))) ∧ (((S 28 l1) = 1) → (-2147483648 ≤ ((S 37 l1) - 1) ∧ ((S 37 l1) - 1) < 2147483648) ∧ (((((S 37 l1) - 1) ≠ 0) → (l1 + 1 < 2147483648) ∧ (rRunV w mX10_ticks 12 [some (aO 40 0), some (aI ((((l1 + 1) : Nat) : Int)))] [] C (sU S 37 l1 (((S 37 l1) - 1))) (rf mm) P)) ∧ ((((S 37 l1) - 1) = 0) → (l1 + 1 < 2147483648) ∧ (rRunV w mX10_ticks 12 [some (aO 40 0), some (aI ((((l1 + 1) : Nat) : Int)))] [] C (sU (sU S 37 l1 (((S 37 l1) - 1))) 28 l1 0) (rf mm) P))))) ∧ (((S 28 l1) = 0) → rMetV w mX10_acts [aO 40 0, aI ((l1 : Int))] C S (rf mm) (fun S17 => (l1 + 1 < 2147483648) ∧ (rRunV w mX10_ticks 12 [some (aO 40 0), some (aI ((((l1 + 1) : Nat) : Int)))] [] C S17 (rf mm) P)))))) : rRunV w mX10_ticks 12 [some (aO 40 0), some (aI ((l1 : Int)))] [] C S (rf mm) P := by
  refine aIload_n (pc' := 13) dX10_ticks_12 rfl rfl ?_
  refine aAload_n (pc' := 14) dX10_ticks_13 rfl rfl ?_
  refine aGetI (pc' := 17) dX10_ticks_14 fX10_157 rfl rfl (lv (by decide)) rfl ?_
  refine aTopEq (y := (S 23 0)) rfl ?_
  refine aIcmp_ge (tgt := 116) (pc' := 20) dX10_ticks_17 (by decide) rfl (fun hc => ?_) (fun hc => ?_)
  · have hw := hw.1 hc
    refine aAload_n (pc' := 117) dX10_ticks_116 rfl rfl ?_
    refine aGetI (pc' := 120) dX10_ticks_117 fX10_203 rfl rfl (lv (by decide)) rfl ?_
    refine aTopEq (y := (S 24 0)) rfl ?_
    refine aAload_n (pc' := 121) dX10_ticks_120 rfl rfl ?_
    refine aGetI (pc' := 124) dX10_ticks_121 fX10_30 rfl rfl (lv (by decide)) rfl ?_
    refine aTopEq (y := (S 8 0)) rfl ?_
    obtain ⟨h1, hw⟩ := hw
    refine aIrem (pc' := 125) h1.1 h1.2 dX10_ticks_124 rfl ?_
    refine aIf_ne (tgt := 132) (pc' := 128) dX10_ticks_125 (by decide) rfl (fun hc => ?_) (fun hc => ?_)
    · have hw := hw.1 hc
      exact cVret dX10_ticks_132 okX10_ticks rfl ⟨rfl, rfl, _, rfl, hw⟩
    · have hw := hw.2 hc
      refine aAload_n (pc' := 129) dX10_ticks_128 rfl rfl ?_
      refine cVV (c := 10) (pc' := 132) [] dX10_ticks_129 lX10_256 okX10_redeals ⟨by decide, by decide⟩ npX10_redeals rfl rfl rfl rfl rfl (by decide) rfl (cMetV_mono hw (fun J4 hw => ?_))
      obtain ⟨S3, rfl, hw⟩ := hw
      exact cVret dX10_ticks_132 okX10_ticks rfl ⟨rfl, rfl, _, rfl, hw⟩
  · have hw := hw.2 hc
    refine aAload_n (pc' := 21) dX10_ticks_20 rfl rfl ?_
    refine aGetR (pc' := 24) (q := (68, 0)) dX10_ticks_21 fX10_66 rfl rfl (lv (by decide)) rfl rfl ?_
    refine aIload_n (pc' := 25) dX10_ticks_24 rfl rfl ?_
    obtain ⟨h5, hw⟩ := hw
    refine aIald (pc' := 26) (j := l1) dX10_ticks_25 rfl (lv (by decide)) rfl h5 rfl ?_
    refine aTopEq (y := (S 28 l1)) rfl ?_
    refine aIf_ne (tgt := 37) (pc' := 29) dX10_ticks_26 (by decide) rfl (fun hc => ?_) (fun hc => ?_)
    · have hw := hw.1 hc
      refine aAload_n (pc' := 38) dX10_ticks_37 rfl rfl ?_
      refine aGetR (pc' := 41) (q := (68, 0)) dX10_ticks_38 fX10_66 rfl rfl (lv (by decide)) rfl rfl ?_
      refine aIload_n (pc' := 42) dX10_ticks_41 rfl rfl ?_
      refine aIald (pc' := 43) (j := l1) dX10_ticks_42 rfl (lv (by decide)) rfl h5 rfl ?_
      refine aTopEq (y := (S 28 l1)) rfl ?_
      refine aIconst (pc' := 44) ⟨by decide, by decide⟩ dX10_ticks_43 rfl ?_
      refine aIcmp_ne (tgt := 76) (pc' := 47) dX10_ticks_44 (by decide) rfl (fun hc => ?_) (fun hc => ?_)
      · have hw := hw.1 hc
        refine aAload_n (pc' := 77) dX10_ticks_76 rfl rfl ?_
        refine aGetR (pc' := 80) (q := (68, 0)) dX10_ticks_77 fX10_66 rfl rfl (lv (by decide)) rfl rfl ?_
        refine aIload_n (pc' := 81) dX10_ticks_80 rfl rfl ?_
        refine aIald (pc' := 82) (j := l1) dX10_ticks_81 rfl (lv (by decide)) rfl h5 rfl ?_
        refine aTopEq (y := (S 28 l1)) rfl ?_
        refine aIconst (pc' := 83) ⟨by decide, by decide⟩ dX10_ticks_82 rfl ?_
        refine aIcmp_ne (tgt := 110) (pc' := 86) dX10_ticks_83 (by decide) rfl (fun hc => ?_) (fun hc => ?_)
        · have hw := hw.1 hc
          obtain ⟨h6, hw⟩ := hw
          refine aIinc1 (pc' := 113) dX10_ticks_110 rfl (by decide) h6 rfl (L' := [some (aO 40 0), some (aI ((((l1 + 1) : Nat) : Int)))]) rfl ?_
          refine aGoto (pc' := 12) dX10_ticks_113 (by decide) ?_
          exact hw
        · have hw := hw.2 hc
          refine aAload_n (pc' := 87) dX10_ticks_86 rfl rfl ?_
          refine aGetR (pc' := 90) (q := (77, 0)) dX10_ticks_87 fX10_93 rfl rfl (lv (by decide)) rfl rfl ?_
          refine aIload_n (pc' := 91) dX10_ticks_90 rfl rfl ?_
          refine aDup2 (pc' := 92) rfl rfl dX10_ticks_91 rfl ?_
          refine aIald (pc' := 93) (j := l1) dX10_ticks_92 rfl (lv (by decide)) rfl h5 rfl ?_
          refine aTopEq (y := (S 37 l1)) rfl ?_
          refine aIconst (pc' := 94) ⟨by decide, by decide⟩ dX10_ticks_93 rfl ?_
          obtain ⟨h7, hw⟩ := hw
          refine aIsub (pc' := 95) h7.1 h7.2 dX10_ticks_94 rfl ?_
          refine aIast (pc' := 96) (j := l1) dX10_ticks_95 rfl (lv (by decide)) rfl h5 rfl (cEqI (mA (f := 37) rfl rfl rfl) ?_)
          refine aAload_n (pc' := 97) dX10_ticks_96 rfl rfl ?_
          refine aGetR (pc' := 100) (q := (77, 0)) dX10_ticks_97 fX10_93 rfl rfl (lv (by decide)) rfl rfl ?_
          refine aIload_n (pc' := 101) dX10_ticks_100 rfl rfl ?_
          refine aIald (pc' := 102) (j := l1) dX10_ticks_101 rfl (lv (by decide)) rfl h5 rfl ?_
          refine aTopEq (y := ((sU S 37 l1 (((S 37 l1) - 1))) 37 l1)) rfl ?_
          refine aTopEq sU_s ?_
          refine aIf_ne (tgt := 110) (pc' := 105) dX10_ticks_102 (by decide) rfl (fun hc => ?_) (fun hc => ?_)
          · have hw := hw.1 hc
            obtain ⟨h8, hw⟩ := hw
            refine aIinc1 (pc' := 113) dX10_ticks_110 rfl (by decide) h8 rfl (L' := [some (aO 40 0), some (aI ((((l1 + 1) : Nat) : Int)))]) rfl ?_
            refine aGoto (pc' := 12) dX10_ticks_113 (by decide) ?_
            exact hw
          · have hw := hw.2 hc
            refine aAload_n (pc' := 106) dX10_ticks_105 rfl rfl ?_
            refine aIload_n (pc' := 107) dX10_ticks_106 rfl rfl ?_
            refine cVV (c := 10) (pc' := 110) [aI ((l1 : Int))] dX10_ticks_107 lX10_234 okX10_passes ⟨by decide, by decide⟩ npX10_passes rfl rfl rfl rfl rfl (by decide) rfl (cMetV_mono hw (fun J11 hw => ?_))
            obtain ⟨S10, rfl, hw⟩ := hw
            obtain ⟨h12, hw⟩ := hw
            refine aIinc1 (pc' := 113) dX10_ticks_110 rfl (by decide) h12 rfl (L' := [some (aO 40 0), some (aI ((((l1 + 1) : Nat) : Int)))]) rfl ?_
            refine aGoto (pc' := 12) dX10_ticks_113 (by decide) ?_
            exact hw
      · have hw := hw.2 hc
        refine aAload_n (pc' := 48) dX10_ticks_47 rfl rfl ?_
        refine aGetR (pc' := 51) (q := (77, 0)) dX10_ticks_48 fX10_93 rfl rfl (lv (by decide)) rfl rfl ?_
        refine aIload_n (pc' := 52) dX10_ticks_51 rfl rfl ?_
        refine aDup2 (pc' := 53) rfl rfl dX10_ticks_52 rfl ?_
        refine aIald (pc' := 54) (j := l1) dX10_ticks_53 rfl (lv (by decide)) rfl h5 rfl ?_
        refine aTopEq (y := (S 37 l1)) rfl ?_
        refine aIconst (pc' := 55) ⟨by decide, by decide⟩ dX10_ticks_54 rfl ?_
        obtain ⟨h13, hw⟩ := hw
        refine aIsub (pc' := 56) h13.1 h13.2 dX10_ticks_55 rfl ?_
        refine aIast (pc' := 57) (j := l1) dX10_ticks_56 rfl (lv (by decide)) rfl h5 rfl (cEqI (mA (f := 37) rfl rfl rfl) ?_)
        refine aAload_n (pc' := 58) dX10_ticks_57 rfl rfl ?_
        refine aGetR (pc' := 61) (q := (77, 0)) dX10_ticks_58 fX10_93 rfl rfl (lv (by decide)) rfl rfl ?_
        refine aIload_n (pc' := 62) dX10_ticks_61 rfl rfl ?_
        refine aIald (pc' := 63) (j := l1) dX10_ticks_62 rfl (lv (by decide)) rfl h5 rfl ?_
        refine aTopEq (y := ((sU S 37 l1 (((S 37 l1) - 1))) 37 l1)) rfl ?_
        refine aTopEq sU_s ?_
        refine aIf_ne (tgt := 110) (pc' := 66) dX10_ticks_63 (by decide) rfl (fun hc => ?_) (fun hc => ?_)
        · have hw := hw.1 hc
          obtain ⟨h14, hw⟩ := hw
          refine aIinc1 (pc' := 113) dX10_ticks_110 rfl (by decide) h14 rfl (L' := [some (aO 40 0), some (aI ((((l1 + 1) : Nat) : Int)))]) rfl ?_
          refine aGoto (pc' := 12) dX10_ticks_113 (by decide) ?_
          exact hw
        · have hw := hw.2 hc
          refine aAload_n (pc' := 67) dX10_ticks_66 rfl rfl ?_
          refine aGetR (pc' := 70) (q := (68, 0)) dX10_ticks_67 fX10_66 rfl rfl (lv (by decide)) rfl rfl ?_
          refine aIload_n (pc' := 71) dX10_ticks_70 rfl rfl ?_
          refine aIconst (pc' := 72) ⟨by decide, by decide⟩ dX10_ticks_71 rfl ?_
          refine aIast (pc' := 73) (j := l1) dX10_ticks_72 rfl (lv (by decide)) rfl h5 rfl (cEqI (mA (f := 28) rfl rfl rfl) ?_)
          refine aGoto (pc' := 110) dX10_ticks_73 (by decide) ?_
          obtain ⟨h15, hw⟩ := hw
          refine aIinc1 (pc' := 113) dX10_ticks_110 rfl (by decide) h15 rfl (L' := [some (aO 40 0), some (aI ((((l1 + 1) : Nat) : Int)))]) rfl ?_
          refine aGoto (pc' := 12) dX10_ticks_113 (by decide) ?_
          exact hw
    · have hw := hw.2 hc
      refine aAload_n (pc' := 30) dX10_ticks_29 rfl rfl ?_
      refine aIload_n (pc' := 31) dX10_ticks_30 rfl rfl ?_
      refine cVV (c := 10) (pc' := 34) [aI ((l1 : Int))] dX10_ticks_31 lX10_253 okX10_acts ⟨by decide, by decide⟩ npX10_acts rfl rfl rfl rfl rfl (by decide) rfl (cMetV_mono hw (fun J18 hw => ?_))
      obtain ⟨S17, rfl, hw⟩ := hw
      refine aGoto (pc' := 110) dX10_ticks_34 (by decide) ?_
      obtain ⟨h19, hw⟩ := hw
      refine aIinc1 (pc' := 113) dX10_ticks_110 rfl (by decide) h19 rfl (L' := [some (aO 40 0), some (aI ((((l1 + 1) : Nat) : Int)))]) rfl ?_
      refine aGoto (pc' := 12) dX10_ticks_113 (by decide) ?_
      exact hw
set_option maxRecDepth 100000 in
set_option maxHeartbeats 4000000 in
theorem gX10_time {w : aW} {mm : Nat} {C : aIF} {S : aS} {p1 : Int} {p2 : Int} {P : Int → aS → Prop} (hw : rMetI w mX10_isProgram [aO 40 0, aI p1] C (sU S 0 0 0) (rf mm) (fun x1 S2 => ((x1 = 0) → P (-2) S2) ∧ ((¬ (x1 = 0)) → rMetI w mX10_in [aI p2, aI 0, aI 4096] C S2 (rf mm) (fun x4 S5 => ((x4 = 0) → P (-2) S5) ∧ ((¬ (x4 = 0)) → rMetI w mX10_alone [aO 40 0, aI p1, aI p2] C S5 (rf mm) (fun x7 S8 => P x7 S8)))))) : rMetI w mX10_time [aO 40 0, aI p1, aI p2] C S (rf mm) P := by
  refine cMet_of okX10_time (Nat.le_of_ble_eq_true rfl) (fun hos => ?_)
  show cRun w mX10_time 0 [some (aO 40 0), some (aI p1), some (aI p2)] [] (mem C S) (rf mm) (rqI (rf mm) C P)
  refine aAload_n (pc' := 1) dX10_time_0 rfl rfl ?_
  refine aIconst (pc' := 2) ⟨by decide, by decide⟩ dX10_time_1 rfl ?_
  refine aPutI (pc' := 5) dX10_time_2 fX10_121 rfl rfl (Or.inl rfl) (lv (by decide)) rfl (cEqI (mS (f := 0) rfl) ?_)
  refine aAload_n (pc' := 6) dX10_time_5 rfl rfl ?_
  refine aIload_n (pc' := 7) dX10_time_6 rfl rfl ?_
  refine cVI (c := 10) (pc' := 10) [aI p1] dX10_time_7 lX10_168 okX10_isProgram ⟨by decide, by decide⟩ npX10_isProgram rfl rfl rfl rfl rfl (by decide) rfl (cMetI_mono hw (fun x1 J3 hw => ?_))
  obtain ⟨S2, rfl, hw⟩ := hw
  refine aIf_eq (tgt := 33) (pc' := 13) dX10_time_10 (by decide) rfl (fun hc => ?_) (fun hc => ?_)
  · have hw := hw.1 hc
    refine aBipush (pc' := 35) ⟨by decide, by decide⟩ dX10_time_33 rfl ?_
    exact cIret dX10_time_35 okX10_time rfl ⟨rfl, _, rfl, _, rfl, hw⟩
  · have hw := hw.2 hc
    refine aIload_n (pc' := 14) dX10_time_13 rfl rfl ?_
    refine aIconst (pc' := 15) ⟨by decide, by decide⟩ dX10_time_14 rfl ?_
    refine aSipush (pc' := 18) ⟨by decide, by decide⟩ dX10_time_15 rfl ?_
    refine cSI (pc' := 21) [aI p2, aI 0, aI 4096] dX10_time_18 lX10_124 okX10_in ⟨by decide, by decide⟩ npX10_in rfl rfl rfl (cMetI_mono hw (fun x4 J6 hw => ?_))
    obtain ⟨S5, rfl, hw⟩ := hw
    refine aIf_eq (tgt := 33) (pc' := 24) dX10_time_21 (by decide) rfl (fun hc => ?_) (fun hc => ?_)
    · have hw := hw.1 hc
      refine aBipush (pc' := 35) ⟨by decide, by decide⟩ dX10_time_33 rfl ?_
      exact cIret dX10_time_35 okX10_time rfl ⟨rfl, _, rfl, _, rfl, hw⟩
    · have hw := hw.2 hc
      refine aAload_n (pc' := 25) dX10_time_24 rfl rfl ?_
      refine aIload_n (pc' := 26) dX10_time_25 rfl rfl ?_
      refine aIload_n (pc' := 27) dX10_time_26 rfl rfl ?_
      refine cVI (c := 10) (pc' := 30) [aI p1, aI p2] dX10_time_27 lX10_171 okX10_alone ⟨by decide, by decide⟩ npX10_alone rfl rfl rfl rfl rfl (by decide) rfl (cMetI_mono hw (fun x7 J9 hw => ?_))
      obtain ⟨S8, rfl, hw⟩ := hw
      refine aGoto (pc' := 35) dX10_time_30 (by decide) ?_
      exact cIret dX10_time_35 okX10_time rfl ⟨rfl, _, rfl, _, rfl, hw⟩
set_option maxRecDepth 100000 in
set_option maxHeartbeats 4000000 in
theorem gX10_up {w : aW} {mm : Nat} {C : aIF} {S : aS} {p1 : Int} {P : Int → aS → Prop} (hw : (-2147483648 ≤ (p1 + (S 5 0)) ∧ (p1 + (S 5 0)) < 2147483648) ∧ ((-2147483648 ≤ ((p1 + (S 5 0)) - 1) ∧ ((p1 + (S 5 0)) - 1) < 2147483648) ∧ ((0 ≤ ((p1 + (S 5 0)) - 1) ∧ 0 < (S 5 0)) ∧ ((-2147483648 ≤ ((((p1 + (S 5 0)) - 1) / (S 5 0)) * (S 5 0)) ∧ ((((p1 + (S 5 0)) - 1) / (S 5 0)) * (S 5 0)) < 2147483648) ∧ (P ((((p1 + (S 5 0)) - 1) / (S 5 0)) * (S 5 0)) S))))) : rMetI w mX10_up [aO 40 0, aI p1] C S (rf mm) P := by
  refine cMet_of okX10_up (Nat.le_of_ble_eq_true rfl) (fun hos => ?_)
  show cRun w mX10_up 0 [some (aO 40 0), some (aI p1)] [] (mem C S) (rf mm) (rqI (rf mm) C P)
  refine aIload_n (pc' := 1) dX10_up_0 rfl rfl ?_
  refine aAload_n (pc' := 2) dX10_up_1 rfl rfl ?_
  refine aGetI (pc' := 5) dX10_up_2 fX10_23 rfl rfl (lv (by decide)) rfl ?_
  refine aTopEq (y := (S 5 0)) rfl ?_
  obtain ⟨h1, hw⟩ := hw
  refine aIadd (pc' := 6) h1.1 h1.2 dX10_up_5 rfl ?_
  refine aIconst (pc' := 7) ⟨by decide, by decide⟩ dX10_up_6 rfl ?_
  obtain ⟨h2, hw⟩ := hw
  refine aIsub (pc' := 8) h2.1 h2.2 dX10_up_7 rfl ?_
  refine aAload_n (pc' := 9) dX10_up_8 rfl rfl ?_
  refine aGetI (pc' := 12) dX10_up_9 fX10_23 rfl rfl (lv (by decide)) rfl ?_
  refine aTopEq (y := (S 5 0)) rfl ?_
  obtain ⟨h3, hw⟩ := hw
  refine aIdiv (pc' := 13) h3.1 h3.2 dX10_up_12 rfl ?_
  refine aAload_n (pc' := 14) dX10_up_13 rfl rfl ?_
  refine aGetI (pc' := 17) dX10_up_14 fX10_23 rfl rfl (lv (by decide)) rfl ?_
  refine aTopEq (y := (S 5 0)) rfl ?_
  obtain ⟨h4, hw⟩ := hw
  refine aImul (pc' := 18) h4.1 h4.2 dX10_up_17 rfl ?_
  exact cIret dX10_up_18 okX10_up rfl ⟨rfl, _, rfl, _, rfl, hw⟩
set_option maxRecDepth 100000 in
set_option maxHeartbeats 4000000 in
theorem gX10_write {w : aW} {mm : Nat} {C : aIF} {S : aS} {p1 : Int} {p2 : Int} {p3 : Int} {P : Int → aS → Prop} (hw : rMetI w mX10_isSlot [aI p1] C (sU S 0 0 0) (rf mm) (fun x1 S2 => ((x1 ≠ 0) → (0 ≤ p1 ∧ p1 < ((4 : Nat) : Int)) ∧ (((0 ≤ (S2 1 ((p1).toNat))) → (-2147483648 ≤ ((S2 2 ((p1).toNat)) - 1) ∧ ((S2 2 ((p1).toNat)) - 1) < 2147483648) ∧ (rMetI w mX10_in [aI p2, aI 0, aI (((S2 2 ((p1).toNat)) - 1))] C S2 (rf mm) (fun x6 S7 => ((x6 ≠ 0) → (-2147483648 ≤ (60 * p1) ∧ (60 * p1) < 2147483648) ∧ ((-2147483648 ≤ ((60 * p1) + p2) ∧ ((60 * p1) + p2) < 2147483648) ∧ (rMetL w mX10_cut [aI ((S7 1 ((p1).toNat))), aL p3] C S7 (rf mm) (fun x11 S12 => (0 ≤ ((60 * p1) + p2) ∧ ((60 * p1) + p2) < ((240 : Nat) : Int)) ∧ (P 0 (sU S12 3 ((((60 * p1) + p2)).toNat) x11)))))) ∧ ((x6 = 0) → P (-6) S7)))) ∧ ((¬ (0 ≤ (S2 1 ((p1).toNat)))) → P (-5) S2))) ∧ ((x1 = 0) → P (-2) S2))) : rMetI w mX10_write [aO 40 0, aI p1, aI p2, aL p3] C S (rf mm) P := by
  refine cMet_of okX10_write (Nat.le_of_ble_eq_true rfl) (fun hos => ?_)
  show cRun w mX10_write 0 [some (aO 40 0), some (aI p1), some (aI p2), some (aL p3), none] [] (mem C S) (rf mm) (rqI (rf mm) C P)
  refine aAload_n (pc' := 1) dX10_write_0 rfl rfl ?_
  refine aIconst (pc' := 2) ⟨by decide, by decide⟩ dX10_write_1 rfl ?_
  refine aPutI (pc' := 5) dX10_write_2 fX10_121 rfl rfl (Or.inl rfl) (lv (by decide)) rfl (cEqI (mS (f := 0) rfl) ?_)
  refine aIload_n (pc' := 6) dX10_write_5 rfl rfl ?_
  refine cSI (pc' := 9) [aI p1] dX10_write_6 lX10_128 okX10_isSlot ⟨by decide, by decide⟩ npX10_isSlot rfl rfl rfl (cMetI_mono hw (fun x1 J3 hw => ?_))
  obtain ⟨S2, rfl, hw⟩ := hw
  refine aIf_ne (tgt := 15) (pc' := 12) dX10_write_9 (by decide) rfl (fun hc => ?_) (fun hc => ?_)
  · have hw := hw.1 hc
    refine aAload_n (pc' := 16) dX10_write_15 rfl rfl ?_
    refine aGetR (pc' := 19) (q := (41, 0)) dX10_write_16 fX10_9 rfl rfl (lv (by decide)) rfl rfl ?_
    refine aIload_n (pc' := 20) dX10_write_19 rfl rfl ?_
    obtain ⟨h4, hw⟩ := hw
    refine aIald (pc' := 21) (j := (p1).toNat) dX10_write_20 rfl (lv (by decide)) (tnIx h4).1 (tnIx h4).2 rfl ?_
    refine aTopEq (y := (S2 1 ((p1).toNat))) rfl ?_
    refine aIf_ge (tgt := 27) (pc' := 24) dX10_write_21 (by decide) rfl (fun hc => ?_) (fun hc => ?_)
    · have hw := hw.1 hc
      refine aIload_n (pc' := 28) dX10_write_27 rfl rfl ?_
      refine aIconst (pc' := 29) ⟨by decide, by decide⟩ dX10_write_28 rfl ?_
      refine aAload_n (pc' := 30) dX10_write_29 rfl rfl ?_
      refine aGetR (pc' := 33) (q := (42, 0)) dX10_write_30 fX10_13 rfl rfl (lv (by decide)) rfl rfl ?_
      refine aIload_n (pc' := 34) dX10_write_33 rfl rfl ?_
      refine aIald (pc' := 35) (j := (p1).toNat) dX10_write_34 rfl (lv (by decide)) (tnIx h4).1 (tnIx h4).2 rfl ?_
      refine aTopEq (y := (S2 2 ((p1).toNat))) rfl ?_
      refine aIconst (pc' := 36) ⟨by decide, by decide⟩ dX10_write_35 rfl ?_
      obtain ⟨h5, hw⟩ := hw
      refine aIsub (pc' := 37) h5.1 h5.2 dX10_write_36 rfl ?_
      refine cSI (pc' := 40) [aI p2, aI 0, aI (((S2 2 ((p1).toNat)) - 1))] dX10_write_37 lX10_124 okX10_in ⟨by decide, by decide⟩ npX10_in rfl rfl rfl (cMetI_mono hw (fun x6 J8 hw => ?_))
      obtain ⟨S7, rfl, hw⟩ := hw
      refine aIf_ne (tgt := 46) (pc' := 43) dX10_write_40 (by decide) rfl (fun hc => ?_) (fun hc => ?_)
      · have hw := hw.1 hc
        refine aAload_n (pc' := 47) dX10_write_46 rfl rfl ?_
        refine aGetR (pc' := 50) (q := (43, 0)) dX10_write_47 fX10_16 rfl rfl (lv (by decide)) rfl rfl ?_
        refine aBipush (pc' := 52) ⟨by decide, by decide⟩ dX10_write_50 rfl ?_
        refine aIload_n (pc' := 53) dX10_write_52 rfl rfl ?_
        obtain ⟨h9, hw⟩ := hw
        refine aImul (pc' := 54) h9.1 h9.2 dX10_write_53 rfl ?_
        refine aIload_n (pc' := 55) dX10_write_54 rfl rfl ?_
        obtain ⟨h10, hw⟩ := hw
        refine aIadd (pc' := 56) h10.1 h10.2 dX10_write_55 rfl ?_
        refine aAload_n (pc' := 57) dX10_write_56 rfl rfl ?_
        refine aGetR (pc' := 60) (q := (41, 0)) dX10_write_57 fX10_9 rfl rfl (lv (by decide)) rfl rfl ?_
        refine aIload_n (pc' := 61) dX10_write_60 rfl rfl ?_
        refine aIald (pc' := 62) (j := (p1).toNat) dX10_write_61 rfl (lv (by decide)) (tnIx h4).1 (tnIx h4).2 rfl ?_
        refine aTopEq (y := (S7 1 ((p1).toNat))) rfl ?_
        refine aLload_n (pc' := 63) dX10_write_62 rfl rfl ?_
        refine cSL (pc' := 66) [aI ((S7 1 ((p1).toNat))), aL p3] dX10_write_63 lX10_132 okX10_cut ⟨by decide, by decide⟩ npX10_cut rfl rfl rfl (cMetL_mono hw (fun x11 J13 hw => ?_))
        obtain ⟨S12, rfl, hw⟩ := hw
        obtain ⟨h14, hw⟩ := hw
        refine aLast (pc' := 67) (j := (((60 * p1) + p2)).toNat) dX10_write_66 rfl (lv (by decide)) (tnIx h14).1 (tnIx h14).2 rfl (cEqI (mA (f := 3) rfl rfl rfl) ?_)
        refine aIconst (pc' := 68) ⟨by decide, by decide⟩ dX10_write_67 rfl ?_
        exact cIret dX10_write_68 okX10_write rfl ⟨rfl, _, rfl, _, rfl, hw⟩
      · have hw := hw.2 hc
        refine aBipush (pc' := 45) ⟨by decide, by decide⟩ dX10_write_43 rfl ?_
        exact cIret dX10_write_45 okX10_write rfl ⟨rfl, _, rfl, _, rfl, hw⟩
    · have hw := hw.2 hc
      refine aBipush (pc' := 26) ⟨by decide, by decide⟩ dX10_write_24 rfl ?_
      exact cIret dX10_write_26 okX10_write rfl ⟨rfl, _, rfl, _, rfl, hw⟩
  · have hw := hw.2 hc
    refine aBipush (pc' := 14) ⟨by decide, by decide⟩ dX10_write_12 rfl ?_
    exact cIret dX10_write_14 okX10_write rfl ⟨rfl, _, rfl, _, rfl, hw⟩
