set_option maxRecDepth 100000 in
set_option maxHeartbeats 4000000 in
theorem gX9_begin {w : aW} {mm : Nat} {C : aIF} {S : aS} {P : Int → aIF → Prop} (hw : kMetI w mX0_bySavings [aO 10 0, aO 5 0, aI ((C 1 0 5))] C S (rf mm) (fun x1 C2 => ((x1 = (-1)) → P 0 C2) ∧ ((¬ (x1 = (-1))) → (((C2 1 0 5) ≠ 0) → kMetV w mX7_start [aO 21 0, aI ((C2 1 0 5)), aO 17 0] C2 S (rf mm) (fun C5 => P 1 C5)) ∧ (((C2 1 0 5) = 0) → P 0 C2)))) : kMetI w mX9_begin [aO 1 0] C S (rf mm) P := by
  refine cMet_of okX9_begin (Nat.le_of_ble_eq_true rfl) (fun hos => ?_)
  show cRun w mX9_begin 0 [some (aO 1 0), none] [] (mem C S) (rf mm) (kqI (rf mm) S P)
  refine aAload_n (pc' := 1) dX9_begin_0 rfl rfl ?_
  refine aGetR (pc' := 4) (q := (10, 0)) dX9_begin_1 fX9_35 rfl rfl (lv (by decide)) rfl rfl ?_
  refine aAload_n (pc' := 5) dX9_begin_4 rfl rfl ?_
  refine aGetR (pc' := 8) (q := (5, 0)) dX9_begin_5 fX9_18 rfl rfl (lv (by decide)) rfl rfl ?_
  refine aAload_n (pc' := 9) dX9_begin_8 rfl rfl ?_
  refine aGetI (pc' := 12) dX9_begin_9 fX9_114 rfl rfl (lv (by decide)) rfl ?_
  refine aTopEq (y := (C 1 0 5)) rfl ?_
  refine cVI (c := 0) (pc' := 15) [aO 5 0, aI ((C 1 0 5))] dX9_begin_12 lX9_148 okX0_bySavings ⟨by decide, by decide⟩ npX0_bySavings rfl rfl rfl rfl rfl (by decide) rfl (cMetI_mono hw (fun x1 J3 hw => ?_))
  obtain ⟨C2, rfl, hw⟩ := hw
  refine aIstore_n (pc' := 16) dX9_begin_15 (by decide) rfl (L' := [some (aO 1 0), some (aI x1)]) rfl ?_
  refine aIload_n (pc' := 17) dX9_begin_16 rfl rfl ?_
  refine aIconst (pc' := 18) ⟨by decide, by decide⟩ dX9_begin_17 rfl ?_
  refine aIcmp_eq (tgt := 28) (pc' := 21) dX9_begin_18 (by decide) rfl (fun hc => ?_) (fun hc => ?_)
  · have hw := hw.1 hc
    refine aIconst (pc' := 29) ⟨by decide, by decide⟩ dX9_begin_28 rfl ?_
    exact cZret dX9_begin_29 okX9_begin rfl (by decide) ⟨rfl, _, rfl, _, rfl, hw⟩
  · have hw := hw.2 hc
    refine aAload_n (pc' := 22) dX9_begin_21 rfl rfl ?_
    refine aGetI (pc' := 25) dX9_begin_22 fX9_114 rfl rfl (lv (by decide)) rfl ?_
    refine aTopEq (y := (C2 1 0 5)) rfl ?_
    refine aIf_ne (tgt := 30) (pc' := 28) dX9_begin_25 (by decide) rfl (fun hc => ?_) (fun hc => ?_)
    · have hw := hw.1 hc
      refine aAload_n (pc' := 31) dX9_begin_30 rfl rfl ?_
      refine aGetR (pc' := 34) (q := (21, 0)) dX9_begin_31 fX9_44 rfl rfl (lv (by decide)) rfl rfl ?_
      refine aAload_n (pc' := 35) dX9_begin_34 rfl rfl ?_
      refine aGetI (pc' := 38) dX9_begin_35 fX9_114 rfl rfl (lv (by decide)) rfl ?_
      refine aTopEq (y := (C2 1 0 5)) rfl ?_
      refine aAload_n (pc' := 39) dX9_begin_38 rfl rfl ?_
      refine aGetR (pc' := 42) (q := (10, 0)) dX9_begin_39 fX9_35 rfl rfl (lv (by decide)) rfl rfl ?_
      refine aGetR (pc' := 45) (q := (17, 0)) dX9_begin_42 fX9_155 rfl rfl (lv (by decide)) rfl rfl ?_
      refine cVV (c := 7) (pc' := 48) [aI ((C2 1 0 5)), aO 17 0] dX9_begin_45 lX9_159 okX7_start ⟨by decide, by decide⟩ npX7_start rfl rfl rfl rfl rfl (by decide) rfl (cMetV_mono hw (fun J6 hw => ?_))
      obtain ⟨C5, rfl, hw⟩ := hw
      refine aIconst (pc' := 49) ⟨by decide, by decide⟩ dX9_begin_48 rfl ?_
      exact cZret dX9_begin_49 okX9_begin rfl (by decide) ⟨rfl, _, rfl, _, rfl, hw⟩
    · have hw := hw.2 hc
      refine aIconst (pc' := 29) ⟨by decide, by decide⟩ dX9_begin_28 rfl ?_
      exact cZret dX9_begin_29 okX9_begin rfl (by decide) ⟨rfl, _, rfl, _, rfl, hw⟩
set_option maxRecDepth 100000 in
set_option maxHeartbeats 4000000 in
theorem gX9_best {w : aW} {mm : Nat} {C : aIF} {S : aS} {P : Int → aIF → Prop} (hw : kMetI w mX0_atBest [aO 10 0, aO 5 0, aI ((C 1 0 5))] C S (rf mm) (fun x1 C2 => P x1 C2)) : kMetI w mX9_best [aO 1 0] C S (rf mm) P := by
  refine cMet_of okX9_best (Nat.le_of_ble_eq_true rfl) (fun hos => ?_)
  show cRun w mX9_best 0 [some (aO 1 0)] [] (mem C S) (rf mm) (kqI (rf mm) S P)
  refine aAload_n (pc' := 1) dX9_best_0 rfl rfl ?_
  refine aGetR (pc' := 4) (q := (10, 0)) dX9_best_1 fX9_35 rfl rfl (lv (by decide)) rfl rfl ?_
  refine aAload_n (pc' := 5) dX9_best_4 rfl rfl ?_
  refine aGetR (pc' := 8) (q := (5, 0)) dX9_best_5 fX9_18 rfl rfl (lv (by decide)) rfl rfl ?_
  refine aAload_n (pc' := 9) dX9_best_8 rfl rfl ?_
  refine aGetI (pc' := 12) dX9_best_9 fX9_114 rfl rfl (lv (by decide)) rfl ?_
  refine aTopEq (y := (C 1 0 5)) rfl ?_
  refine cVI (c := 0) (pc' := 15) [aO 5 0, aI ((C 1 0 5))] dX9_best_12 lX9_152 okX0_atBest ⟨by decide, by decide⟩ npX0_atBest rfl rfl rfl rfl rfl (by decide) rfl (cMetI_mono hw (fun x1 J3 hw => ?_))
  obtain ⟨C2, rfl, hw⟩ := hw
  exact cIret dX9_best_15 okX9_best rfl ⟨rfl, _, rfl, _, rfl, hw⟩
set_option maxRecDepth 100000 in
set_option maxHeartbeats 4000000 in
theorem gX9_clear {w : aW} {mm : Nat} {C : aIF} {S : aS} {P : Int → aIF → Prop} (hw : P (C 1 0 5) (uI (uI (uI (uI C 1 0 5 0) 10 0 4 0) 21 0 4 0) 21 0 3 0)) : kMetI w mX9_clear [aO 1 0] C S (rf mm) P := by
  refine cMet_of okX9_clear (Nat.le_of_ble_eq_true rfl) (fun hos => ?_)
  show cRun w mX9_clear 0 [some (aO 1 0), none] [] (mem C S) (rf mm) (kqI (rf mm) S P)
  refine aAload_n (pc' := 1) dX9_clear_0 rfl rfl ?_
  refine aGetI (pc' := 4) dX9_clear_1 fX9_114 rfl rfl (lv (by decide)) rfl ?_
  refine aTopEq (y := (C 1 0 5)) rfl ?_
  refine aIstore_n (pc' := 5) dX9_clear_4 (by decide) rfl (L' := [some (aO 1 0), some (aI ((C 1 0 5)))]) rfl ?_
  refine aAload_n (pc' := 6) dX9_clear_5 rfl rfl ?_
  refine aIconst (pc' := 7) ⟨by decide, by decide⟩ dX9_clear_6 rfl ?_
  refine aPutI (pc' := 10) dX9_clear_7 fX9_114 rfl rfl (Or.inl rfl) (lv (by decide)) rfl (cEqI (mK rfl) ?_)
  refine aAload_n (pc' := 11) dX9_clear_10 rfl rfl ?_
  refine aGetR (pc' := 14) (q := (10, 0)) dX9_clear_11 fX9_35 rfl rfl (lv (by decide)) rfl rfl ?_
  refine aIconst (pc' := 15) ⟨by decide, by decide⟩ dX9_clear_14 rfl ?_
  refine aPutZ (pc' := 18) dX9_clear_15 fX9_111 rfl rfl (Or.inl rfl) (lv (by decide)) (by decide) rfl (cEqI (mK rfl) ?_)
  refine aAload_n (pc' := 19) dX9_clear_18 rfl rfl ?_
  refine aGetR (pc' := 22) (q := (21, 0)) dX9_clear_19 fX9_44 rfl rfl (lv (by decide)) rfl rfl ?_
  refine aIconst (pc' := 23) ⟨by decide, by decide⟩ dX9_clear_22 rfl ?_
  refine aPutZ (pc' := 26) dX9_clear_23 fX9_88 rfl rfl (Or.inl rfl) (lv (by decide)) (by decide) rfl (cEqI (mK rfl) ?_)
  refine aAload_n (pc' := 27) dX9_clear_26 rfl rfl ?_
  refine aGetR (pc' := 30) (q := (21, 0)) dX9_clear_27 fX9_44 rfl rfl (lv (by decide)) rfl rfl ?_
  refine aIconst (pc' := 31) ⟨by decide, by decide⟩ dX9_clear_30 rfl ?_
  refine aPutI (pc' := 34) dX9_clear_31 fX9_127 rfl rfl (Or.inl rfl) (lv (by decide)) rfl (cEqI (mK rfl) ?_)
  refine aIload_n (pc' := 35) dX9_clear_34 rfl rfl ?_
  exact cIret dX9_clear_35 okX9_clear rfl ⟨rfl, _, rfl, _, rfl, hw⟩
set_option maxRecDepth 100000 in
set_option maxHeartbeats 4000000 in
theorem gX9_count {w : aW} {mm : Nat} {C : aIF} {S : aS} {p1 : Int} {P : Int → aIF → Prop} (hw : ((p1 = 0) → P (C 1 0 5) C) ∧ ((p1 = 1) → P (C 9 0 0) C) ∧ ((p1 = 2) → P (C 9 0 1) C) ∧ ((p1 = 3) → P (C 9 0 2) C) ∧ ((p1 = 4) → P (C 9 0 3) C) ∧ ((p1 = 5) → P (C 9 0 4) C) ∧ ((p1 = 6) → (((C 21 0 4) = 0) → P 0 C) ∧ ((¬ ((C 21 0 4) = 0)) → P 1 C)) ∧ ((p1 = 7) → P (C 21 0 5) C) ∧ ((p1 = 8) → P (C 21 0 6) C) ∧ ((p1 = 9) → kMetI w mX4_kept [aO 22 0] C S (rf mm) (fun x1 C2 => P x1 C2)) ∧ ((p1 = 10) → P (C 22 0 4) C) ∧ ((p1 = 11) → kMetI w mX9_rowsThere [aO 1 0] C S (rf mm) (fun x4 C5 => P x4 C5)) ∧ ((p1 < 0 ∨ 11 < p1) → P (-1) C)) : kMetI w mX9_count [aO 1 0, aI p1] C S (rf mm) P := by
  refine cMet_of okX9_count (Nat.le_of_ble_eq_true rfl) (fun hos => ?_)
  show cRun w mX9_count 0 [some (aO 1 0), some (aI p1)] [] (mem C S) (rf mm) (kqI (rf mm) S P)
  refine aIload_n (pc' := 1) dX9_count_0 rfl rfl ?_
  rcases (show p1 = 0 ∨ p1 = 1 ∨ p1 = 2 ∨ p1 = 3 ∨ p1 = 4 ∨ p1 = 5 ∨ p1 = 6 ∨ p1 = 7 ∨ p1 = 8 ∨ p1 = 9 ∨ p1 = 10 ∨ p1 = 11 ∨ (p1 < 0 ∨ 11 < p1) by omega) with hc | hc | hc | hc | hc | hc | hc | hc | hc | hc | hc | hc | hc
  · have hw := hw.1 hc
    refine aTswIn (tgt := 64) dX9_count_1 (by omega) (by omega) (by rw [hc]; rfl) (by decide) ?_
    refine aAload_n (pc' := 65) dX9_count_64 rfl rfl ?_
    refine aGetI (pc' := 68) dX9_count_65 fX9_114 rfl rfl (lv (by decide)) rfl ?_
    refine aTopEq (y := (C 1 0 5)) rfl ?_
    exact cIret dX9_count_68 okX9_count rfl ⟨rfl, _, rfl, _, rfl, hw⟩
  · have hw := hw.2.1 hc
    refine aTswIn (tgt := 69) dX9_count_1 (by omega) (by omega) (by rw [hc]; rfl) (by decide) ?_
    refine aAload_n (pc' := 70) dX9_count_69 rfl rfl ?_
    refine aGetR (pc' := 73) (q := (9, 0)) dX9_count_70 fX9_26 rfl rfl (lv (by decide)) rfl rfl ?_
    refine aGetI (pc' := 76) dX9_count_73 fX9_96 rfl rfl (lv (by decide)) rfl ?_
    refine aTopEq (y := (C 9 0 0)) rfl ?_
    exact cIret dX9_count_76 okX9_count rfl ⟨rfl, _, rfl, _, rfl, hw⟩
  · have hw := hw.2.2.1 hc
    refine aTswIn (tgt := 77) dX9_count_1 (by omega) (by omega) (by rw [hc]; rfl) (by decide) ?_
    refine aAload_n (pc' := 78) dX9_count_77 rfl rfl ?_
    refine aGetR (pc' := 81) (q := (9, 0)) dX9_count_78 fX9_26 rfl rfl (lv (by decide)) rfl rfl ?_
    refine aGetI (pc' := 84) dX9_count_81 fX9_99 rfl rfl (lv (by decide)) rfl ?_
    refine aTopEq (y := (C 9 0 1)) rfl ?_
    exact cIret dX9_count_84 okX9_count rfl ⟨rfl, _, rfl, _, rfl, hw⟩
  · have hw := hw.2.2.2.1 hc
    refine aTswIn (tgt := 85) dX9_count_1 (by omega) (by omega) (by rw [hc]; rfl) (by decide) ?_
    refine aAload_n (pc' := 86) dX9_count_85 rfl rfl ?_
    refine aGetR (pc' := 89) (q := (9, 0)) dX9_count_86 fX9_26 rfl rfl (lv (by decide)) rfl rfl ?_
    refine aGetI (pc' := 92) dX9_count_89 fX9_102 rfl rfl (lv (by decide)) rfl ?_
    refine aTopEq (y := (C 9 0 2)) rfl ?_
    exact cIret dX9_count_92 okX9_count rfl ⟨rfl, _, rfl, _, rfl, hw⟩
  · have hw := hw.2.2.2.2.1 hc
    refine aTswIn (tgt := 93) dX9_count_1 (by omega) (by omega) (by rw [hc]; rfl) (by decide) ?_
    refine aAload_n (pc' := 94) dX9_count_93 rfl rfl ?_
    refine aGetR (pc' := 97) (q := (9, 0)) dX9_count_94 fX9_26 rfl rfl (lv (by decide)) rfl rfl ?_
    refine aGetI (pc' := 100) dX9_count_97 fX9_105 rfl rfl (lv (by decide)) rfl ?_
    refine aTopEq (y := (C 9 0 3)) rfl ?_
    exact cIret dX9_count_100 okX9_count rfl ⟨rfl, _, rfl, _, rfl, hw⟩
  · have hw := hw.2.2.2.2.2.1 hc
    refine aTswIn (tgt := 101) dX9_count_1 (by omega) (by omega) (by rw [hc]; rfl) (by decide) ?_
    refine aAload_n (pc' := 102) dX9_count_101 rfl rfl ?_
    refine aGetR (pc' := 105) (q := (9, 0)) dX9_count_102 fX9_26 rfl rfl (lv (by decide)) rfl rfl ?_
    refine aGetI (pc' := 108) dX9_count_105 fX9_108 rfl rfl (lv (by decide)) rfl ?_
    refine aTopEq (y := (C 9 0 4)) rfl ?_
    exact cIret dX9_count_108 okX9_count rfl ⟨rfl, _, rfl, _, rfl, hw⟩
  · have hw := hw.2.2.2.2.2.2.1 hc
    refine aTswIn (tgt := 109) dX9_count_1 (by omega) (by omega) (by rw [hc]; rfl) (by decide) ?_
    refine aAload_n (pc' := 110) dX9_count_109 rfl rfl ?_
    refine aGetR (pc' := 113) (q := (21, 0)) dX9_count_110 fX9_44 rfl rfl (lv (by decide)) rfl rfl ?_
    refine aGetI (pc' := 116) dX9_count_113 fX9_88 rfl rfl (lv (by decide)) rfl ?_
    refine aTopEq (y := (C 21 0 4)) rfl ?_
    refine aIf_eq (tgt := 123) (pc' := 119) dX9_count_116 (by decide) rfl (fun hc => ?_) (fun hc => ?_)
    · have hw := hw.1 hc
      refine aIconst (pc' := 124) ⟨by decide, by decide⟩ dX9_count_123 rfl ?_
      exact cIret dX9_count_124 okX9_count rfl ⟨rfl, _, rfl, _, rfl, hw⟩
    · have hw := hw.2 hc
      refine aIconst (pc' := 120) ⟨by decide, by decide⟩ dX9_count_119 rfl ?_
      refine aGoto (pc' := 124) dX9_count_120 (by decide) ?_
      exact cIret dX9_count_124 okX9_count rfl ⟨rfl, _, rfl, _, rfl, hw⟩
  · have hw := hw.2.2.2.2.2.2.2.1 hc
    refine aTswIn (tgt := 125) dX9_count_1 (by omega) (by omega) (by rw [hc]; rfl) (by decide) ?_
    refine aAload_n (pc' := 126) dX9_count_125 rfl rfl ?_
    refine aGetR (pc' := 129) (q := (21, 0)) dX9_count_126 fX9_44 rfl rfl (lv (by decide)) rfl rfl ?_
    refine aGetI (pc' := 132) dX9_count_129 fX9_169 rfl rfl (lv (by decide)) rfl ?_
    refine aTopEq (y := (C 21 0 5)) rfl ?_
    exact cIret dX9_count_132 okX9_count rfl ⟨rfl, _, rfl, _, rfl, hw⟩
  · have hw := hw.2.2.2.2.2.2.2.2.1 hc
    refine aTswIn (tgt := 133) dX9_count_1 (by omega) (by omega) (by rw [hc]; rfl) (by decide) ?_
    refine aAload_n (pc' := 134) dX9_count_133 rfl rfl ?_
    refine aGetR (pc' := 137) (q := (21, 0)) dX9_count_134 fX9_44 rfl rfl (lv (by decide)) rfl rfl ?_
    refine aGetI (pc' := 140) dX9_count_137 fX9_182 rfl rfl (lv (by decide)) rfl ?_
    refine aTopEq (y := (C 21 0 6)) rfl ?_
    exact cIret dX9_count_140 okX9_count rfl ⟨rfl, _, rfl, _, rfl, hw⟩
  · have hw := hw.2.2.2.2.2.2.2.2.2.1 hc
    refine aTswIn (tgt := 141) dX9_count_1 (by omega) (by omega) (by rw [hc]; rfl) (by decide) ?_
    refine aAload_n (pc' := 142) dX9_count_141 rfl rfl ?_
    refine aGetR (pc' := 145) (q := (21, 0)) dX9_count_142 fX9_44 rfl rfl (lv (by decide)) rfl rfl ?_
    refine aGetR (pc' := 148) (q := (22, 0)) dX9_count_145 fX9_185 rfl rfl (lv (by decide)) rfl rfl ?_
    refine cVI (c := 4) (pc' := 151) [] dX9_count_148 lX9_189 okX4_kept ⟨by decide, by decide⟩ npX4_kept rfl rfl rfl rfl rfl (by decide) rfl (cMetI_mono hw (fun x1 J3 hw => ?_))
    obtain ⟨C2, rfl, hw⟩ := hw
    exact cIret dX9_count_151 okX9_count rfl ⟨rfl, _, rfl, _, rfl, hw⟩
  · have hw := hw.2.2.2.2.2.2.2.2.2.2.1 hc
    refine aTswIn (tgt := 152) dX9_count_1 (by omega) (by omega) (by rw [hc]; rfl) (by decide) ?_
    refine aAload_n (pc' := 153) dX9_count_152 rfl rfl ?_
    refine aGetR (pc' := 156) (q := (21, 0)) dX9_count_153 fX9_44 rfl rfl (lv (by decide)) rfl rfl ?_
    refine aGetR (pc' := 159) (q := (22, 0)) dX9_count_156 fX9_185 rfl rfl (lv (by decide)) rfl rfl ?_
    refine aGetI (pc' := 162) dX9_count_159 fX9_194 rfl rfl (lv (by decide)) rfl ?_
    refine aTopEq (y := (C 22 0 4)) rfl ?_
    exact cIret dX9_count_162 okX9_count rfl ⟨rfl, _, rfl, _, rfl, hw⟩
  · have hw := hw.2.2.2.2.2.2.2.2.2.2.2.1 hc
    refine aTswIn (tgt := 163) dX9_count_1 (by omega) (by omega) (by rw [hc]; rfl) (by decide) ?_
    refine aAload_n (pc' := 164) dX9_count_163 rfl rfl ?_
    refine cVI (c := 9) (pc' := 167) [] dX9_count_164 lX9_197 okX9_rowsThere ⟨by decide, by decide⟩ npX9_rowsThere rfl rfl rfl rfl rfl (by decide) rfl (cMetI_mono hw (fun x4 J6 hw => ?_))
    obtain ⟨C5, rfl, hw⟩ := hw
    exact cIret dX9_count_167 okX9_count rfl ⟨rfl, _, rfl, _, rfl, hw⟩
  · have hw := hw.2.2.2.2.2.2.2.2.2.2.2.2 hc
    refine aTswOut (tgt := 168) dX9_count_1 hc (by decide) ?_
    refine aIconst (pc' := 169) ⟨by decide, by decide⟩ dX9_count_168 rfl ?_
    exact cIret dX9_count_169 okX9_count rfl ⟨rfl, _, rfl, _, rfl, hw⟩
set_option maxRecDepth 100000 in
set_option maxHeartbeats 4000000 in
theorem gX9_deal {w : aW} {mm : Nat} {C : aIF} {S : aS} {P : Int → aIF → Prop} (hw : kMetI w mX0_bySavings [aO 10 0, aO 5 0, aI ((C 1 0 5))] C S (rf mm) (fun x1 C2 => P x1 C2)) : kMetI w mX9_deal [aO 1 0] C S (rf mm) P := by
  refine cMet_of okX9_deal (Nat.le_of_ble_eq_true rfl) (fun hos => ?_)
  show cRun w mX9_deal 0 [some (aO 1 0)] [] (mem C S) (rf mm) (kqI (rf mm) S P)
  refine aAload_n (pc' := 1) dX9_deal_0 rfl rfl ?_
  refine aGetR (pc' := 4) (q := (10, 0)) dX9_deal_1 fX9_35 rfl rfl (lv (by decide)) rfl rfl ?_
  refine aAload_n (pc' := 5) dX9_deal_4 rfl rfl ?_
  refine aGetR (pc' := 8) (q := (5, 0)) dX9_deal_5 fX9_18 rfl rfl (lv (by decide)) rfl rfl ?_
  refine aAload_n (pc' := 9) dX9_deal_8 rfl rfl ?_
  refine aGetI (pc' := 12) dX9_deal_9 fX9_114 rfl rfl (lv (by decide)) rfl ?_
  refine aTopEq (y := (C 1 0 5)) rfl ?_
  refine cVI (c := 0) (pc' := 15) [aO 5 0, aI ((C 1 0 5))] dX9_deal_12 lX9_148 okX0_bySavings ⟨by decide, by decide⟩ npX0_bySavings rfl rfl rfl rfl rfl (by decide) rfl (cMetI_mono hw (fun x1 J3 hw => ?_))
  obtain ⟨C2, rfl, hw⟩ := hw
  exact cIret dX9_deal_15 okX9_deal rfl ⟨rfl, _, rfl, _, rfl, hw⟩
set_option maxRecDepth 100000 in
set_option maxHeartbeats 4000000 in
theorem gX9_falls {w : aW} {mm : Nat} {C : aIF} {S : aS} {p1 : Int} {P : Int → aIF → Prop} (hw : kMetI w mX9_isProgram [aO 1 0, aI p1] C S (rf mm) (fun x1 C2 => ((x1 ≠ 0) → (0 ≤ p1 ∧ p1 < ((6 : Nat) : Int)) ∧ (kMetI w mX0_needInSteps [aO 10 0, aO 6 ((p1).toNat)] C2 S (rf mm) (fun x5 C6 => ((x5 ≠ (-1)) → kMetI w mX5_allSteps [aO 9 0] C6 S (rf mm) (fun x8 C9 => kMetI w mX1_fallsEverSlower [aO 6 ((p1).toNat), aI x5, aI x8] C9 S (rf mm) (fun x11 C12 => ((x11 = 0) → P 0 C12) ∧ ((¬ (x11 = 0)) → P 1 C12)))) ∧ ((x5 = (-1)) → P (-1) C6)))) ∧ ((x1 = 0) → P (-2) C2))) : kMetI w mX9_falls [aO 1 0, aI p1] C S (rf mm) P := by
  refine cMet_of okX9_falls (Nat.le_of_ble_eq_true rfl) (fun hos => ?_)
  show cRun w mX9_falls 0 [some (aO 1 0), some (aI p1), none, none] [] (mem C S) (rf mm) (kqI (rf mm) S P)
  refine aAload_n (pc' := 1) dX9_falls_0 rfl rfl ?_
  refine aIload_n (pc' := 2) dX9_falls_1 rfl rfl ?_
  refine cVI (c := 9) (pc' := 5) [aI p1] dX9_falls_2 lX9_130 okX9_isProgram ⟨by decide, by decide⟩ npX9_isProgram rfl rfl rfl rfl rfl (by decide) rfl (cMetI_mono hw (fun x1 J3 hw => ?_))
  obtain ⟨C2, rfl, hw⟩ := hw
  refine aIf_ne (tgt := 11) (pc' := 8) dX9_falls_5 (by decide) rfl (fun hc => ?_) (fun hc => ?_)
  · have hw := hw.1 hc
    refine aAload_n (pc' := 12) dX9_falls_11 rfl rfl ?_
    refine aGetR (pc' := 15) (q := (5, 0)) dX9_falls_12 fX9_18 rfl rfl (lv (by decide)) rfl rfl ?_
    refine aIload_n (pc' := 16) dX9_falls_15 rfl rfl ?_
    obtain ⟨h4, hw⟩ := hw
    refine aAald (pc' := 17) (j := (p1).toNat) (q := (6, (p1).toNat)) dX9_falls_16 (t := 4) rfl ⟨by decide, by decide⟩ (lv (by decide)) (tnIx h4).1 (tnIx h4).2 rfl rfl ?_
    refine aAstore_n (pc' := 18) dX9_falls_17 (by decide) rfl (L' := [some (aO 1 0), some (aI p1), some (aO 6 ((p1).toNat)), none]) rfl ?_
    refine aAload_n (pc' := 19) dX9_falls_18 rfl rfl ?_
    refine aGetR (pc' := 22) (q := (10, 0)) dX9_falls_19 fX9_35 rfl rfl (lv (by decide)) rfl rfl ?_
    refine aAload_n (pc' := 23) dX9_falls_22 rfl rfl ?_
    refine cVI (c := 0) (pc' := 26) [aO 6 ((p1).toNat)] dX9_falls_23 lX9_137 okX0_needInSteps ⟨by decide, by decide⟩ npX0_needInSteps rfl rfl rfl rfl rfl (by decide) rfl (cMetI_mono hw (fun x5 J7 hw => ?_))
    obtain ⟨C6, rfl, hw⟩ := hw
    refine aIstore_n (pc' := 27) dX9_falls_26 (by decide) rfl (L' := [some (aO 1 0), some (aI p1), some (aO 6 ((p1).toNat)), some (aI x5)]) rfl ?_
    refine aIload_n (pc' := 28) dX9_falls_27 rfl rfl ?_
    refine aIconst (pc' := 29) ⟨by decide, by decide⟩ dX9_falls_28 rfl ?_
    refine aIcmp_ne (tgt := 34) (pc' := 32) dX9_falls_29 (by decide) rfl (fun hc => ?_) (fun hc => ?_)
    · have hw := hw.1 hc
      refine aAload_n (pc' := 35) dX9_falls_34 rfl rfl ?_
      refine aIload_n (pc' := 36) dX9_falls_35 rfl rfl ?_
      refine aAload_n (pc' := 37) dX9_falls_36 rfl rfl ?_
      refine aGetR (pc' := 40) (q := (9, 0)) dX9_falls_37 fX9_26 rfl rfl (lv (by decide)) rfl rfl ?_
      refine cVI (c := 5) (pc' := 43) [] dX9_falls_40 lX9_141 okX5_allSteps ⟨by decide, by decide⟩ npX5_allSteps rfl rfl rfl rfl rfl (by decide) rfl (cMetI_mono hw (fun x8 J10 hw => ?_))
      obtain ⟨C9, rfl, hw⟩ := hw
      refine cVI (c := 1) (pc' := 46) [aI x5, aI x8] dX9_falls_43 lX9_145 okX1_fallsEverSlower ⟨by decide, by decide⟩ npX1_fallsEverSlower rfl rfl rfl rfl rfl (tnIx h4).2 rfl (cMetI_mono hw (fun x11 J13 hw => ?_))
      obtain ⟨C12, rfl, hw⟩ := hw
      refine aIf_eq (tgt := 53) (pc' := 49) dX9_falls_46 (by decide) rfl (fun hc => ?_) (fun hc => ?_)
      · have hw := hw.1 hc
        refine aIconst (pc' := 54) ⟨by decide, by decide⟩ dX9_falls_53 rfl ?_
        exact cIret dX9_falls_54 okX9_falls rfl ⟨rfl, _, rfl, _, rfl, hw⟩
      · have hw := hw.2 hc
        refine aIconst (pc' := 50) ⟨by decide, by decide⟩ dX9_falls_49 rfl ?_
        refine aGoto (pc' := 54) dX9_falls_50 (by decide) ?_
        exact cIret dX9_falls_54 okX9_falls rfl ⟨rfl, _, rfl, _, rfl, hw⟩
    · have hw := hw.2 hc
      refine aIconst (pc' := 33) ⟨by decide, by decide⟩ dX9_falls_32 rfl ?_
      exact cIret dX9_falls_33 okX9_falls rfl ⟨rfl, _, rfl, _, rfl, hw⟩
  · have hw := hw.2 hc
    refine aBipush (pc' := 10) ⟨by decide, by decide⟩ dX9_falls_8 rfl ?_
    exact cIret dX9_falls_10 okX9_falls rfl ⟨rfl, _, rfl, _, rfl, hw⟩
set_option maxRecDepth 100000 in
set_option maxHeartbeats 4000000 in
theorem gX9_isProgram {w : aW} {mm : Nat} {C : aIF} {S : aS} {p1 : Int} {P : Int → aIF → Prop} (hw : ((p1 < 0) → P 0 C) ∧ ((¬ (p1 < 0)) → (((C 1 0 5) ≤ p1) → P 0 C) ∧ ((¬ ((C 1 0 5) ≤ p1)) → P 1 C))) : kMetI w mX9_isProgram [aO 1 0, aI p1] C S (rf mm) P := by
  refine cMet_of okX9_isProgram (Nat.le_of_ble_eq_true rfl) (fun hos => ?_)
  show cRun w mX9_isProgram 0 [some (aO 1 0), some (aI p1)] [] (mem C S) (rf mm) (kqI (rf mm) S P)
  refine aIload_n (pc' := 1) dX9_isProgram_0 rfl rfl ?_
  refine aIf_lt (tgt := 16) (pc' := 4) dX9_isProgram_1 (by decide) rfl (fun hc => ?_) (fun hc => ?_)
  · have hw := hw.1 hc
    refine aIconst (pc' := 17) ⟨by decide, by decide⟩ dX9_isProgram_16 rfl ?_
    exact cZret dX9_isProgram_17 okX9_isProgram rfl (by decide) ⟨rfl, _, rfl, _, rfl, hw⟩
  · have hw := hw.2 hc
    refine aIload_n (pc' := 5) dX9_isProgram_4 rfl rfl ?_
    refine aAload_n (pc' := 6) dX9_isProgram_5 rfl rfl ?_
    refine aGetI (pc' := 9) dX9_isProgram_6 fX9_114 rfl rfl (lv (by decide)) rfl ?_
    refine aTopEq (y := (C 1 0 5)) rfl ?_
    refine aIcmp_ge (tgt := 16) (pc' := 12) dX9_isProgram_9 (by decide) rfl (fun hc => ?_) (fun hc => ?_)
    · have hw := hw.1 hc
      refine aIconst (pc' := 17) ⟨by decide, by decide⟩ dX9_isProgram_16 rfl ?_
      exact cZret dX9_isProgram_17 okX9_isProgram rfl (by decide) ⟨rfl, _, rfl, _, rfl, hw⟩
    · have hw := hw.2 hc
      refine aIconst (pc' := 13) ⟨by decide, by decide⟩ dX9_isProgram_12 rfl ?_
      refine aGoto (pc' := 17) dX9_isProgram_13 (by decide) ?_
      exact cZret dX9_isProgram_17 okX9_isProgram rfl (by decide) ⟨rfl, _, rfl, _, rfl, hw⟩
set_option maxRecDepth 100000 in
set_option maxHeartbeats 4000000 in
theorem gX9_isSlot {w : aW} {mm : Nat} {C : aIF} {S : aS} {p1 : Int} {P : Int → aIF → Prop} (hw : ((p1 < 0) → P 0 C) ∧ ((¬ (p1 < 0)) → ((4 ≤ p1) → P 0 C) ∧ ((¬ (4 ≤ p1)) → P 1 C))) : kMetI w mX9_isSlot [aO 1 0, aI p1] C S (rf mm) P := by
  refine cMet_of okX9_isSlot (Nat.le_of_ble_eq_true rfl) (fun hos => ?_)
  show cRun w mX9_isSlot 0 [some (aO 1 0), some (aI p1)] [] (mem C S) (rf mm) (kqI (rf mm) S P)
  refine aIload_n (pc' := 1) dX9_isSlot_0 rfl rfl ?_
  refine aIf_lt (tgt := 13) (pc' := 4) dX9_isSlot_1 (by decide) rfl (fun hc => ?_) (fun hc => ?_)
  · have hw := hw.1 hc
    refine aIconst (pc' := 14) ⟨by decide, by decide⟩ dX9_isSlot_13 rfl ?_
    exact cZret dX9_isSlot_14 okX9_isSlot rfl (by decide) ⟨rfl, _, rfl, _, rfl, hw⟩
  · have hw := hw.2 hc
    refine aIload_n (pc' := 5) dX9_isSlot_4 rfl rfl ?_
    refine aIconst (pc' := 6) ⟨by decide, by decide⟩ dX9_isSlot_5 rfl ?_
    refine aIcmp_ge (tgt := 13) (pc' := 9) dX9_isSlot_6 (by decide) rfl (fun hc => ?_) (fun hc => ?_)
    · have hw := hw.1 hc
      refine aIconst (pc' := 14) ⟨by decide, by decide⟩ dX9_isSlot_13 rfl ?_
      exact cZret dX9_isSlot_14 okX9_isSlot rfl (by decide) ⟨rfl, _, rfl, _, rfl, hw⟩
    · have hw := hw.2 hc
      refine aIconst (pc' := 10) ⟨by decide, by decide⟩ dX9_isSlot_9 rfl ?_
      refine aGoto (pc' := 14) dX9_isSlot_10 (by decide) ?_
      exact cZret dX9_isSlot_14 okX9_isSlot rfl (by decide) ⟨rfl, _, rfl, _, rfl, hw⟩
set_option maxRecDepth 100000 in
set_option maxHeartbeats 4000000 in
theorem gX9_log {w : aW} {mm : Nat} {C : aIF} {S : aS} {p1 : Int} {p2 : Int} {P : Int → aIF → Prop} (hw : kMetI w mX4_told [aO 22 0, aI p1, aI p2] C S (rf mm) (fun x1 C2 => P x1 C2)) : kMetI w mX9_log [aO 1 0, aI p1, aI p2] C S (rf mm) P := by
  refine cMet_of okX9_log (Nat.le_of_ble_eq_true rfl) (fun hos => ?_)
  show cRun w mX9_log 0 [some (aO 1 0), some (aI p1), some (aI p2)] [] (mem C S) (rf mm) (kqI (rf mm) S P)
  refine aAload_n (pc' := 1) dX9_log_0 rfl rfl ?_
  refine aGetR (pc' := 4) (q := (21, 0)) dX9_log_1 fX9_44 rfl rfl (lv (by decide)) rfl rfl ?_
  refine aGetR (pc' := 7) (q := (22, 0)) dX9_log_4 fX9_185 rfl rfl (lv (by decide)) rfl rfl ?_
  refine aIload_n (pc' := 8) dX9_log_7 rfl rfl ?_
  refine aIload_n (pc' := 9) dX9_log_8 rfl rfl ?_
  refine cVI (c := 4) (pc' := 12) [aI p1, aI p2] dX9_log_9 lX9_200 okX4_told ⟨by decide, by decide⟩ npX4_told rfl rfl rfl rfl rfl (by decide) rfl (cMetI_mono hw (fun x1 J3 hw => ?_))
  obtain ⟨C2, rfl, hw⟩ := hw
  exact cIret dX9_log_12 okX9_log rfl ⟨rfl, _, rfl, _, rfl, hw⟩
set_option maxRecDepth 100000 in
set_option maxHeartbeats 4000000 in
theorem gX9_need {w : aW} {mm : Nat} {C : aIF} {S : aS} {p1 : Int} {P : Int → aIF → Prop} (hw : kMetI w mX9_isProgram [aO 1 0, aI p1] C S (rf mm) (fun x1 C2 => ((x1 ≠ 0) → (0 ≤ p1 ∧ p1 < ((6 : Nat) : Int)) ∧ (kMetI w mX0_needInSteps [aO 10 0, aO 6 ((p1).toNat)] C2 S (rf mm) (fun x5 C6 => ((x5 ≠ (-1)) → (-2147483648 ≤ (x5 * (C6 9 0 0)) ∧ (x5 * (C6 9 0 0)) < 2147483648) ∧ (P (x5 * (C6 9 0 0)) C6)) ∧ ((x5 = (-1)) → P (-1) C6)))) ∧ ((x1 = 0) → P (-2) C2))) : kMetI w mX9_need [aO 1 0, aI p1] C S (rf mm) P := by
  refine cMet_of okX9_need (Nat.le_of_ble_eq_true rfl) (fun hos => ?_)
  show cRun w mX9_need 0 [some (aO 1 0), some (aI p1), none] [] (mem C S) (rf mm) (kqI (rf mm) S P)
  refine aAload_n (pc' := 1) dX9_need_0 rfl rfl ?_
  refine aIload_n (pc' := 2) dX9_need_1 rfl rfl ?_
  refine cVI (c := 9) (pc' := 5) [aI p1] dX9_need_2 lX9_130 okX9_isProgram ⟨by decide, by decide⟩ npX9_isProgram rfl rfl rfl rfl rfl (by decide) rfl (cMetI_mono hw (fun x1 J3 hw => ?_))
  obtain ⟨C2, rfl, hw⟩ := hw
  refine aIf_ne (tgt := 11) (pc' := 8) dX9_need_5 (by decide) rfl (fun hc => ?_) (fun hc => ?_)
  · have hw := hw.1 hc
    refine aAload_n (pc' := 12) dX9_need_11 rfl rfl ?_
    refine aGetR (pc' := 15) (q := (10, 0)) dX9_need_12 fX9_35 rfl rfl (lv (by decide)) rfl rfl ?_
    refine aAload_n (pc' := 16) dX9_need_15 rfl rfl ?_
    refine aGetR (pc' := 19) (q := (5, 0)) dX9_need_16 fX9_18 rfl rfl (lv (by decide)) rfl rfl ?_
    refine aIload_n (pc' := 20) dX9_need_19 rfl rfl ?_
    obtain ⟨h4, hw⟩ := hw
    refine aAald (pc' := 21) (j := (p1).toNat) (q := (6, (p1).toNat)) dX9_need_20 (t := 4) rfl ⟨by decide, by decide⟩ (lv (by decide)) (tnIx h4).1 (tnIx h4).2 rfl rfl ?_
    refine cVI (c := 0) (pc' := 24) [aO 6 ((p1).toNat)] dX9_need_21 lX9_137 okX0_needInSteps ⟨by decide, by decide⟩ npX0_needInSteps rfl rfl rfl rfl rfl (by decide) rfl (cMetI_mono hw (fun x5 J7 hw => ?_))
    obtain ⟨C6, rfl, hw⟩ := hw
    refine aIstore_n (pc' := 25) dX9_need_24 (by decide) rfl (L' := [some (aO 1 0), some (aI p1), some (aI x5)]) rfl ?_
    refine aIload_n (pc' := 26) dX9_need_25 rfl rfl ?_
    refine aIconst (pc' := 27) ⟨by decide, by decide⟩ dX9_need_26 rfl ?_
    refine aIcmp_ne (tgt := 34) (pc' := 30) dX9_need_27 (by decide) rfl (fun hc => ?_) (fun hc => ?_)
    · have hw := hw.1 hc
      refine aIload_n (pc' := 35) dX9_need_34 rfl rfl ?_
      refine aAload_n (pc' := 36) dX9_need_35 rfl rfl ?_
      refine aGetR (pc' := 39) (q := (9, 0)) dX9_need_36 fX9_26 rfl rfl (lv (by decide)) rfl rfl ?_
      refine aGetI (pc' := 42) dX9_need_39 fX9_96 rfl rfl (lv (by decide)) rfl ?_
      refine aTopEq (y := (C6 9 0 0)) rfl ?_
      obtain ⟨h8, hw⟩ := hw
      refine aImul (pc' := 43) h8.1 h8.2 dX9_need_42 rfl ?_
      exact cIret dX9_need_43 okX9_need rfl ⟨rfl, _, rfl, _, rfl, hw⟩
    · have hw := hw.2 hc
      refine aIconst (pc' := 31) ⟨by decide, by decide⟩ dX9_need_30 rfl ?_
      refine aGoto (pc' := 43) dX9_need_31 (by decide) ?_
      exact cIret dX9_need_43 okX9_need rfl ⟨rfl, _, rfl, _, rfl, hw⟩
  · have hw := hw.2 hc
    refine aBipush (pc' := 10) ⟨by decide, by decide⟩ dX9_need_8 rfl ?_
    exact cIret dX9_need_10 okX9_need rfl ⟨rfl, _, rfl, _, rfl, hw⟩
set_option maxRecDepth 100000 in
set_option maxHeartbeats 4000000 in
theorem gX9_of {w : aW} {mm : Nat} {C : aIF} {S : aS} {p1 : Int} {p2 : Int} {P : Int → aIF → Prop} (hw : ((p1 < 0) → P (-2) C) ∧ ((¬ (p1 < 0)) → ((p1 < (C 21 0 3)) → (0 ≤ p1 ∧ p1 < ((6 : Nat) : Int)) ∧ (kMetI w mX2_told [aO 28 ((p1).toNat), aI p2] C S (rf mm) (fun x2 C3 => P x2 C3))) ∧ ((¬ (p1 < (C 21 0 3))) → P (-2) C))) : kMetI w mX9_of [aO 1 0, aI p1, aI p2] C S (rf mm) P := by
  refine cMet_of okX9_of (Nat.le_of_ble_eq_true rfl) (fun hos => ?_)
  show cRun w mX9_of 0 [some (aO 1 0), some (aI p1), some (aI p2)] [] (mem C S) (rf mm) (kqI (rf mm) S P)
  refine aIload_n (pc' := 1) dX9_of_0 rfl rfl ?_
  refine aIf_lt (tgt := 15) (pc' := 4) dX9_of_1 (by decide) rfl (fun hc => ?_) (fun hc => ?_)
  · have hw := hw.1 hc
    refine aBipush (pc' := 17) ⟨by decide, by decide⟩ dX9_of_15 rfl ?_
    exact cIret dX9_of_17 okX9_of rfl ⟨rfl, _, rfl, _, rfl, hw⟩
  · have hw := hw.2 hc
    refine aIload_n (pc' := 5) dX9_of_4 rfl rfl ?_
    refine aAload_n (pc' := 6) dX9_of_5 rfl rfl ?_
    refine aGetR (pc' := 9) (q := (21, 0)) dX9_of_6 fX9_44 rfl rfl (lv (by decide)) rfl rfl ?_
    refine aGetI (pc' := 12) dX9_of_9 fX9_127 rfl rfl (lv (by decide)) rfl ?_
    refine aTopEq (y := (C 21 0 3)) rfl ?_
    refine aIcmp_lt (tgt := 18) (pc' := 15) dX9_of_12 (by decide) rfl (fun hc => ?_) (fun hc => ?_)
    · have hw := hw.1 hc
      refine aAload_n (pc' := 19) dX9_of_18 rfl rfl ?_
      refine aGetR (pc' := 22) (q := (21, 0)) dX9_of_19 fX9_44 rfl rfl (lv (by decide)) rfl rfl ?_
      refine aGetR (pc' := 25) (q := (27, 0)) dX9_of_22 fX9_172 rfl rfl (lv (by decide)) rfl rfl ?_
      refine aIload_n (pc' := 26) dX9_of_25 rfl rfl ?_
      obtain ⟨h1, hw⟩ := hw
      refine aAald (pc' := 27) (j := (p1).toNat) (q := (28, (p1).toNat)) dX9_of_26 (t := 5) rfl ⟨by decide, by decide⟩ (lv (by decide)) (tnIx h1).1 (tnIx h1).2 rfl rfl ?_
      refine aIload_n (pc' := 28) dX9_of_27 rfl rfl ?_
      refine cVI (c := 2) (pc' := 31) [aI p2] dX9_of_28 lX9_176 okX2_told ⟨by decide, by decide⟩ npX2_told rfl rfl rfl rfl rfl (tnIx h1).2 rfl (cMetI_mono hw (fun x2 J4 hw => ?_))
      obtain ⟨C3, rfl, hw⟩ := hw
      exact cIret dX9_of_31 okX9_of rfl ⟨rfl, _, rfl, _, rfl, hw⟩
    · have hw := hw.2 hc
      refine aBipush (pc' := 17) ⟨by decide, by decide⟩ dX9_of_15 rfl ?_
      exact cIret dX9_of_17 okX9_of rfl ⟨rfl, _, rfl, _, rfl, hw⟩
set_option maxRecDepth 100000 in
set_option maxHeartbeats 4000000 in
theorem gX9_paste {w : aW} {mm : Nat} {C : aIF} {S : aS} {p1 : Int} {p2 : Int} {p3 : Int} {p4 : Int} {p5 : Int} {P : Int → aIF → Prop} (hw : kMetI w mX9_isSlot [aO 1 0, aI p1] C S (rf mm) (fun x1 C2 => ((x1 = 0) → P (-2) C2) ∧ ((¬ (x1 = 0)) → kMetI w mX9_isSlot [aO 1 0, aI p3] C2 S (rf mm) (fun x4 C5 => ((x4 ≠ 0) → (0 ≤ p1 ∧ p1 < ((4 : Nat) : Int)) ∧ ((0 ≤ p3 ∧ p3 < ((4 : Nat) : Int)) ∧ (kMetI w mX3_isBare [aO 3 ((p1).toNat)] C5 S (rf mm) (fun x9 C10 => ((x9 ≠ 0) → P (-5) C10) ∧ ((x9 = 0) → kMetI w mX3_isBare [aO 3 ((p3).toNat)] C10 S (rf mm) (fun x12 C13 => ((x12 = 0) → (((C13 3 ((p1).toNat) 1) = (C13 3 ((p3).toNat) 1)) → kMetI w mX3_hasPlaces [aO 3 ((p1).toNat), aI p2, aI p5] C13 S (rf mm) (fun x15 C16 => ((x15 = 0) → P (-6) C16) ∧ ((¬ (x15 = 0)) → kMetI w mX3_hasPlaces [aO 3 ((p3).toNat), aI p4, aI p5] C16 S (rf mm) (fun x18 C19 => ((x18 ≠ 0) → ((0 ≤ p2 ∧ 0 ≤ p4 ∧ 0 ≤ p5) ∧ (p2).toNat + (p5).toNat ≤ 60 ∧ (p4).toNat + (p5).toNat ≤ 60) ∧ (P 0 (uC C19 4 ((p1).toNat) 4 ((p3).toNat) (p2).toNat (p4).toNat (p5).toNat))) ∧ ((x18 = 0) → P (-6) C19))))) ∧ ((¬ ((C13 3 ((p1).toNat) 1) = (C13 3 ((p3).toNat) 1))) → P (-7) C13)) ∧ ((¬ (x12 = 0)) → P (-5) C13))))))) ∧ ((x4 = 0) → P (-2) C5))))) : kMetI w mX9_paste [aO 1 0, aI p1, aI p2, aI p3, aI p4, aI p5] C S (rf mm) P := by
  refine cMet_of okX9_paste (Nat.le_of_ble_eq_true rfl) (fun hos => ?_)
  show cRun w mX9_paste 0 [some (aO 1 0), some (aI p1), some (aI p2), some (aI p3), some (aI p4), some (aI p5), none, none] [] (mem C S) (rf mm) (kqI (rf mm) S P)
  refine aAload_n (pc' := 1) dX9_paste_0 rfl rfl ?_
  refine aIload_n (pc' := 2) dX9_paste_1 rfl rfl ?_
  refine cVI (c := 9) (pc' := 5) [aI p1] dX9_paste_2 lX9_48 okX9_isSlot ⟨by decide, by decide⟩ npX9_isSlot rfl rfl rfl rfl rfl (by decide) rfl (cMetI_mono hw (fun x1 J3 hw => ?_))
  obtain ⟨C2, rfl, hw⟩ := hw
  refine aIf_eq (tgt := 16) (pc' := 8) dX9_paste_5 (by decide) rfl (fun hc => ?_) (fun hc => ?_)
  · have hw := hw.1 hc
    refine aBipush (pc' := 18) ⟨by decide, by decide⟩ dX9_paste_16 rfl ?_
    exact cIret dX9_paste_18 okX9_paste rfl ⟨rfl, _, rfl, _, rfl, hw⟩
  · have hw := hw.2 hc
    refine aAload_n (pc' := 9) dX9_paste_8 rfl rfl ?_
    refine aIload_n (pc' := 10) dX9_paste_9 rfl rfl ?_
    refine cVI (c := 9) (pc' := 13) [aI p3] dX9_paste_10 lX9_48 okX9_isSlot ⟨by decide, by decide⟩ npX9_isSlot rfl rfl rfl rfl rfl (by decide) rfl (cMetI_mono hw (fun x4 J6 hw => ?_))
    obtain ⟨C5, rfl, hw⟩ := hw
    refine aIf_ne (tgt := 19) (pc' := 16) dX9_paste_13 (by decide) rfl (fun hc => ?_) (fun hc => ?_)
    · have hw := hw.1 hc
      refine aAload_n (pc' := 20) dX9_paste_19 rfl rfl ?_
      refine aGetR (pc' := 23) (q := (2, 0)) dX9_paste_20 fX9_11 rfl rfl (lv (by decide)) rfl rfl ?_
      refine aIload_n (pc' := 24) dX9_paste_23 rfl rfl ?_
      obtain ⟨h7, hw⟩ := hw
      refine aAald (pc' := 25) (j := (p1).toNat) (q := (3, (p1).toNat)) dX9_paste_24 (t := 3) rfl ⟨by decide, by decide⟩ (lv (by decide)) (tnIx h7).1 (tnIx h7).2 rfl rfl ?_
      refine aAstore (pc' := 27) dX9_paste_25 (by decide) rfl (L' := [some (aO 1 0), some (aI p1), some (aI p2), some (aI p3), some (aI p4), some (aI p5), some (aO 3 ((p1).toNat)), none]) rfl ?_
      refine aAload_n (pc' := 28) dX9_paste_27 rfl rfl ?_
      refine aGetR (pc' := 31) (q := (2, 0)) dX9_paste_28 fX9_11 rfl rfl (lv (by decide)) rfl rfl ?_
      refine aIload_n (pc' := 32) dX9_paste_31 rfl rfl ?_
      obtain ⟨h8, hw⟩ := hw
      refine aAald (pc' := 33) (j := (p3).toNat) (q := (3, (p3).toNat)) dX9_paste_32 (t := 3) rfl ⟨by decide, by decide⟩ (lv (by decide)) (tnIx h8).1 (tnIx h8).2 rfl rfl ?_
      refine aAstore (pc' := 35) dX9_paste_33 (by decide) rfl (L' := [some (aO 1 0), some (aI p1), some (aI p2), some (aI p3), some (aI p4), some (aI p5), some (aO 3 ((p1).toNat)), some (aO 3 ((p3).toNat))]) rfl ?_
      refine aAload (pc' := 37) dX9_paste_35 rfl rfl ?_
      refine cVI (c := 3) (pc' := 40) [] dX9_paste_37 lX9_56 okX3_isBare ⟨by decide, by decide⟩ npX3_isBare rfl rfl rfl rfl rfl (tnIx h7).2 rfl (cMetI_mono hw (fun x9 J11 hw => ?_))
      obtain ⟨C10, rfl, hw⟩ := hw
      refine aIf_ne (tgt := 51) (pc' := 43) dX9_paste_40 (by decide) rfl (fun hc => ?_) (fun hc => ?_)
      · have hw := hw.1 hc
        refine aBipush (pc' := 53) ⟨by decide, by decide⟩ dX9_paste_51 rfl ?_
        exact cIret dX9_paste_53 okX9_paste rfl ⟨rfl, _, rfl, _, rfl, hw⟩
      · have hw := hw.2 hc
        refine aAload (pc' := 45) dX9_paste_43 rfl rfl ?_
        refine cVI (c := 3) (pc' := 48) [] dX9_paste_45 lX9_56 okX3_isBare ⟨by decide, by decide⟩ npX3_isBare rfl rfl rfl rfl rfl (tnIx h8).2 rfl (cMetI_mono hw (fun x12 J14 hw => ?_))
        obtain ⟨C13, rfl, hw⟩ := hw
        refine aIf_eq (tgt := 54) (pc' := 51) dX9_paste_48 (by decide) rfl (fun hc => ?_) (fun hc => ?_)
        · have hw := hw.1 hc
          refine aAload (pc' := 56) dX9_paste_54 rfl rfl ?_
          refine aGetI (pc' := 59) dX9_paste_56 fX9_75 rfl rfl (lv (tnIx h7).2) rfl ?_
          refine aTopEq (y := (C13 3 ((p1).toNat) 1)) rfl ?_
          refine aAload (pc' := 61) dX9_paste_59 rfl rfl ?_
          refine aGetI (pc' := 64) dX9_paste_61 fX9_75 rfl rfl (lv (tnIx h8).2) rfl ?_
          refine aTopEq (y := (C13 3 ((p3).toNat) 1)) rfl ?_
          refine aIcmp_eq (tgt := 70) (pc' := 67) dX9_paste_64 (by decide) rfl (fun hc => ?_) (fun hc => ?_)
          · have hw := hw.1 hc
            refine aAload (pc' := 72) dX9_paste_70 rfl rfl ?_
            refine aIload_n (pc' := 73) dX9_paste_72 rfl rfl ?_
            refine aIload (pc' := 75) dX9_paste_73 rfl rfl ?_
            refine cVI (c := 3) (pc' := 78) [aI p2, aI p5] dX9_paste_75 lX9_78 okX3_hasPlaces ⟨by decide, by decide⟩ npX3_hasPlaces rfl rfl rfl rfl rfl (tnIx h7).2 rfl (cMetI_mono hw (fun x15 J17 hw => ?_))
            obtain ⟨C16, rfl, hw⟩ := hw
            refine aIf_eq (tgt := 93) (pc' := 81) dX9_paste_78 (by decide) rfl (fun hc => ?_) (fun hc => ?_)
            · have hw := hw.1 hc
              refine aBipush (pc' := 95) ⟨by decide, by decide⟩ dX9_paste_93 rfl ?_
              exact cIret dX9_paste_95 okX9_paste rfl ⟨rfl, _, rfl, _, rfl, hw⟩
            · have hw := hw.2 hc
              refine aAload (pc' := 83) dX9_paste_81 rfl rfl ?_
              refine aIload (pc' := 85) dX9_paste_83 rfl rfl ?_
              refine aIload (pc' := 87) dX9_paste_85 rfl rfl ?_
              refine cVI (c := 3) (pc' := 90) [aI p4, aI p5] dX9_paste_87 lX9_78 okX3_hasPlaces ⟨by decide, by decide⟩ npX3_hasPlaces rfl rfl rfl rfl rfl (tnIx h8).2 rfl (cMetI_mono hw (fun x18 J20 hw => ?_))
              obtain ⟨C19, rfl, hw⟩ := hw
              refine aIf_ne (tgt := 96) (pc' := 93) dX9_paste_90 (by decide) rfl (fun hc => ?_) (fun hc => ?_)
              · have hw := hw.1 hc
                refine aAload (pc' := 98) dX9_paste_96 rfl rfl ?_
                refine aGetR (pc' := 101) (q := (4, (p1).toNat)) dX9_paste_98 fX9_67 rfl rfl (lv (tnIx h7).2) rfl rfl ?_
                refine aIload_n (pc' := 102) dX9_paste_101 rfl rfl ?_
                refine aAload (pc' := 104) dX9_paste_102 rfl rfl ?_
                refine aGetR (pc' := 107) (q := (4, (p3).toNat)) dX9_paste_104 fX9_67 rfl rfl (lv (tnIx h8).2) rfl rfl ?_
                refine aIload (pc' := 109) dX9_paste_107 rfl rfl ?_
                refine aIload (pc' := 111) dX9_paste_109 rfl rfl ?_
                obtain ⟨h21, hw⟩ := hw
                refine aCopyL (pc' := 114) (sp := (p2).toNat) (dp := (p4).toNat) (m9 := (p5).toNat) dX9_paste_111 lsX9_82 natCopy staCopy iniJ10 rfl rfl (lv (tnIx h7).2) (lv (tnIx h8).2) (by omega) (by omega) (by omega) h21.2.1 h21.2.2 (by decide) (Nat.le_of_ble_eq_true rfl) rfl (cEqI (mC rfl rfl) ?_)
                refine aIconst (pc' := 115) ⟨by decide, by decide⟩ dX9_paste_114 rfl ?_
                exact cIret dX9_paste_115 okX9_paste rfl ⟨rfl, _, rfl, _, rfl, hw⟩
              · have hw := hw.2 hc
                refine aBipush (pc' := 95) ⟨by decide, by decide⟩ dX9_paste_93 rfl ?_
                exact cIret dX9_paste_95 okX9_paste rfl ⟨rfl, _, rfl, _, rfl, hw⟩
          · have hw := hw.2 hc
            refine aBipush (pc' := 69) ⟨by decide, by decide⟩ dX9_paste_67 rfl ?_
            exact cIret dX9_paste_69 okX9_paste rfl ⟨rfl, _, rfl, _, rfl, hw⟩
        · have hw := hw.2 hc
          refine aBipush (pc' := 53) ⟨by decide, by decide⟩ dX9_paste_51 rfl ?_
          exact cIret dX9_paste_53 okX9_paste rfl ⟨rfl, _, rfl, _, rfl, hw⟩
    · have hw := hw.2 hc
      refine aBipush (pc' := 18) ⟨by decide, by decide⟩ dX9_paste_16 rfl ?_
      exact cIret dX9_paste_18 okX9_paste rfl ⟨rfl, _, rfl, _, rfl, hw⟩
set_option maxRecDepth 100000 in
set_option maxHeartbeats 4000000 in
theorem gX9_program {w : aW} {mm : Nat} {C : aIF} {S : aS} {p1 : Int} {p2 : Int} {p3 : Int} {p4 : Int} {P : Int → aIF → Prop} (hw : (((C 21 0 4) = 0) → kMetI w mX9_isSlot [aO 1 0, aI p1] C S (rf mm) (fun x1 C2 => ((x1 = 0) → P (-2) C2) ∧ ((¬ (x1 = 0)) → ((p2 < 0) → P (-2) C2) ∧ ((¬ (p2 < 0)) → ((2 ≤ p2) → P (-2) C2) ∧ ((¬ (2 ≤ p2)) → ((p3 < 1) → P (-2) C2) ∧ ((¬ (p3 < 1)) → ((40 < p3) → P (-2) C2) ∧ ((¬ (40 < p3)) → ((p4 < 0) → P (-2) C2) ∧ ((¬ (p4 < 0)) → ((p4 ≤ 1000) → (((C2 1 0 5) < 6) → (0 ≤ p1 ∧ p1 < ((4 : Nat) : Int)) ∧ (kMetI w mX3_isBare [aO 3 ((p1).toNat)] C2 S (rf mm) (fun x5 C6 => ((x5 = 0) → (((C6 3 ((p1).toNat) 2) ≠ 0) → kMetI w mX3_holdsActsAlone [aO 3 ((p1).toNat)] C6 S (rf mm) (fun x8 C9 => ((x8 ≠ 0) → (0 ≤ (C9 1 0 5) ∧ (C9 1 0 5) < ((6 : Nat) : Int)) ∧ (((p2 ≠ 0) → kMetV w mX1_become [aO 6 (((C9 1 0 5)).toNat), aO 3 ((p1).toNat), aI 0, aI p3, aI p4] C9 S (rf mm) (fun C13 => (-2147483648 ≤ ((C13 1 0 5) + 1) ∧ ((C13 1 0 5) + 1) < 2147483648) ∧ ((-2147483648 ≤ (((C13 1 0 5) + 1) - 1) ∧ (((C13 1 0 5) + 1) - 1) < 2147483648) ∧ (P (((C13 1 0 5) + 1) - 1) (uI (uI C13 10 0 4 0) 1 0 5 (((C13 1 0 5) + 1))))))) ∧ ((p2 = 0) → kMetV w mX1_become [aO 6 (((C9 1 0 5)).toNat), aO 3 ((p1).toNat), aI 1, aI p3, aI p4] C9 S (rf mm) (fun C18 => (-2147483648 ≤ ((C18 1 0 5) + 1) ∧ ((C18 1 0 5) + 1) < 2147483648) ∧ ((-2147483648 ≤ (((C18 1 0 5) + 1) - 1) ∧ (((C18 1 0 5) + 1) - 1) < 2147483648) ∧ (P (((C18 1 0 5) + 1) - 1) (uI (uI C18 10 0 4 0) 1 0 5 (((C18 1 0 5) + 1))))))))) ∧ ((x8 = 0) → P (-4) C9))) ∧ (((C6 3 ((p1).toNat) 2) = 0) → P (-8) C6)) ∧ ((¬ (x5 = 0)) → P (-5) C6)))) ∧ ((¬ ((C2 1 0 5) < 6)) → P (-3) C2)) ∧ ((¬ (p4 ≤ 1000)) → P (-2) C2))))))))) ∧ ((¬ ((C 21 0 4) = 0)) → P (-9) C)) : kMetI w mX9_program [aO 1 0, aI p1, aI p2, aI p3, aI p4] C S (rf mm) P := by
  refine cMet_of okX9_program (Nat.le_of_ble_eq_true rfl) (fun hos => ?_)
  show cRun w mX9_program 0 [some (aO 1 0), some (aI p1), some (aI p2), some (aI p3), some (aI p4), none] [] (mem C S) (rf mm) (kqI (rf mm) S P)
  refine aAload_n (pc' := 1) dX9_program_0 rfl rfl ?_
  refine aGetR (pc' := 4) (q := (21, 0)) dX9_program_1 fX9_44 rfl rfl (lv (by decide)) rfl rfl ?_
  refine aGetI (pc' := 7) dX9_program_4 fX9_88 rfl rfl (lv (by decide)) rfl ?_
  refine aTopEq (y := (C 21 0 4)) rfl ?_
  refine aIf_eq (tgt := 13) (pc' := 10) dX9_program_7 (by decide) rfl (fun hc => ?_) (fun hc => ?_)
  · have hw := hw.1 hc
    refine aAload_n (pc' := 14) dX9_program_13 rfl rfl ?_
    refine aIload_n (pc' := 15) dX9_program_14 rfl rfl ?_
    refine cVI (c := 9) (pc' := 18) [aI p1] dX9_program_15 lX9_48 okX9_isSlot ⟨by decide, by decide⟩ npX9_isSlot rfl rfl rfl rfl rfl (by decide) rfl (cMetI_mono hw (fun x1 J3 hw => ?_))
    obtain ⟨C2, rfl, hw⟩ := hw
    refine aIf_eq (tgt := 54) (pc' := 21) dX9_program_18 (by decide) rfl (fun hc => ?_) (fun hc => ?_)
    · have hw := hw.1 hc
      refine aBipush (pc' := 56) ⟨by decide, by decide⟩ dX9_program_54 rfl ?_
      exact cIret dX9_program_56 okX9_program rfl ⟨rfl, _, rfl, _, rfl, hw⟩
    · have hw := hw.2 hc
      refine aIload_n (pc' := 22) dX9_program_21 rfl rfl ?_
      refine aIf_lt (tgt := 54) (pc' := 25) dX9_program_22 (by decide) rfl (fun hc => ?_) (fun hc => ?_)
      · have hw := hw.1 hc
        refine aBipush (pc' := 56) ⟨by decide, by decide⟩ dX9_program_54 rfl ?_
        exact cIret dX9_program_56 okX9_program rfl ⟨rfl, _, rfl, _, rfl, hw⟩
      · have hw := hw.2 hc
        refine aIload_n (pc' := 26) dX9_program_25 rfl rfl ?_
        refine aIconst (pc' := 27) ⟨by decide, by decide⟩ dX9_program_26 rfl ?_
        refine aIcmp_ge (tgt := 54) (pc' := 30) dX9_program_27 (by decide) rfl (fun hc => ?_) (fun hc => ?_)
        · have hw := hw.1 hc
          refine aBipush (pc' := 56) ⟨by decide, by decide⟩ dX9_program_54 rfl ?_
          exact cIret dX9_program_56 okX9_program rfl ⟨rfl, _, rfl, _, rfl, hw⟩
        · have hw := hw.2 hc
          refine aIload_n (pc' := 31) dX9_program_30 rfl rfl ?_
          refine aIconst (pc' := 32) ⟨by decide, by decide⟩ dX9_program_31 rfl ?_
          refine aIcmp_lt (tgt := 54) (pc' := 35) dX9_program_32 (by decide) rfl (fun hc => ?_) (fun hc => ?_)
          · have hw := hw.1 hc
            refine aBipush (pc' := 56) ⟨by decide, by decide⟩ dX9_program_54 rfl ?_
            exact cIret dX9_program_56 okX9_program rfl ⟨rfl, _, rfl, _, rfl, hw⟩
          · have hw := hw.2 hc
            refine aIload_n (pc' := 36) dX9_program_35 rfl rfl ?_
            refine aBipush (pc' := 38) ⟨by decide, by decide⟩ dX9_program_36 rfl ?_
            refine aIcmp_gt (tgt := 54) (pc' := 41) dX9_program_38 (by decide) rfl (fun hc => ?_) (fun hc => ?_)
            · have hw := hw.1 hc
              refine aBipush (pc' := 56) ⟨by decide, by decide⟩ dX9_program_54 rfl ?_
              exact cIret dX9_program_56 okX9_program rfl ⟨rfl, _, rfl, _, rfl, hw⟩
            · have hw := hw.2 hc
              refine aIload (pc' := 43) dX9_program_41 rfl rfl ?_
              refine aIf_lt (tgt := 54) (pc' := 46) dX9_program_43 (by decide) rfl (fun hc => ?_) (fun hc => ?_)
              · have hw := hw.1 hc
                refine aBipush (pc' := 56) ⟨by decide, by decide⟩ dX9_program_54 rfl ?_
                exact cIret dX9_program_56 okX9_program rfl ⟨rfl, _, rfl, _, rfl, hw⟩
              · have hw := hw.2 hc
                refine aIload (pc' := 48) dX9_program_46 rfl rfl ?_
                refine aSipush (pc' := 51) ⟨by decide, by decide⟩ dX9_program_48 rfl ?_
                refine aIcmp_le (tgt := 57) (pc' := 54) dX9_program_51 (by decide) rfl (fun hc => ?_) (fun hc => ?_)
                · have hw := hw.1 hc
                  refine aAload_n (pc' := 58) dX9_program_57 rfl rfl ?_
                  refine aGetI (pc' := 61) dX9_program_58 fX9_114 rfl rfl (lv (by decide)) rfl ?_
                  refine aTopEq (y := (C2 1 0 5)) rfl ?_
                  refine aBipush (pc' := 63) ⟨by decide, by decide⟩ dX9_program_61 rfl ?_
                  refine aIcmp_lt (tgt := 69) (pc' := 66) dX9_program_63 (by decide) rfl (fun hc => ?_) (fun hc => ?_)
                  · have hw := hw.1 hc
                    refine aAload_n (pc' := 70) dX9_program_69 rfl rfl ?_
                    refine aGetR (pc' := 73) (q := (2, 0)) dX9_program_70 fX9_11 rfl rfl (lv (by decide)) rfl rfl ?_
                    refine aIload_n (pc' := 74) dX9_program_73 rfl rfl ?_
                    obtain ⟨h4, hw⟩ := hw
                    refine aAald (pc' := 75) (j := (p1).toNat) (q := (3, (p1).toNat)) dX9_program_74 (t := 3) rfl ⟨by decide, by decide⟩ (lv (by decide)) (tnIx h4).1 (tnIx h4).2 rfl rfl ?_
                    refine aAstore (pc' := 77) dX9_program_75 (by decide) rfl (L' := [some (aO 1 0), some (aI p1), some (aI p2), some (aI p3), some (aI p4), some (aO 3 ((p1).toNat))]) rfl ?_
                    refine aAload (pc' := 79) dX9_program_77 rfl rfl ?_
                    refine cVI (c := 3) (pc' := 82) [] dX9_program_79 lX9_56 okX3_isBare ⟨by decide, by decide⟩ npX3_isBare rfl rfl rfl rfl rfl (tnIx h4).2 rfl (cMetI_mono hw (fun x5 J7 hw => ?_))
                    obtain ⟨C6, rfl, hw⟩ := hw
                    refine aIf_eq (tgt := 88) (pc' := 85) dX9_program_82 (by decide) rfl (fun hc => ?_) (fun hc => ?_)
                    · have hw := hw.1 hc
                      refine aAload (pc' := 90) dX9_program_88 rfl rfl ?_
                      refine aGetI (pc' := 93) dX9_program_90 fX9_63 rfl rfl (lv (tnIx h4).2) rfl ?_
                      refine aTopEq (y := (C6 3 ((p1).toNat) 2)) rfl ?_
                      refine aIf_ne (tgt := 99) (pc' := 96) dX9_program_93 (by decide) rfl (fun hc => ?_) (fun hc => ?_)
                      · have hw := hw.1 hc
                        refine aAload (pc' := 101) dX9_program_99 rfl rfl ?_
                        refine cVI (c := 3) (pc' := 104) [] dX9_program_101 lX9_120 okX3_holdsActsAlone ⟨by decide, by decide⟩ npX3_holdsActsAlone rfl rfl rfl rfl rfl (tnIx h4).2 rfl (cMetI_mono hw (fun x8 J10 hw => ?_))
                        obtain ⟨C9, rfl, hw⟩ := hw
                        refine aIf_ne (tgt := 110) (pc' := 107) dX9_program_104 (by decide) rfl (fun hc => ?_) (fun hc => ?_)
                        · have hw := hw.1 hc
                          refine aAload_n (pc' := 111) dX9_program_110 rfl rfl ?_
                          refine aGetR (pc' := 114) (q := (5, 0)) dX9_program_111 fX9_18 rfl rfl (lv (by decide)) rfl rfl ?_
                          refine aAload_n (pc' := 115) dX9_program_114 rfl rfl ?_
                          refine aGetI (pc' := 118) dX9_program_115 fX9_114 rfl rfl (lv (by decide)) rfl ?_
                          refine aTopEq (y := (C9 1 0 5)) rfl ?_
                          obtain ⟨h11, hw⟩ := hw
                          refine aAald (pc' := 119) (j := ((C9 1 0 5)).toNat) (q := (6, ((C9 1 0 5)).toNat)) dX9_program_118 (t := 4) rfl ⟨by decide, by decide⟩ (lv (by decide)) (tnIx h11).1 (tnIx h11).2 rfl rfl ?_
                          refine aAload (pc' := 121) dX9_program_119 rfl rfl ?_
                          refine aIload_n (pc' := 122) dX9_program_121 rfl rfl ?_
                          refine aIf_ne (tgt := 129) (pc' := 125) dX9_program_122 (by decide) rfl (fun hc => ?_) (fun hc => ?_)
                          · have hw := hw.1 hc
                            refine aIconst (pc' := 130) ⟨by decide, by decide⟩ dX9_program_129 rfl ?_
                            refine aIload_n (pc' := 131) dX9_program_130 rfl rfl ?_
                            refine aIload (pc' := 133) dX9_program_131 rfl rfl ?_
                            refine cVV (c := 1) (pc' := 136) [aO 3 ((p1).toNat), aI 0, aI p3, aI p4] dX9_program_133 lX9_123 okX1_become ⟨by decide, by decide⟩ npX1_become rfl rfl rfl rfl rfl (tnIx h11).2 rfl (cMetV_mono hw (fun J14 hw => ?_))
                            obtain ⟨C13, rfl, hw⟩ := hw
                            refine aAload_n (pc' := 137) dX9_program_136 rfl rfl ?_
                            refine aGetR (pc' := 140) (q := (10, 0)) dX9_program_137 fX9_35 rfl rfl (lv (by decide)) rfl rfl ?_
                            refine aIconst (pc' := 141) ⟨by decide, by decide⟩ dX9_program_140 rfl ?_
                            refine aPutZ (pc' := 144) dX9_program_141 fX9_111 rfl rfl (Or.inl rfl) (lv (by decide)) (by decide) rfl (cEqI (mK rfl) ?_)
                            refine aAload_n (pc' := 145) dX9_program_144 rfl rfl ?_
                            refine aDup (pc' := 146) rfl dX9_program_145 rfl ?_
                            refine aGetI (pc' := 149) dX9_program_146 fX9_114 rfl rfl (lv (by decide)) rfl ?_
                            refine aTopEq (y := ((uI C13 10 0 4 0) 1 0 5)) rfl ?_
                            refine aTopEq (uI_k rfl) ?_
                            refine aIconst (pc' := 150) ⟨by decide, by decide⟩ dX9_program_149 rfl ?_
                            obtain ⟨h15, hw⟩ := hw
                            refine aIadd (pc' := 151) h15.1 h15.2 dX9_program_150 rfl ?_
                            refine aPutI (pc' := 154) dX9_program_151 fX9_114 rfl rfl (Or.inl rfl) (lv (by decide)) rfl (cEqI (mK rfl) ?_)
                            refine aAload_n (pc' := 155) dX9_program_154 rfl rfl ?_
                            refine aGetI (pc' := 158) dX9_program_155 fX9_114 rfl rfl (lv (by decide)) rfl ?_
                            refine aTopEq (y := ((uI (uI C13 10 0 4 0) 1 0 5 (((C13 1 0 5) + 1))) 1 0 5)) rfl ?_
                            refine aTopEq uI_s ?_
                            refine aIconst (pc' := 159) ⟨by decide, by decide⟩ dX9_program_158 rfl ?_
                            obtain ⟨h16, hw⟩ := hw
                            refine aIsub (pc' := 160) h16.1 h16.2 dX9_program_159 rfl ?_
                            exact cIret dX9_program_160 okX9_program rfl ⟨rfl, _, rfl, _, rfl, hw⟩
                          · have hw := hw.2 hc
                            refine aIconst (pc' := 126) ⟨by decide, by decide⟩ dX9_program_125 rfl ?_
                            refine aGoto (pc' := 130) dX9_program_126 (by decide) ?_
                            refine aIload_n (pc' := 131) dX9_program_130 rfl rfl ?_
                            refine aIload (pc' := 133) dX9_program_131 rfl rfl ?_
                            refine cVV (c := 1) (pc' := 136) [aO 3 ((p1).toNat), aI 1, aI p3, aI p4] dX9_program_133 lX9_123 okX1_become ⟨by decide, by decide⟩ npX1_become rfl rfl rfl rfl rfl (tnIx h11).2 rfl (cMetV_mono hw (fun J19 hw => ?_))
                            obtain ⟨C18, rfl, hw⟩ := hw
                            refine aAload_n (pc' := 137) dX9_program_136 rfl rfl ?_
                            refine aGetR (pc' := 140) (q := (10, 0)) dX9_program_137 fX9_35 rfl rfl (lv (by decide)) rfl rfl ?_
                            refine aIconst (pc' := 141) ⟨by decide, by decide⟩ dX9_program_140 rfl ?_
                            refine aPutZ (pc' := 144) dX9_program_141 fX9_111 rfl rfl (Or.inl rfl) (lv (by decide)) (by decide) rfl (cEqI (mK rfl) ?_)
                            refine aAload_n (pc' := 145) dX9_program_144 rfl rfl ?_
                            refine aDup (pc' := 146) rfl dX9_program_145 rfl ?_
                            refine aGetI (pc' := 149) dX9_program_146 fX9_114 rfl rfl (lv (by decide)) rfl ?_
                            refine aTopEq (y := ((uI C18 10 0 4 0) 1 0 5)) rfl ?_
                            refine aTopEq (uI_k rfl) ?_
                            refine aIconst (pc' := 150) ⟨by decide, by decide⟩ dX9_program_149 rfl ?_
                            obtain ⟨h20, hw⟩ := hw
                            refine aIadd (pc' := 151) h20.1 h20.2 dX9_program_150 rfl ?_
                            refine aPutI (pc' := 154) dX9_program_151 fX9_114 rfl rfl (Or.inl rfl) (lv (by decide)) rfl (cEqI (mK rfl) ?_)
                            refine aAload_n (pc' := 155) dX9_program_154 rfl rfl ?_
                            refine aGetI (pc' := 158) dX9_program_155 fX9_114 rfl rfl (lv (by decide)) rfl ?_
                            refine aTopEq (y := ((uI (uI C18 10 0 4 0) 1 0 5 (((C18 1 0 5) + 1))) 1 0 5)) rfl ?_
                            refine aTopEq uI_s ?_
                            refine aIconst (pc' := 159) ⟨by decide, by decide⟩ dX9_program_158 rfl ?_
                            obtain ⟨h21, hw⟩ := hw
                            refine aIsub (pc' := 160) h21.1 h21.2 dX9_program_159 rfl ?_
                            exact cIret dX9_program_160 okX9_program rfl ⟨rfl, _, rfl, _, rfl, hw⟩
                        · have hw := hw.2 hc
                          refine aBipush (pc' := 109) ⟨by decide, by decide⟩ dX9_program_107 rfl ?_
                          exact cIret dX9_program_109 okX9_program rfl ⟨rfl, _, rfl, _, rfl, hw⟩
                      · have hw := hw.2 hc
                        refine aBipush (pc' := 98) ⟨by decide, by decide⟩ dX9_program_96 rfl ?_
                        exact cIret dX9_program_98 okX9_program rfl ⟨rfl, _, rfl, _, rfl, hw⟩
                    · have hw := hw.2 hc
                      refine aBipush (pc' := 87) ⟨by decide, by decide⟩ dX9_program_85 rfl ?_
                      exact cIret dX9_program_87 okX9_program rfl ⟨rfl, _, rfl, _, rfl, hw⟩
                  · have hw := hw.2 hc
                    refine aBipush (pc' := 68) ⟨by decide, by decide⟩ dX9_program_66 rfl ?_
                    exact cIret dX9_program_68 okX9_program rfl ⟨rfl, _, rfl, _, rfl, hw⟩
                · have hw := hw.2 hc
                  refine aBipush (pc' := 56) ⟨by decide, by decide⟩ dX9_program_54 rfl ?_
                  exact cIret dX9_program_56 okX9_program rfl ⟨rfl, _, rfl, _, rfl, hw⟩
  · have hw := hw.2 hc
    refine aBipush (pc' := 12) ⟨by decide, by decide⟩ dX9_program_10 rfl ?_
    exact cIret dX9_program_12 okX9_program rfl ⟨rfl, _, rfl, _, rfl, hw⟩
set_option maxRecDepth 100000 in
set_option maxHeartbeats 4000000 in
theorem gX9_row {w : aW} {mm : Nat} {C : aIF} {S : aS} {p1 : Int} {p2 : Int} {p3 : Int} {P : Int → aIF → Prop} (hw : kMetI w mX9_isSlot [aO 1 0, aI p1] C S (rf mm) (fun x1 C2 => ((x1 = 0) → P (-2) C2) ∧ ((¬ (x1 = 0)) → ((p2 < 0) → P (-2) C2) ∧ ((¬ (p2 < 0)) → ((4 ≤ p2) → P (-2) C2) ∧ ((¬ (4 ≤ p2)) → ((p3 ≤ 60) → ((0 ≤ p3) → (0 ≤ p1 ∧ p1 < ((4 : Nat) : Int)) ∧ (kMetV w mX3_lay [aO 3 ((p1).toNat), aI p2, aI p3] C2 S (rf mm) (fun C6 => P 0 C6))) ∧ ((¬ (0 ≤ p3)) → P (-3) C2)) ∧ ((¬ (p3 ≤ 60)) → P (-2) C2)))))) : kMetI w mX9_row [aO 1 0, aI p1, aI p2, aI p3] C S (rf mm) P := by
  refine cMet_of okX9_row (Nat.le_of_ble_eq_true rfl) (fun hos => ?_)
  show cRun w mX9_row 0 [some (aO 1 0), some (aI p1), some (aI p2), some (aI p3)] [] (mem C S) (rf mm) (kqI (rf mm) S P)
  refine aAload_n (pc' := 1) dX9_row_0 rfl rfl ?_
  refine aIload_n (pc' := 2) dX9_row_1 rfl rfl ?_
  refine cVI (c := 9) (pc' := 5) [aI p1] dX9_row_2 lX9_48 okX9_isSlot ⟨by decide, by decide⟩ npX9_isSlot rfl rfl rfl rfl rfl (by decide) rfl (cMetI_mono hw (fun x1 J3 hw => ?_))
  obtain ⟨C2, rfl, hw⟩ := hw
  refine aIf_eq (tgt := 23) (pc' := 8) dX9_row_5 (by decide) rfl (fun hc => ?_) (fun hc => ?_)
  · have hw := hw.1 hc
    refine aBipush (pc' := 25) ⟨by decide, by decide⟩ dX9_row_23 rfl ?_
    exact cIret dX9_row_25 okX9_row rfl ⟨rfl, _, rfl, _, rfl, hw⟩
  · have hw := hw.2 hc
    refine aIload_n (pc' := 9) dX9_row_8 rfl rfl ?_
    refine aIf_lt (tgt := 23) (pc' := 12) dX9_row_9 (by decide) rfl (fun hc => ?_) (fun hc => ?_)
    · have hw := hw.1 hc
      refine aBipush (pc' := 25) ⟨by decide, by decide⟩ dX9_row_23 rfl ?_
      exact cIret dX9_row_25 okX9_row rfl ⟨rfl, _, rfl, _, rfl, hw⟩
    · have hw := hw.2 hc
      refine aIload_n (pc' := 13) dX9_row_12 rfl rfl ?_
      refine aIconst (pc' := 14) ⟨by decide, by decide⟩ dX9_row_13 rfl ?_
      refine aIcmp_ge (tgt := 23) (pc' := 17) dX9_row_14 (by decide) rfl (fun hc => ?_) (fun hc => ?_)
      · have hw := hw.1 hc
        refine aBipush (pc' := 25) ⟨by decide, by decide⟩ dX9_row_23 rfl ?_
        exact cIret dX9_row_25 okX9_row rfl ⟨rfl, _, rfl, _, rfl, hw⟩
      · have hw := hw.2 hc
        refine aIload_n (pc' := 18) dX9_row_17 rfl rfl ?_
        refine aBipush (pc' := 20) ⟨by decide, by decide⟩ dX9_row_18 rfl ?_
        refine aIcmp_le (tgt := 26) (pc' := 23) dX9_row_20 (by decide) rfl (fun hc => ?_) (fun hc => ?_)
        · have hw := hw.1 hc
          refine aIload_n (pc' := 27) dX9_row_26 rfl rfl ?_
          refine aIf_ge (tgt := 33) (pc' := 30) dX9_row_27 (by decide) rfl (fun hc => ?_) (fun hc => ?_)
          · have hw := hw.1 hc
            refine aAload_n (pc' := 34) dX9_row_33 rfl rfl ?_
            refine aGetR (pc' := 37) (q := (2, 0)) dX9_row_34 fX9_11 rfl rfl (lv (by decide)) rfl rfl ?_
            refine aIload_n (pc' := 38) dX9_row_37 rfl rfl ?_
            obtain ⟨h4, hw⟩ := hw
            refine aAald (pc' := 39) (j := (p1).toNat) (q := (3, (p1).toNat)) dX9_row_38 (t := 3) rfl ⟨by decide, by decide⟩ (lv (by decide)) (tnIx h4).1 (tnIx h4).2 rfl rfl ?_
            refine aIload_n (pc' := 40) dX9_row_39 rfl rfl ?_
            refine aIload_n (pc' := 41) dX9_row_40 rfl rfl ?_
            refine cVV (c := 3) (pc' := 44) [aI p2, aI p3] dX9_row_41 lX9_52 okX3_lay ⟨by decide, by decide⟩ npX3_lay rfl rfl rfl rfl rfl (tnIx h4).2 rfl (cMetV_mono hw (fun J7 hw => ?_))
            obtain ⟨C6, rfl, hw⟩ := hw
            refine aIconst (pc' := 45) ⟨by decide, by decide⟩ dX9_row_44 rfl ?_
            exact cIret dX9_row_45 okX9_row rfl ⟨rfl, _, rfl, _, rfl, hw⟩
          · have hw := hw.2 hc
            refine aBipush (pc' := 32) ⟨by decide, by decide⟩ dX9_row_30 rfl ?_
            exact cIret dX9_row_32 okX9_row rfl ⟨rfl, _, rfl, _, rfl, hw⟩
        · have hw := hw.2 hc
          refine aBipush (pc' := 25) ⟨by decide, by decide⟩ dX9_row_23 rfl ?_
          exact cIret dX9_row_25 okX9_row rfl ⟨rfl, _, rfl, _, rfl, hw⟩
set_option maxRecDepth 100000 in
set_option maxHeartbeats 4000000 in
theorem gX9_rowsThere {w : aW} {mm : Nat} {C : aIF} {S : aS} {P : Int → aIF → Prop} (hw : kRunI w mX9_rowsThere 4 [some (aO 1 0), some (aI 0), some (aI 0)] [] C S (rf mm) P) : kMetI w mX9_rowsThere [aO 1 0] C S (rf mm) P := by
  refine cMet_of okX9_rowsThere (Nat.le_of_ble_eq_true rfl) (fun hos => ?_)
  show cRun w mX9_rowsThere 0 [some (aO 1 0), none, none] [] (mem C S) (rf mm) (kqI (rf mm) S P)
  refine aIconst (pc' := 1) ⟨by decide, by decide⟩ dX9_rowsThere_0 rfl ?_
  refine aIstore_n (pc' := 2) dX9_rowsThere_1 (by decide) rfl (L' := [some (aO 1 0), some (aI 0), none]) rfl ?_
  refine aIconst (pc' := 3) ⟨by decide, by decide⟩ dX9_rowsThere_2 rfl ?_
  refine aIstore_n (pc' := 4) dX9_rowsThere_3 (by decide) rfl (L' := [some (aO 1 0), some (aI 0), some (aI 0)]) rfl ?_
  exact hw
set_option maxRecDepth 100000 in
set_option maxHeartbeats 4000000 in
theorem gX9_rowsThere_4 {w : aW} {mm : Nat} {C : aIF} {S : aS} {l1 : Int} {l2 : Nat} {P : Int → aIF → Prop} (hw : ((4 ≤ (l2 : Int)) → P l1 C) ∧ ((¬ (4 ≤ (l2 : Int))) → (l2 < 4) ∧ (kMetI w mX3_isBare [aO 3 l2] C S (rf mm) (fun x2 C3 => ((x2 ≠ 0) → (l2 + 1 < 2147483648) ∧ (kRunI w mX9_rowsThere 4 [some (aO 1 0), some (aI l1), some (aI ((((l2 + 1) : Nat) : Int)))] [] C3 S (rf mm) P)) ∧ ((x2 = 0) → (-2147483648 ≤ (l1 + 1) ∧ (l1 + 1) < 2147483648) ∧ ((l2 + 1 < 2147483648) ∧ (kRunI w mX9_rowsThere 4 [some (aO 1 0), some (aI ((l1 + 1))), some (aI ((((l2 + 1) : Nat) : Int)))] [] C3 S (rf mm) P))))))) : kRunI w mX9_rowsThere 4 [some (aO 1 0), some (aI l1), some (aI ((l2 : Int)))] [] C S (rf mm) P := by
  refine aIload_n (pc' := 5) dX9_rowsThere_4 rfl rfl ?_
  refine aIconst (pc' := 6) ⟨by decide, by decide⟩ dX9_rowsThere_5 rfl ?_
  refine aIcmp_ge (tgt := 30) (pc' := 9) dX9_rowsThere_6 (by decide) rfl (fun hc => ?_) (fun hc => ?_)
  · have hw := hw.1 hc
    refine aIload_n (pc' := 31) dX9_rowsThere_30 rfl rfl ?_
    exact cIret dX9_rowsThere_31 okX9_rowsThere rfl ⟨rfl, _, rfl, _, rfl, hw⟩
  · have hw := hw.2 hc
    refine aAload_n (pc' := 10) dX9_rowsThere_9 rfl rfl ?_
    refine aGetR (pc' := 13) (q := (2, 0)) dX9_rowsThere_10 fX9_11 rfl rfl (lv (by decide)) rfl rfl ?_
    refine aIload_n (pc' := 14) dX9_rowsThere_13 rfl rfl ?_
    obtain ⟨h1, hw⟩ := hw
    refine aAald (pc' := 15) (j := l2) (q := (3, l2)) dX9_rowsThere_14 (t := 3) rfl ⟨by decide, by decide⟩ (lv (by decide)) rfl h1 rfl rfl ?_
    refine cVI (c := 3) (pc' := 18) [] dX9_rowsThere_15 lX9_56 okX3_isBare ⟨by decide, by decide⟩ npX3_isBare rfl rfl rfl rfl rfl h1 rfl (cMetI_mono hw (fun x2 J4 hw => ?_))
    obtain ⟨C3, rfl, hw⟩ := hw
    refine aIf_ne (tgt := 24) (pc' := 21) dX9_rowsThere_18 (by decide) rfl (fun hc => ?_) (fun hc => ?_)
    · have hw := hw.1 hc
      obtain ⟨h5, hw⟩ := hw
      refine aIinc1 (pc' := 27) dX9_rowsThere_24 rfl (by decide) h5 rfl (L' := [some (aO 1 0), some (aI l1), some (aI ((((l2 + 1) : Nat) : Int)))]) rfl ?_
      refine aGoto (pc' := 4) dX9_rowsThere_27 (by decide) ?_
      exact hw
    · have hw := hw.2 hc
      obtain ⟨h6, hw⟩ := hw
      refine aIinc (pc' := 24) dX9_rowsThere_21 rfl (by decide) ⟨by decide, by decide⟩ h6.1 h6.2 rfl (L' := [some (aO 1 0), some (aI ((l1 + 1))), some (aI ((l2 : Int)))]) rfl ?_
      obtain ⟨h7, hw⟩ := hw
      refine aIinc1 (pc' := 27) dX9_rowsThere_24 rfl (by decide) h7 rfl (L' := [some (aO 1 0), some (aI ((l1 + 1))), some (aI ((((l2 + 1) : Nat) : Int)))]) rfl ?_
      refine aGoto (pc' := 4) dX9_rowsThere_27 (by decide) ?_
      exact hw
set_option maxRecDepth 100000 in
set_option maxHeartbeats 4000000 in
theorem gX9_run {w : aW} {mm : Nat} {C : aIF} {S : aS} {p1 : Int} {P : Int → aIF → Prop} (hw : ((p1 < 1) → P (-2) C) ∧ ((¬ (p1 < 1)) → ((p1 ≤ 2000) → (((C 21 0 4) ≠ 0) → kRunI w mX9_run 30 [some (aO 1 0), some (aI p1), some (aI 0)] [] C S (rf mm) P) ∧ (((C 21 0 4) = 0) → P (-9) C)) ∧ ((¬ (p1 ≤ 2000)) → P (-2) C))) : kMetI w mX9_run [aO 1 0, aI p1] C S (rf mm) P := by
  refine cMet_of okX9_run (Nat.le_of_ble_eq_true rfl) (fun hos => ?_)
  show cRun w mX9_run 0 [some (aO 1 0), some (aI p1), none] [] (mem C S) (rf mm) (kqI (rf mm) S P)
  refine aIload_n (pc' := 1) dX9_run_0 rfl rfl ?_
  refine aIconst (pc' := 2) ⟨by decide, by decide⟩ dX9_run_1 rfl ?_
  refine aIcmp_lt (tgt := 12) (pc' := 5) dX9_run_2 (by decide) rfl (fun hc => ?_) (fun hc => ?_)
  · have hw := hw.1 hc
    refine aBipush (pc' := 14) ⟨by decide, by decide⟩ dX9_run_12 rfl ?_
    exact cIret dX9_run_14 okX9_run rfl ⟨rfl, _, rfl, _, rfl, hw⟩
  · have hw := hw.2 hc
    refine aIload_n (pc' := 6) dX9_run_5 rfl rfl ?_
    refine aSipush (pc' := 9) ⟨by decide, by decide⟩ dX9_run_6 rfl ?_
    refine aIcmp_le (tgt := 15) (pc' := 12) dX9_run_9 (by decide) rfl (fun hc => ?_) (fun hc => ?_)
    · have hw := hw.1 hc
      refine aAload_n (pc' := 16) dX9_run_15 rfl rfl ?_
      refine aGetR (pc' := 19) (q := (21, 0)) dX9_run_16 fX9_44 rfl rfl (lv (by decide)) rfl rfl ?_
      refine aGetI (pc' := 22) dX9_run_19 fX9_88 rfl rfl (lv (by decide)) rfl ?_
      refine aTopEq (y := (C 21 0 4)) rfl ?_
      refine aIf_ne (tgt := 28) (pc' := 25) dX9_run_22 (by decide) rfl (fun hc => ?_) (fun hc => ?_)
      · have hw := hw.1 hc
        refine aIconst (pc' := 29) ⟨by decide, by decide⟩ dX9_run_28 rfl ?_
        refine aIstore_n (pc' := 30) dX9_run_29 (by decide) rfl (L' := [some (aO 1 0), some (aI p1), some (aI 0)]) rfl ?_
        exact hw
      · have hw := hw.2 hc
        refine aBipush (pc' := 27) ⟨by decide, by decide⟩ dX9_run_25 rfl ?_
        exact cIret dX9_run_27 okX9_run rfl ⟨rfl, _, rfl, _, rfl, hw⟩
    · have hw := hw.2 hc
      refine aBipush (pc' := 14) ⟨by decide, by decide⟩ dX9_run_12 rfl ?_
      exact cIret dX9_run_14 okX9_run rfl ⟨rfl, _, rfl, _, rfl, hw⟩
set_option maxRecDepth 100000 in
set_option maxHeartbeats 4000000 in
theorem gX9_run_30 {w : aW} {mm : Nat} {C : aIF} {S : aS} {p1 : Int} {l2 : Nat} {P : Int → aIF → Prop} (hw : ((p1 ≤ (l2 : Int)) → P (C 21 0 5) C) ∧ ((¬ (p1 ≤ (l2 : Int))) → kMetI w mX7_someGoOn [aO 21 0] C S (rf mm) (fun x1 C2 => ((x1 = 0) → P (C2 21 0 5) C2) ∧ ((¬ (x1 = 0)) → kMetV w mX7_tick [aO 21 0] C2 S (rf mm) (fun C5 => (l2 + 1 < 2147483648) ∧ (kRunI w mX9_run 30 [some (aO 1 0), some (aI p1), some (aI ((((l2 + 1) : Nat) : Int)))] [] C5 S (rf mm) P)))))) : kRunI w mX9_run 30 [some (aO 1 0), some (aI p1), some (aI ((l2 : Int)))] [] C S (rf mm) P := by
  refine aIload_n (pc' := 31) dX9_run_30 rfl rfl ?_
  refine aIload_n (pc' := 32) dX9_run_31 rfl rfl ?_
  refine aIcmp_ge (tgt := 58) (pc' := 35) dX9_run_32 (by decide) rfl (fun hc => ?_) (fun hc => ?_)
  · have hw := hw.1 hc
    refine aAload_n (pc' := 59) dX9_run_58 rfl rfl ?_
    refine aGetR (pc' := 62) (q := (21, 0)) dX9_run_59 fX9_44 rfl rfl (lv (by decide)) rfl rfl ?_
    refine aGetI (pc' := 65) dX9_run_62 fX9_169 rfl rfl (lv (by decide)) rfl ?_
    refine aTopEq (y := (C 21 0 5)) rfl ?_
    exact cIret dX9_run_65 okX9_run rfl ⟨rfl, _, rfl, _, rfl, hw⟩
  · have hw := hw.2 hc
    refine aAload_n (pc' := 36) dX9_run_35 rfl rfl ?_
    refine aGetR (pc' := 39) (q := (21, 0)) dX9_run_36 fX9_44 rfl rfl (lv (by decide)) rfl rfl ?_
    refine cVI (c := 7) (pc' := 42) [] dX9_run_39 lX9_163 okX7_someGoOn ⟨by decide, by decide⟩ npX7_someGoOn rfl rfl rfl rfl rfl (by decide) rfl (cMetI_mono hw (fun x1 J3 hw => ?_))
    obtain ⟨C2, rfl, hw⟩ := hw
    refine aIf_eq (tgt := 58) (pc' := 45) dX9_run_42 (by decide) rfl (fun hc => ?_) (fun hc => ?_)
    · have hw := hw.1 hc
      refine aAload_n (pc' := 59) dX9_run_58 rfl rfl ?_
      refine aGetR (pc' := 62) (q := (21, 0)) dX9_run_59 fX9_44 rfl rfl (lv (by decide)) rfl rfl ?_
      refine aGetI (pc' := 65) dX9_run_62 fX9_169 rfl rfl (lv (by decide)) rfl ?_
      refine aTopEq (y := (C2 21 0 5)) rfl ?_
      exact cIret dX9_run_65 okX9_run rfl ⟨rfl, _, rfl, _, rfl, hw⟩
    · have hw := hw.2 hc
      refine aAload_n (pc' := 46) dX9_run_45 rfl rfl ?_
      refine aGetR (pc' := 49) (q := (21, 0)) dX9_run_46 fX9_44 rfl rfl (lv (by decide)) rfl rfl ?_
      refine cVV (c := 7) (pc' := 52) [] dX9_run_49 lX9_166 okX7_tick ⟨by decide, by decide⟩ npX7_tick rfl rfl rfl rfl rfl (by decide) rfl (cMetV_mono hw (fun J6 hw => ?_))
      obtain ⟨C5, rfl, hw⟩ := hw
      obtain ⟨h7, hw⟩ := hw
      refine aIinc1 (pc' := 55) dX9_run_52 rfl (by decide) h7 rfl (L' := [some (aO 1 0), some (aI p1), some (aI ((((l2 + 1) : Nat) : Int)))]) rfl ?_
      refine aGoto (pc' := 30) dX9_run_55 (by decide) ?_
      exact hw
set_option maxRecDepth 100000 in
set_option maxHeartbeats 4000000 in
theorem gX9_share {w : aW} {mm : Nat} {C : aIF} {S : aS} {p1 : Int} {P : Int → aIF → Prop} (hw : kMetI w mX9_isProgram [aO 1 0, aI p1] C S (rf mm) (fun x1 C2 => ((x1 = 0) → P (-1) C2) ∧ ((¬ (x1 = 0)) → (((C2 10 0 4) ≠ 0) → (0 ≤ p1 ∧ p1 < ((6 : Nat) : Int)) ∧ ((-2147483648 ≤ ((C2 17 0 ((p1).toNat)) * (C2 9 0 0)) ∧ ((C2 17 0 ((p1).toNat)) * (C2 9 0 0)) < 2147483648) ∧ (P ((C2 17 0 ((p1).toNat)) * (C2 9 0 0)) C2))) ∧ (((C2 10 0 4) = 0) → P (-1) C2)))) : kMetI w mX9_share [aO 1 0, aI p1] C S (rf mm) P := by
  refine cMet_of okX9_share (Nat.le_of_ble_eq_true rfl) (fun hos => ?_)
  show cRun w mX9_share 0 [some (aO 1 0), some (aI p1)] [] (mem C S) (rf mm) (kqI (rf mm) S P)
  refine aAload_n (pc' := 1) dX9_share_0 rfl rfl ?_
  refine aIload_n (pc' := 2) dX9_share_1 rfl rfl ?_
  refine cVI (c := 9) (pc' := 5) [aI p1] dX9_share_2 lX9_130 okX9_isProgram ⟨by decide, by decide⟩ npX9_isProgram rfl rfl rfl rfl rfl (by decide) rfl (cMetI_mono hw (fun x1 J3 hw => ?_))
  obtain ⟨C2, rfl, hw⟩ := hw
  refine aIf_eq (tgt := 18) (pc' := 8) dX9_share_5 (by decide) rfl (fun hc => ?_) (fun hc => ?_)
  · have hw := hw.1 hc
    refine aIconst (pc' := 19) ⟨by decide, by decide⟩ dX9_share_18 rfl ?_
    exact cIret dX9_share_19 okX9_share rfl ⟨rfl, _, rfl, _, rfl, hw⟩
  · have hw := hw.2 hc
    refine aAload_n (pc' := 9) dX9_share_8 rfl rfl ?_
    refine aGetR (pc' := 12) (q := (10, 0)) dX9_share_9 fX9_35 rfl rfl (lv (by decide)) rfl rfl ?_
    refine aGetI (pc' := 15) dX9_share_12 fX9_111 rfl rfl (lv (by decide)) rfl ?_
    refine aTopEq (y := (C2 10 0 4)) rfl ?_
    refine aIf_ne (tgt := 20) (pc' := 18) dX9_share_15 (by decide) rfl (fun hc => ?_) (fun hc => ?_)
    · have hw := hw.1 hc
      refine aAload_n (pc' := 21) dX9_share_20 rfl rfl ?_
      refine aGetR (pc' := 24) (q := (10, 0)) dX9_share_21 fX9_35 rfl rfl (lv (by decide)) rfl rfl ?_
      refine aGetR (pc' := 27) (q := (17, 0)) dX9_share_24 fX9_155 rfl rfl (lv (by decide)) rfl rfl ?_
      refine aIload_n (pc' := 28) dX9_share_27 rfl rfl ?_
      obtain ⟨h4, hw⟩ := hw
      refine aIald (pc' := 29) (j := (p1).toNat) dX9_share_28 rfl (lv (by decide)) (tnIx h4).1 (tnIx h4).2 rfl ?_
      refine aTopEq (y := (C2 17 0 ((p1).toNat))) rfl ?_
      refine aAload_n (pc' := 30) dX9_share_29 rfl rfl ?_
      refine aGetR (pc' := 33) (q := (9, 0)) dX9_share_30 fX9_26 rfl rfl (lv (by decide)) rfl rfl ?_
      refine aGetI (pc' := 36) dX9_share_33 fX9_96 rfl rfl (lv (by decide)) rfl ?_
      refine aTopEq (y := (C2 9 0 0)) rfl ?_
      obtain ⟨h5, hw⟩ := hw
      refine aImul (pc' := 37) h5.1 h5.2 dX9_share_36 rfl ?_
      exact cIret dX9_share_37 okX9_share rfl ⟨rfl, _, rfl, _, rfl, hw⟩
    · have hw := hw.2 hc
      refine aIconst (pc' := 19) ⟨by decide, by decide⟩ dX9_share_18 rfl ?_
      exact cIret dX9_share_19 okX9_share rfl ⟨rfl, _, rfl, _, rfl, hw⟩
set_option maxRecDepth 100000 in
set_option maxHeartbeats 4000000 in
theorem gX9_stop {w : aW} {mm : Nat} {C : aIF} {S : aS} {P : Int → aIF → Prop} (hw : ((C 21 0 4) = 0 ∨ (C 21 0 4) = 1) ∧ (P (C 21 0 4) (uI C 21 0 4 0))) : kMetI w mX9_stop [aO 1 0] C S (rf mm) P := by
  refine cMet_of okX9_stop (Nat.le_of_ble_eq_true rfl) (fun hos => ?_)
  show cRun w mX9_stop 0 [some (aO 1 0), none] [] (mem C S) (rf mm) (kqI (rf mm) S P)
  refine aAload_n (pc' := 1) dX9_stop_0 rfl rfl ?_
  refine aGetR (pc' := 4) (q := (21, 0)) dX9_stop_1 fX9_44 rfl rfl (lv (by decide)) rfl rfl ?_
  refine aGetI (pc' := 7) dX9_stop_4 fX9_88 rfl rfl (lv (by decide)) rfl ?_
  refine aTopEq (y := (C 21 0 4)) rfl ?_
  refine aIstore_n (pc' := 8) dX9_stop_7 (by decide) rfl (L' := [some (aO 1 0), some (aI ((C 21 0 4)))]) rfl ?_
  refine aAload_n (pc' := 9) dX9_stop_8 rfl rfl ?_
  refine aGetR (pc' := 12) (q := (21, 0)) dX9_stop_9 fX9_44 rfl rfl (lv (by decide)) rfl rfl ?_
  refine aIconst (pc' := 13) ⟨by decide, by decide⟩ dX9_stop_12 rfl ?_
  refine aPutZ (pc' := 16) dX9_stop_13 fX9_88 rfl rfl (Or.inl rfl) (lv (by decide)) (by decide) rfl (cEqI (mK rfl) ?_)
  refine aIload_n (pc' := 17) dX9_stop_16 rfl rfl ?_
  exact cZret dX9_stop_17 okX9_stop rfl hw.1 ⟨rfl, _, rfl, _, rfl, hw.2⟩
set_option maxRecDepth 100000 in
set_option maxHeartbeats 4000000 in
theorem gX9_tear {w : aW} {mm : Nat} {C : aIF} {S : aS} {p1 : Int} {P : Int → aIF → Prop} (hw : kMetI w mX9_isSlot [aO 1 0, aI p1] C S (rf mm) (fun x1 C2 => ((x1 = 0) → P 0 C2) ∧ ((¬ (x1 = 0)) → (0 ≤ p1 ∧ p1 < ((4 : Nat) : Int)) ∧ (kMetI w mX3_isBare [aO 3 ((p1).toNat)] C2 S (rf mm) (fun x5 C6 => ((x5 = 0) → kMetV w mX3_strip [aO 3 ((p1).toNat)] C6 S (rf mm) (fun C9 => P 1 C9)) ∧ ((¬ (x5 = 0)) → P 0 C6)))))) : kMetI w mX9_tear [aO 1 0, aI p1] C S (rf mm) P := by
  refine cMet_of okX9_tear (Nat.le_of_ble_eq_true rfl) (fun hos => ?_)
  show cRun w mX9_tear 0 [some (aO 1 0), some (aI p1)] [] (mem C S) (rf mm) (kqI (rf mm) S P)
  refine aAload_n (pc' := 1) dX9_tear_0 rfl rfl ?_
  refine aIload_n (pc' := 2) dX9_tear_1 rfl rfl ?_
  refine cVI (c := 9) (pc' := 5) [aI p1] dX9_tear_2 lX9_48 okX9_isSlot ⟨by decide, by decide⟩ npX9_isSlot rfl rfl rfl rfl rfl (by decide) rfl (cMetI_mono hw (fun x1 J3 hw => ?_))
  obtain ⟨C2, rfl, hw⟩ := hw
  refine aIf_eq (tgt := 20) (pc' := 8) dX9_tear_5 (by decide) rfl (fun hc => ?_) (fun hc => ?_)
  · have hw := hw.1 hc
    refine aIconst (pc' := 21) ⟨by decide, by decide⟩ dX9_tear_20 rfl ?_
    exact cZret dX9_tear_21 okX9_tear rfl (by decide) ⟨rfl, _, rfl, _, rfl, hw⟩
  · have hw := hw.2 hc
    refine aAload_n (pc' := 9) dX9_tear_8 rfl rfl ?_
    refine aGetR (pc' := 12) (q := (2, 0)) dX9_tear_9 fX9_11 rfl rfl (lv (by decide)) rfl rfl ?_
    refine aIload_n (pc' := 13) dX9_tear_12 rfl rfl ?_
    obtain ⟨h4, hw⟩ := hw
    refine aAald (pc' := 14) (j := (p1).toNat) (q := (3, (p1).toNat)) dX9_tear_13 (t := 3) rfl ⟨by decide, by decide⟩ (lv (by decide)) (tnIx h4).1 (tnIx h4).2 rfl rfl ?_
    refine cVI (c := 3) (pc' := 17) [] dX9_tear_14 lX9_56 okX3_isBare ⟨by decide, by decide⟩ npX3_isBare rfl rfl rfl rfl rfl (tnIx h4).2 rfl (cMetI_mono hw (fun x5 J7 hw => ?_))
    obtain ⟨C6, rfl, hw⟩ := hw
    refine aIf_eq (tgt := 22) (pc' := 20) dX9_tear_17 (by decide) rfl (fun hc => ?_) (fun hc => ?_)
    · have hw := hw.1 hc
      refine aAload_n (pc' := 23) dX9_tear_22 rfl rfl ?_
      refine aGetR (pc' := 26) (q := (2, 0)) dX9_tear_23 fX9_11 rfl rfl (lv (by decide)) rfl rfl ?_
      refine aIload_n (pc' := 27) dX9_tear_26 rfl rfl ?_
      refine aAald (pc' := 28) (j := (p1).toNat) (q := (3, (p1).toNat)) dX9_tear_27 (t := 3) rfl ⟨by decide, by decide⟩ (lv (by decide)) (tnIx h4).1 (tnIx h4).2 rfl rfl ?_
      refine cVV (c := 3) (pc' := 31) [] dX9_tear_28 lX9_60 okX3_strip ⟨by decide, by decide⟩ npX3_strip rfl rfl rfl rfl rfl (tnIx h4).2 rfl (cMetV_mono hw (fun J10 hw => ?_))
      obtain ⟨C9, rfl, hw⟩ := hw
      refine aIconst (pc' := 32) ⟨by decide, by decide⟩ dX9_tear_31 rfl ?_
      exact cZret dX9_tear_32 okX9_tear rfl (by decide) ⟨rfl, _, rfl, _, rfl, hw⟩
    · have hw := hw.2 hc
      refine aIconst (pc' := 21) ⟨by decide, by decide⟩ dX9_tear_20 rfl ?_
      exact cZret dX9_tear_21 okX9_tear rfl (by decide) ⟨rfl, _, rfl, _, rfl, hw⟩
set_option maxRecDepth 100000 in
set_option maxHeartbeats 4000000 in
theorem gX9_terms {w : aW} {mm : Nat} {C : aIF} {S : aS} {p1 : Int} {p2 : Int} {p3 : Int} {p4 : Int} {p5 : Int} {P : Int → aIF → Prop} (hw : (((C 21 0 4) = 0) → kMetI w mX5_areSound [aI p1, aI p2, aI p3] C S (rf mm) (fun x1 C2 => ((x1 = 0) → P (-2) C2) ∧ ((¬ (x1 = 0)) → ((p4 < 1) → P (-2) C2) ∧ ((¬ (p4 < 1)) → ((1000 < p4) → P (-2) C2) ∧ ((¬ (1000 < p4)) → ((p5 < 0) → P (-2) C2) ∧ ((¬ (p5 < 0)) → ((p5 ≤ 9) → kRunI w mX9_terms 104 [some (aO 1 0), some (aI p1), some (aI p2), some (aI p3), some (aI p4), some (aI p5), some (aI 0)] [] (uI (uI (uI (uI (uI (uI C2 9 0 0 p1) 9 0 1 p2) 9 0 2 p3) 9 0 3 p4) 9 0 4 p5) 10 0 4 0) S (rf mm) P) ∧ ((¬ (p5 ≤ 9)) → P (-2) C2))))))) ∧ ((¬ ((C 21 0 4) = 0)) → P (-9) C)) : kMetI w mX9_terms [aO 1 0, aI p1, aI p2, aI p3, aI p4, aI p5] C S (rf mm) P := by
  refine cMet_of okX9_terms (Nat.le_of_ble_eq_true rfl) (fun hos => ?_)
  show cRun w mX9_terms 0 [some (aO 1 0), some (aI p1), some (aI p2), some (aI p3), some (aI p4), some (aI p5), none] [] (mem C S) (rf mm) (kqI (rf mm) S P)
  refine aAload_n (pc' := 1) dX9_terms_0 rfl rfl ?_
  refine aGetR (pc' := 4) (q := (21, 0)) dX9_terms_1 fX9_44 rfl rfl (lv (by decide)) rfl rfl ?_
  refine aGetI (pc' := 7) dX9_terms_4 fX9_88 rfl rfl (lv (by decide)) rfl ?_
  refine aTopEq (y := (C 21 0 4)) rfl ?_
  refine aIf_eq (tgt := 13) (pc' := 10) dX9_terms_7 (by decide) rfl (fun hc => ?_) (fun hc => ?_)
  · have hw := hw.1 hc
    refine aIload_n (pc' := 14) dX9_terms_13 rfl rfl ?_
    refine aIload_n (pc' := 15) dX9_terms_14 rfl rfl ?_
    refine aIload_n (pc' := 16) dX9_terms_15 rfl rfl ?_
    refine cSI (pc' := 19) [aI p1, aI p2, aI p3] dX9_terms_16 lX9_92 okX5_areSound ⟨by decide, by decide⟩ npX5_areSound rfl rfl rfl (cMetI_mono hw (fun x1 J3 hw => ?_))
    obtain ⟨C2, rfl, hw⟩ := hw
    refine aIf_eq (tgt := 48) (pc' := 22) dX9_terms_19 (by decide) rfl (fun hc => ?_) (fun hc => ?_)
    · have hw := hw.1 hc
      refine aBipush (pc' := 50) ⟨by decide, by decide⟩ dX9_terms_48 rfl ?_
      exact cIret dX9_terms_50 okX9_terms rfl ⟨rfl, _, rfl, _, rfl, hw⟩
    · have hw := hw.2 hc
      refine aIload (pc' := 24) dX9_terms_22 rfl rfl ?_
      refine aIconst (pc' := 25) ⟨by decide, by decide⟩ dX9_terms_24 rfl ?_
      refine aIcmp_lt (tgt := 48) (pc' := 28) dX9_terms_25 (by decide) rfl (fun hc => ?_) (fun hc => ?_)
      · have hw := hw.1 hc
        refine aBipush (pc' := 50) ⟨by decide, by decide⟩ dX9_terms_48 rfl ?_
        exact cIret dX9_terms_50 okX9_terms rfl ⟨rfl, _, rfl, _, rfl, hw⟩
      · have hw := hw.2 hc
        refine aIload (pc' := 30) dX9_terms_28 rfl rfl ?_
        refine aSipush (pc' := 33) ⟨by decide, by decide⟩ dX9_terms_30 rfl ?_
        refine aIcmp_gt (tgt := 48) (pc' := 36) dX9_terms_33 (by decide) rfl (fun hc => ?_) (fun hc => ?_)
        · have hw := hw.1 hc
          refine aBipush (pc' := 50) ⟨by decide, by decide⟩ dX9_terms_48 rfl ?_
          exact cIret dX9_terms_50 okX9_terms rfl ⟨rfl, _, rfl, _, rfl, hw⟩
        · have hw := hw.2 hc
          refine aIload (pc' := 38) dX9_terms_36 rfl rfl ?_
          refine aIf_lt (tgt := 48) (pc' := 41) dX9_terms_38 (by decide) rfl (fun hc => ?_) (fun hc => ?_)
          · have hw := hw.1 hc
            refine aBipush (pc' := 50) ⟨by decide, by decide⟩ dX9_terms_48 rfl ?_
            exact cIret dX9_terms_50 okX9_terms rfl ⟨rfl, _, rfl, _, rfl, hw⟩
          · have hw := hw.2 hc
            refine aIload (pc' := 43) dX9_terms_41 rfl rfl ?_
            refine aBipush (pc' := 45) ⟨by decide, by decide⟩ dX9_terms_43 rfl ?_
            refine aIcmp_le (tgt := 51) (pc' := 48) dX9_terms_45 (by decide) rfl (fun hc => ?_) (fun hc => ?_)
            · have hw := hw.1 hc
              refine aAload_n (pc' := 52) dX9_terms_51 rfl rfl ?_
              refine aGetR (pc' := 55) (q := (9, 0)) dX9_terms_52 fX9_26 rfl rfl (lv (by decide)) rfl rfl ?_
              refine aIload_n (pc' := 56) dX9_terms_55 rfl rfl ?_
              refine aPutI (pc' := 59) dX9_terms_56 fX9_96 rfl rfl (Or.inl rfl) (lv (by decide)) rfl (cEqI (mK rfl) ?_)
              refine aAload_n (pc' := 60) dX9_terms_59 rfl rfl ?_
              refine aGetR (pc' := 63) (q := (9, 0)) dX9_terms_60 fX9_26 rfl rfl (lv (by decide)) rfl rfl ?_
              refine aIload_n (pc' := 64) dX9_terms_63 rfl rfl ?_
              refine aPutI (pc' := 67) dX9_terms_64 fX9_99 rfl rfl (Or.inl rfl) (lv (by decide)) rfl (cEqI (mK rfl) ?_)
              refine aAload_n (pc' := 68) dX9_terms_67 rfl rfl ?_
              refine aGetR (pc' := 71) (q := (9, 0)) dX9_terms_68 fX9_26 rfl rfl (lv (by decide)) rfl rfl ?_
              refine aIload_n (pc' := 72) dX9_terms_71 rfl rfl ?_
              refine aPutI (pc' := 75) dX9_terms_72 fX9_102 rfl rfl (Or.inl rfl) (lv (by decide)) rfl (cEqI (mK rfl) ?_)
              refine aAload_n (pc' := 76) dX9_terms_75 rfl rfl ?_
              refine aGetR (pc' := 79) (q := (9, 0)) dX9_terms_76 fX9_26 rfl rfl (lv (by decide)) rfl rfl ?_
              refine aIload (pc' := 81) dX9_terms_79 rfl rfl ?_
              refine aPutI (pc' := 84) dX9_terms_81 fX9_105 rfl rfl (Or.inl rfl) (lv (by decide)) rfl (cEqI (mK rfl) ?_)
              refine aAload_n (pc' := 85) dX9_terms_84 rfl rfl ?_
              refine aGetR (pc' := 88) (q := (9, 0)) dX9_terms_85 fX9_26 rfl rfl (lv (by decide)) rfl rfl ?_
              refine aIload (pc' := 90) dX9_terms_88 rfl rfl ?_
              refine aPutI (pc' := 93) dX9_terms_90 fX9_108 rfl rfl (Or.inl rfl) (lv (by decide)) rfl (cEqI (mK rfl) ?_)
              refine aAload_n (pc' := 94) dX9_terms_93 rfl rfl ?_
              refine aGetR (pc' := 97) (q := (10, 0)) dX9_terms_94 fX9_35 rfl rfl (lv (by decide)) rfl rfl ?_
              refine aIconst (pc' := 98) ⟨by decide, by decide⟩ dX9_terms_97 rfl ?_
              refine aPutZ (pc' := 101) dX9_terms_98 fX9_111 rfl rfl (Or.inl rfl) (lv (by decide)) (by decide) rfl (cEqI (mK rfl) ?_)
              refine aIconst (pc' := 102) ⟨by decide, by decide⟩ dX9_terms_101 rfl ?_
              refine aIstore (pc' := 104) dX9_terms_102 (by decide) rfl (L' := [some (aO 1 0), some (aI p1), some (aI p2), some (aI p3), some (aI p4), some (aI p5), some (aI 0)]) rfl ?_
              exact hw
            · have hw := hw.2 hc
              refine aBipush (pc' := 50) ⟨by decide, by decide⟩ dX9_terms_48 rfl ?_
              exact cIret dX9_terms_50 okX9_terms rfl ⟨rfl, _, rfl, _, rfl, hw⟩
  · have hw := hw.2 hc
    refine aBipush (pc' := 12) ⟨by decide, by decide⟩ dX9_terms_10 rfl ?_
    exact cIret dX9_terms_12 okX9_terms rfl ⟨rfl, _, rfl, _, rfl, hw⟩
set_option maxRecDepth 100000 in
set_option maxHeartbeats 4000000 in
theorem gX9_terms_104 {w : aW} {mm : Nat} {C : aIF} {S : aS} {p1 : Int} {p2 : Int} {p3 : Int} {p4 : Int} {p5 : Int} {l6 : Nat} {P : Int → aIF → Prop} (hw : (((C 1 0 5) ≤ (l6 : Int)) → P 0 C) ∧ ((¬ ((C 1 0 5) ≤ (l6 : Int))) → (l6 < 6) ∧ ((l6 + 1 < 2147483648) ∧ (kRunI w mX9_terms 104 [some (aO 1 0), some (aI p1), some (aI p2), some (aI p3), some (aI p4), some (aI p5), some (aI ((((l6 + 1) : Nat) : Int)))] [] (uI C 6 l6 6 0) S (rf mm) P)))) : kRunI w mX9_terms 104 [some (aO 1 0), some (aI p1), some (aI p2), some (aI p3), some (aI p4), some (aI p5), some (aI ((l6 : Int)))] [] C S (rf mm) P := by
  refine aIload (pc' := 106) dX9_terms_104 rfl rfl ?_
  refine aAload_n (pc' := 107) dX9_terms_106 rfl rfl ?_
  refine aGetI (pc' := 110) dX9_terms_107 fX9_114 rfl rfl (lv (by decide)) rfl ?_
  refine aTopEq (y := (C 1 0 5)) rfl ?_
  refine aIcmp_ge (tgt := 130) (pc' := 113) dX9_terms_110 (by decide) rfl (fun hc => ?_) (fun hc => ?_)
  · have hw := hw.1 hc
    refine aIconst (pc' := 131) ⟨by decide, by decide⟩ dX9_terms_130 rfl ?_
    exact cIret dX9_terms_131 okX9_terms rfl ⟨rfl, _, rfl, _, rfl, hw⟩
  · have hw := hw.2 hc
    refine aAload_n (pc' := 114) dX9_terms_113 rfl rfl ?_
    refine aGetR (pc' := 117) (q := (5, 0)) dX9_terms_114 fX9_18 rfl rfl (lv (by decide)) rfl rfl ?_
    refine aIload (pc' := 119) dX9_terms_117 rfl rfl ?_
    obtain ⟨h1, hw⟩ := hw
    refine aAald (pc' := 120) (j := l6) (q := (6, l6)) dX9_terms_119 (t := 4) rfl ⟨by decide, by decide⟩ (lv (by decide)) rfl h1 rfl rfl ?_
    refine aIconst (pc' := 121) ⟨by decide, by decide⟩ dX9_terms_120 rfl ?_
    refine aPutZ (pc' := 124) dX9_terms_121 fX9_117 rfl rfl (Or.inl rfl) (lv h1) (by decide) rfl (cEqI (mK rfl) ?_)
    obtain ⟨h2, hw⟩ := hw
    refine aIinc1 (pc' := 127) dX9_terms_124 rfl (by decide) h2 rfl (L' := [some (aO 1 0), some (aI p1), some (aI p2), some (aI p3), some (aI p4), some (aI p5), some (aI ((((l6 + 1) : Nat) : Int)))]) rfl ?_
    refine aGoto (pc' := 104) dX9_terms_127 (by decide) ?_
    exact hw
set_option maxRecDepth 100000 in
set_option maxHeartbeats 4000000 in
theorem gX9_time {w : aW} {mm : Nat} {C : aIF} {S : aS} {p1 : Int} {p2 : Int} {P : Int → aIF → Prop} (hw : kMetI w mX9_isProgram [aO 1 0, aI p1] C S (rf mm) (fun x1 C2 => ((x1 = 0) → P (-2) C2) ∧ ((¬ (x1 = 0)) → ((p2 < 0) → P (-2) C2) ∧ ((¬ (p2 < 0)) → ((p2 ≤ 4096) → (0 ≤ p1 ∧ p1 < ((6 : Nat) : Int)) ∧ (kMetI w mX0_timeByRoom [aO 10 0, aO 6 ((p1).toNat), aI p2] C2 S (rf mm) (fun x5 C6 => P x5 C6))) ∧ ((¬ (p2 ≤ 4096)) → P (-2) C2))))) : kMetI w mX9_time [aO 1 0, aI p1, aI p2] C S (rf mm) P := by
  refine cMet_of okX9_time (Nat.le_of_ble_eq_true rfl) (fun hos => ?_)
  show cRun w mX9_time 0 [some (aO 1 0), some (aI p1), some (aI p2)] [] (mem C S) (rf mm) (kqI (rf mm) S P)
  refine aAload_n (pc' := 1) dX9_time_0 rfl rfl ?_
  refine aIload_n (pc' := 2) dX9_time_1 rfl rfl ?_
  refine cVI (c := 9) (pc' := 5) [aI p1] dX9_time_2 lX9_130 okX9_isProgram ⟨by decide, by decide⟩ npX9_isProgram rfl rfl rfl rfl rfl (by decide) rfl (cMetI_mono hw (fun x1 J3 hw => ?_))
  obtain ⟨C2, rfl, hw⟩ := hw
  refine aIf_eq (tgt := 19) (pc' := 8) dX9_time_5 (by decide) rfl (fun hc => ?_) (fun hc => ?_)
  · have hw := hw.1 hc
    refine aBipush (pc' := 21) ⟨by decide, by decide⟩ dX9_time_19 rfl ?_
    exact cIret dX9_time_21 okX9_time rfl ⟨rfl, _, rfl, _, rfl, hw⟩
  · have hw := hw.2 hc
    refine aIload_n (pc' := 9) dX9_time_8 rfl rfl ?_
    refine aIf_lt (tgt := 19) (pc' := 12) dX9_time_9 (by decide) rfl (fun hc => ?_) (fun hc => ?_)
    · have hw := hw.1 hc
      refine aBipush (pc' := 21) ⟨by decide, by decide⟩ dX9_time_19 rfl ?_
      exact cIret dX9_time_21 okX9_time rfl ⟨rfl, _, rfl, _, rfl, hw⟩
    · have hw := hw.2 hc
      refine aIload_n (pc' := 13) dX9_time_12 rfl rfl ?_
      refine aSipush (pc' := 16) ⟨by decide, by decide⟩ dX9_time_13 rfl ?_
      refine aIcmp_le (tgt := 22) (pc' := 19) dX9_time_16 (by decide) rfl (fun hc => ?_) (fun hc => ?_)
      · have hw := hw.1 hc
        refine aAload_n (pc' := 23) dX9_time_22 rfl rfl ?_
        refine aGetR (pc' := 26) (q := (10, 0)) dX9_time_23 fX9_35 rfl rfl (lv (by decide)) rfl rfl ?_
        refine aAload_n (pc' := 27) dX9_time_26 rfl rfl ?_
        refine aGetR (pc' := 30) (q := (5, 0)) dX9_time_27 fX9_18 rfl rfl (lv (by decide)) rfl rfl ?_
        refine aIload_n (pc' := 31) dX9_time_30 rfl rfl ?_
        obtain ⟨h4, hw⟩ := hw
        refine aAald (pc' := 32) (j := (p1).toNat) (q := (6, (p1).toNat)) dX9_time_31 (t := 4) rfl ⟨by decide, by decide⟩ (lv (by decide)) (tnIx h4).1 (tnIx h4).2 rfl rfl ?_
        refine aIload_n (pc' := 33) dX9_time_32 rfl rfl ?_
        refine cVI (c := 0) (pc' := 36) [aO 6 ((p1).toNat), aI p2] dX9_time_33 lX9_133 okX0_timeByRoom ⟨by decide, by decide⟩ npX0_timeByRoom rfl rfl rfl rfl rfl (by decide) rfl (cMetI_mono hw (fun x5 J7 hw => ?_))
        obtain ⟨C6, rfl, hw⟩ := hw
        exact cIret dX9_time_36 okX9_time rfl ⟨rfl, _, rfl, _, rfl, hw⟩
      · have hw := hw.2 hc
        refine aBipush (pc' := 21) ⟨by decide, by decide⟩ dX9_time_19 rfl ?_
        exact cIret dX9_time_21 okX9_time rfl ⟨rfl, _, rfl, _, rfl, hw⟩
set_option maxRecDepth 100000 in
set_option maxHeartbeats 4000000 in
theorem gX9_write {w : aW} {mm : Nat} {C : aIF} {S : aS} {p1 : Int} {p2 : Int} {p3 : Int} {P : Int → aIF → Prop} (hw : kMetI w mX9_isSlot [aO 1 0, aI p1] C S (rf mm) (fun x1 C2 => ((x1 ≠ 0) → (0 ≤ p1 ∧ p1 < ((4 : Nat) : Int)) ∧ (kMetI w mX3_isBare [aO 3 ((p1).toNat)] C2 S (rf mm) (fun x5 C6 => ((x5 = 0) → ((p2 < 0) → P (-6) C6) ∧ ((¬ (p2 < 0)) → ((p2 < (C6 3 ((p1).toNat) 2)) → kMetL w mX3_cut [aO 3 ((p1).toNat), aL p3] C6 S (rf mm) (fun x8 C9 => (0 ≤ p2 ∧ p2 < ((60 : Nat) : Int)) ∧ (P 0 (uI C9 4 ((p1).toNat) ((p2).toNat) x8)))) ∧ ((¬ (p2 < (C6 3 ((p1).toNat) 2))) → P (-6) C6))) ∧ ((¬ (x5 = 0)) → P (-5) C6)))) ∧ ((x1 = 0) → P (-2) C2))) : kMetI w mX9_write [aO 1 0, aI p1, aI p2, aL p3] C S (rf mm) P := by
  refine cMet_of okX9_write (Nat.le_of_ble_eq_true rfl) (fun hos => ?_)
  show cRun w mX9_write 0 [some (aO 1 0), some (aI p1), some (aI p2), some (aL p3), none, none] [] (mem C S) (rf mm) (kqI (rf mm) S P)
  refine aAload_n (pc' := 1) dX9_write_0 rfl rfl ?_
  refine aIload_n (pc' := 2) dX9_write_1 rfl rfl ?_
  refine cVI (c := 9) (pc' := 5) [aI p1] dX9_write_2 lX9_48 okX9_isSlot ⟨by decide, by decide⟩ npX9_isSlot rfl rfl rfl rfl rfl (by decide) rfl (cMetI_mono hw (fun x1 J3 hw => ?_))
  obtain ⟨C2, rfl, hw⟩ := hw
  refine aIf_ne (tgt := 11) (pc' := 8) dX9_write_5 (by decide) rfl (fun hc => ?_) (fun hc => ?_)
  · have hw := hw.1 hc
    refine aAload_n (pc' := 12) dX9_write_11 rfl rfl ?_
    refine aGetR (pc' := 15) (q := (2, 0)) dX9_write_12 fX9_11 rfl rfl (lv (by decide)) rfl rfl ?_
    refine aIload_n (pc' := 16) dX9_write_15 rfl rfl ?_
    obtain ⟨h4, hw⟩ := hw
    refine aAald (pc' := 17) (j := (p1).toNat) (q := (3, (p1).toNat)) dX9_write_16 (t := 3) rfl ⟨by decide, by decide⟩ (lv (by decide)) (tnIx h4).1 (tnIx h4).2 rfl rfl ?_
    refine aAstore (pc' := 19) dX9_write_17 (by decide) rfl (L' := [some (aO 1 0), some (aI p1), some (aI p2), some (aL p3), none, some (aO 3 ((p1).toNat))]) rfl ?_
    refine aAload (pc' := 21) dX9_write_19 rfl rfl ?_
    refine cVI (c := 3) (pc' := 24) [] dX9_write_21 lX9_56 okX3_isBare ⟨by decide, by decide⟩ npX3_isBare rfl rfl rfl rfl rfl (tnIx h4).2 rfl (cMetI_mono hw (fun x5 J7 hw => ?_))
    obtain ⟨C6, rfl, hw⟩ := hw
    refine aIf_eq (tgt := 30) (pc' := 27) dX9_write_24 (by decide) rfl (fun hc => ?_) (fun hc => ?_)
    · have hw := hw.1 hc
      refine aIload_n (pc' := 31) dX9_write_30 rfl rfl ?_
      refine aIf_lt (tgt := 43) (pc' := 34) dX9_write_31 (by decide) rfl (fun hc => ?_) (fun hc => ?_)
      · have hw := hw.1 hc
        refine aBipush (pc' := 45) ⟨by decide, by decide⟩ dX9_write_43 rfl ?_
        exact cIret dX9_write_45 okX9_write rfl ⟨rfl, _, rfl, _, rfl, hw⟩
      · have hw := hw.2 hc
        refine aIload_n (pc' := 35) dX9_write_34 rfl rfl ?_
        refine aAload (pc' := 37) dX9_write_35 rfl rfl ?_
        refine aGetI (pc' := 40) dX9_write_37 fX9_63 rfl rfl (lv (tnIx h4).2) rfl ?_
        refine aTopEq (y := (C6 3 ((p1).toNat) 2)) rfl ?_
        refine aIcmp_lt (tgt := 46) (pc' := 43) dX9_write_40 (by decide) rfl (fun hc => ?_) (fun hc => ?_)
        · have hw := hw.1 hc
          refine aAload (pc' := 48) dX9_write_46 rfl rfl ?_
          refine aGetR (pc' := 51) (q := (4, (p1).toNat)) dX9_write_48 fX9_67 rfl rfl (lv (tnIx h4).2) rfl rfl ?_
          refine aIload_n (pc' := 52) dX9_write_51 rfl rfl ?_
          refine aAload (pc' := 54) dX9_write_52 rfl rfl ?_
          refine aLload_n (pc' := 55) dX9_write_54 rfl rfl ?_
          refine cVL (c := 3) (pc' := 58) [aL p3] dX9_write_55 lX9_71 okX3_cut ⟨by decide, by decide⟩ npX3_cut rfl rfl rfl rfl rfl (tnIx h4).2 rfl (cMetL_mono hw (fun x8 J10 hw => ?_))
          obtain ⟨C9, rfl, hw⟩ := hw
          obtain ⟨h11, hw⟩ := hw
          refine aLast (pc' := 59) (j := (p2).toNat) dX9_write_58 rfl (lv (tnIx h4).2) (tnIx h11).1 (tnIx h11).2 rfl (cEqI (mK rfl) ?_)
          refine aIconst (pc' := 60) ⟨by decide, by decide⟩ dX9_write_59 rfl ?_
          exact cIret dX9_write_60 okX9_write rfl ⟨rfl, _, rfl, _, rfl, hw⟩
        · have hw := hw.2 hc
          refine aBipush (pc' := 45) ⟨by decide, by decide⟩ dX9_write_43 rfl ?_
          exact cIret dX9_write_45 okX9_write rfl ⟨rfl, _, rfl, _, rfl, hw⟩
    · have hw := hw.2 hc
      refine aBipush (pc' := 29) ⟨by decide, by decide⟩ dX9_write_27 rfl ?_
      exact cIret dX9_write_29 okX9_write rfl ⟨rfl, _, rfl, _, rfl, hw⟩
  · have hw := hw.2 hc
    refine aBipush (pc' := 10) ⟨by decide, by decide⟩ dX9_write_8 rfl ?_
    exact cIret dX9_write_10 okX9_write rfl ⟨rfl, _, rfl, _, rfl, hw⟩
