set_option maxRecDepth 100000 in
set_option maxHeartbeats 4000000 in
theorem gX0_atBest {w : aW} {mm : Nat} {C : aIF} {S : aS} {cnt : Nat} {P : Int → aIF → Prop} (hw : kMetI w mX5_dealtSteps [aO 9 0] (uI C 10 0 4 0) S (rf mm) (fun x1 C2 => kRunI w mX0_atBest 16 [some (aO 10 0), some (aO 5 0), some (aI ((cnt : Int))), some (aI x1), some (aI 0), none, none] [] C2 S (rf mm) P)) : kMetI w mX0_atBest [aO 10 0, aO 5 0, aI ((cnt : Int))] C S (rf mm) P := by
  refine cMet_of okX0_atBest (Nat.le_of_ble_eq_true rfl) (fun hos => ?_)
  show cRun w mX0_atBest 0 [some (aO 10 0), some (aO 5 0), some (aI ((cnt : Int))), none, none, none, none] [] (mem C S) (rf mm) (kqI (rf mm) S P)
  refine aAload_n (pc' := 1) dX0_atBest_0 rfl rfl ?_
  refine aIconst (pc' := 2) ⟨by decide, by decide⟩ dX0_atBest_1 rfl ?_
  refine aPutZ (pc' := 5) dX0_atBest_2 fX0_25 rfl rfl (Or.inl rfl) (lv (by decide)) (by decide) rfl (cEqI (mK rfl) ?_)
  refine aAload_n (pc' := 6) dX0_atBest_5 rfl rfl ?_
  refine aGetR (pc' := 9) (q := (9, 0)) dX0_atBest_6 fX0_34 rfl rfl (lv (by decide)) rfl rfl ?_
  refine cVI (c := 5) (pc' := 12) [] dX0_atBest_9 lX0_74 okX5_dealtSteps ⟨by decide, by decide⟩ npX5_dealtSteps rfl rfl rfl rfl rfl (by decide) rfl (cMetI_mono hw (fun x1 J3 hw => ?_))
  obtain ⟨C2, rfl, hw⟩ := hw
  refine aIstore_n (pc' := 13) dX0_atBest_12 (by decide) rfl (L' := [some (aO 10 0), some (aO 5 0), some (aI ((cnt : Int))), some (aI x1), none, none, none]) rfl ?_
  refine aIconst (pc' := 14) ⟨by decide, by decide⟩ dX0_atBest_13 rfl ?_
  refine aIstore (pc' := 16) dX0_atBest_14 (by decide) rfl (L' := [some (aO 10 0), some (aO 5 0), some (aI ((cnt : Int))), some (aI x1), some (aI 0), none, none]) rfl ?_
  exact hw
set_option maxRecDepth 100000 in
set_option maxHeartbeats 4000000 in
theorem gX0_atBest_16 {w : aW} {mm : Nat} {C : aIF} {S : aS} {cnt : Nat} {l3 : Int} {l4 : Nat} {P : Int → aIF → Prop} (hw : ((l3 < (l4 : Int)) → (-2147483648 ≤ ((cnt : Int) - 1) ∧ ((cnt : Int) - 1) < 2147483648) ∧ (kRunI w mX0_atBest 43 [some (aO 10 0), some (aO 5 0), some (aI ((cnt : Int))), some (aI l3), some (aI (((cnt : Int) - 1))), none, none] [] C S (rf mm) P)) ∧ ((¬ (l3 < (l4 : Int))) → (cnt < 7) ∧ ((l4 < 65) ∧ ((l4 + 1 < 2147483648) ∧ (kRunI w mX0_atBest 16 [some (aO 10 0), some (aO 5 0), some (aI ((cnt : Int))), some (aI l3), some (aI ((((l4 + 1) : Nat) : Int))), none, none] [] (uI C 20 cnt l4 0) S (rf mm) P))))) : kRunI w mX0_atBest 16 [some (aO 10 0), some (aO 5 0), some (aI ((cnt : Int))), some (aI l3), some (aI ((l4 : Int))), none, none] [] C S (rf mm) P := by
  refine aIload (pc' := 18) dX0_atBest_16 rfl rfl ?_
  refine aIload_n (pc' := 19) dX0_atBest_18 rfl rfl ?_
  refine aIcmp_gt (tgt := 38) (pc' := 22) dX0_atBest_19 (by decide) rfl (fun hc => ?_) (fun hc => ?_)
  · have hw := hw.1 hc
    refine aIload_n (pc' := 39) dX0_atBest_38 rfl rfl ?_
    refine aIconst (pc' := 40) ⟨by decide, by decide⟩ dX0_atBest_39 rfl ?_
    obtain ⟨h1, hw⟩ := hw
    refine aIsub (pc' := 41) h1.1 h1.2 dX0_atBest_40 rfl ?_
    refine aIstore (pc' := 43) dX0_atBest_41 (by decide) rfl (L' := [some (aO 10 0), some (aO 5 0), some (aI ((cnt : Int))), some (aI l3), some (aI (((cnt : Int) - 1))), none, none]) rfl ?_
    exact hw
  · have hw := hw.2 hc
    refine aAload_n (pc' := 23) dX0_atBest_22 rfl rfl ?_
    refine aGetR (pc' := 26) (q := (19, 0)) dX0_atBest_23 fX0_31 rfl rfl (lv (by decide)) rfl rfl ?_
    refine aIload_n (pc' := 27) dX0_atBest_26 rfl rfl ?_
    obtain ⟨h2, hw⟩ := hw
    refine aAald (pc' := 28) (j := cnt) (q := (20, cnt)) dX0_atBest_27 (t := 6) rfl ⟨by decide, by decide⟩ (lv (by decide)) rfl h2 rfl rfl ?_
    refine aIload (pc' := 30) dX0_atBest_28 rfl rfl ?_
    refine aIconst (pc' := 31) ⟨by decide, by decide⟩ dX0_atBest_30 rfl ?_
    obtain ⟨h3, hw⟩ := hw
    refine aIast (pc' := 32) (j := l4) dX0_atBest_31 rfl (lv h2) rfl h3 rfl (cEqI (mK rfl) ?_)
    obtain ⟨h4, hw⟩ := hw
    refine aIinc1 (pc' := 35) dX0_atBest_32 rfl (by decide) h4 rfl (L' := [some (aO 10 0), some (aO 5 0), some (aI ((cnt : Int))), some (aI l3), some (aI ((((l4 + 1) : Nat) : Int))), none, none]) rfl ?_
    refine aGoto (pc' := 16) dX0_atBest_35 (by decide) ?_
    exact hw
set_option maxRecDepth 100000 in
set_option maxHeartbeats 4000000 in
theorem gX0_atBest_43 {w : aW} {mm : Nat} {C : aIF} {S : aS} {cnt : Nat} {l3 : Int} {l4 : Int} {P : Int → aIF → Prop} (hw : ((l4 < 0) → (0 ≤ l3 ∧ l3 < ((65 : Nat) : Int)) ∧ ((((C 20 0 ((l3).toNat)) ≠ (-1)) → kMetV w mX0_takeFirstBest [aO 10 0, aO 5 0, aI ((cnt : Int)), aI l3] C S (rf mm) (fun C3 => P (C3 20 0 ((l3).toNat)) (uI C3 10 0 4 1))) ∧ (((C 20 0 ((l3).toNat)) = (-1)) → P (-1) C))) ∧ ((¬ (l4 < 0)) → (0 ≤ l4 ∧ l4 < ((6 : Nat) : Int)) ∧ (kMetI w mX0_needInSteps [aO 10 0, aO 6 ((l4).toNat)] C S (rf mm) (fun x6 C7 => kRunI w mX0_atBest 66 [some (aO 10 0), some (aO 5 0), some (aI ((cnt : Int))), some (aI l3), some (aI l4), some (aI 0), none] [] (uI C7 18 0 ((l4).toNat) x6) S (rf mm) P)))) : kRunI w mX0_atBest 43 [some (aO 10 0), some (aO 5 0), some (aI ((cnt : Int))), some (aI l3), some (aI l4), none, none] [] C S (rf mm) P := by
  refine aIload (pc' := 45) dX0_atBest_43 rfl rfl ?_
  refine aIf_lt (tgt := 132) (pc' := 48) dX0_atBest_45 (by decide) rfl (fun hc => ?_) (fun hc => ?_)
  · have hw := hw.1 hc
    refine aAload_n (pc' := 133) dX0_atBest_132 rfl rfl ?_
    refine aGetR (pc' := 136) (q := (19, 0)) dX0_atBest_133 fX0_31 rfl rfl (lv (by decide)) rfl rfl ?_
    refine aIconst (pc' := 137) ⟨by decide, by decide⟩ dX0_atBest_136 rfl ?_
    refine aAald (pc' := 138) (j := 0) (q := (20, 0)) dX0_atBest_137 (t := 6) rfl ⟨by decide, by decide⟩ (lv (by decide)) rfl (by decide) rfl rfl ?_
    refine aIload_n (pc' := 139) dX0_atBest_138 rfl rfl ?_
    obtain ⟨h1, hw⟩ := hw
    refine aIald (pc' := 140) (j := (l3).toNat) dX0_atBest_139 rfl (lv (by decide)) (tnIx h1).1 (tnIx h1).2 rfl ?_
    refine aTopEq (y := (C 20 0 ((l3).toNat))) rfl ?_
    refine aIconst (pc' := 141) ⟨by decide, by decide⟩ dX0_atBest_140 rfl ?_
    refine aIcmp_ne (tgt := 146) (pc' := 144) dX0_atBest_141 (by decide) rfl (fun hc => ?_) (fun hc => ?_)
    · have hw := hw.1 hc
      refine aAload_n (pc' := 147) dX0_atBest_146 rfl rfl ?_
      refine aAload_n (pc' := 148) dX0_atBest_147 rfl rfl ?_
      refine aIload_n (pc' := 149) dX0_atBest_148 rfl rfl ?_
      refine aIload_n (pc' := 150) dX0_atBest_149 rfl rfl ?_
      refine cVV (c := 0) (pc' := 153) [aO 5 0, aI ((cnt : Int)), aI l3] dX0_atBest_150 lX0_96 okX0_takeFirstBest ⟨by decide, by decide⟩ npX0_takeFirstBest rfl rfl rfl rfl rfl (by decide) rfl (cMetV_mono hw (fun J4 hw => ?_))
      obtain ⟨C3, rfl, hw⟩ := hw
      refine aAload_n (pc' := 154) dX0_atBest_153 rfl rfl ?_
      refine aIconst (pc' := 155) ⟨by decide, by decide⟩ dX0_atBest_154 rfl ?_
      refine aPutZ (pc' := 158) dX0_atBest_155 fX0_25 rfl rfl (Or.inl rfl) (lv (by decide)) (by decide) rfl (cEqI (mK rfl) ?_)
      refine aAload_n (pc' := 159) dX0_atBest_158 rfl rfl ?_
      refine aGetR (pc' := 162) (q := (19, 0)) dX0_atBest_159 fX0_31 rfl rfl (lv (by decide)) rfl rfl ?_
      refine aIconst (pc' := 163) ⟨by decide, by decide⟩ dX0_atBest_162 rfl ?_
      refine aAald (pc' := 164) (j := 0) (q := (20, 0)) dX0_atBest_163 (t := 6) rfl ⟨by decide, by decide⟩ (lv (by decide)) rfl (by decide) rfl rfl ?_
      refine aIload_n (pc' := 165) dX0_atBest_164 rfl rfl ?_
      refine aIald (pc' := 166) (j := (l3).toNat) dX0_atBest_165 rfl (lv (by decide)) (tnIx h1).1 (tnIx h1).2 rfl ?_
      refine aTopEq (y := ((uI C3 10 0 4 1) 20 0 ((l3).toNat))) rfl ?_
      refine aTopEq (uI_k rfl) ?_
      exact cIret dX0_atBest_166 okX0_atBest rfl ⟨rfl, _, rfl, _, rfl, hw⟩
    · have hw := hw.2 hc
      refine aIconst (pc' := 145) ⟨by decide, by decide⟩ dX0_atBest_144 rfl ?_
      exact cIret dX0_atBest_145 okX0_atBest rfl ⟨rfl, _, rfl, _, rfl, hw⟩
  · have hw := hw.2 hc
    refine aAload_n (pc' := 49) dX0_atBest_48 rfl rfl ?_
    refine aGetR (pc' := 52) (q := (18, 0)) dX0_atBest_49 fX0_22 rfl rfl (lv (by decide)) rfl rfl ?_
    refine aIload (pc' := 54) dX0_atBest_52 rfl rfl ?_
    refine aAload_n (pc' := 55) dX0_atBest_54 rfl rfl ?_
    refine aAload_n (pc' := 56) dX0_atBest_55 rfl rfl ?_
    refine aIload (pc' := 58) dX0_atBest_56 rfl rfl ?_
    obtain ⟨h5, hw⟩ := hw
    refine aAald (pc' := 59) (j := (l4).toNat) (q := (6, (l4).toNat)) dX0_atBest_58 (t := 4) rfl ⟨by decide, by decide⟩ (lv (by decide)) (tnIx h5).1 (tnIx h5).2 rfl rfl ?_
    refine cVI (c := 0) (pc' := 62) [aO 6 ((l4).toNat)] dX0_atBest_59 lX0_77 okX0_needInSteps ⟨by decide, by decide⟩ npX0_needInSteps rfl rfl rfl rfl rfl (by decide) rfl (cMetI_mono hw (fun x6 J8 hw => ?_))
    obtain ⟨C7, rfl, hw⟩ := hw
    refine aIast (pc' := 63) (j := (l4).toNat) dX0_atBest_62 rfl (lv (by decide)) (tnIx h5).1 (tnIx h5).2 rfl (cEqI (mK rfl) ?_)
    refine aIconst (pc' := 64) ⟨by decide, by decide⟩ dX0_atBest_63 rfl ?_
    refine aIstore (pc' := 66) dX0_atBest_64 (by decide) rfl (L' := [some (aO 10 0), some (aO 5 0), some (aI ((cnt : Int))), some (aI l3), some (aI l4), some (aI 0), none]) rfl ?_
    exact hw
set_option maxRecDepth 100000 in
set_option maxHeartbeats 4000000 in
theorem gX0_atBest_66 {w : aW} {mm : Nat} {C : aIF} {S : aS} {cnt : Nat} {l3 : Int} {l4 : Nat} {l5 : Nat} {P : Int → aIF → Prop} (hw : ((l3 < (l5 : Int)) → (-2147483648 ≤ ((l4 : Int) + (-1)) ∧ ((l4 : Int) + (-1)) < 2147483648) ∧ (kRunI w mX0_atBest 43 [some (aO 10 0), some (aO 5 0), some (aI ((cnt : Int))), some (aI l3), some (aI (((l4 : Int) + (-1)))), none, none] [] C S (rf mm) P)) ∧ ((¬ (l3 < (l5 : Int))) → (l4 < 6) ∧ (kMetI w mX0_firstBestShare [aO 10 0, aO 6 l4, aI ((l4 : Int)), aI ((l5 : Int))] C S (rf mm) (fun x3 C4 => ((x3 ≠ (-1)) → kMetI w mX0_sumWith [aO 10 0, aO 6 l4, aI ((l4 : Int)), aI x3, aI ((l5 : Int))] C4 S (rf mm) (fun x6 C7 => (l5 < 65) ∧ ((l5 + 1 < 2147483648) ∧ (kRunI w mX0_atBest 66 [some (aO 10 0), some (aO 5 0), some (aI ((cnt : Int))), some (aI l3), some (aI ((l4 : Int))), some (aI ((((l5 + 1) : Nat) : Int))), none] [] (uI C7 20 l4 l5 x6) S (rf mm) P)))) ∧ ((x3 = (-1)) → (l5 < 65) ∧ ((l5 + 1 < 2147483648) ∧ (kRunI w mX0_atBest 66 [some (aO 10 0), some (aO 5 0), some (aI ((cnt : Int))), some (aI l3), some (aI ((l4 : Int))), some (aI ((((l5 + 1) : Nat) : Int))), none] [] (uI C4 20 l4 l5 ((-1))) S (rf mm) P))))))) : kRunI w mX0_atBest 66 [some (aO 10 0), some (aO 5 0), some (aI ((cnt : Int))), some (aI l3), some (aI ((l4 : Int))), some (aI ((l5 : Int))), none] [] C S (rf mm) P := by
  refine aIload (pc' := 68) dX0_atBest_66 rfl rfl ?_
  refine aIload_n (pc' := 69) dX0_atBest_68 rfl rfl ?_
  refine aIcmp_gt (tgt := 126) (pc' := 72) dX0_atBest_69 (by decide) rfl (fun hc => ?_) (fun hc => ?_)
  · have hw := hw.1 hc
    obtain ⟨h1, hw⟩ := hw
    refine aIinc (pc' := 129) dX0_atBest_126 rfl (by decide) ⟨by decide, by decide⟩ h1.1 h1.2 rfl (L' := [some (aO 10 0), some (aO 5 0), some (aI ((cnt : Int))), some (aI l3), some (aI (((l4 : Int) + (-1)))), some (aI ((l5 : Int))), none]) rfl ?_
    refine aGoto (pc' := 43) dX0_atBest_129 (by decide) ?_
    exact aDrop [5] (L' := [some (aO 10 0), some (aO 5 0), some (aI ((cnt : Int))), some (aI l3), some (aI (((l4 : Int) + (-1)))), none, none]) rfl hw
  · have hw := hw.2 hc
    refine aAload_n (pc' := 73) dX0_atBest_72 rfl rfl ?_
    refine aAload_n (pc' := 74) dX0_atBest_73 rfl rfl ?_
    refine aIload (pc' := 76) dX0_atBest_74 rfl rfl ?_
    obtain ⟨h2, hw⟩ := hw
    refine aAald (pc' := 77) (j := l4) (q := (6, l4)) dX0_atBest_76 (t := 4) rfl ⟨by decide, by decide⟩ (lv (by decide)) rfl h2 rfl rfl ?_
    refine aIload (pc' := 79) dX0_atBest_77 rfl rfl ?_
    refine aIload (pc' := 81) dX0_atBest_79 rfl rfl ?_
    refine cVI (c := 0) (pc' := 84) [aO 6 l4, aI ((l4 : Int)), aI ((l5 : Int))] dX0_atBest_81 lX0_88 okX0_firstBestShare ⟨by decide, by decide⟩ npX0_firstBestShare rfl rfl rfl rfl rfl (by decide) rfl (cMetI_mono hw (fun x3 J5 hw => ?_))
    obtain ⟨C4, rfl, hw⟩ := hw
    refine aIstore (pc' := 86) dX0_atBest_84 (by decide) rfl (L' := [some (aO 10 0), some (aO 5 0), some (aI ((cnt : Int))), some (aI l3), some (aI ((l4 : Int))), some (aI ((l5 : Int))), some (aI x3)]) rfl ?_
    refine aAload_n (pc' := 87) dX0_atBest_86 rfl rfl ?_
    refine aGetR (pc' := 90) (q := (19, 0)) dX0_atBest_87 fX0_31 rfl rfl (lv (by decide)) rfl rfl ?_
    refine aIload (pc' := 92) dX0_atBest_90 rfl rfl ?_
    refine aAald (pc' := 93) (j := l4) (q := (20, l4)) dX0_atBest_92 (t := 6) rfl ⟨by decide, by decide⟩ (lv (by decide)) rfl (Nat.lt_of_lt_of_le h2 (by decide)) rfl rfl ?_
    refine aIload (pc' := 95) dX0_atBest_93 rfl rfl ?_
    refine aIload (pc' := 97) dX0_atBest_95 rfl rfl ?_
    refine aIconst (pc' := 98) ⟨by decide, by decide⟩ dX0_atBest_97 rfl ?_
    refine aIcmp_ne (tgt := 105) (pc' := 101) dX0_atBest_98 (by decide) rfl (fun hc => ?_) (fun hc => ?_)
    · have hw := hw.1 hc
      refine aAload_n (pc' := 106) dX0_atBest_105 rfl rfl ?_
      refine aAload_n (pc' := 107) dX0_atBest_106 rfl rfl ?_
      refine aIload (pc' := 109) dX0_atBest_107 rfl rfl ?_
      refine aAald (pc' := 110) (j := l4) (q := (6, l4)) dX0_atBest_109 (t := 4) rfl ⟨by decide, by decide⟩ (lv (by decide)) rfl h2 rfl rfl ?_
      refine aIload (pc' := 112) dX0_atBest_110 rfl rfl ?_
      refine aIload (pc' := 114) dX0_atBest_112 rfl rfl ?_
      refine aIload (pc' := 116) dX0_atBest_114 rfl rfl ?_
      refine cVI (c := 0) (pc' := 119) [aO 6 l4, aI ((l4 : Int)), aI x3, aI ((l5 : Int))] dX0_atBest_116 lX0_92 okX0_sumWith ⟨by decide, by decide⟩ npX0_sumWith rfl rfl rfl rfl rfl (by decide) rfl (cMetI_mono hw (fun x6 J8 hw => ?_))
      obtain ⟨C7, rfl, hw⟩ := hw
      obtain ⟨h9, hw⟩ := hw
      refine aIast (pc' := 120) (j := l5) dX0_atBest_119 rfl (lv (Nat.lt_of_lt_of_le h2 (by decide))) rfl h9 rfl (cEqI (mK rfl) ?_)
      obtain ⟨h10, hw⟩ := hw
      refine aIinc1 (pc' := 123) dX0_atBest_120 rfl (by decide) h10 rfl (L' := [some (aO 10 0), some (aO 5 0), some (aI ((cnt : Int))), some (aI l3), some (aI ((l4 : Int))), some (aI ((((l5 + 1) : Nat) : Int))), some (aI x3)]) rfl ?_
      refine aGoto (pc' := 66) dX0_atBest_123 (by decide) ?_
      exact aDrop [6] (L' := [some (aO 10 0), some (aO 5 0), some (aI ((cnt : Int))), some (aI l3), some (aI ((l4 : Int))), some (aI ((((l5 + 1) : Nat) : Int))), none]) rfl hw
    · have hw := hw.2 hc
      refine aIconst (pc' := 102) ⟨by decide, by decide⟩ dX0_atBest_101 rfl ?_
      refine aGoto (pc' := 119) dX0_atBest_102 (by decide) ?_
      obtain ⟨h11, hw⟩ := hw
      refine aIast (pc' := 120) (j := l5) dX0_atBest_119 rfl (lv (Nat.lt_of_lt_of_le h2 (by decide))) rfl h11 rfl (cEqI (mK rfl) ?_)
      obtain ⟨h12, hw⟩ := hw
      refine aIinc1 (pc' := 123) dX0_atBest_120 rfl (by decide) h12 rfl (L' := [some (aO 10 0), some (aO 5 0), some (aI ((cnt : Int))), some (aI l3), some (aI ((l4 : Int))), some (aI ((((l5 + 1) : Nat) : Int))), some (aI x3)]) rfl ?_
      refine aGoto (pc' := 66) dX0_atBest_123 (by decide) ?_
      exact aDrop [6] (L' := [some (aO 10 0), some (aO 5 0), some (aI ((cnt : Int))), some (aI l3), some (aI ((l4 : Int))), some (aI ((((l5 + 1) : Nat) : Int))), none]) rfl hw
set_option maxRecDepth 100000 in
set_option maxHeartbeats 4000000 in
theorem gX0_bySavings {w : aW} {mm : Nat} {C : aIF} {S : aS} {cnt : Nat} {P : Int → aIF → Prop} (hw : kMetI w mX5_dealtSteps [aO 9 0] (uI C 10 0 4 0) S (rf mm) (fun x1 C2 => kRunI w mX0_bySavings 16 [some (aO 10 0), some (aO 5 0), some (aI ((cnt : Int))), some (aI x1), some (aI 0), none] [] C2 S (rf mm) P)) : kMetI w mX0_bySavings [aO 10 0, aO 5 0, aI ((cnt : Int))] C S (rf mm) P := by
  refine cMet_of okX0_bySavings (Nat.le_of_ble_eq_true rfl) (fun hos => ?_)
  show cRun w mX0_bySavings 0 [some (aO 10 0), some (aO 5 0), some (aI ((cnt : Int))), none, none, none] [] (mem C S) (rf mm) (kqI (rf mm) S P)
  refine aAload_n (pc' := 1) dX0_bySavings_0 rfl rfl ?_
  refine aIconst (pc' := 2) ⟨by decide, by decide⟩ dX0_bySavings_1 rfl ?_
  refine aPutZ (pc' := 5) dX0_bySavings_2 fX0_25 rfl rfl (Or.inl rfl) (lv (by decide)) (by decide) rfl (cEqI (mK rfl) ?_)
  refine aAload_n (pc' := 6) dX0_bySavings_5 rfl rfl ?_
  refine aGetR (pc' := 9) (q := (9, 0)) dX0_bySavings_6 fX0_34 rfl rfl (lv (by decide)) rfl rfl ?_
  refine cVI (c := 5) (pc' := 12) [] dX0_bySavings_9 lX0_74 okX5_dealtSteps ⟨by decide, by decide⟩ npX5_dealtSteps rfl rfl rfl rfl rfl (by decide) rfl (cMetI_mono hw (fun x1 J3 hw => ?_))
  obtain ⟨C2, rfl, hw⟩ := hw
  refine aIstore_n (pc' := 13) dX0_bySavings_12 (by decide) rfl (L' := [some (aO 10 0), some (aO 5 0), some (aI ((cnt : Int))), some (aI x1), none, none]) rfl ?_
  refine aIconst (pc' := 14) ⟨by decide, by decide⟩ dX0_bySavings_13 rfl ?_
  refine aIstore (pc' := 16) dX0_bySavings_14 (by decide) rfl (L' := [some (aO 10 0), some (aO 5 0), some (aI ((cnt : Int))), some (aI x1), some (aI 0), none]) rfl ?_
  exact hw
set_option maxRecDepth 100000 in
set_option maxHeartbeats 4000000 in
theorem gX0_bySavings_16 {w : aW} {mm : Nat} {C : aIF} {S : aS} {cnt : Nat} {l3 : Int} {l4 : Nat} {P : Int → aIF → Prop} (hw : (((cnt : Int) ≤ (l4 : Int)) → kRunI w mX0_bySavings 66 [some (aO 10 0), some (aO 5 0), some (aI ((cnt : Int))), some (aI l3), some (aI ((l4 : Int))), none] [] C S (rf mm) P) ∧ ((¬ ((cnt : Int) ≤ (l4 : Int))) → (l4 < 6) ∧ (kMetI w mX0_needInSteps [aO 10 0, aO 6 l4] C S (rf mm) (fun x2 C3 => ((x2 = (-1)) → P (-1) C3) ∧ ((¬ (x2 = (-1))) → ((x2 ≤ l3) → (-2147483648 ≤ (l3 - x2) ∧ (l3 - x2) < 2147483648) ∧ ((l4 + 1 < 2147483648) ∧ (kRunI w mX0_bySavings 16 [some (aO 10 0), some (aO 5 0), some (aI ((cnt : Int))), some (aI ((l3 - x2))), some (aI ((((l4 + 1) : Nat) : Int))), none] [] (uI C3 17 0 l4 x2) S (rf mm) P))) ∧ ((¬ (x2 ≤ l3)) → P (-1) C3)))))) : kRunI w mX0_bySavings 16 [some (aO 10 0), some (aO 5 0), some (aI ((cnt : Int))), some (aI l3), some (aI ((l4 : Int))), none] [] C S (rf mm) P := by
  refine aIload (pc' := 18) dX0_bySavings_16 rfl rfl ?_
  refine aIload_n (pc' := 19) dX0_bySavings_18 rfl rfl ?_
  refine aIcmp_ge (tgt := 66) (pc' := 22) dX0_bySavings_19 (by decide) rfl (fun hc => ?_) (fun hc => ?_)
  · have hw := hw.1 hc
    exact hw
  · have hw := hw.2 hc
    refine aAload_n (pc' := 23) dX0_bySavings_22 rfl rfl ?_
    refine aAload_n (pc' := 24) dX0_bySavings_23 rfl rfl ?_
    refine aIload (pc' := 26) dX0_bySavings_24 rfl rfl ?_
    obtain ⟨h1, hw⟩ := hw
    refine aAald (pc' := 27) (j := l4) (q := (6, l4)) dX0_bySavings_26 (t := 4) rfl ⟨by decide, by decide⟩ (lv (by decide)) rfl h1 rfl rfl ?_
    refine cVI (c := 0) (pc' := 30) [aO 6 l4] dX0_bySavings_27 lX0_77 okX0_needInSteps ⟨by decide, by decide⟩ npX0_needInSteps rfl rfl rfl rfl rfl (by decide) rfl (cMetI_mono hw (fun x2 J4 hw => ?_))
    obtain ⟨C3, rfl, hw⟩ := hw
    refine aIstore (pc' := 32) dX0_bySavings_30 (by decide) rfl (L' := [some (aO 10 0), some (aO 5 0), some (aI ((cnt : Int))), some (aI l3), some (aI ((l4 : Int))), some (aI x2)]) rfl ?_
    refine aIload (pc' := 34) dX0_bySavings_32 rfl rfl ?_
    refine aIconst (pc' := 35) ⟨by decide, by decide⟩ dX0_bySavings_34 rfl ?_
    refine aIcmp_eq (tgt := 44) (pc' := 38) dX0_bySavings_35 (by decide) rfl (fun hc => ?_) (fun hc => ?_)
    · have hw := hw.1 hc
      refine aIconst (pc' := 45) ⟨by decide, by decide⟩ dX0_bySavings_44 rfl ?_
      exact cIret dX0_bySavings_45 okX0_bySavings rfl ⟨rfl, _, rfl, _, rfl, hw⟩
    · have hw := hw.2 hc
      refine aIload (pc' := 40) dX0_bySavings_38 rfl rfl ?_
      refine aIload_n (pc' := 41) dX0_bySavings_40 rfl rfl ?_
      refine aIcmp_le (tgt := 46) (pc' := 44) dX0_bySavings_41 (by decide) rfl (fun hc => ?_) (fun hc => ?_)
      · have hw := hw.1 hc
        refine aAload_n (pc' := 47) dX0_bySavings_46 rfl rfl ?_
        refine aGetR (pc' := 50) (q := (17, 0)) dX0_bySavings_47 fX0_18 rfl rfl (lv (by decide)) rfl rfl ?_
        refine aIload (pc' := 52) dX0_bySavings_50 rfl rfl ?_
        refine aIload (pc' := 54) dX0_bySavings_52 rfl rfl ?_
        refine aIast (pc' := 55) (j := l4) dX0_bySavings_54 rfl (lv (by decide)) rfl h1 rfl (cEqI (mK rfl) ?_)
        refine aIload_n (pc' := 56) dX0_bySavings_55 rfl rfl ?_
        refine aIload (pc' := 58) dX0_bySavings_56 rfl rfl ?_
        obtain ⟨h5, hw⟩ := hw
        refine aIsub (pc' := 59) h5.1 h5.2 dX0_bySavings_58 rfl ?_
        refine aIstore_n (pc' := 60) dX0_bySavings_59 (by decide) rfl (L' := [some (aO 10 0), some (aO 5 0), some (aI ((cnt : Int))), some (aI ((l3 - x2))), some (aI ((l4 : Int))), some (aI x2)]) rfl ?_
        obtain ⟨h6, hw⟩ := hw
        refine aIinc1 (pc' := 63) dX0_bySavings_60 rfl (by decide) h6 rfl (L' := [some (aO 10 0), some (aO 5 0), some (aI ((cnt : Int))), some (aI ((l3 - x2))), some (aI ((((l4 + 1) : Nat) : Int))), some (aI x2)]) rfl ?_
        refine aGoto (pc' := 16) dX0_bySavings_63 (by decide) ?_
        exact aDrop [5] (L' := [some (aO 10 0), some (aO 5 0), some (aI ((cnt : Int))), some (aI ((l3 - x2))), some (aI ((((l4 + 1) : Nat) : Int))), none]) rfl hw
      · have hw := hw.2 hc
        refine aIconst (pc' := 45) ⟨by decide, by decide⟩ dX0_bySavings_44 rfl ?_
        exact cIret dX0_bySavings_45 okX0_bySavings rfl ⟨rfl, _, rfl, _, rfl, hw⟩
set_option maxRecDepth 100000 in
set_option maxHeartbeats 4000000 in
theorem gX0_bySavings_66 {w : aW} {mm : Nat} {C : aIF} {S : aS} {cnt : Nat} {l3 : Int} {l4 : Nat} {P : Int → aIF → Prop} (hw : ((l3 ≤ 0) → kMetI w mX0_sumOfTimes [aO 10 0, aO 5 0, aI ((cnt : Int))] (uI C 10 0 4 1) S (rf mm) (fun x1 C2 => P x1 C2)) ∧ ((¬ (l3 ≤ 0)) → kMetI w mX0_whoSavesMost [aO 10 0, aO 5 0, aI ((cnt : Int))] C S (rf mm) (fun x4 C5 => ((x4 ≠ (-1)) → (0 ≤ x4 ∧ x4 < ((6 : Nat) : Int)) ∧ ((-2147483648 ≤ ((C5 17 0 ((x4).toNat)) + 1) ∧ ((C5 17 0 ((x4).toNat)) + 1) < 2147483648) ∧ ((-2147483648 ≤ (l3 + (-1)) ∧ (l3 + (-1)) < 2147483648) ∧ (kRunI w mX0_bySavings 66 [some (aO 10 0), some (aO 5 0), some (aI ((cnt : Int))), some (aI ((l3 + (-1)))), some (aI x4), none] [] (uI C5 17 0 ((x4).toNat) (((C5 17 0 ((x4).toNat)) + 1))) S (rf mm) P)))) ∧ ((x4 = (-1)) → kMetI w mX0_sumOfTimes [aO 10 0, aO 5 0, aI ((cnt : Int))] (uI C5 10 0 4 1) S (rf mm) (fun x10 C11 => P x10 C11))))) : kRunI w mX0_bySavings 66 [some (aO 10 0), some (aO 5 0), some (aI ((cnt : Int))), some (aI l3), some (aI ((l4 : Int))), none] [] C S (rf mm) P := by
  refine aIload_n (pc' := 67) dX0_bySavings_66 rfl rfl ?_
  refine aIf_le (tgt := 104) (pc' := 70) dX0_bySavings_67 (by decide) rfl (fun hc => ?_) (fun hc => ?_)
  · have hw := hw.1 hc
    refine aAload_n (pc' := 105) dX0_bySavings_104 rfl rfl ?_
    refine aIconst (pc' := 106) ⟨by decide, by decide⟩ dX0_bySavings_105 rfl ?_
    refine aPutZ (pc' := 109) dX0_bySavings_106 fX0_25 rfl rfl (Or.inl rfl) (lv (by decide)) (by decide) rfl (cEqI (mK rfl) ?_)
    refine aAload_n (pc' := 110) dX0_bySavings_109 rfl rfl ?_
    refine aAload_n (pc' := 111) dX0_bySavings_110 rfl rfl ?_
    refine aIload_n (pc' := 112) dX0_bySavings_111 rfl rfl ?_
    refine cVI (c := 0) (pc' := 115) [aO 5 0, aI ((cnt : Int))] dX0_bySavings_112 lX0_85 okX0_sumOfTimes ⟨by decide, by decide⟩ npX0_sumOfTimes rfl rfl rfl rfl rfl (by decide) rfl (cMetI_mono hw (fun x1 J3 hw => ?_))
    obtain ⟨C2, rfl, hw⟩ := hw
    exact cIret dX0_bySavings_115 okX0_bySavings rfl ⟨rfl, _, rfl, _, rfl, hw⟩
  · have hw := hw.2 hc
    refine aAload_n (pc' := 71) dX0_bySavings_70 rfl rfl ?_
    refine aAload_n (pc' := 72) dX0_bySavings_71 rfl rfl ?_
    refine aIload_n (pc' := 73) dX0_bySavings_72 rfl rfl ?_
    refine cVI (c := 0) (pc' := 76) [aO 5 0, aI ((cnt : Int))] dX0_bySavings_73 lX0_81 okX0_whoSavesMost ⟨by decide, by decide⟩ npX0_whoSavesMost rfl rfl rfl rfl rfl (by decide) rfl (cMetI_mono hw (fun x4 J6 hw => ?_))
    obtain ⟨C5, rfl, hw⟩ := hw
    refine aIstore (pc' := 78) dX0_bySavings_76 (by decide) rfl (L' := [some (aO 10 0), some (aO 5 0), some (aI ((cnt : Int))), some (aI l3), some (aI x4), none]) rfl ?_
    refine aIload (pc' := 80) dX0_bySavings_78 rfl rfl ?_
    refine aIconst (pc' := 81) ⟨by decide, by decide⟩ dX0_bySavings_80 rfl ?_
    refine aIcmp_ne (tgt := 87) (pc' := 84) dX0_bySavings_81 (by decide) rfl (fun hc => ?_) (fun hc => ?_)
    · have hw := hw.1 hc
      refine aAload_n (pc' := 88) dX0_bySavings_87 rfl rfl ?_
      refine aGetR (pc' := 91) (q := (17, 0)) dX0_bySavings_88 fX0_18 rfl rfl (lv (by decide)) rfl rfl ?_
      refine aIload (pc' := 93) dX0_bySavings_91 rfl rfl ?_
      refine aDup2 (pc' := 94) rfl rfl dX0_bySavings_93 rfl ?_
      obtain ⟨h7, hw⟩ := hw
      refine aIald (pc' := 95) (j := (x4).toNat) dX0_bySavings_94 rfl (lv (by decide)) (tnIx h7).1 (tnIx h7).2 rfl ?_
      refine aTopEq (y := (C5 17 0 ((x4).toNat))) rfl ?_
      refine aIconst (pc' := 96) ⟨by decide, by decide⟩ dX0_bySavings_95 rfl ?_
      obtain ⟨h8, hw⟩ := hw
      refine aIadd (pc' := 97) h8.1 h8.2 dX0_bySavings_96 rfl ?_
      refine aIast (pc' := 98) (j := (x4).toNat) dX0_bySavings_97 rfl (lv (by decide)) (tnIx h7).1 (tnIx h7).2 rfl (cEqI (mK rfl) ?_)
      obtain ⟨h9, hw⟩ := hw
      refine aIinc (pc' := 101) dX0_bySavings_98 rfl (by decide) ⟨by decide, by decide⟩ h9.1 h9.2 rfl (L' := [some (aO 10 0), some (aO 5 0), some (aI ((cnt : Int))), some (aI ((l3 + (-1)))), some (aI x4), none]) rfl ?_
      refine aGoto (pc' := 66) dX0_bySavings_101 (by decide) ?_
      exact hw
    · have hw := hw.2 hc
      refine aGoto (pc' := 104) dX0_bySavings_84 (by decide) ?_
      refine aAload_n (pc' := 105) dX0_bySavings_104 rfl rfl ?_
      refine aIconst (pc' := 106) ⟨by decide, by decide⟩ dX0_bySavings_105 rfl ?_
      refine aPutZ (pc' := 109) dX0_bySavings_106 fX0_25 rfl rfl (Or.inl rfl) (lv (by decide)) (by decide) rfl (cEqI (mK rfl) ?_)
      refine aAload_n (pc' := 110) dX0_bySavings_109 rfl rfl ?_
      refine aAload_n (pc' := 111) dX0_bySavings_110 rfl rfl ?_
      refine aIload_n (pc' := 112) dX0_bySavings_111 rfl rfl ?_
      refine cVI (c := 0) (pc' := 115) [aO 5 0, aI ((cnt : Int))] dX0_bySavings_112 lX0_85 okX0_sumOfTimes ⟨by decide, by decide⟩ npX0_sumOfTimes rfl rfl rfl rfl rfl (by decide) rfl (cMetI_mono hw (fun x10 J12 hw => ?_))
      obtain ⟨C11, rfl, hw⟩ := hw
      exact cIret dX0_bySavings_115 okX0_bySavings rfl ⟨rfl, _, rfl, _, rfl, hw⟩
set_option maxRecDepth 100000 in
set_option maxHeartbeats 4000000 in
theorem gX0_firstBestShare {w : aW} {mm : Nat} {C : aIF} {S : aS} {i : Nat} {q : Nat} {lf : Int} {P : Int → aIF → Prop} (hi : i < 6) (hw : (q < 6) ∧ ((((C 18 0 q) ≠ (-1)) → kRunI w mX0_firstBestShare 26 [some (aO 10 0), some (aO 6 i), some (aI ((q : Int))), some (aI lf), some (aI ((-1))), some (aI 0), some (aI ((C 18 0 q))), none] [] C S (rf mm) P) ∧ (((C 18 0 q) = (-1)) → P (-1) C))) : kMetI w mX0_firstBestShare [aO 10 0, aO 6 i, aI ((q : Int)), aI lf] C S (rf mm) P := by
  refine cMet_of okX0_firstBestShare (Nat.le_of_ble_eq_true rfl) (fun hos => ?_)
  show cRun w mX0_firstBestShare 0 [some (aO 10 0), some (aO 6 i), some (aI ((q : Int))), some (aI lf), none, none, none, none] [] (mem C S) (rf mm) (kqI (rf mm) S P)
  refine aIconst (pc' := 1) ⟨by decide, by decide⟩ dX0_firstBestShare_0 rfl ?_
  refine aIstore (pc' := 3) dX0_firstBestShare_1 (by decide) rfl (L' := [some (aO 10 0), some (aO 6 i), some (aI ((q : Int))), some (aI lf), some (aI ((-1))), none, none, none]) rfl ?_
  refine aIconst (pc' := 4) ⟨by decide, by decide⟩ dX0_firstBestShare_3 rfl ?_
  refine aIstore (pc' := 6) dX0_firstBestShare_4 (by decide) rfl (L' := [some (aO 10 0), some (aO 6 i), some (aI ((q : Int))), some (aI lf), some (aI ((-1))), some (aI 0), none, none]) rfl ?_
  refine aAload_n (pc' := 7) dX0_firstBestShare_6 rfl rfl ?_
  refine aGetR (pc' := 10) (q := (18, 0)) dX0_firstBestShare_7 fX0_22 rfl rfl (lv (by decide)) rfl rfl ?_
  refine aIload_n (pc' := 11) dX0_firstBestShare_10 rfl rfl ?_
  obtain ⟨h1, hw⟩ := hw
  refine aIald (pc' := 12) (j := q) dX0_firstBestShare_11 rfl (lv (by decide)) rfl h1 rfl ?_
  refine aTopEq (y := (C 18 0 q)) rfl ?_
  refine aIconst (pc' := 13) ⟨by decide, by decide⟩ dX0_firstBestShare_12 rfl ?_
  refine aIcmp_ne (tgt := 18) (pc' := 16) dX0_firstBestShare_13 (by decide) rfl (fun hc => ?_) (fun hc => ?_)
  · have hw := hw.1 hc
    refine aAload_n (pc' := 19) dX0_firstBestShare_18 rfl rfl ?_
    refine aGetR (pc' := 22) (q := (18, 0)) dX0_firstBestShare_19 fX0_22 rfl rfl (lv (by decide)) rfl rfl ?_
    refine aIload_n (pc' := 23) dX0_firstBestShare_22 rfl rfl ?_
    refine aIald (pc' := 24) (j := q) dX0_firstBestShare_23 rfl (lv (by decide)) rfl h1 rfl ?_
    refine aTopEq (y := (C 18 0 q)) rfl ?_
    refine aIstore (pc' := 26) dX0_firstBestShare_24 (by decide) rfl (L' := [some (aO 10 0), some (aO 6 i), some (aI ((q : Int))), some (aI lf), some (aI ((-1))), some (aI 0), some (aI ((C 18 0 q))), none]) rfl ?_
    exact hw
  · have hw := hw.2 hc
    refine aIconst (pc' := 17) ⟨by decide, by decide⟩ dX0_firstBestShare_16 rfl ?_
    exact cIret dX0_firstBestShare_17 okX0_firstBestShare rfl ⟨rfl, _, rfl, _, rfl, hw⟩
set_option maxRecDepth 100000 in
set_option maxHeartbeats 4000000 in
theorem gX0_firstBestShare_26 {w : aW} {mm : Nat} {C : aIF} {S : aS} {i : Nat} {q : Nat} {lf : Int} {l4 : Int} {l5 : Int} {l6 : Nat} {P : Int → aIF → Prop} (hi : i < 6) (hw : ((lf < (l6 : Int)) → P l4 C) ∧ ((¬ (lf < (l6 : Int))) → kMetI w mX0_sumWith [aO 10 0, aO 6 i, aI ((q : Int)), aI ((l6 : Int)), aI lf] C S (rf mm) (fun x1 C2 => ((x1 = (-1)) → (l6 + 1 < 2147483648) ∧ (kRunI w mX0_firstBestShare 26 [some (aO 10 0), some (aO 6 i), some (aI ((q : Int))), some (aI lf), some (aI l4), some (aI l5), some (aI ((((l6 + 1) : Nat) : Int))), none] [] C2 S (rf mm) P)) ∧ ((¬ (x1 = (-1))) → ((l4 = (-1)) → (l6 + 1 < 2147483648) ∧ (kRunI w mX0_firstBestShare 26 [some (aO 10 0), some (aO 6 i), some (aI ((q : Int))), some (aI lf), some (aI ((l6 : Int))), some (aI x1), some (aI ((((l6 + 1) : Nat) : Int))), none] [] C2 S (rf mm) P)) ∧ ((¬ (l4 = (-1))) → ((l5 ≤ x1) → (l6 + 1 < 2147483648) ∧ (kRunI w mX0_firstBestShare 26 [some (aO 10 0), some (aO 6 i), some (aI ((q : Int))), some (aI lf), some (aI l4), some (aI l5), some (aI ((((l6 + 1) : Nat) : Int))), none] [] C2 S (rf mm) P)) ∧ ((¬ (l5 ≤ x1)) → (l6 + 1 < 2147483648) ∧ (kRunI w mX0_firstBestShare 26 [some (aO 10 0), some (aO 6 i), some (aI ((q : Int))), some (aI lf), some (aI ((l6 : Int))), some (aI x1), some (aI ((((l6 + 1) : Nat) : Int))), none] [] C2 S (rf mm) P))))))) : kRunI w mX0_firstBestShare 26 [some (aO 10 0), some (aO 6 i), some (aI ((q : Int))), some (aI lf), some (aI l4), some (aI l5), some (aI ((l6 : Int))), none] [] C S (rf mm) P := by
  refine aIload (pc' := 28) dX0_firstBestShare_26 rfl rfl ?_
  refine aIload_n (pc' := 29) dX0_firstBestShare_28 rfl rfl ?_
  refine aIcmp_gt (tgt := 76) (pc' := 32) dX0_firstBestShare_29 (by decide) rfl (fun hc => ?_) (fun hc => ?_)
  · have hw := hw.1 hc
    refine aIload (pc' := 78) dX0_firstBestShare_76 rfl rfl ?_
    exact cIret dX0_firstBestShare_78 okX0_firstBestShare rfl ⟨rfl, _, rfl, _, rfl, hw⟩
  · have hw := hw.2 hc
    refine aAload_n (pc' := 33) dX0_firstBestShare_32 rfl rfl ?_
    refine aAload_n (pc' := 34) dX0_firstBestShare_33 rfl rfl ?_
    refine aIload_n (pc' := 35) dX0_firstBestShare_34 rfl rfl ?_
    refine aIload (pc' := 37) dX0_firstBestShare_35 rfl rfl ?_
    refine aIload_n (pc' := 38) dX0_firstBestShare_37 rfl rfl ?_
    refine cVI (c := 0) (pc' := 41) [aO 6 i, aI ((q : Int)), aI ((l6 : Int)), aI lf] dX0_firstBestShare_38 lX0_92 okX0_sumWith ⟨by decide, by decide⟩ npX0_sumWith rfl rfl rfl rfl rfl (by decide) rfl (cMetI_mono hw (fun x1 J3 hw => ?_))
    obtain ⟨C2, rfl, hw⟩ := hw
    refine aIstore (pc' := 43) dX0_firstBestShare_41 (by decide) rfl (L' := [some (aO 10 0), some (aO 6 i), some (aI ((q : Int))), some (aI lf), some (aI l4), some (aI l5), some (aI ((l6 : Int))), some (aI x1)]) rfl ?_
    refine aIload (pc' := 45) dX0_firstBestShare_43 rfl rfl ?_
    refine aIconst (pc' := 46) ⟨by decide, by decide⟩ dX0_firstBestShare_45 rfl ?_
    refine aIcmp_eq (tgt := 70) (pc' := 49) dX0_firstBestShare_46 (by decide) rfl (fun hc => ?_) (fun hc => ?_)
    · have hw := hw.1 hc
      obtain ⟨h4, hw⟩ := hw
      refine aIinc1 (pc' := 73) dX0_firstBestShare_70 rfl (by decide) h4 rfl (L' := [some (aO 10 0), some (aO 6 i), some (aI ((q : Int))), some (aI lf), some (aI l4), some (aI l5), some (aI ((((l6 + 1) : Nat) : Int))), some (aI x1)]) rfl ?_
      refine aGoto (pc' := 26) dX0_firstBestShare_73 (by decide) ?_
      exact aDrop [7] (L' := [some (aO 10 0), some (aO 6 i), some (aI ((q : Int))), some (aI lf), some (aI l4), some (aI l5), some (aI ((((l6 + 1) : Nat) : Int))), none]) rfl hw
    · have hw := hw.2 hc
      refine aIload (pc' := 51) dX0_firstBestShare_49 rfl rfl ?_
      refine aIconst (pc' := 52) ⟨by decide, by decide⟩ dX0_firstBestShare_51 rfl ?_
      refine aIcmp_eq (tgt := 62) (pc' := 55) dX0_firstBestShare_52 (by decide) rfl (fun hc => ?_) (fun hc => ?_)
      · have hw := hw.1 hc
        refine aIload (pc' := 64) dX0_firstBestShare_62 rfl rfl ?_
        refine aIstore (pc' := 66) dX0_firstBestShare_64 (by decide) rfl (L' := [some (aO 10 0), some (aO 6 i), some (aI ((q : Int))), some (aI lf), some (aI ((l6 : Int))), some (aI l5), some (aI ((l6 : Int))), some (aI x1)]) rfl ?_
        refine aIload (pc' := 68) dX0_firstBestShare_66 rfl rfl ?_
        refine aIstore (pc' := 70) dX0_firstBestShare_68 (by decide) rfl (L' := [some (aO 10 0), some (aO 6 i), some (aI ((q : Int))), some (aI lf), some (aI ((l6 : Int))), some (aI x1), some (aI ((l6 : Int))), some (aI x1)]) rfl ?_
        obtain ⟨h5, hw⟩ := hw
        refine aIinc1 (pc' := 73) dX0_firstBestShare_70 rfl (by decide) h5 rfl (L' := [some (aO 10 0), some (aO 6 i), some (aI ((q : Int))), some (aI lf), some (aI ((l6 : Int))), some (aI x1), some (aI ((((l6 + 1) : Nat) : Int))), some (aI x1)]) rfl ?_
        refine aGoto (pc' := 26) dX0_firstBestShare_73 (by decide) ?_
        exact aDrop [7] (L' := [some (aO 10 0), some (aO 6 i), some (aI ((q : Int))), some (aI lf), some (aI ((l6 : Int))), some (aI x1), some (aI ((((l6 + 1) : Nat) : Int))), none]) rfl hw
      · have hw := hw.2 hc
        refine aIload (pc' := 57) dX0_firstBestShare_55 rfl rfl ?_
        refine aIload (pc' := 59) dX0_firstBestShare_57 rfl rfl ?_
        refine aIcmp_ge (tgt := 70) (pc' := 62) dX0_firstBestShare_59 (by decide) rfl (fun hc => ?_) (fun hc => ?_)
        · have hw := hw.1 hc
          obtain ⟨h6, hw⟩ := hw
          refine aIinc1 (pc' := 73) dX0_firstBestShare_70 rfl (by decide) h6 rfl (L' := [some (aO 10 0), some (aO 6 i), some (aI ((q : Int))), some (aI lf), some (aI l4), some (aI l5), some (aI ((((l6 + 1) : Nat) : Int))), some (aI x1)]) rfl ?_
          refine aGoto (pc' := 26) dX0_firstBestShare_73 (by decide) ?_
          exact aDrop [7] (L' := [some (aO 10 0), some (aO 6 i), some (aI ((q : Int))), some (aI lf), some (aI l4), some (aI l5), some (aI ((((l6 + 1) : Nat) : Int))), none]) rfl hw
        · have hw := hw.2 hc
          refine aIload (pc' := 64) dX0_firstBestShare_62 rfl rfl ?_
          refine aIstore (pc' := 66) dX0_firstBestShare_64 (by decide) rfl (L' := [some (aO 10 0), some (aO 6 i), some (aI ((q : Int))), some (aI lf), some (aI ((l6 : Int))), some (aI l5), some (aI ((l6 : Int))), some (aI x1)]) rfl ?_
          refine aIload (pc' := 68) dX0_firstBestShare_66 rfl rfl ?_
          refine aIstore (pc' := 70) dX0_firstBestShare_68 (by decide) rfl (L' := [some (aO 10 0), some (aO 6 i), some (aI ((q : Int))), some (aI lf), some (aI ((l6 : Int))), some (aI x1), some (aI ((l6 : Int))), some (aI x1)]) rfl ?_
          obtain ⟨h7, hw⟩ := hw
          refine aIinc1 (pc' := 73) dX0_firstBestShare_70 rfl (by decide) h7 rfl (L' := [some (aO 10 0), some (aO 6 i), some (aI ((q : Int))), some (aI lf), some (aI ((l6 : Int))), some (aI x1), some (aI ((((l6 + 1) : Nat) : Int))), some (aI x1)]) rfl ?_
          refine aGoto (pc' := 26) dX0_firstBestShare_73 (by decide) ?_
          exact aDrop [7] (L' := [some (aO 10 0), some (aO 6 i), some (aI ((q : Int))), some (aI lf), some (aI ((l6 : Int))), some (aI x1), some (aI ((((l6 + 1) : Nat) : Int))), none]) rfl hw
set_option maxRecDepth 100000 in
set_option maxHeartbeats 4000000 in
theorem gX0_learnTimes {w : aW} {mm : Nat} {C : aIF} {S : aS} {i : Nat} {P : aIF → Prop} (hi : i < 6) (hw : (((C 6 i 6) = 0) → kMetI w mX5_allSteps [aO 9 0] C S (rf mm) (fun x1 C2 => (-2147483648 ≤ (x1 + 1) ∧ (x1 + 1) < 2147483648) ∧ (kMetV w mX8_pass [aO 11 0, aO 6 i, aI 0, aI ((C2 9 0 0)), aI ((x1 + 1))] C2 S (rf mm) (fun C6 => kRunV w mX0_learnTimes 37 [some (aO 10 0), some (aO 6 i), some (aI x1), some (aI 0)] [] C6 S (rf mm) P)))) ∧ ((¬ ((C 6 i 6) = 0)) → P C)) : kMetV w mX0_learnTimes [aO 10 0, aO 6 i] C S (rf mm) P := by
  refine cMet_of okX0_learnTimes (Nat.le_of_ble_eq_true rfl) (fun hos => ?_)
  show cRun w mX0_learnTimes 0 [some (aO 10 0), some (aO 6 i), none, none] [] (mem C S) (rf mm) (kqV (rf mm) S P)
  refine aAload_n (pc' := 1) dX0_learnTimes_0 rfl rfl ?_
  refine aGetI (pc' := 4) dX0_learnTimes_1 fX0_68 rfl rfl (lv hi) rfl ?_
  refine aTopEq (y := (C 6 i 6)) rfl ?_
  refine aIf_eq (tgt := 8) (pc' := 7) dX0_learnTimes_4 (by decide) rfl (fun hc => ?_) (fun hc => ?_)
  · have hw := hw.1 hc
    refine aAload_n (pc' := 9) dX0_learnTimes_8 rfl rfl ?_
    refine aGetR (pc' := 12) (q := (9, 0)) dX0_learnTimes_9 fX0_34 rfl rfl (lv (by decide)) rfl rfl ?_
    refine cVI (c := 5) (pc' := 15) [] dX0_learnTimes_12 lX0_61 okX5_allSteps ⟨by decide, by decide⟩ npX5_allSteps rfl rfl rfl rfl rfl (by decide) rfl (cMetI_mono hw (fun x1 J3 hw => ?_))
    obtain ⟨C2, rfl, hw⟩ := hw
    refine aIstore_n (pc' := 16) dX0_learnTimes_15 (by decide) rfl (L' := [some (aO 10 0), some (aO 6 i), some (aI x1), none]) rfl ?_
    refine aAload_n (pc' := 17) dX0_learnTimes_16 rfl rfl ?_
    refine aGetR (pc' := 20) (q := (11, 0)) dX0_learnTimes_17 fX0_12 rfl rfl (lv (by decide)) rfl rfl ?_
    refine aAload_n (pc' := 21) dX0_learnTimes_20 rfl rfl ?_
    refine aIconst (pc' := 22) ⟨by decide, by decide⟩ dX0_learnTimes_21 rfl ?_
    refine aAload_n (pc' := 23) dX0_learnTimes_22 rfl rfl ?_
    refine aGetR (pc' := 26) (q := (9, 0)) dX0_learnTimes_23 fX0_34 rfl rfl (lv (by decide)) rfl rfl ?_
    refine aGetI (pc' := 29) dX0_learnTimes_26 fX0_71 rfl rfl (lv (by decide)) rfl ?_
    refine aTopEq (y := (C2 9 0 0)) rfl ?_
    refine aIload_n (pc' := 30) dX0_learnTimes_29 rfl rfl ?_
    refine aIconst (pc' := 31) ⟨by decide, by decide⟩ dX0_learnTimes_30 rfl ?_
    obtain ⟨h4, hw⟩ := hw
    refine aIadd (pc' := 32) h4.1 h4.2 dX0_learnTimes_31 rfl ?_
    refine cVV (c := 8) (pc' := 35) [aO 6 i, aI 0, aI ((C2 9 0 0)), aI ((x1 + 1))] dX0_learnTimes_32 lX0_38 okX8_pass ⟨by decide, by decide⟩ npX8_pass rfl rfl rfl rfl rfl (by decide) rfl (cMetV_mono hw (fun J7 hw => ?_))
    obtain ⟨C6, rfl, hw⟩ := hw
    refine aIconst (pc' := 36) ⟨by decide, by decide⟩ dX0_learnTimes_35 rfl ?_
    refine aIstore_n (pc' := 37) dX0_learnTimes_36 (by decide) rfl (L' := [some (aO 10 0), some (aO 6 i), some (aI x1), some (aI 0)]) rfl ?_
    exact hw
  · have hw := hw.2 hc
    exact cVret dX0_learnTimes_7 okX0_learnTimes rfl ⟨rfl, rfl, _, rfl, hw⟩
set_option maxRecDepth 100000 in
set_option maxHeartbeats 4000000 in
theorem gX0_learnTimes_37 {w : aW} {mm : Nat} {C : aIF} {S : aS} {i : Nat} {l2 : Int} {l3 : Nat} {P : aIF → Prop} (hi : i < 6) (hw : ((l2 < (l3 : Int)) → P (uI C 6 i 6 1)) ∧ ((¬ (l2 < (l3 : Int))) → kMetI w mX8_timeOf [aO 11 0, aI ((l3 : Int))] C S (rf mm) (fun x1 C2 => (l3 < 65) ∧ ((l3 + 1 < 2147483648) ∧ (kRunV w mX0_learnTimes 37 [some (aO 10 0), some (aO 6 i), some (aI l2), some (aI ((((l3 + 1) : Nat) : Int)))] [] (uI C2 8 i l3 x1) S (rf mm) P))))) : kRunV w mX0_learnTimes 37 [some (aO 10 0), some (aO 6 i), some (aI l2), some (aI ((l3 : Int)))] [] C S (rf mm) P := by
  refine aIload_n (pc' := 38) dX0_learnTimes_37 rfl rfl ?_
  refine aIload_n (pc' := 39) dX0_learnTimes_38 rfl rfl ?_
  refine aIcmp_gt (tgt := 62) (pc' := 42) dX0_learnTimes_39 (by decide) rfl (fun hc => ?_) (fun hc => ?_)
  · have hw := hw.1 hc
    refine aAload_n (pc' := 63) dX0_learnTimes_62 rfl rfl ?_
    refine aIconst (pc' := 64) ⟨by decide, by decide⟩ dX0_learnTimes_63 rfl ?_
    refine aPutZ (pc' := 67) dX0_learnTimes_64 fX0_68 rfl rfl (Or.inl rfl) (lv hi) (by decide) rfl (cEqI (mK rfl) ?_)
    exact cVret dX0_learnTimes_67 okX0_learnTimes rfl ⟨rfl, rfl, _, rfl, hw⟩
  · have hw := hw.2 hc
    refine aAload_n (pc' := 43) dX0_learnTimes_42 rfl rfl ?_
    refine aGetR (pc' := 46) (q := (8, i)) dX0_learnTimes_43 fX0_65 rfl rfl (lv hi) rfl rfl ?_
    refine aIload_n (pc' := 47) dX0_learnTimes_46 rfl rfl ?_
    refine aAload_n (pc' := 48) dX0_learnTimes_47 rfl rfl ?_
    refine aGetR (pc' := 51) (q := (11, 0)) dX0_learnTimes_48 fX0_12 rfl rfl (lv (by decide)) rfl rfl ?_
    refine aIload_n (pc' := 52) dX0_learnTimes_51 rfl rfl ?_
    refine cVI (c := 8) (pc' := 55) [aI ((l3 : Int))] dX0_learnTimes_52 lX0_42 okX8_timeOf ⟨by decide, by decide⟩ npX8_timeOf rfl rfl rfl rfl rfl (by decide) rfl (cMetI_mono hw (fun x1 J3 hw => ?_))
    obtain ⟨C2, rfl, hw⟩ := hw
    obtain ⟨h4, hw⟩ := hw
    refine aIast (pc' := 56) (j := l3) dX0_learnTimes_55 rfl (lv hi) rfl h4 rfl (cEqI (mK rfl) ?_)
    obtain ⟨h5, hw⟩ := hw
    refine aIinc1 (pc' := 59) dX0_learnTimes_56 rfl (by decide) h5 rfl (L' := [some (aO 10 0), some (aO 6 i), some (aI l2), some (aI ((((l3 + 1) : Nat) : Int)))]) rfl ?_
    refine aGoto (pc' := 37) dX0_learnTimes_59 (by decide) ?_
    exact hw
set_option maxRecDepth 100000 in
set_option maxHeartbeats 4000000 in
theorem gX0_needInSteps {w : aW} {mm : Nat} {C : aIF} {S : aS} {i : Nat} {P : Int → aIF → Prop} (hi : i < 6) (hw : kMetV w mX0_learnTimes [aO 10 0, aO 6 i] C S (rf mm) (fun C2 => kMetI w mX5_stepsFor [aO 9 0, aI ((C2 6 i 4))] C2 S (rf mm) (fun x4 C5 => kRunI w mX0_needInSteps 17 [some (aO 10 0), some (aO 6 i), some (aI x4)] [] C5 S (rf mm) P))) : kMetI w mX0_needInSteps [aO 10 0, aO 6 i] C S (rf mm) P := by
  refine cMet_of okX0_needInSteps (Nat.le_of_ble_eq_true rfl) (fun hos => ?_)
  show cRun w mX0_needInSteps 0 [some (aO 10 0), some (aO 6 i), none] [] (mem C S) (rf mm) (kqI (rf mm) S P)
  refine aAload_n (pc' := 1) dX0_needInSteps_0 rfl rfl ?_
  refine aAload_n (pc' := 2) dX0_needInSteps_1 rfl rfl ?_
  refine cVV (c := 0) (pc' := 5) [aO 6 i] dX0_needInSteps_2 lX0_46 okX0_learnTimes ⟨by decide, by decide⟩ npX0_learnTimes rfl rfl rfl rfl rfl (by decide) rfl (cMetV_mono hw (fun J3 hw => ?_))
  obtain ⟨C2, rfl, hw⟩ := hw
  refine aAload_n (pc' := 6) dX0_needInSteps_5 rfl rfl ?_
  refine aGetR (pc' := 9) (q := (9, 0)) dX0_needInSteps_6 fX0_34 rfl rfl (lv (by decide)) rfl rfl ?_
  refine aAload_n (pc' := 10) dX0_needInSteps_9 rfl rfl ?_
  refine aGetI (pc' := 13) dX0_needInSteps_10 fX0_50 rfl rfl (lv hi) rfl ?_
  refine aTopEq (y := (C2 6 i 4)) rfl ?_
  refine cVI (c := 5) (pc' := 16) [aI ((C2 6 i 4))] dX0_needInSteps_13 lX0_56 okX5_stepsFor ⟨by decide, by decide⟩ npX5_stepsFor rfl rfl rfl rfl rfl (by decide) rfl (cMetI_mono hw (fun x4 J6 hw => ?_))
  obtain ⟨C5, rfl, hw⟩ := hw
  refine aIstore_n (pc' := 17) dX0_needInSteps_16 (by decide) rfl (L' := [some (aO 10 0), some (aO 6 i), some (aI x4)]) rfl ?_
  exact hw
set_option maxRecDepth 100000 in
set_option maxHeartbeats 4000000 in
theorem gX0_needInSteps_17 {w : aW} {mm : Nat} {C : aIF} {S : aS} {i : Nat} {l2 : Nat} {P : Int → aIF → Prop} (hi : i < 6) (hw : kMetI w mX5_allSteps [aO 9 0] C S (rf mm) (fun x1 C2 => ((x1 < (l2 : Int)) → P (-1) C2) ∧ ((¬ (x1 < (l2 : Int))) → (l2 < 65) ∧ ((((C2 8 i l2) = (-1)) → (l2 + 1 < 2147483648) ∧ (kRunI w mX0_needInSteps 17 [some (aO 10 0), some (aO 6 i), some (aI ((((l2 + 1) : Nat) : Int)))] [] C2 S (rf mm) P)) ∧ ((¬ ((C2 8 i l2) = (-1))) → P (l2 : Int) C2))))) : kRunI w mX0_needInSteps 17 [some (aO 10 0), some (aO 6 i), some (aI ((l2 : Int)))] [] C S (rf mm) P := by
  refine aIload_n (pc' := 18) dX0_needInSteps_17 rfl rfl ?_
  refine aAload_n (pc' := 19) dX0_needInSteps_18 rfl rfl ?_
  refine aGetR (pc' := 22) (q := (9, 0)) dX0_needInSteps_19 fX0_34 rfl rfl (lv (by decide)) rfl rfl ?_
  refine cVI (c := 5) (pc' := 25) [] dX0_needInSteps_22 lX0_61 okX5_allSteps ⟨by decide, by decide⟩ npX5_allSteps rfl rfl rfl rfl rfl (by decide) rfl (cMetI_mono hw (fun x1 J3 hw => ?_))
  obtain ⟨C2, rfl, hw⟩ := hw
  refine aIcmp_gt (tgt := 46) (pc' := 28) dX0_needInSteps_25 (by decide) rfl (fun hc => ?_) (fun hc => ?_)
  · have hw := hw.1 hc
    refine aIconst (pc' := 47) ⟨by decide, by decide⟩ dX0_needInSteps_46 rfl ?_
    exact cIret dX0_needInSteps_47 okX0_needInSteps rfl ⟨rfl, _, rfl, _, rfl, hw⟩
  · have hw := hw.2 hc
    refine aAload_n (pc' := 29) dX0_needInSteps_28 rfl rfl ?_
    refine aGetR (pc' := 32) (q := (8, i)) dX0_needInSteps_29 fX0_65 rfl rfl (lv hi) rfl rfl ?_
    refine aIload_n (pc' := 33) dX0_needInSteps_32 rfl rfl ?_
    obtain ⟨h4, hw⟩ := hw
    refine aIald (pc' := 34) (j := l2) dX0_needInSteps_33 rfl (lv hi) rfl h4 rfl ?_
    refine aTopEq (y := (C2 8 i l2)) rfl ?_
    refine aIconst (pc' := 35) ⟨by decide, by decide⟩ dX0_needInSteps_34 rfl ?_
    refine aIcmp_eq (tgt := 40) (pc' := 38) dX0_needInSteps_35 (by decide) rfl (fun hc => ?_) (fun hc => ?_)
    · have hw := hw.1 hc
      obtain ⟨h5, hw⟩ := hw
      refine aIinc1 (pc' := 43) dX0_needInSteps_40 rfl (by decide) h5 rfl (L' := [some (aO 10 0), some (aO 6 i), some (aI ((((l2 + 1) : Nat) : Int)))]) rfl ?_
      refine aGoto (pc' := 17) dX0_needInSteps_43 (by decide) ?_
      exact hw
    · have hw := hw.2 hc
      refine aIload_n (pc' := 39) dX0_needInSteps_38 rfl rfl ?_
      exact cIret dX0_needInSteps_39 okX0_needInSteps rfl ⟨rfl, _, rfl, _, rfl, hw⟩
set_option maxRecDepth 100000 in
set_option maxHeartbeats 4000000 in
theorem gX0_sumOfTimes {w : aW} {mm : Nat} {C : aIF} {S : aS} {cnt : Nat} {P : Int → aIF → Prop} (hw : kRunI w mX0_sumOfTimes 5 [some (aO 10 0), some (aO 5 0), some (aI ((cnt : Int))), some (aI 0), some (aI 0)] [] C S (rf mm) P) : kMetI w mX0_sumOfTimes [aO 10 0, aO 5 0, aI ((cnt : Int))] C S (rf mm) P := by
  refine cMet_of okX0_sumOfTimes (Nat.le_of_ble_eq_true rfl) (fun hos => ?_)
  show cRun w mX0_sumOfTimes 0 [some (aO 10 0), some (aO 5 0), some (aI ((cnt : Int))), none, none] [] (mem C S) (rf mm) (kqI (rf mm) S P)
  refine aIconst (pc' := 1) ⟨by decide, by decide⟩ dX0_sumOfTimes_0 rfl ?_
  refine aIstore_n (pc' := 2) dX0_sumOfTimes_1 (by decide) rfl (L' := [some (aO 10 0), some (aO 5 0), some (aI ((cnt : Int))), some (aI 0), none]) rfl ?_
  refine aIconst (pc' := 3) ⟨by decide, by decide⟩ dX0_sumOfTimes_2 rfl ?_
  refine aIstore (pc' := 5) dX0_sumOfTimes_3 (by decide) rfl (L' := [some (aO 10 0), some (aO 5 0), some (aI ((cnt : Int))), some (aI 0), some (aI 0)]) rfl ?_
  exact hw
set_option maxRecDepth 100000 in
set_option maxHeartbeats 4000000 in
theorem gX0_sumOfTimes_5 {w : aW} {mm : Nat} {C : aIF} {S : aS} {cnt : Nat} {l3 : Int} {l4 : Nat} {P : Int → aIF → Prop} (hw : (((cnt : Int) ≤ (l4 : Int)) → P l3 C) ∧ ((¬ ((cnt : Int) ≤ (l4 : Int))) → (l4 < 6) ∧ ((0 ≤ (C 17 0 l4) ∧ (C 17 0 l4) < ((65 : Nat) : Int)) ∧ ((-2147483648 ≤ (l3 + (C 8 l4 (((C 17 0 l4)).toNat))) ∧ (l3 + (C 8 l4 (((C 17 0 l4)).toNat))) < 2147483648) ∧ ((l4 + 1 < 2147483648) ∧ (kRunI w mX0_sumOfTimes 5 [some (aO 10 0), some (aO 5 0), some (aI ((cnt : Int))), some (aI ((l3 + (C 8 l4 (((C 17 0 l4)).toNat))))), some (aI ((((l4 + 1) : Nat) : Int)))] [] C S (rf mm) P)))))) : kRunI w mX0_sumOfTimes 5 [some (aO 10 0), some (aO 5 0), some (aI ((cnt : Int))), some (aI l3), some (aI ((l4 : Int)))] [] C S (rf mm) P := by
  refine aIload (pc' := 7) dX0_sumOfTimes_5 rfl rfl ?_
  refine aIload_n (pc' := 8) dX0_sumOfTimes_7 rfl rfl ?_
  refine aIcmp_ge (tgt := 35) (pc' := 11) dX0_sumOfTimes_8 (by decide) rfl (fun hc => ?_) (fun hc => ?_)
  · have hw := hw.1 hc
    refine aIload_n (pc' := 36) dX0_sumOfTimes_35 rfl rfl ?_
    exact cIret dX0_sumOfTimes_36 okX0_sumOfTimes rfl ⟨rfl, _, rfl, _, rfl, hw⟩
  · have hw := hw.2 hc
    refine aIload_n (pc' := 12) dX0_sumOfTimes_11 rfl rfl ?_
    refine aAload_n (pc' := 13) dX0_sumOfTimes_12 rfl rfl ?_
    refine aIload (pc' := 15) dX0_sumOfTimes_13 rfl rfl ?_
    obtain ⟨h1, hw⟩ := hw
    refine aAald (pc' := 16) (j := l4) (q := (6, l4)) dX0_sumOfTimes_15 (t := 4) rfl ⟨by decide, by decide⟩ (lv (by decide)) rfl h1 rfl rfl ?_
    refine aGetR (pc' := 19) (q := (8, l4)) dX0_sumOfTimes_16 fX0_65 rfl rfl (lv h1) rfl rfl ?_
    refine aAload_n (pc' := 20) dX0_sumOfTimes_19 rfl rfl ?_
    refine aGetR (pc' := 23) (q := (17, 0)) dX0_sumOfTimes_20 fX0_18 rfl rfl (lv (by decide)) rfl rfl ?_
    refine aIload (pc' := 25) dX0_sumOfTimes_23 rfl rfl ?_
    refine aIald (pc' := 26) (j := l4) dX0_sumOfTimes_25 rfl (lv (by decide)) rfl h1 rfl ?_
    refine aTopEq (y := (C 17 0 l4)) rfl ?_
    obtain ⟨h2, hw⟩ := hw
    refine aIald (pc' := 27) (j := ((C 17 0 l4)).toNat) dX0_sumOfTimes_26 rfl (lv h1) (tnIx h2).1 (tnIx h2).2 rfl ?_
    refine aTopEq (y := (C 8 l4 (((C 17 0 l4)).toNat))) rfl ?_
    obtain ⟨h3, hw⟩ := hw
    refine aIadd (pc' := 28) h3.1 h3.2 dX0_sumOfTimes_27 rfl ?_
    refine aIstore_n (pc' := 29) dX0_sumOfTimes_28 (by decide) rfl (L' := [some (aO 10 0), some (aO 5 0), some (aI ((cnt : Int))), some (aI ((l3 + (C 8 l4 (((C 17 0 l4)).toNat))))), some (aI ((l4 : Int)))]) rfl ?_
    obtain ⟨h4, hw⟩ := hw
    refine aIinc1 (pc' := 32) dX0_sumOfTimes_29 rfl (by decide) h4 rfl (L' := [some (aO 10 0), some (aO 5 0), some (aI ((cnt : Int))), some (aI ((l3 + (C 8 l4 (((C 17 0 l4)).toNat))))), some (aI ((((l4 + 1) : Nat) : Int)))]) rfl ?_
    refine aGoto (pc' := 5) dX0_sumOfTimes_32 (by decide) ?_
    exact hw
set_option maxRecDepth 100000 in
set_option maxHeartbeats 4000000 in
theorem gX0_sumWith {w : aW} {mm : Nat} {C : aIF} {S : aS} {i : Nat} {q : Nat} {sh : Int} {lf : Int} {P : Int → aIF → Prop} (hi : i < 6) (hw : (-2147483648 ≤ ((q : Int) + 1) ∧ ((q : Int) + 1) < 2147483648) ∧ (((q + 1) < 7) ∧ ((-2147483648 ≤ (lf - sh) ∧ (lf - sh) < 2147483648) ∧ ((0 ≤ (lf - sh) ∧ (lf - sh) < ((65 : Nat) : Int)) ∧ ((((C 20 ((q + 1)) (((lf - sh)).toNat)) = (-1)) → P (-1) C) ∧ ((¬ ((C 20 ((q + 1)) (((lf - sh)).toNat)) = (-1))) → (0 ≤ sh ∧ sh < ((65 : Nat) : Int)) ∧ ((((C 8 i ((sh).toNat)) ≠ (-1)) → (-2147483648 ≤ ((C 8 i ((sh).toNat)) + (C 20 ((q + 1)) (((lf - sh)).toNat))) ∧ ((C 8 i ((sh).toNat)) + (C 20 ((q + 1)) (((lf - sh)).toNat))) < 2147483648) ∧ (P ((C 8 i ((sh).toNat)) + (C 20 ((q + 1)) (((lf - sh)).toNat))) C)) ∧ (((C 8 i ((sh).toNat)) = (-1)) → P (-1) C)))))))) : kMetI w mX0_sumWith [aO 10 0, aO 6 i, aI ((q : Int)), aI sh, aI lf] C S (rf mm) P := by
  refine cMet_of okX0_sumWith (Nat.le_of_ble_eq_true rfl) (fun hos => ?_)
  show cRun w mX0_sumWith 0 [some (aO 10 0), some (aO 6 i), some (aI ((q : Int))), some (aI sh), some (aI lf), none] [] (mem C S) (rf mm) (kqI (rf mm) S P)
  refine aAload_n (pc' := 1) dX0_sumWith_0 rfl rfl ?_
  refine aGetR (pc' := 4) (q := (19, 0)) dX0_sumWith_1 fX0_31 rfl rfl (lv (by decide)) rfl rfl ?_
  refine aIload_n (pc' := 5) dX0_sumWith_4 rfl rfl ?_
  refine aIconst (pc' := 6) ⟨by decide, by decide⟩ dX0_sumWith_5 rfl ?_
  obtain ⟨h1, hw⟩ := hw
  refine aIadd (pc' := 7) h1.1 h1.2 dX0_sumWith_6 rfl ?_
  obtain ⟨h2, hw⟩ := hw
  refine aAald (pc' := 8) (j := (q + 1)) (q := (20, (q + 1))) dX0_sumWith_7 (t := 6) rfl ⟨by decide, by decide⟩ (lv (by decide)) (by omega) h2 rfl rfl ?_
  refine aIload (pc' := 10) dX0_sumWith_8 rfl rfl ?_
  refine aIload_n (pc' := 11) dX0_sumWith_10 rfl rfl ?_
  obtain ⟨h3, hw⟩ := hw
  refine aIsub (pc' := 12) h3.1 h3.2 dX0_sumWith_11 rfl ?_
  obtain ⟨h4, hw⟩ := hw
  refine aIald (pc' := 13) (j := ((lf - sh)).toNat) dX0_sumWith_12 rfl (lv h2) (tnIx h4).1 (tnIx h4).2 rfl ?_
  refine aTopEq (y := (C 20 ((q + 1)) (((lf - sh)).toNat))) rfl ?_
  refine aIstore (pc' := 15) dX0_sumWith_13 (by decide) rfl (L' := [some (aO 10 0), some (aO 6 i), some (aI ((q : Int))), some (aI sh), some (aI lf), some (aI ((C 20 ((q + 1)) (((lf - sh)).toNat))))]) rfl ?_
  refine aIload (pc' := 17) dX0_sumWith_15 rfl rfl ?_
  refine aIconst (pc' := 18) ⟨by decide, by decide⟩ dX0_sumWith_17 rfl ?_
  refine aIcmp_eq (tgt := 31) (pc' := 21) dX0_sumWith_18 (by decide) rfl (fun hc => ?_) (fun hc => ?_)
  · have hw := hw.1 hc
    refine aIconst (pc' := 32) ⟨by decide, by decide⟩ dX0_sumWith_31 rfl ?_
    refine aGoto (pc' := 44) dX0_sumWith_32 (by decide) ?_
    exact cIret dX0_sumWith_44 okX0_sumWith rfl ⟨rfl, _, rfl, _, rfl, hw⟩
  · have hw := hw.2 hc
    refine aAload_n (pc' := 22) dX0_sumWith_21 rfl rfl ?_
    refine aGetR (pc' := 25) (q := (8, i)) dX0_sumWith_22 fX0_65 rfl rfl (lv hi) rfl rfl ?_
    refine aIload_n (pc' := 26) dX0_sumWith_25 rfl rfl ?_
    obtain ⟨h5, hw⟩ := hw
    refine aIald (pc' := 27) (j := (sh).toNat) dX0_sumWith_26 rfl (lv hi) (tnIx h5).1 (tnIx h5).2 rfl ?_
    refine aTopEq (y := (C 8 i ((sh).toNat))) rfl ?_
    refine aIconst (pc' := 28) ⟨by decide, by decide⟩ dX0_sumWith_27 rfl ?_
    refine aIcmp_ne (tgt := 35) (pc' := 31) dX0_sumWith_28 (by decide) rfl (fun hc => ?_) (fun hc => ?_)
    · have hw := hw.1 hc
      refine aAload_n (pc' := 36) dX0_sumWith_35 rfl rfl ?_
      refine aGetR (pc' := 39) (q := (8, i)) dX0_sumWith_36 fX0_65 rfl rfl (lv hi) rfl rfl ?_
      refine aIload_n (pc' := 40) dX0_sumWith_39 rfl rfl ?_
      refine aIald (pc' := 41) (j := (sh).toNat) dX0_sumWith_40 rfl (lv hi) (tnIx h5).1 (tnIx h5).2 rfl ?_
      refine aTopEq (y := (C 8 i ((sh).toNat))) rfl ?_
      refine aIload (pc' := 43) dX0_sumWith_41 rfl rfl ?_
      obtain ⟨h6, hw⟩ := hw
      refine aIadd (pc' := 44) h6.1 h6.2 dX0_sumWith_43 rfl ?_
      exact cIret dX0_sumWith_44 okX0_sumWith rfl ⟨rfl, _, rfl, _, rfl, hw⟩
    · have hw := hw.2 hc
      refine aIconst (pc' := 32) ⟨by decide, by decide⟩ dX0_sumWith_31 rfl ?_
      refine aGoto (pc' := 44) dX0_sumWith_32 (by decide) ?_
      exact cIret dX0_sumWith_44 okX0_sumWith rfl ⟨rfl, _, rfl, _, rfl, hw⟩
set_option maxRecDepth 100000 in
set_option maxHeartbeats 4000000 in
theorem gX0_takeFirstBest {w : aW} {mm : Nat} {C : aIF} {S : aS} {cnt : Nat} {top : Int} {P : aIF → Prop} (hw : kRunV w mX0_takeFirstBest 6 [some (aO 10 0), some (aO 5 0), some (aI ((cnt : Int))), some (aI top), some (aI top), some (aI 0), none] [] C S (rf mm) P) : kMetV w mX0_takeFirstBest [aO 10 0, aO 5 0, aI ((cnt : Int)), aI top] C S (rf mm) P := by
  refine cMet_of okX0_takeFirstBest (Nat.le_of_ble_eq_true rfl) (fun hos => ?_)
  show cRun w mX0_takeFirstBest 0 [some (aO 10 0), some (aO 5 0), some (aI ((cnt : Int))), some (aI top), none, none, none] [] (mem C S) (rf mm) (kqV (rf mm) S P)
  refine aIload_n (pc' := 1) dX0_takeFirstBest_0 rfl rfl ?_
  refine aIstore (pc' := 3) dX0_takeFirstBest_1 (by decide) rfl (L' := [some (aO 10 0), some (aO 5 0), some (aI ((cnt : Int))), some (aI top), some (aI top), none, none]) rfl ?_
  refine aIconst (pc' := 4) ⟨by decide, by decide⟩ dX0_takeFirstBest_3 rfl ?_
  refine aIstore (pc' := 6) dX0_takeFirstBest_4 (by decide) rfl (L' := [some (aO 10 0), some (aO 5 0), some (aI ((cnt : Int))), some (aI top), some (aI top), some (aI 0), none]) rfl ?_
  exact hw
set_option maxRecDepth 100000 in
set_option maxHeartbeats 4000000 in
theorem gX0_takeFirstBest_6 {w : aW} {mm : Nat} {C : aIF} {S : aS} {cnt : Nat} {top : Int} {l4 : Int} {l5 : Nat} {P : aIF → Prop} (hw : (((cnt : Int) ≤ (l5 : Int)) → P C) ∧ ((¬ ((cnt : Int) ≤ (l5 : Int))) → (l5 < 6) ∧ (kMetI w mX0_firstBestShare [aO 10 0, aO 6 l5, aI ((l5 : Int)), aI l4] C S (rf mm) (fun x2 C3 => (-2147483648 ≤ (l4 - (max x2 0)) ∧ (l4 - (max x2 0)) < 2147483648) ∧ ((l5 + 1 < 2147483648) ∧ (kRunV w mX0_takeFirstBest 6 [some (aO 10 0), some (aO 5 0), some (aI ((cnt : Int))), some (aI top), some (aI ((l4 - (max x2 0)))), some (aI ((((l5 + 1) : Nat) : Int))), none] [] (uI C3 17 0 l5 ((max x2 0))) S (rf mm) P)))))) : kRunV w mX0_takeFirstBest 6 [some (aO 10 0), some (aO 5 0), some (aI ((cnt : Int))), some (aI top), some (aI l4), some (aI ((l5 : Int))), none] [] C S (rf mm) P := by
  refine aIload (pc' := 8) dX0_takeFirstBest_6 rfl rfl ?_
  refine aIload_n (pc' := 9) dX0_takeFirstBest_8 rfl rfl ?_
  refine aIcmp_ge (tgt := 57) (pc' := 12) dX0_takeFirstBest_9 (by decide) rfl (fun hc => ?_) (fun hc => ?_)
  · have hw := hw.1 hc
    exact cVret dX0_takeFirstBest_57 okX0_takeFirstBest rfl ⟨rfl, rfl, _, rfl, hw⟩
  · have hw := hw.2 hc
    refine aAload_n (pc' := 13) dX0_takeFirstBest_12 rfl rfl ?_
    refine aAload_n (pc' := 14) dX0_takeFirstBest_13 rfl rfl ?_
    refine aIload (pc' := 16) dX0_takeFirstBest_14 rfl rfl ?_
    obtain ⟨h1, hw⟩ := hw
    refine aAald (pc' := 17) (j := l5) (q := (6, l5)) dX0_takeFirstBest_16 (t := 4) rfl ⟨by decide, by decide⟩ (lv (by decide)) rfl h1 rfl rfl ?_
    refine aIload (pc' := 19) dX0_takeFirstBest_17 rfl rfl ?_
    refine aIload (pc' := 21) dX0_takeFirstBest_19 rfl rfl ?_
    refine cVI (c := 0) (pc' := 24) [aO 6 l5, aI ((l5 : Int)), aI l4] dX0_takeFirstBest_21 lX0_88 okX0_firstBestShare ⟨by decide, by decide⟩ npX0_firstBestShare rfl rfl rfl rfl rfl (by decide) rfl (cMetI_mono hw (fun x2 J4 hw => ?_))
    obtain ⟨C3, rfl, hw⟩ := hw
    refine aIstore (pc' := 26) dX0_takeFirstBest_24 (by decide) rfl (L' := [some (aO 10 0), some (aO 5 0), some (aI ((cnt : Int))), some (aI top), some (aI l4), some (aI ((l5 : Int))), some (aI x2)]) rfl ?_
    refine aAload_n (pc' := 27) dX0_takeFirstBest_26 rfl rfl ?_
    refine aGetR (pc' := 30) (q := (17, 0)) dX0_takeFirstBest_27 fX0_18 rfl rfl (lv (by decide)) rfl rfl ?_
    refine aIload (pc' := 32) dX0_takeFirstBest_30 rfl rfl ?_
    refine aIload (pc' := 34) dX0_takeFirstBest_32 rfl rfl ?_
    refine aIconst (pc' := 35) ⟨by decide, by decide⟩ dX0_takeFirstBest_34 rfl ?_
    refine aMax (pc' := 38) dX0_takeFirstBest_35 lX0_100 rfl rfl (Nat.le_refl _) (Nat.le_refl _) rfl ?_
    refine aIast (pc' := 39) (j := l5) dX0_takeFirstBest_38 rfl (lv (by decide)) rfl h1 rfl (cEqI (mK rfl) ?_)
    refine aIload (pc' := 41) dX0_takeFirstBest_39 rfl rfl ?_
    refine aAload_n (pc' := 42) dX0_takeFirstBest_41 rfl rfl ?_
    refine aGetR (pc' := 45) (q := (17, 0)) dX0_takeFirstBest_42 fX0_18 rfl rfl (lv (by decide)) rfl rfl ?_
    refine aIload (pc' := 47) dX0_takeFirstBest_45 rfl rfl ?_
    refine aIald (pc' := 48) (j := l5) dX0_takeFirstBest_47 rfl (lv (by decide)) rfl h1 rfl ?_
    refine aTopEq (y := ((uI C3 17 0 l5 ((max x2 0))) 17 0 l5)) rfl ?_
    refine aTopEq uI_s ?_
    obtain ⟨h5, hw⟩ := hw
    refine aIsub (pc' := 49) h5.1 h5.2 dX0_takeFirstBest_48 rfl ?_
    refine aIstore (pc' := 51) dX0_takeFirstBest_49 (by decide) rfl (L' := [some (aO 10 0), some (aO 5 0), some (aI ((cnt : Int))), some (aI top), some (aI ((l4 - (max x2 0)))), some (aI ((l5 : Int))), some (aI x2)]) rfl ?_
    obtain ⟨h6, hw⟩ := hw
    refine aIinc1 (pc' := 54) dX0_takeFirstBest_51 rfl (by decide) h6 rfl (L' := [some (aO 10 0), some (aO 5 0), some (aI ((cnt : Int))), some (aI top), some (aI ((l4 - (max x2 0)))), some (aI ((((l5 + 1) : Nat) : Int))), some (aI x2)]) rfl ?_
    refine aGoto (pc' := 6) dX0_takeFirstBest_54 (by decide) ?_
    exact aDrop [6] (L' := [some (aO 10 0), some (aO 5 0), some (aI ((cnt : Int))), some (aI top), some (aI ((l4 - (max x2 0)))), some (aI ((((l5 + 1) : Nat) : Int))), none]) rfl hw
set_option maxRecDepth 100000 in
set_option maxHeartbeats 4000000 in
theorem gX0_timeByRoom {w : aW} {mm : Nat} {C : aIF} {S : aS} {i : Nat} {r : Int} {P : Int → aIF → Prop} (hi : i < 6) (hw : kMetV w mX8_pass [aO 11 0, aO 6 i, aI r, aI 0, aI 1] C S (rf mm) (fun C2 => kMetI w mX8_timeOf [aO 11 0, aI 0] C2 S (rf mm) (fun x4 C5 => P x4 C5))) : kMetI w mX0_timeByRoom [aO 10 0, aO 6 i, aI r] C S (rf mm) P := by
  refine cMet_of okX0_timeByRoom (Nat.le_of_ble_eq_true rfl) (fun hos => ?_)
  show cRun w mX0_timeByRoom 0 [some (aO 10 0), some (aO 6 i), some (aI r)] [] (mem C S) (rf mm) (kqI (rf mm) S P)
  refine aAload_n (pc' := 1) dX0_timeByRoom_0 rfl rfl ?_
  refine aGetR (pc' := 4) (q := (11, 0)) dX0_timeByRoom_1 fX0_12 rfl rfl (lv (by decide)) rfl rfl ?_
  refine aAload_n (pc' := 5) dX0_timeByRoom_4 rfl rfl ?_
  refine aIload_n (pc' := 6) dX0_timeByRoom_5 rfl rfl ?_
  refine aIconst (pc' := 7) ⟨by decide, by decide⟩ dX0_timeByRoom_6 rfl ?_
  refine aIconst (pc' := 8) ⟨by decide, by decide⟩ dX0_timeByRoom_7 rfl ?_
  refine cVV (c := 8) (pc' := 11) [aO 6 i, aI r, aI 0, aI 1] dX0_timeByRoom_8 lX0_38 okX8_pass ⟨by decide, by decide⟩ npX8_pass rfl rfl rfl rfl rfl (by decide) rfl (cMetV_mono hw (fun J3 hw => ?_))
  obtain ⟨C2, rfl, hw⟩ := hw
  refine aAload_n (pc' := 12) dX0_timeByRoom_11 rfl rfl ?_
  refine aGetR (pc' := 15) (q := (11, 0)) dX0_timeByRoom_12 fX0_12 rfl rfl (lv (by decide)) rfl rfl ?_
  refine aIconst (pc' := 16) ⟨by decide, by decide⟩ dX0_timeByRoom_15 rfl ?_
  refine cVI (c := 8) (pc' := 19) [aI 0] dX0_timeByRoom_16 lX0_42 okX8_timeOf ⟨by decide, by decide⟩ npX8_timeOf rfl rfl rfl rfl rfl (by decide) rfl (cMetI_mono hw (fun x4 J6 hw => ?_))
  obtain ⟨C5, rfl, hw⟩ := hw
  exact cIret dX0_timeByRoom_19 okX0_timeByRoom rfl ⟨rfl, _, rfl, _, rfl, hw⟩
set_option maxRecDepth 100000 in
set_option maxHeartbeats 4000000 in
theorem gX0_whoSavesMost {w : aW} {mm : Nat} {C : aIF} {S : aS} {cnt : Nat} {P : Int → aIF → Prop} (hw : kRunI w mX0_whoSavesMost 8 [some (aO 10 0), some (aO 5 0), some (aI ((cnt : Int))), some (aI ((-1))), some (aI 0), some (aI 0), none, none] [] C S (rf mm) P) : kMetI w mX0_whoSavesMost [aO 10 0, aO 5 0, aI ((cnt : Int))] C S (rf mm) P := by
  refine cMet_of okX0_whoSavesMost (Nat.le_of_ble_eq_true rfl) (fun hos => ?_)
  show cRun w mX0_whoSavesMost 0 [some (aO 10 0), some (aO 5 0), some (aI ((cnt : Int))), none, none, none, none, none] [] (mem C S) (rf mm) (kqI (rf mm) S P)
  refine aIconst (pc' := 1) ⟨by decide, by decide⟩ dX0_whoSavesMost_0 rfl ?_
  refine aIstore_n (pc' := 2) dX0_whoSavesMost_1 (by decide) rfl (L' := [some (aO 10 0), some (aO 5 0), some (aI ((cnt : Int))), some (aI ((-1))), none, none, none, none]) rfl ?_
  refine aIconst (pc' := 3) ⟨by decide, by decide⟩ dX0_whoSavesMost_2 rfl ?_
  refine aIstore (pc' := 5) dX0_whoSavesMost_3 (by decide) rfl (L' := [some (aO 10 0), some (aO 5 0), some (aI ((cnt : Int))), some (aI ((-1))), some (aI 0), none, none, none]) rfl ?_
  refine aIconst (pc' := 6) ⟨by decide, by decide⟩ dX0_whoSavesMost_5 rfl ?_
  refine aIstore (pc' := 8) dX0_whoSavesMost_6 (by decide) rfl (L' := [some (aO 10 0), some (aO 5 0), some (aI ((cnt : Int))), some (aI ((-1))), some (aI 0), some (aI 0), none, none]) rfl ?_
  exact hw
set_option maxRecDepth 100000 in
set_option maxHeartbeats 4000000 in
theorem gX0_whoSavesMost_8 {w : aW} {mm : Nat} {C : aIF} {S : aS} {cnt : Nat} {l3 : Int} {l4 : Int} {l5 : Nat} {P : Int → aIF → Prop} (hw : (((cnt : Int) ≤ (l5 : Int)) → P l3 C) ∧ ((¬ ((cnt : Int) ≤ (l5 : Int))) → (l5 < 6) ∧ (kMetI w mX5_allSteps [aO 9 0] C S (rf mm) (fun x2 C3 => ((x2 ≤ (C 17 0 l5)) → (l5 + 1 < 2147483648) ∧ (kRunI w mX0_whoSavesMost 8 [some (aO 10 0), some (aO 5 0), some (aI ((cnt : Int))), some (aI l3), some (aI l4), some (aI ((((l5 + 1) : Nat) : Int))), none, none] [] C3 S (rf mm) P)) ∧ ((¬ (x2 ≤ (C 17 0 l5))) → (0 ≤ (C 17 0 l5) ∧ (C 17 0 l5) < ((65 : Nat) : Int)) ∧ ((-2147483648 ≤ ((C 17 0 l5) + 1) ∧ ((C 17 0 l5) + 1) < 2147483648) ∧ ((0 ≤ ((C 17 0 l5) + 1) ∧ ((C 17 0 l5) + 1) < ((65 : Nat) : Int)) ∧ ((-2147483648 ≤ ((C3 8 l5 (((C 17 0 l5)).toNat)) - (C3 8 l5 ((((C 17 0 l5) + 1)).toNat))) ∧ ((C3 8 l5 (((C 17 0 l5)).toNat)) - (C3 8 l5 ((((C 17 0 l5) + 1)).toNat))) < 2147483648) ∧ (((((C3 8 l5 (((C 17 0 l5)).toNat)) - (C3 8 l5 ((((C 17 0 l5) + 1)).toNat))) ≤ l4) → (l5 + 1 < 2147483648) ∧ (kRunI w mX0_whoSavesMost 8 [some (aO 10 0), some (aO 5 0), some (aI ((cnt : Int))), some (aI l3), some (aI l4), some (aI ((((l5 + 1) : Nat) : Int))), none, none] [] C3 S (rf mm) P)) ∧ ((¬ (((C3 8 l5 (((C 17 0 l5)).toNat)) - (C3 8 l5 ((((C 17 0 l5) + 1)).toNat))) ≤ l4)) → (l5 + 1 < 2147483648) ∧ (kRunI w mX0_whoSavesMost 8 [some (aO 10 0), some (aO 5 0), some (aI ((cnt : Int))), some (aI ((l5 : Int))), some (aI (((C3 8 l5 (((C 17 0 l5)).toNat)) - (C3 8 l5 ((((C 17 0 l5) + 1)).toNat))))), some (aI ((((l5 + 1) : Nat) : Int))), none, none] [] C3 S (rf mm) P))))))))))) : kRunI w mX0_whoSavesMost 8 [some (aO 10 0), some (aO 5 0), some (aI ((cnt : Int))), some (aI l3), some (aI l4), some (aI ((l5 : Int))), none, none] [] C S (rf mm) P := by
  refine aIload (pc' := 10) dX0_whoSavesMost_8 rfl rfl ?_
  refine aIload_n (pc' := 11) dX0_whoSavesMost_10 rfl rfl ?_
  refine aIcmp_ge (tgt := 80) (pc' := 14) dX0_whoSavesMost_11 (by decide) rfl (fun hc => ?_) (fun hc => ?_)
  · have hw := hw.1 hc
    refine aIload_n (pc' := 81) dX0_whoSavesMost_80 rfl rfl ?_
    exact cIret dX0_whoSavesMost_81 okX0_whoSavesMost rfl ⟨rfl, _, rfl, _, rfl, hw⟩
  · have hw := hw.2 hc
    refine aAload_n (pc' := 15) dX0_whoSavesMost_14 rfl rfl ?_
    refine aGetR (pc' := 18) (q := (17, 0)) dX0_whoSavesMost_15 fX0_18 rfl rfl (lv (by decide)) rfl rfl ?_
    refine aIload (pc' := 20) dX0_whoSavesMost_18 rfl rfl ?_
    obtain ⟨h1, hw⟩ := hw
    refine aIald (pc' := 21) (j := l5) dX0_whoSavesMost_20 rfl (lv (by decide)) rfl h1 rfl ?_
    refine aTopEq (y := (C 17 0 l5)) rfl ?_
    refine aIstore (pc' := 23) dX0_whoSavesMost_21 (by decide) rfl (L' := [some (aO 10 0), some (aO 5 0), some (aI ((cnt : Int))), some (aI l3), some (aI l4), some (aI ((l5 : Int))), some (aI ((C 17 0 l5))), none]) rfl ?_
    refine aIload (pc' := 25) dX0_whoSavesMost_23 rfl rfl ?_
    refine aAload_n (pc' := 26) dX0_whoSavesMost_25 rfl rfl ?_
    refine aGetR (pc' := 29) (q := (9, 0)) dX0_whoSavesMost_26 fX0_34 rfl rfl (lv (by decide)) rfl rfl ?_
    refine cVI (c := 5) (pc' := 32) [] dX0_whoSavesMost_29 lX0_61 okX5_allSteps ⟨by decide, by decide⟩ npX5_allSteps rfl rfl rfl rfl rfl (by decide) rfl (cMetI_mono hw (fun x2 J4 hw => ?_))
    obtain ⟨C3, rfl, hw⟩ := hw
    refine aIcmp_ge (tgt := 74) (pc' := 35) dX0_whoSavesMost_32 (by decide) rfl (fun hc => ?_) (fun hc => ?_)
    · have hw := hw.1 hc
      obtain ⟨h5, hw⟩ := hw
      refine aIinc1 (pc' := 77) dX0_whoSavesMost_74 rfl (by decide) h5 rfl (L' := [some (aO 10 0), some (aO 5 0), some (aI ((cnt : Int))), some (aI l3), some (aI l4), some (aI ((((l5 + 1) : Nat) : Int))), some (aI ((C 17 0 l5))), none]) rfl ?_
      refine aGoto (pc' := 8) dX0_whoSavesMost_77 (by decide) ?_
      exact aDrop [6] (L' := [some (aO 10 0), some (aO 5 0), some (aI ((cnt : Int))), some (aI l3), some (aI l4), some (aI ((((l5 + 1) : Nat) : Int))), none, none]) rfl hw
    · have hw := hw.2 hc
      refine aAload_n (pc' := 36) dX0_whoSavesMost_35 rfl rfl ?_
      refine aIload (pc' := 38) dX0_whoSavesMost_36 rfl rfl ?_
      refine aAald (pc' := 39) (j := l5) (q := (6, l5)) dX0_whoSavesMost_38 (t := 4) rfl ⟨by decide, by decide⟩ (lv (by decide)) rfl h1 rfl rfl ?_
      refine aGetR (pc' := 42) (q := (8, l5)) dX0_whoSavesMost_39 fX0_65 rfl rfl (lv h1) rfl rfl ?_
      refine aIload (pc' := 44) dX0_whoSavesMost_42 rfl rfl ?_
      obtain ⟨h6, hw⟩ := hw
      refine aIald (pc' := 45) (j := ((C 17 0 l5)).toNat) dX0_whoSavesMost_44 rfl (lv h1) (tnIx h6).1 (tnIx h6).2 rfl ?_
      refine aTopEq (y := (C3 8 l5 (((C 17 0 l5)).toNat))) rfl ?_
      refine aAload_n (pc' := 46) dX0_whoSavesMost_45 rfl rfl ?_
      refine aIload (pc' := 48) dX0_whoSavesMost_46 rfl rfl ?_
      refine aAald (pc' := 49) (j := l5) (q := (6, l5)) dX0_whoSavesMost_48 (t := 4) rfl ⟨by decide, by decide⟩ (lv (by decide)) rfl h1 rfl rfl ?_
      refine aGetR (pc' := 52) (q := (8, l5)) dX0_whoSavesMost_49 fX0_65 rfl rfl (lv h1) rfl rfl ?_
      refine aIload (pc' := 54) dX0_whoSavesMost_52 rfl rfl ?_
      refine aIconst (pc' := 55) ⟨by decide, by decide⟩ dX0_whoSavesMost_54 rfl ?_
      obtain ⟨h7, hw⟩ := hw
      refine aIadd (pc' := 56) h7.1 h7.2 dX0_whoSavesMost_55 rfl ?_
      obtain ⟨h8, hw⟩ := hw
      refine aIald (pc' := 57) (j := (((C 17 0 l5) + 1)).toNat) dX0_whoSavesMost_56 rfl (lv h1) (tnIx h8).1 (tnIx h8).2 rfl ?_
      refine aTopEq (y := (C3 8 l5 ((((C 17 0 l5) + 1)).toNat))) rfl ?_
      obtain ⟨h9, hw⟩ := hw
      refine aIsub (pc' := 58) h9.1 h9.2 dX0_whoSavesMost_57 rfl ?_
      refine aIstore (pc' := 60) dX0_whoSavesMost_58 (by decide) rfl (L' := [some (aO 10 0), some (aO 5 0), some (aI ((cnt : Int))), some (aI l3), some (aI l4), some (aI ((l5 : Int))), some (aI ((C 17 0 l5))), some (aI (((C3 8 l5 (((C 17 0 l5)).toNat)) - (C3 8 l5 ((((C 17 0 l5) + 1)).toNat)))))]) rfl ?_
      refine aIload (pc' := 62) dX0_whoSavesMost_60 rfl rfl ?_
      refine aIload (pc' := 64) dX0_whoSavesMost_62 rfl rfl ?_
      refine aIcmp_le (tgt := 74) (pc' := 67) dX0_whoSavesMost_64 (by decide) rfl (fun hc => ?_) (fun hc => ?_)
      · have hw := hw.1 hc
        obtain ⟨h10, hw⟩ := hw
        refine aIinc1 (pc' := 77) dX0_whoSavesMost_74 rfl (by decide) h10 rfl (L' := [some (aO 10 0), some (aO 5 0), some (aI ((cnt : Int))), some (aI l3), some (aI l4), some (aI ((((l5 + 1) : Nat) : Int))), some (aI ((C 17 0 l5))), some (aI (((C3 8 l5 (((C 17 0 l5)).toNat)) - (C3 8 l5 ((((C 17 0 l5) + 1)).toNat)))))]) rfl ?_
        refine aGoto (pc' := 8) dX0_whoSavesMost_77 (by decide) ?_
        exact aDrop [6, 7] (L' := [some (aO 10 0), some (aO 5 0), some (aI ((cnt : Int))), some (aI l3), some (aI l4), some (aI ((((l5 + 1) : Nat) : Int))), none, none]) rfl hw
      · have hw := hw.2 hc
        refine aIload (pc' := 69) dX0_whoSavesMost_67 rfl rfl ?_
        refine aIstore (pc' := 71) dX0_whoSavesMost_69 (by decide) rfl (L' := [some (aO 10 0), some (aO 5 0), some (aI ((cnt : Int))), some (aI l3), some (aI (((C3 8 l5 (((C 17 0 l5)).toNat)) - (C3 8 l5 ((((C 17 0 l5) + 1)).toNat))))), some (aI ((l5 : Int))), some (aI ((C 17 0 l5))), some (aI (((C3 8 l5 (((C 17 0 l5)).toNat)) - (C3 8 l5 ((((C 17 0 l5) + 1)).toNat)))))]) rfl ?_
        refine aIload (pc' := 73) dX0_whoSavesMost_71 rfl rfl ?_
        refine aIstore_n (pc' := 74) dX0_whoSavesMost_73 (by decide) rfl (L' := [some (aO 10 0), some (aO 5 0), some (aI ((cnt : Int))), some (aI ((l5 : Int))), some (aI (((C3 8 l5 (((C 17 0 l5)).toNat)) - (C3 8 l5 ((((C 17 0 l5) + 1)).toNat))))), some (aI ((l5 : Int))), some (aI ((C 17 0 l5))), some (aI (((C3 8 l5 (((C 17 0 l5)).toNat)) - (C3 8 l5 ((((C 17 0 l5) + 1)).toNat)))))]) rfl ?_
        obtain ⟨h11, hw⟩ := hw
        refine aIinc1 (pc' := 77) dX0_whoSavesMost_74 rfl (by decide) h11 rfl (L' := [some (aO 10 0), some (aO 5 0), some (aI ((cnt : Int))), some (aI ((l5 : Int))), some (aI (((C3 8 l5 (((C 17 0 l5)).toNat)) - (C3 8 l5 ((((C 17 0 l5) + 1)).toNat))))), some (aI ((((l5 + 1) : Nat) : Int))), some (aI ((C 17 0 l5))), some (aI (((C3 8 l5 (((C 17 0 l5)).toNat)) - (C3 8 l5 ((((C 17 0 l5) + 1)).toNat)))))]) rfl ?_
        refine aGoto (pc' := 8) dX0_whoSavesMost_77 (by decide) ?_
        exact aDrop [6, 7] (L' := [some (aO 10 0), some (aO 5 0), some (aI ((cnt : Int))), some (aI ((l5 : Int))), some (aI (((C3 8 l5 (((C 17 0 l5)).toNat)) - (C3 8 l5 ((((C 17 0 l5) + 1)).toNat))))), some (aI ((((l5 + 1) : Nat) : Int))), none, none]) rfl hw
