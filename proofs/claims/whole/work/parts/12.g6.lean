set_option maxRecDepth 100000 in
set_option maxHeartbeats 4000000 in
theorem gX10_acts {w : aW} {mm : Nat} {C : aIF} {S : aS} {p : Nat} {P : aS → Prop} (hw : (-2147483648 ≤ (60 * (p : Int)) ∧ (60 * (p : Int)) < 2147483648) ∧ ((p < 6) ∧ ((-2147483648 ≤ ((60 * (p : Int)) + (S 33 p)) ∧ ((60 * (p : Int)) + (S 33 p)) < 2147483648) ∧ ((0 ≤ ((60 * (p : Int)) + (S 33 p)) ∧ ((60 * (p : Int)) + (S 33 p)) < ((360 : Nat) : Int)) ∧ ((((S 12 ((((60 * (p : Int)) + (S 33 p))).toNat)) ≤ 1001) → ((0 ≤ (S 12 ((((60 * (p : Int)) + (S 33 p))).toNat))) → (((S 12 ((((60 * (p : Int)) + (S 33 p))).toNat)) ≤ 0) → rMetV w mX10_passes [aO 40 0, aI ((p : Int))] C S (rf mm) (fun S6 => P S6)) ∧ ((¬ ((S 12 ((((60 * (p : Int)) + (S 33 p))).toNat)) ≤ 0)) → (((S 12 ((((60 * (p : Int)) + (S 33 p))).toNat)) ≠ 1001) → (-2147483648 ≤ ((S 30 p) + (S 12 ((((60 * (p : Int)) + (S 33 p))).toNat))) ∧ ((S 30 p) + (S 12 ((((60 * (p : Int)) + (S 33 p))).toNat))) < 2147483648) ∧ (rMetI w mX10_holds [aI ((S 13 p)), aI ((S 29 p))] C S (rf mm) (fun x9 S10 => ((x9 < ((S 30 p) + (S 12 ((((60 * (p : Int)) + (S 33 p))).toNat)))) → (((S10 30 p) ≤ (S10 31 p)) → rMetI w mX10_asks [aO 40 0, aI ((p : Int)), aI ((S 12 ((((60 * (p : Int)) + (S 33 p))).toNat)))] C S10 (rf mm) (fun x12 S13 => ((x12 = 0) → rMetV w mX10_isOver [aO 40 0, aI ((p : Int)), aI 4] C S13 (rf mm) (fun S16 => P S16)) ∧ ((¬ (x12 = 0)) → rMetV w mX10_makes [aO 40 0, aI ((p : Int)), aI ((S 12 ((((60 * (p : Int)) + (S 33 p))).toNat)))] C S13 (rf mm) (fun S19 => P S19)))) ∧ ((¬ ((S10 30 p) ≤ (S10 31 p))) → rMetI w mX10_collects [aO 40 0, aI ((p : Int))] C S10 (rf mm) (fun x21 S22 => (-2147483648 ≤ (x21 - 1) ∧ (x21 - 1) < 2147483648) ∧ ((((x21 - 1) ≤ 0) → P (sU (sU S22 37 p ((x21 - 1))) 28 p 0)) ∧ ((¬ ((x21 - 1) ≤ 0)) → P (sU (sU S22 37 p ((x21 - 1))) 28 p 1)))))) ∧ ((¬ (x9 < ((S 30 p) + (S 12 ((((60 * (p : Int)) + (S 33 p))).toNat))))) → rMetV w mX10_makes [aO 40 0, aI ((p : Int)), aI ((S 12 ((((60 * (p : Int)) + (S 33 p))).toNat)))] C S10 (rf mm) (fun S26 => P S26))))) ∧ (((S 12 ((((60 * (p : Int)) + (S 33 p))).toNat)) = 1001) → rMetV w mX10_passes [aO 40 0, aI ((p : Int))] C S (rf mm) (fun S29 => P S29)))) ∧ ((¬ (0 ≤ (S 12 ((((60 * (p : Int)) + (S 33 p))).toNat)))) → (-2147483648 ≤ ((S 34 p) + (S 12 ((((60 * (p : Int)) + (S 33 p))).toNat))) ∧ ((S 34 p) + (S 12 ((((60 * (p : Int)) + (S 33 p))).toNat))) < 2147483648) ∧ (((((S 34 p) + (S 12 ((((60 * (p : Int)) + (S 33 p))).toNat))) < 0) → (((S 12 ((((60 * (p : Int)) + (S 33 p))).toNat)) ≤ 0) → rMetV w mX10_passes [aO 40 0, aI ((p : Int))] C S (rf mm) (fun S33 => P S33)) ∧ ((¬ ((S 12 ((((60 * (p : Int)) + (S 33 p))).toNat)) ≤ 0)) → (((S 12 ((((60 * (p : Int)) + (S 33 p))).toNat)) ≠ 1001) → (-2147483648 ≤ ((S 30 p) + (S 12 ((((60 * (p : Int)) + (S 33 p))).toNat))) ∧ ((S 30 p) + (S 12 ((((60 * (p : Int)) + (S 33 p))).toNat))) < 2147483648) ∧ (rMetI w mX10_holds [aI ((S 13 p)), aI ((S 29 p))] C S (rf mm) (fun x36 S37 => ((x36 < ((S 30 p) + (S 12 ((((60 * (p : Int)) + (S 33 p))).toNat)))) → (((S37 30 p) ≤ (S37 31 p)) → rMetI w mX10_asks [aO 40 0, aI ((p : Int)), aI ((S 12 ((((60 * (p : Int)) + (S 33 p))).toNat)))] C S37 (rf mm) (fun x39 S40 => ((x39 = 0) → rMetV w mX10_isOver [aO 40 0, aI ((p : Int)), aI 4] C S40 (rf mm) (fun S43 => P S43)) ∧ ((¬ (x39 = 0)) → rMetV w mX10_makes [aO 40 0, aI ((p : Int)), aI ((S 12 ((((60 * (p : Int)) + (S 33 p))).toNat)))] C S40 (rf mm) (fun S46 => P S46)))) ∧ ((¬ ((S37 30 p) ≤ (S37 31 p))) → rMetI w mX10_collects [aO 40 0, aI ((p : Int))] C S37 (rf mm) (fun x48 S49 => (-2147483648 ≤ (x48 - 1) ∧ (x48 - 1) < 2147483648) ∧ ((((x48 - 1) ≤ 0) → P (sU (sU S49 37 p ((x48 - 1))) 28 p 0)) ∧ ((¬ ((x48 - 1) ≤ 0)) → P (sU (sU S49 37 p ((x48 - 1))) 28 p 1)))))) ∧ ((¬ (x36 < ((S 30 p) + (S 12 ((((60 * (p : Int)) + (S 33 p))).toNat))))) → rMetV w mX10_makes [aO 40 0, aI ((p : Int)), aI ((S 12 ((((60 * (p : Int)) + (S 33 p))).toNat)))] C S37 (rf mm) (fun S53 => P S53))))) ∧ (((S 12 ((((60 * (p : Int)) + (S 33 p))).toNat)) = 1001) → rMetV w mX10_passes [aO 40 0, aI ((p : Int))] C S (rf mm) (fun S56 => P S56)))) ∧ ((¬ (((S 34 p) + (S 12 ((((60 * (p : Int)) + (S 33 p))).toNat))) < 0)) → (-2147483648 ≤ (2400 * (p : Int)) ∧ (2400 * (p : Int)) < 2147483648) ∧ ((-2147483648 ≤ ((2400 * (p : Int)) + (S 34 p)) ∧ ((2400 * (p : Int)) + (S 34 p)) < 2147483648) ∧ ((-2147483648 ≤ (((2400 * (p : Int)) + (S 34 p)) + (S 12 ((((60 * (p : Int)) + (S 33 p))).toNat))) ∧ (((2400 * (p : Int)) + (S 34 p)) + (S 12 ((((60 * (p : Int)) + (S 33 p))).toNat))) < 2147483648) ∧ ((0 ≤ (((2400 * (p : Int)) + (S 34 p)) + (S 12 ((((60 * (p : Int)) + (S 33 p))).toNat))) ∧ (((2400 * (p : Int)) + (S 34 p)) + (S 12 ((((60 * (p : Int)) + (S 33 p))).toNat))) < ((14400 : Nat) : Int)) ∧ ((-2147483648 ≤ ((S 31 p) - (S 44 (((((2400 * (p : Int)) + (S 34 p)) + (S 12 ((((60 * (p : Int)) + (S 33 p))).toNat)))).toNat))) ∧ ((S 31 p) - (S 44 (((((2400 * (p : Int)) + (S 34 p)) + (S 12 ((((60 * (p : Int)) + (S 33 p))).toNat)))).toNat))) < 2147483648) ∧ ((-2147483648 ≤ (2400 * (p : Int)) ∧ (2400 * (p : Int)) < 2147483648) ∧ ((-2147483648 ≤ ((2400 * (p : Int)) + (S 34 p)) ∧ ((2400 * (p : Int)) + (S 34 p)) < 2147483648) ∧ ((-2147483648 ≤ (((2400 * (p : Int)) + (S 34 p)) + (S 12 ((((60 * (p : Int)) + (S 33 p))).toNat))) ∧ (((2400 * (p : Int)) + (S 34 p)) + (S 12 ((((60 * (p : Int)) + (S 33 p))).toNat))) < 2147483648) ∧ ((((S 12 ((((60 * (p : Int)) + (S 33 p))).toNat)) ≤ 0) → rMetV w mX10_passes [aO 40 0, aI ((p : Int))] C (sU (sU S 31 p (((S 31 p) - (S 44 (((((2400 * (p : Int)) + (S 34 p)) + (S 12 ((((60 * (p : Int)) + (S 33 p))).toNat)))).toNat))))) 44 (((((2400 * (p : Int)) + (S 34 p)) + (S 12 ((((60 * (p : Int)) + (S 33 p))).toNat)))).toNat) 0) (rf mm) (fun S67 => P S67)) ∧ ((¬ ((S 12 ((((60 * (p : Int)) + (S 33 p))).toNat)) ≤ 0)) → (((S 12 ((((60 * (p : Int)) + (S 33 p))).toNat)) ≠ 1001) → (-2147483648 ≤ ((S 30 p) + (S 12 ((((60 * (p : Int)) + (S 33 p))).toNat))) ∧ ((S 30 p) + (S 12 ((((60 * (p : Int)) + (S 33 p))).toNat))) < 2147483648) ∧ (rMetI w mX10_holds [aI ((S 13 p)), aI ((S 29 p))] C (sU (sU S 31 p (((S 31 p) - (S 44 (((((2400 * (p : Int)) + (S 34 p)) + (S 12 ((((60 * (p : Int)) + (S 33 p))).toNat)))).toNat))))) 44 (((((2400 * (p : Int)) + (S 34 p)) + (S 12 ((((60 * (p : Int)) + (S 33 p))).toNat)))).toNat) 0) (rf mm) (fun x70 S71 => ((x70 < ((S 30 p) + (S 12 ((((60 * (p : Int)) + (S 33 p))).toNat)))) → (((S71 30 p) ≤ (S71 31 p)) → rMetI w mX10_asks [aO 40 0, aI ((p : Int)), aI ((S 12 ((((60 * (p : Int)) + (S 33 p))).toNat)))] C S71 (rf mm) (fun x73 S74 => ((x73 = 0) → rMetV w mX10_isOver [aO 40 0, aI ((p : Int)), aI 4] C S74 (rf mm) (fun S77 => P S77)) ∧ ((¬ (x73 = 0)) → rMetV w mX10_makes [aO 40 0, aI ((p : Int)), aI ((S 12 ((((60 * (p : Int)) + (S 33 p))).toNat)))] C S74 (rf mm) (fun S80 => P S80)))) ∧ ((¬ ((S71 30 p) ≤ (S71 31 p))) → rMetI w mX10_collects [aO 40 0, aI ((p : Int))] C S71 (rf mm) (fun x82 S83 => (-2147483648 ≤ (x82 - 1) ∧ (x82 - 1) < 2147483648) ∧ ((((x82 - 1) ≤ 0) → P (sU (sU S83 37 p ((x82 - 1))) 28 p 0)) ∧ ((¬ ((x82 - 1) ≤ 0)) → P (sU (sU S83 37 p ((x82 - 1))) 28 p 1)))))) ∧ ((¬ (x70 < ((S 30 p) + (S 12 ((((60 * (p : Int)) + (S 33 p))).toNat))))) → rMetV w mX10_makes [aO 40 0, aI ((p : Int)), aI ((S 12 ((((60 * (p : Int)) + (S 33 p))).toNat)))] C S71 (rf mm) (fun S87 => P S87))))) ∧ (((S 12 ((((60 * (p : Int)) + (S 33 p))).toNat)) = 1001) → rMetV w mX10_passes [aO 40 0, aI ((p : Int))] C (sU (sU S 31 p (((S 31 p) - (S 44 (((((2400 * (p : Int)) + (S 34 p)) + (S 12 ((((60 * (p : Int)) + (S 33 p))).toNat)))).toNat))))) 44 (((((2400 * (p : Int)) + (S 34 p)) + (S 12 ((((60 * (p : Int)) + (S 33 p))).toNat)))).toNat) 0) (rf mm) (fun S90 => P S90))))))))))))))) ∧ ((¬ ((S 12 ((((60 * (p : Int)) + (S 33 p))).toNat)) ≤ 1001)) → (-2147483648 ≤ ((S 12 ((((60 * (p : Int)) + (S 33 p))).toNat)) - 1001) ∧ ((S 12 ((((60 * (p : Int)) + (S 33 p))).toNat)) - 1001) < 2147483648) ∧ (P (sU (sU S 28 p 2) 37 p (((S 12 ((((60 * (p : Int)) + (S 33 p))).toNat)) - 1001)))))))))) : rMetV w mX10_acts [aO 40 0, aI ((p : Int))] C S (rf mm) P := by
  refine cMet_of okX10_acts (Nat.le_of_ble_eq_true rfl) (fun hos => ?_)
  show cRun w mX10_acts 0 [some (aO 40 0), some (aI ((p : Int))), none] [] (mem C S) (rf mm) (rqV (rf mm) C P)
  refine aAload_n (pc' := 1) dX10_acts_0 rfl rfl ?_
  refine aGetR (pc' := 4) (q := (52, 0)) dX10_acts_1 fX10_39 rfl rfl (lv (by decide)) rfl rfl ?_
  refine aBipush (pc' := 6) ⟨by decide, by decide⟩ dX10_acts_4 rfl ?_
  refine aIload_n (pc' := 7) dX10_acts_6 rfl rfl ?_
  obtain ⟨h1, hw⟩ := hw
  refine aImul (pc' := 8) h1.1 h1.2 dX10_acts_7 rfl ?_
  refine aAload_n (pc' := 9) dX10_acts_8 rfl rfl ?_
  refine aGetR (pc' := 12) (q := (73, 0)) dX10_acts_9 fX10_81 rfl rfl (lv (by decide)) rfl rfl ?_
  refine aIload_n (pc' := 13) dX10_acts_12 rfl rfl ?_
  obtain ⟨h2, hw⟩ := hw
  refine aIald (pc' := 14) (j := p) dX10_acts_13 rfl (lv (by decide)) rfl h2 rfl ?_
  refine aTopEq (y := (S 33 p)) rfl ?_
  obtain ⟨h3, hw⟩ := hw
  refine aIadd (pc' := 15) h3.1 h3.2 dX10_acts_14 rfl ?_
  obtain ⟨h4, hw⟩ := hw
  refine aIald (pc' := 16) (j := (((60 * (p : Int)) + (S 33 p))).toNat) dX10_acts_15 rfl (lv (by decide)) (tnIx h4).1 (tnIx h4).2 rfl ?_
  refine aTopEq (y := (S 12 ((((60 * (p : Int)) + (S 33 p))).toNat))) rfl ?_
  refine aIstore_n (pc' := 17) dX10_acts_16 (by decide) rfl (L' := [some (aO 40 0), some (aI ((p : Int))), some (aI ((S 12 ((((60 * (p : Int)) + (S 33 p))).toNat))))]) rfl ?_
  refine aIload_n (pc' := 18) dX10_acts_17 rfl rfl ?_
  refine aSipush (pc' := 21) ⟨by decide, by decide⟩ dX10_acts_18 rfl ?_
  refine aIcmp_le (tgt := 43) (pc' := 24) dX10_acts_21 (by decide) rfl (fun hc => ?_) (fun hc => ?_)
  · have hw := hw.1 hc
    refine aIload_n (pc' := 44) dX10_acts_43 rfl rfl ?_
    refine aIf_ge (tgt := 106) (pc' := 47) dX10_acts_44 (by decide) rfl (fun hc => ?_) (fun hc => ?_)
    · have hw := hw.1 hc
      refine aIload_n (pc' := 107) dX10_acts_106 rfl rfl ?_
      refine aIf_le (tgt := 117) (pc' := 110) dX10_acts_107 (by decide) rfl (fun hc => ?_) (fun hc => ?_)
      · have hw := hw.1 hc
        refine aAload_n (pc' := 118) dX10_acts_117 rfl rfl ?_
        refine aIload_n (pc' := 119) dX10_acts_118 rfl rfl ?_
        refine cVV (c := 10) (pc' := 122) [aI ((p : Int))] dX10_acts_119 lX10_234 okX10_passes ⟨by decide, by decide⟩ npX10_passes rfl rfl rfl rfl rfl (by decide) rfl (cMetV_mono hw (fun J7 hw => ?_))
        obtain ⟨S6, rfl, hw⟩ := hw
        exact cVret dX10_acts_122 okX10_acts rfl ⟨rfl, rfl, _, rfl, hw⟩
      · have hw := hw.2 hc
        refine aIload_n (pc' := 111) dX10_acts_110 rfl rfl ?_
        refine aSipush (pc' := 114) ⟨by decide, by decide⟩ dX10_acts_111 rfl ?_
        refine aIcmp_ne (tgt := 123) (pc' := 117) dX10_acts_114 (by decide) rfl (fun hc => ?_) (fun hc => ?_)
        · have hw := hw.1 hc
          refine aAload_n (pc' := 124) dX10_acts_123 rfl rfl ?_
          refine aGetR (pc' := 127) (q := (70, 0)) dX10_acts_124 fX10_72 rfl rfl (lv (by decide)) rfl rfl ?_
          refine aIload_n (pc' := 128) dX10_acts_127 rfl rfl ?_
          refine aIald (pc' := 129) (j := p) dX10_acts_128 rfl (lv (by decide)) rfl h2 rfl ?_
          refine aTopEq (y := (S 30 p)) rfl ?_
          refine aIload_n (pc' := 130) dX10_acts_129 rfl rfl ?_
          obtain ⟨h8, hw⟩ := hw
          refine aIadd (pc' := 131) h8.1 h8.2 dX10_acts_130 rfl ?_
          refine aAload_n (pc' := 132) dX10_acts_131 rfl rfl ?_
          refine aGetR (pc' := 135) (q := (53, 0)) dX10_acts_132 fX10_42 rfl rfl (lv (by decide)) rfl rfl ?_
          refine aIload_n (pc' := 136) dX10_acts_135 rfl rfl ?_
          refine aIald (pc' := 137) (j := p) dX10_acts_136 rfl (lv (by decide)) rfl h2 rfl ?_
          refine aTopEq (y := (S 13 p)) rfl ?_
          refine aAload_n (pc' := 138) dX10_acts_137 rfl rfl ?_
          refine aGetR (pc' := 141) (q := (69, 0)) dX10_acts_138 fX10_69 rfl rfl (lv (by decide)) rfl rfl ?_
          refine aIload_n (pc' := 142) dX10_acts_141 rfl rfl ?_
          refine aIald (pc' := 143) (j := p) dX10_acts_142 rfl (lv (by decide)) rfl h2 rfl ?_
          refine aTopEq (y := (S 29 p)) rfl ?_
          refine cSI (pc' := 146) [aI ((S 13 p)), aI ((S 29 p))] dX10_acts_143 lX10_160 okX10_holds ⟨by decide, by decide⟩ npX10_holds rfl rfl rfl (cMetI_mono hw (fun x9 J11 hw => ?_))
          obtain ⟨S10, rfl, hw⟩ := hw
          refine aIcmp_gt (tgt := 158) (pc' := 149) dX10_acts_146 (by decide) rfl (fun hc => ?_) (fun hc => ?_)
          · have hw := hw.1 hc
            refine aAload_n (pc' := 159) dX10_acts_158 rfl rfl ?_
            refine aGetR (pc' := 162) (q := (70, 0)) dX10_acts_159 fX10_72 rfl rfl (lv (by decide)) rfl rfl ?_
            refine aIload_n (pc' := 163) dX10_acts_162 rfl rfl ?_
            refine aIald (pc' := 164) (j := p) dX10_acts_163 rfl (lv (by decide)) rfl h2 rfl ?_
            refine aTopEq (y := (S10 30 p)) rfl ?_
            refine aAload_n (pc' := 165) dX10_acts_164 rfl rfl ?_
            refine aGetR (pc' := 168) (q := (71, 0)) dX10_acts_165 fX10_75 rfl rfl (lv (by decide)) rfl rfl ?_
            refine aIload_n (pc' := 169) dX10_acts_168 rfl rfl ?_
            refine aIald (pc' := 170) (j := p) dX10_acts_169 rfl (lv (by decide)) rfl h2 rfl ?_
            refine aTopEq (y := (S10 31 p)) rfl ?_
            refine aIcmp_le (tgt := 209) (pc' := 173) dX10_acts_170 (by decide) rfl (fun hc => ?_) (fun hc => ?_)
            · have hw := hw.1 hc
              refine aAload_n (pc' := 210) dX10_acts_209 rfl rfl ?_
              refine aIload_n (pc' := 211) dX10_acts_210 rfl rfl ?_
              refine aIload_n (pc' := 212) dX10_acts_211 rfl rfl ?_
              refine cVI (c := 10) (pc' := 215) [aI ((p : Int)), aI ((S 12 ((((60 * (p : Int)) + (S 33 p))).toNat)))] dX10_acts_212 lX10_249 okX10_asks ⟨by decide, by decide⟩ npX10_asks rfl rfl rfl rfl rfl (by decide) rfl (cMetI_mono hw (fun x12 J14 hw => ?_))
              obtain ⟨S13, rfl, hw⟩ := hw
              refine aIf_eq (tgt := 227) (pc' := 218) dX10_acts_215 (by decide) rfl (fun hc => ?_) (fun hc => ?_)
              · have hw := hw.1 hc
                refine aAload_n (pc' := 228) dX10_acts_227 rfl rfl ?_
                refine aIload_n (pc' := 229) dX10_acts_228 rfl rfl ?_
                refine aIconst (pc' := 230) ⟨by decide, by decide⟩ dX10_acts_229 rfl ?_
                refine cVV (c := 10) (pc' := 233) [aI ((p : Int)), aI 4] dX10_acts_230 lX10_230 okX10_isOver ⟨by decide, by decide⟩ npX10_isOver rfl rfl rfl rfl rfl (by decide) rfl (cMetV_mono hw (fun J17 hw => ?_))
                obtain ⟨S16, rfl, hw⟩ := hw
                exact cVret dX10_acts_233 okX10_acts rfl ⟨rfl, rfl, _, rfl, hw⟩
              · have hw := hw.2 hc
                refine aAload_n (pc' := 219) dX10_acts_218 rfl rfl ?_
                refine aIload_n (pc' := 220) dX10_acts_219 rfl rfl ?_
                refine aIload_n (pc' := 221) dX10_acts_220 rfl rfl ?_
                refine cVV (c := 10) (pc' := 224) [aI ((p : Int)), aI ((S 12 ((((60 * (p : Int)) + (S 33 p))).toNat)))] dX10_acts_221 lX10_247 okX10_makes ⟨by decide, by decide⟩ npX10_makes rfl rfl rfl rfl rfl (by decide) rfl (cMetV_mono hw (fun J20 hw => ?_))
                obtain ⟨S19, rfl, hw⟩ := hw
                refine aGoto (pc' := 233) dX10_acts_224 (by decide) ?_
                exact cVret dX10_acts_233 okX10_acts rfl ⟨rfl, rfl, _, rfl, hw⟩
            · have hw := hw.2 hc
              refine aAload_n (pc' := 174) dX10_acts_173 rfl rfl ?_
              refine aGetR (pc' := 177) (q := (77, 0)) dX10_acts_174 fX10_93 rfl rfl (lv (by decide)) rfl rfl ?_
              refine aIload_n (pc' := 178) dX10_acts_177 rfl rfl ?_
              refine aAload_n (pc' := 179) dX10_acts_178 rfl rfl ?_
              refine aIload_n (pc' := 180) dX10_acts_179 rfl rfl ?_
              refine cVI (c := 10) (pc' := 183) [aI ((p : Int))] dX10_acts_180 lX10_225 okX10_collects ⟨by decide, by decide⟩ npX10_collects rfl rfl rfl rfl rfl (by decide) rfl (cMetI_mono hw (fun x21 J23 hw => ?_))
              obtain ⟨S22, rfl, hw⟩ := hw
              refine aIconst (pc' := 184) ⟨by decide, by decide⟩ dX10_acts_183 rfl ?_
              obtain ⟨h24, hw⟩ := hw
              refine aIsub (pc' := 185) h24.1 h24.2 dX10_acts_184 rfl ?_
              refine aIast (pc' := 186) (j := p) dX10_acts_185 rfl (lv (by decide)) rfl h2 rfl (cEqI (mA (f := 37) rfl rfl rfl) ?_)
              refine aAload_n (pc' := 187) dX10_acts_186 rfl rfl ?_
              refine aGetR (pc' := 190) (q := (68, 0)) dX10_acts_187 fX10_66 rfl rfl (lv (by decide)) rfl rfl ?_
              refine aIload_n (pc' := 191) dX10_acts_190 rfl rfl ?_
              refine aAload_n (pc' := 192) dX10_acts_191 rfl rfl ?_
              refine aGetR (pc' := 195) (q := (77, 0)) dX10_acts_192 fX10_93 rfl rfl (lv (by decide)) rfl rfl ?_
              refine aIload_n (pc' := 196) dX10_acts_195 rfl rfl ?_
              refine aIald (pc' := 197) (j := p) dX10_acts_196 rfl (lv (by decide)) rfl h2 rfl ?_
              refine aTopEq (y := ((sU S22 37 p ((x21 - 1))) 37 p)) rfl ?_
              refine aTopEq sU_s ?_
              refine aIf_le (tgt := 204) (pc' := 200) dX10_acts_197 (by decide) rfl (fun hc => ?_) (fun hc => ?_)
              · have hw := hw.1 hc
                refine aIconst (pc' := 205) ⟨by decide, by decide⟩ dX10_acts_204 rfl ?_
                refine aIast (pc' := 206) (j := p) dX10_acts_205 rfl (lv (by decide)) rfl h2 rfl (cEqI (mA (f := 28) rfl rfl rfl) ?_)
                refine aGoto (pc' := 233) dX10_acts_206 (by decide) ?_
                exact cVret dX10_acts_233 okX10_acts rfl ⟨rfl, rfl, _, rfl, hw⟩
              · have hw := hw.2 hc
                refine aIconst (pc' := 201) ⟨by decide, by decide⟩ dX10_acts_200 rfl ?_
                refine aGoto (pc' := 205) dX10_acts_201 (by decide) ?_
                refine aIast (pc' := 206) (j := p) dX10_acts_205 rfl (lv (by decide)) rfl h2 rfl (cEqI (mA (f := 28) rfl rfl rfl) ?_)
                refine aGoto (pc' := 233) dX10_acts_206 (by decide) ?_
                exact cVret dX10_acts_233 okX10_acts rfl ⟨rfl, rfl, _, rfl, hw⟩
          · have hw := hw.2 hc
            refine aAload_n (pc' := 150) dX10_acts_149 rfl rfl ?_
            refine aIload_n (pc' := 151) dX10_acts_150 rfl rfl ?_
            refine aIload_n (pc' := 152) dX10_acts_151 rfl rfl ?_
            refine cVV (c := 10) (pc' := 155) [aI ((p : Int)), aI ((S 12 ((((60 * (p : Int)) + (S 33 p))).toNat)))] dX10_acts_152 lX10_247 okX10_makes ⟨by decide, by decide⟩ npX10_makes rfl rfl rfl rfl rfl (by decide) rfl (cMetV_mono hw (fun J27 hw => ?_))
            obtain ⟨S26, rfl, hw⟩ := hw
            refine aGoto (pc' := 233) dX10_acts_155 (by decide) ?_
            exact cVret dX10_acts_233 okX10_acts rfl ⟨rfl, rfl, _, rfl, hw⟩
        · have hw := hw.2 hc
          refine aAload_n (pc' := 118) dX10_acts_117 rfl rfl ?_
          refine aIload_n (pc' := 119) dX10_acts_118 rfl rfl ?_
          refine cVV (c := 10) (pc' := 122) [aI ((p : Int))] dX10_acts_119 lX10_234 okX10_passes ⟨by decide, by decide⟩ npX10_passes rfl rfl rfl rfl rfl (by decide) rfl (cMetV_mono hw (fun J30 hw => ?_))
          obtain ⟨S29, rfl, hw⟩ := hw
          exact cVret dX10_acts_122 okX10_acts rfl ⟨rfl, rfl, _, rfl, hw⟩
    · have hw := hw.2 hc
      refine aAload_n (pc' := 48) dX10_acts_47 rfl rfl ?_
      refine aGetR (pc' := 51) (q := (74, 0)) dX10_acts_48 fX10_84 rfl rfl (lv (by decide)) rfl rfl ?_
      refine aIload_n (pc' := 52) dX10_acts_51 rfl rfl ?_
      refine aIald (pc' := 53) (j := p) dX10_acts_52 rfl (lv (by decide)) rfl h2 rfl ?_
      refine aTopEq (y := (S 34 p)) rfl ?_
      refine aIload_n (pc' := 54) dX10_acts_53 rfl rfl ?_
      obtain ⟨h31, hw⟩ := hw
      refine aIadd (pc' := 55) h31.1 h31.2 dX10_acts_54 rfl ?_
      refine aIf_lt (tgt := 106) (pc' := 58) dX10_acts_55 (by decide) rfl (fun hc => ?_) (fun hc => ?_)
      · have hw := hw.1 hc
        refine aIload_n (pc' := 107) dX10_acts_106 rfl rfl ?_
        refine aIf_le (tgt := 117) (pc' := 110) dX10_acts_107 (by decide) rfl (fun hc => ?_) (fun hc => ?_)
        · have hw := hw.1 hc
          refine aAload_n (pc' := 118) dX10_acts_117 rfl rfl ?_
          refine aIload_n (pc' := 119) dX10_acts_118 rfl rfl ?_
          refine cVV (c := 10) (pc' := 122) [aI ((p : Int))] dX10_acts_119 lX10_234 okX10_passes ⟨by decide, by decide⟩ npX10_passes rfl rfl rfl rfl rfl (by decide) rfl (cMetV_mono hw (fun J34 hw => ?_))
          obtain ⟨S33, rfl, hw⟩ := hw
          exact cVret dX10_acts_122 okX10_acts rfl ⟨rfl, rfl, _, rfl, hw⟩
        · have hw := hw.2 hc
          refine aIload_n (pc' := 111) dX10_acts_110 rfl rfl ?_
          refine aSipush (pc' := 114) ⟨by decide, by decide⟩ dX10_acts_111 rfl ?_
          refine aIcmp_ne (tgt := 123) (pc' := 117) dX10_acts_114 (by decide) rfl (fun hc => ?_) (fun hc => ?_)
          · have hw := hw.1 hc
            refine aAload_n (pc' := 124) dX10_acts_123 rfl rfl ?_
            refine aGetR (pc' := 127) (q := (70, 0)) dX10_acts_124 fX10_72 rfl rfl (lv (by decide)) rfl rfl ?_
            refine aIload_n (pc' := 128) dX10_acts_127 rfl rfl ?_
            refine aIald (pc' := 129) (j := p) dX10_acts_128 rfl (lv (by decide)) rfl h2 rfl ?_
            refine aTopEq (y := (S 30 p)) rfl ?_
            refine aIload_n (pc' := 130) dX10_acts_129 rfl rfl ?_
            obtain ⟨h35, hw⟩ := hw
            refine aIadd (pc' := 131) h35.1 h35.2 dX10_acts_130 rfl ?_
            refine aAload_n (pc' := 132) dX10_acts_131 rfl rfl ?_
            refine aGetR (pc' := 135) (q := (53, 0)) dX10_acts_132 fX10_42 rfl rfl (lv (by decide)) rfl rfl ?_
            refine aIload_n (pc' := 136) dX10_acts_135 rfl rfl ?_
            refine aIald (pc' := 137) (j := p) dX10_acts_136 rfl (lv (by decide)) rfl h2 rfl ?_
            refine aTopEq (y := (S 13 p)) rfl ?_
            refine aAload_n (pc' := 138) dX10_acts_137 rfl rfl ?_
            refine aGetR (pc' := 141) (q := (69, 0)) dX10_acts_138 fX10_69 rfl rfl (lv (by decide)) rfl rfl ?_
            refine aIload_n (pc' := 142) dX10_acts_141 rfl rfl ?_
            refine aIald (pc' := 143) (j := p) dX10_acts_142 rfl (lv (by decide)) rfl h2 rfl ?_
            refine aTopEq (y := (S 29 p)) rfl ?_
            refine cSI (pc' := 146) [aI ((S 13 p)), aI ((S 29 p))] dX10_acts_143 lX10_160 okX10_holds ⟨by decide, by decide⟩ npX10_holds rfl rfl rfl (cMetI_mono hw (fun x36 J38 hw => ?_))
            obtain ⟨S37, rfl, hw⟩ := hw
            refine aIcmp_gt (tgt := 158) (pc' := 149) dX10_acts_146 (by decide) rfl (fun hc => ?_) (fun hc => ?_)
            · have hw := hw.1 hc
              refine aAload_n (pc' := 159) dX10_acts_158 rfl rfl ?_
              refine aGetR (pc' := 162) (q := (70, 0)) dX10_acts_159 fX10_72 rfl rfl (lv (by decide)) rfl rfl ?_
              refine aIload_n (pc' := 163) dX10_acts_162 rfl rfl ?_
              refine aIald (pc' := 164) (j := p) dX10_acts_163 rfl (lv (by decide)) rfl h2 rfl ?_
              refine aTopEq (y := (S37 30 p)) rfl ?_
              refine aAload_n (pc' := 165) dX10_acts_164 rfl rfl ?_
              refine aGetR (pc' := 168) (q := (71, 0)) dX10_acts_165 fX10_75 rfl rfl (lv (by decide)) rfl rfl ?_
              refine aIload_n (pc' := 169) dX10_acts_168 rfl rfl ?_
              refine aIald (pc' := 170) (j := p) dX10_acts_169 rfl (lv (by decide)) rfl h2 rfl ?_
              refine aTopEq (y := (S37 31 p)) rfl ?_
              refine aIcmp_le (tgt := 209) (pc' := 173) dX10_acts_170 (by decide) rfl (fun hc => ?_) (fun hc => ?_)
              · have hw := hw.1 hc
                refine aAload_n (pc' := 210) dX10_acts_209 rfl rfl ?_
                refine aIload_n (pc' := 211) dX10_acts_210 rfl rfl ?_
                refine aIload_n (pc' := 212) dX10_acts_211 rfl rfl ?_
                refine cVI (c := 10) (pc' := 215) [aI ((p : Int)), aI ((S 12 ((((60 * (p : Int)) + (S 33 p))).toNat)))] dX10_acts_212 lX10_249 okX10_asks ⟨by decide, by decide⟩ npX10_asks rfl rfl rfl rfl rfl (by decide) rfl (cMetI_mono hw (fun x39 J41 hw => ?_))
                obtain ⟨S40, rfl, hw⟩ := hw
                refine aIf_eq (tgt := 227) (pc' := 218) dX10_acts_215 (by decide) rfl (fun hc => ?_) (fun hc => ?_)
                · have hw := hw.1 hc
                  refine aAload_n (pc' := 228) dX10_acts_227 rfl rfl ?_
                  refine aIload_n (pc' := 229) dX10_acts_228 rfl rfl ?_
                  refine aIconst (pc' := 230) ⟨by decide, by decide⟩ dX10_acts_229 rfl ?_
                  refine cVV (c := 10) (pc' := 233) [aI ((p : Int)), aI 4] dX10_acts_230 lX10_230 okX10_isOver ⟨by decide, by decide⟩ npX10_isOver rfl rfl rfl rfl rfl (by decide) rfl (cMetV_mono hw (fun J44 hw => ?_))
                  obtain ⟨S43, rfl, hw⟩ := hw
                  exact cVret dX10_acts_233 okX10_acts rfl ⟨rfl, rfl, _, rfl, hw⟩
                · have hw := hw.2 hc
                  refine aAload_n (pc' := 219) dX10_acts_218 rfl rfl ?_
                  refine aIload_n (pc' := 220) dX10_acts_219 rfl rfl ?_
                  refine aIload_n (pc' := 221) dX10_acts_220 rfl rfl ?_
                  refine cVV (c := 10) (pc' := 224) [aI ((p : Int)), aI ((S 12 ((((60 * (p : Int)) + (S 33 p))).toNat)))] dX10_acts_221 lX10_247 okX10_makes ⟨by decide, by decide⟩ npX10_makes rfl rfl rfl rfl rfl (by decide) rfl (cMetV_mono hw (fun J47 hw => ?_))
                  obtain ⟨S46, rfl, hw⟩ := hw
                  refine aGoto (pc' := 233) dX10_acts_224 (by decide) ?_
                  exact cVret dX10_acts_233 okX10_acts rfl ⟨rfl, rfl, _, rfl, hw⟩
              · have hw := hw.2 hc
                refine aAload_n (pc' := 174) dX10_acts_173 rfl rfl ?_
                refine aGetR (pc' := 177) (q := (77, 0)) dX10_acts_174 fX10_93 rfl rfl (lv (by decide)) rfl rfl ?_
                refine aIload_n (pc' := 178) dX10_acts_177 rfl rfl ?_
                refine aAload_n (pc' := 179) dX10_acts_178 rfl rfl ?_
                refine aIload_n (pc' := 180) dX10_acts_179 rfl rfl ?_
                refine cVI (c := 10) (pc' := 183) [aI ((p : Int))] dX10_acts_180 lX10_225 okX10_collects ⟨by decide, by decide⟩ npX10_collects rfl rfl rfl rfl rfl (by decide) rfl (cMetI_mono hw (fun x48 J50 hw => ?_))
                obtain ⟨S49, rfl, hw⟩ := hw
                refine aIconst (pc' := 184) ⟨by decide, by decide⟩ dX10_acts_183 rfl ?_
                obtain ⟨h51, hw⟩ := hw
                refine aIsub (pc' := 185) h51.1 h51.2 dX10_acts_184 rfl ?_
                refine aIast (pc' := 186) (j := p) dX10_acts_185 rfl (lv (by decide)) rfl h2 rfl (cEqI (mA (f := 37) rfl rfl rfl) ?_)
                refine aAload_n (pc' := 187) dX10_acts_186 rfl rfl ?_
                refine aGetR (pc' := 190) (q := (68, 0)) dX10_acts_187 fX10_66 rfl rfl (lv (by decide)) rfl rfl ?_
                refine aIload_n (pc' := 191) dX10_acts_190 rfl rfl ?_
                refine aAload_n (pc' := 192) dX10_acts_191 rfl rfl ?_
                refine aGetR (pc' := 195) (q := (77, 0)) dX10_acts_192 fX10_93 rfl rfl (lv (by decide)) rfl rfl ?_
                refine aIload_n (pc' := 196) dX10_acts_195 rfl rfl ?_
                refine aIald (pc' := 197) (j := p) dX10_acts_196 rfl (lv (by decide)) rfl h2 rfl ?_
                refine aTopEq (y := ((sU S49 37 p ((x48 - 1))) 37 p)) rfl ?_
                refine aTopEq sU_s ?_
                refine aIf_le (tgt := 204) (pc' := 200) dX10_acts_197 (by decide) rfl (fun hc => ?_) (fun hc => ?_)
                · have hw := hw.1 hc
                  refine aIconst (pc' := 205) ⟨by decide, by decide⟩ dX10_acts_204 rfl ?_
                  refine aIast (pc' := 206) (j := p) dX10_acts_205 rfl (lv (by decide)) rfl h2 rfl (cEqI (mA (f := 28) rfl rfl rfl) ?_)
                  refine aGoto (pc' := 233) dX10_acts_206 (by decide) ?_
                  exact cVret dX10_acts_233 okX10_acts rfl ⟨rfl, rfl, _, rfl, hw⟩
                · have hw := hw.2 hc
                  refine aIconst (pc' := 201) ⟨by decide, by decide⟩ dX10_acts_200 rfl ?_
                  refine aGoto (pc' := 205) dX10_acts_201 (by decide) ?_
                  refine aIast (pc' := 206) (j := p) dX10_acts_205 rfl (lv (by decide)) rfl h2 rfl (cEqI (mA (f := 28) rfl rfl rfl) ?_)
                  refine aGoto (pc' := 233) dX10_acts_206 (by decide) ?_
                  exact cVret dX10_acts_233 okX10_acts rfl ⟨rfl, rfl, _, rfl, hw⟩
            · have hw := hw.2 hc
              refine aAload_n (pc' := 150) dX10_acts_149 rfl rfl ?_
              refine aIload_n (pc' := 151) dX10_acts_150 rfl rfl ?_
              refine aIload_n (pc' := 152) dX10_acts_151 rfl rfl ?_
              refine cVV (c := 10) (pc' := 155) [aI ((p : Int)), aI ((S 12 ((((60 * (p : Int)) + (S 33 p))).toNat)))] dX10_acts_152 lX10_247 okX10_makes ⟨by decide, by decide⟩ npX10_makes rfl rfl rfl rfl rfl (by decide) rfl (cMetV_mono hw (fun J54 hw => ?_))
              obtain ⟨S53, rfl, hw⟩ := hw
              refine aGoto (pc' := 233) dX10_acts_155 (by decide) ?_
              exact cVret dX10_acts_233 okX10_acts rfl ⟨rfl, rfl, _, rfl, hw⟩
          · have hw := hw.2 hc
            refine aAload_n (pc' := 118) dX10_acts_117 rfl rfl ?_
            refine aIload_n (pc' := 119) dX10_acts_118 rfl rfl ?_
            refine cVV (c := 10) (pc' := 122) [aI ((p : Int))] dX10_acts_119 lX10_234 okX10_passes ⟨by decide, by decide⟩ npX10_passes rfl rfl rfl rfl rfl (by decide) rfl (cMetV_mono hw (fun J57 hw => ?_))
            obtain ⟨S56, rfl, hw⟩ := hw
            exact cVret dX10_acts_122 okX10_acts rfl ⟨rfl, rfl, _, rfl, hw⟩
      · have hw := hw.2 hc
        refine aAload_n (pc' := 59) dX10_acts_58 rfl rfl ?_
        refine aGetR (pc' := 62) (q := (71, 0)) dX10_acts_59 fX10_75 rfl rfl (lv (by decide)) rfl rfl ?_
        refine aIload_n (pc' := 63) dX10_acts_62 rfl rfl ?_
        refine aDup2 (pc' := 64) rfl rfl dX10_acts_63 rfl ?_
        refine aIald (pc' := 65) (j := p) dX10_acts_64 rfl (lv (by decide)) rfl h2 rfl ?_
        refine aTopEq (y := (S 31 p)) rfl ?_
        refine aAload_n (pc' := 66) dX10_acts_65 rfl rfl ?_
        refine aGetR (pc' := 69) (q := (84, 0)) dX10_acts_66 fX10_115 rfl rfl (lv (by decide)) rfl rfl ?_
        refine aSipush (pc' := 72) ⟨by decide, by decide⟩ dX10_acts_69 rfl ?_
        refine aIload_n (pc' := 73) dX10_acts_72 rfl rfl ?_
        obtain ⟨h58, hw⟩ := hw
        refine aImul (pc' := 74) h58.1 h58.2 dX10_acts_73 rfl ?_
        refine aAload_n (pc' := 75) dX10_acts_74 rfl rfl ?_
        refine aGetR (pc' := 78) (q := (74, 0)) dX10_acts_75 fX10_84 rfl rfl (lv (by decide)) rfl rfl ?_
        refine aIload_n (pc' := 79) dX10_acts_78 rfl rfl ?_
        refine aIald (pc' := 80) (j := p) dX10_acts_79 rfl (lv (by decide)) rfl h2 rfl ?_
        refine aTopEq (y := (S 34 p)) rfl ?_
        obtain ⟨h59, hw⟩ := hw
        refine aIadd (pc' := 81) h59.1 h59.2 dX10_acts_80 rfl ?_
        refine aIload_n (pc' := 82) dX10_acts_81 rfl rfl ?_
        obtain ⟨h60, hw⟩ := hw
        refine aIadd (pc' := 83) h60.1 h60.2 dX10_acts_82 rfl ?_
        obtain ⟨h61, hw⟩ := hw
        refine aIald (pc' := 84) (j := ((((2400 * (p : Int)) + (S 34 p)) + (S 12 ((((60 * (p : Int)) + (S 33 p))).toNat)))).toNat) dX10_acts_83 rfl (lv (by decide)) (tnIx h61).1 (tnIx h61).2 rfl ?_
        refine aTopEq (y := (S 44 (((((2400 * (p : Int)) + (S 34 p)) + (S 12 ((((60 * (p : Int)) + (S 33 p))).toNat)))).toNat))) rfl ?_
        obtain ⟨h62, hw⟩ := hw
        refine aIsub (pc' := 85) h62.1 h62.2 dX10_acts_84 rfl ?_
        refine aIast (pc' := 86) (j := p) dX10_acts_85 rfl (lv (by decide)) rfl h2 rfl (cEqI (mA (f := 31) rfl rfl rfl) ?_)
        refine aAload_n (pc' := 87) dX10_acts_86 rfl rfl ?_
        refine aGetR (pc' := 90) (q := (84, 0)) dX10_acts_87 fX10_115 rfl rfl (lv (by decide)) rfl rfl ?_
        refine aSipush (pc' := 93) ⟨by decide, by decide⟩ dX10_acts_90 rfl ?_
        refine aIload_n (pc' := 94) dX10_acts_93 rfl rfl ?_
        obtain ⟨h63, hw⟩ := hw
        refine aImul (pc' := 95) h63.1 h63.2 dX10_acts_94 rfl ?_
        refine aAload_n (pc' := 96) dX10_acts_95 rfl rfl ?_
        refine aGetR (pc' := 99) (q := (74, 0)) dX10_acts_96 fX10_84 rfl rfl (lv (by decide)) rfl rfl ?_
        refine aIload_n (pc' := 100) dX10_acts_99 rfl rfl ?_
        refine aIald (pc' := 101) (j := p) dX10_acts_100 rfl (lv (by decide)) rfl h2 rfl ?_
        refine aTopEq (y := ((sU S 31 p (((S 31 p) - (S 44 (((((2400 * (p : Int)) + (S 34 p)) + (S 12 ((((60 * (p : Int)) + (S 33 p))).toNat)))).toNat))))) 34 p)) rfl ?_
        refine aTopEq (sU_f rfl) ?_
        obtain ⟨h64, hw⟩ := hw
        refine aIadd (pc' := 102) h64.1 h64.2 dX10_acts_101 rfl ?_
        refine aIload_n (pc' := 103) dX10_acts_102 rfl rfl ?_
        obtain ⟨h65, hw⟩ := hw
        refine aIadd (pc' := 104) h65.1 h65.2 dX10_acts_103 rfl ?_
        refine aIconst (pc' := 105) ⟨by decide, by decide⟩ dX10_acts_104 rfl ?_
        refine aIast (pc' := 106) (j := ((((2400 * (p : Int)) + (S 34 p)) + (S 12 ((((60 * (p : Int)) + (S 33 p))).toNat)))).toNat) dX10_acts_105 rfl (lv (by decide)) (tnIx h61).1 (tnIx h61).2 rfl (cEqI (mA (f := 44) rfl rfl rfl) ?_)
        refine aIload_n (pc' := 107) dX10_acts_106 rfl rfl ?_
        refine aIf_le (tgt := 117) (pc' := 110) dX10_acts_107 (by decide) rfl (fun hc => ?_) (fun hc => ?_)
        · have hw := hw.1 hc
          refine aAload_n (pc' := 118) dX10_acts_117 rfl rfl ?_
          refine aIload_n (pc' := 119) dX10_acts_118 rfl rfl ?_
          refine cVV (c := 10) (pc' := 122) [aI ((p : Int))] dX10_acts_119 lX10_234 okX10_passes ⟨by decide, by decide⟩ npX10_passes rfl rfl rfl rfl rfl (by decide) rfl (cMetV_mono hw (fun J68 hw => ?_))
          obtain ⟨S67, rfl, hw⟩ := hw
          exact cVret dX10_acts_122 okX10_acts rfl ⟨rfl, rfl, _, rfl, hw⟩
        · have hw := hw.2 hc
          refine aIload_n (pc' := 111) dX10_acts_110 rfl rfl ?_
          refine aSipush (pc' := 114) ⟨by decide, by decide⟩ dX10_acts_111 rfl ?_
          refine aIcmp_ne (tgt := 123) (pc' := 117) dX10_acts_114 (by decide) rfl (fun hc => ?_) (fun hc => ?_)
          · have hw := hw.1 hc
            refine aAload_n (pc' := 124) dX10_acts_123 rfl rfl ?_
            refine aGetR (pc' := 127) (q := (70, 0)) dX10_acts_124 fX10_72 rfl rfl (lv (by decide)) rfl rfl ?_
            refine aIload_n (pc' := 128) dX10_acts_127 rfl rfl ?_
            refine aIald (pc' := 129) (j := p) dX10_acts_128 rfl (lv (by decide)) rfl h2 rfl ?_
            refine aTopEq (y := ((sU (sU S 31 p (((S 31 p) - (S 44 (((((2400 * (p : Int)) + (S 34 p)) + (S 12 ((((60 * (p : Int)) + (S 33 p))).toNat)))).toNat))))) 44 (((((2400 * (p : Int)) + (S 34 p)) + (S 12 ((((60 * (p : Int)) + (S 33 p))).toNat)))).toNat) 0) 30 p)) rfl ?_
            refine aTopEq ((sU_f rfl).trans (sU_f rfl)) ?_
            refine aIload_n (pc' := 130) dX10_acts_129 rfl rfl ?_
            obtain ⟨h69, hw⟩ := hw
            refine aIadd (pc' := 131) h69.1 h69.2 dX10_acts_130 rfl ?_
            refine aAload_n (pc' := 132) dX10_acts_131 rfl rfl ?_
            refine aGetR (pc' := 135) (q := (53, 0)) dX10_acts_132 fX10_42 rfl rfl (lv (by decide)) rfl rfl ?_
            refine aIload_n (pc' := 136) dX10_acts_135 rfl rfl ?_
            refine aIald (pc' := 137) (j := p) dX10_acts_136 rfl (lv (by decide)) rfl h2 rfl ?_
            refine aTopEq (y := ((sU (sU S 31 p (((S 31 p) - (S 44 (((((2400 * (p : Int)) + (S 34 p)) + (S 12 ((((60 * (p : Int)) + (S 33 p))).toNat)))).toNat))))) 44 (((((2400 * (p : Int)) + (S 34 p)) + (S 12 ((((60 * (p : Int)) + (S 33 p))).toNat)))).toNat) 0) 13 p)) rfl ?_
            refine aTopEq ((sU_f rfl).trans (sU_f rfl)) ?_
            refine aAload_n (pc' := 138) dX10_acts_137 rfl rfl ?_
            refine aGetR (pc' := 141) (q := (69, 0)) dX10_acts_138 fX10_69 rfl rfl (lv (by decide)) rfl rfl ?_
            refine aIload_n (pc' := 142) dX10_acts_141 rfl rfl ?_
            refine aIald (pc' := 143) (j := p) dX10_acts_142 rfl (lv (by decide)) rfl h2 rfl ?_
            refine aTopEq (y := ((sU (sU S 31 p (((S 31 p) - (S 44 (((((2400 * (p : Int)) + (S 34 p)) + (S 12 ((((60 * (p : Int)) + (S 33 p))).toNat)))).toNat))))) 44 (((((2400 * (p : Int)) + (S 34 p)) + (S 12 ((((60 * (p : Int)) + (S 33 p))).toNat)))).toNat) 0) 29 p)) rfl ?_
            refine aTopEq ((sU_f rfl).trans (sU_f rfl)) ?_
            refine cSI (pc' := 146) [aI ((S 13 p)), aI ((S 29 p))] dX10_acts_143 lX10_160 okX10_holds ⟨by decide, by decide⟩ npX10_holds rfl rfl rfl (cMetI_mono hw (fun x70 J72 hw => ?_))
            obtain ⟨S71, rfl, hw⟩ := hw
            refine aIcmp_gt (tgt := 158) (pc' := 149) dX10_acts_146 (by decide) rfl (fun hc => ?_) (fun hc => ?_)
            · have hw := hw.1 hc
              refine aAload_n (pc' := 159) dX10_acts_158 rfl rfl ?_
              refine aGetR (pc' := 162) (q := (70, 0)) dX10_acts_159 fX10_72 rfl rfl (lv (by decide)) rfl rfl ?_
              refine aIload_n (pc' := 163) dX10_acts_162 rfl rfl ?_
              refine aIald (pc' := 164) (j := p) dX10_acts_163 rfl (lv (by decide)) rfl h2 rfl ?_
              refine aTopEq (y := (S71 30 p)) rfl ?_
              refine aAload_n (pc' := 165) dX10_acts_164 rfl rfl ?_
              refine aGetR (pc' := 168) (q := (71, 0)) dX10_acts_165 fX10_75 rfl rfl (lv (by decide)) rfl rfl ?_
              refine aIload_n (pc' := 169) dX10_acts_168 rfl rfl ?_
              refine aIald (pc' := 170) (j := p) dX10_acts_169 rfl (lv (by decide)) rfl h2 rfl ?_
              refine aTopEq (y := (S71 31 p)) rfl ?_
              refine aIcmp_le (tgt := 209) (pc' := 173) dX10_acts_170 (by decide) rfl (fun hc => ?_) (fun hc => ?_)
              · have hw := hw.1 hc
                refine aAload_n (pc' := 210) dX10_acts_209 rfl rfl ?_
                refine aIload_n (pc' := 211) dX10_acts_210 rfl rfl ?_
                refine aIload_n (pc' := 212) dX10_acts_211 rfl rfl ?_
                refine cVI (c := 10) (pc' := 215) [aI ((p : Int)), aI ((S 12 ((((60 * (p : Int)) + (S 33 p))).toNat)))] dX10_acts_212 lX10_249 okX10_asks ⟨by decide, by decide⟩ npX10_asks rfl rfl rfl rfl rfl (by decide) rfl (cMetI_mono hw (fun x73 J75 hw => ?_))
                obtain ⟨S74, rfl, hw⟩ := hw
                refine aIf_eq (tgt := 227) (pc' := 218) dX10_acts_215 (by decide) rfl (fun hc => ?_) (fun hc => ?_)
                · have hw := hw.1 hc
                  refine aAload_n (pc' := 228) dX10_acts_227 rfl rfl ?_
                  refine aIload_n (pc' := 229) dX10_acts_228 rfl rfl ?_
                  refine aIconst (pc' := 230) ⟨by decide, by decide⟩ dX10_acts_229 rfl ?_
                  refine cVV (c := 10) (pc' := 233) [aI ((p : Int)), aI 4] dX10_acts_230 lX10_230 okX10_isOver ⟨by decide, by decide⟩ npX10_isOver rfl rfl rfl rfl rfl (by decide) rfl (cMetV_mono hw (fun J78 hw => ?_))
                  obtain ⟨S77, rfl, hw⟩ := hw
                  exact cVret dX10_acts_233 okX10_acts rfl ⟨rfl, rfl, _, rfl, hw⟩
                · have hw := hw.2 hc
                  refine aAload_n (pc' := 219) dX10_acts_218 rfl rfl ?_
                  refine aIload_n (pc' := 220) dX10_acts_219 rfl rfl ?_
                  refine aIload_n (pc' := 221) dX10_acts_220 rfl rfl ?_
                  refine cVV (c := 10) (pc' := 224) [aI ((p : Int)), aI ((S 12 ((((60 * (p : Int)) + (S 33 p))).toNat)))] dX10_acts_221 lX10_247 okX10_makes ⟨by decide, by decide⟩ npX10_makes rfl rfl rfl rfl rfl (by decide) rfl (cMetV_mono hw (fun J81 hw => ?_))
                  obtain ⟨S80, rfl, hw⟩ := hw
                  refine aGoto (pc' := 233) dX10_acts_224 (by decide) ?_
                  exact cVret dX10_acts_233 okX10_acts rfl ⟨rfl, rfl, _, rfl, hw⟩
              · have hw := hw.2 hc
                refine aAload_n (pc' := 174) dX10_acts_173 rfl rfl ?_
                refine aGetR (pc' := 177) (q := (77, 0)) dX10_acts_174 fX10_93 rfl rfl (lv (by decide)) rfl rfl ?_
                refine aIload_n (pc' := 178) dX10_acts_177 rfl rfl ?_
                refine aAload_n (pc' := 179) dX10_acts_178 rfl rfl ?_
                refine aIload_n (pc' := 180) dX10_acts_179 rfl rfl ?_
                refine cVI (c := 10) (pc' := 183) [aI ((p : Int))] dX10_acts_180 lX10_225 okX10_collects ⟨by decide, by decide⟩ npX10_collects rfl rfl rfl rfl rfl (by decide) rfl (cMetI_mono hw (fun x82 J84 hw => ?_))
                obtain ⟨S83, rfl, hw⟩ := hw
                refine aIconst (pc' := 184) ⟨by decide, by decide⟩ dX10_acts_183 rfl ?_
                obtain ⟨h85, hw⟩ := hw
                refine aIsub (pc' := 185) h85.1 h85.2 dX10_acts_184 rfl ?_
                refine aIast (pc' := 186) (j := p) dX10_acts_185 rfl (lv (by decide)) rfl h2 rfl (cEqI (mA (f := 37) rfl rfl rfl) ?_)
                refine aAload_n (pc' := 187) dX10_acts_186 rfl rfl ?_
                refine aGetR (pc' := 190) (q := (68, 0)) dX10_acts_187 fX10_66 rfl rfl (lv (by decide)) rfl rfl ?_
                refine aIload_n (pc' := 191) dX10_acts_190 rfl rfl ?_
                refine aAload_n (pc' := 192) dX10_acts_191 rfl rfl ?_
                refine aGetR (pc' := 195) (q := (77, 0)) dX10_acts_192 fX10_93 rfl rfl (lv (by decide)) rfl rfl ?_
                refine aIload_n (pc' := 196) dX10_acts_195 rfl rfl ?_
                refine aIald (pc' := 197) (j := p) dX10_acts_196 rfl (lv (by decide)) rfl h2 rfl ?_
                refine aTopEq (y := ((sU S83 37 p ((x82 - 1))) 37 p)) rfl ?_
                refine aTopEq sU_s ?_
                refine aIf_le (tgt := 204) (pc' := 200) dX10_acts_197 (by decide) rfl (fun hc => ?_) (fun hc => ?_)
                · have hw := hw.1 hc
                  refine aIconst (pc' := 205) ⟨by decide, by decide⟩ dX10_acts_204 rfl ?_
                  refine aIast (pc' := 206) (j := p) dX10_acts_205 rfl (lv (by decide)) rfl h2 rfl (cEqI (mA (f := 28) rfl rfl rfl) ?_)
                  refine aGoto (pc' := 233) dX10_acts_206 (by decide) ?_
                  exact cVret dX10_acts_233 okX10_acts rfl ⟨rfl, rfl, _, rfl, hw⟩
                · have hw := hw.2 hc
                  refine aIconst (pc' := 201) ⟨by decide, by decide⟩ dX10_acts_200 rfl ?_
                  refine aGoto (pc' := 205) dX10_acts_201 (by decide) ?_
                  refine aIast (pc' := 206) (j := p) dX10_acts_205 rfl (lv (by decide)) rfl h2 rfl (cEqI (mA (f := 28) rfl rfl rfl) ?_)
                  refine aGoto (pc' := 233) dX10_acts_206 (by decide) ?_
                  exact cVret dX10_acts_233 okX10_acts rfl ⟨rfl, rfl, _, rfl, hw⟩
            · have hw := hw.2 hc
              refine aAload_n (pc' := 150) dX10_acts_149 rfl rfl ?_
              refine aIload_n (pc' := 151) dX10_acts_150 rfl rfl ?_
              refine aIload_n (pc' := 152) dX10_acts_151 rfl rfl ?_
              refine cVV (c := 10) (pc' := 155) [aI ((p : Int)), aI ((S 12 ((((60 * (p : Int)) + (S 33 p))).toNat)))] dX10_acts_152 lX10_247 okX10_makes ⟨by decide, by decide⟩ npX10_makes rfl rfl rfl rfl rfl (by decide) rfl (cMetV_mono hw (fun J88 hw => ?_))
              obtain ⟨S87, rfl, hw⟩ := hw
              refine aGoto (pc' := 233) dX10_acts_155 (by decide) ?_
              exact cVret dX10_acts_233 okX10_acts rfl ⟨rfl, rfl, _, rfl, hw⟩
          · have hw := hw.2 hc
            refine aAload_n (pc' := 118) dX10_acts_117 rfl rfl ?_
            refine aIload_n (pc' := 119) dX10_acts_118 rfl rfl ?_
            refine cVV (c := 10) (pc' := 122) [aI ((p : Int))] dX10_acts_119 lX10_234 okX10_passes ⟨by decide, by decide⟩ npX10_passes rfl rfl rfl rfl rfl (by decide) rfl (cMetV_mono hw (fun J91 hw => ?_))
            obtain ⟨S90, rfl, hw⟩ := hw
            exact cVret dX10_acts_122 okX10_acts rfl ⟨rfl, rfl, _, rfl, hw⟩
  · have hw := hw.2 hc
    refine aAload_n (pc' := 25) dX10_acts_24 rfl rfl ?_
    refine aGetR (pc' := 28) (q := (68, 0)) dX10_acts_25 fX10_66 rfl rfl (lv (by decide)) rfl rfl ?_
    refine aIload_n (pc' := 29) dX10_acts_28 rfl rfl ?_
    refine aIconst (pc' := 30) ⟨by decide, by decide⟩ dX10_acts_29 rfl ?_
    refine aIast (pc' := 31) (j := p) dX10_acts_30 rfl (lv (by decide)) rfl h2 rfl (cEqI (mA (f := 28) rfl rfl rfl) ?_)
    refine aAload_n (pc' := 32) dX10_acts_31 rfl rfl ?_
    refine aGetR (pc' := 35) (q := (77, 0)) dX10_acts_32 fX10_93 rfl rfl (lv (by decide)) rfl rfl ?_
    refine aIload_n (pc' := 36) dX10_acts_35 rfl rfl ?_
    refine aIload_n (pc' := 37) dX10_acts_36 rfl rfl ?_
    refine aSipush (pc' := 40) ⟨by decide, by decide⟩ dX10_acts_37 rfl ?_
    obtain ⟨h92, hw⟩ := hw
    refine aIsub (pc' := 41) h92.1 h92.2 dX10_acts_40 rfl ?_
    refine aIast (pc' := 42) (j := p) dX10_acts_41 rfl (lv (by decide)) rfl h2 rfl (cEqI (mA (f := 37) rfl rfl rfl) ?_)
    exact cVret dX10_acts_42 okX10_acts rfl ⟨rfl, rfl, _, rfl, hw⟩
set_option maxRecDepth 100000 in
set_option maxHeartbeats 4000000 in
theorem gX10_alone {w : aW} {mm : Nat} {C : aIF} {S : aS} {p : Nat} {r : Int} {P : Int → aS → Prop} (hw : (p < 6) ∧ (rMetI w mX10_holds [aI ((S 13 p)), aI r] C S (rf mm) (fun x2 S3 => rRunI w mX10_alone 26 [some (aO 40 0), some (aI ((p : Int))), some (aI r), some (aI x2), some (aI 0), some (aI 0), some (aI 0), some (aI 0), some (aI 0), none, none] [] C S3 (rf mm) P))) : rMetI w mX10_alone [aO 40 0, aI ((p : Int)), aI r] C S (rf mm) P := by
  refine cMet_of okX10_alone (Nat.le_of_ble_eq_true rfl) (fun hos => ?_)
  show cRun w mX10_alone 0 [some (aO 40 0), some (aI ((p : Int))), some (aI r), none, none, none, none, none, none, none, none] [] (mem C S) (rf mm) (rqI (rf mm) C P)
  refine aAload_n (pc' := 1) dX10_alone_0 rfl rfl ?_
  refine aGetR (pc' := 4) (q := (53, 0)) dX10_alone_1 fX10_42 rfl rfl (lv (by decide)) rfl rfl ?_
  refine aIload_n (pc' := 5) dX10_alone_4 rfl rfl ?_
  obtain ⟨h1, hw⟩ := hw
  refine aIald (pc' := 6) (j := p) dX10_alone_5 rfl (lv (by decide)) rfl h1 rfl ?_
  refine aTopEq (y := (S 13 p)) rfl ?_
  refine aIload_n (pc' := 7) dX10_alone_6 rfl rfl ?_
  refine cSI (pc' := 10) [aI ((S 13 p)), aI r] dX10_alone_7 lX10_160 okX10_holds ⟨by decide, by decide⟩ npX10_holds rfl rfl rfl (cMetI_mono hw (fun x2 J4 hw => ?_))
  obtain ⟨S3, rfl, hw⟩ := hw
  refine aIstore_n (pc' := 11) dX10_alone_10 (by decide) rfl (L' := [some (aO 40 0), some (aI ((p : Int))), some (aI r), some (aI x2), none, none, none, none, none, none, none]) rfl ?_
  refine aIconst (pc' := 12) ⟨by decide, by decide⟩ dX10_alone_11 rfl ?_
  refine aIstore (pc' := 14) dX10_alone_12 (by decide) rfl (L' := [some (aO 40 0), some (aI ((p : Int))), some (aI r), some (aI x2), some (aI 0), none, none, none, none, none, none]) rfl ?_
  refine aIconst (pc' := 15) ⟨by decide, by decide⟩ dX10_alone_14 rfl ?_
  refine aIstore (pc' := 17) dX10_alone_15 (by decide) rfl (L' := [some (aO 40 0), some (aI ((p : Int))), some (aI r), some (aI x2), some (aI 0), some (aI 0), none, none, none, none, none]) rfl ?_
  refine aIconst (pc' := 18) ⟨by decide, by decide⟩ dX10_alone_17 rfl ?_
  refine aIstore (pc' := 20) dX10_alone_18 (by decide) rfl (L' := [some (aO 40 0), some (aI ((p : Int))), some (aI r), some (aI x2), some (aI 0), some (aI 0), some (aI 0), none, none, none, none]) rfl ?_
  refine aIconst (pc' := 21) ⟨by decide, by decide⟩ dX10_alone_20 rfl ?_
  refine aIstore (pc' := 23) dX10_alone_21 (by decide) rfl (L' := [some (aO 40 0), some (aI ((p : Int))), some (aI r), some (aI x2), some (aI 0), some (aI 0), some (aI 0), some (aI 0), none, none, none]) rfl ?_
  refine aIconst (pc' := 24) ⟨by decide, by decide⟩ dX10_alone_23 rfl ?_
  refine aIstore (pc' := 26) dX10_alone_24 (by decide) rfl (L' := [some (aO 40 0), some (aI ((p : Int))), some (aI r), some (aI x2), some (aI 0), some (aI 0), some (aI 0), some (aI 0), some (aI 0), none, none]) rfl ?_
  exact hw
set_option maxRecDepth 100000 in
set_option maxHeartbeats 4000000 in
theorem gX10_alone_26 {w : aW} {mm : Nat} {C : aIF} {S : aS} {p : Nat} {r : Int} {l3 : Int} {l4 : Int} {l5 : Nat} {l6 : Int} {l7 : Int} {l8 : Nat} {P : Int → aS → Prop} (hw : (p < 6) ∧ ((((S 14 p) ≤ (l8 : Int)) → P l4 S) ∧ ((¬ ((S 14 p) ≤ (l8 : Int))) → rRunI w mX10_alone 40 [some (aO 40 0), some (aI ((p : Int))), some (aI r), some (aI l3), some (aI l4), some (aI ((l5 : Int))), some (aI l6), some (aI l7), some (aI ((l8 : Int))), some (aI 0), none] [] C S (rf mm) P))) : rRunI w mX10_alone 26 [some (aO 40 0), some (aI ((p : Int))), some (aI r), some (aI l3), some (aI l4), some (aI ((l5 : Int))), some (aI l6), some (aI l7), some (aI ((l8 : Int))), none, none] [] C S (rf mm) P := by
  refine aIload (pc' := 28) dX10_alone_26 rfl rfl ?_
  refine aAload_n (pc' := 29) dX10_alone_28 rfl rfl ?_
  refine aGetR (pc' := 32) (q := (54, 0)) dX10_alone_29 fX10_45 rfl rfl (lv (by decide)) rfl rfl ?_
  refine aIload_n (pc' := 33) dX10_alone_32 rfl rfl ?_
  obtain ⟨h1, hw⟩ := hw
  refine aIald (pc' := 34) (j := p) dX10_alone_33 rfl (lv (by decide)) rfl h1 rfl ?_
  refine aTopEq (y := (S 14 p)) rfl ?_
  refine aIcmp_ge (tgt := 236) (pc' := 37) dX10_alone_34 (by decide) rfl (fun hc => ?_) (fun hc => ?_)
  · have hw := hw.1 hc
    refine aIload (pc' := 238) dX10_alone_236 rfl rfl ?_
    exact cIret dX10_alone_238 okX10_alone rfl ⟨rfl, _, rfl, _, rfl, hw⟩
  · have hw := hw.2 hc
    refine aIconst (pc' := 38) ⟨by decide, by decide⟩ dX10_alone_37 rfl ?_
    refine aIstore (pc' := 40) dX10_alone_38 (by decide) rfl (L' := [some (aO 40 0), some (aI ((p : Int))), some (aI r), some (aI l3), some (aI l4), some (aI ((l5 : Int))), some (aI l6), some (aI l7), some (aI ((l8 : Int))), some (aI 0), none]) rfl ?_
    exact hw
set_option maxRecDepth 100000 in
set_option maxHeartbeats 4000000 in
theorem gX10_alone_40 {w : aW} {mm : Nat} {C : aIF} {S : aS} {p : Nat} {r : Int} {l3 : Int} {l4 : Int} {l5 : Nat} {l6 : Int} {l7 : Int} {l8 : Nat} {l9 : Nat} {P : Int → aS → Prop} (hw : (p < 6) ∧ ((((S 11 p) ≤ (l9 : Int)) → (l8 + 1 < 2147483648) ∧ (rRunI w mX10_alone 26 [some (aO 40 0), some (aI ((p : Int))), some (aI r), some (aI l3), some (aI l4), some (aI ((l5 : Int))), some (aI l6), some (aI l7), some (aI ((((l8 + 1) : Nat) : Int))), none, none] [] C S (rf mm) P)) ∧ ((¬ ((S 11 p) ≤ (l9 : Int))) → (-2147483648 ≤ (60 * (p : Int)) ∧ (60 * (p : Int)) < 2147483648) ∧ ((-2147483648 ≤ ((60 * (p : Int)) + (l9 : Int)) ∧ ((60 * (p : Int)) + (l9 : Int)) < 2147483648) ∧ ((((60 * p) + l9) < 360) ∧ ((((S 12 (((60 * p) + l9))) ≤ 1000) → (-2147483648 ≤ (l4 + 1) ∧ (l4 + 1) < 2147483648) ∧ (((1000 < (S 12 (((60 * p) + l9)))) → (l9 + 1 < 2147483648) ∧ (rRunI w mX10_alone 40 [some (aO 40 0), some (aI ((p : Int))), some (aI r), some (aI l3), some (aI ((l4 + 1))), some (aI ((l5 : Int))), some (aI l6), some (aI l7), some (aI ((l8 : Int))), some (aI ((((l9 + 1) : Nat) : Int))), none] [] C S (rf mm) P)) ∧ ((¬ (1000 < (S 12 (((60 * p) + l9))))) → (((S 12 (((60 * p) + l9))) ≠ 0) → ((0 ≤ (S 12 (((60 * p) + l9)))) → (-2147483648 ≤ (l7 + (S 12 (((60 * p) + l9)))) ∧ (l7 + (S 12 (((60 * p) + l9)))) < 2147483648) ∧ ((((l7 + (S 12 (((60 * p) + l9)))) ≤ l3) → (-2147483648 ≤ (l7 + (S 12 (((60 * p) + l9)))) ∧ (l7 + (S 12 (((60 * p) + l9)))) < 2147483648) ∧ ((((l7 + (S 12 (((60 * p) + l9)))) ≤ l3) → (l5 < 2400) ∧ ((l5 + 1 < 2147483648) ∧ ((-2147483648 ≤ (l6 + (S 12 (((60 * p) + l9)))) ∧ (l6 + (S 12 (((60 * p) + l9)))) < 2147483648) ∧ ((-2147483648 ≤ (l7 + (S 12 (((60 * p) + l9)))) ∧ (l7 + (S 12 (((60 * p) + l9)))) < 2147483648) ∧ ((l9 + 1 < 2147483648) ∧ (rRunI w mX10_alone 40 [some (aO 40 0), some (aI ((p : Int))), some (aI r), some (aI l3), some (aI ((l4 + 1))), some (aI ((((l5 + 1) : Nat) : Int))), some (aI ((l6 + (S 12 (((60 * p) + l9)))))), some (aI ((l7 + (S 12 (((60 * p) + l9)))))), some (aI ((l8 : Int))), some (aI ((((l9 + 1) : Nat) : Int))), none] [] C (sU S 16 l5 ((S 12 (((60 * p) + l9))))) (rf mm) P)))))) ∧ ((¬ ((l7 + (S 12 (((60 * p) + l9)))) ≤ l3)) → P (-1) S))) ∧ ((¬ ((l7 + (S 12 (((60 * p) + l9)))) ≤ l3)) → ((l7 ≤ l6) → (-2147483648 ≤ (l7 + (S 12 (((60 * p) + l9)))) ∧ (l7 + (S 12 (((60 * p) + l9)))) < 2147483648) ∧ ((((l7 + (S 12 (((60 * p) + l9)))) ≤ l3) → (l5 < 2400) ∧ ((l5 + 1 < 2147483648) ∧ ((-2147483648 ≤ (l6 + (S 12 (((60 * p) + l9)))) ∧ (l6 + (S 12 (((60 * p) + l9)))) < 2147483648) ∧ ((-2147483648 ≤ (l7 + (S 12 (((60 * p) + l9)))) ∧ (l7 + (S 12 (((60 * p) + l9)))) < 2147483648) ∧ ((l9 + 1 < 2147483648) ∧ (rRunI w mX10_alone 40 [some (aO 40 0), some (aI ((p : Int))), some (aI r), some (aI l3), some (aI ((l4 + 1))), some (aI ((((l5 + 1) : Nat) : Int))), some (aI ((l6 + (S 12 (((60 * p) + l9)))))), some (aI ((l7 + (S 12 (((60 * p) + l9)))))), some (aI ((l8 : Int))), some (aI ((((l9 + 1) : Nat) : Int))), none] [] C (sU S 16 l5 ((S 12 (((60 * p) + l9))))) (rf mm) P)))))) ∧ ((¬ ((l7 + (S 12 (((60 * p) + l9)))) ≤ l3)) → P (-1) S))) ∧ ((¬ (l7 ≤ l6)) → rMetI w mX10_cost [aI ((S 13 p)), aI l6, aI l7] C S (rf mm) (fun x21 S22 => (-2147483648 ≤ ((l4 + 1) + x21) ∧ ((l4 + 1) + x21) < 2147483648) ∧ ((-2147483648 ≤ (l6 + (S 12 (((60 * p) + l9)))) ∧ (l6 + (S 12 (((60 * p) + l9)))) < 2147483648) ∧ ((((l6 + (S 12 (((60 * p) + l9)))) ≤ l3) → (l5 < 2400) ∧ ((l5 + 1 < 2147483648) ∧ ((-2147483648 ≤ (l6 + (S 12 (((60 * p) + l9)))) ∧ (l6 + (S 12 (((60 * p) + l9)))) < 2147483648) ∧ ((-2147483648 ≤ (l6 + (S 12 (((60 * p) + l9)))) ∧ (l6 + (S 12 (((60 * p) + l9)))) < 2147483648) ∧ ((l9 + 1 < 2147483648) ∧ (rRunI w mX10_alone 40 [some (aO 40 0), some (aI ((p : Int))), some (aI r), some (aI l3), some (aI (((l4 + 1) + x21))), some (aI ((((l5 + 1) : Nat) : Int))), some (aI ((l6 + (S 12 (((60 * p) + l9)))))), some (aI ((l6 + (S 12 (((60 * p) + l9)))))), some (aI ((l8 : Int))), some (aI ((((l9 + 1) : Nat) : Int))), none] [] C (sU S22 16 l5 ((S 12 (((60 * p) + l9))))) (rf mm) P)))))) ∧ ((¬ ((l6 + (S 12 (((60 * p) + l9)))) ≤ l3)) → P (-1) S22)))))))) ∧ ((¬ (0 ≤ (S 12 (((60 * p) + l9))))) → (-2147483648 ≤ ((l5 : Int) + (S 12 (((60 * p) + l9)))) ∧ ((l5 : Int) + (S 12 (((60 * p) + l9)))) < 2147483648) ∧ (((0 ≤ ((l5 : Int) + (S 12 (((60 * p) + l9))))) → (-2147483648 ≤ ((l5 : Int) + (S 12 (((60 * p) + l9)))) ∧ ((l5 : Int) + (S 12 (((60 * p) + l9)))) < 2147483648) ∧ ((0 ≤ ((l5 : Int) + (S 12 (((60 * p) + l9)))) ∧ ((l5 : Int) + (S 12 (((60 * p) + l9)))) < ((2400 : Nat) : Int)) ∧ ((-2147483648 ≤ (l6 - (S 16 ((((l5 : Int) + (S 12 (((60 * p) + l9))))).toNat))) ∧ (l6 - (S 16 ((((l5 : Int) + (S 12 (((60 * p) + l9))))).toNat))) < 2147483648) ∧ ((-2147483648 ≤ ((l5 : Int) + (S 12 (((60 * p) + l9)))) ∧ ((l5 : Int) + (S 12 (((60 * p) + l9)))) < 2147483648) ∧ ((l9 + 1 < 2147483648) ∧ (rRunI w mX10_alone 40 [some (aO 40 0), some (aI ((p : Int))), some (aI r), some (aI l3), some (aI ((l4 + 1))), some (aI ((l5 : Int))), some (aI ((l6 - (S 16 ((((l5 : Int) + (S 12 (((60 * p) + l9))))).toNat))))), some (aI l7), some (aI ((l8 : Int))), some (aI ((((l9 + 1) : Nat) : Int))), none] [] C (sU S 16 ((((l5 : Int) + (S 12 (((60 * p) + l9))))).toNat) 0) (rf mm) P)))))) ∧ ((¬ (0 ≤ ((l5 : Int) + (S 12 (((60 * p) + l9)))))) → (l9 + 1 < 2147483648) ∧ (rRunI w mX10_alone 40 [some (aO 40 0), some (aI ((p : Int))), some (aI r), some (aI l3), some (aI ((l4 + 1))), some (aI ((l5 : Int))), some (aI l6), some (aI l7), some (aI ((l8 : Int))), some (aI ((((l9 + 1) : Nat) : Int))), none] [] C S (rf mm) P))))) ∧ (((S 12 (((60 * p) + l9))) = 0) → (l9 + 1 < 2147483648) ∧ (rRunI w mX10_alone 40 [some (aO 40 0), some (aI ((p : Int))), some (aI r), some (aI l3), some (aI ((l4 + 1))), some (aI ((l5 : Int))), some (aI l6), some (aI l7), some (aI ((l8 : Int))), some (aI ((((l9 + 1) : Nat) : Int))), none] [] C S (rf mm) P))))) ∧ ((¬ ((S 12 (((60 * p) + l9))) ≤ 1000)) → (-2147483648 ≤ ((S 12 (((60 * p) + l9))) - 1000) ∧ ((S 12 (((60 * p) + l9))) - 1000) < 2147483648) ∧ ((-2147483648 ≤ (l4 + ((S 12 (((60 * p) + l9))) - 1000)) ∧ (l4 + ((S 12 (((60 * p) + l9))) - 1000)) < 2147483648) ∧ (((1000 < (S 12 (((60 * p) + l9)))) → (l9 + 1 < 2147483648) ∧ (rRunI w mX10_alone 40 [some (aO 40 0), some (aI ((p : Int))), some (aI r), some (aI l3), some (aI ((l4 + ((S 12 (((60 * p) + l9))) - 1000)))), some (aI ((l5 : Int))), some (aI l6), some (aI l7), some (aI ((l8 : Int))), some (aI ((((l9 + 1) : Nat) : Int))), none] [] C S (rf mm) P)) ∧ ((¬ (1000 < (S 12 (((60 * p) + l9))))) → (((S 12 (((60 * p) + l9))) ≠ 0) → ((0 ≤ (S 12 (((60 * p) + l9)))) → (-2147483648 ≤ (l7 + (S 12 (((60 * p) + l9)))) ∧ (l7 + (S 12 (((60 * p) + l9)))) < 2147483648) ∧ ((((l7 + (S 12 (((60 * p) + l9)))) ≤ l3) → (-2147483648 ≤ (l7 + (S 12 (((60 * p) + l9)))) ∧ (l7 + (S 12 (((60 * p) + l9)))) < 2147483648) ∧ ((((l7 + (S 12 (((60 * p) + l9)))) ≤ l3) → (l5 < 2400) ∧ ((l5 + 1 < 2147483648) ∧ ((-2147483648 ≤ (l6 + (S 12 (((60 * p) + l9)))) ∧ (l6 + (S 12 (((60 * p) + l9)))) < 2147483648) ∧ ((-2147483648 ≤ (l7 + (S 12 (((60 * p) + l9)))) ∧ (l7 + (S 12 (((60 * p) + l9)))) < 2147483648) ∧ ((l9 + 1 < 2147483648) ∧ (rRunI w mX10_alone 40 [some (aO 40 0), some (aI ((p : Int))), some (aI r), some (aI l3), some (aI ((l4 + ((S 12 (((60 * p) + l9))) - 1000)))), some (aI ((((l5 + 1) : Nat) : Int))), some (aI ((l6 + (S 12 (((60 * p) + l9)))))), some (aI ((l7 + (S 12 (((60 * p) + l9)))))), some (aI ((l8 : Int))), some (aI ((((l9 + 1) : Nat) : Int))), none] [] C (sU S 16 l5 ((S 12 (((60 * p) + l9))))) (rf mm) P)))))) ∧ ((¬ ((l7 + (S 12 (((60 * p) + l9)))) ≤ l3)) → P (-1) S))) ∧ ((¬ ((l7 + (S 12 (((60 * p) + l9)))) ≤ l3)) → ((l7 ≤ l6) → (-2147483648 ≤ (l7 + (S 12 (((60 * p) + l9)))) ∧ (l7 + (S 12 (((60 * p) + l9)))) < 2147483648) ∧ ((((l7 + (S 12 (((60 * p) + l9)))) ≤ l3) → (l5 < 2400) ∧ ((l5 + 1 < 2147483648) ∧ ((-2147483648 ≤ (l6 + (S 12 (((60 * p) + l9)))) ∧ (l6 + (S 12 (((60 * p) + l9)))) < 2147483648) ∧ ((-2147483648 ≤ (l7 + (S 12 (((60 * p) + l9)))) ∧ (l7 + (S 12 (((60 * p) + l9)))) < 2147483648) ∧ ((l9 + 1 < 2147483648) ∧ (rRunI w mX10_alone 40 [some (aO 40 0), some (aI ((p : Int))), some (aI r), some (aI l3), some (aI ((l4 + ((S 12 (((60 * p) + l9))) - 1000)))), some (aI ((((l5 + 1) : Nat) : Int))), some (aI ((l6 + (S 12 (((60 * p) + l9)))))), some (aI ((l7 + (S 12 (((60 * p) + l9)))))), some (aI ((l8 : Int))), some (aI ((((l9 + 1) : Nat) : Int))), none] [] C (sU S 16 l5 ((S 12 (((60 * p) + l9))))) (rf mm) P)))))) ∧ ((¬ ((l7 + (S 12 (((60 * p) + l9)))) ≤ l3)) → P (-1) S))) ∧ ((¬ (l7 ≤ l6)) → rMetI w mX10_cost [aI ((S 13 p)), aI l6, aI l7] C S (rf mm) (fun x55 S56 => (-2147483648 ≤ ((l4 + ((S 12 (((60 * p) + l9))) - 1000)) + x55) ∧ ((l4 + ((S 12 (((60 * p) + l9))) - 1000)) + x55) < 2147483648) ∧ ((-2147483648 ≤ (l6 + (S 12 (((60 * p) + l9)))) ∧ (l6 + (S 12 (((60 * p) + l9)))) < 2147483648) ∧ ((((l6 + (S 12 (((60 * p) + l9)))) ≤ l3) → (l5 < 2400) ∧ ((l5 + 1 < 2147483648) ∧ ((-2147483648 ≤ (l6 + (S 12 (((60 * p) + l9)))) ∧ (l6 + (S 12 (((60 * p) + l9)))) < 2147483648) ∧ ((-2147483648 ≤ (l6 + (S 12 (((60 * p) + l9)))) ∧ (l6 + (S 12 (((60 * p) + l9)))) < 2147483648) ∧ ((l9 + 1 < 2147483648) ∧ (rRunI w mX10_alone 40 [some (aO 40 0), some (aI ((p : Int))), some (aI r), some (aI l3), some (aI (((l4 + ((S 12 (((60 * p) + l9))) - 1000)) + x55))), some (aI ((((l5 + 1) : Nat) : Int))), some (aI ((l6 + (S 12 (((60 * p) + l9)))))), some (aI ((l6 + (S 12 (((60 * p) + l9)))))), some (aI ((l8 : Int))), some (aI ((((l9 + 1) : Nat) : Int))), none] [] C (sU S56 16 l5 ((S 12 (((60 * p) + l9))))) (rf mm) P)))))) ∧ ((¬ ((l6 + (S 12 (((60 * p) + l9)))) ≤ l3)) → P (-1) S56)))))))) ∧ ((¬ (0 ≤ (S 12 (((60 * p) + l9))))) → (-2147483648 ≤ ((l5 : Int) + (S 12 (((60 * p) + l9)))) ∧ ((l5 : Int) + (S 12 (((60 * p) + l9)))) < 2147483648) ∧ (((0 ≤ ((l5 : Int) + (S 12 (((60 * p) + l9))))) → (-2147483648 ≤ ((l5 : Int) + (S 12 (((60 * p) + l9)))) ∧ ((l5 : Int) + (S 12 (((60 * p) + l9)))) < 2147483648) ∧ ((0 ≤ ((l5 : Int) + (S 12 (((60 * p) + l9)))) ∧ ((l5 : Int) + (S 12 (((60 * p) + l9)))) < ((2400 : Nat) : Int)) ∧ ((-2147483648 ≤ (l6 - (S 16 ((((l5 : Int) + (S 12 (((60 * p) + l9))))).toNat))) ∧ (l6 - (S 16 ((((l5 : Int) + (S 12 (((60 * p) + l9))))).toNat))) < 2147483648) ∧ ((-2147483648 ≤ ((l5 : Int) + (S 12 (((60 * p) + l9)))) ∧ ((l5 : Int) + (S 12 (((60 * p) + l9)))) < 2147483648) ∧ ((l9 + 1 < 2147483648) ∧ (rRunI w mX10_alone 40 [some (aO 40 0), some (aI ((p : Int))), some (aI r), some (aI l3), some (aI ((l4 + ((S 12 (((60 * p) + l9))) - 1000)))), some (aI ((l5 : Int))), some (aI ((l6 - (S 16 ((((l5 : Int) + (S 12 (((60 * p) + l9))))).toNat))))), some (aI l7), some (aI ((l8 : Int))), some (aI ((((l9 + 1) : Nat) : Int))), none] [] C (sU S 16 ((((l5 : Int) + (S 12 (((60 * p) + l9))))).toNat) 0) (rf mm) P)))))) ∧ ((¬ (0 ≤ ((l5 : Int) + (S 12 (((60 * p) + l9)))))) → (l9 + 1 < 2147483648) ∧ (rRunI w mX10_alone 40 [some (aO 40 0), some (aI ((p : Int))), some (aI r), some (aI l3), some (aI ((l4 + ((S 12 (((60 * p) + l9))) - 1000)))), some (aI ((l5 : Int))), some (aI l6), some (aI l7), some (aI ((l8 : Int))), some (aI ((((l9 + 1) : Nat) : Int))), none] [] C S (rf mm) P))))) ∧ (((S 12 (((60 * p) + l9))) = 0) → (l9 + 1 < 2147483648) ∧ (rRunI w mX10_alone 40 [some (aO 40 0), some (aI ((p : Int))), some (aI r), some (aI l3), some (aI ((l4 + ((S 12 (((60 * p) + l9))) - 1000)))), some (aI ((l5 : Int))), some (aI l6), some (aI l7), some (aI ((l8 : Int))), some (aI ((((l9 + 1) : Nat) : Int))), none] [] C S (rf mm) P)))))))))))) : rRunI w mX10_alone 40 [some (aO 40 0), some (aI ((p : Int))), some (aI r), some (aI l3), some (aI l4), some (aI ((l5 : Int))), some (aI l6), some (aI l7), some (aI ((l8 : Int))), some (aI ((l9 : Int))), none] [] C S (rf mm) P := by
  refine aIload (pc' := 42) dX10_alone_40 rfl rfl ?_
  refine aAload_n (pc' := 43) dX10_alone_42 rfl rfl ?_
  refine aGetR (pc' := 46) (q := (51, 0)) dX10_alone_43 fX10_36 rfl rfl (lv (by decide)) rfl rfl ?_
  refine aIload_n (pc' := 47) dX10_alone_46 rfl rfl ?_
  obtain ⟨h1, hw⟩ := hw
  refine aIald (pc' := 48) (j := p) dX10_alone_47 rfl (lv (by decide)) rfl h1 rfl ?_
  refine aTopEq (y := (S 11 p)) rfl ?_
  refine aIcmp_ge (tgt := 230) (pc' := 51) dX10_alone_48 (by decide) rfl (fun hc => ?_) (fun hc => ?_)
  · have hw := hw.1 hc
    obtain ⟨h2, hw⟩ := hw
    refine aIinc1 (pc' := 233) dX10_alone_230 rfl (by decide) h2 rfl (L' := [some (aO 40 0), some (aI ((p : Int))), some (aI r), some (aI l3), some (aI l4), some (aI ((l5 : Int))), some (aI l6), some (aI l7), some (aI ((((l8 + 1) : Nat) : Int))), some (aI ((l9 : Int))), none]) rfl ?_
    refine aGoto (pc' := 26) dX10_alone_233 (by decide) ?_
    exact aDrop [9] (L' := [some (aO 40 0), some (aI ((p : Int))), some (aI r), some (aI l3), some (aI l4), some (aI ((l5 : Int))), some (aI l6), some (aI l7), some (aI ((((l8 + 1) : Nat) : Int))), none, none]) rfl hw
  · have hw := hw.2 hc
    refine aAload_n (pc' := 52) dX10_alone_51 rfl rfl ?_
    refine aGetR (pc' := 55) (q := (52, 0)) dX10_alone_52 fX10_39 rfl rfl (lv (by decide)) rfl rfl ?_
    refine aBipush (pc' := 57) ⟨by decide, by decide⟩ dX10_alone_55 rfl ?_
    refine aIload_n (pc' := 58) dX10_alone_57 rfl rfl ?_
    obtain ⟨h3, hw⟩ := hw
    refine aImul (pc' := 59) h3.1 h3.2 dX10_alone_58 rfl ?_
    refine aIload (pc' := 61) dX10_alone_59 rfl rfl ?_
    obtain ⟨h4, hw⟩ := hw
    refine aIadd (pc' := 62) h4.1 h4.2 dX10_alone_61 rfl ?_
    obtain ⟨h5, hw⟩ := hw
    refine aIald (pc' := 63) (j := ((60 * p) + l9)) dX10_alone_62 rfl (lv (by decide)) (by omega) h5 rfl ?_
    refine aTopEq (y := (S 12 (((60 * p) + l9)))) rfl ?_
    refine aIstore (pc' := 65) dX10_alone_63 (by decide) rfl (L' := [some (aO 40 0), some (aI ((p : Int))), some (aI r), some (aI l3), some (aI l4), some (aI ((l5 : Int))), some (aI l6), some (aI l7), some (aI ((l8 : Int))), some (aI ((l9 : Int))), some (aI ((S 12 (((60 * p) + l9)))))]) rfl ?_
    refine aIload (pc' := 67) dX10_alone_65 rfl rfl ?_
    refine aIload (pc' := 69) dX10_alone_67 rfl rfl ?_
    refine aSipush (pc' := 72) ⟨by decide, by decide⟩ dX10_alone_69 rfl ?_
    refine aIcmp_le (tgt := 84) (pc' := 75) dX10_alone_72 (by decide) rfl (fun hc => ?_) (fun hc => ?_)
    · have hw := hw.1 hc
      refine aIconst (pc' := 85) ⟨by decide, by decide⟩ dX10_alone_84 rfl ?_
      obtain ⟨h6, hw⟩ := hw
      refine aIadd (pc' := 86) h6.1 h6.2 dX10_alone_85 rfl ?_
      refine aIstore (pc' := 88) dX10_alone_86 (by decide) rfl (L' := [some (aO 40 0), some (aI ((p : Int))), some (aI r), some (aI l3), some (aI ((l4 + 1))), some (aI ((l5 : Int))), some (aI l6), some (aI l7), some (aI ((l8 : Int))), some (aI ((l9 : Int))), some (aI ((S 12 (((60 * p) + l9)))))]) rfl ?_
      refine aIload (pc' := 90) dX10_alone_88 rfl rfl ?_
      refine aSipush (pc' := 93) ⟨by decide, by decide⟩ dX10_alone_90 rfl ?_
      refine aIcmp_gt (tgt := 224) (pc' := 96) dX10_alone_93 (by decide) rfl (fun hc => ?_) (fun hc => ?_)
      · have hw := hw.1 hc
        obtain ⟨h7, hw⟩ := hw
        refine aIinc1 (pc' := 227) dX10_alone_224 rfl (by decide) h7 rfl (L' := [some (aO 40 0), some (aI ((p : Int))), some (aI r), some (aI l3), some (aI ((l4 + 1))), some (aI ((l5 : Int))), some (aI l6), some (aI l7), some (aI ((l8 : Int))), some (aI ((((l9 + 1) : Nat) : Int))), some (aI ((S 12 (((60 * p) + l9)))))]) rfl ?_
        refine aGoto (pc' := 40) dX10_alone_227 (by decide) ?_
        exact aDrop [10] (L' := [some (aO 40 0), some (aI ((p : Int))), some (aI r), some (aI l3), some (aI ((l4 + 1))), some (aI ((l5 : Int))), some (aI l6), some (aI l7), some (aI ((l8 : Int))), some (aI ((((l9 + 1) : Nat) : Int))), none]) rfl hw
      · have hw := hw.2 hc
        refine aIload (pc' := 98) dX10_alone_96 rfl rfl ?_
        refine aIf_ne (tgt := 104) (pc' := 101) dX10_alone_98 (by decide) rfl (fun hc => ?_) (fun hc => ?_)
        · have hw := hw.1 hc
          refine aIload (pc' := 106) dX10_alone_104 rfl rfl ?_
          refine aIf_ge (tgt := 149) (pc' := 109) dX10_alone_106 (by decide) rfl (fun hc => ?_) (fun hc => ?_)
          · have hw := hw.1 hc
            refine aIload (pc' := 151) dX10_alone_149 rfl rfl ?_
            refine aIload (pc' := 153) dX10_alone_151 rfl rfl ?_
            obtain ⟨h8, hw⟩ := hw
            refine aIadd (pc' := 154) h8.1 h8.2 dX10_alone_153 rfl ?_
            refine aIload_n (pc' := 155) dX10_alone_154 rfl rfl ?_
            refine aIcmp_le (tgt := 187) (pc' := 158) dX10_alone_155 (by decide) rfl (fun hc => ?_) (fun hc => ?_)
            · have hw := hw.1 hc
              refine aIload (pc' := 189) dX10_alone_187 rfl rfl ?_
              refine aIload (pc' := 191) dX10_alone_189 rfl rfl ?_
              obtain ⟨h9, hw⟩ := hw
              refine aIadd (pc' := 192) h9.1 h9.2 dX10_alone_191 rfl ?_
              refine aIload_n (pc' := 193) dX10_alone_192 rfl rfl ?_
              refine aIcmp_le (tgt := 198) (pc' := 196) dX10_alone_193 (by decide) rfl (fun hc => ?_) (fun hc => ?_)
              · have hw := hw.1 hc
                refine aAload_n (pc' := 199) dX10_alone_198 rfl rfl ?_
                refine aGetR (pc' := 202) (q := (56, 0)) dX10_alone_199 fX10_51 rfl rfl (lv (by decide)) rfl rfl ?_
                refine aIload (pc' := 204) dX10_alone_202 rfl rfl ?_
                refine aIload (pc' := 206) dX10_alone_204 rfl rfl ?_
                obtain ⟨h10, hw⟩ := hw
                refine aIast (pc' := 207) (j := l5) dX10_alone_206 rfl (lv (by decide)) rfl h10 rfl (cEqI (mA (f := 16) rfl rfl rfl) ?_)
                obtain ⟨h11, hw⟩ := hw
                refine aIinc1 (pc' := 210) dX10_alone_207 rfl (by decide) h11 rfl (L' := [some (aO 40 0), some (aI ((p : Int))), some (aI r), some (aI l3), some (aI ((l4 + 1))), some (aI ((((l5 + 1) : Nat) : Int))), some (aI l6), some (aI l7), some (aI ((l8 : Int))), some (aI ((l9 : Int))), some (aI ((S 12 (((60 * p) + l9)))))]) rfl ?_
                refine aIload (pc' := 212) dX10_alone_210 rfl rfl ?_
                refine aIload (pc' := 214) dX10_alone_212 rfl rfl ?_
                obtain ⟨h12, hw⟩ := hw
                refine aIadd (pc' := 215) h12.1 h12.2 dX10_alone_214 rfl ?_
                refine aIstore (pc' := 217) dX10_alone_215 (by decide) rfl (L' := [some (aO 40 0), some (aI ((p : Int))), some (aI r), some (aI l3), some (aI ((l4 + 1))), some (aI ((((l5 + 1) : Nat) : Int))), some (aI ((l6 + (S 12 (((60 * p) + l9)))))), some (aI l7), some (aI ((l8 : Int))), some (aI ((l9 : Int))), some (aI ((S 12 (((60 * p) + l9)))))]) rfl ?_
                refine aIload (pc' := 219) dX10_alone_217 rfl rfl ?_
                refine aIload (pc' := 221) dX10_alone_219 rfl rfl ?_
                obtain ⟨h13, hw⟩ := hw
                refine aIadd (pc' := 222) h13.1 h13.2 dX10_alone_221 rfl ?_
                refine aIstore (pc' := 224) dX10_alone_222 (by decide) rfl (L' := [some (aO 40 0), some (aI ((p : Int))), some (aI r), some (aI l3), some (aI ((l4 + 1))), some (aI ((((l5 + 1) : Nat) : Int))), some (aI ((l6 + (S 12 (((60 * p) + l9)))))), some (aI ((l7 + (S 12 (((60 * p) + l9)))))), some (aI ((l8 : Int))), some (aI ((l9 : Int))), some (aI ((S 12 (((60 * p) + l9)))))]) rfl ?_
                obtain ⟨h14, hw⟩ := hw
                refine aIinc1 (pc' := 227) dX10_alone_224 rfl (by decide) h14 rfl (L' := [some (aO 40 0), some (aI ((p : Int))), some (aI r), some (aI l3), some (aI ((l4 + 1))), some (aI ((((l5 + 1) : Nat) : Int))), some (aI ((l6 + (S 12 (((60 * p) + l9)))))), some (aI ((l7 + (S 12 (((60 * p) + l9)))))), some (aI ((l8 : Int))), some (aI ((((l9 + 1) : Nat) : Int))), some (aI ((S 12 (((60 * p) + l9)))))]) rfl ?_
                refine aGoto (pc' := 40) dX10_alone_227 (by decide) ?_
                exact aDrop [10] (L' := [some (aO 40 0), some (aI ((p : Int))), some (aI r), some (aI l3), some (aI ((l4 + 1))), some (aI ((((l5 + 1) : Nat) : Int))), some (aI ((l6 + (S 12 (((60 * p) + l9)))))), some (aI ((l7 + (S 12 (((60 * p) + l9)))))), some (aI ((l8 : Int))), some (aI ((((l9 + 1) : Nat) : Int))), none]) rfl hw
              · have hw := hw.2 hc
                refine aIconst (pc' := 197) ⟨by decide, by decide⟩ dX10_alone_196 rfl ?_
                exact cIret dX10_alone_197 okX10_alone rfl ⟨rfl, _, rfl, _, rfl, hw⟩
            · have hw := hw.2 hc
              refine aIload (pc' := 160) dX10_alone_158 rfl rfl ?_
              refine aIload (pc' := 162) dX10_alone_160 rfl rfl ?_
              refine aIcmp_le (tgt := 187) (pc' := 165) dX10_alone_162 (by decide) rfl (fun hc => ?_) (fun hc => ?_)
              · have hw := hw.1 hc
                refine aIload (pc' := 189) dX10_alone_187 rfl rfl ?_
                refine aIload (pc' := 191) dX10_alone_189 rfl rfl ?_
                obtain ⟨h15, hw⟩ := hw
                refine aIadd (pc' := 192) h15.1 h15.2 dX10_alone_191 rfl ?_
                refine aIload_n (pc' := 193) dX10_alone_192 rfl rfl ?_
                refine aIcmp_le (tgt := 198) (pc' := 196) dX10_alone_193 (by decide) rfl (fun hc => ?_) (fun hc => ?_)
                · have hw := hw.1 hc
                  refine aAload_n (pc' := 199) dX10_alone_198 rfl rfl ?_
                  refine aGetR (pc' := 202) (q := (56, 0)) dX10_alone_199 fX10_51 rfl rfl (lv (by decide)) rfl rfl ?_
                  refine aIload (pc' := 204) dX10_alone_202 rfl rfl ?_
                  refine aIload (pc' := 206) dX10_alone_204 rfl rfl ?_
                  obtain ⟨h16, hw⟩ := hw
                  refine aIast (pc' := 207) (j := l5) dX10_alone_206 rfl (lv (by decide)) rfl h16 rfl (cEqI (mA (f := 16) rfl rfl rfl) ?_)
                  obtain ⟨h17, hw⟩ := hw
                  refine aIinc1 (pc' := 210) dX10_alone_207 rfl (by decide) h17 rfl (L' := [some (aO 40 0), some (aI ((p : Int))), some (aI r), some (aI l3), some (aI ((l4 + 1))), some (aI ((((l5 + 1) : Nat) : Int))), some (aI l6), some (aI l7), some (aI ((l8 : Int))), some (aI ((l9 : Int))), some (aI ((S 12 (((60 * p) + l9)))))]) rfl ?_
                  refine aIload (pc' := 212) dX10_alone_210 rfl rfl ?_
                  refine aIload (pc' := 214) dX10_alone_212 rfl rfl ?_
                  obtain ⟨h18, hw⟩ := hw
                  refine aIadd (pc' := 215) h18.1 h18.2 dX10_alone_214 rfl ?_
                  refine aIstore (pc' := 217) dX10_alone_215 (by decide) rfl (L' := [some (aO 40 0), some (aI ((p : Int))), some (aI r), some (aI l3), some (aI ((l4 + 1))), some (aI ((((l5 + 1) : Nat) : Int))), some (aI ((l6 + (S 12 (((60 * p) + l9)))))), some (aI l7), some (aI ((l8 : Int))), some (aI ((l9 : Int))), some (aI ((S 12 (((60 * p) + l9)))))]) rfl ?_
                  refine aIload (pc' := 219) dX10_alone_217 rfl rfl ?_
                  refine aIload (pc' := 221) dX10_alone_219 rfl rfl ?_
                  obtain ⟨h19, hw⟩ := hw
                  refine aIadd (pc' := 222) h19.1 h19.2 dX10_alone_221 rfl ?_
                  refine aIstore (pc' := 224) dX10_alone_222 (by decide) rfl (L' := [some (aO 40 0), some (aI ((p : Int))), some (aI r), some (aI l3), some (aI ((l4 + 1))), some (aI ((((l5 + 1) : Nat) : Int))), some (aI ((l6 + (S 12 (((60 * p) + l9)))))), some (aI ((l7 + (S 12 (((60 * p) + l9)))))), some (aI ((l8 : Int))), some (aI ((l9 : Int))), some (aI ((S 12 (((60 * p) + l9)))))]) rfl ?_
                  obtain ⟨h20, hw⟩ := hw
                  refine aIinc1 (pc' := 227) dX10_alone_224 rfl (by decide) h20 rfl (L' := [some (aO 40 0), some (aI ((p : Int))), some (aI r), some (aI l3), some (aI ((l4 + 1))), some (aI ((((l5 + 1) : Nat) : Int))), some (aI ((l6 + (S 12 (((60 * p) + l9)))))), some (aI ((l7 + (S 12 (((60 * p) + l9)))))), some (aI ((l8 : Int))), some (aI ((((l9 + 1) : Nat) : Int))), some (aI ((S 12 (((60 * p) + l9)))))]) rfl ?_
                  refine aGoto (pc' := 40) dX10_alone_227 (by decide) ?_
                  exact aDrop [10] (L' := [some (aO 40 0), some (aI ((p : Int))), some (aI r), some (aI l3), some (aI ((l4 + 1))), some (aI ((((l5 + 1) : Nat) : Int))), some (aI ((l6 + (S 12 (((60 * p) + l9)))))), some (aI ((l7 + (S 12 (((60 * p) + l9)))))), some (aI ((l8 : Int))), some (aI ((((l9 + 1) : Nat) : Int))), none]) rfl hw
                · have hw := hw.2 hc
                  refine aIconst (pc' := 197) ⟨by decide, by decide⟩ dX10_alone_196 rfl ?_
                  exact cIret dX10_alone_197 okX10_alone rfl ⟨rfl, _, rfl, _, rfl, hw⟩
              · have hw := hw.2 hc
                refine aIload (pc' := 167) dX10_alone_165 rfl rfl ?_
                refine aAload_n (pc' := 168) dX10_alone_167 rfl rfl ?_
                refine aGetR (pc' := 171) (q := (53, 0)) dX10_alone_168 fX10_42 rfl rfl (lv (by decide)) rfl rfl ?_
                refine aIload_n (pc' := 172) dX10_alone_171 rfl rfl ?_
                refine aIald (pc' := 173) (j := p) dX10_alone_172 rfl (lv (by decide)) rfl h1 rfl ?_
                refine aTopEq (y := (S 13 p)) rfl ?_
                refine aIload (pc' := 175) dX10_alone_173 rfl rfl ?_
                refine aIload (pc' := 177) dX10_alone_175 rfl rfl ?_
                refine cSI (pc' := 180) [aI ((S 13 p)), aI l6, aI l7] dX10_alone_177 lX10_164 okX10_cost ⟨by decide, by decide⟩ npX10_cost rfl rfl rfl (cMetI_mono hw (fun x21 J23 hw => ?_))
                obtain ⟨S22, rfl, hw⟩ := hw
                obtain ⟨h24, hw⟩ := hw
                refine aIadd (pc' := 181) h24.1 h24.2 dX10_alone_180 rfl ?_
                refine aIstore (pc' := 183) dX10_alone_181 (by decide) rfl (L' := [some (aO 40 0), some (aI ((p : Int))), some (aI r), some (aI l3), some (aI (((l4 + 1) + x21))), some (aI ((l5 : Int))), some (aI l6), some (aI l7), some (aI ((l8 : Int))), some (aI ((l9 : Int))), some (aI ((S 12 (((60 * p) + l9)))))]) rfl ?_
                refine aIload (pc' := 185) dX10_alone_183 rfl rfl ?_
                refine aIstore (pc' := 187) dX10_alone_185 (by decide) rfl (L' := [some (aO 40 0), some (aI ((p : Int))), some (aI r), some (aI l3), some (aI (((l4 + 1) + x21))), some (aI ((l5 : Int))), some (aI l6), some (aI l6), some (aI ((l8 : Int))), some (aI ((l9 : Int))), some (aI ((S 12 (((60 * p) + l9)))))]) rfl ?_
                refine aIload (pc' := 189) dX10_alone_187 rfl rfl ?_
                refine aIload (pc' := 191) dX10_alone_189 rfl rfl ?_
                obtain ⟨h25, hw⟩ := hw
                refine aIadd (pc' := 192) h25.1 h25.2 dX10_alone_191 rfl ?_
                refine aIload_n (pc' := 193) dX10_alone_192 rfl rfl ?_
                refine aIcmp_le (tgt := 198) (pc' := 196) dX10_alone_193 (by decide) rfl (fun hc => ?_) (fun hc => ?_)
                · have hw := hw.1 hc
                  refine aAload_n (pc' := 199) dX10_alone_198 rfl rfl ?_
                  refine aGetR (pc' := 202) (q := (56, 0)) dX10_alone_199 fX10_51 rfl rfl (lv (by decide)) rfl rfl ?_
                  refine aIload (pc' := 204) dX10_alone_202 rfl rfl ?_
                  refine aIload (pc' := 206) dX10_alone_204 rfl rfl ?_
                  obtain ⟨h26, hw⟩ := hw
                  refine aIast (pc' := 207) (j := l5) dX10_alone_206 rfl (lv (by decide)) rfl h26 rfl (cEqI (mA (f := 16) rfl rfl rfl) ?_)
                  obtain ⟨h27, hw⟩ := hw
                  refine aIinc1 (pc' := 210) dX10_alone_207 rfl (by decide) h27 rfl (L' := [some (aO 40 0), some (aI ((p : Int))), some (aI r), some (aI l3), some (aI (((l4 + 1) + x21))), some (aI ((((l5 + 1) : Nat) : Int))), some (aI l6), some (aI l6), some (aI ((l8 : Int))), some (aI ((l9 : Int))), some (aI ((S 12 (((60 * p) + l9)))))]) rfl ?_
                  refine aIload (pc' := 212) dX10_alone_210 rfl rfl ?_
                  refine aIload (pc' := 214) dX10_alone_212 rfl rfl ?_
                  obtain ⟨h28, hw⟩ := hw
                  refine aIadd (pc' := 215) h28.1 h28.2 dX10_alone_214 rfl ?_
                  refine aIstore (pc' := 217) dX10_alone_215 (by decide) rfl (L' := [some (aO 40 0), some (aI ((p : Int))), some (aI r), some (aI l3), some (aI (((l4 + 1) + x21))), some (aI ((((l5 + 1) : Nat) : Int))), some (aI ((l6 + (S 12 (((60 * p) + l9)))))), some (aI l6), some (aI ((l8 : Int))), some (aI ((l9 : Int))), some (aI ((S 12 (((60 * p) + l9)))))]) rfl ?_
                  refine aIload (pc' := 219) dX10_alone_217 rfl rfl ?_
                  refine aIload (pc' := 221) dX10_alone_219 rfl rfl ?_
                  obtain ⟨h29, hw⟩ := hw
                  refine aIadd (pc' := 222) h29.1 h29.2 dX10_alone_221 rfl ?_
                  refine aIstore (pc' := 224) dX10_alone_222 (by decide) rfl (L' := [some (aO 40 0), some (aI ((p : Int))), some (aI r), some (aI l3), some (aI (((l4 + 1) + x21))), some (aI ((((l5 + 1) : Nat) : Int))), some (aI ((l6 + (S 12 (((60 * p) + l9)))))), some (aI ((l6 + (S 12 (((60 * p) + l9)))))), some (aI ((l8 : Int))), some (aI ((l9 : Int))), some (aI ((S 12 (((60 * p) + l9)))))]) rfl ?_
                  obtain ⟨h30, hw⟩ := hw
                  refine aIinc1 (pc' := 227) dX10_alone_224 rfl (by decide) h30 rfl (L' := [some (aO 40 0), some (aI ((p : Int))), some (aI r), some (aI l3), some (aI (((l4 + 1) + x21))), some (aI ((((l5 + 1) : Nat) : Int))), some (aI ((l6 + (S 12 (((60 * p) + l9)))))), some (aI ((l6 + (S 12 (((60 * p) + l9)))))), some (aI ((l8 : Int))), some (aI ((((l9 + 1) : Nat) : Int))), some (aI ((S 12 (((60 * p) + l9)))))]) rfl ?_
                  refine aGoto (pc' := 40) dX10_alone_227 (by decide) ?_
                  exact aDrop [10] (L' := [some (aO 40 0), some (aI ((p : Int))), some (aI r), some (aI l3), some (aI (((l4 + 1) + x21))), some (aI ((((l5 + 1) : Nat) : Int))), some (aI ((l6 + (S 12 (((60 * p) + l9)))))), some (aI ((l6 + (S 12 (((60 * p) + l9)))))), some (aI ((l8 : Int))), some (aI ((((l9 + 1) : Nat) : Int))), none]) rfl hw
                · have hw := hw.2 hc
                  refine aIconst (pc' := 197) ⟨by decide, by decide⟩ dX10_alone_196 rfl ?_
                  exact cIret dX10_alone_197 okX10_alone rfl ⟨rfl, _, rfl, _, rfl, hw⟩
          · have hw := hw.2 hc
            refine aIload (pc' := 111) dX10_alone_109 rfl rfl ?_
            refine aIload (pc' := 113) dX10_alone_111 rfl rfl ?_
            obtain ⟨h31, hw⟩ := hw
            refine aIadd (pc' := 114) h31.1 h31.2 dX10_alone_113 rfl ?_
            refine aIf_ge (tgt := 120) (pc' := 117) dX10_alone_114 (by decide) rfl (fun hc => ?_) (fun hc => ?_)
            · have hw := hw.1 hc
              refine aIload (pc' := 122) dX10_alone_120 rfl rfl ?_
              refine aAload_n (pc' := 123) dX10_alone_122 rfl rfl ?_
              refine aGetR (pc' := 126) (q := (56, 0)) dX10_alone_123 fX10_51 rfl rfl (lv (by decide)) rfl rfl ?_
              refine aIload (pc' := 128) dX10_alone_126 rfl rfl ?_
              refine aIload (pc' := 130) dX10_alone_128 rfl rfl ?_
              obtain ⟨h32, hw⟩ := hw
              refine aIadd (pc' := 131) h32.1 h32.2 dX10_alone_130 rfl ?_
              obtain ⟨h33, hw⟩ := hw
              refine aIald (pc' := 132) (j := (((l5 : Int) + (S 12 (((60 * p) + l9))))).toNat) dX10_alone_131 rfl (lv (by decide)) (tnIx h33).1 (tnIx h33).2 rfl ?_
              refine aTopEq (y := (S 16 ((((l5 : Int) + (S 12 (((60 * p) + l9))))).toNat))) rfl ?_
              obtain ⟨h34, hw⟩ := hw
              refine aIsub (pc' := 133) h34.1 h34.2 dX10_alone_132 rfl ?_
              refine aIstore (pc' := 135) dX10_alone_133 (by decide) rfl (L' := [some (aO 40 0), some (aI ((p : Int))), some (aI r), some (aI l3), some (aI ((l4 + 1))), some (aI ((l5 : Int))), some (aI ((l6 - (S 16 ((((l5 : Int) + (S 12 (((60 * p) + l9))))).toNat))))), some (aI l7), some (aI ((l8 : Int))), some (aI ((l9 : Int))), some (aI ((S 12 (((60 * p) + l9)))))]) rfl ?_
              refine aAload_n (pc' := 136) dX10_alone_135 rfl rfl ?_
              refine aGetR (pc' := 139) (q := (56, 0)) dX10_alone_136 fX10_51 rfl rfl (lv (by decide)) rfl rfl ?_
              refine aIload (pc' := 141) dX10_alone_139 rfl rfl ?_
              refine aIload (pc' := 143) dX10_alone_141 rfl rfl ?_
              obtain ⟨h35, hw⟩ := hw
              refine aIadd (pc' := 144) h35.1 h35.2 dX10_alone_143 rfl ?_
              refine aIconst (pc' := 145) ⟨by decide, by decide⟩ dX10_alone_144 rfl ?_
              refine aIast (pc' := 146) (j := (((l5 : Int) + (S 12 (((60 * p) + l9))))).toNat) dX10_alone_145 rfl (lv (by decide)) (tnIx h33).1 (tnIx h33).2 rfl (cEqI (mA (f := 16) rfl rfl rfl) ?_)
              refine aGoto (pc' := 224) dX10_alone_146 (by decide) ?_
              obtain ⟨h36, hw⟩ := hw
              refine aIinc1 (pc' := 227) dX10_alone_224 rfl (by decide) h36 rfl (L' := [some (aO 40 0), some (aI ((p : Int))), some (aI r), some (aI l3), some (aI ((l4 + 1))), some (aI ((l5 : Int))), some (aI ((l6 - (S 16 ((((l5 : Int) + (S 12 (((60 * p) + l9))))).toNat))))), some (aI l7), some (aI ((l8 : Int))), some (aI ((((l9 + 1) : Nat) : Int))), some (aI ((S 12 (((60 * p) + l9)))))]) rfl ?_
              refine aGoto (pc' := 40) dX10_alone_227 (by decide) ?_
              exact aDrop [10] (L' := [some (aO 40 0), some (aI ((p : Int))), some (aI r), some (aI l3), some (aI ((l4 + 1))), some (aI ((l5 : Int))), some (aI ((l6 - (S 16 ((((l5 : Int) + (S 12 (((60 * p) + l9))))).toNat))))), some (aI l7), some (aI ((l8 : Int))), some (aI ((((l9 + 1) : Nat) : Int))), none]) rfl hw
            · have hw := hw.2 hc
              refine aGoto (pc' := 224) dX10_alone_117 (by decide) ?_
              obtain ⟨h37, hw⟩ := hw
              refine aIinc1 (pc' := 227) dX10_alone_224 rfl (by decide) h37 rfl (L' := [some (aO 40 0), some (aI ((p : Int))), some (aI r), some (aI l3), some (aI ((l4 + 1))), some (aI ((l5 : Int))), some (aI l6), some (aI l7), some (aI ((l8 : Int))), some (aI ((((l9 + 1) : Nat) : Int))), some (aI ((S 12 (((60 * p) + l9)))))]) rfl ?_
              refine aGoto (pc' := 40) dX10_alone_227 (by decide) ?_
              exact aDrop [10] (L' := [some (aO 40 0), some (aI ((p : Int))), some (aI r), some (aI l3), some (aI ((l4 + 1))), some (aI ((l5 : Int))), some (aI l6), some (aI l7), some (aI ((l8 : Int))), some (aI ((((l9 + 1) : Nat) : Int))), none]) rfl hw
        · have hw := hw.2 hc
          refine aGoto (pc' := 224) dX10_alone_101 (by decide) ?_
          obtain ⟨h38, hw⟩ := hw
          refine aIinc1 (pc' := 227) dX10_alone_224 rfl (by decide) h38 rfl (L' := [some (aO 40 0), some (aI ((p : Int))), some (aI r), some (aI l3), some (aI ((l4 + 1))), some (aI ((l5 : Int))), some (aI l6), some (aI l7), some (aI ((l8 : Int))), some (aI ((((l9 + 1) : Nat) : Int))), some (aI ((S 12 (((60 * p) + l9)))))]) rfl ?_
          refine aGoto (pc' := 40) dX10_alone_227 (by decide) ?_
          exact aDrop [10] (L' := [some (aO 40 0), some (aI ((p : Int))), some (aI r), some (aI l3), some (aI ((l4 + 1))), some (aI ((l5 : Int))), some (aI l6), some (aI l7), some (aI ((l8 : Int))), some (aI ((((l9 + 1) : Nat) : Int))), none]) rfl hw
    · have hw := hw.2 hc
      refine aIload (pc' := 77) dX10_alone_75 rfl rfl ?_
      refine aSipush (pc' := 80) ⟨by decide, by decide⟩ dX10_alone_77 rfl ?_
      obtain ⟨h39, hw⟩ := hw
      refine aIsub (pc' := 81) h39.1 h39.2 dX10_alone_80 rfl ?_
      refine aGoto (pc' := 85) dX10_alone_81 (by decide) ?_
      obtain ⟨h40, hw⟩ := hw
      refine aIadd (pc' := 86) h40.1 h40.2 dX10_alone_85 rfl ?_
      refine aIstore (pc' := 88) dX10_alone_86 (by decide) rfl (L' := [some (aO 40 0), some (aI ((p : Int))), some (aI r), some (aI l3), some (aI ((l4 + ((S 12 (((60 * p) + l9))) - 1000)))), some (aI ((l5 : Int))), some (aI l6), some (aI l7), some (aI ((l8 : Int))), some (aI ((l9 : Int))), some (aI ((S 12 (((60 * p) + l9)))))]) rfl ?_
      refine aIload (pc' := 90) dX10_alone_88 rfl rfl ?_
      refine aSipush (pc' := 93) ⟨by decide, by decide⟩ dX10_alone_90 rfl ?_
      refine aIcmp_gt (tgt := 224) (pc' := 96) dX10_alone_93 (by decide) rfl (fun hc => ?_) (fun hc => ?_)
      · have hw := hw.1 hc
        obtain ⟨h41, hw⟩ := hw
        refine aIinc1 (pc' := 227) dX10_alone_224 rfl (by decide) h41 rfl (L' := [some (aO 40 0), some (aI ((p : Int))), some (aI r), some (aI l3), some (aI ((l4 + ((S 12 (((60 * p) + l9))) - 1000)))), some (aI ((l5 : Int))), some (aI l6), some (aI l7), some (aI ((l8 : Int))), some (aI ((((l9 + 1) : Nat) : Int))), some (aI ((S 12 (((60 * p) + l9)))))]) rfl ?_
        refine aGoto (pc' := 40) dX10_alone_227 (by decide) ?_
        exact aDrop [10] (L' := [some (aO 40 0), some (aI ((p : Int))), some (aI r), some (aI l3), some (aI ((l4 + ((S 12 (((60 * p) + l9))) - 1000)))), some (aI ((l5 : Int))), some (aI l6), some (aI l7), some (aI ((l8 : Int))), some (aI ((((l9 + 1) : Nat) : Int))), none]) rfl hw
      · have hw := hw.2 hc
        refine aIload (pc' := 98) dX10_alone_96 rfl rfl ?_
        refine aIf_ne (tgt := 104) (pc' := 101) dX10_alone_98 (by decide) rfl (fun hc => ?_) (fun hc => ?_)
        · have hw := hw.1 hc
          refine aIload (pc' := 106) dX10_alone_104 rfl rfl ?_
          refine aIf_ge (tgt := 149) (pc' := 109) dX10_alone_106 (by decide) rfl (fun hc => ?_) (fun hc => ?_)
          · have hw := hw.1 hc
            refine aIload (pc' := 151) dX10_alone_149 rfl rfl ?_
            refine aIload (pc' := 153) dX10_alone_151 rfl rfl ?_
            obtain ⟨h42, hw⟩ := hw
            refine aIadd (pc' := 154) h42.1 h42.2 dX10_alone_153 rfl ?_
            refine aIload_n (pc' := 155) dX10_alone_154 rfl rfl ?_
            refine aIcmp_le (tgt := 187) (pc' := 158) dX10_alone_155 (by decide) rfl (fun hc => ?_) (fun hc => ?_)
            · have hw := hw.1 hc
              refine aIload (pc' := 189) dX10_alone_187 rfl rfl ?_
              refine aIload (pc' := 191) dX10_alone_189 rfl rfl ?_
              obtain ⟨h43, hw⟩ := hw
              refine aIadd (pc' := 192) h43.1 h43.2 dX10_alone_191 rfl ?_
              refine aIload_n (pc' := 193) dX10_alone_192 rfl rfl ?_
              refine aIcmp_le (tgt := 198) (pc' := 196) dX10_alone_193 (by decide) rfl (fun hc => ?_) (fun hc => ?_)
              · have hw := hw.1 hc
                refine aAload_n (pc' := 199) dX10_alone_198 rfl rfl ?_
                refine aGetR (pc' := 202) (q := (56, 0)) dX10_alone_199 fX10_51 rfl rfl (lv (by decide)) rfl rfl ?_
                refine aIload (pc' := 204) dX10_alone_202 rfl rfl ?_
                refine aIload (pc' := 206) dX10_alone_204 rfl rfl ?_
                obtain ⟨h44, hw⟩ := hw
                refine aIast (pc' := 207) (j := l5) dX10_alone_206 rfl (lv (by decide)) rfl h44 rfl (cEqI (mA (f := 16) rfl rfl rfl) ?_)
                obtain ⟨h45, hw⟩ := hw
                refine aIinc1 (pc' := 210) dX10_alone_207 rfl (by decide) h45 rfl (L' := [some (aO 40 0), some (aI ((p : Int))), some (aI r), some (aI l3), some (aI ((l4 + ((S 12 (((60 * p) + l9))) - 1000)))), some (aI ((((l5 + 1) : Nat) : Int))), some (aI l6), some (aI l7), some (aI ((l8 : Int))), some (aI ((l9 : Int))), some (aI ((S 12 (((60 * p) + l9)))))]) rfl ?_
                refine aIload (pc' := 212) dX10_alone_210 rfl rfl ?_
                refine aIload (pc' := 214) dX10_alone_212 rfl rfl ?_
                obtain ⟨h46, hw⟩ := hw
                refine aIadd (pc' := 215) h46.1 h46.2 dX10_alone_214 rfl ?_
                refine aIstore (pc' := 217) dX10_alone_215 (by decide) rfl (L' := [some (aO 40 0), some (aI ((p : Int))), some (aI r), some (aI l3), some (aI ((l4 + ((S 12 (((60 * p) + l9))) - 1000)))), some (aI ((((l5 + 1) : Nat) : Int))), some (aI ((l6 + (S 12 (((60 * p) + l9)))))), some (aI l7), some (aI ((l8 : Int))), some (aI ((l9 : Int))), some (aI ((S 12 (((60 * p) + l9)))))]) rfl ?_
                refine aIload (pc' := 219) dX10_alone_217 rfl rfl ?_
                refine aIload (pc' := 221) dX10_alone_219 rfl rfl ?_
                obtain ⟨h47, hw⟩ := hw
                refine aIadd (pc' := 222) h47.1 h47.2 dX10_alone_221 rfl ?_
                refine aIstore (pc' := 224) dX10_alone_222 (by decide) rfl (L' := [some (aO 40 0), some (aI ((p : Int))), some (aI r), some (aI l3), some (aI ((l4 + ((S 12 (((60 * p) + l9))) - 1000)))), some (aI ((((l5 + 1) : Nat) : Int))), some (aI ((l6 + (S 12 (((60 * p) + l9)))))), some (aI ((l7 + (S 12 (((60 * p) + l9)))))), some (aI ((l8 : Int))), some (aI ((l9 : Int))), some (aI ((S 12 (((60 * p) + l9)))))]) rfl ?_
                obtain ⟨h48, hw⟩ := hw
                refine aIinc1 (pc' := 227) dX10_alone_224 rfl (by decide) h48 rfl (L' := [some (aO 40 0), some (aI ((p : Int))), some (aI r), some (aI l3), some (aI ((l4 + ((S 12 (((60 * p) + l9))) - 1000)))), some (aI ((((l5 + 1) : Nat) : Int))), some (aI ((l6 + (S 12 (((60 * p) + l9)))))), some (aI ((l7 + (S 12 (((60 * p) + l9)))))), some (aI ((l8 : Int))), some (aI ((((l9 + 1) : Nat) : Int))), some (aI ((S 12 (((60 * p) + l9)))))]) rfl ?_
                refine aGoto (pc' := 40) dX10_alone_227 (by decide) ?_
                exact aDrop [10] (L' := [some (aO 40 0), some (aI ((p : Int))), some (aI r), some (aI l3), some (aI ((l4 + ((S 12 (((60 * p) + l9))) - 1000)))), some (aI ((((l5 + 1) : Nat) : Int))), some (aI ((l6 + (S 12 (((60 * p) + l9)))))), some (aI ((l7 + (S 12 (((60 * p) + l9)))))), some (aI ((l8 : Int))), some (aI ((((l9 + 1) : Nat) : Int))), none]) rfl hw
              · have hw := hw.2 hc
                refine aIconst (pc' := 197) ⟨by decide, by decide⟩ dX10_alone_196 rfl ?_
                exact cIret dX10_alone_197 okX10_alone rfl ⟨rfl, _, rfl, _, rfl, hw⟩
            · have hw := hw.2 hc
              refine aIload (pc' := 160) dX10_alone_158 rfl rfl ?_
              refine aIload (pc' := 162) dX10_alone_160 rfl rfl ?_
              refine aIcmp_le (tgt := 187) (pc' := 165) dX10_alone_162 (by decide) rfl (fun hc => ?_) (fun hc => ?_)
              · have hw := hw.1 hc
                refine aIload (pc' := 189) dX10_alone_187 rfl rfl ?_
                refine aIload (pc' := 191) dX10_alone_189 rfl rfl ?_
                obtain ⟨h49, hw⟩ := hw
                refine aIadd (pc' := 192) h49.1 h49.2 dX10_alone_191 rfl ?_
                refine aIload_n (pc' := 193) dX10_alone_192 rfl rfl ?_
                refine aIcmp_le (tgt := 198) (pc' := 196) dX10_alone_193 (by decide) rfl (fun hc => ?_) (fun hc => ?_)
                · have hw := hw.1 hc
                  refine aAload_n (pc' := 199) dX10_alone_198 rfl rfl ?_
                  refine aGetR (pc' := 202) (q := (56, 0)) dX10_alone_199 fX10_51 rfl rfl (lv (by decide)) rfl rfl ?_
                  refine aIload (pc' := 204) dX10_alone_202 rfl rfl ?_
                  refine aIload (pc' := 206) dX10_alone_204 rfl rfl ?_
                  obtain ⟨h50, hw⟩ := hw
                  refine aIast (pc' := 207) (j := l5) dX10_alone_206 rfl (lv (by decide)) rfl h50 rfl (cEqI (mA (f := 16) rfl rfl rfl) ?_)
                  obtain ⟨h51, hw⟩ := hw
                  refine aIinc1 (pc' := 210) dX10_alone_207 rfl (by decide) h51 rfl (L' := [some (aO 40 0), some (aI ((p : Int))), some (aI r), some (aI l3), some (aI ((l4 + ((S 12 (((60 * p) + l9))) - 1000)))), some (aI ((((l5 + 1) : Nat) : Int))), some (aI l6), some (aI l7), some (aI ((l8 : Int))), some (aI ((l9 : Int))), some (aI ((S 12 (((60 * p) + l9)))))]) rfl ?_
                  refine aIload (pc' := 212) dX10_alone_210 rfl rfl ?_
                  refine aIload (pc' := 214) dX10_alone_212 rfl rfl ?_
                  obtain ⟨h52, hw⟩ := hw
                  refine aIadd (pc' := 215) h52.1 h52.2 dX10_alone_214 rfl ?_
                  refine aIstore (pc' := 217) dX10_alone_215 (by decide) rfl (L' := [some (aO 40 0), some (aI ((p : Int))), some (aI r), some (aI l3), some (aI ((l4 + ((S 12 (((60 * p) + l9))) - 1000)))), some (aI ((((l5 + 1) : Nat) : Int))), some (aI ((l6 + (S 12 (((60 * p) + l9)))))), some (aI l7), some (aI ((l8 : Int))), some (aI ((l9 : Int))), some (aI ((S 12 (((60 * p) + l9)))))]) rfl ?_
                  refine aIload (pc' := 219) dX10_alone_217 rfl rfl ?_
                  refine aIload (pc' := 221) dX10_alone_219 rfl rfl ?_
                  obtain ⟨h53, hw⟩ := hw
                  refine aIadd (pc' := 222) h53.1 h53.2 dX10_alone_221 rfl ?_
                  refine aIstore (pc' := 224) dX10_alone_222 (by decide) rfl (L' := [some (aO 40 0), some (aI ((p : Int))), some (aI r), some (aI l3), some (aI ((l4 + ((S 12 (((60 * p) + l9))) - 1000)))), some (aI ((((l5 + 1) : Nat) : Int))), some (aI ((l6 + (S 12 (((60 * p) + l9)))))), some (aI ((l7 + (S 12 (((60 * p) + l9)))))), some (aI ((l8 : Int))), some (aI ((l9 : Int))), some (aI ((S 12 (((60 * p) + l9)))))]) rfl ?_
                  obtain ⟨h54, hw⟩ := hw
                  refine aIinc1 (pc' := 227) dX10_alone_224 rfl (by decide) h54 rfl (L' := [some (aO 40 0), some (aI ((p : Int))), some (aI r), some (aI l3), some (aI ((l4 + ((S 12 (((60 * p) + l9))) - 1000)))), some (aI ((((l5 + 1) : Nat) : Int))), some (aI ((l6 + (S 12 (((60 * p) + l9)))))), some (aI ((l7 + (S 12 (((60 * p) + l9)))))), some (aI ((l8 : Int))), some (aI ((((l9 + 1) : Nat) : Int))), some (aI ((S 12 (((60 * p) + l9)))))]) rfl ?_
                  refine aGoto (pc' := 40) dX10_alone_227 (by decide) ?_
                  exact aDrop [10] (L' := [some (aO 40 0), some (aI ((p : Int))), some (aI r), some (aI l3), some (aI ((l4 + ((S 12 (((60 * p) + l9))) - 1000)))), some (aI ((((l5 + 1) : Nat) : Int))), some (aI ((l6 + (S 12 (((60 * p) + l9)))))), some (aI ((l7 + (S 12 (((60 * p) + l9)))))), some (aI ((l8 : Int))), some (aI ((((l9 + 1) : Nat) : Int))), none]) rfl hw
                · have hw := hw.2 hc
                  refine aIconst (pc' := 197) ⟨by decide, by decide⟩ dX10_alone_196 rfl ?_
                  exact cIret dX10_alone_197 okX10_alone rfl ⟨rfl, _, rfl, _, rfl, hw⟩
              · have hw := hw.2 hc
                refine aIload (pc' := 167) dX10_alone_165 rfl rfl ?_
                refine aAload_n (pc' := 168) dX10_alone_167 rfl rfl ?_
                refine aGetR (pc' := 171) (q := (53, 0)) dX10_alone_168 fX10_42 rfl rfl (lv (by decide)) rfl rfl ?_
                refine aIload_n (pc' := 172) dX10_alone_171 rfl rfl ?_
                refine aIald (pc' := 173) (j := p) dX10_alone_172 rfl (lv (by decide)) rfl h1 rfl ?_
                refine aTopEq (y := (S 13 p)) rfl ?_
                refine aIload (pc' := 175) dX10_alone_173 rfl rfl ?_
                refine aIload (pc' := 177) dX10_alone_175 rfl rfl ?_
                refine cSI (pc' := 180) [aI ((S 13 p)), aI l6, aI l7] dX10_alone_177 lX10_164 okX10_cost ⟨by decide, by decide⟩ npX10_cost rfl rfl rfl (cMetI_mono hw (fun x55 J57 hw => ?_))
                obtain ⟨S56, rfl, hw⟩ := hw
                obtain ⟨h58, hw⟩ := hw
                refine aIadd (pc' := 181) h58.1 h58.2 dX10_alone_180 rfl ?_
                refine aIstore (pc' := 183) dX10_alone_181 (by decide) rfl (L' := [some (aO 40 0), some (aI ((p : Int))), some (aI r), some (aI l3), some (aI (((l4 + ((S 12 (((60 * p) + l9))) - 1000)) + x55))), some (aI ((l5 : Int))), some (aI l6), some (aI l7), some (aI ((l8 : Int))), some (aI ((l9 : Int))), some (aI ((S 12 (((60 * p) + l9)))))]) rfl ?_
                refine aIload (pc' := 185) dX10_alone_183 rfl rfl ?_
                refine aIstore (pc' := 187) dX10_alone_185 (by decide) rfl (L' := [some (aO 40 0), some (aI ((p : Int))), some (aI r), some (aI l3), some (aI (((l4 + ((S 12 (((60 * p) + l9))) - 1000)) + x55))), some (aI ((l5 : Int))), some (aI l6), some (aI l6), some (aI ((l8 : Int))), some (aI ((l9 : Int))), some (aI ((S 12 (((60 * p) + l9)))))]) rfl ?_
                refine aIload (pc' := 189) dX10_alone_187 rfl rfl ?_
                refine aIload (pc' := 191) dX10_alone_189 rfl rfl ?_
                obtain ⟨h59, hw⟩ := hw
                refine aIadd (pc' := 192) h59.1 h59.2 dX10_alone_191 rfl ?_
                refine aIload_n (pc' := 193) dX10_alone_192 rfl rfl ?_
                refine aIcmp_le (tgt := 198) (pc' := 196) dX10_alone_193 (by decide) rfl (fun hc => ?_) (fun hc => ?_)
                · have hw := hw.1 hc
                  refine aAload_n (pc' := 199) dX10_alone_198 rfl rfl ?_
                  refine aGetR (pc' := 202) (q := (56, 0)) dX10_alone_199 fX10_51 rfl rfl (lv (by decide)) rfl rfl ?_
                  refine aIload (pc' := 204) dX10_alone_202 rfl rfl ?_
                  refine aIload (pc' := 206) dX10_alone_204 rfl rfl ?_
                  obtain ⟨h60, hw⟩ := hw
                  refine aIast (pc' := 207) (j := l5) dX10_alone_206 rfl (lv (by decide)) rfl h60 rfl (cEqI (mA (f := 16) rfl rfl rfl) ?_)
                  obtain ⟨h61, hw⟩ := hw
                  refine aIinc1 (pc' := 210) dX10_alone_207 rfl (by decide) h61 rfl (L' := [some (aO 40 0), some (aI ((p : Int))), some (aI r), some (aI l3), some (aI (((l4 + ((S 12 (((60 * p) + l9))) - 1000)) + x55))), some (aI ((((l5 + 1) : Nat) : Int))), some (aI l6), some (aI l6), some (aI ((l8 : Int))), some (aI ((l9 : Int))), some (aI ((S 12 (((60 * p) + l9)))))]) rfl ?_
                  refine aIload (pc' := 212) dX10_alone_210 rfl rfl ?_
                  refine aIload (pc' := 214) dX10_alone_212 rfl rfl ?_
                  obtain ⟨h62, hw⟩ := hw
                  refine aIadd (pc' := 215) h62.1 h62.2 dX10_alone_214 rfl ?_
                  refine aIstore (pc' := 217) dX10_alone_215 (by decide) rfl (L' := [some (aO 40 0), some (aI ((p : Int))), some (aI r), some (aI l3), some (aI (((l4 + ((S 12 (((60 * p) + l9))) - 1000)) + x55))), some (aI ((((l5 + 1) : Nat) : Int))), some (aI ((l6 + (S 12 (((60 * p) + l9)))))), some (aI l6), some (aI ((l8 : Int))), some (aI ((l9 : Int))), some (aI ((S 12 (((60 * p) + l9)))))]) rfl ?_
                  refine aIload (pc' := 219) dX10_alone_217 rfl rfl ?_
                  refine aIload (pc' := 221) dX10_alone_219 rfl rfl ?_
                  obtain ⟨h63, hw⟩ := hw
                  refine aIadd (pc' := 222) h63.1 h63.2 dX10_alone_221 rfl ?_
                  refine aIstore (pc' := 224) dX10_alone_222 (by decide) rfl (L' := [some (aO 40 0), some (aI ((p : Int))), some (aI r), some (aI l3), some (aI (((l4 + ((S 12 (((60 * p) + l9))) - 1000)) + x55))), some (aI ((((l5 + 1) : Nat) : Int))), some (aI ((l6 + (S 12 (((60 * p) + l9)))))), some (aI ((l6 + (S 12 (((60 * p) + l9)))))), some (aI ((l8 : Int))), some (aI ((l9 : Int))), some (aI ((S 12 (((60 * p) + l9)))))]) rfl ?_
                  obtain ⟨h64, hw⟩ := hw
                  refine aIinc1 (pc' := 227) dX10_alone_224 rfl (by decide) h64 rfl (L' := [some (aO 40 0), some (aI ((p : Int))), some (aI r), some (aI l3), some (aI (((l4 + ((S 12 (((60 * p) + l9))) - 1000)) + x55))), some (aI ((((l5 + 1) : Nat) : Int))), some (aI ((l6 + (S 12 (((60 * p) + l9)))))), some (aI ((l6 + (S 12 (((60 * p) + l9)))))), some (aI ((l8 : Int))), some (aI ((((l9 + 1) : Nat) : Int))), some (aI ((S 12 (((60 * p) + l9)))))]) rfl ?_
                  refine aGoto (pc' := 40) dX10_alone_227 (by decide) ?_
                  exact aDrop [10] (L' := [some (aO 40 0), some (aI ((p : Int))), some (aI r), some (aI l3), some (aI (((l4 + ((S 12 (((60 * p) + l9))) - 1000)) + x55))), some (aI ((((l5 + 1) : Nat) : Int))), some (aI ((l6 + (S 12 (((60 * p) + l9)))))), some (aI ((l6 + (S 12 (((60 * p) + l9)))))), some (aI ((l8 : Int))), some (aI ((((l9 + 1) : Nat) : Int))), none]) rfl hw
                · have hw := hw.2 hc
                  refine aIconst (pc' := 197) ⟨by decide, by decide⟩ dX10_alone_196 rfl ?_
                  exact cIret dX10_alone_197 okX10_alone rfl ⟨rfl, _, rfl, _, rfl, hw⟩
          · have hw := hw.2 hc
            refine aIload (pc' := 111) dX10_alone_109 rfl rfl ?_
            refine aIload (pc' := 113) dX10_alone_111 rfl rfl ?_
            obtain ⟨h65, hw⟩ := hw
            refine aIadd (pc' := 114) h65.1 h65.2 dX10_alone_113 rfl ?_
            refine aIf_ge (tgt := 120) (pc' := 117) dX10_alone_114 (by decide) rfl (fun hc => ?_) (fun hc => ?_)
            · have hw := hw.1 hc
              refine aIload (pc' := 122) dX10_alone_120 rfl rfl ?_
              refine aAload_n (pc' := 123) dX10_alone_122 rfl rfl ?_
              refine aGetR (pc' := 126) (q := (56, 0)) dX10_alone_123 fX10_51 rfl rfl (lv (by decide)) rfl rfl ?_
              refine aIload (pc' := 128) dX10_alone_126 rfl rfl ?_
              refine aIload (pc' := 130) dX10_alone_128 rfl rfl ?_
              obtain ⟨h66, hw⟩ := hw
              refine aIadd (pc' := 131) h66.1 h66.2 dX10_alone_130 rfl ?_
              obtain ⟨h67, hw⟩ := hw
              refine aIald (pc' := 132) (j := (((l5 : Int) + (S 12 (((60 * p) + l9))))).toNat) dX10_alone_131 rfl (lv (by decide)) (tnIx h67).1 (tnIx h67).2 rfl ?_
              refine aTopEq (y := (S 16 ((((l5 : Int) + (S 12 (((60 * p) + l9))))).toNat))) rfl ?_
              obtain ⟨h68, hw⟩ := hw
              refine aIsub (pc' := 133) h68.1 h68.2 dX10_alone_132 rfl ?_
              refine aIstore (pc' := 135) dX10_alone_133 (by decide) rfl (L' := [some (aO 40 0), some (aI ((p : Int))), some (aI r), some (aI l3), some (aI ((l4 + ((S 12 (((60 * p) + l9))) - 1000)))), some (aI ((l5 : Int))), some (aI ((l6 - (S 16 ((((l5 : Int) + (S 12 (((60 * p) + l9))))).toNat))))), some (aI l7), some (aI ((l8 : Int))), some (aI ((l9 : Int))), some (aI ((S 12 (((60 * p) + l9)))))]) rfl ?_
              refine aAload_n (pc' := 136) dX10_alone_135 rfl rfl ?_
              refine aGetR (pc' := 139) (q := (56, 0)) dX10_alone_136 fX10_51 rfl rfl (lv (by decide)) rfl rfl ?_
              refine aIload (pc' := 141) dX10_alone_139 rfl rfl ?_
              refine aIload (pc' := 143) dX10_alone_141 rfl rfl ?_
              obtain ⟨h69, hw⟩ := hw
              refine aIadd (pc' := 144) h69.1 h69.2 dX10_alone_143 rfl ?_
              refine aIconst (pc' := 145) ⟨by decide, by decide⟩ dX10_alone_144 rfl ?_
              refine aIast (pc' := 146) (j := (((l5 : Int) + (S 12 (((60 * p) + l9))))).toNat) dX10_alone_145 rfl (lv (by decide)) (tnIx h67).1 (tnIx h67).2 rfl (cEqI (mA (f := 16) rfl rfl rfl) ?_)
              refine aGoto (pc' := 224) dX10_alone_146 (by decide) ?_
              obtain ⟨h70, hw⟩ := hw
              refine aIinc1 (pc' := 227) dX10_alone_224 rfl (by decide) h70 rfl (L' := [some (aO 40 0), some (aI ((p : Int))), some (aI r), some (aI l3), some (aI ((l4 + ((S 12 (((60 * p) + l9))) - 1000)))), some (aI ((l5 : Int))), some (aI ((l6 - (S 16 ((((l5 : Int) + (S 12 (((60 * p) + l9))))).toNat))))), some (aI l7), some (aI ((l8 : Int))), some (aI ((((l9 + 1) : Nat) : Int))), some (aI ((S 12 (((60 * p) + l9)))))]) rfl ?_
              refine aGoto (pc' := 40) dX10_alone_227 (by decide) ?_
              exact aDrop [10] (L' := [some (aO 40 0), some (aI ((p : Int))), some (aI r), some (aI l3), some (aI ((l4 + ((S 12 (((60 * p) + l9))) - 1000)))), some (aI ((l5 : Int))), some (aI ((l6 - (S 16 ((((l5 : Int) + (S 12 (((60 * p) + l9))))).toNat))))), some (aI l7), some (aI ((l8 : Int))), some (aI ((((l9 + 1) : Nat) : Int))), none]) rfl hw
            · have hw := hw.2 hc
              refine aGoto (pc' := 224) dX10_alone_117 (by decide) ?_
              obtain ⟨h71, hw⟩ := hw
              refine aIinc1 (pc' := 227) dX10_alone_224 rfl (by decide) h71 rfl (L' := [some (aO 40 0), some (aI ((p : Int))), some (aI r), some (aI l3), some (aI ((l4 + ((S 12 (((60 * p) + l9))) - 1000)))), some (aI ((l5 : Int))), some (aI l6), some (aI l7), some (aI ((l8 : Int))), some (aI ((((l9 + 1) : Nat) : Int))), some (aI ((S 12 (((60 * p) + l9)))))]) rfl ?_
              refine aGoto (pc' := 40) dX10_alone_227 (by decide) ?_
              exact aDrop [10] (L' := [some (aO 40 0), some (aI ((p : Int))), some (aI r), some (aI l3), some (aI ((l4 + ((S 12 (((60 * p) + l9))) - 1000)))), some (aI ((l5 : Int))), some (aI l6), some (aI l7), some (aI ((l8 : Int))), some (aI ((((l9 + 1) : Nat) : Int))), none]) rfl hw
        · have hw := hw.2 hc
          refine aGoto (pc' := 224) dX10_alone_101 (by decide) ?_
          obtain ⟨h72, hw⟩ := hw
          refine aIinc1 (pc' := 227) dX10_alone_224 rfl (by decide) h72 rfl (L' := [some (aO 40 0), some (aI ((p : Int))), some (aI r), some (aI l3), some (aI ((l4 + ((S 12 (((60 * p) + l9))) - 1000)))), some (aI ((l5 : Int))), some (aI l6), some (aI l7), some (aI ((l8 : Int))), some (aI ((((l9 + 1) : Nat) : Int))), some (aI ((S 12 (((60 * p) + l9)))))]) rfl ?_
          refine aGoto (pc' := 40) dX10_alone_227 (by decide) ?_
          exact aDrop [10] (L' := [some (aO 40 0), some (aI ((p : Int))), some (aI r), some (aI l3), some (aI ((l4 + ((S 12 (((60 * p) + l9))) - 1000)))), some (aI ((l5 : Int))), some (aI l6), some (aI l7), some (aI ((l8 : Int))), some (aI ((((l9 + 1) : Nat) : Int))), none]) rfl hw
set_option maxRecDepth 100000 in
set_option maxHeartbeats 4000000 in
theorem gX10_areNeeds {w : aW} {mm : Nat} {C : aIF} {S : aS} {P : Int → aS → Prop} (hw : rRunI w mX10_areNeeds 4 [some (aO 40 0), some (aI 0), some (aI 0)] [] C S (rf mm) P) : rMetI w mX10_areNeeds [aO 40 0] C S (rf mm) P := by
  refine cMet_of okX10_areNeeds (Nat.le_of_ble_eq_true rfl) (fun hos => ?_)
  show cRun w mX10_areNeeds 0 [some (aO 40 0), none, none] [] (mem C S) (rf mm) (rqI (rf mm) C P)
  refine aIconst (pc' := 1) ⟨by decide, by decide⟩ dX10_areNeeds_0 rfl ?_
  refine aIstore_n (pc' := 2) dX10_areNeeds_1 (by decide) rfl (L' := [some (aO 40 0), some (aI 0), none]) rfl ?_
  refine aIconst (pc' := 3) ⟨by decide, by decide⟩ dX10_areNeeds_2 rfl ?_
  refine aIstore_n (pc' := 4) dX10_areNeeds_3 (by decide) rfl (L' := [some (aO 40 0), some (aI 0), some (aI 0)]) rfl ?_
  exact hw
set_option maxRecDepth 100000 in
set_option maxHeartbeats 4000000 in
theorem gX10_areNeeds_4 {w : aW} {mm : Nat} {C : aIF} {S : aS} {l1 : Int} {l2 : Nat} {P : Int → aS → Prop} (hw : (((S 10 0) ≤ (l2 : Int)) → (-2147483648 ≤ ((S 6 0) - (S 7 0)) ∧ ((S 6 0) - (S 7 0)) < 2147483648) ∧ (((((S 6 0) - (S 7 0)) < l1) → P 0 S) ∧ ((¬ (((S 6 0) - (S 7 0)) < l1)) → P 1 S))) ∧ ((¬ ((S 10 0) ≤ (l2 : Int))) → rMetI w mX10_needOf [aO 40 0, aI ((l2 : Int))] C S (rf mm) (fun x2 S3 => (l2 < 6) ∧ (((x2 ≠ (-1)) → (-2147483648 ≤ (l1 + x2) ∧ (l1 + x2) < 2147483648) ∧ ((l2 + 1 < 2147483648) ∧ (rRunI w mX10_areNeeds 4 [some (aO 40 0), some (aI ((l1 + x2))), some (aI ((((l2 + 1) : Nat) : Int)))] [] C (sU S3 19 l2 x2) (rf mm) P))) ∧ ((x2 = (-1)) → P 0 (sU S3 19 l2 x2)))))) : rRunI w mX10_areNeeds 4 [some (aO 40 0), some (aI l1), some (aI ((l2 : Int)))] [] C S (rf mm) P := by
  refine aIload_n (pc' := 5) dX10_areNeeds_4 rfl rfl ?_
  refine aAload_n (pc' := 6) dX10_areNeeds_5 rfl rfl ?_
  refine aGetI (pc' := 9) dX10_areNeeds_6 fX10_146 rfl rfl (lv (by decide)) rfl ?_
  refine aTopEq (y := (S 10 0)) rfl ?_
  refine aIcmp_ge (tgt := 50) (pc' := 12) dX10_areNeeds_9 (by decide) rfl (fun hc => ?_) (fun hc => ?_)
  · have hw := hw.1 hc
    refine aIload_n (pc' := 51) dX10_areNeeds_50 rfl rfl ?_
    refine aAload_n (pc' := 52) dX10_areNeeds_51 rfl rfl ?_
    refine aGetI (pc' := 55) dX10_areNeeds_52 fX10_27 rfl rfl (lv (by decide)) rfl ?_
    refine aTopEq (y := (S 6 0)) rfl ?_
    refine aAload_n (pc' := 56) dX10_areNeeds_55 rfl rfl ?_
    refine aGetI (pc' := 59) dX10_areNeeds_56 fX10_140 rfl rfl (lv (by decide)) rfl ?_
    refine aTopEq (y := (S 7 0)) rfl ?_
    obtain ⟨h1, hw⟩ := hw
    refine aIsub (pc' := 60) h1.1 h1.2 dX10_areNeeds_59 rfl ?_
    refine aIcmp_gt (tgt := 67) (pc' := 63) dX10_areNeeds_60 (by decide) rfl (fun hc => ?_) (fun hc => ?_)
    · have hw := hw.1 hc
      refine aIconst (pc' := 68) ⟨by decide, by decide⟩ dX10_areNeeds_67 rfl ?_
      exact cZret dX10_areNeeds_68 okX10_areNeeds rfl (by decide) ⟨rfl, _, rfl, _, rfl, hw⟩
    · have hw := hw.2 hc
      refine aIconst (pc' := 64) ⟨by decide, by decide⟩ dX10_areNeeds_63 rfl ?_
      refine aGoto (pc' := 68) dX10_areNeeds_64 (by decide) ?_
      exact cZret dX10_areNeeds_68 okX10_areNeeds rfl (by decide) ⟨rfl, _, rfl, _, rfl, hw⟩
  · have hw := hw.2 hc
    refine aAload_n (pc' := 13) dX10_areNeeds_12 rfl rfl ?_
    refine aGetR (pc' := 16) (q := (59, 0)) dX10_areNeeds_13 fX10_57 rfl rfl (lv (by decide)) rfl rfl ?_
    refine aIload_n (pc' := 17) dX10_areNeeds_16 rfl rfl ?_
    refine aAload_n (pc' := 18) dX10_areNeeds_17 rfl rfl ?_
    refine aIload_n (pc' := 19) dX10_areNeeds_18 rfl rfl ?_
    refine cVI (c := 10) (pc' := 22) [aI ((l2 : Int))] dX10_areNeeds_19 lX10_178 okX10_needOf ⟨by decide, by decide⟩ npX10_needOf rfl rfl rfl rfl rfl (by decide) rfl (cMetI_mono hw (fun x2 J4 hw => ?_))
    obtain ⟨S3, rfl, hw⟩ := hw
    obtain ⟨h5, hw⟩ := hw
    refine aIast (pc' := 23) (j := l2) dX10_areNeeds_22 rfl (lv (by decide)) rfl h5 rfl (cEqI (mA (f := 19) rfl rfl rfl) ?_)
    refine aAload_n (pc' := 24) dX10_areNeeds_23 rfl rfl ?_
    refine aGetR (pc' := 27) (q := (59, 0)) dX10_areNeeds_24 fX10_57 rfl rfl (lv (by decide)) rfl rfl ?_
    refine aIload_n (pc' := 28) dX10_areNeeds_27 rfl rfl ?_
    refine aIald (pc' := 29) (j := l2) dX10_areNeeds_28 rfl (lv (by decide)) rfl h5 rfl ?_
    refine aTopEq (y := ((sU S3 19 l2 x2) 19 l2)) rfl ?_
    refine aTopEq sU_s ?_
    refine aIconst (pc' := 30) ⟨by decide, by decide⟩ dX10_areNeeds_29 rfl ?_
    refine aIcmp_ne (tgt := 35) (pc' := 33) dX10_areNeeds_30 (by decide) rfl (fun hc => ?_) (fun hc => ?_)
    · have hw := hw.1 hc
      refine aIload_n (pc' := 36) dX10_areNeeds_35 rfl rfl ?_
      refine aAload_n (pc' := 37) dX10_areNeeds_36 rfl rfl ?_
      refine aGetR (pc' := 40) (q := (59, 0)) dX10_areNeeds_37 fX10_57 rfl rfl (lv (by decide)) rfl rfl ?_
      refine aIload_n (pc' := 41) dX10_areNeeds_40 rfl rfl ?_
      refine aIald (pc' := 42) (j := l2) dX10_areNeeds_41 rfl (lv (by decide)) rfl h5 rfl ?_
      refine aTopEq (y := ((sU S3 19 l2 x2) 19 l2)) rfl ?_
      refine aTopEq sU_s ?_
      obtain ⟨h6, hw⟩ := hw
      refine aIadd (pc' := 43) h6.1 h6.2 dX10_areNeeds_42 rfl ?_
      refine aIstore_n (pc' := 44) dX10_areNeeds_43 (by decide) rfl (L' := [some (aO 40 0), some (aI ((l1 + x2))), some (aI ((l2 : Int)))]) rfl ?_
      obtain ⟨h7, hw⟩ := hw
      refine aIinc1 (pc' := 47) dX10_areNeeds_44 rfl (by decide) h7 rfl (L' := [some (aO 40 0), some (aI ((l1 + x2))), some (aI ((((l2 + 1) : Nat) : Int)))]) rfl ?_
      refine aGoto (pc' := 4) dX10_areNeeds_47 (by decide) ?_
      exact hw
    · have hw := hw.2 hc
      refine aIconst (pc' := 34) ⟨by decide, by decide⟩ dX10_areNeeds_33 rfl ?_
      exact cZret dX10_areNeeds_34 okX10_areNeeds rfl (by decide) ⟨rfl, _, rfl, _, rfl, hw⟩
set_option maxRecDepth 100000 in
set_option maxHeartbeats 4000000 in
theorem gX10_asks {w : aW} {mm : Nat} {C : aIF} {S : aS} {p : Nat} {v : Int} {P : Int → aS → Prop} (hw : rRunI w mX10_asks 5 [some (aO 40 0), some (aI ((p : Int))), some (aI v), some (aI ((S 5 0))), none, none, none, none, none] [] C S (rf mm) P) : rMetI w mX10_asks [aO 40 0, aI ((p : Int)), aI v] C S (rf mm) P := by
  refine cMet_of okX10_asks (Nat.le_of_ble_eq_true rfl) (fun hos => ?_)
  show cRun w mX10_asks 0 [some (aO 40 0), some (aI ((p : Int))), some (aI v), none, none, none, none, none, none] [] (mem C S) (rf mm) (rqI (rf mm) C P)
  refine aAload_n (pc' := 1) dX10_asks_0 rfl rfl ?_
  refine aGetI (pc' := 4) dX10_asks_1 fX10_23 rfl rfl (lv (by decide)) rfl ?_
  refine aTopEq (y := (S 5 0)) rfl ?_
  refine aIstore_n (pc' := 5) dX10_asks_4 (by decide) rfl (L' := [some (aO 40 0), some (aI ((p : Int))), some (aI v), some (aI ((S 5 0))), none, none, none, none, none]) rfl ?_
  exact hw
set_option maxRecDepth 100000 in
set_option maxHeartbeats 4000000 in
theorem gX10_asks_5 {w : aW} {mm : Nat} {C : aIF} {S : aS} {p : Nat} {v : Int} {l3 : Int} {P : Int → aS → Prop} (hw : (p < 6) ∧ ((-2147483648 ≤ ((S 29 p) + l3) ∧ ((S 29 p) + l3) < 2147483648) ∧ (rMetI w mX10_holds [aI ((S 13 p)), aI (((S 29 p) + l3))] C S (rf mm) (fun x3 S4 => (-2147483648 ≤ ((S4 30 p) + v) ∧ ((S4 30 p) + v) < 2147483648) ∧ (((((S4 30 p) + v) ≤ x3) → rRunI w mX10_asks 52 [some (aO 40 0), some (aI ((p : Int))), some (aI v), some (aI l3), some (aI ((S4 25 0))), some (aI 0), none, none, none] [] C S4 (rf mm) P) ∧ ((¬ (((S4 30 p) + v) ≤ x3)) → (-2147483648 ≤ (l3 + (S4 5 0)) ∧ (l3 + (S4 5 0)) < 2147483648) ∧ (rRunI w mX10_asks 5 [some (aO 40 0), some (aI ((p : Int))), some (aI v), some (aI ((l3 + (S4 5 0)))), none, none, none, none, none] [] C S4 (rf mm) P))))))) : rRunI w mX10_asks 5 [some (aO 40 0), some (aI ((p : Int))), some (aI v), some (aI l3), none, none, none, none, none] [] C S (rf mm) P := by
  refine aAload_n (pc' := 6) dX10_asks_5 rfl rfl ?_
  refine aGetR (pc' := 9) (q := (53, 0)) dX10_asks_6 fX10_42 rfl rfl (lv (by decide)) rfl rfl ?_
  refine aIload_n (pc' := 10) dX10_asks_9 rfl rfl ?_
  obtain ⟨h1, hw⟩ := hw
  refine aIald (pc' := 11) (j := p) dX10_asks_10 rfl (lv (by decide)) rfl h1 rfl ?_
  refine aTopEq (y := (S 13 p)) rfl ?_
  refine aAload_n (pc' := 12) dX10_asks_11 rfl rfl ?_
  refine aGetR (pc' := 15) (q := (69, 0)) dX10_asks_12 fX10_69 rfl rfl (lv (by decide)) rfl rfl ?_
  refine aIload_n (pc' := 16) dX10_asks_15 rfl rfl ?_
  refine aIald (pc' := 17) (j := p) dX10_asks_16 rfl (lv (by decide)) rfl h1 rfl ?_
  refine aTopEq (y := (S 29 p)) rfl ?_
  refine aIload_n (pc' := 18) dX10_asks_17 rfl rfl ?_
  obtain ⟨h2, hw⟩ := hw
  refine aIadd (pc' := 19) h2.1 h2.2 dX10_asks_18 rfl ?_
  refine cSI (pc' := 22) [aI ((S 13 p)), aI (((S 29 p) + l3))] dX10_asks_19 lX10_160 okX10_holds ⟨by decide, by decide⟩ npX10_holds rfl rfl rfl (cMetI_mono hw (fun x3 J5 hw => ?_))
  obtain ⟨S4, rfl, hw⟩ := hw
  refine aAload_n (pc' := 23) dX10_asks_22 rfl rfl ?_
  refine aGetR (pc' := 26) (q := (70, 0)) dX10_asks_23 fX10_72 rfl rfl (lv (by decide)) rfl rfl ?_
  refine aIload_n (pc' := 27) dX10_asks_26 rfl rfl ?_
  refine aIald (pc' := 28) (j := p) dX10_asks_27 rfl (lv (by decide)) rfl h1 rfl ?_
  refine aTopEq (y := (S4 30 p)) rfl ?_
  refine aIload_n (pc' := 29) dX10_asks_28 rfl rfl ?_
  obtain ⟨h6, hw⟩ := hw
  refine aIadd (pc' := 30) h6.1 h6.2 dX10_asks_29 rfl ?_
  refine aIcmp_ge (tgt := 43) (pc' := 33) dX10_asks_30 (by decide) rfl (fun hc => ?_) (fun hc => ?_)
  · have hw := hw.1 hc
    refine aAload_n (pc' := 44) dX10_asks_43 rfl rfl ?_
    refine aGetI (pc' := 47) dX10_asks_44 fX10_206 rfl rfl (lv (by decide)) rfl ?_
    refine aTopEq (y := (S4 25 0)) rfl ?_
    refine aIstore (pc' := 49) dX10_asks_47 (by decide) rfl (L' := [some (aO 40 0), some (aI ((p : Int))), some (aI v), some (aI l3), some (aI ((S4 25 0))), none, none, none, none]) rfl ?_
    refine aIconst (pc' := 50) ⟨by decide, by decide⟩ dX10_asks_49 rfl ?_
    refine aIstore (pc' := 52) dX10_asks_50 (by decide) rfl (L' := [some (aO 40 0), some (aI ((p : Int))), some (aI v), some (aI l3), some (aI ((S4 25 0))), some (aI 0), none, none, none]) rfl ?_
    exact hw
  · have hw := hw.2 hc
    refine aIload_n (pc' := 34) dX10_asks_33 rfl rfl ?_
    refine aAload_n (pc' := 35) dX10_asks_34 rfl rfl ?_
    refine aGetI (pc' := 38) dX10_asks_35 fX10_23 rfl rfl (lv (by decide)) rfl ?_
    refine aTopEq (y := (S4 5 0)) rfl ?_
    obtain ⟨h7, hw⟩ := hw
    refine aIadd (pc' := 39) h7.1 h7.2 dX10_asks_38 rfl ?_
    refine aIstore_n (pc' := 40) dX10_asks_39 (by decide) rfl (L' := [some (aO 40 0), some (aI ((p : Int))), some (aI v), some (aI ((l3 + (S4 5 0)))), none, none, none, none, none]) rfl ?_
    refine aGoto (pc' := 5) dX10_asks_40 (by decide) ?_
    exact hw
set_option maxRecDepth 100000 in
set_option maxHeartbeats 4000000 in
theorem gX10_asks_52 {w : aW} {mm : Nat} {C : aIF} {S : aS} {p : Nat} {v : Int} {l3 : Int} {l4 : Int} {l5 : Nat} {P : Int → aS → Prop} (hw : (((S 23 0) ≤ (l5 : Int)) → ((l4 < l3) → P 0 S) ∧ ((¬ (l4 < l3)) → (p < 6) ∧ ((((S 42 p) = 0) → (-2147483648 ≤ ((S 25 0) - (min (S 25 0) l3)) ∧ ((S 25 0) - (min (S 25 0) l3)) < 2147483648) ∧ ((-2147483648 ≤ (l3 - (min (S 25 0) l3)) ∧ (l3 - (min (S 25 0) l3)) < 2147483648) ∧ (rRunI w mX10_asks 155 [some (aO 40 0), some (aI ((p : Int))), some (aI v), some (aI l3), some (aI l4), some (aI ((min (S 25 0) l3))), some (aI ((l3 - (min (S 25 0) l3)))), some (aI 0), none] [] C (sU S 25 0 (((S 25 0) - (min (S 25 0) l3)))) (rf mm) P))) ∧ ((¬ ((S 42 p) = 0)) → (-2147483648 ≤ ((S 29 p) + l3) ∧ ((S 29 p) + l3) < 2147483648) ∧ ((0 ≤ (S 6 0) ∧ 0 < (S 23 0)) ∧ (((((S 29 p) + l3) ≤ ((S 6 0) / (S 23 0))) → (-2147483648 ≤ ((S 25 0) - (min (S 25 0) l3)) ∧ ((S 25 0) - (min (S 25 0) l3)) < 2147483648) ∧ ((-2147483648 ≤ (l3 - (min (S 25 0) l3)) ∧ (l3 - (min (S 25 0) l3)) < 2147483648) ∧ (rRunI w mX10_asks 155 [some (aO 40 0), some (aI ((p : Int))), some (aI v), some (aI l3), some (aI l4), some (aI ((min (S 25 0) l3))), some (aI ((l3 - (min (S 25 0) l3)))), some (aI 0), none] [] C (sU S 25 0 (((S 25 0) - (min (S 25 0) l3)))) (rf mm) P))) ∧ ((¬ (((S 29 p) + l3) ≤ ((S 6 0) / (S 23 0)))) → P 0 S))))))) ∧ ((¬ ((S 23 0) ≤ (l5 : Int))) → (((l5 : Int) ≠ (p : Int)) → rMetI w mX10_spare [aO 40 0, aI ((l5 : Int))] C S (rf mm) (fun x8 S9 => (-2147483648 ≤ (l4 + x8) ∧ (l4 + x8) < 2147483648) ∧ ((l5 + 1 < 2147483648) ∧ (rRunI w mX10_asks 52 [some (aO 40 0), some (aI ((p : Int))), some (aI v), some (aI l3), some (aI ((l4 + x8))), some (aI ((((l5 + 1) : Nat) : Int))), none, none, none] [] C S9 (rf mm) P)))) ∧ (((l5 : Int) = (p : Int)) → (-2147483648 ≤ (l4 + 0) ∧ (l4 + 0) < 2147483648) ∧ ((l5 + 1 < 2147483648) ∧ (rRunI w mX10_asks 52 [some (aO 40 0), some (aI ((p : Int))), some (aI v), some (aI l3), some (aI ((l4 + 0))), some (aI ((((l5 + 1) : Nat) : Int))), none, none, none] [] C S (rf mm) P))))) : rRunI w mX10_asks 52 [some (aO 40 0), some (aI ((p : Int))), some (aI v), some (aI l3), some (aI l4), some (aI ((l5 : Int))), none, none, none] [] C S (rf mm) P := by
  refine aIload (pc' := 54) dX10_asks_52 rfl rfl ?_
  refine aAload_n (pc' := 55) dX10_asks_54 rfl rfl ?_
  refine aGetI (pc' := 58) dX10_asks_55 fX10_157 rfl rfl (lv (by decide)) rfl ?_
  refine aTopEq (y := (S 23 0)) rfl ?_
  refine aIcmp_ge (tgt := 88) (pc' := 61) dX10_asks_58 (by decide) rfl (fun hc => ?_) (fun hc => ?_)
  · have hw := hw.1 hc
    refine aIload (pc' := 90) dX10_asks_88 rfl rfl ?_
    refine aIload_n (pc' := 91) dX10_asks_90 rfl rfl ?_
    refine aIcmp_lt (tgt := 123) (pc' := 94) dX10_asks_91 (by decide) rfl (fun hc => ?_) (fun hc => ?_)
    · have hw := hw.1 hc
      refine aIconst (pc' := 124) ⟨by decide, by decide⟩ dX10_asks_123 rfl ?_
      exact cZret dX10_asks_124 okX10_asks rfl (by decide) ⟨rfl, _, rfl, _, rfl, hw⟩
    · have hw := hw.2 hc
      refine aAload_n (pc' := 95) dX10_asks_94 rfl rfl ?_
      refine aGetR (pc' := 98) (q := (82, 0)) dX10_asks_95 fX10_108 rfl rfl (lv (by decide)) rfl rfl ?_
      refine aIload_n (pc' := 99) dX10_asks_98 rfl rfl ?_
      obtain ⟨h1, hw⟩ := hw
      refine aZald (pc' := 100) (j := p) dX10_asks_99 rfl (lv (by decide)) rfl h1 rfl ?_
      refine aTopEq (y := (S 42 p)) rfl ?_
      refine aIf_eq (tgt := 125) (pc' := 103) dX10_asks_100 (by decide) rfl (fun hc => ?_) (fun hc => ?_)
      · have hw := hw.1 hc
        refine aAload_n (pc' := 126) dX10_asks_125 rfl rfl ?_
        refine aGetI (pc' := 129) dX10_asks_126 fX10_206 rfl rfl (lv (by decide)) rfl ?_
        refine aTopEq (y := (S 25 0)) rfl ?_
        refine aIload_n (pc' := 130) dX10_asks_129 rfl rfl ?_
        refine aMin (pc' := 133) dX10_asks_130 lX10_228 rfl rfl (Nat.le_refl _) (Nat.le_refl _) rfl ?_
        refine aIstore (pc' := 135) dX10_asks_133 (by decide) rfl (L' := [some (aO 40 0), some (aI ((p : Int))), some (aI v), some (aI l3), some (aI l4), some (aI ((min (S 25 0) l3))), none, none, none]) rfl ?_
        refine aAload_n (pc' := 136) dX10_asks_135 rfl rfl ?_
        refine aDup (pc' := 137) rfl dX10_asks_136 rfl ?_
        refine aGetI (pc' := 140) dX10_asks_137 fX10_206 rfl rfl (lv (by decide)) rfl ?_
        refine aTopEq (y := (S 25 0)) rfl ?_
        refine aIload (pc' := 142) dX10_asks_140 rfl rfl ?_
        obtain ⟨h2, hw⟩ := hw
        refine aIsub (pc' := 143) h2.1 h2.2 dX10_asks_142 rfl ?_
        refine aPutI (pc' := 146) dX10_asks_143 fX10_206 rfl rfl (Or.inl rfl) (lv (by decide)) rfl (cEqI (mS (f := 25) rfl) ?_)
        refine aIload_n (pc' := 147) dX10_asks_146 rfl rfl ?_
        refine aIload (pc' := 149) dX10_asks_147 rfl rfl ?_
        obtain ⟨h3, hw⟩ := hw
        refine aIsub (pc' := 150) h3.1 h3.2 dX10_asks_149 rfl ?_
        refine aIstore (pc' := 152) dX10_asks_150 (by decide) rfl (L' := [some (aO 40 0), some (aI ((p : Int))), some (aI v), some (aI l3), some (aI l4), some (aI ((min (S 25 0) l3))), some (aI ((l3 - (min (S 25 0) l3)))), none, none]) rfl ?_
        refine aIconst (pc' := 153) ⟨by decide, by decide⟩ dX10_asks_152 rfl ?_
        refine aIstore (pc' := 155) dX10_asks_153 (by decide) rfl (L' := [some (aO 40 0), some (aI ((p : Int))), some (aI v), some (aI l3), some (aI l4), some (aI ((min (S 25 0) l3))), some (aI ((l3 - (min (S 25 0) l3)))), some (aI 0), none]) rfl ?_
        exact hw
      · have hw := hw.2 hc
        refine aAload_n (pc' := 104) dX10_asks_103 rfl rfl ?_
        refine aGetR (pc' := 107) (q := (69, 0)) dX10_asks_104 fX10_69 rfl rfl (lv (by decide)) rfl rfl ?_
        refine aIload_n (pc' := 108) dX10_asks_107 rfl rfl ?_
        refine aIald (pc' := 109) (j := p) dX10_asks_108 rfl (lv (by decide)) rfl h1 rfl ?_
        refine aTopEq (y := (S 29 p)) rfl ?_
        refine aIload_n (pc' := 110) dX10_asks_109 rfl rfl ?_
        obtain ⟨h4, hw⟩ := hw
        refine aIadd (pc' := 111) h4.1 h4.2 dX10_asks_110 rfl ?_
        refine aAload_n (pc' := 112) dX10_asks_111 rfl rfl ?_
        refine aGetI (pc' := 115) dX10_asks_112 fX10_27 rfl rfl (lv (by decide)) rfl ?_
        refine aTopEq (y := (S 6 0)) rfl ?_
        refine aAload_n (pc' := 116) dX10_asks_115 rfl rfl ?_
        refine aGetI (pc' := 119) dX10_asks_116 fX10_157 rfl rfl (lv (by decide)) rfl ?_
        refine aTopEq (y := (S 23 0)) rfl ?_
        obtain ⟨h5, hw⟩ := hw
        refine aIdiv (pc' := 120) h5.1 h5.2 dX10_asks_119 rfl ?_
        refine aIcmp_le (tgt := 125) (pc' := 123) dX10_asks_120 (by decide) rfl (fun hc => ?_) (fun hc => ?_)
        · have hw := hw.1 hc
          refine aAload_n (pc' := 126) dX10_asks_125 rfl rfl ?_
          refine aGetI (pc' := 129) dX10_asks_126 fX10_206 rfl rfl (lv (by decide)) rfl ?_
          refine aTopEq (y := (S 25 0)) rfl ?_
          refine aIload_n (pc' := 130) dX10_asks_129 rfl rfl ?_
          refine aMin (pc' := 133) dX10_asks_130 lX10_228 rfl rfl (Nat.le_refl _) (Nat.le_refl _) rfl ?_
          refine aIstore (pc' := 135) dX10_asks_133 (by decide) rfl (L' := [some (aO 40 0), some (aI ((p : Int))), some (aI v), some (aI l3), some (aI l4), some (aI ((min (S 25 0) l3))), none, none, none]) rfl ?_
          refine aAload_n (pc' := 136) dX10_asks_135 rfl rfl ?_
          refine aDup (pc' := 137) rfl dX10_asks_136 rfl ?_
          refine aGetI (pc' := 140) dX10_asks_137 fX10_206 rfl rfl (lv (by decide)) rfl ?_
          refine aTopEq (y := (S 25 0)) rfl ?_
          refine aIload (pc' := 142) dX10_asks_140 rfl rfl ?_
          obtain ⟨h6, hw⟩ := hw
          refine aIsub (pc' := 143) h6.1 h6.2 dX10_asks_142 rfl ?_
          refine aPutI (pc' := 146) dX10_asks_143 fX10_206 rfl rfl (Or.inl rfl) (lv (by decide)) rfl (cEqI (mS (f := 25) rfl) ?_)
          refine aIload_n (pc' := 147) dX10_asks_146 rfl rfl ?_
          refine aIload (pc' := 149) dX10_asks_147 rfl rfl ?_
          obtain ⟨h7, hw⟩ := hw
          refine aIsub (pc' := 150) h7.1 h7.2 dX10_asks_149 rfl ?_
          refine aIstore (pc' := 152) dX10_asks_150 (by decide) rfl (L' := [some (aO 40 0), some (aI ((p : Int))), some (aI v), some (aI l3), some (aI l4), some (aI ((min (S 25 0) l3))), some (aI ((l3 - (min (S 25 0) l3)))), none, none]) rfl ?_
          refine aIconst (pc' := 153) ⟨by decide, by decide⟩ dX10_asks_152 rfl ?_
          refine aIstore (pc' := 155) dX10_asks_153 (by decide) rfl (L' := [some (aO 40 0), some (aI ((p : Int))), some (aI v), some (aI l3), some (aI l4), some (aI ((min (S 25 0) l3))), some (aI ((l3 - (min (S 25 0) l3)))), some (aI 0), none]) rfl ?_
          exact hw
        · have hw := hw.2 hc
          refine aIconst (pc' := 124) ⟨by decide, by decide⟩ dX10_asks_123 rfl ?_
          exact cZret dX10_asks_124 okX10_asks rfl (by decide) ⟨rfl, _, rfl, _, rfl, hw⟩
  · have hw := hw.2 hc
    refine aIload (pc' := 63) dX10_asks_61 rfl rfl ?_
    refine aIload (pc' := 65) dX10_asks_63 rfl rfl ?_
    refine aIload_n (pc' := 66) dX10_asks_65 rfl rfl ?_
    refine aIcmp_ne (tgt := 73) (pc' := 69) dX10_asks_66 (by decide) rfl (fun hc => ?_) (fun hc => ?_)
    · have hw := hw.1 hc
      refine aAload_n (pc' := 74) dX10_asks_73 rfl rfl ?_
      refine aIload (pc' := 76) dX10_asks_74 rfl rfl ?_
      refine cVI (c := 10) (pc' := 79) [aI ((l5 : Int))] dX10_asks_76 lX10_238 okX10_spare ⟨by decide, by decide⟩ npX10_spare rfl rfl rfl rfl rfl (by decide) rfl (cMetI_mono hw (fun x8 J10 hw => ?_))
      obtain ⟨S9, rfl, hw⟩ := hw
      obtain ⟨h11, hw⟩ := hw
      refine aIadd (pc' := 80) h11.1 h11.2 dX10_asks_79 rfl ?_
      refine aIstore (pc' := 82) dX10_asks_80 (by decide) rfl (L' := [some (aO 40 0), some (aI ((p : Int))), some (aI v), some (aI l3), some (aI ((l4 + x8))), some (aI ((l5 : Int))), none, none, none]) rfl ?_
      obtain ⟨h12, hw⟩ := hw
      refine aIinc1 (pc' := 85) dX10_asks_82 rfl (by decide) h12 rfl (L' := [some (aO 40 0), some (aI ((p : Int))), some (aI v), some (aI l3), some (aI ((l4 + x8))), some (aI ((((l5 + 1) : Nat) : Int))), none, none, none]) rfl ?_
      refine aGoto (pc' := 52) dX10_asks_85 (by decide) ?_
      exact hw
    · have hw := hw.2 hc
      refine aIconst (pc' := 70) ⟨by decide, by decide⟩ dX10_asks_69 rfl ?_
      refine aGoto (pc' := 79) dX10_asks_70 (by decide) ?_
      obtain ⟨h13, hw⟩ := hw
      refine aIadd (pc' := 80) h13.1 h13.2 dX10_asks_79 rfl ?_
      refine aIstore (pc' := 82) dX10_asks_80 (by decide) rfl (L' := [some (aO 40 0), some (aI ((p : Int))), some (aI v), some (aI l3), some (aI ((l4 + 0))), some (aI ((l5 : Int))), none, none, none]) rfl ?_
      obtain ⟨h14, hw⟩ := hw
      refine aIinc1 (pc' := 85) dX10_asks_82 rfl (by decide) h14 rfl (L' := [some (aO 40 0), some (aI ((p : Int))), some (aI v), some (aI l3), some (aI ((l4 + 0))), some (aI ((((l5 + 1) : Nat) : Int))), none, none, none]) rfl ?_
      refine aGoto (pc' := 52) dX10_asks_85 (by decide) ?_
      exact hw
set_option maxRecDepth 100000 in
set_option maxHeartbeats 4000000 in
theorem gX10_asks_155 {w : aW} {mm : Nat} {C : aIF} {S : aS} {p : Nat} {v : Int} {l3 : Int} {l4 : Int} {l5 : Int} {l6 : Nat} {l7 : Int} {P : Int → aS → Prop} (hw : (((S 23 0) ≤ l7) → rRunI w mX10_asks 232 [some (aO 40 0), some (aI ((p : Int))), some (aI v), some (aI l3), some (aI l4), some (aI l5), some (aI ((l6 : Int))), some (aI l7), none] [] C S (rf mm) P) ∧ ((¬ ((S 23 0) ≤ l7)) → (((l6 : Int) ≤ 0) → rRunI w mX10_asks 232 [some (aO 40 0), some (aI ((p : Int))), some (aI v), some (aI l3), some (aI l4), some (aI l5), some (aI ((l6 : Int))), some (aI l7), none] [] C S (rf mm) P) ∧ ((¬ ((l6 : Int) ≤ 0)) → ((l7 = (p : Int)) → (-2147483648 ≤ (l7 + 1) ∧ (l7 + 1) < 2147483648) ∧ (rRunI w mX10_asks 155 [some (aO 40 0), some (aI ((p : Int))), some (aI v), some (aI l3), some (aI l4), some (aI l5), some (aI ((l6 : Int))), some (aI ((l7 + 1))), none] [] C S (rf mm) P)) ∧ ((¬ (l7 = (p : Int))) → (0 ≤ l7 ∧ l7 < ((6 : Nat) : Int)) ∧ ((((S 28 ((l7).toNat)) ≠ 2) → (-2147483648 ≤ (l7 + 1) ∧ (l7 + 1) < 2147483648) ∧ (rRunI w mX10_asks 155 [some (aO 40 0), some (aI ((p : Int))), some (aI v), some (aI l3), some (aI l4), some (aI l5), some (aI ((l6 : Int))), some (aI ((l7 + 1))), none] [] C S (rf mm) P)) ∧ (((S 28 ((l7).toNat)) = 2) → rMetI w mX10_spare [aO 40 0, aI l7] C S (rf mm) (fun x4 S5 => ((x4 ≠ 0) → rMetI w mX10_spare [aO 40 0, aI l7] C S5 (rf mm) (fun x7 S8 => rMetV w mX10_gives [aO 40 0, aI l7, aI ((min x7 (l6 : Int)))] C S8 (rf mm) (fun S11 => (-2147483648 ≤ ((l6 : Int) - (min x7 (l6 : Int))) ∧ ((l6 : Int) - (min x7 (l6 : Int))) < 2147483648) ∧ ((-2147483648 ≤ (l7 + 1) ∧ (l7 + 1) < 2147483648) ∧ (rRunI w mX10_asks 155 [some (aO 40 0), some (aI ((p : Int))), some (aI v), some (aI l3), some (aI l4), some (aI ((min x7 (l6 : Int)))), some (aI (((l6 : Int) - (min x7 (l6 : Int))))), some (aI ((l7 + 1))), none] [] C S11 (rf mm) P))))) ∧ ((x4 = 0) → (-2147483648 ≤ (l7 + 1) ∧ (l7 + 1) < 2147483648) ∧ (rRunI w mX10_asks 155 [some (aO 40 0), some (aI ((p : Int))), some (aI v), some (aI l3), some (aI l4), some (aI l5), some (aI ((l6 : Int))), some (aI ((l7 + 1))), none] [] C S5 (rf mm) P))))))))) : rRunI w mX10_asks 155 [some (aO 40 0), some (aI ((p : Int))), some (aI v), some (aI l3), some (aI l4), some (aI l5), some (aI ((l6 : Int))), some (aI l7), none] [] C S (rf mm) P := by
  refine aIload (pc' := 157) dX10_asks_155 rfl rfl ?_
  refine aAload_n (pc' := 158) dX10_asks_157 rfl rfl ?_
  refine aGetI (pc' := 161) dX10_asks_158 fX10_157 rfl rfl (lv (by decide)) rfl ?_
  refine aTopEq (y := (S 23 0)) rfl ?_
  refine aIcmp_ge (tgt := 232) (pc' := 164) dX10_asks_161 (by decide) rfl (fun hc => ?_) (fun hc => ?_)
  · have hw := hw.1 hc
    exact hw
  · have hw := hw.2 hc
    refine aIload (pc' := 166) dX10_asks_164 rfl rfl ?_
    refine aIf_le (tgt := 232) (pc' := 169) dX10_asks_166 (by decide) rfl (fun hc => ?_) (fun hc => ?_)
    · have hw := hw.1 hc
      exact hw
    · have hw := hw.2 hc
      refine aIload (pc' := 171) dX10_asks_169 rfl rfl ?_
      refine aIload_n (pc' := 172) dX10_asks_171 rfl rfl ?_
      refine aIcmp_eq (tgt := 226) (pc' := 175) dX10_asks_172 (by decide) rfl (fun hc => ?_) (fun hc => ?_)
      · have hw := hw.1 hc
        obtain ⟨h1, hw⟩ := hw
        refine aIinc (pc' := 229) dX10_asks_226 rfl (by decide) ⟨by decide, by decide⟩ h1.1 h1.2 rfl (L' := [some (aO 40 0), some (aI ((p : Int))), some (aI v), some (aI l3), some (aI l4), some (aI l5), some (aI ((l6 : Int))), some (aI ((l7 + 1))), none]) rfl ?_
        refine aGoto (pc' := 155) dX10_asks_229 (by decide) ?_
        exact hw
      · have hw := hw.2 hc
        refine aAload_n (pc' := 176) dX10_asks_175 rfl rfl ?_
        refine aGetR (pc' := 179) (q := (68, 0)) dX10_asks_176 fX10_66 rfl rfl (lv (by decide)) rfl rfl ?_
        refine aIload (pc' := 181) dX10_asks_179 rfl rfl ?_
        obtain ⟨h2, hw⟩ := hw
        refine aIald (pc' := 182) (j := (l7).toNat) dX10_asks_181 rfl (lv (by decide)) (tnIx h2).1 (tnIx h2).2 rfl ?_
        refine aTopEq (y := (S 28 ((l7).toNat))) rfl ?_
        refine aIconst (pc' := 183) ⟨by decide, by decide⟩ dX10_asks_182 rfl ?_
        refine aIcmp_ne (tgt := 226) (pc' := 186) dX10_asks_183 (by decide) rfl (fun hc => ?_) (fun hc => ?_)
        · have hw := hw.1 hc
          obtain ⟨h3, hw⟩ := hw
          refine aIinc (pc' := 229) dX10_asks_226 rfl (by decide) ⟨by decide, by decide⟩ h3.1 h3.2 rfl (L' := [some (aO 40 0), some (aI ((p : Int))), some (aI v), some (aI l3), some (aI l4), some (aI l5), some (aI ((l6 : Int))), some (aI ((l7 + 1))), none]) rfl ?_
          refine aGoto (pc' := 155) dX10_asks_229 (by decide) ?_
          exact hw
        · have hw := hw.2 hc
          refine aAload_n (pc' := 187) dX10_asks_186 rfl rfl ?_
          refine aIload (pc' := 189) dX10_asks_187 rfl rfl ?_
          refine cVI (c := 10) (pc' := 192) [aI l7] dX10_asks_189 lX10_238 okX10_spare ⟨by decide, by decide⟩ npX10_spare rfl rfl rfl rfl rfl (by decide) rfl (cMetI_mono hw (fun x4 J6 hw => ?_))
          obtain ⟨S5, rfl, hw⟩ := hw
          refine aIf_ne (tgt := 198) (pc' := 195) dX10_asks_192 (by decide) rfl (fun hc => ?_) (fun hc => ?_)
          · have hw := hw.1 hc
            refine aAload_n (pc' := 199) dX10_asks_198 rfl rfl ?_
            refine aIload (pc' := 201) dX10_asks_199 rfl rfl ?_
            refine cVI (c := 10) (pc' := 204) [aI l7] dX10_asks_201 lX10_238 okX10_spare ⟨by decide, by decide⟩ npX10_spare rfl rfl rfl rfl rfl (by decide) rfl (cMetI_mono hw (fun x7 J9 hw => ?_))
            obtain ⟨S8, rfl, hw⟩ := hw
            refine aIload (pc' := 206) dX10_asks_204 rfl rfl ?_
            refine aMin (pc' := 209) dX10_asks_206 lX10_228 rfl rfl (Nat.le_refl _) (Nat.le_refl _) rfl ?_
            refine aIstore (pc' := 211) dX10_asks_209 (by decide) rfl (L' := [some (aO 40 0), some (aI ((p : Int))), some (aI v), some (aI l3), some (aI l4), some (aI ((min x7 (l6 : Int)))), some (aI ((l6 : Int))), some (aI l7), none]) rfl ?_
            refine aAload_n (pc' := 212) dX10_asks_211 rfl rfl ?_
            refine aIload (pc' := 214) dX10_asks_212 rfl rfl ?_
            refine aIload (pc' := 216) dX10_asks_214 rfl rfl ?_
            refine cVV (c := 10) (pc' := 219) [aI l7, aI ((min x7 (l6 : Int)))] dX10_asks_216 lX10_241 okX10_gives ⟨by decide, by decide⟩ npX10_gives rfl rfl rfl rfl rfl (by decide) rfl (cMetV_mono hw (fun J12 hw => ?_))
            obtain ⟨S11, rfl, hw⟩ := hw
            refine aIload (pc' := 221) dX10_asks_219 rfl rfl ?_
            refine aIload (pc' := 223) dX10_asks_221 rfl rfl ?_
            obtain ⟨h13, hw⟩ := hw
            refine aIsub (pc' := 224) h13.1 h13.2 dX10_asks_223 rfl ?_
            refine aIstore (pc' := 226) dX10_asks_224 (by decide) rfl (L' := [some (aO 40 0), some (aI ((p : Int))), some (aI v), some (aI l3), some (aI l4), some (aI ((min x7 (l6 : Int)))), some (aI (((l6 : Int) - (min x7 (l6 : Int))))), some (aI l7), none]) rfl ?_
            obtain ⟨h14, hw⟩ := hw
            refine aIinc (pc' := 229) dX10_asks_226 rfl (by decide) ⟨by decide, by decide⟩ h14.1 h14.2 rfl (L' := [some (aO 40 0), some (aI ((p : Int))), some (aI v), some (aI l3), some (aI l4), some (aI ((min x7 (l6 : Int)))), some (aI (((l6 : Int) - (min x7 (l6 : Int))))), some (aI ((l7 + 1))), none]) rfl ?_
            refine aGoto (pc' := 155) dX10_asks_229 (by decide) ?_
            exact hw
          · have hw := hw.2 hc
            refine aGoto (pc' := 226) dX10_asks_195 (by decide) ?_
            obtain ⟨h15, hw⟩ := hw
            refine aIinc (pc' := 229) dX10_asks_226 rfl (by decide) ⟨by decide, by decide⟩ h15.1 h15.2 rfl (L' := [some (aO 40 0), some (aI ((p : Int))), some (aI v), some (aI l3), some (aI l4), some (aI l5), some (aI ((l6 : Int))), some (aI ((l7 + 1))), none]) rfl ?_
            refine aGoto (pc' := 155) dX10_asks_229 (by decide) ?_
            exact hw
set_option maxRecDepth 100000 in
set_option maxHeartbeats 4000000 in
theorem gX10_asks_232 {w : aW} {mm : Nat} {C : aIF} {S : aS} {p : Nat} {v : Int} {l3 : Int} {l4 : Int} {l5 : Int} {l6 : Int} {l7 : Int} {P : Int → aS → Prop} (hw : ((l6 ≤ 0) → (p < 6) ∧ ((-2147483648 ≤ ((S 29 p) + l3) ∧ ((S 29 p) + l3) < 2147483648) ∧ (rMetV w mX10_tells [aO 40 0, aI ((p : Int)), aI 1, aI l3] C (sU S 29 p (((S 29 p) + l3))) (rf mm) (fun S4 => P 1 S4)))) ∧ ((¬ (l6 ≤ 0)) → rRunI w mX10_asks 243 [some (aO 40 0), some (aI ((p : Int))), some (aI v), some (aI l3), some (aI l4), some (aI l5), some (aI l6), some (aI ((-1))), some (aI 0)] [] C S (rf mm) P)) : rRunI w mX10_asks 232 [some (aO 40 0), some (aI ((p : Int))), some (aI v), some (aI l3), some (aI l4), some (aI l5), some (aI l6), some (aI l7), none] [] C S (rf mm) P := by
  refine aIload (pc' := 234) dX10_asks_232 rfl rfl ?_
  refine aIf_le (tgt := 328) (pc' := 237) dX10_asks_234 (by decide) rfl (fun hc => ?_) (fun hc => ?_)
  · have hw := hw.1 hc
    refine aAload_n (pc' := 329) dX10_asks_328 rfl rfl ?_
    refine aGetR (pc' := 332) (q := (69, 0)) dX10_asks_329 fX10_69 rfl rfl (lv (by decide)) rfl rfl ?_
    refine aIload_n (pc' := 333) dX10_asks_332 rfl rfl ?_
    refine aDup2 (pc' := 334) rfl rfl dX10_asks_333 rfl ?_
    obtain ⟨h1, hw⟩ := hw
    refine aIald (pc' := 335) (j := p) dX10_asks_334 rfl (lv (by decide)) rfl h1 rfl ?_
    refine aTopEq (y := (S 29 p)) rfl ?_
    refine aIload_n (pc' := 336) dX10_asks_335 rfl rfl ?_
    obtain ⟨h2, hw⟩ := hw
    refine aIadd (pc' := 337) h2.1 h2.2 dX10_asks_336 rfl ?_
    refine aIast (pc' := 338) (j := p) dX10_asks_337 rfl (lv (by decide)) rfl h1 rfl (cEqI (mA (f := 29) rfl rfl rfl) ?_)
    refine aAload_n (pc' := 339) dX10_asks_338 rfl rfl ?_
    refine aIload_n (pc' := 340) dX10_asks_339 rfl rfl ?_
    refine aIconst (pc' := 341) ⟨by decide, by decide⟩ dX10_asks_340 rfl ?_
    refine aIload_n (pc' := 342) dX10_asks_341 rfl rfl ?_
    refine cVV (c := 10) (pc' := 345) [aI ((p : Int)), aI 1, aI l3] dX10_asks_342 lX10_215 okX10_tells ⟨by decide, by decide⟩ npX10_tells rfl rfl rfl rfl rfl (by decide) rfl (cMetV_mono hw (fun J5 hw => ?_))
    obtain ⟨S4, rfl, hw⟩ := hw
    refine aIconst (pc' := 346) ⟨by decide, by decide⟩ dX10_asks_345 rfl ?_
    exact cZret dX10_asks_346 okX10_asks rfl (by decide) ⟨rfl, _, rfl, _, rfl, hw⟩
  · have hw := hw.2 hc
    refine aIconst (pc' := 238) ⟨by decide, by decide⟩ dX10_asks_237 rfl ?_
    refine aIstore (pc' := 240) dX10_asks_238 (by decide) rfl (L' := [some (aO 40 0), some (aI ((p : Int))), some (aI v), some (aI l3), some (aI l4), some (aI l5), some (aI l6), some (aI ((-1))), none]) rfl ?_
    refine aIconst (pc' := 241) ⟨by decide, by decide⟩ dX10_asks_240 rfl ?_
    refine aIstore (pc' := 243) dX10_asks_241 (by decide) rfl (L' := [some (aO 40 0), some (aI ((p : Int))), some (aI v), some (aI l3), some (aI l4), some (aI l5), some (aI l6), some (aI ((-1))), some (aI 0)]) rfl ?_
    exact hw
set_option maxRecDepth 100000 in
set_option maxHeartbeats 4000000 in
theorem gX10_asks_243 {w : aW} {mm : Nat} {C : aIF} {S : aS} {p : Nat} {v : Int} {l3 : Int} {l4 : Int} {l5 : Int} {l6 : Int} {l7 : Int} {l8 : Nat} {P : Int → aS → Prop} (hw : (((S 23 0) ≤ (l8 : Int)) → rMetV w mX10_gives [aO 40 0, aI l7, aI ((S 5 0))] C S (rf mm) (fun S2 => (-2147483648 ≤ (l6 - (S2 5 0)) ∧ (l6 - (S2 5 0)) < 2147483648) ∧ (rRunI w mX10_asks 232 [some (aO 40 0), some (aI ((p : Int))), some (aI v), some (aI l3), some (aI l4), some (aI l5), some (aI ((l6 - (S2 5 0)))), some (aI l7), none] [] C S2 (rf mm) P))) ∧ ((¬ ((S 23 0) ≤ (l8 : Int))) → (((l8 : Int) = (p : Int)) → (l8 + 1 < 2147483648) ∧ (rRunI w mX10_asks 243 [some (aO 40 0), some (aI ((p : Int))), some (aI v), some (aI l3), some (aI l4), some (aI l5), some (aI l6), some (aI l7), some (aI ((((l8 + 1) : Nat) : Int)))] [] C S (rf mm) P)) ∧ ((¬ ((l8 : Int) = (p : Int))) → rMetI w mX10_isUp [aO 40 0, aI ((l8 : Int))] C S (rf mm) (fun x6 S7 => ((x6 = 0) → (l8 + 1 < 2147483648) ∧ (rRunI w mX10_asks 243 [some (aO 40 0), some (aI ((p : Int))), some (aI v), some (aI l3), some (aI l4), some (aI l5), some (aI l6), some (aI l7), some (aI ((((l8 + 1) : Nat) : Int)))] [] C S7 (rf mm) P)) ∧ ((¬ (x6 = 0)) → rMetI w mX10_spare [aO 40 0, aI ((l8 : Int))] C S7 (rf mm) (fun x10 S11 => ((x10 ≤ 0) → (l8 + 1 < 2147483648) ∧ (rRunI w mX10_asks 243 [some (aO 40 0), some (aI ((p : Int))), some (aI v), some (aI l3), some (aI l4), some (aI l5), some (aI l6), some (aI l7), some (aI ((((l8 + 1) : Nat) : Int)))] [] C S11 (rf mm) P)) ∧ ((¬ (x10 ≤ 0)) → ((l7 < 0) → (l8 + 1 < 2147483648) ∧ (rRunI w mX10_asks 243 [some (aO 40 0), some (aI ((p : Int))), some (aI v), some (aI l3), some (aI l4), some (aI l5), some (aI l6), some (aI ((l8 : Int))), some (aI ((((l8 + 1) : Nat) : Int)))] [] C S11 (rf mm) P)) ∧ ((¬ (l7 < 0)) → rMetI w mX10_spare [aO 40 0, aI ((l8 : Int))] C S11 (rf mm) (fun x15 S16 => rMetI w mX10_spare [aO 40 0, aI l7] C S16 (rf mm) (fun x18 S19 => ((x15 ≤ x18) → (l8 + 1 < 2147483648) ∧ (rRunI w mX10_asks 243 [some (aO 40 0), some (aI ((p : Int))), some (aI v), some (aI l3), some (aI l4), some (aI l5), some (aI l6), some (aI l7), some (aI ((((l8 + 1) : Nat) : Int)))] [] C S19 (rf mm) P)) ∧ ((¬ (x15 ≤ x18)) → (l8 + 1 < 2147483648) ∧ (rRunI w mX10_asks 243 [some (aO 40 0), some (aI ((p : Int))), some (aI v), some (aI l3), some (aI l4), some (aI l5), some (aI l6), some (aI ((l8 : Int))), some (aI ((((l8 + 1) : Nat) : Int)))] [] C S19 (rf mm) P)))))))))))) : rRunI w mX10_asks 243 [some (aO 40 0), some (aI ((p : Int))), some (aI v), some (aI l3), some (aI l4), some (aI l5), some (aI l6), some (aI l7), some (aI ((l8 : Int)))] [] C S (rf mm) P := by
  refine aIload (pc' := 245) dX10_asks_243 rfl rfl ?_
  refine aAload_n (pc' := 246) dX10_asks_245 rfl rfl ?_
  refine aGetI (pc' := 249) dX10_asks_246 fX10_157 rfl rfl (lv (by decide)) rfl ?_
  refine aTopEq (y := (S 23 0)) rfl ?_
  refine aIcmp_ge (tgt := 306) (pc' := 252) dX10_asks_249 (by decide) rfl (fun hc => ?_) (fun hc => ?_)
  · have hw := hw.1 hc
    refine aAload_n (pc' := 307) dX10_asks_306 rfl rfl ?_
    refine aIload (pc' := 309) dX10_asks_307 rfl rfl ?_
    refine aAload_n (pc' := 310) dX10_asks_309 rfl rfl ?_
    refine aGetI (pc' := 313) dX10_asks_310 fX10_23 rfl rfl (lv (by decide)) rfl ?_
    refine aTopEq (y := (S 5 0)) rfl ?_
    refine cVV (c := 10) (pc' := 316) [aI l7, aI ((S 5 0))] dX10_asks_313 lX10_241 okX10_gives ⟨by decide, by decide⟩ npX10_gives rfl rfl rfl rfl rfl (by decide) rfl (cMetV_mono hw (fun J3 hw => ?_))
    obtain ⟨S2, rfl, hw⟩ := hw
    refine aIload (pc' := 318) dX10_asks_316 rfl rfl ?_
    refine aAload_n (pc' := 319) dX10_asks_318 rfl rfl ?_
    refine aGetI (pc' := 322) dX10_asks_319 fX10_23 rfl rfl (lv (by decide)) rfl ?_
    refine aTopEq (y := (S2 5 0)) rfl ?_
    obtain ⟨h4, hw⟩ := hw
    refine aIsub (pc' := 323) h4.1 h4.2 dX10_asks_322 rfl ?_
    refine aIstore (pc' := 325) dX10_asks_323 (by decide) rfl (L' := [some (aO 40 0), some (aI ((p : Int))), some (aI v), some (aI l3), some (aI l4), some (aI l5), some (aI ((l6 - (S2 5 0)))), some (aI l7), some (aI ((l8 : Int)))]) rfl ?_
    refine aGoto (pc' := 232) dX10_asks_325 (by decide) ?_
    exact aDrop [8] (L' := [some (aO 40 0), some (aI ((p : Int))), some (aI v), some (aI l3), some (aI l4), some (aI l5), some (aI ((l6 - (S2 5 0)))), some (aI l7), none]) rfl hw
  · have hw := hw.2 hc
    refine aIload (pc' := 254) dX10_asks_252 rfl rfl ?_
    refine aIload_n (pc' := 255) dX10_asks_254 rfl rfl ?_
    refine aIcmp_eq (tgt := 300) (pc' := 258) dX10_asks_255 (by decide) rfl (fun hc => ?_) (fun hc => ?_)
    · have hw := hw.1 hc
      obtain ⟨h5, hw⟩ := hw
      refine aIinc1 (pc' := 303) dX10_asks_300 rfl (by decide) h5 rfl (L' := [some (aO 40 0), some (aI ((p : Int))), some (aI v), some (aI l3), some (aI l4), some (aI l5), some (aI l6), some (aI l7), some (aI ((((l8 + 1) : Nat) : Int)))]) rfl ?_
      refine aGoto (pc' := 243) dX10_asks_303 (by decide) ?_
      exact hw
    · have hw := hw.2 hc
      refine aAload_n (pc' := 259) dX10_asks_258 rfl rfl ?_
      refine aIload (pc' := 261) dX10_asks_259 rfl rfl ?_
      refine cVI (c := 10) (pc' := 264) [aI ((l8 : Int))] dX10_asks_261 lX10_244 okX10_isUp ⟨by decide, by decide⟩ npX10_isUp rfl rfl rfl rfl rfl (by decide) rfl (cMetI_mono hw (fun x6 J8 hw => ?_))
      obtain ⟨S7, rfl, hw⟩ := hw
      refine aIf_eq (tgt := 300) (pc' := 267) dX10_asks_264 (by decide) rfl (fun hc => ?_) (fun hc => ?_)
      · have hw := hw.1 hc
        obtain ⟨h9, hw⟩ := hw
        refine aIinc1 (pc' := 303) dX10_asks_300 rfl (by decide) h9 rfl (L' := [some (aO 40 0), some (aI ((p : Int))), some (aI v), some (aI l3), some (aI l4), some (aI l5), some (aI l6), some (aI l7), some (aI ((((l8 + 1) : Nat) : Int)))]) rfl ?_
        refine aGoto (pc' := 243) dX10_asks_303 (by decide) ?_
        exact hw
      · have hw := hw.2 hc
        refine aAload_n (pc' := 268) dX10_asks_267 rfl rfl ?_
        refine aIload (pc' := 270) dX10_asks_268 rfl rfl ?_
        refine cVI (c := 10) (pc' := 273) [aI ((l8 : Int))] dX10_asks_270 lX10_238 okX10_spare ⟨by decide, by decide⟩ npX10_spare rfl rfl rfl rfl rfl (by decide) rfl (cMetI_mono hw (fun x10 J12 hw => ?_))
        obtain ⟨S11, rfl, hw⟩ := hw
        refine aIf_le (tgt := 300) (pc' := 276) dX10_asks_273 (by decide) rfl (fun hc => ?_) (fun hc => ?_)
        · have hw := hw.1 hc
          obtain ⟨h13, hw⟩ := hw
          refine aIinc1 (pc' := 303) dX10_asks_300 rfl (by decide) h13 rfl (L' := [some (aO 40 0), some (aI ((p : Int))), some (aI v), some (aI l3), some (aI l4), some (aI l5), some (aI l6), some (aI l7), some (aI ((((l8 + 1) : Nat) : Int)))]) rfl ?_
          refine aGoto (pc' := 243) dX10_asks_303 (by decide) ?_
          exact hw
        · have hw := hw.2 hc
          refine aIload (pc' := 278) dX10_asks_276 rfl rfl ?_
          refine aIf_lt (tgt := 296) (pc' := 281) dX10_asks_278 (by decide) rfl (fun hc => ?_) (fun hc => ?_)
          · have hw := hw.1 hc
            refine aIload (pc' := 298) dX10_asks_296 rfl rfl ?_
            refine aIstore (pc' := 300) dX10_asks_298 (by decide) rfl (L' := [some (aO 40 0), some (aI ((p : Int))), some (aI v), some (aI l3), some (aI l4), some (aI l5), some (aI l6), some (aI ((l8 : Int))), some (aI ((l8 : Int)))]) rfl ?_
            obtain ⟨h14, hw⟩ := hw
            refine aIinc1 (pc' := 303) dX10_asks_300 rfl (by decide) h14 rfl (L' := [some (aO 40 0), some (aI ((p : Int))), some (aI v), some (aI l3), some (aI l4), some (aI l5), some (aI l6), some (aI ((l8 : Int))), some (aI ((((l8 + 1) : Nat) : Int)))]) rfl ?_
            refine aGoto (pc' := 243) dX10_asks_303 (by decide) ?_
            exact hw
          · have hw := hw.2 hc
            refine aAload_n (pc' := 282) dX10_asks_281 rfl rfl ?_
            refine aIload (pc' := 284) dX10_asks_282 rfl rfl ?_
            refine cVI (c := 10) (pc' := 287) [aI ((l8 : Int))] dX10_asks_284 lX10_238 okX10_spare ⟨by decide, by decide⟩ npX10_spare rfl rfl rfl rfl rfl (by decide) rfl (cMetI_mono hw (fun x15 J17 hw => ?_))
            obtain ⟨S16, rfl, hw⟩ := hw
            refine aAload_n (pc' := 288) dX10_asks_287 rfl rfl ?_
            refine aIload (pc' := 290) dX10_asks_288 rfl rfl ?_
            refine cVI (c := 10) (pc' := 293) [aI l7] dX10_asks_290 lX10_238 okX10_spare ⟨by decide, by decide⟩ npX10_spare rfl rfl rfl rfl rfl (by decide) rfl (cMetI_mono hw (fun x18 J20 hw => ?_))
            obtain ⟨S19, rfl, hw⟩ := hw
            refine aIcmp_le (tgt := 300) (pc' := 296) dX10_asks_293 (by decide) rfl (fun hc => ?_) (fun hc => ?_)
            · have hw := hw.1 hc
              obtain ⟨h21, hw⟩ := hw
              refine aIinc1 (pc' := 303) dX10_asks_300 rfl (by decide) h21 rfl (L' := [some (aO 40 0), some (aI ((p : Int))), some (aI v), some (aI l3), some (aI l4), some (aI l5), some (aI l6), some (aI l7), some (aI ((((l8 + 1) : Nat) : Int)))]) rfl ?_
              refine aGoto (pc' := 243) dX10_asks_303 (by decide) ?_
              exact hw
            · have hw := hw.2 hc
              refine aIload (pc' := 298) dX10_asks_296 rfl rfl ?_
              refine aIstore (pc' := 300) dX10_asks_298 (by decide) rfl (L' := [some (aO 40 0), some (aI ((p : Int))), some (aI v), some (aI l3), some (aI l4), some (aI l5), some (aI l6), some (aI ((l8 : Int))), some (aI ((l8 : Int)))]) rfl ?_
              obtain ⟨h22, hw⟩ := hw
              refine aIinc1 (pc' := 303) dX10_asks_300 rfl (by decide) h22 rfl (L' := [some (aO 40 0), some (aI ((p : Int))), some (aI v), some (aI l3), some (aI l4), some (aI l5), some (aI l6), some (aI ((l8 : Int))), some (aI ((((l8 + 1) : Nat) : Int)))]) rfl ?_
              refine aGoto (pc' := 243) dX10_asks_303 (by decide) ?_
              exact hw
set_option maxRecDepth 100000 in
set_option maxHeartbeats 4000000 in
theorem gX10_begin {w : aW} {mm : Nat} {C : aIF} {S : aS} {P : Int → aS → Prop} (hw : rMetI w mX10_dealt [aO 40 0] C (sU S 0 0 0) (rf mm) (fun x1 S2 => (((S2 17 0) = 0) → P 0 S2) ∧ ((¬ ((S2 17 0) = 0)) → (((S2 10 0) ≠ 0) → rRunI w mX10_begin 64 [some (aO 40 0), some (aI x1), some (aI 0)] [] C (sU (sU (sU (sU (sU (sU S2 22 0 1) 23 0 ((S2 10 0))) 24 0 0) 25 0 ((S2 6 0))) 26 0 0) 27 0 0) (rf mm) P) ∧ (((S2 10 0) = 0) → P 0 S2)))) : rMetI w mX10_begin [aO 40 0] C S (rf mm) P := by
  refine cMet_of okX10_begin (Nat.le_of_ble_eq_true rfl) (fun hos => ?_)
  show cRun w mX10_begin 0 [some (aO 40 0), none, none] [] (mem C S) (rf mm) (rqI (rf mm) C P)
  refine aAload_n (pc' := 1) dX10_begin_0 rfl rfl ?_
  refine aIconst (pc' := 2) ⟨by decide, by decide⟩ dX10_begin_1 rfl ?_
  refine aPutI (pc' := 5) dX10_begin_2 fX10_121 rfl rfl (Or.inl rfl) (lv (by decide)) rfl (cEqI (mS (f := 0) rfl) ?_)
  refine aAload_n (pc' := 6) dX10_begin_5 rfl rfl ?_
  refine cVI (c := 10) (pc' := 9) [] dX10_begin_6 lX10_192 okX10_dealt ⟨by decide, by decide⟩ npX10_dealt rfl rfl rfl rfl rfl (by decide) rfl (cMetI_mono hw (fun x1 J3 hw => ?_))
  obtain ⟨S2, rfl, hw⟩ := hw
  refine aIstore_n (pc' := 10) dX10_begin_9 (by decide) rfl (L' := [some (aO 40 0), some (aI x1), none]) rfl ?_
  refine aAload_n (pc' := 11) dX10_begin_10 rfl rfl ?_
  refine aGetI (pc' := 14) dX10_begin_11 fX10_143 rfl rfl (lv (by decide)) rfl ?_
  refine aTopEq (y := (S2 17 0)) rfl ?_
  refine aIf_eq (tgt := 24) (pc' := 17) dX10_begin_14 (by decide) rfl (fun hc => ?_) (fun hc => ?_)
  · have hw := hw.1 hc
    refine aIconst (pc' := 25) ⟨by decide, by decide⟩ dX10_begin_24 rfl ?_
    exact cZret dX10_begin_25 okX10_begin rfl (by decide) ⟨rfl, _, rfl, _, rfl, hw⟩
  · have hw := hw.2 hc
    refine aAload_n (pc' := 18) dX10_begin_17 rfl rfl ?_
    refine aGetI (pc' := 21) dX10_begin_18 fX10_146 rfl rfl (lv (by decide)) rfl ?_
    refine aTopEq (y := (S2 10 0)) rfl ?_
    refine aIf_ne (tgt := 26) (pc' := 24) dX10_begin_21 (by decide) rfl (fun hc => ?_) (fun hc => ?_)
    · have hw := hw.1 hc
      refine aAload_n (pc' := 27) dX10_begin_26 rfl rfl ?_
      refine aIconst (pc' := 28) ⟨by decide, by decide⟩ dX10_begin_27 rfl ?_
      refine aPutZ (pc' := 31) dX10_begin_28 fX10_136 rfl rfl (Or.inl rfl) (lv (by decide)) (by decide) rfl (cEqI (mS (f := 22) rfl) ?_)
      refine aAload_n (pc' := 32) dX10_begin_31 rfl rfl ?_
      refine aAload_n (pc' := 33) dX10_begin_32 rfl rfl ?_
      refine aGetI (pc' := 36) dX10_begin_33 fX10_146 rfl rfl (lv (by decide)) rfl ?_
      refine aTopEq (y := ((sU S2 22 0 1) 10 0)) rfl ?_
      refine aTopEq (sU_f rfl) ?_
      refine aPutI (pc' := 39) dX10_begin_36 fX10_157 rfl rfl (Or.inl rfl) (lv (by decide)) rfl (cEqI (mS (f := 23) rfl) ?_)
      refine aAload_n (pc' := 40) dX10_begin_39 rfl rfl ?_
      refine aIconst (pc' := 41) ⟨by decide, by decide⟩ dX10_begin_40 rfl ?_
      refine aPutI (pc' := 44) dX10_begin_41 fX10_203 rfl rfl (Or.inl rfl) (lv (by decide)) rfl (cEqI (mS (f := 24) rfl) ?_)
      refine aAload_n (pc' := 45) dX10_begin_44 rfl rfl ?_
      refine aAload_n (pc' := 46) dX10_begin_45 rfl rfl ?_
      refine aGetI (pc' := 49) dX10_begin_46 fX10_27 rfl rfl (lv (by decide)) rfl ?_
      refine aTopEq (y := ((sU (sU (sU S2 22 0 1) 23 0 ((S2 10 0))) 24 0 0) 6 0)) rfl ?_
      refine aTopEq (((sU_f rfl).trans (sU_f rfl)).trans (sU_f rfl)) ?_
      refine aPutI (pc' := 52) dX10_begin_49 fX10_206 rfl rfl (Or.inl rfl) (lv (by decide)) rfl (cEqI (mS (f := 25) rfl) ?_)
      refine aAload_n (pc' := 53) dX10_begin_52 rfl rfl ?_
      refine aIconst (pc' := 54) ⟨by decide, by decide⟩ dX10_begin_53 rfl ?_
      refine aPutI (pc' := 57) dX10_begin_54 fX10_209 rfl rfl (Or.inl rfl) (lv (by decide)) rfl (cEqI (mS (f := 26) rfl) ?_)
      refine aAload_n (pc' := 58) dX10_begin_57 rfl rfl ?_
      refine aIconst (pc' := 59) ⟨by decide, by decide⟩ dX10_begin_58 rfl ?_
      refine aPutI (pc' := 62) dX10_begin_59 fX10_212 rfl rfl (Or.inl rfl) (lv (by decide)) rfl (cEqI (mS (f := 27) rfl) ?_)
      refine aIconst (pc' := 63) ⟨by decide, by decide⟩ dX10_begin_62 rfl ?_
      refine aIstore_n (pc' := 64) dX10_begin_63 (by decide) rfl (L' := [some (aO 40 0), some (aI x1), some (aI 0)]) rfl ?_
      exact hw
    · have hw := hw.2 hc
      refine aIconst (pc' := 25) ⟨by decide, by decide⟩ dX10_begin_24 rfl ?_
      exact cZret dX10_begin_25 okX10_begin rfl (by decide) ⟨rfl, _, rfl, _, rfl, hw⟩
set_option maxRecDepth 100000 in
set_option maxHeartbeats 4000000 in
theorem gX10_begin_64 {w : aW} {mm : Nat} {C : aIF} {S : aS} {l1 : Int} {l2 : Nat} {P : Int → aS → Prop} (hw : (((S 23 0) ≤ (l2 : Int)) → P 1 S) ∧ ((¬ ((S 23 0) ≤ (l2 : Int))) → (l2 < 6) ∧ ((-2147483648 ≤ ((S 25 0) - (S 18 l2)) ∧ ((S 25 0) - (S 18 l2)) < 2147483648) ∧ ((l2 + 1 < 2147483648) ∧ (rRunI w mX10_begin 64 [some (aO 40 0), some (aI l1), some (aI ((((l2 + 1) : Nat) : Int)))] [] C (sU (sU (sU (sU (sU (sU (sU (sU (sU (sU (sU (sU (sU (sU (sU (sU (sU S 28 l2 0) 29 l2 ((S 18 l2))) 25 0 (((S 25 0) - (S 18 l2)))) 30 l2 0) 31 l2 0) 32 l2 0) 33 l2 0) 34 l2 0) 35 l2 0) 36 l2 0) 37 l2 0) 38 l2 ((-1))) 39 l2 0) 40 l2 0) 41 l2 0) 42 l2 0) 43 l2 0) (rf mm) P))))) : rRunI w mX10_begin 64 [some (aO 40 0), some (aI l1), some (aI ((l2 : Int)))] [] C S (rf mm) P := by
  refine aIload_n (pc' := 65) dX10_begin_64 rfl rfl ?_
  refine aAload_n (pc' := 66) dX10_begin_65 rfl rfl ?_
  refine aGetI (pc' := 69) dX10_begin_66 fX10_157 rfl rfl (lv (by decide)) rfl ?_
  refine aTopEq (y := (S 23 0)) rfl ?_
  refine aIcmp_ge (tgt := 210) (pc' := 72) dX10_begin_69 (by decide) rfl (fun hc => ?_) (fun hc => ?_)
  · have hw := hw.1 hc
    refine aIconst (pc' := 211) ⟨by decide, by decide⟩ dX10_begin_210 rfl ?_
    exact cZret dX10_begin_211 okX10_begin rfl (by decide) ⟨rfl, _, rfl, _, rfl, hw⟩
  · have hw := hw.2 hc
    refine aAload_n (pc' := 73) dX10_begin_72 rfl rfl ?_
    refine aGetR (pc' := 76) (q := (68, 0)) dX10_begin_73 fX10_66 rfl rfl (lv (by decide)) rfl rfl ?_
    refine aIload_n (pc' := 77) dX10_begin_76 rfl rfl ?_
    refine aIconst (pc' := 78) ⟨by decide, by decide⟩ dX10_begin_77 rfl ?_
    obtain ⟨h1, hw⟩ := hw
    refine aIast (pc' := 79) (j := l2) dX10_begin_78 rfl (lv (by decide)) rfl h1 rfl (cEqI (mA (f := 28) rfl rfl rfl) ?_)
    refine aAload_n (pc' := 80) dX10_begin_79 rfl rfl ?_
    refine aGetR (pc' := 83) (q := (69, 0)) dX10_begin_80 fX10_69 rfl rfl (lv (by decide)) rfl rfl ?_
    refine aIload_n (pc' := 84) dX10_begin_83 rfl rfl ?_
    refine aAload_n (pc' := 85) dX10_begin_84 rfl rfl ?_
    refine aGetR (pc' := 88) (q := (58, 0)) dX10_begin_85 fX10_54 rfl rfl (lv (by decide)) rfl rfl ?_
    refine aIload_n (pc' := 89) dX10_begin_88 rfl rfl ?_
    refine aIald (pc' := 90) (j := l2) dX10_begin_89 rfl (lv (by decide)) rfl h1 rfl ?_
    refine aTopEq (y := ((sU S 28 l2 0) 18 l2)) rfl ?_
    refine aTopEq (sU_f rfl) ?_
    refine aIast (pc' := 91) (j := l2) dX10_begin_90 rfl (lv (by decide)) rfl h1 rfl (cEqI (mA (f := 29) rfl rfl rfl) ?_)
    refine aAload_n (pc' := 92) dX10_begin_91 rfl rfl ?_
    refine aDup (pc' := 93) rfl dX10_begin_92 rfl ?_
    refine aGetI (pc' := 96) dX10_begin_93 fX10_206 rfl rfl (lv (by decide)) rfl ?_
    refine aTopEq (y := ((sU (sU S 28 l2 0) 29 l2 ((S 18 l2))) 25 0)) rfl ?_
    refine aTopEq ((sU_f rfl).trans (sU_f rfl)) ?_
    refine aAload_n (pc' := 97) dX10_begin_96 rfl rfl ?_
    refine aGetR (pc' := 100) (q := (58, 0)) dX10_begin_97 fX10_54 rfl rfl (lv (by decide)) rfl rfl ?_
    refine aIload_n (pc' := 101) dX10_begin_100 rfl rfl ?_
    refine aIald (pc' := 102) (j := l2) dX10_begin_101 rfl (lv (by decide)) rfl h1 rfl ?_
    refine aTopEq (y := ((sU (sU S 28 l2 0) 29 l2 ((S 18 l2))) 18 l2)) rfl ?_
    refine aTopEq ((sU_f rfl).trans (sU_f rfl)) ?_
    obtain ⟨h2, hw⟩ := hw
    refine aIsub (pc' := 103) h2.1 h2.2 dX10_begin_102 rfl ?_
    refine aPutI (pc' := 106) dX10_begin_103 fX10_206 rfl rfl (Or.inl rfl) (lv (by decide)) rfl (cEqI (mS (f := 25) rfl) ?_)
    refine aAload_n (pc' := 107) dX10_begin_106 rfl rfl ?_
    refine aGetR (pc' := 110) (q := (70, 0)) dX10_begin_107 fX10_72 rfl rfl (lv (by decide)) rfl rfl ?_
    refine aIload_n (pc' := 111) dX10_begin_110 rfl rfl ?_
    refine aIconst (pc' := 112) ⟨by decide, by decide⟩ dX10_begin_111 rfl ?_
    refine aIast (pc' := 113) (j := l2) dX10_begin_112 rfl (lv (by decide)) rfl h1 rfl (cEqI (mA (f := 30) rfl rfl rfl) ?_)
    refine aAload_n (pc' := 114) dX10_begin_113 rfl rfl ?_
    refine aGetR (pc' := 117) (q := (71, 0)) dX10_begin_114 fX10_75 rfl rfl (lv (by decide)) rfl rfl ?_
    refine aIload_n (pc' := 118) dX10_begin_117 rfl rfl ?_
    refine aIconst (pc' := 119) ⟨by decide, by decide⟩ dX10_begin_118 rfl ?_
    refine aIast (pc' := 120) (j := l2) dX10_begin_119 rfl (lv (by decide)) rfl h1 rfl (cEqI (mA (f := 31) rfl rfl rfl) ?_)
    refine aAload_n (pc' := 121) dX10_begin_120 rfl rfl ?_
    refine aGetR (pc' := 124) (q := (72, 0)) dX10_begin_121 fX10_78 rfl rfl (lv (by decide)) rfl rfl ?_
    refine aIload_n (pc' := 125) dX10_begin_124 rfl rfl ?_
    refine aIconst (pc' := 126) ⟨by decide, by decide⟩ dX10_begin_125 rfl ?_
    refine aIast (pc' := 127) (j := l2) dX10_begin_126 rfl (lv (by decide)) rfl h1 rfl (cEqI (mA (f := 32) rfl rfl rfl) ?_)
    refine aAload_n (pc' := 128) dX10_begin_127 rfl rfl ?_
    refine aGetR (pc' := 131) (q := (73, 0)) dX10_begin_128 fX10_81 rfl rfl (lv (by decide)) rfl rfl ?_
    refine aIload_n (pc' := 132) dX10_begin_131 rfl rfl ?_
    refine aIconst (pc' := 133) ⟨by decide, by decide⟩ dX10_begin_132 rfl ?_
    refine aIast (pc' := 134) (j := l2) dX10_begin_133 rfl (lv (by decide)) rfl h1 rfl (cEqI (mA (f := 33) rfl rfl rfl) ?_)
    refine aAload_n (pc' := 135) dX10_begin_134 rfl rfl ?_
    refine aGetR (pc' := 138) (q := (74, 0)) dX10_begin_135 fX10_84 rfl rfl (lv (by decide)) rfl rfl ?_
    refine aIload_n (pc' := 139) dX10_begin_138 rfl rfl ?_
    refine aIconst (pc' := 140) ⟨by decide, by decide⟩ dX10_begin_139 rfl ?_
    refine aIast (pc' := 141) (j := l2) dX10_begin_140 rfl (lv (by decide)) rfl h1 rfl (cEqI (mA (f := 34) rfl rfl rfl) ?_)
    refine aAload_n (pc' := 142) dX10_begin_141 rfl rfl ?_
    refine aGetR (pc' := 145) (q := (75, 0)) dX10_begin_142 fX10_87 rfl rfl (lv (by decide)) rfl rfl ?_
    refine aIload_n (pc' := 146) dX10_begin_145 rfl rfl ?_
    refine aIconst (pc' := 147) ⟨by decide, by decide⟩ dX10_begin_146 rfl ?_
    refine aIast (pc' := 148) (j := l2) dX10_begin_147 rfl (lv (by decide)) rfl h1 rfl (cEqI (mA (f := 35) rfl rfl rfl) ?_)
    refine aAload_n (pc' := 149) dX10_begin_148 rfl rfl ?_
    refine aGetR (pc' := 152) (q := (76, 0)) dX10_begin_149 fX10_90 rfl rfl (lv (by decide)) rfl rfl ?_
    refine aIload_n (pc' := 153) dX10_begin_152 rfl rfl ?_
    refine aIconst (pc' := 154) ⟨by decide, by decide⟩ dX10_begin_153 rfl ?_
    refine aIast (pc' := 155) (j := l2) dX10_begin_154 rfl (lv (by decide)) rfl h1 rfl (cEqI (mA (f := 36) rfl rfl rfl) ?_)
    refine aAload_n (pc' := 156) dX10_begin_155 rfl rfl ?_
    refine aGetR (pc' := 159) (q := (77, 0)) dX10_begin_156 fX10_93 rfl rfl (lv (by decide)) rfl rfl ?_
    refine aIload_n (pc' := 160) dX10_begin_159 rfl rfl ?_
    refine aIconst (pc' := 161) ⟨by decide, by decide⟩ dX10_begin_160 rfl ?_
    refine aIast (pc' := 162) (j := l2) dX10_begin_161 rfl (lv (by decide)) rfl h1 rfl (cEqI (mA (f := 37) rfl rfl rfl) ?_)
    refine aAload_n (pc' := 163) dX10_begin_162 rfl rfl ?_
    refine aGetR (pc' := 166) (q := (78, 0)) dX10_begin_163 fX10_96 rfl rfl (lv (by decide)) rfl rfl ?_
    refine aIload_n (pc' := 167) dX10_begin_166 rfl rfl ?_
    refine aIconst (pc' := 168) ⟨by decide, by decide⟩ dX10_begin_167 rfl ?_
    refine aIast (pc' := 169) (j := l2) dX10_begin_168 rfl (lv (by decide)) rfl h1 rfl (cEqI (mA (f := 38) rfl rfl rfl) ?_)
    refine aAload_n (pc' := 170) dX10_begin_169 rfl rfl ?_
    refine aGetR (pc' := 173) (q := (79, 0)) dX10_begin_170 fX10_99 rfl rfl (lv (by decide)) rfl rfl ?_
    refine aIload_n (pc' := 174) dX10_begin_173 rfl rfl ?_
    refine aIconst (pc' := 175) ⟨by decide, by decide⟩ dX10_begin_174 rfl ?_
    refine aIast (pc' := 176) (j := l2) dX10_begin_175 rfl (lv (by decide)) rfl h1 rfl (cEqI (mA (f := 39) rfl rfl rfl) ?_)
    refine aAload_n (pc' := 177) dX10_begin_176 rfl rfl ?_
    refine aGetR (pc' := 180) (q := (80, 0)) dX10_begin_177 fX10_102 rfl rfl (lv (by decide)) rfl rfl ?_
    refine aIload_n (pc' := 181) dX10_begin_180 rfl rfl ?_
    refine aIconst (pc' := 182) ⟨by decide, by decide⟩ dX10_begin_181 rfl ?_
    refine aIast (pc' := 183) (j := l2) dX10_begin_182 rfl (lv (by decide)) rfl h1 rfl (cEqI (mA (f := 40) rfl rfl rfl) ?_)
    refine aAload_n (pc' := 184) dX10_begin_183 rfl rfl ?_
    refine aGetR (pc' := 187) (q := (81, 0)) dX10_begin_184 fX10_105 rfl rfl (lv (by decide)) rfl rfl ?_
    refine aIload_n (pc' := 188) dX10_begin_187 rfl rfl ?_
    refine aIconst (pc' := 189) ⟨by decide, by decide⟩ dX10_begin_188 rfl ?_
    refine aIast (pc' := 190) (j := l2) dX10_begin_189 rfl (lv (by decide)) rfl h1 rfl (cEqI (mA (f := 41) rfl rfl rfl) ?_)
    refine aAload_n (pc' := 191) dX10_begin_190 rfl rfl ?_
    refine aGetR (pc' := 194) (q := (82, 0)) dX10_begin_191 fX10_108 rfl rfl (lv (by decide)) rfl rfl ?_
    refine aIload_n (pc' := 195) dX10_begin_194 rfl rfl ?_
    refine aIconst (pc' := 196) ⟨by decide, by decide⟩ dX10_begin_195 rfl ?_
    refine aZast (pc' := 197) (j := l2) dX10_begin_196 rfl (lv (by decide)) rfl h1 (by decide) rfl (cEqI (mA (f := 42) rfl rfl rfl) ?_)
    refine aAload_n (pc' := 198) dX10_begin_197 rfl rfl ?_
    refine aGetR (pc' := 201) (q := (83, 0)) dX10_begin_198 fX10_112 rfl rfl (lv (by decide)) rfl rfl ?_
    refine aIload_n (pc' := 202) dX10_begin_201 rfl rfl ?_
    refine aIconst (pc' := 203) ⟨by decide, by decide⟩ dX10_begin_202 rfl ?_
    refine aZast (pc' := 204) (j := l2) dX10_begin_203 rfl (lv (by decide)) rfl h1 (by decide) rfl (cEqI (mA (f := 43) rfl rfl rfl) ?_)
    obtain ⟨h3, hw⟩ := hw
    refine aIinc1 (pc' := 207) dX10_begin_204 rfl (by decide) h3 rfl (L' := [some (aO 40 0), some (aI l1), some (aI ((((l2 + 1) : Nat) : Int)))]) rfl ?_
    refine aGoto (pc' := 64) dX10_begin_207 (by decide) ?_
    exact hw
set_option maxRecDepth 100000 in
set_option maxHeartbeats 4000000 in
theorem gX10_best {w : aW} {mm : Nat} {C : aIF} {S : aS} {P : Int → aS → Prop} (hw : rMetI w mX10_areNeeds [aO 40 0] C (sU S 0 0 0) (rf mm) (fun x1 S2 => (x1 = 0 ∨ x1 = 1) ∧ (((x1 ≠ 0) → (-2147483648 ≤ ((S2 6 0) - (S2 7 0)) ∧ ((S2 6 0) - (S2 7 0)) < 2147483648) ∧ ((0 ≤ ((S2 6 0) - (S2 7 0)) ∧ 0 < (S2 5 0)) ∧ (rRunI w mX10_best 44 [some (aO 40 0), some (aI ((((S2 6 0) - (S2 7 0)) / (S2 5 0)))), some (aL 1099511627776), none, some (aI 0), none, none, none, none] [] C (sU S2 17 0 x1) (rf mm) P))) ∧ ((x1 = 0) → P (-1) (sU S2 17 0 x1))))) : rMetI w mX10_best [aO 40 0] C S (rf mm) P := by
  refine cMet_of okX10_best (Nat.le_of_ble_eq_true rfl) (fun hos => ?_)
  show cRun w mX10_best 0 [some (aO 40 0), none, none, none, none, none, none, none, none] [] (mem C S) (rf mm) (rqI (rf mm) C P)
  refine aAload_n (pc' := 1) dX10_best_0 rfl rfl ?_
  refine aIconst (pc' := 2) ⟨by decide, by decide⟩ dX10_best_1 rfl ?_
  refine aPutI (pc' := 5) dX10_best_2 fX10_121 rfl rfl (Or.inl rfl) (lv (by decide)) rfl (cEqI (mS (f := 0) rfl) ?_)
  refine aAload_n (pc' := 6) dX10_best_5 rfl rfl ?_
  refine aAload_n (pc' := 7) dX10_best_6 rfl rfl ?_
  refine cVI (c := 10) (pc' := 10) [] dX10_best_7 lX10_184 okX10_areNeeds ⟨by decide, by decide⟩ npX10_areNeeds rfl rfl rfl rfl rfl (by decide) rfl (cMetI_mono hw (fun x1 J3 hw => ?_))
  obtain ⟨S2, rfl, hw⟩ := hw
  obtain ⟨h4, hw⟩ := hw
  refine aPutZ (pc' := 13) dX10_best_10 fX10_143 rfl rfl (Or.inl rfl) (lv (by decide)) h4 rfl (cEqI (mS (f := 17) rfl) ?_)
  refine aAload_n (pc' := 14) dX10_best_13 rfl rfl ?_
  refine aGetI (pc' := 17) dX10_best_14 fX10_143 rfl rfl (lv (by decide)) rfl ?_
  refine aTopEq (y := ((sU S2 17 0 x1) 17 0)) rfl ?_
  refine aTopEq sU_s ?_
  refine aIf_ne (tgt := 22) (pc' := 20) dX10_best_17 (by decide) rfl (fun hc => ?_) (fun hc => ?_)
  · have hw := hw.1 hc
    refine aAload_n (pc' := 23) dX10_best_22 rfl rfl ?_
    refine aGetI (pc' := 26) dX10_best_23 fX10_27 rfl rfl (lv (by decide)) rfl ?_
    refine aTopEq (y := ((sU S2 17 0 x1) 6 0)) rfl ?_
    refine aTopEq (sU_f rfl) ?_
    refine aAload_n (pc' := 27) dX10_best_26 rfl rfl ?_
    refine aGetI (pc' := 30) dX10_best_27 fX10_140 rfl rfl (lv (by decide)) rfl ?_
    refine aTopEq (y := ((sU S2 17 0 x1) 7 0)) rfl ?_
    refine aTopEq (sU_f rfl) ?_
    obtain ⟨h5, hw⟩ := hw
    refine aIsub (pc' := 31) h5.1 h5.2 dX10_best_30 rfl ?_
    refine aAload_n (pc' := 32) dX10_best_31 rfl rfl ?_
    refine aGetI (pc' := 35) dX10_best_32 fX10_23 rfl rfl (lv (by decide)) rfl ?_
    refine aTopEq (y := ((sU S2 17 0 x1) 5 0)) rfl ?_
    refine aTopEq (sU_f rfl) ?_
    obtain ⟨h6, hw⟩ := hw
    refine aIdiv (pc' := 36) h6.1 h6.2 dX10_best_35 rfl ?_
    refine aIstore_n (pc' := 37) dX10_best_36 (by decide) rfl (L' := [some (aO 40 0), some (aI ((((S2 6 0) - (S2 7 0)) / (S2 5 0)))), none, none, none, none, none, none, none]) rfl ?_
    refine aLdc2 (pc' := 40) qX10_195 ⟨by decide, by decide⟩ dX10_best_37 rfl ?_
    refine aLstore_n (pc' := 41) dX10_best_40 (by decide) rfl (L' := [some (aO 40 0), some (aI ((((S2 6 0) - (S2 7 0)) / (S2 5 0)))), some (aL 1099511627776), none, none, none, none, none, none]) rfl ?_
    refine aIconst (pc' := 42) ⟨by decide, by decide⟩ dX10_best_41 rfl ?_
    refine aIstore (pc' := 44) dX10_best_42 (by decide) rfl (L' := [some (aO 40 0), some (aI ((((S2 6 0) - (S2 7 0)) / (S2 5 0)))), some (aL 1099511627776), none, some (aI 0), none, none, none, none]) rfl ?_
    exact hw
  · have hw := hw.2 hc
    refine aIconst (pc' := 21) ⟨by decide, by decide⟩ dX10_best_20 rfl ?_
    exact cIret dX10_best_21 okX10_best rfl ⟨rfl, _, rfl, _, rfl, hw⟩
set_option maxRecDepth 100000 in
set_option maxHeartbeats 4000000 in
theorem gX10_best_44 {w : aW} {mm : Nat} {C : aIF} {S : aS} {l1 : Int} {l2 : Int} {l4 : Nat} {P : Int → aS → Prop} (hw : (((S 10 0) ≤ (l4 : Int)) → rRunI w mX10_best 124 [some (aO 40 0), some (aI l1), some (aL l2), none, some (aI 0), none, none, none, none] [] C S (rf mm) P) ∧ ((¬ ((S 10 0) ≤ (l4 : Int))) → rRunI w mX10_best 56 [some (aO 40 0), some (aI l1), some (aL l2), none, some (aI ((l4 : Int))), some (aI 0), none, none, none] [] C S (rf mm) P)) : rRunI w mX10_best 44 [some (aO 40 0), some (aI l1), some (aL l2), none, some (aI ((l4 : Int))), none, none, none, none] [] C S (rf mm) P := by
  refine aIload (pc' := 46) dX10_best_44 rfl rfl ?_
  refine aAload_n (pc' := 47) dX10_best_46 rfl rfl ?_
  refine aGetI (pc' := 50) dX10_best_47 fX10_146 rfl rfl (lv (by decide)) rfl ?_
  refine aTopEq (y := (S 10 0)) rfl ?_
  refine aIcmp_ge (tgt := 121) (pc' := 53) dX10_best_50 (by decide) rfl (fun hc => ?_) (fun hc => ?_)
  · have hw := hw.1 hc
    refine aIconst (pc' := 122) ⟨by decide, by decide⟩ dX10_best_121 rfl ?_
    refine aIstore (pc' := 124) dX10_best_122 (by decide) rfl (L' := [some (aO 40 0), some (aI l1), some (aL l2), none, some (aI 0), none, none, none, none]) rfl ?_
    exact hw
  · have hw := hw.2 hc
    refine aIconst (pc' := 54) ⟨by decide, by decide⟩ dX10_best_53 rfl ?_
    refine aIstore (pc' := 56) dX10_best_54 (by decide) rfl (L' := [some (aO 40 0), some (aI l1), some (aL l2), none, some (aI ((l4 : Int))), some (aI 0), none, none, none]) rfl ?_
    exact hw
set_option maxRecDepth 100000 in
set_option maxHeartbeats 4000000 in
theorem gX10_best_56 {w : aW} {mm : Nat} {C : aIF} {S : aS} {l1 : Int} {l2 : Int} {l4 : Nat} {l5 : Nat} {P : Int → aS → Prop} (hw : ((l1 < (l5 : Int)) → (l4 + 1 < 2147483648) ∧ (rRunI w mX10_best 44 [some (aO 40 0), some (aI l1), some (aL l2), none, some (aI ((((l4 + 1) : Nat) : Int))), none, none, none, none] [] C S (rf mm) P)) ∧ ((¬ (l1 < (l5 : Int))) → (-2147483648 ≤ (65 * (l4 : Int)) ∧ (65 * (l4 : Int)) < 2147483648) ∧ ((-2147483648 ≤ ((65 * (l4 : Int)) + (l5 : Int)) ∧ ((65 * (l4 : Int)) + (l5 : Int)) < 2147483648) ∧ ((-2147483648 ≤ ((l5 : Int) * (S 5 0)) ∧ ((l5 : Int) * (S 5 0)) < 2147483648) ∧ ((l4 < 6) ∧ ((((S 19 l4) ≤ ((l5 : Int) * (S 5 0))) → (-2147483648 ≤ ((l5 : Int) * (S 5 0)) ∧ ((l5 : Int) * (S 5 0)) < 2147483648) ∧ (rMetI w mX10_alone [aO 40 0, aI ((l4 : Int)), aI (((l5 : Int) * (S 5 0)))] C S (rf mm) (fun x7 S8 => (((65 * l4) + l5) < 390) ∧ ((l5 + 1 < 2147483648) ∧ (rRunI w mX10_best 56 [some (aO 40 0), some (aI l1), some (aL l2), none, some (aI ((l4 : Int))), some (aI ((((l5 + 1) : Nat) : Int))), none, none, none] [] C (sU S8 20 (((65 * l4) + l5)) x7) (rf mm) P))))) ∧ ((¬ ((S 19 l4) ≤ ((l5 : Int) * (S 5 0)))) → (((65 * l4) + l5) < 390) ∧ ((l5 + 1 < 2147483648) ∧ (rRunI w mX10_best 56 [some (aO 40 0), some (aI l1), some (aL l2), none, some (aI ((l4 : Int))), some (aI ((((l5 + 1) : Nat) : Int))), none, none, none] [] C (sU S 20 (((65 * l4) + l5)) ((-1))) (rf mm) P))))))))) : rRunI w mX10_best 56 [some (aO 40 0), some (aI l1), some (aL l2), none, some (aI ((l4 : Int))), some (aI ((l5 : Int))), none, none, none] [] C S (rf mm) P := by
  refine aIload (pc' := 58) dX10_best_56 rfl rfl ?_
  refine aIload_n (pc' := 59) dX10_best_58 rfl rfl ?_
  refine aIcmp_gt (tgt := 115) (pc' := 62) dX10_best_59 (by decide) rfl (fun hc => ?_) (fun hc => ?_)
  · have hw := hw.1 hc
    obtain ⟨h1, hw⟩ := hw
    refine aIinc1 (pc' := 118) dX10_best_115 rfl (by decide) h1 rfl (L' := [some (aO 40 0), some (aI l1), some (aL l2), none, some (aI ((((l4 + 1) : Nat) : Int))), some (aI ((l5 : Int))), none, none, none]) rfl ?_
    refine aGoto (pc' := 44) dX10_best_118 (by decide) ?_
    exact aDrop [5] (L' := [some (aO 40 0), some (aI l1), some (aL l2), none, some (aI ((((l4 + 1) : Nat) : Int))), none, none, none, none]) rfl hw
  · have hw := hw.2 hc
    refine aAload_n (pc' := 63) dX10_best_62 rfl rfl ?_
    refine aGetR (pc' := 66) (q := (60, 0)) dX10_best_63 fX10_60 rfl rfl (lv (by decide)) rfl rfl ?_
    refine aBipush (pc' := 68) ⟨by decide, by decide⟩ dX10_best_66 rfl ?_
    refine aIload (pc' := 70) dX10_best_68 rfl rfl ?_
    obtain ⟨h2, hw⟩ := hw
    refine aImul (pc' := 71) h2.1 h2.2 dX10_best_70 rfl ?_
    refine aIload (pc' := 73) dX10_best_71 rfl rfl ?_
    obtain ⟨h3, hw⟩ := hw
    refine aIadd (pc' := 74) h3.1 h3.2 dX10_best_73 rfl ?_
    refine aIload (pc' := 76) dX10_best_74 rfl rfl ?_
    refine aAload_n (pc' := 77) dX10_best_76 rfl rfl ?_
    refine aGetI (pc' := 80) dX10_best_77 fX10_23 rfl rfl (lv (by decide)) rfl ?_
    refine aTopEq (y := (S 5 0)) rfl ?_
    obtain ⟨h4, hw⟩ := hw
    refine aImul (pc' := 81) h4.1 h4.2 dX10_best_80 rfl ?_
    refine aAload_n (pc' := 82) dX10_best_81 rfl rfl ?_
    refine aGetR (pc' := 85) (q := (59, 0)) dX10_best_82 fX10_57 rfl rfl (lv (by decide)) rfl rfl ?_
    refine aIload (pc' := 87) dX10_best_85 rfl rfl ?_
    obtain ⟨h5, hw⟩ := hw
    refine aIald (pc' := 88) (j := l4) dX10_best_87 rfl (lv (by decide)) rfl h5 rfl ?_
    refine aTopEq (y := (S 19 l4)) rfl ?_
    refine aIcmp_ge (tgt := 95) (pc' := 91) dX10_best_88 (by decide) rfl (fun hc => ?_) (fun hc => ?_)
    · have hw := hw.1 hc
      refine aAload_n (pc' := 96) dX10_best_95 rfl rfl ?_
      refine aIload (pc' := 98) dX10_best_96 rfl rfl ?_
      refine aIload (pc' := 100) dX10_best_98 rfl rfl ?_
      refine aAload_n (pc' := 101) dX10_best_100 rfl rfl ?_
      refine aGetI (pc' := 104) dX10_best_101 fX10_23 rfl rfl (lv (by decide)) rfl ?_
      refine aTopEq (y := (S 5 0)) rfl ?_
      obtain ⟨h6, hw⟩ := hw
      refine aImul (pc' := 105) h6.1 h6.2 dX10_best_104 rfl ?_
      refine cVI (c := 10) (pc' := 108) [aI ((l4 : Int)), aI (((l5 : Int) * (S 5 0)))] dX10_best_105 lX10_171 okX10_alone ⟨by decide, by decide⟩ npX10_alone rfl rfl rfl rfl rfl (by decide) rfl (cMetI_mono hw (fun x7 J9 hw => ?_))
      obtain ⟨S8, rfl, hw⟩ := hw
      obtain ⟨h10, hw⟩ := hw
      refine aIast (pc' := 109) (j := ((65 * l4) + l5)) dX10_best_108 rfl (lv (by decide)) (by omega) h10 rfl (cEqI (mA (f := 20) rfl rfl rfl) ?_)
      obtain ⟨h11, hw⟩ := hw
      refine aIinc1 (pc' := 112) dX10_best_109 rfl (by decide) h11 rfl (L' := [some (aO 40 0), some (aI l1), some (aL l2), none, some (aI ((l4 : Int))), some (aI ((((l5 + 1) : Nat) : Int))), none, none, none]) rfl ?_
      refine aGoto (pc' := 56) dX10_best_112 (by decide) ?_
      exact hw
    · have hw := hw.2 hc
      refine aIconst (pc' := 92) ⟨by decide, by decide⟩ dX10_best_91 rfl ?_
      refine aGoto (pc' := 108) dX10_best_92 (by decide) ?_
      obtain ⟨h12, hw⟩ := hw
      refine aIast (pc' := 109) (j := ((65 * l4) + l5)) dX10_best_108 rfl (lv (by decide)) (by omega) h12 rfl (cEqI (mA (f := 20) rfl rfl rfl) ?_)
      obtain ⟨h13, hw⟩ := hw
      refine aIinc1 (pc' := 112) dX10_best_109 rfl (by decide) h13 rfl (L' := [some (aO 40 0), some (aI l1), some (aL l2), none, some (aI ((l4 : Int))), some (aI ((((l5 + 1) : Nat) : Int))), none, none, none]) rfl ?_
      refine aGoto (pc' := 56) dX10_best_112 (by decide) ?_
      exact hw
set_option maxRecDepth 100000 in
set_option maxHeartbeats 4000000 in
theorem gX10_best_124 {w : aW} {mm : Nat} {C : aIF} {S : aS} {l1 : Int} {l2 : Int} {l4 : Nat} {P : Int → aS → Prop} (hw : ((l1 < (l4 : Int)) → (-2147483648 ≤ ((S 10 0) - 1) ∧ ((S 10 0) - 1) < 2147483648) ∧ (rRunI w mX10_best 160 [some (aO 40 0), some (aI l1), some (aL l2), none, some (aI (((S 10 0) - 1))), none, none, none, none] [] C S (rf mm) P)) ∧ ((¬ (l1 < (l4 : Int))) → (-2147483648 ≤ (65 * (S 10 0)) ∧ (65 * (S 10 0)) < 2147483648) ∧ ((-2147483648 ≤ ((65 * (S 10 0)) + (l4 : Int)) ∧ ((65 * (S 10 0)) + (l4 : Int)) < 2147483648) ∧ ((0 ≤ ((65 * (S 10 0)) + (l4 : Int)) ∧ ((65 * (S 10 0)) + (l4 : Int)) < ((455 : Nat) : Int)) ∧ ((l4 + 1 < 2147483648) ∧ (rRunI w mX10_best 124 [some (aO 40 0), some (aI l1), some (aL l2), none, some (aI ((((l4 + 1) : Nat) : Int))), none, none, none, none] [] C (sU S 21 ((((65 * (S 10 0)) + (l4 : Int))).toNat) 0) (rf mm) P)))))) : rRunI w mX10_best 124 [some (aO 40 0), some (aI l1), some (aL l2), none, some (aI ((l4 : Int))), none, none, none, none] [] C S (rf mm) P := by
  refine aIload (pc' := 126) dX10_best_124 rfl rfl ?_
  refine aIload_n (pc' := 127) dX10_best_126 rfl rfl ?_
  refine aIcmp_gt (tgt := 152) (pc' := 130) dX10_best_127 (by decide) rfl (fun hc => ?_) (fun hc => ?_)
  · have hw := hw.1 hc
    refine aAload_n (pc' := 153) dX10_best_152 rfl rfl ?_
    refine aGetI (pc' := 156) dX10_best_153 fX10_146 rfl rfl (lv (by decide)) rfl ?_
    refine aTopEq (y := (S 10 0)) rfl ?_
    refine aIconst (pc' := 157) ⟨by decide, by decide⟩ dX10_best_156 rfl ?_
    obtain ⟨h1, hw⟩ := hw
    refine aIsub (pc' := 158) h1.1 h1.2 dX10_best_157 rfl ?_
    refine aIstore (pc' := 160) dX10_best_158 (by decide) rfl (L' := [some (aO 40 0), some (aI l1), some (aL l2), none, some (aI (((S 10 0) - 1))), none, none, none, none]) rfl ?_
    exact hw
  · have hw := hw.2 hc
    refine aAload_n (pc' := 131) dX10_best_130 rfl rfl ?_
    refine aGetR (pc' := 134) (q := (61, 0)) dX10_best_131 fX10_63 rfl rfl (lv (by decide)) rfl rfl ?_
    refine aBipush (pc' := 136) ⟨by decide, by decide⟩ dX10_best_134 rfl ?_
    refine aAload_n (pc' := 137) dX10_best_136 rfl rfl ?_
    refine aGetI (pc' := 140) dX10_best_137 fX10_146 rfl rfl (lv (by decide)) rfl ?_
    refine aTopEq (y := (S 10 0)) rfl ?_
    obtain ⟨h2, hw⟩ := hw
    refine aImul (pc' := 141) h2.1 h2.2 dX10_best_140 rfl ?_
    refine aIload (pc' := 143) dX10_best_141 rfl rfl ?_
    obtain ⟨h3, hw⟩ := hw
    refine aIadd (pc' := 144) h3.1 h3.2 dX10_best_143 rfl ?_
    refine aLconst0 (pc' := 145) dX10_best_144 rfl ?_
    obtain ⟨h4, hw⟩ := hw
    refine aLast (pc' := 146) (j := (((65 * (S 10 0)) + (l4 : Int))).toNat) dX10_best_145 rfl (lv (by decide)) (tnIx h4).1 (tnIx h4).2 rfl (cEqI (mA (f := 21) rfl rfl rfl) ?_)
    obtain ⟨h5, hw⟩ := hw
    refine aIinc1 (pc' := 149) dX10_best_146 rfl (by decide) h5 rfl (L' := [some (aO 40 0), some (aI l1), some (aL l2), none, some (aI ((((l4 + 1) : Nat) : Int))), none, none, none, none]) rfl ?_
    refine aGoto (pc' := 124) dX10_best_149 (by decide) ?_
    exact hw
set_option maxRecDepth 100000 in
set_option maxHeartbeats 4000000 in
theorem gX10_best_160 {w : aW} {mm : Nat} {C : aIF} {S : aS} {l1 : Int} {l2 : Int} {l4 : Int} {P : Int → aS → Prop} (hw : ((l4 < 0) → rRunI w mX10_best 283 [some (aO 40 0), some (aI l1), some (aL l2), none, some (aI l1), some (aI 0), none, none, none] [] C S (rf mm) P) ∧ ((¬ (l4 < 0)) → rRunI w mX10_best 168 [some (aO 40 0), some (aI l1), some (aL l2), none, some (aI l4), some (aI 0), none, none, none] [] C S (rf mm) P)) : rRunI w mX10_best 160 [some (aO 40 0), some (aI l1), some (aL l2), none, some (aI l4), none, none, none, none] [] C S (rf mm) P := by
  refine aIload (pc' := 162) dX10_best_160 rfl rfl ?_
  refine aIf_lt (tgt := 277) (pc' := 165) dX10_best_162 (by decide) rfl (fun hc => ?_) (fun hc => ?_)
  · have hw := hw.1 hc
    refine aIload_n (pc' := 278) dX10_best_277 rfl rfl ?_
    refine aIstore (pc' := 280) dX10_best_278 (by decide) rfl (L' := [some (aO 40 0), some (aI l1), some (aL l2), none, some (aI l1), none, none, none, none]) rfl ?_
    refine aIconst (pc' := 281) ⟨by decide, by decide⟩ dX10_best_280 rfl ?_
    refine aIstore (pc' := 283) dX10_best_281 (by decide) rfl (L' := [some (aO 40 0), some (aI l1), some (aL l2), none, some (aI l1), some (aI 0), none, none, none]) rfl ?_
    exact hw
  · have hw := hw.2 hc
    refine aIconst (pc' := 166) ⟨by decide, by decide⟩ dX10_best_165 rfl ?_
    refine aIstore (pc' := 168) dX10_best_166 (by decide) rfl (L' := [some (aO 40 0), some (aI l1), some (aL l2), none, some (aI l4), some (aI 0), none, none, none]) rfl ?_
    exact hw
set_option maxRecDepth 100000 in
set_option maxHeartbeats 4000000 in
theorem gX10_best_168 {w : aW} {mm : Nat} {C : aIF} {S : aS} {l1 : Int} {l2 : Int} {l4 : Nat} {l5 : Nat} {P : Int → aS → Prop} (hw : ((l1 < (l5 : Int)) → (-2147483648 ≤ ((l4 : Int) + (-1)) ∧ ((l4 : Int) + (-1)) < 2147483648) ∧ (rRunI w mX10_best 160 [some (aO 40 0), some (aI l1), some (aL l2), none, some (aI (((l4 : Int) + (-1)))), none, none, none, none] [] C S (rf mm) P)) ∧ ((¬ (l1 < (l5 : Int))) → rRunI w mX10_best 180 [some (aO 40 0), some (aI l1), some (aL l2), none, some (aI ((l4 : Int))), some (aI ((l5 : Int))), some (aL l2), none, some (aI 0)] [] C S (rf mm) P)) : rRunI w mX10_best 168 [some (aO 40 0), some (aI l1), some (aL l2), none, some (aI ((l4 : Int))), some (aI ((l5 : Int))), none, none, none] [] C S (rf mm) P := by
  refine aIload (pc' := 170) dX10_best_168 rfl rfl ?_
  refine aIload_n (pc' := 171) dX10_best_170 rfl rfl ?_
  refine aIcmp_gt (tgt := 271) (pc' := 174) dX10_best_171 (by decide) rfl (fun hc => ?_) (fun hc => ?_)
  · have hw := hw.1 hc
    obtain ⟨h1, hw⟩ := hw
    refine aIinc (pc' := 274) dX10_best_271 rfl (by decide) ⟨by decide, by decide⟩ h1.1 h1.2 rfl (L' := [some (aO 40 0), some (aI l1), some (aL l2), none, some (aI (((l4 : Int) + (-1)))), some (aI ((l5 : Int))), none, none, none]) rfl ?_
    refine aGoto (pc' := 160) dX10_best_274 (by decide) ?_
    exact aDrop [5] (L' := [some (aO 40 0), some (aI l1), some (aL l2), none, some (aI (((l4 : Int) + (-1)))), none, none, none, none]) rfl hw
  · have hw := hw.2 hc
    refine aLload_n (pc' := 175) dX10_best_174 rfl rfl ?_
    refine aLstore (pc' := 177) dX10_best_175 (by decide) rfl (L' := [some (aO 40 0), some (aI l1), some (aL l2), none, some (aI ((l4 : Int))), some (aI ((l5 : Int))), some (aL l2), none, none]) rfl ?_
    refine aIconst (pc' := 178) ⟨by decide, by decide⟩ dX10_best_177 rfl ?_
    refine aIstore (pc' := 180) dX10_best_178 (by decide) rfl (L' := [some (aO 40 0), some (aI l1), some (aL l2), none, some (aI ((l4 : Int))), some (aI ((l5 : Int))), some (aL l2), none, some (aI 0)]) rfl ?_
    exact hw
set_option maxRecDepth 100000 in
set_option maxHeartbeats 4000000 in
theorem gX10_best_180 {w : aW} {mm : Nat} {C : aIF} {S : aS} {l1 : Int} {l2 : Int} {l4 : Nat} {l5 : Nat} {l6 : Int} {l8 : Nat} {P : Int → aS → Prop} (hw : (((l5 : Int) < (l8 : Int)) → (-2147483648 ≤ (65 * (l4 : Int)) ∧ (65 * (l4 : Int)) < 2147483648) ∧ ((-2147483648 ≤ ((65 * (l4 : Int)) + (l5 : Int)) ∧ ((65 * (l4 : Int)) + (l5 : Int)) < 2147483648) ∧ ((((65 * l4) + l5) < 455) ∧ ((l5 + 1 < 2147483648) ∧ (rRunI w mX10_best 168 [some (aO 40 0), some (aI l1), some (aL l2), none, some (aI ((l4 : Int))), some (aI ((((l5 + 1) : Nat) : Int))), none, none, none] [] C (sU S 21 (((65 * l4) + l5)) l6) (rf mm) P))))) ∧ ((¬ ((l5 : Int) < (l8 : Int))) → (-2147483648 ≤ (65 * (l4 : Int)) ∧ (65 * (l4 : Int)) < 2147483648) ∧ ((-2147483648 ≤ ((65 * (l4 : Int)) + (l8 : Int)) ∧ ((65 * (l4 : Int)) + (l8 : Int)) < 2147483648) ∧ ((((65 * l4) + l8) < 390) ∧ ((((S 20 (((65 * l4) + l8))) = (-1)) → (l8 + 1 < 2147483648) ∧ (rRunI w mX10_best 180 [some (aO 40 0), some (aI l1), some (aL l2), none, some (aI ((l4 : Int))), some (aI ((l5 : Int))), some (aL l6), none, some (aI ((((l8 + 1) : Nat) : Int)))] [] C S (rf mm) P)) ∧ ((¬ ((S 20 (((65 * l4) + l8))) = (-1))) → (-2147483648 ≤ (65 * (l4 : Int)) ∧ (65 * (l4 : Int)) < 2147483648) ∧ ((-2147483648 ≤ ((65 * (l4 : Int)) + (l8 : Int)) ∧ ((65 * (l4 : Int)) + (l8 : Int)) < 2147483648) ∧ ((-2147483648 ≤ ((l4 : Int) + 1) ∧ ((l4 : Int) + 1) < 2147483648) ∧ ((-2147483648 ≤ (65 * ((l4 : Int) + 1)) ∧ (65 * ((l4 : Int) + 1)) < 2147483648) ∧ ((-2147483648 ≤ ((65 * ((l4 : Int) + 1)) + (l5 : Int)) ∧ ((65 * ((l4 : Int) + 1)) + (l5 : Int)) < 2147483648) ∧ ((-2147483648 ≤ (((65 * ((l4 : Int) + 1)) + (l5 : Int)) - (l8 : Int)) ∧ (((65 * ((l4 : Int) + 1)) + (l5 : Int)) - (l8 : Int)) < 2147483648) ∧ ((0 ≤ (((65 * ((l4 : Int) + 1)) + (l5 : Int)) - (l8 : Int)) ∧ (((65 * ((l4 : Int) + 1)) + (l5 : Int)) - (l8 : Int)) < ((455 : Nat) : Int)) ∧ ((-9223372036854775808 ≤ ((S 20 (((65 * l4) + l8))) + (S 21 (((((65 * ((l4 : Int) + 1)) + (l5 : Int)) - (l8 : Int))).toNat))) ∧ ((S 20 (((65 * l4) + l8))) + (S 21 (((((65 * ((l4 : Int) + 1)) + (l5 : Int)) - (l8 : Int))).toNat))) < 9223372036854775808) ∧ ((l8 + 1 < 2147483648) ∧ (rRunI w mX10_best 180 [some (aO 40 0), some (aI l1), some (aL l2), none, some (aI ((l4 : Int))), some (aI ((l5 : Int))), some (aL ((min l6 ((S 20 (((65 * l4) + l8))) + (S 21 (((((65 * ((l4 : Int) + 1)) + (l5 : Int)) - (l8 : Int))).toNat)))))), none, some (aI ((((l8 + 1) : Nat) : Int)))] [] C S (rf mm) P))))))))))))))) : rRunI w mX10_best 180 [some (aO 40 0), some (aI l1), some (aL l2), none, some (aI ((l4 : Int))), some (aI ((l5 : Int))), some (aL l6), none, some (aI ((l8 : Int)))] [] C S (rf mm) P := by
  refine aIload (pc' := 182) dX10_best_180 rfl rfl ?_
  refine aIload (pc' := 184) dX10_best_182 rfl rfl ?_
  refine aIcmp_gt (tgt := 250) (pc' := 187) dX10_best_184 (by decide) rfl (fun hc => ?_) (fun hc => ?_)
  · have hw := hw.1 hc
    refine aAload_n (pc' := 251) dX10_best_250 rfl rfl ?_
    refine aGetR (pc' := 254) (q := (61, 0)) dX10_best_251 fX10_63 rfl rfl (lv (by decide)) rfl rfl ?_
    refine aBipush (pc' := 256) ⟨by decide, by decide⟩ dX10_best_254 rfl ?_
    refine aIload (pc' := 258) dX10_best_256 rfl rfl ?_
    obtain ⟨h1, hw⟩ := hw
    refine aImul (pc' := 259) h1.1 h1.2 dX10_best_258 rfl ?_
    refine aIload (pc' := 261) dX10_best_259 rfl rfl ?_
    obtain ⟨h2, hw⟩ := hw
    refine aIadd (pc' := 262) h2.1 h2.2 dX10_best_261 rfl ?_
    refine aLload (pc' := 264) dX10_best_262 rfl rfl ?_
    obtain ⟨h3, hw⟩ := hw
    refine aLast (pc' := 265) (j := ((65 * l4) + l5)) dX10_best_264 rfl (lv (by decide)) (by omega) h3 rfl (cEqI (mA (f := 21) rfl rfl rfl) ?_)
    obtain ⟨h4, hw⟩ := hw
    refine aIinc1 (pc' := 268) dX10_best_265 rfl (by decide) h4 rfl (L' := [some (aO 40 0), some (aI l1), some (aL l2), none, some (aI ((l4 : Int))), some (aI ((((l5 + 1) : Nat) : Int))), some (aL l6), none, some (aI ((l8 : Int)))]) rfl ?_
    refine aGoto (pc' := 168) dX10_best_268 (by decide) ?_
    exact aDrop [6, 8] (L' := [some (aO 40 0), some (aI l1), some (aL l2), none, some (aI ((l4 : Int))), some (aI ((((l5 + 1) : Nat) : Int))), none, none, none]) rfl hw
  · have hw := hw.2 hc
    refine aAload_n (pc' := 188) dX10_best_187 rfl rfl ?_
    refine aGetR (pc' := 191) (q := (60, 0)) dX10_best_188 fX10_60 rfl rfl (lv (by decide)) rfl rfl ?_
    refine aBipush (pc' := 193) ⟨by decide, by decide⟩ dX10_best_191 rfl ?_
    refine aIload (pc' := 195) dX10_best_193 rfl rfl ?_
    obtain ⟨h5, hw⟩ := hw
    refine aImul (pc' := 196) h5.1 h5.2 dX10_best_195 rfl ?_
    refine aIload (pc' := 198) dX10_best_196 rfl rfl ?_
    obtain ⟨h6, hw⟩ := hw
    refine aIadd (pc' := 199) h6.1 h6.2 dX10_best_198 rfl ?_
    obtain ⟨h7, hw⟩ := hw
    refine aIald (pc' := 200) (j := ((65 * l4) + l8)) dX10_best_199 rfl (lv (by decide)) (by omega) h7 rfl ?_
    refine aTopEq (y := (S 20 (((65 * l4) + l8)))) rfl ?_
    refine aIconst (pc' := 201) ⟨by decide, by decide⟩ dX10_best_200 rfl ?_
    refine aIcmp_eq (tgt := 244) (pc' := 204) dX10_best_201 (by decide) rfl (fun hc => ?_) (fun hc => ?_)
    · have hw := hw.1 hc
      obtain ⟨h8, hw⟩ := hw
      refine aIinc1 (pc' := 247) dX10_best_244 rfl (by decide) h8 rfl (L' := [some (aO 40 0), some (aI l1), some (aL l2), none, some (aI ((l4 : Int))), some (aI ((l5 : Int))), some (aL l6), none, some (aI ((((l8 + 1) : Nat) : Int)))]) rfl ?_
      refine aGoto (pc' := 180) dX10_best_247 (by decide) ?_
      exact hw
    · have hw := hw.2 hc
      refine aLload (pc' := 206) dX10_best_204 rfl rfl ?_
      refine aAload_n (pc' := 207) dX10_best_206 rfl rfl ?_
      refine aGetR (pc' := 210) (q := (60, 0)) dX10_best_207 fX10_60 rfl rfl (lv (by decide)) rfl rfl ?_
      refine aBipush (pc' := 212) ⟨by decide, by decide⟩ dX10_best_210 rfl ?_
      refine aIload (pc' := 214) dX10_best_212 rfl rfl ?_
      obtain ⟨h9, hw⟩ := hw
      refine aImul (pc' := 215) h9.1 h9.2 dX10_best_214 rfl ?_
      refine aIload (pc' := 217) dX10_best_215 rfl rfl ?_
      obtain ⟨h10, hw⟩ := hw
      refine aIadd (pc' := 218) h10.1 h10.2 dX10_best_217 rfl ?_
      refine aIald (pc' := 219) (j := ((65 * l4) + l8)) dX10_best_218 rfl (lv (by decide)) (by omega) h7 rfl ?_
      refine aTopEq (y := (S 20 (((65 * l4) + l8)))) rfl ?_
      refine aI2l (pc' := 220) dX10_best_219 rfl ?_
      refine aAload_n (pc' := 221) dX10_best_220 rfl rfl ?_
      refine aGetR (pc' := 224) (q := (61, 0)) dX10_best_221 fX10_63 rfl rfl (lv (by decide)) rfl rfl ?_
      refine aBipush (pc' := 226) ⟨by decide, by decide⟩ dX10_best_224 rfl ?_
      refine aIload (pc' := 228) dX10_best_226 rfl rfl ?_
      refine aIconst (pc' := 229) ⟨by decide, by decide⟩ dX10_best_228 rfl ?_
      obtain ⟨h11, hw⟩ := hw
      refine aIadd (pc' := 230) h11.1 h11.2 dX10_best_229 rfl ?_
      obtain ⟨h12, hw⟩ := hw
      refine aImul (pc' := 231) h12.1 h12.2 dX10_best_230 rfl ?_
      refine aIload (pc' := 233) dX10_best_231 rfl rfl ?_
      obtain ⟨h13, hw⟩ := hw
      refine aIadd (pc' := 234) h13.1 h13.2 dX10_best_233 rfl ?_
      refine aIload (pc' := 236) dX10_best_234 rfl rfl ?_
      obtain ⟨h14, hw⟩ := hw
      refine aIsub (pc' := 237) h14.1 h14.2 dX10_best_236 rfl ?_
      obtain ⟨h15, hw⟩ := hw
      refine aLald (pc' := 238) (j := ((((65 * ((l4 : Int) + 1)) + (l5 : Int)) - (l8 : Int))).toNat) dX10_best_237 rfl (lv (by decide)) (tnIx h15).1 (tnIx h15).2 rfl ?_
      refine aTopEqL (y := (S 21 (((((65 * ((l4 : Int) + 1)) + (l5 : Int)) - (l8 : Int))).toNat))) rfl ?_
      obtain ⟨h16, hw⟩ := hw
      refine aLadd (pc' := 239) h16.1 h16.2 dX10_best_238 rfl ?_
      refine aMinL (pc' := 242) dX10_best_239 lX10_197 rfl rfl (Nat.le_refl _) (Nat.le_refl _) rfl ?_
      refine aLstore (pc' := 244) dX10_best_242 (by decide) rfl (L' := [some (aO 40 0), some (aI l1), some (aL l2), none, some (aI ((l4 : Int))), some (aI ((l5 : Int))), some (aL ((min l6 ((S 20 (((65 * l4) + l8))) + (S 21 (((((65 * ((l4 : Int) + 1)) + (l5 : Int)) - (l8 : Int))).toNat)))))), none, some (aI ((l8 : Int)))]) rfl ?_
      obtain ⟨h17, hw⟩ := hw
      refine aIinc1 (pc' := 247) dX10_best_244 rfl (by decide) h17 rfl (L' := [some (aO 40 0), some (aI l1), some (aL l2), none, some (aI ((l4 : Int))), some (aI ((l5 : Int))), some (aL ((min l6 ((S 20 (((65 * l4) + l8))) + (S 21 (((((65 * ((l4 : Int) + 1)) + (l5 : Int)) - (l8 : Int))).toNat)))))), none, some (aI ((((l8 + 1) : Nat) : Int)))]) rfl ?_
      refine aGoto (pc' := 180) dX10_best_247 (by decide) ?_
      exact hw
set_option maxRecDepth 100000 in
set_option maxHeartbeats 4000000 in
theorem gX10_best_283 {w : aW} {mm : Nat} {C : aIF} {S : aS} {l1 : Int} {l2 : Int} {l4 : Int} {l5 : Nat} {P : Int → aS → Prop} (hw : (((S 10 0) ≤ (l5 : Int)) → rMetI w mX10_sum [aO 40 0] C S (rf mm) (fun x1 S2 => P x1 S2)) ∧ ((¬ ((S 10 0) ≤ (l5 : Int))) → rRunI w mX10_best 295 [some (aO 40 0), some (aI l1), some (aL l2), none, some (aI l4), some (aI ((l5 : Int))), some (aI 0), none, none] [] C S (rf mm) P)) : rRunI w mX10_best 283 [some (aO 40 0), some (aI l1), some (aL l2), none, some (aI l4), some (aI ((l5 : Int))), none, none, none] [] C S (rf mm) P := by
  refine aIload (pc' := 285) dX10_best_283 rfl rfl ?_
  refine aAload_n (pc' := 286) dX10_best_285 rfl rfl ?_
  refine aGetI (pc' := 289) dX10_best_286 fX10_146 rfl rfl (lv (by decide)) rfl ?_
  refine aTopEq (y := (S 10 0)) rfl ?_
  refine aIcmp_ge (tgt := 395) (pc' := 292) dX10_best_289 (by decide) rfl (fun hc => ?_) (fun hc => ?_)
  · have hw := hw.1 hc
    refine aAload_n (pc' := 396) dX10_best_395 rfl rfl ?_
    refine cVI (c := 10) (pc' := 399) [] dX10_best_396 lX10_188 okX10_sum ⟨by decide, by decide⟩ npX10_sum rfl rfl rfl rfl rfl (by decide) rfl (cMetI_mono hw (fun x1 J3 hw => ?_))
    obtain ⟨S2, rfl, hw⟩ := hw
    exact cIret dX10_best_399 okX10_best rfl ⟨rfl, _, rfl, _, rfl, hw⟩
  · have hw := hw.2 hc
    refine aIconst (pc' := 293) ⟨by decide, by decide⟩ dX10_best_292 rfl ?_
    refine aIstore (pc' := 295) dX10_best_293 (by decide) rfl (L' := [some (aO 40 0), some (aI l1), some (aL l2), none, some (aI l4), some (aI ((l5 : Int))), some (aI 0), none, none]) rfl ?_
    exact hw
set_option maxRecDepth 100000 in
set_option maxHeartbeats 4000000 in
theorem gX10_best_295 {w : aW} {mm : Nat} {C : aIF} {S : aS} {l1 : Int} {l2 : Int} {l4 : Int} {l5 : Nat} {l6 : Nat} {P : Int → aS → Prop} (hw : (-2147483648 ≤ (65 * (l5 : Int)) ∧ (65 * (l5 : Int)) < 2147483648) ∧ ((-2147483648 ≤ ((65 * (l5 : Int)) + (l6 : Int)) ∧ ((65 * (l5 : Int)) + (l6 : Int)) < 2147483648) ∧ ((((65 * l5) + l6) < 390) ∧ ((((S 20 (((65 * l5) + l6))) = (-1)) → (l6 + 1 < 2147483648) ∧ (rRunI w mX10_best 295 [some (aO 40 0), some (aI l1), some (aL l2), none, some (aI l4), some (aI ((l5 : Int))), some (aI ((((l6 + 1) : Nat) : Int))), none, none] [] C S (rf mm) P)) ∧ ((¬ ((S 20 (((65 * l5) + l6))) = (-1))) → (-2147483648 ≤ (65 * (l5 : Int)) ∧ (65 * (l5 : Int)) < 2147483648) ∧ ((-2147483648 ≤ ((65 * (l5 : Int)) + (l6 : Int)) ∧ ((65 * (l5 : Int)) + (l6 : Int)) < 2147483648) ∧ ((-2147483648 ≤ ((l5 : Int) + 1) ∧ ((l5 : Int) + 1) < 2147483648) ∧ ((-2147483648 ≤ (65 * ((l5 : Int) + 1)) ∧ (65 * ((l5 : Int) + 1)) < 2147483648) ∧ ((-2147483648 ≤ ((65 * ((l5 : Int) + 1)) + l4) ∧ ((65 * ((l5 : Int) + 1)) + l4) < 2147483648) ∧ ((-2147483648 ≤ (((65 * ((l5 : Int) + 1)) + l4) - (l6 : Int)) ∧ (((65 * ((l5 : Int) + 1)) + l4) - (l6 : Int)) < 2147483648) ∧ ((0 ≤ (((65 * ((l5 : Int) + 1)) + l4) - (l6 : Int)) ∧ (((65 * ((l5 : Int) + 1)) + l4) - (l6 : Int)) < ((455 : Nat) : Int)) ∧ ((-9223372036854775808 ≤ ((S 20 (((65 * l5) + l6))) + (S 21 (((((65 * ((l5 : Int) + 1)) + l4) - (l6 : Int))).toNat))) ∧ ((S 20 (((65 * l5) + l6))) + (S 21 (((((65 * ((l5 : Int) + 1)) + l4) - (l6 : Int))).toNat))) < 9223372036854775808) ∧ ((-2147483648 ≤ (65 * (l5 : Int)) ∧ (65 * (l5 : Int)) < 2147483648) ∧ ((-2147483648 ≤ ((65 * (l5 : Int)) + l4) ∧ ((65 * (l5 : Int)) + l4) < 2147483648) ∧ ((0 ≤ ((65 * (l5 : Int)) + l4) ∧ ((65 * (l5 : Int)) + l4) < ((455 : Nat) : Int)) ∧ (((((S 20 (((65 * l5) + l6))) + (S 21 (((((65 * ((l5 : Int) + 1)) + l4) - (l6 : Int))).toNat))) = (S 21 ((((65 * (l5 : Int)) + l4)).toNat))) → (-2147483648 ≤ ((l6 : Int) * (S 5 0)) ∧ ((l6 : Int) * (S 5 0)) < 2147483648) ∧ ((l5 < 6) ∧ ((-2147483648 ≤ (l4 - (l6 : Int)) ∧ (l4 - (l6 : Int)) < 2147483648) ∧ ((l5 + 1 < 2147483648) ∧ (rRunI w mX10_best 283 [some (aO 40 0), some (aI l1), some (aL l2), none, some (aI ((l4 - (l6 : Int)))), some (aI ((((l5 + 1) : Nat) : Int))), none, none, none] [] C (sU S 18 l5 (((l6 : Int) * (S 5 0)))) (rf mm) P))))) ∧ ((¬ (((S 20 (((65 * l5) + l6))) + (S 21 (((((65 * ((l5 : Int) + 1)) + l4) - (l6 : Int))).toNat))) = (S 21 ((((65 * (l5 : Int)) + l4)).toNat)))) → (l6 + 1 < 2147483648) ∧ (rRunI w mX10_best 295 [some (aO 40 0), some (aI l1), some (aL l2), none, some (aI l4), some (aI ((l5 : Int))), some (aI ((((l6 + 1) : Nat) : Int))), none, none] [] C S (rf mm) P)))))))))))))))))) : rRunI w mX10_best 295 [some (aO 40 0), some (aI l1), some (aL l2), none, some (aI l4), some (aI ((l5 : Int))), some (aI ((l6 : Int))), none, none] [] C S (rf mm) P := by
  refine aAload_n (pc' := 296) dX10_best_295 rfl rfl ?_
  refine aGetR (pc' := 299) (q := (60, 0)) dX10_best_296 fX10_60 rfl rfl (lv (by decide)) rfl rfl ?_
  refine aBipush (pc' := 301) ⟨by decide, by decide⟩ dX10_best_299 rfl ?_
  refine aIload (pc' := 303) dX10_best_301 rfl rfl ?_
  obtain ⟨h1, hw⟩ := hw
  refine aImul (pc' := 304) h1.1 h1.2 dX10_best_303 rfl ?_
  refine aIload (pc' := 306) dX10_best_304 rfl rfl ?_
  obtain ⟨h2, hw⟩ := hw
  refine aIadd (pc' := 307) h2.1 h2.2 dX10_best_306 rfl ?_
  obtain ⟨h3, hw⟩ := hw
  refine aIald (pc' := 308) (j := ((65 * l5) + l6)) dX10_best_307 rfl (lv (by decide)) (by omega) h3 rfl ?_
  refine aTopEq (y := (S 20 (((65 * l5) + l6)))) rfl ?_
  refine aIconst (pc' := 309) ⟨by decide, by decide⟩ dX10_best_308 rfl ?_
  refine aIcmp_eq (tgt := 362) (pc' := 312) dX10_best_309 (by decide) rfl (fun hc => ?_) (fun hc => ?_)
  · have hw := hw.1 hc
    obtain ⟨h4, hw⟩ := hw
    refine aIinc1 (pc' := 365) dX10_best_362 rfl (by decide) h4 rfl (L' := [some (aO 40 0), some (aI l1), some (aL l2), none, some (aI l4), some (aI ((l5 : Int))), some (aI ((((l6 + 1) : Nat) : Int))), none, none]) rfl ?_
    refine aGoto (pc' := 295) dX10_best_365 (by decide) ?_
    exact hw
  · have hw := hw.2 hc
    refine aAload_n (pc' := 313) dX10_best_312 rfl rfl ?_
    refine aGetR (pc' := 316) (q := (60, 0)) dX10_best_313 fX10_60 rfl rfl (lv (by decide)) rfl rfl ?_
    refine aBipush (pc' := 318) ⟨by decide, by decide⟩ dX10_best_316 rfl ?_
    refine aIload (pc' := 320) dX10_best_318 rfl rfl ?_
    obtain ⟨h5, hw⟩ := hw
    refine aImul (pc' := 321) h5.1 h5.2 dX10_best_320 rfl ?_
    refine aIload (pc' := 323) dX10_best_321 rfl rfl ?_
    obtain ⟨h6, hw⟩ := hw
    refine aIadd (pc' := 324) h6.1 h6.2 dX10_best_323 rfl ?_
    refine aIald (pc' := 325) (j := ((65 * l5) + l6)) dX10_best_324 rfl (lv (by decide)) (by omega) h3 rfl ?_
    refine aTopEq (y := (S 20 (((65 * l5) + l6)))) rfl ?_
    refine aI2l (pc' := 326) dX10_best_325 rfl ?_
    refine aAload_n (pc' := 327) dX10_best_326 rfl rfl ?_
    refine aGetR (pc' := 330) (q := (61, 0)) dX10_best_327 fX10_63 rfl rfl (lv (by decide)) rfl rfl ?_
    refine aBipush (pc' := 332) ⟨by decide, by decide⟩ dX10_best_330 rfl ?_
    refine aIload (pc' := 334) dX10_best_332 rfl rfl ?_
    refine aIconst (pc' := 335) ⟨by decide, by decide⟩ dX10_best_334 rfl ?_
    obtain ⟨h7, hw⟩ := hw
    refine aIadd (pc' := 336) h7.1 h7.2 dX10_best_335 rfl ?_
    obtain ⟨h8, hw⟩ := hw
    refine aImul (pc' := 337) h8.1 h8.2 dX10_best_336 rfl ?_
    refine aIload (pc' := 339) dX10_best_337 rfl rfl ?_
    obtain ⟨h9, hw⟩ := hw
    refine aIadd (pc' := 340) h9.1 h9.2 dX10_best_339 rfl ?_
    refine aIload (pc' := 342) dX10_best_340 rfl rfl ?_
    obtain ⟨h10, hw⟩ := hw
    refine aIsub (pc' := 343) h10.1 h10.2 dX10_best_342 rfl ?_
    obtain ⟨h11, hw⟩ := hw
    refine aLald (pc' := 344) (j := ((((65 * ((l5 : Int) + 1)) + l4) - (l6 : Int))).toNat) dX10_best_343 rfl (lv (by decide)) (tnIx h11).1 (tnIx h11).2 rfl ?_
    refine aTopEqL (y := (S 21 (((((65 * ((l5 : Int) + 1)) + l4) - (l6 : Int))).toNat))) rfl ?_
    obtain ⟨h12, hw⟩ := hw
    refine aLadd (pc' := 345) h12.1 h12.2 dX10_best_344 rfl ?_
    refine aAload_n (pc' := 346) dX10_best_345 rfl rfl ?_
    refine aGetR (pc' := 349) (q := (61, 0)) dX10_best_346 fX10_63 rfl rfl (lv (by decide)) rfl rfl ?_
    refine aBipush (pc' := 351) ⟨by decide, by decide⟩ dX10_best_349 rfl ?_
    refine aIload (pc' := 353) dX10_best_351 rfl rfl ?_
    obtain ⟨h13, hw⟩ := hw
    refine aImul (pc' := 354) h13.1 h13.2 dX10_best_353 rfl ?_
    refine aIload (pc' := 356) dX10_best_354 rfl rfl ?_
    obtain ⟨h14, hw⟩ := hw
    refine aIadd (pc' := 357) h14.1 h14.2 dX10_best_356 rfl ?_
    obtain ⟨h15, hw⟩ := hw
    refine aLald (pc' := 358) (j := (((65 * (l5 : Int)) + l4)).toNat) dX10_best_357 rfl (lv (by decide)) (tnIx h15).1 (tnIx h15).2 rfl ?_
    refine aTopEqL (y := (S 21 ((((65 * (l5 : Int)) + l4)).toNat))) rfl ?_
    refine aLc_eq (tgt := 368) (p1 := 359) (pc' := 362) dX10_best_358 rfl dX10_best_359 (by decide) rfl (fun hc => ?_) (fun hc => ?_)
    · have hw := hw.1 hc
      refine aAload_n (pc' := 369) dX10_best_368 rfl rfl ?_
      refine aGetR (pc' := 372) (q := (58, 0)) dX10_best_369 fX10_54 rfl rfl (lv (by decide)) rfl rfl ?_
      refine aIload (pc' := 374) dX10_best_372 rfl rfl ?_
      refine aIload (pc' := 376) dX10_best_374 rfl rfl ?_
      refine aAload_n (pc' := 377) dX10_best_376 rfl rfl ?_
      refine aGetI (pc' := 380) dX10_best_377 fX10_23 rfl rfl (lv (by decide)) rfl ?_
      refine aTopEq (y := (S 5 0)) rfl ?_
      obtain ⟨h16, hw⟩ := hw
      refine aImul (pc' := 381) h16.1 h16.2 dX10_best_380 rfl ?_
      obtain ⟨h17, hw⟩ := hw
      refine aIast (pc' := 382) (j := l5) dX10_best_381 rfl (lv (by decide)) rfl h17 rfl (cEqI (mA (f := 18) rfl rfl rfl) ?_)
      refine aIload (pc' := 384) dX10_best_382 rfl rfl ?_
      refine aIload (pc' := 386) dX10_best_384 rfl rfl ?_
      obtain ⟨h18, hw⟩ := hw
      refine aIsub (pc' := 387) h18.1 h18.2 dX10_best_386 rfl ?_
      refine aIstore (pc' := 389) dX10_best_387 (by decide) rfl (L' := [some (aO 40 0), some (aI l1), some (aL l2), none, some (aI ((l4 - (l6 : Int)))), some (aI ((l5 : Int))), some (aI ((l6 : Int))), none, none]) rfl ?_
      obtain ⟨h19, hw⟩ := hw
      refine aIinc1 (pc' := 392) dX10_best_389 rfl (by decide) h19 rfl (L' := [some (aO 40 0), some (aI l1), some (aL l2), none, some (aI ((l4 - (l6 : Int)))), some (aI ((((l5 + 1) : Nat) : Int))), some (aI ((l6 : Int))), none, none]) rfl ?_
      refine aGoto (pc' := 283) dX10_best_392 (by decide) ?_
      exact aDrop [6] (L' := [some (aO 40 0), some (aI l1), some (aL l2), none, some (aI ((l4 - (l6 : Int)))), some (aI ((((l5 + 1) : Nat) : Int))), none, none, none]) rfl hw
    · have hw := hw.2 hc
      obtain ⟨h20, hw⟩ := hw
      refine aIinc1 (pc' := 365) dX10_best_362 rfl (by decide) h20 rfl (L' := [some (aO 40 0), some (aI l1), some (aL l2), none, some (aI l4), some (aI ((l5 : Int))), some (aI ((((l6 + 1) : Nat) : Int))), none, none]) rfl ?_
      refine aGoto (pc' := 295) dX10_best_365 (by decide) ?_
      exact hw
