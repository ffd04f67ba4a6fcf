set_option maxRecDepth 100000 in
set_option maxHeartbeats 4000000 in
theorem gX1_become {w : aW} {mm : Nat} {C : aIF} {S : aS} {i : Nat} {s : Nat} {cp : Int} {rd : Int} {fl : Int} {P : aIF → Prop} (hi : i < 6) (hs : s < 4) (hw : kRunV w mX1_become 11 [some (aO 6 i), some (aO 3 s), some (aI cp), some (aI rd), some (aI fl), some (aI 0)] [] (uI C 6 i 1 ((C 3 s 2))) S (rf mm) P) : kMetV w mX1_become [aO 6 i, aO 3 s, aI cp, aI rd, aI fl] C S (rf mm) P := by
  refine cMet_of okX1_become (Nat.le_of_ble_eq_true rfl) (fun hos => ?_)
  show cRun w mX1_become 0 [some (aO 6 i), some (aO 3 s), some (aI cp), some (aI rd), some (aI fl), none] [] (mem C S) (rf mm) (kqV (rf mm) S P)
  refine aAload_n (pc' := 1) dX1_become_0 rfl rfl ?_
  refine aAload_n (pc' := 2) dX1_become_1 rfl rfl ?_
  refine aGetI (pc' := 5) dX1_become_2 fX1_18 rfl rfl (lv hs) rfl ?_
  refine aTopEq (y := (C 3 s 2)) rfl ?_
  refine aPutI (pc' := 8) dX1_become_5 fX1_24 rfl rfl (Or.inl rfl) (lv hi) rfl (cEqI (mK rfl) ?_)
  refine aIconst (pc' := 9) ⟨by decide, by decide⟩ dX1_become_8 rfl ?_
  refine aIstore (pc' := 11) dX1_become_9 (by decide) rfl (L' := [some (aO 6 i), some (aO 3 s), some (aI cp), some (aI rd), some (aI fl), some (aI 0)]) rfl ?_
  exact hw
set_option maxRecDepth 100000 in
set_option maxHeartbeats 4000000 in
theorem gX1_become_11 {w : aW} {mm : Nat} {C : aIF} {S : aS} {i : Nat} {s : Nat} {cp : Int} {rd : Int} {fl : Int} {l5 : Nat} {P : aIF → Prop} (hi : i < 6) (hs : s < 4) (hw : (((C 6 i 1) ≤ (l5 : Int)) → (cp = 0 ∨ cp = 1) ∧ (P (uI (uI (uI (uI C 6 i 2 cp) 6 i 3 rd) 6 i 4 fl) 6 i 6 0))) ∧ ((¬ ((C 6 i 1) ≤ (l5 : Int))) → (l5 < 60) ∧ ((l5 + 1 < 2147483648) ∧ (kRunV w mX1_become 11 [some (aO 6 i), some (aO 3 s), some (aI cp), some (aI rd), some (aI fl), some (aI ((((l5 + 1) : Nat) : Int)))] [] (uI C 7 i l5 ((Int64.ofInt ((C 4 s l5))).toInt32.toInt)) S (rf mm) P)))) : kRunV w mX1_become 11 [some (aO 6 i), some (aO 3 s), some (aI cp), some (aI rd), some (aI fl), some (aI ((l5 : Int)))] [] C S (rf mm) P := by
  refine aIload (pc' := 13) dX1_become_11 rfl rfl ?_
  refine aAload_n (pc' := 14) dX1_become_13 rfl rfl ?_
  refine aGetI (pc' := 17) dX1_become_14 fX1_24 rfl rfl (lv hi) rfl ?_
  refine aTopEq (y := (C 6 i 1)) rfl ?_
  refine aIcmp_ge (tgt := 41) (pc' := 20) dX1_become_17 (by decide) rfl (fun hc => ?_) (fun hc => ?_)
  · have hw := hw.1 hc
    refine aAload_n (pc' := 42) dX1_become_41 rfl rfl ?_
    refine aIload_n (pc' := 43) dX1_become_42 rfl rfl ?_
    obtain ⟨h1, hw⟩ := hw
    refine aPutZ (pc' := 46) dX1_become_43 fX1_29 rfl rfl (Or.inl rfl) (lv hi) h1 rfl (cEqI (mK rfl) ?_)
    refine aAload_n (pc' := 47) dX1_become_46 rfl rfl ?_
    refine aIload_n (pc' := 48) dX1_become_47 rfl rfl ?_
    refine aPutI (pc' := 51) dX1_become_48 fX1_33 rfl rfl (Or.inl rfl) (lv hi) rfl (cEqI (mK rfl) ?_)
    refine aAload_n (pc' := 52) dX1_become_51 rfl rfl ?_
    refine aIload (pc' := 54) dX1_become_52 rfl rfl ?_
    refine aPutI (pc' := 57) dX1_become_54 fX1_36 rfl rfl (Or.inl rfl) (lv hi) rfl (cEqI (mK rfl) ?_)
    refine aAload_n (pc' := 58) dX1_become_57 rfl rfl ?_
    refine aIconst (pc' := 59) ⟨by decide, by decide⟩ dX1_become_58 rfl ?_
    refine aPutZ (pc' := 62) dX1_become_59 fX1_39 rfl rfl (Or.inl rfl) (lv hi) (by decide) rfl (cEqI (mK rfl) ?_)
    exact cVret dX1_become_62 okX1_become rfl ⟨rfl, rfl, _, rfl, hw⟩
  · have hw := hw.2 hc
    refine aAload_n (pc' := 21) dX1_become_20 rfl rfl ?_
    refine aGetR (pc' := 24) (q := (7, i)) dX1_become_21 fX1_9 rfl rfl (lv hi) rfl rfl ?_
    refine aIload (pc' := 26) dX1_become_24 rfl rfl ?_
    refine aAload_n (pc' := 27) dX1_become_26 rfl rfl ?_
    refine aGetR (pc' := 30) (q := (4, s)) dX1_become_27 fX1_25 rfl rfl (lv hs) rfl rfl ?_
    refine aIload (pc' := 32) dX1_become_30 rfl rfl ?_
    obtain ⟨h2, hw⟩ := hw
    refine aLald (pc' := 33) (j := l5) dX1_become_32 rfl (lv hs) rfl h2 rfl ?_
    refine aTopEqL (y := (C 4 s l5)) rfl ?_
    refine aL2i (pc' := 34) dX1_become_33 rfl ?_
    refine aIast (pc' := 35) (j := l5) dX1_become_34 rfl (lv hi) rfl h2 rfl (cEqI (mK rfl) ?_)
    obtain ⟨h3, hw⟩ := hw
    refine aIinc1 (pc' := 38) dX1_become_35 rfl (by decide) h3 rfl (L' := [some (aO 6 i), some (aO 3 s), some (aI cp), some (aI rd), some (aI fl), some (aI ((((l5 + 1) : Nat) : Int)))]) rfl ?_
    refine aGoto (pc' := 11) dX1_become_38 (by decide) ?_
    exact hw
set_option maxRecDepth 100000 in
set_option maxHeartbeats 4000000 in
theorem gX1_costToCollect {w : aW} {mm : Nat} {C : aIF} {S : aS} {i : Nat} {p1 : Int} {p2 : Int} {P : Int → aIF → Prop} (hi : i < 6) (hw : (((C 6 i 2) = 0) → (-2147483648 ≤ (1 + p1) ∧ (1 + p1) < 2147483648) ∧ ((0 ≤ p2) ∧ ((-2147483648 ≤ ((1 + p1) + (p2 / 2)) ∧ ((1 + p1) + (p2 / 2)) < 2147483648) ∧ (P ((1 + p1) + (p2 / 2)) C)))) ∧ ((¬ ((C 6 i 2) = 0)) → (-2147483648 ≤ (2 * p1) ∧ (2 * p1) < 2147483648) ∧ ((-2147483648 ≤ (1 + (2 * p1)) ∧ (1 + (2 * p1)) < 2147483648) ∧ (P (1 + (2 * p1)) C)))) : kMetI w mX1_costToCollect [aO 6 i, aI p1, aI p2] C S (rf mm) P := by
  refine cMet_of okX1_costToCollect (Nat.le_of_ble_eq_true rfl) (fun hos => ?_)
  show cRun w mX1_costToCollect 0 [some (aO 6 i), some (aI p1), some (aI p2)] [] (mem C S) (rf mm) (kqI (rf mm) S P)
  refine aAload_n (pc' := 1) dX1_costToCollect_0 rfl rfl ?_
  refine aGetI (pc' := 4) dX1_costToCollect_1 fX1_29 rfl rfl (lv hi) rfl ?_
  refine aTopEq (y := (C 6 i 2)) rfl ?_
  refine aIf_eq (tgt := 15) (pc' := 7) dX1_costToCollect_4 (by decide) rfl (fun hc => ?_) (fun hc => ?_)
  · have hw := hw.1 hc
    refine aIconst (pc' := 16) ⟨by decide, by decide⟩ dX1_costToCollect_15 rfl ?_
    refine aIload_n (pc' := 17) dX1_costToCollect_16 rfl rfl ?_
    obtain ⟨h1, hw⟩ := hw
    refine aIadd (pc' := 18) h1.1 h1.2 dX1_costToCollect_17 rfl ?_
    refine aIload_n (pc' := 19) dX1_costToCollect_18 rfl rfl ?_
    refine aIconst (pc' := 20) ⟨by decide, by decide⟩ dX1_costToCollect_19 rfl ?_
    obtain ⟨h2, hw⟩ := hw
    refine aIdiv (pc' := 21) h2 (by decide) dX1_costToCollect_20 rfl ?_
    obtain ⟨h3, hw⟩ := hw
    refine aIadd (pc' := 22) h3.1 h3.2 dX1_costToCollect_21 rfl ?_
    exact cIret dX1_costToCollect_22 okX1_costToCollect rfl ⟨rfl, _, rfl, _, rfl, hw⟩
  · have hw := hw.2 hc
    refine aIconst (pc' := 8) ⟨by decide, by decide⟩ dX1_costToCollect_7 rfl ?_
    refine aIconst (pc' := 9) ⟨by decide, by decide⟩ dX1_costToCollect_8 rfl ?_
    refine aIload_n (pc' := 10) dX1_costToCollect_9 rfl rfl ?_
    obtain ⟨h4, hw⟩ := hw
    refine aImul (pc' := 11) h4.1 h4.2 dX1_costToCollect_10 rfl ?_
    obtain ⟨h5, hw⟩ := hw
    refine aIadd (pc' := 12) h5.1 h5.2 dX1_costToCollect_11 rfl ?_
    refine aGoto (pc' := 22) dX1_costToCollect_12 (by decide) ?_
    exact cIret dX1_costToCollect_22 okX1_costToCollect rfl ⟨rfl, _, rfl, _, rfl, hw⟩
set_option maxRecDepth 100000 in
set_option maxHeartbeats 4000000 in
theorem gX1_fallsEverSlower {w : aW} {mm : Nat} {C : aIF} {S : aS} {i : Nat} {p1 : Int} {p2 : Int} {P : Int → aIF → Prop} (hi : i < 6) (hw : kRunI w mX1_fallsEverSlower 6 [some (aO 6 i), some (aI p1), some (aI p2), some (aI 2147483647), some (aI p1), none] [] C S (rf mm) P) : kMetI w mX1_fallsEverSlower [aO 6 i, aI p1, aI p2] C S (rf mm) P := by
  refine cMet_of okX1_fallsEverSlower (Nat.le_of_ble_eq_true rfl) (fun hos => ?_)
  show cRun w mX1_fallsEverSlower 0 [some (aO 6 i), some (aI p1), some (aI p2), none, none, none] [] (mem C S) (rf mm) (kqI (rf mm) S P)
  refine aLdc (pc' := 2) qX1_44 ⟨by decide, by decide⟩ dX1_fallsEverSlower_0 rfl ?_
  refine aIstore_n (pc' := 3) dX1_fallsEverSlower_2 (by decide) rfl (L' := [some (aO 6 i), some (aI p1), some (aI p2), some (aI 2147483647), none, none]) rfl ?_
  refine aIload_n (pc' := 4) dX1_fallsEverSlower_3 rfl rfl ?_
  refine aIstore (pc' := 6) dX1_fallsEverSlower_4 (by decide) rfl (L' := [some (aO 6 i), some (aI p1), some (aI p2), some (aI 2147483647), some (aI p1), none]) rfl ?_
  exact hw
set_option maxRecDepth 100000 in
set_option maxHeartbeats 4000000 in
theorem gX1_fallsEverSlower_6 {w : aW} {mm : Nat} {C : aIF} {S : aS} {i : Nat} {p1 : Int} {p2 : Int} {l3 : Int} {l4 : Nat} {P : Int → aIF → Prop} (hi : i < 6) (hw : ((p2 ≤ (l4 : Int)) → P 1 C) ∧ ((¬ (p2 ≤ (l4 : Int))) → (l4 < 65) ∧ ((-2147483648 ≤ ((l4 : Int) + 1) ∧ ((l4 : Int) + 1) < 2147483648) ∧ (((l4 + 1) < 65) ∧ ((-2147483648 ≤ ((C 8 i l4) - (C 8 i ((l4 + 1)))) ∧ ((C 8 i l4) - (C 8 i ((l4 + 1)))) < 2147483648) ∧ (((((C 8 i l4) - (C 8 i ((l4 + 1)))) < 0) → P 0 C) ∧ ((¬ (((C 8 i l4) - (C 8 i ((l4 + 1)))) < 0)) → ((((C 8 i l4) - (C 8 i ((l4 + 1)))) ≤ l3) → (l4 + 1 < 2147483648) ∧ (kRunI w mX1_fallsEverSlower 6 [some (aO 6 i), some (aI p1), some (aI p2), some (aI (((C 8 i l4) - (C 8 i ((l4 + 1)))))), some (aI ((((l4 + 1) : Nat) : Int))), none] [] C S (rf mm) P)) ∧ ((¬ (((C 8 i l4) - (C 8 i ((l4 + 1)))) ≤ l3)) → P 0 C)))))))) : kRunI w mX1_fallsEverSlower 6 [some (aO 6 i), some (aI p1), some (aI p2), some (aI l3), some (aI ((l4 : Int))), none] [] C S (rf mm) P := by
  refine aIload (pc' := 8) dX1_fallsEverSlower_6 rfl rfl ?_
  refine aIload_n (pc' := 9) dX1_fallsEverSlower_8 rfl rfl ?_
  refine aIcmp_ge (tgt := 53) (pc' := 12) dX1_fallsEverSlower_9 (by decide) rfl (fun hc => ?_) (fun hc => ?_)
  · have hw := hw.1 hc
    refine aIconst (pc' := 54) ⟨by decide, by decide⟩ dX1_fallsEverSlower_53 rfl ?_
    exact cZret dX1_fallsEverSlower_54 okX1_fallsEverSlower rfl (by decide) ⟨rfl, _, rfl, _, rfl, hw⟩
  · have hw := hw.2 hc
    refine aAload_n (pc' := 13) dX1_fallsEverSlower_12 rfl rfl ?_
    refine aGetR (pc' := 16) (q := (8, i)) dX1_fallsEverSlower_13 fX1_15 rfl rfl (lv hi) rfl rfl ?_
    refine aIload (pc' := 18) dX1_fallsEverSlower_16 rfl rfl ?_
    obtain ⟨h1, hw⟩ := hw
    refine aIald (pc' := 19) (j := l4) dX1_fallsEverSlower_18 rfl (lv hi) rfl h1 rfl ?_
    refine aTopEq (y := (C 8 i l4)) rfl ?_
    refine aAload_n (pc' := 20) dX1_fallsEverSlower_19 rfl rfl ?_
    refine aGetR (pc' := 23) (q := (8, i)) dX1_fallsEverSlower_20 fX1_15 rfl rfl (lv hi) rfl rfl ?_
    refine aIload (pc' := 25) dX1_fallsEverSlower_23 rfl rfl ?_
    refine aIconst (pc' := 26) ⟨by decide, by decide⟩ dX1_fallsEverSlower_25 rfl ?_
    obtain ⟨h2, hw⟩ := hw
    refine aIadd (pc' := 27) h2.1 h2.2 dX1_fallsEverSlower_26 rfl ?_
    obtain ⟨h3, hw⟩ := hw
    refine aIald (pc' := 28) (j := (l4 + 1)) dX1_fallsEverSlower_27 rfl (lv hi) (by omega) h3 rfl ?_
    refine aTopEq (y := (C 8 i ((l4 + 1)))) rfl ?_
    obtain ⟨h4, hw⟩ := hw
    refine aIsub (pc' := 29) h4.1 h4.2 dX1_fallsEverSlower_28 rfl ?_
    refine aIstore (pc' := 31) dX1_fallsEverSlower_29 (by decide) rfl (L' := [some (aO 6 i), some (aI p1), some (aI p2), some (aI l3), some (aI ((l4 : Int))), some (aI (((C 8 i l4) - (C 8 i ((l4 + 1))))))]) rfl ?_
    refine aIload (pc' := 33) dX1_fallsEverSlower_31 rfl rfl ?_
    refine aIf_lt (tgt := 42) (pc' := 36) dX1_fallsEverSlower_33 (by decide) rfl (fun hc => ?_) (fun hc => ?_)
    · have hw := hw.1 hc
      refine aIconst (pc' := 43) ⟨by decide, by decide⟩ dX1_fallsEverSlower_42 rfl ?_
      exact cZret dX1_fallsEverSlower_43 okX1_fallsEverSlower rfl (by decide) ⟨rfl, _, rfl, _, rfl, hw⟩
    · have hw := hw.2 hc
      refine aIload (pc' := 38) dX1_fallsEverSlower_36 rfl rfl ?_
      refine aIload_n (pc' := 39) dX1_fallsEverSlower_38 rfl rfl ?_
      refine aIcmp_le (tgt := 44) (pc' := 42) dX1_fallsEverSlower_39 (by decide) rfl (fun hc => ?_) (fun hc => ?_)
      · have hw := hw.1 hc
        refine aIload (pc' := 46) dX1_fallsEverSlower_44 rfl rfl ?_
        refine aIstore_n (pc' := 47) dX1_fallsEverSlower_46 (by decide) rfl (L' := [some (aO 6 i), some (aI p1), some (aI p2), some (aI (((C 8 i l4) - (C 8 i ((l4 + 1)))))), some (aI ((l4 : Int))), some (aI (((C 8 i l4) - (C 8 i ((l4 + 1))))))]) rfl ?_
        obtain ⟨h5, hw⟩ := hw
        refine aIinc1 (pc' := 50) dX1_fallsEverSlower_47 rfl (by decide) h5 rfl (L' := [some (aO 6 i), some (aI p1), some (aI p2), some (aI (((C 8 i l4) - (C 8 i ((l4 + 1)))))), some (aI ((((l4 + 1) : Nat) : Int))), some (aI (((C 8 i l4) - (C 8 i ((l4 + 1))))))]) rfl ?_
        refine aGoto (pc' := 6) dX1_fallsEverSlower_50 (by decide) ?_
        exact aDrop [5] (L' := [some (aO 6 i), some (aI p1), some (aI p2), some (aI (((C 8 i l4) - (C 8 i ((l4 + 1)))))), some (aI ((((l4 + 1) : Nat) : Int))), none]) rfl hw
      · have hw := hw.2 hc
        refine aIconst (pc' := 43) ⟨by decide, by decide⟩ dX1_fallsEverSlower_42 rfl ?_
        exact cZret dX1_fallsEverSlower_43 okX1_fallsEverSlower rfl (by decide) ⟨rfl, _, rfl, _, rfl, hw⟩
set_option maxRecDepth 100000 in
set_option maxHeartbeats 4000000 in
theorem gX1_holds {w : aW} {mm : Nat} {C : aIF} {S : aS} {i : Nat} {p1 : Int} {P : Int → aIF → Prop} (hi : i < 6) (hw : (((C 6 i 2) = 0) → P p1 C) ∧ ((¬ ((C 6 i 2) = 0)) → (0 ≤ p1) ∧ (P (p1 / 2) C))) : kMetI w mX1_holds [aO 6 i, aI p1] C S (rf mm) P := by
  refine cMet_of okX1_holds (Nat.le_of_ble_eq_true rfl) (fun hos => ?_)
  show cRun w mX1_holds 0 [some (aO 6 i), some (aI p1)] [] (mem C S) (rf mm) (kqI (rf mm) S P)
  refine aAload_n (pc' := 1) dX1_holds_0 rfl rfl ?_
  refine aGetI (pc' := 4) dX1_holds_1 fX1_29 rfl rfl (lv hi) rfl ?_
  refine aTopEq (y := (C 6 i 2)) rfl ?_
  refine aIf_eq (tgt := 13) (pc' := 7) dX1_holds_4 (by decide) rfl (fun hc => ?_) (fun hc => ?_)
  · have hw := hw.1 hc
    refine aIload_n (pc' := 14) dX1_holds_13 rfl rfl ?_
    exact cIret dX1_holds_14 okX1_holds rfl ⟨rfl, _, rfl, _, rfl, hw⟩
  · have hw := hw.2 hc
    refine aIload_n (pc' := 8) dX1_holds_7 rfl rfl ?_
    refine aIconst (pc' := 9) ⟨by decide, by decide⟩ dX1_holds_8 rfl ?_
    obtain ⟨h1, hw⟩ := hw
    refine aIdiv (pc' := 10) h1 (by decide) dX1_holds_9 rfl ?_
    refine aGoto (pc' := 14) dX1_holds_10 (by decide) ?_
    exact cIret dX1_holds_14 okX1_holds rfl ⟨rfl, _, rfl, _, rfl, hw⟩
set_option maxRecDepth 100000 in
set_option maxHeartbeats 4000000 in
theorem gX1_isMake {w : aW} {mm : Nat} {C : aIF} {S : aS} {p1 : Int} {P : Int → aIF → Prop} (hw : ((p1 ≤ 0) → P 0 C) ∧ ((¬ (p1 ≤ 0)) → ((1000 ≤ p1) → P 0 C) ∧ ((¬ (1000 ≤ p1)) → P 1 C))) : kMetI w mX1_isMake [aI p1] C S (rf mm) P := by
  refine cMet_of okX1_isMake (Nat.le_of_ble_eq_true rfl) (fun hos => ?_)
  show cRun w mX1_isMake 0 [some (aI p1)] [] (mem C S) (rf mm) (kqI (rf mm) S P)
  refine aIload_n (pc' := 1) dX1_isMake_0 rfl rfl ?_
  refine aIf_le (tgt := 15) (pc' := 4) dX1_isMake_1 (by decide) rfl (fun hc => ?_) (fun hc => ?_)
  · have hw := hw.1 hc
    refine aIconst (pc' := 16) ⟨by decide, by decide⟩ dX1_isMake_15 rfl ?_
    exact cZret dX1_isMake_16 okX1_isMake rfl (by decide) ⟨rfl, _, rfl, _, rfl, hw⟩
  · have hw := hw.2 hc
    refine aIload_n (pc' := 5) dX1_isMake_4 rfl rfl ?_
    refine aSipush (pc' := 8) ⟨by decide, by decide⟩ dX1_isMake_5 rfl ?_
    refine aIcmp_ge (tgt := 15) (pc' := 11) dX1_isMake_8 (by decide) rfl (fun hc => ?_) (fun hc => ?_)
    · have hw := hw.1 hc
      refine aIconst (pc' := 16) ⟨by decide, by decide⟩ dX1_isMake_15 rfl ?_
      exact cZret dX1_isMake_16 okX1_isMake rfl (by decide) ⟨rfl, _, rfl, _, rfl, hw⟩
    · have hw := hw.2 hc
      refine aIconst (pc' := 12) ⟨by decide, by decide⟩ dX1_isMake_11 rfl ?_
      refine aGoto (pc' := 16) dX1_isMake_12 (by decide) ?_
      exact cZret dX1_isMake_16 okX1_isMake rfl (by decide) ⟨rfl, _, rfl, _, rfl, hw⟩
set_option maxRecDepth 100000 in
set_option maxHeartbeats 4000000 in
theorem gX1_roomFor {w : aW} {mm : Nat} {C : aIF} {S : aS} {i : Nat} {p1 : Int} {P : Int → aIF → Prop} (hi : i < 6) (hw : (((C 6 i 2) = 0) → P p1 C) ∧ ((¬ ((C 6 i 2) = 0)) → (-2147483648 ≤ (2 * p1) ∧ (2 * p1) < 2147483648) ∧ (P (2 * p1) C))) : kMetI w mX1_roomFor [aO 6 i, aI p1] C S (rf mm) P := by
  refine cMet_of okX1_roomFor (Nat.le_of_ble_eq_true rfl) (fun hos => ?_)
  show cRun w mX1_roomFor 0 [some (aO 6 i), some (aI p1)] [] (mem C S) (rf mm) (kqI (rf mm) S P)
  refine aAload_n (pc' := 1) dX1_roomFor_0 rfl rfl ?_
  refine aGetI (pc' := 4) dX1_roomFor_1 fX1_29 rfl rfl (lv hi) rfl ?_
  refine aTopEq (y := (C 6 i 2)) rfl ?_
  refine aIf_eq (tgt := 13) (pc' := 7) dX1_roomFor_4 (by decide) rfl (fun hc => ?_) (fun hc => ?_)
  · have hw := hw.1 hc
    refine aIload_n (pc' := 14) dX1_roomFor_13 rfl rfl ?_
    exact cIret dX1_roomFor_14 okX1_roomFor rfl ⟨rfl, _, rfl, _, rfl, hw⟩
  · have hw := hw.2 hc
    refine aIconst (pc' := 8) ⟨by decide, by decide⟩ dX1_roomFor_7 rfl ?_
    refine aIload_n (pc' := 9) dX1_roomFor_8 rfl rfl ?_
    obtain ⟨h1, hw⟩ := hw
    refine aImul (pc' := 10) h1.1 h1.2 dX1_roomFor_9 rfl ?_
    refine aGoto (pc' := 14) dX1_roomFor_10 (by decide) ?_
    exact cIret dX1_roomFor_14 okX1_roomFor rfl ⟨rfl, _, rfl, _, rfl, hw⟩
set_option maxRecDepth 100000 in
set_option maxHeartbeats 4000000 in
theorem gX3_cut {w : aW} {mm : Nat} {C : aIF} {S : aS} {i : Nat} {p1 : Int} {P : Int → aIF → Prop} (hi : i < 4) (hw : (((C 3 i 1) = 0) → P (Int32.ofInt ((Int64.ofInt p1).toInt32.toInt)).toInt8.toInt32.toInt C) ∧ (((C 3 i 1) = 1) → P (Int32.ofInt ((Int64.ofInt p1).toInt32.toInt)).toInt16.toInt32.toInt C) ∧ (((C 3 i 1) = 2) → P (Int64.ofInt p1).toInt32.toInt C) ∧ (((C 3 i 1) < 0 ∨ 2 < (C 3 i 1)) → P p1 C)) : kMetL w mX3_cut [aO 3 i, aL p1] C S (rf mm) P := by
  refine cMet_of okX3_cut (Nat.le_of_ble_eq_true rfl) (fun hos => ?_)
  show cRun w mX3_cut 0 [some (aO 3 i), some (aL p1), none] [] (mem C S) (rf mm) (kqL (rf mm) S P)
  refine aAload_n (pc' := 1) dX3_cut_0 rfl rfl ?_
  refine aGetI (pc' := 4) dX3_cut_1 fX3_15 rfl rfl (lv hi) rfl ?_
  refine aTopEq (y := (C 3 i 1)) rfl ?_
  rcases (show (C 3 i 1) = 0 ∨ (C 3 i 1) = 1 ∨ (C 3 i 1) = 2 ∨ ((C 3 i 1) < 0 ∨ 2 < (C 3 i 1)) by omega) with hc | hc | hc | hc
  · have hw := hw.1 hc
    refine aTswIn (tgt := 32) dX3_cut_4 (by omega) (by omega) (by rw [hc]; rfl) (by decide) ?_
    refine aLload_n (pc' := 33) dX3_cut_32 rfl rfl ?_
    refine aL2i (pc' := 34) dX3_cut_33 rfl ?_
    refine aI2b (pc' := 35) dX3_cut_34 rfl ?_
    refine aI2l (pc' := 36) dX3_cut_35 rfl ?_
    exact cLret dX3_cut_36 okX3_cut rfl ⟨rfl, _, rfl, _, rfl, hw⟩
  · have hw := hw.2.1 hc
    refine aTswIn (tgt := 37) dX3_cut_4 (by omega) (by omega) (by rw [hc]; rfl) (by decide) ?_
    refine aLload_n (pc' := 38) dX3_cut_37 rfl rfl ?_
    refine aL2i (pc' := 39) dX3_cut_38 rfl ?_
    refine aI2s (pc' := 40) dX3_cut_39 rfl ?_
    refine aI2l (pc' := 41) dX3_cut_40 rfl ?_
    exact cLret dX3_cut_41 okX3_cut rfl ⟨rfl, _, rfl, _, rfl, hw⟩
  · have hw := hw.2.2.1 hc
    refine aTswIn (tgt := 42) dX3_cut_4 (by omega) (by omega) (by rw [hc]; rfl) (by decide) ?_
    refine aLload_n (pc' := 43) dX3_cut_42 rfl rfl ?_
    refine aL2i (pc' := 44) dX3_cut_43 rfl ?_
    refine aI2l (pc' := 45) dX3_cut_44 rfl ?_
    exact cLret dX3_cut_45 okX3_cut rfl ⟨rfl, _, rfl, _, rfl, hw⟩
  · have hw := hw.2.2.2 hc
    refine aTswOut (tgt := 46) dX3_cut_4 hc (by decide) ?_
    refine aLload_n (pc' := 47) dX3_cut_46 rfl rfl ?_
    exact cLret dX3_cut_47 okX3_cut rfl ⟨rfl, _, rfl, _, rfl, hw⟩
set_option maxRecDepth 100000 in
set_option maxHeartbeats 4000000 in
theorem gX3_hasPlaces {w : aW} {mm : Nat} {C : aIF} {S : aS} {i : Nat} {p1 : Int} {p2 : Int} {P : Int → aIF → Prop} (hi : i < 4) (hw : ((p1 < 0) → P 0 C) ∧ ((¬ (p1 < 0)) → ((p2 < 0) → P 0 C) ∧ ((¬ (p2 < 0)) → (((C 3 i 2) < p1) → P 0 C) ∧ ((¬ ((C 3 i 2) < p1)) → (-2147483648 ≤ ((C 3 i 2) - p1) ∧ ((C 3 i 2) - p1) < 2147483648) ∧ (((((C 3 i 2) - p1) < p2) → P 0 C) ∧ ((¬ (((C 3 i 2) - p1) < p2)) → P 1 C)))))) : kMetI w mX3_hasPlaces [aO 3 i, aI p1, aI p2] C S (rf mm) P := by
  refine cMet_of okX3_hasPlaces (Nat.le_of_ble_eq_true rfl) (fun hos => ?_)
  show cRun w mX3_hasPlaces 0 [some (aO 3 i), some (aI p1), some (aI p2)] [] (mem C S) (rf mm) (kqI (rf mm) S P)
  refine aIload_n (pc' := 1) dX3_hasPlaces_0 rfl rfl ?_
  refine aIf_lt (tgt := 30) (pc' := 4) dX3_hasPlaces_1 (by decide) rfl (fun hc => ?_) (fun hc => ?_)
  · have hw := hw.1 hc
    refine aIconst (pc' := 31) ⟨by decide, by decide⟩ dX3_hasPlaces_30 rfl ?_
    exact cZret dX3_hasPlaces_31 okX3_hasPlaces rfl (by decide) ⟨rfl, _, rfl, _, rfl, hw⟩
  · have hw := hw.2 hc
    refine aIload_n (pc' := 5) dX3_hasPlaces_4 rfl rfl ?_
    refine aIf_lt (tgt := 30) (pc' := 8) dX3_hasPlaces_5 (by decide) rfl (fun hc => ?_) (fun hc => ?_)
    · have hw := hw.1 hc
      refine aIconst (pc' := 31) ⟨by decide, by decide⟩ dX3_hasPlaces_30 rfl ?_
      exact cZret dX3_hasPlaces_31 okX3_hasPlaces rfl (by decide) ⟨rfl, _, rfl, _, rfl, hw⟩
    · have hw := hw.2 hc
      refine aIload_n (pc' := 9) dX3_hasPlaces_8 rfl rfl ?_
      refine aAload_n (pc' := 10) dX3_hasPlaces_9 rfl rfl ?_
      refine aGetI (pc' := 13) dX3_hasPlaces_10 fX3_19 rfl rfl (lv hi) rfl ?_
      refine aTopEq (y := (C 3 i 2)) rfl ?_
      refine aIcmp_gt (tgt := 30) (pc' := 16) dX3_hasPlaces_13 (by decide) rfl (fun hc => ?_) (fun hc => ?_)
      · have hw := hw.1 hc
        refine aIconst (pc' := 31) ⟨by decide, by decide⟩ dX3_hasPlaces_30 rfl ?_
        exact cZret dX3_hasPlaces_31 okX3_hasPlaces rfl (by decide) ⟨rfl, _, rfl, _, rfl, hw⟩
      · have hw := hw.2 hc
        refine aIload_n (pc' := 17) dX3_hasPlaces_16 rfl rfl ?_
        refine aAload_n (pc' := 18) dX3_hasPlaces_17 rfl rfl ?_
        refine aGetI (pc' := 21) dX3_hasPlaces_18 fX3_19 rfl rfl (lv hi) rfl ?_
        refine aTopEq (y := (C 3 i 2)) rfl ?_
        refine aIload_n (pc' := 22) dX3_hasPlaces_21 rfl rfl ?_
        obtain ⟨h1, hw⟩ := hw
        refine aIsub (pc' := 23) h1.1 h1.2 dX3_hasPlaces_22 rfl ?_
        refine aIcmp_gt (tgt := 30) (pc' := 26) dX3_hasPlaces_23 (by decide) rfl (fun hc => ?_) (fun hc => ?_)
        · have hw := hw.1 hc
          refine aIconst (pc' := 31) ⟨by decide, by decide⟩ dX3_hasPlaces_30 rfl ?_
          exact cZret dX3_hasPlaces_31 okX3_hasPlaces rfl (by decide) ⟨rfl, _, rfl, _, rfl, hw⟩
        · have hw := hw.2 hc
          refine aIconst (pc' := 27) ⟨by decide, by decide⟩ dX3_hasPlaces_26 rfl ?_
          refine aGoto (pc' := 31) dX3_hasPlaces_27 (by decide) ?_
          exact cZret dX3_hasPlaces_31 okX3_hasPlaces rfl (by decide) ⟨rfl, _, rfl, _, rfl, hw⟩
set_option maxRecDepth 100000 in
set_option maxHeartbeats 4000000 in
theorem gX3_holdsActsAlone {w : aW} {mm : Nat} {C : aIF} {S : aS} {i : Nat} {P : Int → aIF → Prop} (hi : i < 4) (hw : kRunI w mX3_holdsActsAlone 2 [some (aO 3 i), some (aI 0)] [] C S (rf mm) P) : kMetI w mX3_holdsActsAlone [aO 3 i] C S (rf mm) P := by
  refine cMet_of okX3_holdsActsAlone (Nat.le_of_ble_eq_true rfl) (fun hos => ?_)
  show cRun w mX3_holdsActsAlone 0 [some (aO 3 i), none] [] (mem C S) (rf mm) (kqI (rf mm) S P)
  refine aIconst (pc' := 1) ⟨by decide, by decide⟩ dX3_holdsActsAlone_0 rfl ?_
  refine aIstore_n (pc' := 2) dX3_holdsActsAlone_1 (by decide) rfl (L' := [some (aO 3 i), some (aI 0)]) rfl ?_
  exact hw
set_option maxRecDepth 100000 in
set_option maxHeartbeats 4000000 in
theorem gX3_holdsActsAlone_2 {w : aW} {mm : Nat} {C : aIF} {S : aS} {i : Nat} {l1 : Nat} {P : Int → aIF → Prop} (hi : i < 4) (hw : (((C 3 i 2) ≤ (l1 : Int)) → P 1 C) ∧ ((¬ ((C 3 i 2) ≤ (l1 : Int))) → (l1 < 60) ∧ (kMetI w mX3_isAct [aL ((C 4 i l1))] C S (rf mm) (fun x2 C3 => ((x2 ≠ 0) → (l1 + 1 < 2147483648) ∧ (kRunI w mX3_holdsActsAlone 2 [some (aO 3 i), some (aI ((((l1 + 1) : Nat) : Int)))] [] C3 S (rf mm) P)) ∧ ((x2 = 0) → P 0 C3))))) : kRunI w mX3_holdsActsAlone 2 [some (aO 3 i), some (aI ((l1 : Int)))] [] C S (rf mm) P := by
  refine aIload_n (pc' := 3) dX3_holdsActsAlone_2 rfl rfl ?_
  refine aAload_n (pc' := 4) dX3_holdsActsAlone_3 rfl rfl ?_
  refine aGetI (pc' := 7) dX3_holdsActsAlone_4 fX3_19 rfl rfl (lv hi) rfl ?_
  refine aTopEq (y := (C 3 i 2)) rfl ?_
  refine aIcmp_ge (tgt := 30) (pc' := 10) dX3_holdsActsAlone_7 (by decide) rfl (fun hc => ?_) (fun hc => ?_)
  · have hw := hw.1 hc
    refine aIconst (pc' := 31) ⟨by decide, by decide⟩ dX3_holdsActsAlone_30 rfl ?_
    exact cZret dX3_holdsActsAlone_31 okX3_holdsActsAlone rfl (by decide) ⟨rfl, _, rfl, _, rfl, hw⟩
  · have hw := hw.2 hc
    refine aAload_n (pc' := 11) dX3_holdsActsAlone_10 rfl rfl ?_
    refine aGetR (pc' := 14) (q := (4, i)) dX3_holdsActsAlone_11 fX3_9 rfl rfl (lv hi) rfl rfl ?_
    refine aIload_n (pc' := 15) dX3_holdsActsAlone_14 rfl rfl ?_
    obtain ⟨h1, hw⟩ := hw
    refine aLald (pc' := 16) (j := l1) dX3_holdsActsAlone_15 rfl (lv hi) rfl h1 rfl ?_
    refine aTopEqL (y := (C 4 i l1)) rfl ?_
    refine cSI (pc' := 19) [aL ((C 4 i l1))] dX3_holdsActsAlone_16 lX3_22 okX3_isAct ⟨by decide, by decide⟩ npX3_isAct rfl rfl rfl (cMetI_mono hw (fun x2 J4 hw => ?_))
    obtain ⟨C3, rfl, hw⟩ := hw
    refine aIf_ne (tgt := 24) (pc' := 22) dX3_holdsActsAlone_19 (by decide) rfl (fun hc => ?_) (fun hc => ?_)
    · have hw := hw.1 hc
      obtain ⟨h5, hw⟩ := hw
      refine aIinc1 (pc' := 27) dX3_holdsActsAlone_24 rfl (by decide) h5 rfl (L' := [some (aO 3 i), some (aI ((((l1 + 1) : Nat) : Int)))]) rfl ?_
      refine aGoto (pc' := 2) dX3_holdsActsAlone_27 (by decide) ?_
      exact hw
    · have hw := hw.2 hc
      refine aIconst (pc' := 23) ⟨by decide, by decide⟩ dX3_holdsActsAlone_22 rfl ?_
      exact cZret dX3_holdsActsAlone_23 okX3_holdsActsAlone rfl (by decide) ⟨rfl, _, rfl, _, rfl, hw⟩
set_option maxRecDepth 100000 in
set_option maxHeartbeats 4000000 in
theorem gX3_isAct {w : aW} {mm : Nat} {C : aIF} {S : aS} {p1 : Int} {P : Int → aIF → Prop} (hw : ((p1 < (-59)) → ((p1 ≤ 1000) → P 0 C) ∧ ((¬ (p1 ≤ 1000)) → ((1200 < p1) → P 0 C) ∧ ((¬ (1200 < p1)) → P 1 C))) ∧ ((¬ (p1 < (-59))) → ((p1 ≤ 99) → P 1 C) ∧ ((¬ (p1 ≤ 99)) → ((p1 ≤ 1000) → P 0 C) ∧ ((¬ (p1 ≤ 1000)) → ((1200 < p1) → P 0 C) ∧ ((¬ (1200 < p1)) → P 1 C))))) : kMetI w mX3_isAct [aL p1] C S (rf mm) P := by
  refine cMet_of okX3_isAct (Nat.le_of_ble_eq_true rfl) (fun hos => ?_)
  show cRun w mX3_isAct 0 [some (aL p1), none] [] (mem C S) (rf mm) (kqI (rf mm) S P)
  refine aLload_n (pc' := 1) dX3_isAct_0 rfl rfl ?_
  refine aLdc2 (pc' := 4) qX3_26 ⟨by decide, by decide⟩ dX3_isAct_1 rfl ?_
  refine aLc_lt (tgt := 16) (p1 := 5) (pc' := 8) dX3_isAct_4 rfl dX3_isAct_5 (by decide) rfl (fun hc => ?_) (fun hc => ?_)
  · have hw := hw.1 hc
    refine aLload_n (pc' := 17) dX3_isAct_16 rfl rfl ?_
    refine aLdc2 (pc' := 20) qX3_30 ⟨by decide, by decide⟩ dX3_isAct_17 rfl ?_
    refine aLc_le (tgt := 36) (p1 := 21) (pc' := 24) dX3_isAct_20 rfl dX3_isAct_21 (by decide) rfl (fun hc => ?_) (fun hc => ?_)
    · have hw := hw.1 hc
      refine aIconst (pc' := 37) ⟨by decide, by decide⟩ dX3_isAct_36 rfl ?_
      exact cZret dX3_isAct_37 okX3_isAct rfl (by decide) ⟨rfl, _, rfl, _, rfl, hw⟩
    · have hw := hw.2 hc
      refine aLload_n (pc' := 25) dX3_isAct_24 rfl rfl ?_
      refine aLdc2 (pc' := 28) qX3_32 ⟨by decide, by decide⟩ dX3_isAct_25 rfl ?_
      refine aLc_gt (tgt := 36) (p1 := 29) (pc' := 32) dX3_isAct_28 rfl dX3_isAct_29 (by decide) rfl (fun hc => ?_) (fun hc => ?_)
      · have hw := hw.1 hc
        refine aIconst (pc' := 37) ⟨by decide, by decide⟩ dX3_isAct_36 rfl ?_
        exact cZret dX3_isAct_37 okX3_isAct rfl (by decide) ⟨rfl, _, rfl, _, rfl, hw⟩
      · have hw := hw.2 hc
        refine aIconst (pc' := 33) ⟨by decide, by decide⟩ dX3_isAct_32 rfl ?_
        refine aGoto (pc' := 37) dX3_isAct_33 (by decide) ?_
        exact cZret dX3_isAct_37 okX3_isAct rfl (by decide) ⟨rfl, _, rfl, _, rfl, hw⟩
  · have hw := hw.2 hc
    refine aLload_n (pc' := 9) dX3_isAct_8 rfl rfl ?_
    refine aLdc2 (pc' := 12) qX3_28 ⟨by decide, by decide⟩ dX3_isAct_9 rfl ?_
    refine aLc_le (tgt := 32) (p1 := 13) (pc' := 16) dX3_isAct_12 rfl dX3_isAct_13 (by decide) rfl (fun hc => ?_) (fun hc => ?_)
    · have hw := hw.1 hc
      refine aIconst (pc' := 33) ⟨by decide, by decide⟩ dX3_isAct_32 rfl ?_
      refine aGoto (pc' := 37) dX3_isAct_33 (by decide) ?_
      exact cZret dX3_isAct_37 okX3_isAct rfl (by decide) ⟨rfl, _, rfl, _, rfl, hw⟩
    · have hw := hw.2 hc
      refine aLload_n (pc' := 17) dX3_isAct_16 rfl rfl ?_
      refine aLdc2 (pc' := 20) qX3_30 ⟨by decide, by decide⟩ dX3_isAct_17 rfl ?_
      refine aLc_le (tgt := 36) (p1 := 21) (pc' := 24) dX3_isAct_20 rfl dX3_isAct_21 (by decide) rfl (fun hc => ?_) (fun hc => ?_)
      · have hw := hw.1 hc
        refine aIconst (pc' := 37) ⟨by decide, by decide⟩ dX3_isAct_36 rfl ?_
        exact cZret dX3_isAct_37 okX3_isAct rfl (by decide) ⟨rfl, _, rfl, _, rfl, hw⟩
      · have hw := hw.2 hc
        refine aLload_n (pc' := 25) dX3_isAct_24 rfl rfl ?_
        refine aLdc2 (pc' := 28) qX3_32 ⟨by decide, by decide⟩ dX3_isAct_25 rfl ?_
        refine aLc_gt (tgt := 36) (p1 := 29) (pc' := 32) dX3_isAct_28 rfl dX3_isAct_29 (by decide) rfl (fun hc => ?_) (fun hc => ?_)
        · have hw := hw.1 hc
          refine aIconst (pc' := 37) ⟨by decide, by decide⟩ dX3_isAct_36 rfl ?_
          exact cZret dX3_isAct_37 okX3_isAct rfl (by decide) ⟨rfl, _, rfl, _, rfl, hw⟩
        · have hw := hw.2 hc
          refine aIconst (pc' := 33) ⟨by decide, by decide⟩ dX3_isAct_32 rfl ?_
          refine aGoto (pc' := 37) dX3_isAct_33 (by decide) ?_
          exact cZret dX3_isAct_37 okX3_isAct rfl (by decide) ⟨rfl, _, rfl, _, rfl, hw⟩
set_option maxRecDepth 100000 in
set_option maxHeartbeats 4000000 in
theorem gX3_isBare {w : aW} {mm : Nat} {C : aIF} {S : aS} {i : Nat} {P : Int → aIF → Prop} (hi : i < 4) (hw : (((C 3 i 1) ≠ (-1)) → P 0 C) ∧ (((C 3 i 1) = (-1)) → P 1 C)) : kMetI w mX3_isBare [aO 3 i] C S (rf mm) P := by
  refine cMet_of okX3_isBare (Nat.le_of_ble_eq_true rfl) (fun hos => ?_)
  show cRun w mX3_isBare 0 [some (aO 3 i)] [] (mem C S) (rf mm) (kqI (rf mm) S P)
  refine aAload_n (pc' := 1) dX3_isBare_0 rfl rfl ?_
  refine aGetI (pc' := 4) dX3_isBare_1 fX3_15 rfl rfl (lv hi) rfl ?_
  refine aTopEq (y := (C 3 i 1)) rfl ?_
  refine aIconst (pc' := 5) ⟨by decide, by decide⟩ dX3_isBare_4 rfl ?_
  refine aIcmp_ne (tgt := 12) (pc' := 8) dX3_isBare_5 (by decide) rfl (fun hc => ?_) (fun hc => ?_)
  · have hw := hw.1 hc
    refine aIconst (pc' := 13) ⟨by decide, by decide⟩ dX3_isBare_12 rfl ?_
    exact cZret dX3_isBare_13 okX3_isBare rfl (by decide) ⟨rfl, _, rfl, _, rfl, hw⟩
  · have hw := hw.2 hc
    refine aIconst (pc' := 9) ⟨by decide, by decide⟩ dX3_isBare_8 rfl ?_
    refine aGoto (pc' := 13) dX3_isBare_9 (by decide) ?_
    exact cZret dX3_isBare_13 okX3_isBare rfl (by decide) ⟨rfl, _, rfl, _, rfl, hw⟩
set_option maxRecDepth 100000 in
set_option maxHeartbeats 4000000 in
theorem gX3_lay {w : aW} {mm : Nat} {C : aIF} {S : aS} {i : Nat} {p1 : Int} {p2 : Int} {P : aIF → Prop} (hi : i < 4) (hw : kRunV w mX3_lay 12 [some (aO 3 i), some (aI p1), some (aI p2), some (aI 0)] [] (uI (uI C 3 i 1 p1) 3 i 2 p2) S (rf mm) P) : kMetV w mX3_lay [aO 3 i, aI p1, aI p2] C S (rf mm) P := by
  refine cMet_of okX3_lay (Nat.le_of_ble_eq_true rfl) (fun hos => ?_)
  show cRun w mX3_lay 0 [some (aO 3 i), some (aI p1), some (aI p2), none] [] (mem C S) (rf mm) (kqV (rf mm) S P)
  refine aAload_n (pc' := 1) dX3_lay_0 rfl rfl ?_
  refine aIload_n (pc' := 2) dX3_lay_1 rfl rfl ?_
  refine aPutI (pc' := 5) dX3_lay_2 fX3_15 rfl rfl (Or.inl rfl) (lv hi) rfl (cEqI (mK rfl) ?_)
  refine aAload_n (pc' := 6) dX3_lay_5 rfl rfl ?_
  refine aIload_n (pc' := 7) dX3_lay_6 rfl rfl ?_
  refine aPutI (pc' := 10) dX3_lay_7 fX3_19 rfl rfl (Or.inl rfl) (lv hi) rfl (cEqI (mK rfl) ?_)
  refine aIconst (pc' := 11) ⟨by decide, by decide⟩ dX3_lay_10 rfl ?_
  refine aIstore_n (pc' := 12) dX3_lay_11 (by decide) rfl (L' := [some (aO 3 i), some (aI p1), some (aI p2), some (aI 0)]) rfl ?_
  exact hw
set_option maxRecDepth 100000 in
set_option maxHeartbeats 4000000 in
theorem gX3_lay_12 {w : aW} {mm : Nat} {C : aIF} {S : aS} {i : Nat} {p1 : Int} {p2 : Int} {l3 : Nat} {P : aIF → Prop} (hi : i < 4) (hw : ((60 ≤ (l3 : Int)) → P C) ∧ ((¬ (60 ≤ (l3 : Int))) → (l3 < 60) ∧ ((l3 + 1 < 2147483648) ∧ (kRunV w mX3_lay 12 [some (aO 3 i), some (aI p1), some (aI p2), some (aI ((((l3 + 1) : Nat) : Int)))] [] (uI C 4 i l3 0) S (rf mm) P)))) : kRunV w mX3_lay 12 [some (aO 3 i), some (aI p1), some (aI p2), some (aI ((l3 : Int)))] [] C S (rf mm) P := by
  refine aIload_n (pc' := 13) dX3_lay_12 rfl rfl ?_
  refine aBipush (pc' := 15) ⟨by decide, by decide⟩ dX3_lay_13 rfl ?_
  refine aIcmp_ge (tgt := 31) (pc' := 18) dX3_lay_15 (by decide) rfl (fun hc => ?_) (fun hc => ?_)
  · have hw := hw.1 hc
    exact cVret dX3_lay_31 okX3_lay rfl ⟨rfl, rfl, _, rfl, hw⟩
  · have hw := hw.2 hc
    refine aAload_n (pc' := 19) dX3_lay_18 rfl rfl ?_
    refine aGetR (pc' := 22) (q := (4, i)) dX3_lay_19 fX3_9 rfl rfl (lv hi) rfl rfl ?_
    refine aIload_n (pc' := 23) dX3_lay_22 rfl rfl ?_
    refine aLconst0 (pc' := 24) dX3_lay_23 rfl ?_
    obtain ⟨h1, hw⟩ := hw
    refine aLast (pc' := 25) (j := l3) dX3_lay_24 rfl (lv hi) rfl h1 rfl (cEqI (mK rfl) ?_)
    obtain ⟨h2, hw⟩ := hw
    refine aIinc1 (pc' := 28) dX3_lay_25 rfl (by decide) h2 rfl (L' := [some (aO 3 i), some (aI p1), some (aI p2), some (aI ((((l3 + 1) : Nat) : Int)))]) rfl ?_
    refine aGoto (pc' := 12) dX3_lay_28 (by decide) ?_
    exact hw
set_option maxRecDepth 100000 in
set_option maxHeartbeats 4000000 in
theorem gX3_strip {w : aW} {mm : Nat} {C : aIF} {S : aS} {i : Nat} {P : aIF → Prop} (hi : i < 4) (hw : P (uI (uI C 3 i 1 ((-1))) 3 i 2 0)) : kMetV w mX3_strip [aO 3 i] C S (rf mm) P := by
  refine cMet_of okX3_strip (Nat.le_of_ble_eq_true rfl) (fun hos => ?_)
  show cRun w mX3_strip 0 [some (aO 3 i)] [] (mem C S) (rf mm) (kqV (rf mm) S P)
  refine aAload_n (pc' := 1) dX3_strip_0 rfl rfl ?_
  refine aIconst (pc' := 2) ⟨by decide, by decide⟩ dX3_strip_1 rfl ?_
  refine aPutI (pc' := 5) dX3_strip_2 fX3_15 rfl rfl (Or.inl rfl) (lv hi) rfl (cEqI (mK rfl) ?_)
  refine aAload_n (pc' := 6) dX3_strip_5 rfl rfl ?_
  refine aIconst (pc' := 7) ⟨by decide, by decide⟩ dX3_strip_6 rfl ?_
  refine aPutI (pc' := 10) dX3_strip_7 fX3_19 rfl rfl (Or.inl rfl) (lv hi) rfl (cEqI (mK rfl) ?_)
  exact cVret dX3_strip_10 okX3_strip rfl ⟨rfl, rfl, _, rfl, hw⟩
set_option maxRecDepth 100000 in
set_option maxHeartbeats 4000000 in
theorem gX4_add {w : aW} {mm : Nat} {C : aIF} {S : aS} {p1 : Int} {p2 : Int} {p3 : Int} {p4 : Int} {P : aIF → Prop} (hw : (0 ≤ (C 22 0 4)) ∧ ((0 ≤ ((C 22 0 4) % 60) ∧ ((C 22 0 4) % 60) < ((60 : Nat) : Int)) ∧ ((-2147483648 ≤ ((C 22 0 4) + 1) ∧ ((C 22 0 4) + 1) < 2147483648) ∧ (P (uI (uI (uI (uI (uI C 23 0 ((((C 22 0 4) % 60)).toNat) p1) 24 0 ((((C 22 0 4) % 60)).toNat) p2) 25 0 ((((C 22 0 4) % 60)).toNat) p3) 26 0 ((((C 22 0 4) % 60)).toNat) p4) 22 0 4 (((C 22 0 4) + 1))))))) : kMetV w mX4_add [aO 22 0, aI p1, aI p2, aI p3, aI p4] C S (rf mm) P := by
  refine cMet_of okX4_add (Nat.le_of_ble_eq_true rfl) (fun hos => ?_)
  show cRun w mX4_add 0 [some (aO 22 0), some (aI p1), some (aI p2), some (aI p3), some (aI p4), none] [] (mem C S) (rf mm) (kqV (rf mm) S P)
  refine aAload_n (pc' := 1) dX4_add_0 rfl rfl ?_
  refine aGetI (pc' := 4) dX4_add_1 fX4_24 rfl rfl (lv (by decide)) rfl ?_
  refine aTopEq (y := (C 22 0 4)) rfl ?_
  refine aBipush (pc' := 6) ⟨by decide, by decide⟩ dX4_add_4 rfl ?_
  obtain ⟨h1, hw⟩ := hw
  refine aIrem (pc' := 7) h1 (by decide) dX4_add_6 rfl ?_
  refine aIstore (pc' := 9) dX4_add_7 (by decide) rfl (L' := [some (aO 22 0), some (aI p1), some (aI p2), some (aI p3), some (aI p4), some (aI (((C 22 0 4) % 60)))]) rfl ?_
  refine aAload_n (pc' := 10) dX4_add_9 rfl rfl ?_
  refine aGetR (pc' := 13) (q := (23, 0)) dX4_add_10 fX4_9 rfl rfl (lv (by decide)) rfl rfl ?_
  refine aIload (pc' := 15) dX4_add_13 rfl rfl ?_
  refine aIload_n (pc' := 16) dX4_add_15 rfl rfl ?_
  obtain ⟨h2, hw⟩ := hw
  refine aIast (pc' := 17) (j := (((C 22 0 4) % 60)).toNat) dX4_add_16 rfl (lv (by decide)) (tnIx h2).1 (tnIx h2).2 rfl (cEqI (mK rfl) ?_)
  refine aAload_n (pc' := 18) dX4_add_17 rfl rfl ?_
  refine aGetR (pc' := 21) (q := (24, 0)) dX4_add_18 fX4_15 rfl rfl (lv (by decide)) rfl rfl ?_
  refine aIload (pc' := 23) dX4_add_21 rfl rfl ?_
  refine aIload_n (pc' := 24) dX4_add_23 rfl rfl ?_
  refine aIast (pc' := 25) (j := (((C 22 0 4) % 60)).toNat) dX4_add_24 rfl (lv (by decide)) (tnIx h2).1 (tnIx h2).2 rfl (cEqI (mK rfl) ?_)
  refine aAload_n (pc' := 26) dX4_add_25 rfl rfl ?_
  refine aGetR (pc' := 29) (q := (25, 0)) dX4_add_26 fX4_18 rfl rfl (lv (by decide)) rfl rfl ?_
  refine aIload (pc' := 31) dX4_add_29 rfl rfl ?_
  refine aIload_n (pc' := 32) dX4_add_31 rfl rfl ?_
  refine aIast (pc' := 33) (j := (((C 22 0 4) % 60)).toNat) dX4_add_32 rfl (lv (by decide)) (tnIx h2).1 (tnIx h2).2 rfl (cEqI (mK rfl) ?_)
  refine aAload_n (pc' := 34) dX4_add_33 rfl rfl ?_
  refine aGetR (pc' := 37) (q := (26, 0)) dX4_add_34 fX4_21 rfl rfl (lv (by decide)) rfl rfl ?_
  refine aIload (pc' := 39) dX4_add_37 rfl rfl ?_
  refine aIload (pc' := 41) dX4_add_39 rfl rfl ?_
  refine aIast (pc' := 42) (j := (((C 22 0 4) % 60)).toNat) dX4_add_41 rfl (lv (by decide)) (tnIx h2).1 (tnIx h2).2 rfl (cEqI (mK rfl) ?_)
  refine aAload_n (pc' := 43) dX4_add_42 rfl rfl ?_
  refine aDup (pc' := 44) rfl dX4_add_43 rfl ?_
  refine aGetI (pc' := 47) dX4_add_44 fX4_24 rfl rfl (lv (by decide)) rfl ?_
  refine aTopEq (y := ((uI (uI (uI (uI C 23 0 ((((C 22 0 4) % 60)).toNat) p1) 24 0 ((((C 22 0 4) % 60)).toNat) p2) 25 0 ((((C 22 0 4) % 60)).toNat) p3) 26 0 ((((C 22 0 4) % 60)).toNat) p4) 22 0 4)) rfl ?_
  refine aTopEq ((((uI_k rfl).trans (uI_k rfl)).trans (uI_k rfl)).trans (uI_k rfl)) ?_
  refine aIconst (pc' := 48) ⟨by decide, by decide⟩ dX4_add_47 rfl ?_
  obtain ⟨h3, hw⟩ := hw
  refine aIadd (pc' := 49) h3.1 h3.2 dX4_add_48 rfl ?_
  refine aPutI (pc' := 52) dX4_add_49 fX4_24 rfl rfl (Or.inl rfl) (lv (by decide)) rfl (cEqI (mK rfl) ?_)
  exact cVret dX4_add_52 okX4_add rfl ⟨rfl, rfl, _, rfl, hw⟩
set_option maxRecDepth 100000 in
set_option maxHeartbeats 4000000 in
theorem gX4_forget {w : aW} {mm : Nat} {C : aIF} {S : aS} {P : aIF → Prop} (hw : P (uI C 22 0 4 0)) : kMetV w mX4_forget [aO 22 0] C S (rf mm) P := by
  refine cMet_of okX4_forget (Nat.le_of_ble_eq_true rfl) (fun hos => ?_)
  show cRun w mX4_forget 0 [some (aO 22 0)] [] (mem C S) (rf mm) (kqV (rf mm) S P)
  refine aAload_n (pc' := 1) dX4_forget_0 rfl rfl ?_
  refine aIconst (pc' := 2) ⟨by decide, by decide⟩ dX4_forget_1 rfl ?_
  refine aPutI (pc' := 5) dX4_forget_2 fX4_24 rfl rfl (Or.inl rfl) (lv (by decide)) rfl (cEqI (mK rfl) ?_)
  exact cVret dX4_forget_5 okX4_forget rfl ⟨rfl, rfl, _, rfl, hw⟩
set_option maxRecDepth 100000 in
set_option maxHeartbeats 4000000 in
theorem gX4_kept {w : aW} {mm : Nat} {C : aIF} {S : aS} {P : Int → aIF → Prop} (hw : P (min (C 22 0 4) 60) C) : kMetI w mX4_kept [aO 22 0] C S (rf mm) P := by
  refine cMet_of okX4_kept (Nat.le_of_ble_eq_true rfl) (fun hos => ?_)
  show cRun w mX4_kept 0 [some (aO 22 0)] [] (mem C S) (rf mm) (kqI (rf mm) S P)
  refine aAload_n (pc' := 1) dX4_kept_0 rfl rfl ?_
  refine aGetI (pc' := 4) dX4_kept_1 fX4_24 rfl rfl (lv (by decide)) rfl ?_
  refine aTopEq (y := (C 22 0 4)) rfl ?_
  refine aBipush (pc' := 6) ⟨by decide, by decide⟩ dX4_kept_4 rfl ?_
  refine aMin (pc' := 9) dX4_kept_6 lX4_28 rfl rfl (Nat.le_refl _) (Nat.le_refl _) rfl ?_
  exact cIret dX4_kept_9 okX4_kept rfl ⟨rfl, _, rfl, _, rfl, hw⟩
set_option maxRecDepth 100000 in
set_option maxHeartbeats 4000000 in
theorem gX4_told {w : aW} {mm : Nat} {C : aIF} {S : aS} {p1 : Int} {p2 : Int} {P : Int → aIF → Prop} (hw : ((p1 < 0) → P (-2) C) ∧ ((¬ (p1 < 0)) → kMetI w mX4_kept [aO 22 0] C S (rf mm) (fun x1 C2 => ((p1 < x1) → kMetI w mX4_kept [aO 22 0] C2 S (rf mm) (fun x4 C5 => (-2147483648 ≤ ((C2 22 0 4) - x4) ∧ ((C2 22 0 4) - x4) < 2147483648) ∧ ((-2147483648 ≤ (((C2 22 0 4) - x4) + p1) ∧ (((C2 22 0 4) - x4) + p1) < 2147483648) ∧ ((0 ≤ (((C2 22 0 4) - x4) + p1)) ∧ (((p2 = 0) → (0 ≤ ((((C2 22 0 4) - x4) + p1) % 60) ∧ ((((C2 22 0 4) - x4) + p1) % 60) < ((60 : Nat) : Int)) ∧ (P (C5 23 0 ((((((C2 22 0 4) - x4) + p1) % 60)).toNat)) C5)) ∧ ((p2 = 1) → (0 ≤ ((((C2 22 0 4) - x4) + p1) % 60) ∧ ((((C2 22 0 4) - x4) + p1) % 60) < ((60 : Nat) : Int)) ∧ (P (C5 24 0 ((((((C2 22 0 4) - x4) + p1) % 60)).toNat)) C5)) ∧ ((p2 = 2) → (0 ≤ ((((C2 22 0 4) - x4) + p1) % 60) ∧ ((((C2 22 0 4) - x4) + p1) % 60) < ((60 : Nat) : Int)) ∧ (P (C5 25 0 ((((((C2 22 0 4) - x4) + p1) % 60)).toNat)) C5)) ∧ ((p2 = 3) → (0 ≤ ((((C2 22 0 4) - x4) + p1) % 60) ∧ ((((C2 22 0 4) - x4) + p1) % 60) < ((60 : Nat) : Int)) ∧ (P (C5 26 0 ((((((C2 22 0 4) - x4) + p1) % 60)).toNat)) C5)) ∧ ((p2 < 0 ∨ 3 < p2) → P (-2) C5)))))) ∧ ((¬ (p1 < x1)) → P (-2) C2)))) : kMetI w mX4_told [aO 22 0, aI p1, aI p2] C S (rf mm) P := by
  refine cMet_of okX4_told (Nat.le_of_ble_eq_true rfl) (fun hos => ?_)
  show cRun w mX4_told 0 [some (aO 22 0), some (aI p1), some (aI p2), none] [] (mem C S) (rf mm) (kqI (rf mm) S P)
  refine aIload_n (pc' := 1) dX4_told_0 rfl rfl ?_
  refine aIf_lt (tgt := 12) (pc' := 4) dX4_told_1 (by decide) rfl (fun hc => ?_) (fun hc => ?_)
  · have hw := hw.1 hc
    refine aBipush (pc' := 14) ⟨by decide, by decide⟩ dX4_told_12 rfl ?_
    exact cIret dX4_told_14 okX4_told rfl ⟨rfl, _, rfl, _, rfl, hw⟩
  · have hw := hw.2 hc
    refine aIload_n (pc' := 5) dX4_told_4 rfl rfl ?_
    refine aAload_n (pc' := 6) dX4_told_5 rfl rfl ?_
    refine cVI (c := 4) (pc' := 9) [] dX4_told_6 lX4_34 okX4_kept ⟨by decide, by decide⟩ npX4_kept rfl rfl rfl rfl rfl (by decide) rfl (cMetI_mono hw (fun x1 J3 hw => ?_))
    obtain ⟨C2, rfl, hw⟩ := hw
    refine aIcmp_lt (tgt := 15) (pc' := 12) dX4_told_9 (by decide) rfl (fun hc => ?_) (fun hc => ?_)
    · have hw := hw.1 hc
      refine aAload_n (pc' := 16) dX4_told_15 rfl rfl ?_
      refine aGetI (pc' := 19) dX4_told_16 fX4_24 rfl rfl (lv (by decide)) rfl ?_
      refine aTopEq (y := (C2 22 0 4)) rfl ?_
      refine aAload_n (pc' := 20) dX4_told_19 rfl rfl ?_
      refine cVI (c := 4) (pc' := 23) [] dX4_told_20 lX4_34 okX4_kept ⟨by decide, by decide⟩ npX4_kept rfl rfl rfl rfl rfl (by decide) rfl (cMetI_mono hw (fun x4 J6 hw => ?_))
      obtain ⟨C5, rfl, hw⟩ := hw
      obtain ⟨h7, hw⟩ := hw
      refine aIsub (pc' := 24) h7.1 h7.2 dX4_told_23 rfl ?_
      refine aIload_n (pc' := 25) dX4_told_24 rfl rfl ?_
      obtain ⟨h8, hw⟩ := hw
      refine aIadd (pc' := 26) h8.1 h8.2 dX4_told_25 rfl ?_
      refine aBipush (pc' := 28) ⟨by decide, by decide⟩ dX4_told_26 rfl ?_
      obtain ⟨h9, hw⟩ := hw
      refine aIrem (pc' := 29) h9 (by decide) dX4_told_28 rfl ?_
      refine aIstore_n (pc' := 30) dX4_told_29 (by decide) rfl (L' := [some (aO 22 0), some (aI p1), some (aI p2), some (aI (((((C2 22 0 4) - x4) + p1) % 60)))]) rfl ?_
      refine aIload_n (pc' := 31) dX4_told_30 rfl rfl ?_
      rcases (show p2 = 0 ∨ p2 = 1 ∨ p2 = 2 ∨ p2 = 3 ∨ (p2 < 0 ∨ 3 < p2) by omega) with hc | hc | hc | hc | hc
      · have hw := hw.1 hc
        refine aTswIn (tgt := 60) dX4_told_31 (by omega) (by omega) (by rw [hc]; rfl) (by decide) ?_
        refine aAload_n (pc' := 61) dX4_told_60 rfl rfl ?_
        refine aGetR (pc' := 64) (q := (23, 0)) dX4_told_61 fX4_9 rfl rfl (lv (by decide)) rfl rfl ?_
        refine aIload_n (pc' := 65) dX4_told_64 rfl rfl ?_
        obtain ⟨h10, hw⟩ := hw
        refine aIald (pc' := 66) (j := (((((C2 22 0 4) - x4) + p1) % 60)).toNat) dX4_told_65 rfl (lv (by decide)) (tnIx h10).1 (tnIx h10).2 rfl ?_
        refine aTopEq (y := (C5 23 0 ((((((C2 22 0 4) - x4) + p1) % 60)).toNat))) rfl ?_
        exact cIret dX4_told_66 okX4_told rfl ⟨rfl, _, rfl, _, rfl, hw⟩
      · have hw := hw.2.1 hc
        refine aTswIn (tgt := 67) dX4_told_31 (by omega) (by omega) (by rw [hc]; rfl) (by decide) ?_
        refine aAload_n (pc' := 68) dX4_told_67 rfl rfl ?_
        refine aGetR (pc' := 71) (q := (24, 0)) dX4_told_68 fX4_15 rfl rfl (lv (by decide)) rfl rfl ?_
        refine aIload_n (pc' := 72) dX4_told_71 rfl rfl ?_
        obtain ⟨h11, hw⟩ := hw
        refine aIald (pc' := 73) (j := (((((C2 22 0 4) - x4) + p1) % 60)).toNat) dX4_told_72 rfl (lv (by decide)) (tnIx h11).1 (tnIx h11).2 rfl ?_
        refine aTopEq (y := (C5 24 0 ((((((C2 22 0 4) - x4) + p1) % 60)).toNat))) rfl ?_
        exact cIret dX4_told_73 okX4_told rfl ⟨rfl, _, rfl, _, rfl, hw⟩
      · have hw := hw.2.2.1 hc
        refine aTswIn (tgt := 74) dX4_told_31 (by omega) (by omega) (by rw [hc]; rfl) (by decide) ?_
        refine aAload_n (pc' := 75) dX4_told_74 rfl rfl ?_
        refine aGetR (pc' := 78) (q := (25, 0)) dX4_told_75 fX4_18 rfl rfl (lv (by decide)) rfl rfl ?_
        refine aIload_n (pc' := 79) dX4_told_78 rfl rfl ?_
        obtain ⟨h12, hw⟩ := hw
        refine aIald (pc' := 80) (j := (((((C2 22 0 4) - x4) + p1) % 60)).toNat) dX4_told_79 rfl (lv (by decide)) (tnIx h12).1 (tnIx h12).2 rfl ?_
        refine aTopEq (y := (C5 25 0 ((((((C2 22 0 4) - x4) + p1) % 60)).toNat))) rfl ?_
        exact cIret dX4_told_80 okX4_told rfl ⟨rfl, _, rfl, _, rfl, hw⟩
      · have hw := hw.2.2.2.1 hc
        refine aTswIn (tgt := 81) dX4_told_31 (by omega) (by omega) (by rw [hc]; rfl) (by decide) ?_
        refine aAload_n (pc' := 82) dX4_told_81 rfl rfl ?_
        refine aGetR (pc' := 85) (q := (26, 0)) dX4_told_82 fX4_21 rfl rfl (lv (by decide)) rfl rfl ?_
        refine aIload_n (pc' := 86) dX4_told_85 rfl rfl ?_
        obtain ⟨h13, hw⟩ := hw
        refine aIald (pc' := 87) (j := (((((C2 22 0 4) - x4) + p1) % 60)).toNat) dX4_told_86 rfl (lv (by decide)) (tnIx h13).1 (tnIx h13).2 rfl ?_
        refine aTopEq (y := (C5 26 0 ((((((C2 22 0 4) - x4) + p1) % 60)).toNat))) rfl ?_
        exact cIret dX4_told_87 okX4_told rfl ⟨rfl, _, rfl, _, rfl, hw⟩
      · have hw := hw.2.2.2.2 hc
        refine aTswOut (tgt := 88) dX4_told_31 hc (by decide) ?_
        refine aBipush (pc' := 90) ⟨by decide, by decide⟩ dX4_told_88 rfl ?_
        exact cIret dX4_told_90 okX4_told rfl ⟨rfl, _, rfl, _, rfl, hw⟩
    · have hw := hw.2 hc
      refine aBipush (pc' := 14) ⟨by decide, by decide⟩ dX4_told_12 rfl ?_
      exact cIret dX4_told_14 okX4_told rfl ⟨rfl, _, rfl, _, rfl, hw⟩
set_option maxRecDepth 100000 in
set_option maxHeartbeats 4000000 in
theorem gX5_allSteps {w : aW} {mm : Nat} {C : aIF} {S : aS} {P : Int → aIF → Prop} (hw : (0 ≤ (C 9 0 1) ∧ 0 < (C 9 0 0)) ∧ (P ((C 9 0 1) / (C 9 0 0)) C)) : kMetI w mX5_allSteps [aO 9 0] C S (rf mm) P := by
  refine cMet_of okX5_allSteps (Nat.le_of_ble_eq_true rfl) (fun hos => ?_)
  show cRun w mX5_allSteps 0 [some (aO 9 0)] [] (mem C S) (rf mm) (kqI (rf mm) S P)
  refine aAload_n (pc' := 1) dX5_allSteps_0 rfl rfl ?_
  refine aGetI (pc' := 4) dX5_allSteps_1 fX5_15 rfl rfl (lv (by decide)) rfl ?_
  refine aTopEq (y := (C 9 0 1)) rfl ?_
  refine aAload_n (pc' := 5) dX5_allSteps_4 rfl rfl ?_
  refine aGetI (pc' := 8) dX5_allSteps_5 fX5_9 rfl rfl (lv (by decide)) rfl ?_
  refine aTopEq (y := (C 9 0 0)) rfl ?_
  obtain ⟨h1, hw⟩ := hw
  refine aIdiv (pc' := 9) h1.1 h1.2 dX5_allSteps_8 rfl ?_
  exact cIret dX5_allSteps_9 okX5_allSteps rfl ⟨rfl, _, rfl, _, rfl, hw⟩
set_option maxRecDepth 100000 in
set_option maxHeartbeats 4000000 in
theorem gX5_areSound {w : aW} {mm : Nat} {C : aIF} {S : aS} {p1 : Int} {p2 : Int} {p3 : Int} {P : Int → aIF → Prop} (hw : ((p1 < 1) → P 0 C) ∧ ((¬ (p1 < 1)) → ((p1 ≤ 64) → ((p2 < p1) → P 0 C) ∧ ((¬ (p2 < p1)) → ((4096 < p2) → P 0 C) ∧ ((¬ (4096 < p2)) → (0 ≤ p2 ∧ 0 < p1) ∧ ((((p2 % p1) ≠ 0) → P 0 C) ∧ (((p2 % p1) = 0) → (0 ≤ p2 ∧ 0 < p1) ∧ (((64 < (p2 / p1)) → P 0 C) ∧ ((¬ (64 < (p2 / p1))) → ((p3 < 0) → P 0 C) ∧ ((¬ (p3 < 0)) → ((p2 < p3) → P 0 C) ∧ ((¬ (p2 < p3)) → (0 ≤ p3 ∧ 0 < p1) ∧ ((((p3 % p1) ≠ 0) → P 0 C) ∧ (((p3 % p1) = 0) → P 1 C))))))))))) ∧ ((¬ (p1 ≤ 64)) → P 0 C))) : kMetI w mX5_areSound [aI p1, aI p2, aI p3] C S (rf mm) P := by
  refine cMet_of okX5_areSound (Nat.le_of_ble_eq_true rfl) (fun hos => ?_)
  show cRun w mX5_areSound 0 [some (aI p1), some (aI p2), some (aI p3)] [] (mem C S) (rf mm) (kqI (rf mm) S P)
  refine aIload_n (pc' := 1) dX5_areSound_0 rfl rfl ?_
  refine aIconst (pc' := 2) ⟨by decide, by decide⟩ dX5_areSound_1 rfl ?_
  refine aIcmp_lt (tgt := 11) (pc' := 5) dX5_areSound_2 (by decide) rfl (fun hc => ?_) (fun hc => ?_)
  · have hw := hw.1 hc
    refine aIconst (pc' := 12) ⟨by decide, by decide⟩ dX5_areSound_11 rfl ?_
    exact cZret dX5_areSound_12 okX5_areSound rfl (by decide) ⟨rfl, _, rfl, _, rfl, hw⟩
  · have hw := hw.2 hc
    refine aIload_n (pc' := 6) dX5_areSound_5 rfl rfl ?_
    refine aBipush (pc' := 8) ⟨by decide, by decide⟩ dX5_areSound_6 rfl ?_
    refine aIcmp_le (tgt := 13) (pc' := 11) dX5_areSound_8 (by decide) rfl (fun hc => ?_) (fun hc => ?_)
    · have hw := hw.1 hc
      refine aIload_n (pc' := 14) dX5_areSound_13 rfl rfl ?_
      refine aIload_n (pc' := 15) dX5_areSound_14 rfl rfl ?_
      refine aIcmp_lt (tgt := 58) (pc' := 18) dX5_areSound_15 (by decide) rfl (fun hc => ?_) (fun hc => ?_)
      · have hw := hw.1 hc
        refine aIconst (pc' := 59) ⟨by decide, by decide⟩ dX5_areSound_58 rfl ?_
        exact cZret dX5_areSound_59 okX5_areSound rfl (by decide) ⟨rfl, _, rfl, _, rfl, hw⟩
      · have hw := hw.2 hc
        refine aIload_n (pc' := 19) dX5_areSound_18 rfl rfl ?_
        refine aSipush (pc' := 22) ⟨by decide, by decide⟩ dX5_areSound_19 rfl ?_
        refine aIcmp_gt (tgt := 58) (pc' := 25) dX5_areSound_22 (by decide) rfl (fun hc => ?_) (fun hc => ?_)
        · have hw := hw.1 hc
          refine aIconst (pc' := 59) ⟨by decide, by decide⟩ dX5_areSound_58 rfl ?_
          exact cZret dX5_areSound_59 okX5_areSound rfl (by decide) ⟨rfl, _, rfl, _, rfl, hw⟩
        · have hw := hw.2 hc
          refine aIload_n (pc' := 26) dX5_areSound_25 rfl rfl ?_
          refine aIload_n (pc' := 27) dX5_areSound_26 rfl rfl ?_
          obtain ⟨h1, hw⟩ := hw
          refine aIrem (pc' := 28) h1.1 h1.2 dX5_areSound_27 rfl ?_
          refine aIf_ne (tgt := 58) (pc' := 31) dX5_areSound_28 (by decide) rfl (fun hc => ?_) (fun hc => ?_)
          · have hw := hw.1 hc
            refine aIconst (pc' := 59) ⟨by decide, by decide⟩ dX5_areSound_58 rfl ?_
            exact cZret dX5_areSound_59 okX5_areSound rfl (by decide) ⟨rfl, _, rfl, _, rfl, hw⟩
          · have hw := hw.2 hc
            refine aIload_n (pc' := 32) dX5_areSound_31 rfl rfl ?_
            refine aIload_n (pc' := 33) dX5_areSound_32 rfl rfl ?_
            obtain ⟨h2, hw⟩ := hw
            refine aIdiv (pc' := 34) h2.1 h2.2 dX5_areSound_33 rfl ?_
            refine aBipush (pc' := 36) ⟨by decide, by decide⟩ dX5_areSound_34 rfl ?_
            refine aIcmp_gt (tgt := 58) (pc' := 39) dX5_areSound_36 (by decide) rfl (fun hc => ?_) (fun hc => ?_)
            · have hw := hw.1 hc
              refine aIconst (pc' := 59) ⟨by decide, by decide⟩ dX5_areSound_58 rfl ?_
              exact cZret dX5_areSound_59 okX5_areSound rfl (by decide) ⟨rfl, _, rfl, _, rfl, hw⟩
            · have hw := hw.2 hc
              refine aIload_n (pc' := 40) dX5_areSound_39 rfl rfl ?_
              refine aIf_lt (tgt := 58) (pc' := 43) dX5_areSound_40 (by decide) rfl (fun hc => ?_) (fun hc => ?_)
              · have hw := hw.1 hc
                refine aIconst (pc' := 59) ⟨by decide, by decide⟩ dX5_areSound_58 rfl ?_
                exact cZret dX5_areSound_59 okX5_areSound rfl (by decide) ⟨rfl, _, rfl, _, rfl, hw⟩
              · have hw := hw.2 hc
                refine aIload_n (pc' := 44) dX5_areSound_43 rfl rfl ?_
                refine aIload_n (pc' := 45) dX5_areSound_44 rfl rfl ?_
                refine aIcmp_gt (tgt := 58) (pc' := 48) dX5_areSound_45 (by decide) rfl (fun hc => ?_) (fun hc => ?_)
                · have hw := hw.1 hc
                  refine aIconst (pc' := 59) ⟨by decide, by decide⟩ dX5_areSound_58 rfl ?_
                  exact cZret dX5_areSound_59 okX5_areSound rfl (by decide) ⟨rfl, _, rfl, _, rfl, hw⟩
                · have hw := hw.2 hc
                  refine aIload_n (pc' := 49) dX5_areSound_48 rfl rfl ?_
                  refine aIload_n (pc' := 50) dX5_areSound_49 rfl rfl ?_
                  obtain ⟨h3, hw⟩ := hw
                  refine aIrem (pc' := 51) h3.1 h3.2 dX5_areSound_50 rfl ?_
                  refine aIf_ne (tgt := 58) (pc' := 54) dX5_areSound_51 (by decide) rfl (fun hc => ?_) (fun hc => ?_)
                  · have hw := hw.1 hc
                    refine aIconst (pc' := 59) ⟨by decide, by decide⟩ dX5_areSound_58 rfl ?_
                    exact cZret dX5_areSound_59 okX5_areSound rfl (by decide) ⟨rfl, _, rfl, _, rfl, hw⟩
                  · have hw := hw.2 hc
                    refine aIconst (pc' := 55) ⟨by decide, by decide⟩ dX5_areSound_54 rfl ?_
                    refine aGoto (pc' := 59) dX5_areSound_55 (by decide) ?_
                    exact cZret dX5_areSound_59 okX5_areSound rfl (by decide) ⟨rfl, _, rfl, _, rfl, hw⟩
    · have hw := hw.2 hc
      refine aIconst (pc' := 12) ⟨by decide, by decide⟩ dX5_areSound_11 rfl ?_
      exact cZret dX5_areSound_12 okX5_areSound rfl (by decide) ⟨rfl, _, rfl, _, rfl, hw⟩
set_option maxRecDepth 100000 in
set_option maxHeartbeats 4000000 in
theorem gX5_dealtSteps {w : aW} {mm : Nat} {C : aIF} {S : aS} {P : Int → aIF → Prop} (hw : (-2147483648 ≤ ((C 9 0 1) - (C 9 0 2)) ∧ ((C 9 0 1) - (C 9 0 2)) < 2147483648) ∧ ((0 ≤ ((C 9 0 1) - (C 9 0 2)) ∧ 0 < (C 9 0 0)) ∧ (P (((C 9 0 1) - (C 9 0 2)) / (C 9 0 0)) C))) : kMetI w mX5_dealtSteps [aO 9 0] C S (rf mm) P := by
  refine cMet_of okX5_dealtSteps (Nat.le_of_ble_eq_true rfl) (fun hos => ?_)
  show cRun w mX5_dealtSteps 0 [some (aO 9 0)] [] (mem C S) (rf mm) (kqI (rf mm) S P)
  refine aAload_n (pc' := 1) dX5_dealtSteps_0 rfl rfl ?_
  refine aGetI (pc' := 4) dX5_dealtSteps_1 fX5_15 rfl rfl (lv (by decide)) rfl ?_
  refine aTopEq (y := (C 9 0 1)) rfl ?_
  refine aAload_n (pc' := 5) dX5_dealtSteps_4 rfl rfl ?_
  refine aGetI (pc' := 8) dX5_dealtSteps_5 fX5_18 rfl rfl (lv (by decide)) rfl ?_
  refine aTopEq (y := (C 9 0 2)) rfl ?_
  obtain ⟨h1, hw⟩ := hw
  refine aIsub (pc' := 9) h1.1 h1.2 dX5_dealtSteps_8 rfl ?_
  refine aAload_n (pc' := 10) dX5_dealtSteps_9 rfl rfl ?_
  refine aGetI (pc' := 13) dX5_dealtSteps_10 fX5_9 rfl rfl (lv (by decide)) rfl ?_
  refine aTopEq (y := (C 9 0 0)) rfl ?_
  obtain ⟨h2, hw⟩ := hw
  refine aIdiv (pc' := 14) h2.1 h2.2 dX5_dealtSteps_13 rfl ?_
  exact cIret dX5_dealtSteps_14 okX5_dealtSteps rfl ⟨rfl, _, rfl, _, rfl, hw⟩
set_option maxRecDepth 100000 in
set_option maxHeartbeats 4000000 in
theorem gX5_stepsFor {w : aW} {mm : Nat} {C : aIF} {S : aS} {p1 : Int} {P : Int → aIF → Prop} (hw : (-2147483648 ≤ (p1 + (C 9 0 0)) ∧ (p1 + (C 9 0 0)) < 2147483648) ∧ ((-2147483648 ≤ ((p1 + (C 9 0 0)) - 1) ∧ ((p1 + (C 9 0 0)) - 1) < 2147483648) ∧ ((0 ≤ ((p1 + (C 9 0 0)) - 1) ∧ 0 < (C 9 0 0)) ∧ (P (((p1 + (C 9 0 0)) - 1) / (C 9 0 0)) C)))) : kMetI w mX5_stepsFor [aO 9 0, aI p1] C S (rf mm) P := by
  refine cMet_of okX5_stepsFor (Nat.le_of_ble_eq_true rfl) (fun hos => ?_)
  show cRun w mX5_stepsFor 0 [some (aO 9 0), some (aI p1)] [] (mem C S) (rf mm) (kqI (rf mm) S P)
  refine aIload_n (pc' := 1) dX5_stepsFor_0 rfl rfl ?_
  refine aAload_n (pc' := 2) dX5_stepsFor_1 rfl rfl ?_
  refine aGetI (pc' := 5) dX5_stepsFor_2 fX5_9 rfl rfl (lv (by decide)) rfl ?_
  refine aTopEq (y := (C 9 0 0)) rfl ?_
  obtain ⟨h1, hw⟩ := hw
  refine aIadd (pc' := 6) h1.1 h1.2 dX5_stepsFor_5 rfl ?_
  refine aIconst (pc' := 7) ⟨by decide, by decide⟩ dX5_stepsFor_6 rfl ?_
  obtain ⟨h2, hw⟩ := hw
  refine aIsub (pc' := 8) h2.1 h2.2 dX5_stepsFor_7 rfl ?_
  refine aAload_n (pc' := 9) dX5_stepsFor_8 rfl rfl ?_
  refine aGetI (pc' := 12) dX5_stepsFor_9 fX5_9 rfl rfl (lv (by decide)) rfl ?_
  refine aTopEq (y := (C 9 0 0)) rfl ?_
  obtain ⟨h3, hw⟩ := hw
  refine aIdiv (pc' := 13) h3.1 h3.2 dX5_stepsFor_12 rfl ?_
  exact cIret dX5_stepsFor_13 okX5_stepsFor rfl ⟨rfl, _, rfl, _, rfl, hw⟩
set_option maxRecDepth 100000 in
set_option maxHeartbeats 4000000 in
theorem gX6_add_t {w : aW} {mm : Nat} {C : aIF} {S : aS} {p1 : Int} {P : aIF → Prop} (hw : (0 ≤ (C 12 0 1)) ∧ ((0 ≤ ((C 12 0 1) % 60) ∧ ((C 12 0 1) % 60) < ((60 : Nat) : Int)) ∧ ((-2147483648 ≤ ((C 12 0 1) + 1) ∧ ((C 12 0 1) + 1) < 2147483648) ∧ ((-2147483648 ≤ ((C 12 0 2) + p1) ∧ ((C 12 0 2) + p1) < 2147483648) ∧ (P (uI (uI (uI C 13 0 ((((C 12 0 1) % 60)).toNat) p1) 12 0 1 (((C 12 0 1) + 1))) 12 0 2 (((C 12 0 2) + p1)))))))) : kMetV w mX6_add [aO 12 0, aI p1] C S (rf mm) P := by
  refine cMet_of okX6_add (Nat.le_of_ble_eq_true rfl) (fun hos => ?_)
  show cRun w mX6_add 0 [some (aO 12 0), some (aI p1)] [] (mem C S) (rf mm) (kqV (rf mm) S P)
  refine aAload_n (pc' := 1) dX6_add_0 rfl rfl ?_
  refine aGetR (pc' := 4) (q := (13, 0)) dX6_add_1 fX6_11 rfl rfl (lv (by decide)) rfl rfl ?_
  refine aAload_n (pc' := 5) dX6_add_4 rfl rfl ?_
  refine aGetI (pc' := 8) dX6_add_5 fX6_15 rfl rfl (lv (by decide)) rfl ?_
  refine aTopEq (y := (C 12 0 1)) rfl ?_
  refine aBipush (pc' := 10) ⟨by decide, by decide⟩ dX6_add_8 rfl ?_
  obtain ⟨h1, hw⟩ := hw
  refine aIrem (pc' := 11) h1 (by decide) dX6_add_10 rfl ?_
  refine aIload_n (pc' := 12) dX6_add_11 rfl rfl ?_
  obtain ⟨h2, hw⟩ := hw
  refine aIast (pc' := 13) (j := (((C 12 0 1) % 60)).toNat) dX6_add_12 rfl (lv (by decide)) (tnIx h2).1 (tnIx h2).2 rfl (cEqI (mK rfl) ?_)
  refine aAload_n (pc' := 14) dX6_add_13 rfl rfl ?_
  refine aDup (pc' := 15) rfl dX6_add_14 rfl ?_
  refine aGetI (pc' := 18) dX6_add_15 fX6_15 rfl rfl (lv (by decide)) rfl ?_
  refine aTopEq (y := ((uI C 13 0 ((((C 12 0 1) % 60)).toNat) p1) 12 0 1)) rfl ?_
  refine aTopEq (uI_k rfl) ?_
  refine aIconst (pc' := 19) ⟨by decide, by decide⟩ dX6_add_18 rfl ?_
  obtain ⟨h3, hw⟩ := hw
  refine aIadd (pc' := 20) h3.1 h3.2 dX6_add_19 rfl ?_
  refine aPutI (pc' := 23) dX6_add_20 fX6_15 rfl rfl (Or.inl rfl) (lv (by decide)) rfl (cEqI (mK rfl) ?_)
  refine aAload_n (pc' := 24) dX6_add_23 rfl rfl ?_
  refine aDup (pc' := 25) rfl dX6_add_24 rfl ?_
  refine aGetI (pc' := 28) dX6_add_25 fX6_19 rfl rfl (lv (by decide)) rfl ?_
  refine aTopEq (y := ((uI (uI C 13 0 ((((C 12 0 1) % 60)).toNat) p1) 12 0 1 (((C 12 0 1) + 1))) 12 0 2)) rfl ?_
  refine aTopEq ((uI_j rfl).trans (uI_k rfl)) ?_
  refine aIload_n (pc' := 29) dX6_add_28 rfl rfl ?_
  obtain ⟨h4, hw⟩ := hw
  refine aIadd (pc' := 30) h4.1 h4.2 dX6_add_29 rfl ?_
  refine aPutI (pc' := 33) dX6_add_30 fX6_19 rfl rfl (Or.inl rfl) (lv (by decide)) rfl (cEqI (mK rfl) ?_)
  exact cVret dX6_add_33 okX6_add rfl ⟨rfl, rfl, _, rfl, hw⟩
set_option maxRecDepth 100000 in
set_option maxHeartbeats 4000000 in
theorem gX6_add_r {w : aW} {mm : Nat} {C : aIF} {S : aS} {i : Nat} {p1 : Int} {P : aIF → Prop} (hi : i < 6) (hw : (0 ≤ (C 29 i 1)) ∧ ((0 ≤ ((C 29 i 1) % 60) ∧ ((C 29 i 1) % 60) < ((60 : Nat) : Int)) ∧ ((-2147483648 ≤ ((C 29 i 1) + 1) ∧ ((C 29 i 1) + 1) < 2147483648) ∧ ((-2147483648 ≤ ((C 29 i 2) + p1) ∧ ((C 29 i 2) + p1) < 2147483648) ∧ (P (uI (uI (uI C 30 i ((((C 29 i 1) % 60)).toNat) p1) 29 i 1 (((C 29 i 1) + 1))) 29 i 2 (((C 29 i 2) + p1)))))))) : kMetV w mX6_add [aO 29 i, aI p1] C S (rf mm) P := by
  refine cMet_of okX6_add (Nat.le_of_ble_eq_true rfl) (fun hos => ?_)
  show cRun w mX6_add 0 [some (aO 29 i), some (aI p1)] [] (mem C S) (rf mm) (kqV (rf mm) S P)
  refine aAload_n (pc' := 1) dX6_add_0 rfl rfl ?_
  refine aGetR (pc' := 4) (q := (30, i)) dX6_add_1 fX6_11 rfl rfl (lv hi) rfl rfl ?_
  refine aAload_n (pc' := 5) dX6_add_4 rfl rfl ?_
  refine aGetI (pc' := 8) dX6_add_5 fX6_15 rfl rfl (lv hi) rfl ?_
  refine aTopEq (y := (C 29 i 1)) rfl ?_
  refine aBipush (pc' := 10) ⟨by decide, by decide⟩ dX6_add_8 rfl ?_
  obtain ⟨h1, hw⟩ := hw
  refine aIrem (pc' := 11) h1 (by decide) dX6_add_10 rfl ?_
  refine aIload_n (pc' := 12) dX6_add_11 rfl rfl ?_
  obtain ⟨h2, hw⟩ := hw
  refine aIast (pc' := 13) (j := (((C 29 i 1) % 60)).toNat) dX6_add_12 rfl (lv hi) (tnIx h2).1 (tnIx h2).2 rfl (cEqI (mK rfl) ?_)
  refine aAload_n (pc' := 14) dX6_add_13 rfl rfl ?_
  refine aDup (pc' := 15) rfl dX6_add_14 rfl ?_
  refine aGetI (pc' := 18) dX6_add_15 fX6_15 rfl rfl (lv hi) rfl ?_
  refine aTopEq (y := ((uI C 30 i ((((C 29 i 1) % 60)).toNat) p1) 29 i 1)) rfl ?_
  refine aTopEq (uI_k rfl) ?_
  refine aIconst (pc' := 19) ⟨by decide, by decide⟩ dX6_add_18 rfl ?_
  obtain ⟨h3, hw⟩ := hw
  refine aIadd (pc' := 20) h3.1 h3.2 dX6_add_19 rfl ?_
  refine aPutI (pc' := 23) dX6_add_20 fX6_15 rfl rfl (Or.inl rfl) (lv hi) rfl (cEqI (mK rfl) ?_)
  refine aAload_n (pc' := 24) dX6_add_23 rfl rfl ?_
  refine aDup (pc' := 25) rfl dX6_add_24 rfl ?_
  refine aGetI (pc' := 28) dX6_add_25 fX6_19 rfl rfl (lv hi) rfl ?_
  refine aTopEq (y := ((uI (uI C 30 i ((((C 29 i 1) % 60)).toNat) p1) 29 i 1 (((C 29 i 1) + 1))) 29 i 2)) rfl ?_
  refine aTopEq ((uI_j rfl).trans (uI_k rfl)) ?_
  refine aIload_n (pc' := 29) dX6_add_28 rfl rfl ?_
  obtain ⟨h4, hw⟩ := hw
  refine aIadd (pc' := 30) h4.1 h4.2 dX6_add_29 rfl ?_
  refine aPutI (pc' := 33) dX6_add_30 fX6_19 rfl rfl (Or.inl rfl) (lv hi) rfl (cEqI (mK rfl) ?_)
  exact cVret dX6_add_33 okX6_add rfl ⟨rfl, rfl, _, rfl, hw⟩
set_option maxRecDepth 100000 in
set_option maxHeartbeats 4000000 in
theorem gX6_die_t {w : aW} {mm : Nat} {C : aIF} {S : aS} {p1 : Int} {P : aIF → Prop} (hw : ((p1 < 1) → P C) ∧ ((¬ (p1 < 1)) → ((59 < p1) → P C) ∧ ((¬ (59 < p1)) → ((p1 ≤ (C 12 0 1)) → (-2147483648 ≤ ((C 12 0 1) - p1) ∧ ((C 12 0 1) - p1) < 2147483648) ∧ ((0 ≤ ((C 12 0 1) - p1)) ∧ ((0 ≤ (((C 12 0 1) - p1) % 60) ∧ (((C 12 0 1) - p1) % 60) < ((60 : Nat) : Int)) ∧ ((-2147483648 ≤ ((C 12 0 2) - (C 13 0 (((((C 12 0 1) - p1) % 60)).toNat))) ∧ ((C 12 0 2) - (C 13 0 (((((C 12 0 1) - p1) % 60)).toNat))) < 2147483648) ∧ (P (uI (uI C 12 0 2 (((C 12 0 2) - (C 13 0 (((((C 12 0 1) - p1) % 60)).toNat))))) 13 0 (((((C 12 0 1) - p1) % 60)).toNat) 0)))))) ∧ ((¬ (p1 ≤ (C 12 0 1))) → P C)))) : kMetV w mX6_die [aO 12 0, aI p1] C S (rf mm) P := by
  refine cMet_of okX6_die (Nat.le_of_ble_eq_true rfl) (fun hos => ?_)
  show cRun w mX6_die 0 [some (aO 12 0), some (aI p1), none] [] (mem C S) (rf mm) (kqV (rf mm) S P)
  refine aIload_n (pc' := 1) dX6_die_0 rfl rfl ?_
  refine aIconst (pc' := 2) ⟨by decide, by decide⟩ dX6_die_1 rfl ?_
  refine aIcmp_lt (tgt := 19) (pc' := 5) dX6_die_2 (by decide) rfl (fun hc => ?_) (fun hc => ?_)
  · have hw := hw.1 hc
    exact cVret dX6_die_19 okX6_die rfl ⟨rfl, rfl, _, rfl, hw⟩
  · have hw := hw.2 hc
    refine aIload_n (pc' := 6) dX6_die_5 rfl rfl ?_
    refine aBipush (pc' := 8) ⟨by decide, by decide⟩ dX6_die_6 rfl ?_
    refine aIcmp_gt (tgt := 19) (pc' := 11) dX6_die_8 (by decide) rfl (fun hc => ?_) (fun hc => ?_)
    · have hw := hw.1 hc
      exact cVret dX6_die_19 okX6_die rfl ⟨rfl, rfl, _, rfl, hw⟩
    · have hw := hw.2 hc
      refine aIload_n (pc' := 12) dX6_die_11 rfl rfl ?_
      refine aAload_n (pc' := 13) dX6_die_12 rfl rfl ?_
      refine aGetI (pc' := 16) dX6_die_13 fX6_15 rfl rfl (lv (by decide)) rfl ?_
      refine aTopEq (y := (C 12 0 1)) rfl ?_
      refine aIcmp_le (tgt := 20) (pc' := 19) dX6_die_16 (by decide) rfl (fun hc => ?_) (fun hc => ?_)
      · have hw := hw.1 hc
        refine aAload_n (pc' := 21) dX6_die_20 rfl rfl ?_
        refine aGetI (pc' := 24) dX6_die_21 fX6_15 rfl rfl (lv (by decide)) rfl ?_
        refine aTopEq (y := (C 12 0 1)) rfl ?_
        refine aIload_n (pc' := 25) dX6_die_24 rfl rfl ?_
        obtain ⟨h1, hw⟩ := hw
        refine aIsub (pc' := 26) h1.1 h1.2 dX6_die_25 rfl ?_
        refine aBipush (pc' := 28) ⟨by decide, by decide⟩ dX6_die_26 rfl ?_
        obtain ⟨h2, hw⟩ := hw
        refine aIrem (pc' := 29) h2 (by decide) dX6_die_28 rfl ?_
        refine aIstore_n (pc' := 30) dX6_die_29 (by decide) rfl (L' := [some (aO 12 0), some (aI p1), some (aI ((((C 12 0 1) - p1) % 60)))]) rfl ?_
        refine aAload_n (pc' := 31) dX6_die_30 rfl rfl ?_
        refine aDup (pc' := 32) rfl dX6_die_31 rfl ?_
        refine aGetI (pc' := 35) dX6_die_32 fX6_19 rfl rfl (lv (by decide)) rfl ?_
        refine aTopEq (y := (C 12 0 2)) rfl ?_
        refine aAload_n (pc' := 36) dX6_die_35 rfl rfl ?_
        refine aGetR (pc' := 39) (q := (13, 0)) dX6_die_36 fX6_11 rfl rfl (lv (by decide)) rfl rfl ?_
        refine aIload_n (pc' := 40) dX6_die_39 rfl rfl ?_
        obtain ⟨h3, hw⟩ := hw
        refine aIald (pc' := 41) (j := ((((C 12 0 1) - p1) % 60)).toNat) dX6_die_40 rfl (lv (by decide)) (tnIx h3).1 (tnIx h3).2 rfl ?_
        refine aTopEq (y := (C 13 0 (((((C 12 0 1) - p1) % 60)).toNat))) rfl ?_
        obtain ⟨h4, hw⟩ := hw
        refine aIsub (pc' := 42) h4.1 h4.2 dX6_die_41 rfl ?_
        refine aPutI (pc' := 45) dX6_die_42 fX6_19 rfl rfl (Or.inl rfl) (lv (by decide)) rfl (cEqI (mK rfl) ?_)
        refine aAload_n (pc' := 46) dX6_die_45 rfl rfl ?_
        refine aGetR (pc' := 49) (q := (13, 0)) dX6_die_46 fX6_11 rfl rfl (lv (by decide)) rfl rfl ?_
        refine aIload_n (pc' := 50) dX6_die_49 rfl rfl ?_
        refine aIconst (pc' := 51) ⟨by decide, by decide⟩ dX6_die_50 rfl ?_
        refine aIast (pc' := 52) (j := ((((C 12 0 1) - p1) % 60)).toNat) dX6_die_51 rfl (lv (by decide)) (tnIx h3).1 (tnIx h3).2 rfl (cEqI (mK rfl) ?_)
        exact cVret dX6_die_52 okX6_die rfl ⟨rfl, rfl, _, rfl, hw⟩
      · have hw := hw.2 hc
        exact cVret dX6_die_19 okX6_die rfl ⟨rfl, rfl, _, rfl, hw⟩
set_option maxRecDepth 100000 in
set_option maxHeartbeats 4000000 in
theorem gX6_die_r {w : aW} {mm : Nat} {C : aIF} {S : aS} {i : Nat} {p1 : Int} {P : aIF → Prop} (hi : i < 6) (hw : ((p1 < 1) → P C) ∧ ((¬ (p1 < 1)) → ((59 < p1) → P C) ∧ ((¬ (59 < p1)) → ((p1 ≤ (C 29 i 1)) → (-2147483648 ≤ ((C 29 i 1) - p1) ∧ ((C 29 i 1) - p1) < 2147483648) ∧ ((0 ≤ ((C 29 i 1) - p1)) ∧ ((0 ≤ (((C 29 i 1) - p1) % 60) ∧ (((C 29 i 1) - p1) % 60) < ((60 : Nat) : Int)) ∧ ((-2147483648 ≤ ((C 29 i 2) - (C 30 i (((((C 29 i 1) - p1) % 60)).toNat))) ∧ ((C 29 i 2) - (C 30 i (((((C 29 i 1) - p1) % 60)).toNat))) < 2147483648) ∧ (P (uI (uI C 29 i 2 (((C 29 i 2) - (C 30 i (((((C 29 i 1) - p1) % 60)).toNat))))) 30 i (((((C 29 i 1) - p1) % 60)).toNat) 0)))))) ∧ ((¬ (p1 ≤ (C 29 i 1))) → P C)))) : kMetV w mX6_die [aO 29 i, aI p1] C S (rf mm) P := by
  refine cMet_of okX6_die (Nat.le_of_ble_eq_true rfl) (fun hos => ?_)
  show cRun w mX6_die 0 [some (aO 29 i), some (aI p1), none] [] (mem C S) (rf mm) (kqV (rf mm) S P)
  refine aIload_n (pc' := 1) dX6_die_0 rfl rfl ?_
  refine aIconst (pc' := 2) ⟨by decide, by decide⟩ dX6_die_1 rfl ?_
  refine aIcmp_lt (tgt := 19) (pc' := 5) dX6_die_2 (by decide) rfl (fun hc => ?_) (fun hc => ?_)
  · have hw := hw.1 hc
    exact cVret dX6_die_19 okX6_die rfl ⟨rfl, rfl, _, rfl, hw⟩
  · have hw := hw.2 hc
    refine aIload_n (pc' := 6) dX6_die_5 rfl rfl ?_
    refine aBipush (pc' := 8) ⟨by decide, by decide⟩ dX6_die_6 rfl ?_
    refine aIcmp_gt (tgt := 19) (pc' := 11) dX6_die_8 (by decide) rfl (fun hc => ?_) (fun hc => ?_)
    · have hw := hw.1 hc
      exact cVret dX6_die_19 okX6_die rfl ⟨rfl, rfl, _, rfl, hw⟩
    · have hw := hw.2 hc
      refine aIload_n (pc' := 12) dX6_die_11 rfl rfl ?_
      refine aAload_n (pc' := 13) dX6_die_12 rfl rfl ?_
      refine aGetI (pc' := 16) dX6_die_13 fX6_15 rfl rfl (lv hi) rfl ?_
      refine aTopEq (y := (C 29 i 1)) rfl ?_
      refine aIcmp_le (tgt := 20) (pc' := 19) dX6_die_16 (by decide) rfl (fun hc => ?_) (fun hc => ?_)
      · have hw := hw.1 hc
        refine aAload_n (pc' := 21) dX6_die_20 rfl rfl ?_
        refine aGetI (pc' := 24) dX6_die_21 fX6_15 rfl rfl (lv hi) rfl ?_
        refine aTopEq (y := (C 29 i 1)) rfl ?_
        refine aIload_n (pc' := 25) dX6_die_24 rfl rfl ?_
        obtain ⟨h1, hw⟩ := hw
        refine aIsub (pc' := 26) h1.1 h1.2 dX6_die_25 rfl ?_
        refine aBipush (pc' := 28) ⟨by decide, by decide⟩ dX6_die_26 rfl ?_
        obtain ⟨h2, hw⟩ := hw
        refine aIrem (pc' := 29) h2 (by decide) dX6_die_28 rfl ?_
        refine aIstore_n (pc' := 30) dX6_die_29 (by decide) rfl (L' := [some (aO 29 i), some (aI p1), some (aI ((((C 29 i 1) - p1) % 60)))]) rfl ?_
        refine aAload_n (pc' := 31) dX6_die_30 rfl rfl ?_
        refine aDup (pc' := 32) rfl dX6_die_31 rfl ?_
        refine aGetI (pc' := 35) dX6_die_32 fX6_19 rfl rfl (lv hi) rfl ?_
        refine aTopEq (y := (C 29 i 2)) rfl ?_
        refine aAload_n (pc' := 36) dX6_die_35 rfl rfl ?_
        refine aGetR (pc' := 39) (q := (30, i)) dX6_die_36 fX6_11 rfl rfl (lv hi) rfl rfl ?_
        refine aIload_n (pc' := 40) dX6_die_39 rfl rfl ?_
        obtain ⟨h3, hw⟩ := hw
        refine aIald (pc' := 41) (j := ((((C 29 i 1) - p1) % 60)).toNat) dX6_die_40 rfl (lv hi) (tnIx h3).1 (tnIx h3).2 rfl ?_
        refine aTopEq (y := (C 30 i (((((C 29 i 1) - p1) % 60)).toNat))) rfl ?_
        obtain ⟨h4, hw⟩ := hw
        refine aIsub (pc' := 42) h4.1 h4.2 dX6_die_41 rfl ?_
        refine aPutI (pc' := 45) dX6_die_42 fX6_19 rfl rfl (Or.inl rfl) (lv hi) rfl (cEqI (mK rfl) ?_)
        refine aAload_n (pc' := 46) dX6_die_45 rfl rfl ?_
        refine aGetR (pc' := 49) (q := (30, i)) dX6_die_46 fX6_11 rfl rfl (lv hi) rfl rfl ?_
        refine aIload_n (pc' := 50) dX6_die_49 rfl rfl ?_
        refine aIconst (pc' := 51) ⟨by decide, by decide⟩ dX6_die_50 rfl ?_
        refine aIast (pc' := 52) (j := ((((C 29 i 1) - p1) % 60)).toNat) dX6_die_51 rfl (lv hi) (tnIx h3).1 (tnIx h3).2 rfl (cEqI (mK rfl) ?_)
        exact cVret dX6_die_52 okX6_die rfl ⟨rfl, rfl, _, rfl, hw⟩
      · have hw := hw.2 hc
        exact cVret dX6_die_19 okX6_die rfl ⟨rfl, rfl, _, rfl, hw⟩
set_option maxRecDepth 100000 in
set_option maxHeartbeats 4000000 in
theorem gX6_forget_t {w : aW} {mm : Nat} {C : aIF} {S : aS} {P : aIF → Prop} (hw : P (uI (uI C 12 0 1 0) 12 0 2 0)) : kMetV w mX6_forget [aO 12 0] C S (rf mm) P := by
  refine cMet_of okX6_forget (Nat.le_of_ble_eq_true rfl) (fun hos => ?_)
  show cRun w mX6_forget 0 [some (aO 12 0)] [] (mem C S) (rf mm) (kqV (rf mm) S P)
  refine aAload_n (pc' := 1) dX6_forget_0 rfl rfl ?_
  refine aIconst (pc' := 2) ⟨by decide, by decide⟩ dX6_forget_1 rfl ?_
  refine aPutI (pc' := 5) dX6_forget_2 fX6_15 rfl rfl (Or.inl rfl) (lv (by decide)) rfl (cEqI (mK rfl) ?_)
  refine aAload_n (pc' := 6) dX6_forget_5 rfl rfl ?_
  refine aIconst (pc' := 7) ⟨by decide, by decide⟩ dX6_forget_6 rfl ?_
  refine aPutI (pc' := 10) dX6_forget_7 fX6_19 rfl rfl (Or.inl rfl) (lv (by decide)) rfl (cEqI (mK rfl) ?_)
  exact cVret dX6_forget_10 okX6_forget rfl ⟨rfl, rfl, _, rfl, hw⟩
set_option maxRecDepth 100000 in
set_option maxHeartbeats 4000000 in
theorem gX6_forget_r {w : aW} {mm : Nat} {C : aIF} {S : aS} {i : Nat} {P : aIF → Prop} (hi : i < 6) (hw : P (uI (uI C 29 i 1 0) 29 i 2 0)) : kMetV w mX6_forget [aO 29 i] C S (rf mm) P := by
  refine cMet_of okX6_forget (Nat.le_of_ble_eq_true rfl) (fun hos => ?_)
  show cRun w mX6_forget 0 [some (aO 29 i)] [] (mem C S) (rf mm) (kqV (rf mm) S P)
  refine aAload_n (pc' := 1) dX6_forget_0 rfl rfl ?_
  refine aIconst (pc' := 2) ⟨by decide, by decide⟩ dX6_forget_1 rfl ?_
  refine aPutI (pc' := 5) dX6_forget_2 fX6_15 rfl rfl (Or.inl rfl) (lv hi) rfl (cEqI (mK rfl) ?_)
  refine aAload_n (pc' := 6) dX6_forget_5 rfl rfl ?_
  refine aIconst (pc' := 7) ⟨by decide, by decide⟩ dX6_forget_6 rfl ?_
  refine aPutI (pc' := 10) dX6_forget_7 fX6_19 rfl rfl (Or.inl rfl) (lv hi) rfl (cEqI (mK rfl) ?_)
  exact cVret dX6_forget_10 okX6_forget rfl ⟨rfl, rfl, _, rfl, hw⟩
