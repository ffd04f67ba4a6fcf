/-! constructors -/
/-- what is not there yet is zero -/
def aFr (n : Nat) (I : aIF) (R : aRF) : Prop := ∀ k i j, ¬ aLv n k i → I k i j = 0 ∧ R k i j = none
theorem aLv_up {n k i : Nat} (h : aLv n k i) : aLv (n + 1) k i := ⟨h.1, by have := h.2; omega⟩
theorem aFr_mono {n : Nat} {I : aIF} {R : aRF} (h : aFr n I R) : aFr (n + 1) I R := fun k i j z => h k i j (fun y => z (aLv_up y))
theorem aFr_uI {n k i j : Nat} {v : Int} {I : aIF} {R : aRF} (h : aFr n I R) (hl : aLv n k i) : aFr n (uI I k i j v) R := fun a b c z => by
  have e : ¬ (a = k ∧ b = i) := fun y => z (by rw [y.1, y.2]; exact hl)
  rw [uI_ne e]
  exact h a b c z
theorem aFr_uR {n k i j : Nat} {v : Option (Nat × Nat)} {I : aIF} {R : aRF} (h : aFr n I R) (hl : aLv n k i) : aFr n I (uR R k i j v) := fun a b c z => by
  have e : ¬ (a = k ∧ b = i) := fun y => z (by rw [y.1, y.2]; exact hl)
  rw [uR_ne e]
  exact h a b c z
theorem nl20 (i : Nat) : ¬ aLv 39 20 i := fun h => by
  have h1 : aPl 20 i < 39 := h.2
  have h2 : aPl 20 i = 40 + 1 * i := rfl
  omega
theorem aFr_uG {I : aIF} {R : aRF} (h : aFr 39 I R) : aFr 47 I (uG R) := fun a b c z => by
  have e : ¬ (a = 19 ∧ b = 0 ∧ c < 7) := fun y => z (by rw [y.1, y.2.1]; exact ⟨by decide, by decide⟩)
  have z2 : ¬ aLv 39 a b := fun y => z ⟨y.1, by have := y.2; omega⟩
  refine ⟨(h a b c z2).1, ?_⟩
  unfold uG
  rw [if_neg e]
  exact (h a b c z2).2
set_option maxRecDepth 100000 in
set_option maxHeartbeats 4000000 in
theorem iX3_init_3_0 {w : aW} {I : aIF} {R : aRF} {Q : aQ} (hF : aFr 3 I R) (hq : aFr 4 (uI (uI I 3 0 1 (-1)) 3 0 2 0) (uR R 3 0 0 (some (4, 0))) → Q none 4 (uI (uI I 3 0 1 (-1)) 3 0 2 0) (uR R 3 0 0 (some (4, 0)))) : aMet w mX3_init [aO 3 0] 3 I R Q := by
  refine aMet_of nlX3_init.1 nlX3_init.2 (by decide) (fun hos => ?_)
  show aRun w mX3_init 0 [some (aO 3 0)] [] 3 3 I R Q
  refine aAload_n (pc' := 1) dX3_init_0 rfl rfl ?_
  refine aObjInit (pc' := 4) dX3_init_1 loX3_3 insObj codObj (by decide) (by decide) rfl ?_
  refine aAload_n (pc' := 5) dX3_init_4 rfl rfl ?_
  refine aBipush (pc' := 7) ⟨by decide, by decide⟩ dX3_init_5 rfl ?_
  refine aNewa (pc' := 9) (k := 4) (i := 0) (t := 1) dX3_init_7 (Or.inr (Or.inl ⟨rfl, rfl⟩)) arr_long rfl (by decide) (by decide) (by decide) (fun j => (hF 4 0 j (fun h => absurd h.2 (by decide))).1) (by decide) (by decide +kernel) (by decide +kernel) (by decide) rfl ?_
  have hF := aFr_mono hF
  refine aPutR (pc' := 12) (k := 3) (i := 0) (q := (4, 0)) dX3_init_9 fX3_9 rfl ⟨by decide, by decide, by decide, by decide, by decide, by decide, by decide, by decide⟩ rfl (Or.inr ⟨rfl, rfl⟩) ⟨by decide, by decide⟩ rfl ?_
  have hF := aFr_uR (j := 0) (v := some (4, 0)) hF (k := 3) (i := 0) ⟨by decide, by decide⟩
  refine aAload_n (pc' := 13) dX3_init_12 rfl rfl ?_
  refine aIconst (pc' := 14) ⟨by decide, by decide⟩ dX3_init_13 rfl ?_
  refine aPutI (pc' := 17) (k := 3) (i := 0) dX3_init_14 fX3_15 rfl rfl (Or.inl rfl) ⟨by decide, by decide⟩ rfl ?_
  have hF := aFr_uI (j := 1) (v := (-1)) hF (k := 3) (i := 0) ⟨by decide, by decide⟩
  refine aAload_n (pc' := 18) dX3_init_17 rfl rfl ?_
  refine aIconst (pc' := 19) ⟨by decide, by decide⟩ dX3_init_18 rfl ?_
  refine aPutI (pc' := 22) (k := 3) (i := 0) dX3_init_19 fX3_19 rfl rfl (Or.inl rfl) ⟨by decide, by decide⟩ rfl ?_
  have hF := aFr_uI (j := 2) (v := 0) hF (k := 3) (i := 0) ⟨by decide, by decide⟩
  exact aVret dX3_init_22 nlX3_init.2 rfl (by decide) (by decide +kernel) (hq hF)
set_option maxRecDepth 100000 in
set_option maxHeartbeats 4000000 in
theorem iX3_init_3_1 {w : aW} {I : aIF} {R : aRF} {Q : aQ} (hF : aFr 5 I R) (hq : aFr 6 (uI (uI I 3 1 1 (-1)) 3 1 2 0) (uR R 3 1 0 (some (4, 1))) → Q none 6 (uI (uI I 3 1 1 (-1)) 3 1 2 0) (uR R 3 1 0 (some (4, 1)))) : aMet w mX3_init [aO 3 1] 5 I R Q := by
  refine aMet_of nlX3_init.1 nlX3_init.2 (by decide) (fun hos => ?_)
  show aRun w mX3_init 0 [some (aO 3 1)] [] 5 5 I R Q
  refine aAload_n (pc' := 1) dX3_init_0 rfl rfl ?_
  refine aObjInit (pc' := 4) dX3_init_1 loX3_3 insObj codObj (by decide) (by decide) rfl ?_
  refine aAload_n (pc' := 5) dX3_init_4 rfl rfl ?_
  refine aBipush (pc' := 7) ⟨by decide, by decide⟩ dX3_init_5 rfl ?_
  refine aNewa (pc' := 9) (k := 4) (i := 1) (t := 1) dX3_init_7 (Or.inr (Or.inl ⟨rfl, rfl⟩)) arr_long rfl (by decide) (by decide) (by decide) (fun j => (hF 4 1 j (fun h => absurd h.2 (by decide))).1) (by decide) (by decide +kernel) (by decide +kernel) (by decide) rfl ?_
  have hF := aFr_mono hF
  refine aPutR (pc' := 12) (k := 3) (i := 1) (q := (4, 1)) dX3_init_9 fX3_9 rfl ⟨by decide, by decide, by decide, by decide, by decide, by decide, by decide, by decide⟩ rfl (Or.inr ⟨rfl, rfl⟩) ⟨by decide, by decide⟩ rfl ?_
  have hF := aFr_uR (j := 0) (v := some (4, 1)) hF (k := 3) (i := 1) ⟨by decide, by decide⟩
  refine aAload_n (pc' := 13) dX3_init_12 rfl rfl ?_
  refine aIconst (pc' := 14) ⟨by decide, by decide⟩ dX3_init_13 rfl ?_
  refine aPutI (pc' := 17) (k := 3) (i := 1) dX3_init_14 fX3_15 rfl rfl (Or.inl rfl) ⟨by decide, by decide⟩ rfl ?_
  have hF := aFr_uI (j := 1) (v := (-1)) hF (k := 3) (i := 1) ⟨by decide, by decide⟩
  refine aAload_n (pc' := 18) dX3_init_17 rfl rfl ?_
  refine aIconst (pc' := 19) ⟨by decide, by decide⟩ dX3_init_18 rfl ?_
  refine aPutI (pc' := 22) (k := 3) (i := 1) dX3_init_19 fX3_19 rfl rfl (Or.inl rfl) ⟨by decide, by decide⟩ rfl ?_
  have hF := aFr_uI (j := 2) (v := 0) hF (k := 3) (i := 1) ⟨by decide, by decide⟩
  exact aVret dX3_init_22 nlX3_init.2 rfl (by decide) (by decide +kernel) (hq hF)
set_option maxRecDepth 100000 in
set_option maxHeartbeats 4000000 in
theorem iX3_init_3_2 {w : aW} {I : aIF} {R : aRF} {Q : aQ} (hF : aFr 7 I R) (hq : aFr 8 (uI (uI I 3 2 1 (-1)) 3 2 2 0) (uR R 3 2 0 (some (4, 2))) → Q none 8 (uI (uI I 3 2 1 (-1)) 3 2 2 0) (uR R 3 2 0 (some (4, 2)))) : aMet w mX3_init [aO 3 2] 7 I R Q := by
  refine aMet_of nlX3_init.1 nlX3_init.2 (by decide) (fun hos => ?_)
  show aRun w mX3_init 0 [some (aO 3 2)] [] 7 7 I R Q
  refine aAload_n (pc' := 1) dX3_init_0 rfl rfl ?_
  refine aObjInit (pc' := 4) dX3_init_1 loX3_3 insObj codObj (by decide) (by decide) rfl ?_
  refine aAload_n (pc' := 5) dX3_init_4 rfl rfl ?_
  refine aBipush (pc' := 7) ⟨by decide, by decide⟩ dX3_init_5 rfl ?_
  refine aNewa (pc' := 9) (k := 4) (i := 2) (t := 1) dX3_init_7 (Or.inr (Or.inl ⟨rfl, rfl⟩)) arr_long rfl (by decide) (by decide) (by decide) (fun j => (hF 4 2 j (fun h => absurd h.2 (by decide))).1) (by decide) (by decide +kernel) (by decide +kernel) (by decide) rfl ?_
  have hF := aFr_mono hF
  refine aPutR (pc' := 12) (k := 3) (i := 2) (q := (4, 2)) dX3_init_9 fX3_9 rfl ⟨by decide, by decide, by decide, by decide, by decide, by decide, by decide, by decide⟩ rfl (Or.inr ⟨rfl, rfl⟩) ⟨by decide, by decide⟩ rfl ?_
  have hF := aFr_uR (j := 0) (v := some (4, 2)) hF (k := 3) (i := 2) ⟨by decide, by decide⟩
  refine aAload_n (pc' := 13) dX3_init_12 rfl rfl ?_
  refine aIconst (pc' := 14) ⟨by decide, by decide⟩ dX3_init_13 rfl ?_
  refine aPutI (pc' := 17) (k := 3) (i := 2) dX3_init_14 fX3_15 rfl rfl (Or.inl rfl) ⟨by decide, by decide⟩ rfl ?_
  have hF := aFr_uI (j := 1) (v := (-1)) hF (k := 3) (i := 2) ⟨by decide, by decide⟩
  refine aAload_n (pc' := 18) dX3_init_17 rfl rfl ?_
  refine aIconst (pc' := 19) ⟨by decide, by decide⟩ dX3_init_18 rfl ?_
  refine aPutI (pc' := 22) (k := 3) (i := 2) dX3_init_19 fX3_19 rfl rfl (Or.inl rfl) ⟨by decide, by decide⟩ rfl ?_
  have hF := aFr_uI (j := 2) (v := 0) hF (k := 3) (i := 2) ⟨by decide, by decide⟩
  exact aVret dX3_init_22 nlX3_init.2 rfl (by decide) (by decide +kernel) (hq hF)
set_option maxRecDepth 100000 in
set_option maxHeartbeats 4000000 in
theorem iX3_init_3_3 {w : aW} {I : aIF} {R : aRF} {Q : aQ} (hF : aFr 9 I R) (hq : aFr 10 (uI (uI I 3 3 1 (-1)) 3 3 2 0) (uR R 3 3 0 (some (4, 3))) → Q none 10 (uI (uI I 3 3 1 (-1)) 3 3 2 0) (uR R 3 3 0 (some (4, 3)))) : aMet w mX3_init [aO 3 3] 9 I R Q := by
  refine aMet_of nlX3_init.1 nlX3_init.2 (by decide) (fun hos => ?_)
  show aRun w mX3_init 0 [some (aO 3 3)] [] 9 9 I R Q
  refine aAload_n (pc' := 1) dX3_init_0 rfl rfl ?_
  refine aObjInit (pc' := 4) dX3_init_1 loX3_3 insObj codObj (by decide) (by decide) rfl ?_
  refine aAload_n (pc' := 5) dX3_init_4 rfl rfl ?_
  refine aBipush (pc' := 7) ⟨by decide, by decide⟩ dX3_init_5 rfl ?_
  refine aNewa (pc' := 9) (k := 4) (i := 3) (t := 1) dX3_init_7 (Or.inr (Or.inl ⟨rfl, rfl⟩)) arr_long rfl (by decide) (by decide) (by decide) (fun j => (hF 4 3 j (fun h => absurd h.2 (by decide))).1) (by decide) (by decide +kernel) (by decide +kernel) (by decide) rfl ?_
  have hF := aFr_mono hF
  refine aPutR (pc' := 12) (k := 3) (i := 3) (q := (4, 3)) dX3_init_9 fX3_9 rfl ⟨by decide, by decide, by decide, by decide, by decide, by decide, by decide, by decide⟩ rfl (Or.inr ⟨rfl, rfl⟩) ⟨by decide, by decide⟩ rfl ?_
  have hF := aFr_uR (j := 0) (v := some (4, 3)) hF (k := 3) (i := 3) ⟨by decide, by decide⟩
  refine aAload_n (pc' := 13) dX3_init_12 rfl rfl ?_
  refine aIconst (pc' := 14) ⟨by decide, by decide⟩ dX3_init_13 rfl ?_
  refine aPutI (pc' := 17) (k := 3) (i := 3) dX3_init_14 fX3_15 rfl rfl (Or.inl rfl) ⟨by decide, by decide⟩ rfl ?_
  have hF := aFr_uI (j := 1) (v := (-1)) hF (k := 3) (i := 3) ⟨by decide, by decide⟩
  refine aAload_n (pc' := 18) dX3_init_17 rfl rfl ?_
  refine aIconst (pc' := 19) ⟨by decide, by decide⟩ dX3_init_18 rfl ?_
  refine aPutI (pc' := 22) (k := 3) (i := 3) dX3_init_19 fX3_19 rfl rfl (Or.inl rfl) ⟨by decide, by decide⟩ rfl ?_
  have hF := aFr_uI (j := 2) (v := 0) hF (k := 3) (i := 3) ⟨by decide, by decide⟩
  exact aVret dX3_init_22 nlX3_init.2 rfl (by decide) (by decide +kernel) (hq hF)
set_option maxRecDepth 100000 in
set_option maxHeartbeats 4000000 in
theorem iX1_init_6_0 {w : aW} {I : aIF} {R : aRF} {Q : aQ} (hF : aFr 12 I R) (hq : aFr 14 I (uR (uR R 6 0 0 (some (7, 0))) 6 0 5 (some (8, 0))) → Q none 14 I (uR (uR R 6 0 0 (some (7, 0))) 6 0 5 (some (8, 0)))) : aMet w mX1_init [aO 6 0] 12 I R Q := by
  refine aMet_of nlX1_init.1 nlX1_init.2 (by decide) (fun hos => ?_)
  show aRun w mX1_init 0 [some (aO 6 0)] [] 12 12 I R Q
  refine aAload_n (pc' := 1) dX1_init_0 rfl rfl ?_
  refine aObjInit (pc' := 4) dX1_init_1 loX1_3 insObj codObj (by decide) (by decide) rfl ?_
  refine aAload_n (pc' := 5) dX1_init_4 rfl rfl ?_
  refine aBipush (pc' := 7) ⟨by decide, by decide⟩ dX1_init_5 rfl ?_
  refine aNewa (pc' := 9) (k := 7) (i := 0) (t := 0) dX1_init_7 (Or.inl ⟨rfl, rfl⟩) arr_int rfl (by decide) (by decide) (by decide) (fun j => (hF 7 0 j (fun h => absurd h.2 (by decide))).1) (by decide) (by decide +kernel) (by decide +kernel) (by decide) rfl ?_
  have hF := aFr_mono hF
  refine aPutR (pc' := 12) (k := 6) (i := 0) (q := (7, 0)) dX1_init_9 fX1_9 rfl ⟨by decide, by decide, by decide, by decide, by decide, by decide, by decide, by decide⟩ rfl (Or.inr ⟨rfl, rfl⟩) ⟨by decide, by decide⟩ rfl ?_
  have hF := aFr_uR (j := 0) (v := some (7, 0)) hF (k := 6) (i := 0) ⟨by decide, by decide⟩
  refine aAload_n (pc' := 13) dX1_init_12 rfl rfl ?_
  refine aBipush (pc' := 15) ⟨by decide, by decide⟩ dX1_init_13 rfl ?_
  refine aNewa (pc' := 17) (k := 8) (i := 0) (t := 0) dX1_init_15 (Or.inl ⟨rfl, rfl⟩) arr_int rfl (by decide) (by decide) (by decide) (fun j => (hF 8 0 j (fun h => absurd h.2 (by decide))).1) (by decide) (by decide +kernel) (by decide +kernel) (by decide) rfl ?_
  have hF := aFr_mono hF
  refine aPutR (pc' := 20) (k := 6) (i := 0) (q := (8, 0)) dX1_init_17 fX1_15 rfl ⟨by decide, by decide, by decide, by decide, by decide, by decide, by decide, by decide⟩ rfl (Or.inr ⟨rfl, rfl⟩) ⟨by decide, by decide⟩ rfl ?_
  have hF := aFr_uR (j := 5) (v := some (8, 0)) hF (k := 6) (i := 0) ⟨by decide, by decide⟩
  exact aVret dX1_init_20 nlX1_init.2 rfl (by decide) (by decide +kernel) (hq hF)
set_option maxRecDepth 100000 in
set_option maxHeartbeats 4000000 in
theorem iX1_init_6_1 {w : aW} {I : aIF} {R : aRF} {Q : aQ} (hF : aFr 15 I R) (hq : aFr 17 I (uR (uR R 6 1 0 (some (7, 1))) 6 1 5 (some (8, 1))) → Q none 17 I (uR (uR R 6 1 0 (some (7, 1))) 6 1 5 (some (8, 1)))) : aMet w mX1_init [aO 6 1] 15 I R Q := by
  refine aMet_of nlX1_init.1 nlX1_init.2 (by decide) (fun hos => ?_)
  show aRun w mX1_init 0 [some (aO 6 1)] [] 15 15 I R Q
  refine aAload_n (pc' := 1) dX1_init_0 rfl rfl ?_
  refine aObjInit (pc' := 4) dX1_init_1 loX1_3 insObj codObj (by decide) (by decide) rfl ?_
  refine aAload_n (pc' := 5) dX1_init_4 rfl rfl ?_
  refine aBipush (pc' := 7) ⟨by decide, by decide⟩ dX1_init_5 rfl ?_
  refine aNewa (pc' := 9) (k := 7) (i := 1) (t := 0) dX1_init_7 (Or.inl ⟨rfl, rfl⟩) arr_int rfl (by decide) (by decide) (by decide) (fun j => (hF 7 1 j (fun h => absurd h.2 (by decide))).1) (by decide) (by decide +kernel) (by decide +kernel) (by decide) rfl ?_
  have hF := aFr_mono hF
  refine aPutR (pc' := 12) (k := 6) (i := 1) (q := (7, 1)) dX1_init_9 fX1_9 rfl ⟨by decide, by decide, by decide, by decide, by decide, by decide, by decide, by decide⟩ rfl (Or.inr ⟨rfl, rfl⟩) ⟨by decide, by decide⟩ rfl ?_
  have hF := aFr_uR (j := 0) (v := some (7, 1)) hF (k := 6) (i := 1) ⟨by decide, by decide⟩
  refine aAload_n (pc' := 13) dX1_init_12 rfl rfl ?_
  refine aBipush (pc' := 15) ⟨by decide, by decide⟩ dX1_init_13 rfl ?_
  refine aNewa (pc' := 17) (k := 8) (i := 1) (t := 0) dX1_init_15 (Or.inl ⟨rfl, rfl⟩) arr_int rfl (by decide) (by decide) (by decide) (fun j => (hF 8 1 j (fun h => absurd h.2 (by decide))).1) (by decide) (by decide +kernel) (by decide +kernel) (by decide) rfl ?_
  have hF := aFr_mono hF
  refine aPutR (pc' := 20) (k := 6) (i := 1) (q := (8, 1)) dX1_init_17 fX1_15 rfl ⟨by decide, by decide, by decide, by decide, by decide, by decide, by decide, by decide⟩ rfl (Or.inr ⟨rfl, rfl⟩) ⟨by decide, by decide⟩ rfl ?_
  have hF := aFr_uR (j := 5) (v := some (8, 1)) hF (k := 6) (i := 1) ⟨by decide, by decide⟩
  exact aVret dX1_init_20 nlX1_init.2 rfl (by decide) (by decide +kernel) (hq hF)
set_option maxRecDepth 100000 in
set_option maxHeartbeats 4000000 in
theorem iX1_init_6_2 {w : aW} {I : aIF} {R : aRF} {Q : aQ} (hF : aFr 18 I R) (hq : aFr 20 I (uR (uR R 6 2 0 (some (7, 2))) 6 2 5 (some (8, 2))) → Q none 20 I (uR (uR R 6 2 0 (some (7, 2))) 6 2 5 (some (8, 2)))) : aMet w mX1_init [aO 6 2] 18 I R Q := by
  refine aMet_of nlX1_init.1 nlX1_init.2 (by decide) (fun hos => ?_)
  show aRun w mX1_init 0 [some (aO 6 2)] [] 18 18 I R Q
  refine aAload_n (pc' := 1) dX1_init_0 rfl rfl ?_
  refine aObjInit (pc' := 4) dX1_init_1 loX1_3 insObj codObj (by decide) (by decide) rfl ?_
  refine aAload_n (pc' := 5) dX1_init_4 rfl rfl ?_
  refine aBipush (pc' := 7) ⟨by decide, by decide⟩ dX1_init_5 rfl ?_
  refine aNewa (pc' := 9) (k := 7) (i := 2) (t := 0) dX1_init_7 (Or.inl ⟨rfl, rfl⟩) arr_int rfl (by decide) (by decide) (by decide) (fun j => (hF 7 2 j (fun h => absurd h.2 (by decide))).1) (by decide) (by decide +kernel) (by decide +kernel) (by decide) rfl ?_
  have hF := aFr_mono hF
  refine aPutR (pc' := 12) (k := 6) (i := 2) (q := (7, 2)) dX1_init_9 fX1_9 rfl ⟨by decide, by decide, by decide, by decide, by decide, by decide, by decide, by decide⟩ rfl (Or.inr ⟨rfl, rfl⟩) ⟨by decide, by decide⟩ rfl ?_
  have hF := aFr_uR (j := 0) (v := some (7, 2)) hF (k := 6) (i := 2) ⟨by decide, by decide⟩
  refine aAload_n (pc' := 13) dX1_init_12 rfl rfl ?_
  refine aBipush (pc' := 15) ⟨by decide, by decide⟩ dX1_init_13 rfl ?_
  refine aNewa (pc' := 17) (k := 8) (i := 2) (t := 0) dX1_init_15 (Or.inl ⟨rfl, rfl⟩) arr_int rfl (by decide) (by decide) (by decide) (fun j => (hF 8 2 j (fun h => absurd h.2 (by decide))).1) (by decide) (by decide +kernel) (by decide +kernel) (by decide) rfl ?_
  have hF := aFr_mono hF
  refine aPutR (pc' := 20) (k := 6) (i := 2) (q := (8, 2)) dX1_init_17 fX1_15 rfl ⟨by decide, by decide, by decide, by decide, by decide, by decide, by decide, by decide⟩ rfl (Or.inr ⟨rfl, rfl⟩) ⟨by decide, by decide⟩ rfl ?_
  have hF := aFr_uR (j := 5) (v := some (8, 2)) hF (k := 6) (i := 2) ⟨by decide, by decide⟩
  exact aVret dX1_init_20 nlX1_init.2 rfl (by decide) (by decide +kernel) (hq hF)
set_option maxRecDepth 100000 in
set_option maxHeartbeats 4000000 in
theorem iX1_init_6_3 {w : aW} {I : aIF} {R : aRF} {Q : aQ} (hF : aFr 21 I R) (hq : aFr 23 I (uR (uR R 6 3 0 (some (7, 3))) 6 3 5 (some (8, 3))) → Q none 23 I (uR (uR R 6 3 0 (some (7, 3))) 6 3 5 (some (8, 3)))) : aMet w mX1_init [aO 6 3] 21 I R Q := by
  refine aMet_of nlX1_init.1 nlX1_init.2 (by decide) (fun hos => ?_)
  show aRun w mX1_init 0 [some (aO 6 3)] [] 21 21 I R Q
  refine aAload_n (pc' := 1) dX1_init_0 rfl rfl ?_
  refine aObjInit (pc' := 4) dX1_init_1 loX1_3 insObj codObj (by decide) (by decide) rfl ?_
  refine aAload_n (pc' := 5) dX1_init_4 rfl rfl ?_
  refine aBipush (pc' := 7) ⟨by decide, by decide⟩ dX1_init_5 rfl ?_
  refine aNewa (pc' := 9) (k := 7) (i := 3) (t := 0) dX1_init_7 (Or.inl ⟨rfl, rfl⟩) arr_int rfl (by decide) (by decide) (by decide) (fun j => (hF 7 3 j (fun h => absurd h.2 (by decide))).1) (by decide) (by decide +kernel) (by decide +kernel) (by decide) rfl ?_
  have hF := aFr_mono hF
  refine aPutR (pc' := 12) (k := 6) (i := 3) (q := (7, 3)) dX1_init_9 fX1_9 rfl ⟨by decide, by decide, by decide, by decide, by decide, by decide, by decide, by decide⟩ rfl (Or.inr ⟨rfl, rfl⟩) ⟨by decide, by decide⟩ rfl ?_
  have hF := aFr_uR (j := 0) (v := some (7, 3)) hF (k := 6) (i := 3) ⟨by decide, by decide⟩
  refine aAload_n (pc' := 13) dX1_init_12 rfl rfl ?_
  refine aBipush (pc' := 15) ⟨by decide, by decide⟩ dX1_init_13 rfl ?_
  refine aNewa (pc' := 17) (k := 8) (i := 3) (t := 0) dX1_init_15 (Or.inl ⟨rfl, rfl⟩) arr_int rfl (by decide) (by decide) (by decide) (fun j => (hF 8 3 j (fun h => absurd h.2 (by decide))).1) (by decide) (by decide +kernel) (by decide +kernel) (by decide) rfl ?_
  have hF := aFr_mono hF
  refine aPutR (pc' := 20) (k := 6) (i := 3) (q := (8, 3)) dX1_init_17 fX1_15 rfl ⟨by decide, by decide, by decide, by decide, by decide, by decide, by decide, by decide⟩ rfl (Or.inr ⟨rfl, rfl⟩) ⟨by decide, by decide⟩ rfl ?_
  have hF := aFr_uR (j := 5) (v := some (8, 3)) hF (k := 6) (i := 3) ⟨by decide, by decide⟩
  exact aVret dX1_init_20 nlX1_init.2 rfl (by decide) (by decide +kernel) (hq hF)
set_option maxRecDepth 100000 in
set_option maxHeartbeats 4000000 in
theorem iX1_init_6_4 {w : aW} {I : aIF} {R : aRF} {Q : aQ} (hF : aFr 24 I R) (hq : aFr 26 I (uR (uR R 6 4 0 (some (7, 4))) 6 4 5 (some (8, 4))) → Q none 26 I (uR (uR R 6 4 0 (some (7, 4))) 6 4 5 (some (8, 4)))) : aMet w mX1_init [aO 6 4] 24 I R Q := by
  refine aMet_of nlX1_init.1 nlX1_init.2 (by decide) (fun hos => ?_)
  show aRun w mX1_init 0 [some (aO 6 4)] [] 24 24 I R Q
  refine aAload_n (pc' := 1) dX1_init_0 rfl rfl ?_
  refine aObjInit (pc' := 4) dX1_init_1 loX1_3 insObj codObj (by decide) (by decide) rfl ?_
  refine aAload_n (pc' := 5) dX1_init_4 rfl rfl ?_
  refine aBipush (pc' := 7) ⟨by decide, by decide⟩ dX1_init_5 rfl ?_
  refine aNewa (pc' := 9) (k := 7) (i := 4) (t := 0) dX1_init_7 (Or.inl ⟨rfl, rfl⟩) arr_int rfl (by decide) (by decide) (by decide) (fun j => (hF 7 4 j (fun h => absurd h.2 (by decide))).1) (by decide) (by decide +kernel) (by decide +kernel) (by decide) rfl ?_
  have hF := aFr_mono hF
  refine aPutR (pc' := 12) (k := 6) (i := 4) (q := (7, 4)) dX1_init_9 fX1_9 rfl ⟨by decide, by decide, by decide, by decide, by decide, by decide, by decide, by decide⟩ rfl (Or.inr ⟨rfl, rfl⟩) ⟨by decide, by decide⟩ rfl ?_
  have hF := aFr_uR (j := 0) (v := some (7, 4)) hF (k := 6) (i := 4) ⟨by decide, by decide⟩
  refine aAload_n (pc' := 13) dX1_init_12 rfl rfl ?_
  refine aBipush (pc' := 15) ⟨by decide, by decide⟩ dX1_init_13 rfl ?_
  refine aNewa (pc' := 17) (k := 8) (i := 4) (t := 0) dX1_init_15 (Or.inl ⟨rfl, rfl⟩) arr_int rfl (by decide) (by decide) (by decide) (fun j => (hF 8 4 j (fun h => absurd h.2 (by decide))).1) (by decide) (by decide +kernel) (by decide +kernel) (by decide) rfl ?_
  have hF := aFr_mono hF
  refine aPutR (pc' := 20) (k := 6) (i := 4) (q := (8, 4)) dX1_init_17 fX1_15 rfl ⟨by decide, by decide, by decide, by decide, by decide, by decide, by decide, by decide⟩ rfl (Or.inr ⟨rfl, rfl⟩) ⟨by decide, by decide⟩ rfl ?_
  have hF := aFr_uR (j := 5) (v := some (8, 4)) hF (k := 6) (i := 4) ⟨by decide, by decide⟩
  exact aVret dX1_init_20 nlX1_init.2 rfl (by decide) (by decide +kernel) (hq hF)
set_option maxRecDepth 100000 in
set_option maxHeartbeats 4000000 in
theorem iX1_init_6_5 {w : aW} {I : aIF} {R : aRF} {Q : aQ} (hF : aFr 27 I R) (hq : aFr 29 I (uR (uR R 6 5 0 (some (7, 5))) 6 5 5 (some (8, 5))) → Q none 29 I (uR (uR R 6 5 0 (some (7, 5))) 6 5 5 (some (8, 5)))) : aMet w mX1_init [aO 6 5] 27 I R Q := by
  refine aMet_of nlX1_init.1 nlX1_init.2 (by decide) (fun hos => ?_)
  show aRun w mX1_init 0 [some (aO 6 5)] [] 27 27 I R Q
  refine aAload_n (pc' := 1) dX1_init_0 rfl rfl ?_
  refine aObjInit (pc' := 4) dX1_init_1 loX1_3 insObj codObj (by decide) (by decide) rfl ?_
  refine aAload_n (pc' := 5) dX1_init_4 rfl rfl ?_
  refine aBipush (pc' := 7) ⟨by decide, by decide⟩ dX1_init_5 rfl ?_
  refine aNewa (pc' := 9) (k := 7) (i := 5) (t := 0) dX1_init_7 (Or.inl ⟨rfl, rfl⟩) arr_int rfl (by decide) (by decide) (by decide) (fun j => (hF 7 5 j (fun h => absurd h.2 (by decide))).1) (by decide) (by decide +kernel) (by decide +kernel) (by decide) rfl ?_
  have hF := aFr_mono hF
  refine aPutR (pc' := 12) (k := 6) (i := 5) (q := (7, 5)) dX1_init_9 fX1_9 rfl ⟨by decide, by decide, by decide, by decide, by decide, by decide, by decide, by decide⟩ rfl (Or.inr ⟨rfl, rfl⟩) ⟨by decide, by decide⟩ rfl ?_
  have hF := aFr_uR (j := 0) (v := some (7, 5)) hF (k := 6) (i := 5) ⟨by decide, by decide⟩
  refine aAload_n (pc' := 13) dX1_init_12 rfl rfl ?_
  refine aBipush (pc' := 15) ⟨by decide, by decide⟩ dX1_init_13 rfl ?_
  refine aNewa (pc' := 17) (k := 8) (i := 5) (t := 0) dX1_init_15 (Or.inl ⟨rfl, rfl⟩) arr_int rfl (by decide) (by decide) (by decide) (fun j => (hF 8 5 j (fun h => absurd h.2 (by decide))).1) (by decide) (by decide +kernel) (by decide +kernel) (by decide) rfl ?_
  have hF := aFr_mono hF
  refine aPutR (pc' := 20) (k := 6) (i := 5) (q := (8, 5)) dX1_init_17 fX1_15 rfl ⟨by decide, by decide, by decide, by decide, by decide, by decide, by decide, by decide⟩ rfl (Or.inr ⟨rfl, rfl⟩) ⟨by decide, by decide⟩ rfl ?_
  have hF := aFr_uR (j := 5) (v := some (8, 5)) hF (k := 6) (i := 5) ⟨by decide, by decide⟩
  exact aVret dX1_init_20 nlX1_init.2 rfl (by decide) (by decide +kernel) (hq hF)
set_option maxRecDepth 100000 in
set_option maxHeartbeats 4000000 in
theorem iX5_init_9_0 {w : aW} {I : aIF} {R : aRF} {Q : aQ} (hF : aFr 30 I R) (hq : aFr 30 (uI (uI (uI (uI (uI I 9 0 0 8) 9 0 1 256) 9 0 2 0) 9 0 3 50) 9 0 4 2) R → Q none 30 (uI (uI (uI (uI (uI I 9 0 0 8) 9 0 1 256) 9 0 2 0) 9 0 3 50) 9 0 4 2) R) : aMet w mX5_init [aO 9 0] 30 I R Q := by
  refine aMet_of nlX5_init.1 nlX5_init.2 (by decide) (fun hos => ?_)
  show aRun w mX5_init 0 [some (aO 9 0)] [] 30 30 I R Q
  refine aAload_n (pc' := 1) dX5_init_0 rfl rfl ?_
  refine aObjInit (pc' := 4) dX5_init_1 loX5_3 insObj codObj (by decide) (by decide) rfl ?_
  refine aAload_n (pc' := 5) dX5_init_4 rfl rfl ?_
  refine aBipush (pc' := 7) ⟨by decide, by decide⟩ dX5_init_5 rfl ?_
  refine aPutI (pc' := 10) (k := 9) (i := 0) dX5_init_7 fX5_9 rfl rfl (Or.inl rfl) ⟨by decide, by decide⟩ rfl ?_
  have hF := aFr_uI (j := 0) (v := 8) hF (k := 9) (i := 0) ⟨by decide, by decide⟩
  refine aAload_n (pc' := 11) dX5_init_10 rfl rfl ?_
  refine aSipush (pc' := 14) ⟨by decide, by decide⟩ dX5_init_11 rfl ?_
  refine aPutI (pc' := 17) (k := 9) (i := 0) dX5_init_14 fX5_15 rfl rfl (Or.inl rfl) ⟨by decide, by decide⟩ rfl ?_
  have hF := aFr_uI (j := 1) (v := 256) hF (k := 9) (i := 0) ⟨by decide, by decide⟩
  refine aAload_n (pc' := 18) dX5_init_17 rfl rfl ?_
  refine aIconst (pc' := 19) ⟨by decide, by decide⟩ dX5_init_18 rfl ?_
  refine aPutI (pc' := 22) (k := 9) (i := 0) dX5_init_19 fX5_18 rfl rfl (Or.inl rfl) ⟨by decide, by decide⟩ rfl ?_
  have hF := aFr_uI (j := 2) (v := 0) hF (k := 9) (i := 0) ⟨by decide, by decide⟩
  refine aAload_n (pc' := 23) dX5_init_22 rfl rfl ?_
  refine aBipush (pc' := 25) ⟨by decide, by decide⟩ dX5_init_23 rfl ?_
  refine aPutI (pc' := 28) (k := 9) (i := 0) dX5_init_25 fX5_21 rfl rfl (Or.inl rfl) ⟨by decide, by decide⟩ rfl ?_
  have hF := aFr_uI (j := 3) (v := 50) hF (k := 9) (i := 0) ⟨by decide, by decide⟩
  refine aAload_n (pc' := 29) dX5_init_28 rfl rfl ?_
  refine aIconst (pc' := 30) ⟨by decide, by decide⟩ dX5_init_29 rfl ?_
  refine aPutI (pc' := 33) (k := 9) (i := 0) dX5_init_30 fX5_24 rfl rfl (Or.inl rfl) ⟨by decide, by decide⟩ rfl ?_
  have hF := aFr_uI (j := 4) (v := 2) hF (k := 9) (i := 0) ⟨by decide, by decide⟩
  exact aVret dX5_init_33 nlX5_init.2 rfl (by decide) (by decide +kernel) (hq hF)
set_option maxRecDepth 100000 in
set_option maxHeartbeats 4000000 in
theorem iX6_init_12_0 {w : aW} {I : aIF} {R : aRF} {Q : aQ} (hF : aFr 33 I R) (hq : aFr 34 (uI (uI I 12 0 1 0) 12 0 2 0) (uR R 12 0 0 (some (13, 0))) → Q none 34 (uI (uI I 12 0 1 0) 12 0 2 0) (uR R 12 0 0 (some (13, 0)))) : aMet w mX6_init [aO 12 0] 33 I R Q := by
  refine aMet_of nlX6_init.1 nlX6_init.2 (by decide) (fun hos => ?_)
  show aRun w mX6_init 0 [some (aO 12 0)] [] 33 33 I R Q
  refine aAload_n (pc' := 1) dX6_init_0 rfl rfl ?_
  refine aObjInit (pc' := 4) dX6_init_1 loX6_3 insObj codObj (by decide) (by decide) rfl ?_
  refine aAload_n (pc' := 5) dX6_init_4 rfl rfl ?_
  refine aBipush (pc' := 7) ⟨by decide, by decide⟩ dX6_init_5 rfl ?_
  refine aNewa (pc' := 9) (k := 13) (i := 0) (t := 0) dX6_init_7 (Or.inl ⟨rfl, rfl⟩) arr_int rfl (by decide) (by decide) (by decide) (fun j => (hF 13 0 j (fun h => absurd h.2 (by decide))).1) (by decide) (by decide +kernel) (by decide +kernel) (by decide) rfl ?_
  have hF := aFr_mono hF
  refine aPutR (pc' := 12) (k := 12) (i := 0) (q := (13, 0)) dX6_init_9 fX6_11 rfl ⟨by decide, by decide, by decide, by decide, by decide, by decide, by decide, by decide⟩ rfl (Or.inr ⟨rfl, rfl⟩) ⟨by decide, by decide⟩ rfl ?_
  have hF := aFr_uR (j := 0) (v := some (13, 0)) hF (k := 12) (i := 0) ⟨by decide, by decide⟩
  refine aAload_n (pc' := 13) dX6_init_12 rfl rfl ?_
  refine aIconst (pc' := 14) ⟨by decide, by decide⟩ dX6_init_13 rfl ?_
  refine aPutI (pc' := 17) (k := 12) (i := 0) dX6_init_14 fX6_15 rfl rfl (Or.inl rfl) ⟨by decide, by decide⟩ rfl ?_
  have hF := aFr_uI (j := 1) (v := 0) hF (k := 12) (i := 0) ⟨by decide, by decide⟩
  refine aAload_n (pc' := 18) dX6_init_17 rfl rfl ?_
  refine aIconst (pc' := 19) ⟨by decide, by decide⟩ dX6_init_18 rfl ?_
  refine aPutI (pc' := 22) (k := 12) (i := 0) dX6_init_19 fX6_19 rfl rfl (Or.inl rfl) ⟨by decide, by decide⟩ rfl ?_
  have hF := aFr_uI (j := 2) (v := 0) hF (k := 12) (i := 0) ⟨by decide, by decide⟩
  exact aVret dX6_init_22 nlX6_init.2 rfl (by decide) (by decide +kernel) (hq hF)
set_option maxRecDepth 100000 in
set_option maxHeartbeats 4000000 in
theorem iX8_init_11_0 {w : aW} {I : aIF} {R : aRF} {Q : aQ} (hF : aFr 32 I R) (hq : aFr 37 (uI (uI I 12 0 1 0) 12 0 2 0) (uR (uR (uR (uR (uR R 12 0 0 (some (13, 0))) 11 0 0 (some (12, 0))) 11 0 1 (some (14, 0))) 11 0 2 (some (15, 0))) 11 0 3 (some (16, 0))) → Q none 37 (uI (uI I 12 0 1 0) 12 0 2 0) (uR (uR (uR (uR (uR R 12 0 0 (some (13, 0))) 11 0 0 (some (12, 0))) 11 0 1 (some (14, 0))) 11 0 2 (some (15, 0))) 11 0 3 (some (16, 0)))) : aMet w mX8_init [aO 11 0] 32 I R Q := by
  refine aMet_of nlX8_init.1 nlX8_init.2 (by decide) (fun hos => ?_)
  show aRun w mX8_init 0 [some (aO 11 0)] [] 32 32 I R Q
  refine aAload_n (pc' := 1) dX8_init_0 rfl rfl ?_
  refine aObjInit (pc' := 4) dX8_init_1 loX8_3 insObj codObj (by decide) (by decide) rfl ?_
  refine aAload_n (pc' := 5) dX8_init_4 rfl rfl ?_
  refine aNew (pc' := 8) (k := 12) (i := 0) (c := 6) dX8_init_5 (by decide) rfl kX8_9 newX6 iniX6 (by decide) (by decide) (fun j => (hF 12 0 j (fun h => absurd h.2 (by decide))).1) (fun j => (hF 12 0 j (fun h => absurd h.2 (by decide))).2) (by decide) (by decide +kernel) (by decide +kernel) rfl ?_
  have hF := aFr_mono hF
  refine aDup (pc' := 9) rfl dX8_init_8 rfl ?_
  refine aCallN (As := []) (rest := [aO 12 0, aO 11 0]) (k := 12) (i := 0) (pc' := 12) dX8_init_9 lX8_11 ⟨rfl, rfl⟩ ⟨by decide, by decide⟩ npX6_init (by decide) (by decide) (by decide +kernel) rfl ?_
  refine iX6_init_12_0 hF (fun hF => ?_)
  show aRun w mX8_init 12 [some (aO 11 0)] [aO 12 0, aO 11 0] 32 34 _ _ Q
  refine aPutR (pc' := 15) (k := 11) (i := 0) (q := (12, 0)) dX8_init_12 fX8_12 rfl ⟨by decide, by decide, by decide, by decide, by decide, by decide, by decide, by decide⟩ rfl (Or.inr ⟨rfl, rfl⟩) ⟨by decide, by decide⟩ rfl ?_
  have hF := aFr_uR (j := 0) (v := some (12, 0)) hF (k := 11) (i := 0) ⟨by decide, by decide⟩
  refine aAload_n (pc' := 16) dX8_init_15 rfl rfl ?_
  refine aBipush (pc' := 18) ⟨by decide, by decide⟩ dX8_init_16 rfl ?_
  refine aNewa (pc' := 20) (k := 14) (i := 0) (t := 0) dX8_init_18 (Or.inl ⟨rfl, rfl⟩) arr_int rfl (by decide) (by decide) (by decide) (fun j => (hF 14 0 j (fun h => absurd h.2 (by decide))).1) (by decide) (by decide +kernel) (by decide +kernel) (by decide) rfl ?_
  have hF := aFr_mono hF
  refine aPutR (pc' := 23) (k := 11) (i := 0) (q := (14, 0)) dX8_init_20 fX8_18 rfl ⟨by decide, by decide, by decide, by decide, by decide, by decide, by decide, by decide⟩ rfl (Or.inr ⟨rfl, rfl⟩) ⟨by decide, by decide⟩ rfl ?_
  have hF := aFr_uR (j := 1) (v := some (14, 0)) hF (k := 11) (i := 0) ⟨by decide, by decide⟩
  refine aAload_n (pc' := 24) dX8_init_23 rfl rfl ?_
  refine aBipush (pc' := 26) ⟨by decide, by decide⟩ dX8_init_24 rfl ?_
  refine aNewa (pc' := 28) (k := 15) (i := 0) (t := 0) dX8_init_26 (Or.inl ⟨rfl, rfl⟩) arr_int rfl (by decide) (by decide) (by decide) (fun j => (hF 15 0 j (fun h => absurd h.2 (by decide))).1) (by decide) (by decide +kernel) (by decide +kernel) (by decide) rfl ?_
  have hF := aFr_mono hF
  refine aPutR (pc' := 31) (k := 11) (i := 0) (q := (15, 0)) dX8_init_28 fX8_22 rfl ⟨by decide, by decide, by decide, by decide, by decide, by decide, by decide, by decide⟩ rfl (Or.inr ⟨rfl, rfl⟩) ⟨by decide, by decide⟩ rfl ?_
  have hF := aFr_uR (j := 2) (v := some (15, 0)) hF (k := 11) (i := 0) ⟨by decide, by decide⟩
  refine aAload_n (pc' := 32) dX8_init_31 rfl rfl ?_
  refine aBipush (pc' := 34) ⟨by decide, by decide⟩ dX8_init_32 rfl ?_
  refine aNewa (pc' := 36) (k := 16) (i := 0) (t := 0) dX8_init_34 (Or.inl ⟨rfl, rfl⟩) arr_int rfl (by decide) (by decide) (by decide) (fun j => (hF 16 0 j (fun h => absurd h.2 (by decide))).1) (by decide) (by decide +kernel) (by decide +kernel) (by decide) rfl ?_
  have hF := aFr_mono hF
  refine aPutR (pc' := 39) (k := 11) (i := 0) (q := (16, 0)) dX8_init_36 fX8_25 rfl ⟨by decide, by decide, by decide, by decide, by decide, by decide, by decide, by decide⟩ rfl (Or.inr ⟨rfl, rfl⟩) ⟨by decide, by decide⟩ rfl ?_
  have hF := aFr_uR (j := 3) (v := some (16, 0)) hF (k := 11) (i := 0) ⟨by decide, by decide⟩
  exact aVret dX8_init_39 nlX8_init.2 rfl (by decide) (by decide +kernel) (hq hF)
set_option maxRecDepth 100000 in
set_option maxHeartbeats 4000000 in
theorem iX0_init_10_0 {w : aW} {I : aIF} {R : aRF} {Q : aQ} (hF : aFr 31 I R) (hq : aFr 47 (uI (uI (uI I 12 0 1 0) 12 0 2 0) 10 0 4 0) (uR (uR (uG (uR (uR (uR (uR (uR (uR (uR (uR R 12 0 0 (some (13, 0))) 11 0 0 (some (12, 0))) 11 0 1 (some (14, 0))) 11 0 2 (some (15, 0))) 11 0 3 (some (16, 0))) 10 0 1 (some (11, 0))) 10 0 2 (some (17, 0))) 10 0 3 (some (18, 0)))) 10 0 5 (some (19, 0))) 10 0 0 (some (9, 0))) → Q none 47 (uI (uI (uI I 12 0 1 0) 12 0 2 0) 10 0 4 0) (uR (uR (uG (uR (uR (uR (uR (uR (uR (uR (uR R 12 0 0 (some (13, 0))) 11 0 0 (some (12, 0))) 11 0 1 (some (14, 0))) 11 0 2 (some (15, 0))) 11 0 3 (some (16, 0))) 10 0 1 (some (11, 0))) 10 0 2 (some (17, 0))) 10 0 3 (some (18, 0)))) 10 0 5 (some (19, 0))) 10 0 0 (some (9, 0)))) : aMet w mX0_init [aO 10 0, aO 9 0] 31 I R Q := by
  refine aMet_of nlX0_init.1 nlX0_init.2 (by decide) (fun hos => ?_)
  show aRun w mX0_init 0 [some (aO 10 0), some (aO 9 0)] [] 31 31 I R Q
  refine aAload_n (pc' := 1) dX0_init_0 rfl rfl ?_
  refine aObjInit (pc' := 4) dX0_init_1 loX0_3 insObj codObj (by decide) (by decide) rfl ?_
  refine aAload_n (pc' := 5) dX0_init_4 rfl rfl ?_
  refine aNew (pc' := 8) (k := 11) (i := 0) (c := 8) dX0_init_5 (by decide) rfl kX0_9 newX8 iniX8 (by decide) (by decide) (fun j => (hF 11 0 j (fun h => absurd h.2 (by decide))).1) (fun j => (hF 11 0 j (fun h => absurd h.2 (by decide))).2) (by decide) (by decide +kernel) (by decide +kernel) rfl ?_
  have hF := aFr_mono hF
  refine aDup (pc' := 9) rfl dX0_init_8 rfl ?_
  refine aCallN (As := []) (rest := [aO 11 0, aO 10 0]) (k := 11) (i := 0) (pc' := 12) dX0_init_9 lX0_11 ⟨rfl, rfl⟩ ⟨by decide, by decide⟩ npX8_init (by decide) (by decide) (by decide +kernel) rfl ?_
  refine iX8_init_11_0 hF (fun hF => ?_)
  show aRun w mX0_init 12 [some (aO 10 0), some (aO 9 0)] [aO 11 0, aO 10 0] 31 37 _ _ Q
  refine aPutR (pc' := 15) (k := 10) (i := 0) (q := (11, 0)) dX0_init_12 fX0_12 rfl ⟨by decide, by decide, by decide, by decide, by decide, by decide, by decide, by decide⟩ rfl (Or.inr ⟨rfl, rfl⟩) ⟨by decide, by decide⟩ rfl ?_
  have hF := aFr_uR (j := 1) (v := some (11, 0)) hF (k := 10) (i := 0) ⟨by decide, by decide⟩
  refine aAload_n (pc' := 16) dX0_init_15 rfl rfl ?_
  refine aBipush (pc' := 18) ⟨by decide, by decide⟩ dX0_init_16 rfl ?_
  refine aNewa (pc' := 20) (k := 17) (i := 0) (t := 0) dX0_init_18 (Or.inl ⟨rfl, rfl⟩) arr_int rfl (by decide) (by decide) (by decide) (fun j => (hF 17 0 j (fun h => absurd h.2 (by decide))).1) (by decide) (by decide +kernel) (by decide +kernel) (by decide) rfl ?_
  have hF := aFr_mono hF
  refine aPutR (pc' := 23) (k := 10) (i := 0) (q := (17, 0)) dX0_init_20 fX0_18 rfl ⟨by decide, by decide, by decide, by decide, by decide, by decide, by decide, by decide⟩ rfl (Or.inr ⟨rfl, rfl⟩) ⟨by decide, by decide⟩ rfl ?_
  have hF := aFr_uR (j := 2) (v := some (17, 0)) hF (k := 10) (i := 0) ⟨by decide, by decide⟩
  refine aAload_n (pc' := 24) dX0_init_23 rfl rfl ?_
  refine aBipush (pc' := 26) ⟨by decide, by decide⟩ dX0_init_24 rfl ?_
  refine aNewa (pc' := 28) (k := 18) (i := 0) (t := 0) dX0_init_26 (Or.inl ⟨rfl, rfl⟩) arr_int rfl (by decide) (by decide) (by decide) (fun j => (hF 18 0 j (fun h => absurd h.2 (by decide))).1) (by decide) (by decide +kernel) (by decide +kernel) (by decide) rfl ?_
  have hF := aFr_mono hF
  refine aPutR (pc' := 31) (k := 10) (i := 0) (q := (18, 0)) dX0_init_28 fX0_22 rfl ⟨by decide, by decide, by decide, by decide, by decide, by decide, by decide, by decide⟩ rfl (Or.inr ⟨rfl, rfl⟩) ⟨by decide, by decide⟩ rfl ?_
  have hF := aFr_uR (j := 3) (v := some (18, 0)) hF (k := 10) (i := 0) ⟨by decide, by decide⟩
  refine aAload_n (pc' := 32) dX0_init_31 rfl rfl ?_
  refine aIconst (pc' := 33) ⟨by decide, by decide⟩ dX0_init_32 rfl ?_
  refine aPutZ (pc' := 36) (k := 10) (i := 0) dX0_init_33 fX0_25 rfl rfl (Or.inl rfl) ⟨by decide, by decide⟩ (by decide) rfl ?_
  have hF := aFr_uI (j := 4) (v := 0) hF (k := 10) (i := 0) ⟨by decide, by decide⟩
  refine aAload_n (pc' := 37) dX0_init_36 rfl rfl ?_
  refine aBipush (pc' := 39) ⟨by decide, by decide⟩ dX0_init_37 rfl ?_
  refine aBipush (pc' := 41) ⟨by decide, by decide⟩ dX0_init_39 rfl ?_
  refine aMna (pc' := 45) dX0_init_41 kX0_29 arr_int (fun i j => (hF 20 i j (nl20 i)).1) (fun j => (hF 19 0 j (fun h => absurd h.2 (by decide))).2) (by decide) (by decide +kernel) rfl ?_
  have hF := aFr_uG hF
  refine aPutR (pc' := 48) (k := 10) (i := 0) (q := (19, 0)) dX0_init_45 fX0_31 rfl ⟨by decide, by decide, by decide, by decide, by decide, by decide, by decide, by decide⟩ rfl (Or.inr ⟨rfl, rfl⟩) ⟨by decide, by decide⟩ rfl ?_
  have hF := aFr_uR (j := 5) (v := some (19, 0)) hF (k := 10) (i := 0) ⟨by decide, by decide⟩
  refine aAload_n (pc' := 49) dX0_init_48 rfl rfl ?_
  refine aAload_n (pc' := 50) dX0_init_49 rfl rfl ?_
  refine aPutR (pc' := 53) (k := 10) (i := 0) (q := (9, 0)) dX0_init_50 fX0_34 rfl ⟨by decide, by decide, by decide, by decide, by decide, by decide, by decide, by decide⟩ rfl (Or.inr ⟨rfl, rfl⟩) ⟨by decide, by decide⟩ rfl ?_
  have hF := aFr_uR (j := 0) (v := some (9, 0)) hF (k := 10) (i := 0) ⟨by decide, by decide⟩
  exact aVret dX0_init_53 nlX0_init.2 rfl (by decide) (by decide +kernel) (hq hF)
set_option maxRecDepth 100000 in
set_option maxHeartbeats 4000000 in
theorem iX4_init_22_0 {w : aW} {I : aIF} {R : aRF} {Q : aQ} (hF : aFr 49 I R) (hq : aFr 53 (uI I 22 0 4 0) (uR (uR (uR (uR R 22 0 0 (some (23, 0))) 22 0 1 (some (24, 0))) 22 0 2 (some (25, 0))) 22 0 3 (some (26, 0))) → Q none 53 (uI I 22 0 4 0) (uR (uR (uR (uR R 22 0 0 (some (23, 0))) 22 0 1 (some (24, 0))) 22 0 2 (some (25, 0))) 22 0 3 (some (26, 0)))) : aMet w mX4_init [aO 22 0] 49 I R Q := by
  refine aMet_of nlX4_init.1 nlX4_init.2 (by decide) (fun hos => ?_)
  show aRun w mX4_init 0 [some (aO 22 0)] [] 49 49 I R Q
  refine aAload_n (pc' := 1) dX4_init_0 rfl rfl ?_
  refine aObjInit (pc' := 4) dX4_init_1 loX4_3 insObj codObj (by decide) (by decide) rfl ?_
  refine aAload_n (pc' := 5) dX4_init_4 rfl rfl ?_
  refine aBipush (pc' := 7) ⟨by decide, by decide⟩ dX4_init_5 rfl ?_
  refine aNewa (pc' := 9) (k := 23) (i := 0) (t := 0) dX4_init_7 (Or.inl ⟨rfl, rfl⟩) arr_int rfl (by decide) (by decide) (by decide) (fun j => (hF 23 0 j (fun h => absurd h.2 (by decide))).1) (by decide) (by decide +kernel) (by decide +kernel) (by decide) rfl ?_
  have hF := aFr_mono hF
  refine aPutR (pc' := 12) (k := 22) (i := 0) (q := (23, 0)) dX4_init_9 fX4_9 rfl ⟨by decide, by decide, by decide, by decide, by decide, by decide, by decide, by decide⟩ rfl (Or.inr ⟨rfl, rfl⟩) ⟨by decide, by decide⟩ rfl ?_
  have hF := aFr_uR (j := 0) (v := some (23, 0)) hF (k := 22) (i := 0) ⟨by decide, by decide⟩
  refine aAload_n (pc' := 13) dX4_init_12 rfl rfl ?_
  refine aBipush (pc' := 15) ⟨by decide, by decide⟩ dX4_init_13 rfl ?_
  refine aNewa (pc' := 17) (k := 24) (i := 0) (t := 0) dX4_init_15 (Or.inl ⟨rfl, rfl⟩) arr_int rfl (by decide) (by decide) (by decide) (fun j => (hF 24 0 j (fun h => absurd h.2 (by decide))).1) (by decide) (by decide +kernel) (by decide +kernel) (by decide) rfl ?_
  have hF := aFr_mono hF
  refine aPutR (pc' := 20) (k := 22) (i := 0) (q := (24, 0)) dX4_init_17 fX4_15 rfl ⟨by decide, by decide, by decide, by decide, by decide, by decide, by decide, by decide⟩ rfl (Or.inr ⟨rfl, rfl⟩) ⟨by decide, by decide⟩ rfl ?_
  have hF := aFr_uR (j := 1) (v := some (24, 0)) hF (k := 22) (i := 0) ⟨by decide, by decide⟩
  refine aAload_n (pc' := 21) dX4_init_20 rfl rfl ?_
  refine aBipush (pc' := 23) ⟨by decide, by decide⟩ dX4_init_21 rfl ?_
  refine aNewa (pc' := 25) (k := 25) (i := 0) (t := 0) dX4_init_23 (Or.inl ⟨rfl, rfl⟩) arr_int rfl (by decide) (by decide) (by decide) (fun j => (hF 25 0 j (fun h => absurd h.2 (by decide))).1) (by decide) (by decide +kernel) (by decide +kernel) (by decide) rfl ?_
  have hF := aFr_mono hF
  refine aPutR (pc' := 28) (k := 22) (i := 0) (q := (25, 0)) dX4_init_25 fX4_18 rfl ⟨by decide, by decide, by decide, by decide, by decide, by decide, by decide, by decide⟩ rfl (Or.inr ⟨rfl, rfl⟩) ⟨by decide, by decide⟩ rfl ?_
  have hF := aFr_uR (j := 2) (v := some (25, 0)) hF (k := 22) (i := 0) ⟨by decide, by decide⟩
  refine aAload_n (pc' := 29) dX4_init_28 rfl rfl ?_
  refine aBipush (pc' := 31) ⟨by decide, by decide⟩ dX4_init_29 rfl ?_
  refine aNewa (pc' := 33) (k := 26) (i := 0) (t := 0) dX4_init_31 (Or.inl ⟨rfl, rfl⟩) arr_int rfl (by decide) (by decide) (by decide) (fun j => (hF 26 0 j (fun h => absurd h.2 (by decide))).1) (by decide) (by decide +kernel) (by decide +kernel) (by decide) rfl ?_
  have hF := aFr_mono hF
  refine aPutR (pc' := 36) (k := 22) (i := 0) (q := (26, 0)) dX4_init_33 fX4_21 rfl ⟨by decide, by decide, by decide, by decide, by decide, by decide, by decide, by decide⟩ rfl (Or.inr ⟨rfl, rfl⟩) ⟨by decide, by decide⟩ rfl ?_
  have hF := aFr_uR (j := 3) (v := some (26, 0)) hF (k := 22) (i := 0) ⟨by decide, by decide⟩
  refine aAload_n (pc' := 37) dX4_init_36 rfl rfl ?_
  refine aIconst (pc' := 38) ⟨by decide, by decide⟩ dX4_init_37 rfl ?_
  refine aPutI (pc' := 41) (k := 22) (i := 0) dX4_init_38 fX4_24 rfl rfl (Or.inl rfl) ⟨by decide, by decide⟩ rfl ?_
  have hF := aFr_uI (j := 4) (v := 0) hF (k := 22) (i := 0) ⟨by decide, by decide⟩
  exact aVret dX4_init_41 nlX4_init.2 rfl (by decide) (by decide +kernel) (hq hF)
set_option maxRecDepth 100000 in
set_option maxHeartbeats 4000000 in
theorem iX6_init_29_0 {w : aW} {I : aIF} {R : aRF} {Q : aQ} (hF : aFr 56 I R) (hq : aFr 57 (uI (uI I 29 0 1 0) 29 0 2 0) (uR R 29 0 0 (some (30, 0))) → Q none 57 (uI (uI I 29 0 1 0) 29 0 2 0) (uR R 29 0 0 (some (30, 0)))) : aMet w mX6_init [aO 29 0] 56 I R Q := by
  refine aMet_of nlX6_init.1 nlX6_init.2 (by decide) (fun hos => ?_)
  show aRun w mX6_init 0 [some (aO 29 0)] [] 56 56 I R Q
  refine aAload_n (pc' := 1) dX6_init_0 rfl rfl ?_
  refine aObjInit (pc' := 4) dX6_init_1 loX6_3 insObj codObj (by decide) (by decide) rfl ?_
  refine aAload_n (pc' := 5) dX6_init_4 rfl rfl ?_
  refine aBipush (pc' := 7) ⟨by decide, by decide⟩ dX6_init_5 rfl ?_
  refine aNewa (pc' := 9) (k := 30) (i := 0) (t := 0) dX6_init_7 (Or.inl ⟨rfl, rfl⟩) arr_int rfl (by decide) (by decide) (by decide) (fun j => (hF 30 0 j (fun h => absurd h.2 (by decide))).1) (by decide) (by decide +kernel) (by decide +kernel) (by decide) rfl ?_
  have hF := aFr_mono hF
  refine aPutR (pc' := 12) (k := 29) (i := 0) (q := (30, 0)) dX6_init_9 fX6_11 rfl ⟨by decide, by decide, by decide, by decide, by decide, by decide, by decide, by decide⟩ rfl (Or.inr ⟨rfl, rfl⟩) ⟨by decide, by decide⟩ rfl ?_
  have hF := aFr_uR (j := 0) (v := some (30, 0)) hF (k := 29) (i := 0) ⟨by decide, by decide⟩
  refine aAload_n (pc' := 13) dX6_init_12 rfl rfl ?_
  refine aIconst (pc' := 14) ⟨by decide, by decide⟩ dX6_init_13 rfl ?_
  refine aPutI (pc' := 17) (k := 29) (i := 0) dX6_init_14 fX6_15 rfl rfl (Or.inl rfl) ⟨by decide, by decide⟩ rfl ?_
  have hF := aFr_uI (j := 1) (v := 0) hF (k := 29) (i := 0) ⟨by decide, by decide⟩
  refine aAload_n (pc' := 18) dX6_init_17 rfl rfl ?_
  refine aIconst (pc' := 19) ⟨by decide, by decide⟩ dX6_init_18 rfl ?_
  refine aPutI (pc' := 22) (k := 29) (i := 0) dX6_init_19 fX6_19 rfl rfl (Or.inl rfl) ⟨by decide, by decide⟩ rfl ?_
  have hF := aFr_uI (j := 2) (v := 0) hF (k := 29) (i := 0) ⟨by decide, by decide⟩
  exact aVret dX6_init_22 nlX6_init.2 rfl (by decide) (by decide +kernel) (hq hF)
set_option maxRecDepth 100000 in
set_option maxHeartbeats 4000000 in
theorem iX2_init_28_0 {w : aW} {I : aIF} {R : aRF} {Q : aQ} (hF : aFr 55 I R) (hq : aFr 57 (uI (uI (uI I 29 0 1 0) 29 0 2 0) 28 0 1 0) (uR (uR (uR R 29 0 0 (some (30, 0))) 28 0 0 (some (29, 0))) 28 0 2 (some (6, 0))) → Q none 57 (uI (uI (uI I 29 0 1 0) 29 0 2 0) 28 0 1 0) (uR (uR (uR R 29 0 0 (some (30, 0))) 28 0 0 (some (29, 0))) 28 0 2 (some (6, 0)))) : aMet w mX2_init [aO 28 0, aI 0, aO 6 0] 55 I R Q := by
  refine aMet_of nlX2_init.1 nlX2_init.2 (by decide) (fun hos => ?_)
  show aRun w mX2_init 0 [some (aO 28 0), some (aI 0), some (aO 6 0)] [] 55 55 I R Q
  refine aAload_n (pc' := 1) dX2_init_0 rfl rfl ?_
  refine aObjInit (pc' := 4) dX2_init_1 loX2_3 insObj codObj (by decide) (by decide) rfl ?_
  refine aAload_n (pc' := 5) dX2_init_4 rfl rfl ?_
  refine aNew (pc' := 8) (k := 29) (i := 0) (c := 6) dX2_init_5 (by decide) rfl kX2_9 newX6 iniX6 (by decide) (by decide) (fun j => (hF 29 0 j (fun h => absurd h.2 (by decide))).1) (fun j => (hF 29 0 j (fun h => absurd h.2 (by decide))).2) (by decide) (by decide +kernel) (by decide +kernel) rfl ?_
  have hF := aFr_mono hF
  refine aDup (pc' := 9) rfl dX2_init_8 rfl ?_
  refine aCallN (As := []) (rest := [aO 29 0, aO 28 0]) (k := 29) (i := 0) (pc' := 12) dX2_init_9 lX2_11 ⟨rfl, rfl⟩ ⟨by decide, by decide⟩ npX6_init (by decide) (by decide) (by decide +kernel) rfl ?_
  refine iX6_init_29_0 hF (fun hF => ?_)
  show aRun w mX2_init 12 [some (aO 28 0), some (aI 0), some (aO 6 0)] [aO 29 0, aO 28 0] 55 57 _ _ Q
  refine aPutR (pc' := 15) (k := 28) (i := 0) (q := (29, 0)) dX2_init_12 fX2_12 rfl ⟨by decide, by decide, by decide, by decide, by decide, by decide, by decide, by decide⟩ rfl (Or.inr ⟨rfl, rfl⟩) ⟨by decide, by decide⟩ rfl ?_
  have hF := aFr_uR (j := 0) (v := some (29, 0)) hF (k := 28) (i := 0) ⟨by decide, by decide⟩
  refine aAload_n (pc' := 16) dX2_init_15 rfl rfl ?_
  refine aIload_n (pc' := 17) dX2_init_16 rfl rfl ?_
  refine aPutI (pc' := 20) (k := 28) (i := 0) dX2_init_17 fX2_18 rfl rfl (Or.inr ⟨rfl, rfl⟩) ⟨by decide, by decide⟩ rfl ?_
  have hF := aFr_uI (j := 1) (v := 0) hF (k := 28) (i := 0) ⟨by decide, by decide⟩
  refine aAload_n (pc' := 21) dX2_init_20 rfl rfl ?_
  refine aAload_n (pc' := 22) dX2_init_21 rfl rfl ?_
  refine aPutR (pc' := 25) (k := 28) (i := 0) (q := (6, 0)) dX2_init_22 fX2_22 rfl ⟨by decide, by decide, by decide, by decide, by decide, by decide, by decide, by decide⟩ rfl (Or.inr ⟨rfl, rfl⟩) ⟨by decide, by decide⟩ rfl ?_
  have hF := aFr_uR (j := 2) (v := some (6, 0)) hF (k := 28) (i := 0) ⟨by decide, by decide⟩
  exact aVret dX2_init_25 nlX2_init.2 rfl (by decide) (by decide +kernel) (hq hF)
set_option maxRecDepth 100000 in
set_option maxHeartbeats 4000000 in
theorem iX6_init_29_1 {w : aW} {I : aIF} {R : aRF} {Q : aQ} (hF : aFr 59 I R) (hq : aFr 60 (uI (uI I 29 1 1 0) 29 1 2 0) (uR R 29 1 0 (some (30, 1))) → Q none 60 (uI (uI I 29 1 1 0) 29 1 2 0) (uR R 29 1 0 (some (30, 1)))) : aMet w mX6_init [aO 29 1] 59 I R Q := by
  refine aMet_of nlX6_init.1 nlX6_init.2 (by decide) (fun hos => ?_)
  show aRun w mX6_init 0 [some (aO 29 1)] [] 59 59 I R Q
  refine aAload_n (pc' := 1) dX6_init_0 rfl rfl ?_
  refine aObjInit (pc' := 4) dX6_init_1 loX6_3 insObj codObj (by decide) (by decide) rfl ?_
  refine aAload_n (pc' := 5) dX6_init_4 rfl rfl ?_
  refine aBipush (pc' := 7) ⟨by decide, by decide⟩ dX6_init_5 rfl ?_
  refine aNewa (pc' := 9) (k := 30) (i := 1) (t := 0) dX6_init_7 (Or.inl ⟨rfl, rfl⟩) arr_int rfl (by decide) (by decide) (by decide) (fun j => (hF 30 1 j (fun h => absurd h.2 (by decide))).1) (by decide) (by decide +kernel) (by decide +kernel) (by decide) rfl ?_
  have hF := aFr_mono hF
  refine aPutR (pc' := 12) (k := 29) (i := 1) (q := (30, 1)) dX6_init_9 fX6_11 rfl ⟨by decide, by decide, by decide, by decide, by decide, by decide, by decide, by decide⟩ rfl (Or.inr ⟨rfl, rfl⟩) ⟨by decide, by decide⟩ rfl ?_
  have hF := aFr_uR (j := 0) (v := some (30, 1)) hF (k := 29) (i := 1) ⟨by decide, by decide⟩
  refine aAload_n (pc' := 13) dX6_init_12 rfl rfl ?_
  refine aIconst (pc' := 14) ⟨by decide, by decide⟩ dX6_init_13 rfl ?_
  refine aPutI (pc' := 17) (k := 29) (i := 1) dX6_init_14 fX6_15 rfl rfl (Or.inl rfl) ⟨by decide, by decide⟩ rfl ?_
  have hF := aFr_uI (j := 1) (v := 0) hF (k := 29) (i := 1) ⟨by decide, by decide⟩
  refine aAload_n (pc' := 18) dX6_init_17 rfl rfl ?_
  refine aIconst (pc' := 19) ⟨by decide, by decide⟩ dX6_init_18 rfl ?_
  refine aPutI (pc' := 22) (k := 29) (i := 1) dX6_init_19 fX6_19 rfl rfl (Or.inl rfl) ⟨by decide, by decide⟩ rfl ?_
  have hF := aFr_uI (j := 2) (v := 0) hF (k := 29) (i := 1) ⟨by decide, by decide⟩
  exact aVret dX6_init_22 nlX6_init.2 rfl (by decide) (by decide +kernel) (hq hF)
set_option maxRecDepth 100000 in
set_option maxHeartbeats 4000000 in
theorem iX2_init_28_1 {w : aW} {I : aIF} {R : aRF} {Q : aQ} (hF : aFr 58 I R) (hq : aFr 60 (uI (uI (uI I 29 1 1 0) 29 1 2 0) 28 1 1 1) (uR (uR (uR R 29 1 0 (some (30, 1))) 28 1 0 (some (29, 1))) 28 1 2 (some (6, 1))) → Q none 60 (uI (uI (uI I 29 1 1 0) 29 1 2 0) 28 1 1 1) (uR (uR (uR R 29 1 0 (some (30, 1))) 28 1 0 (some (29, 1))) 28 1 2 (some (6, 1)))) : aMet w mX2_init [aO 28 1, aI 1, aO 6 1] 58 I R Q := by
  refine aMet_of nlX2_init.1 nlX2_init.2 (by decide) (fun hos => ?_)
  show aRun w mX2_init 0 [some (aO 28 1), some (aI 1), some (aO 6 1)] [] 58 58 I R Q
  refine aAload_n (pc' := 1) dX2_init_0 rfl rfl ?_
  refine aObjInit (pc' := 4) dX2_init_1 loX2_3 insObj codObj (by decide) (by decide) rfl ?_
  refine aAload_n (pc' := 5) dX2_init_4 rfl rfl ?_
  refine aNew (pc' := 8) (k := 29) (i := 1) (c := 6) dX2_init_5 (by decide) rfl kX2_9 newX6 iniX6 (by decide) (by decide) (fun j => (hF 29 1 j (fun h => absurd h.2 (by decide))).1) (fun j => (hF 29 1 j (fun h => absurd h.2 (by decide))).2) (by decide) (by decide +kernel) (by decide +kernel) rfl ?_
  have hF := aFr_mono hF
  refine aDup (pc' := 9) rfl dX2_init_8 rfl ?_
  refine aCallN (As := []) (rest := [aO 29 1, aO 28 1]) (k := 29) (i := 1) (pc' := 12) dX2_init_9 lX2_11 ⟨rfl, rfl⟩ ⟨by decide, by decide⟩ npX6_init (by decide) (by decide) (by decide +kernel) rfl ?_
  refine iX6_init_29_1 hF (fun hF => ?_)
  show aRun w mX2_init 12 [some (aO 28 1), some (aI 1), some (aO 6 1)] [aO 29 1, aO 28 1] 58 60 _ _ Q
  refine aPutR (pc' := 15) (k := 28) (i := 1) (q := (29, 1)) dX2_init_12 fX2_12 rfl ⟨by decide, by decide, by decide, by decide, by decide, by decide, by decide, by decide⟩ rfl (Or.inr ⟨rfl, rfl⟩) ⟨by decide, by decide⟩ rfl ?_
  have hF := aFr_uR (j := 0) (v := some (29, 1)) hF (k := 28) (i := 1) ⟨by decide, by decide⟩
  refine aAload_n (pc' := 16) dX2_init_15 rfl rfl ?_
  refine aIload_n (pc' := 17) dX2_init_16 rfl rfl ?_
  refine aPutI (pc' := 20) (k := 28) (i := 1) dX2_init_17 fX2_18 rfl rfl (Or.inr ⟨rfl, rfl⟩) ⟨by decide, by decide⟩ rfl ?_
  have hF := aFr_uI (j := 1) (v := 1) hF (k := 28) (i := 1) ⟨by decide, by decide⟩
  refine aAload_n (pc' := 21) dX2_init_20 rfl rfl ?_
  refine aAload_n (pc' := 22) dX2_init_21 rfl rfl ?_
  refine aPutR (pc' := 25) (k := 28) (i := 1) (q := (6, 1)) dX2_init_22 fX2_22 rfl ⟨by decide, by decide, by decide, by decide, by decide, by decide, by decide, by decide⟩ rfl (Or.inr ⟨rfl, rfl⟩) ⟨by decide, by decide⟩ rfl ?_
  have hF := aFr_uR (j := 2) (v := some (6, 1)) hF (k := 28) (i := 1) ⟨by decide, by decide⟩
  exact aVret dX2_init_25 nlX2_init.2 rfl (by decide) (by decide +kernel) (hq hF)
set_option maxRecDepth 100000 in
set_option maxHeartbeats 4000000 in
theorem iX6_init_29_2 {w : aW} {I : aIF} {R : aRF} {Q : aQ} (hF : aFr 62 I R) (hq : aFr 63 (uI (uI I 29 2 1 0) 29 2 2 0) (uR R 29 2 0 (some (30, 2))) → Q none 63 (uI (uI I 29 2 1 0) 29 2 2 0) (uR R 29 2 0 (some (30, 2)))) : aMet w mX6_init [aO 29 2] 62 I R Q := by
  refine aMet_of nlX6_init.1 nlX6_init.2 (by decide) (fun hos => ?_)
  show aRun w mX6_init 0 [some (aO 29 2)] [] 62 62 I R Q
  refine aAload_n (pc' := 1) dX6_init_0 rfl rfl ?_
  refine aObjInit (pc' := 4) dX6_init_1 loX6_3 insObj codObj (by decide) (by decide) rfl ?_
  refine aAload_n (pc' := 5) dX6_init_4 rfl rfl ?_
  refine aBipush (pc' := 7) ⟨by decide, by decide⟩ dX6_init_5 rfl ?_
  refine aNewa (pc' := 9) (k := 30) (i := 2) (t := 0) dX6_init_7 (Or.inl ⟨rfl, rfl⟩) arr_int rfl (by decide) (by decide) (by decide) (fun j => (hF 30 2 j (fun h => absurd h.2 (by decide))).1) (by decide) (by decide +kernel) (by decide +kernel) (by decide) rfl ?_
  have hF := aFr_mono hF
  refine aPutR (pc' := 12) (k := 29) (i := 2) (q := (30, 2)) dX6_init_9 fX6_11 rfl ⟨by decide, by decide, by decide, by decide, by decide, by decide, by decide, by decide⟩ rfl (Or.inr ⟨rfl, rfl⟩) ⟨by decide, by decide⟩ rfl ?_
  have hF := aFr_uR (j := 0) (v := some (30, 2)) hF (k := 29) (i := 2) ⟨by decide, by decide⟩
  refine aAload_n (pc' := 13) dX6_init_12 rfl rfl ?_
  refine aIconst (pc' := 14) ⟨by decide, by decide⟩ dX6_init_13 rfl ?_
  refine aPutI (pc' := 17) (k := 29) (i := 2) dX6_init_14 fX6_15 rfl rfl (Or.inl rfl) ⟨by decide, by decide⟩ rfl ?_
  have hF := aFr_uI (j := 1) (v := 0) hF (k := 29) (i := 2) ⟨by decide, by decide⟩
  refine aAload_n (pc' := 18) dX6_init_17 rfl rfl ?_
  refine aIconst (pc' := 19) ⟨by decide, by decide⟩ dX6_init_18 rfl ?_
  refine aPutI (pc' := 22) (k := 29) (i := 2) dX6_init_19 fX6_19 rfl rfl (Or.inl rfl) ⟨by decide, by decide⟩ rfl ?_
  have hF := aFr_uI (j := 2) (v := 0) hF (k := 29) (i := 2) ⟨by decide, by decide⟩
  exact aVret dX6_init_22 nlX6_init.2 rfl (by decide) (by decide +kernel) (hq hF)
set_option maxRecDepth 100000 in
set_option maxHeartbeats 4000000 in
theorem iX2_init_28_2 {w : aW} {I : aIF} {R : aRF} {Q : aQ} (hF : aFr 61 I R) (hq : aFr 63 (uI (uI (uI I 29 2 1 0) 29 2 2 0) 28 2 1 2) (uR (uR (uR R 29 2 0 (some (30, 2))) 28 2 0 (some (29, 2))) 28 2 2 (some (6, 2))) → Q none 63 (uI (uI (uI I 29 2 1 0) 29 2 2 0) 28 2 1 2) (uR (uR (uR R 29 2 0 (some (30, 2))) 28 2 0 (some (29, 2))) 28 2 2 (some (6, 2)))) : aMet w mX2_init [aO 28 2, aI 2, aO 6 2] 61 I R Q := by
  refine aMet_of nlX2_init.1 nlX2_init.2 (by decide) (fun hos => ?_)
  show aRun w mX2_init 0 [some (aO 28 2), some (aI 2), some (aO 6 2)] [] 61 61 I R Q
  refine aAload_n (pc' := 1) dX2_init_0 rfl rfl ?_
  refine aObjInit (pc' := 4) dX2_init_1 loX2_3 insObj codObj (by decide) (by decide) rfl ?_
  refine aAload_n (pc' := 5) dX2_init_4 rfl rfl ?_
  refine aNew (pc' := 8) (k := 29) (i := 2) (c := 6) dX2_init_5 (by decide) rfl kX2_9 newX6 iniX6 (by decide) (by decide) (fun j => (hF 29 2 j (fun h => absurd h.2 (by decide))).1) (fun j => (hF 29 2 j (fun h => absurd h.2 (by decide))).2) (by decide) (by decide +kernel) (by decide +kernel) rfl ?_
  have hF := aFr_mono hF
  refine aDup (pc' := 9) rfl dX2_init_8 rfl ?_
  refine aCallN (As := []) (rest := [aO 29 2, aO 28 2]) (k := 29) (i := 2) (pc' := 12) dX2_init_9 lX2_11 ⟨rfl, rfl⟩ ⟨by decide, by decide⟩ npX6_init (by decide) (by decide) (by decide +kernel) rfl ?_
  refine iX6_init_29_2 hF (fun hF => ?_)
  show aRun w mX2_init 12 [some (aO 28 2), some (aI 2), some (aO 6 2)] [aO 29 2, aO 28 2] 61 63 _ _ Q
  refine aPutR (pc' := 15) (k := 28) (i := 2) (q := (29, 2)) dX2_init_12 fX2_12 rfl ⟨by decide, by decide, by decide, by decide, by decide, by decide, by decide, by decide⟩ rfl (Or.inr ⟨rfl, rfl⟩) ⟨by decide, by decide⟩ rfl ?_
  have hF := aFr_uR (j := 0) (v := some (29, 2)) hF (k := 28) (i := 2) ⟨by decide, by decide⟩
  refine aAload_n (pc' := 16) dX2_init_15 rfl rfl ?_
  refine aIload_n (pc' := 17) dX2_init_16 rfl rfl ?_
  refine aPutI (pc' := 20) (k := 28) (i := 2) dX2_init_17 fX2_18 rfl rfl (Or.inr ⟨rfl, rfl⟩) ⟨by decide, by decide⟩ rfl ?_
  have hF := aFr_uI (j := 1) (v := 2) hF (k := 28) (i := 2) ⟨by decide, by decide⟩
  refine aAload_n (pc' := 21) dX2_init_20 rfl rfl ?_
  refine aAload_n (pc' := 22) dX2_init_21 rfl rfl ?_
  refine aPutR (pc' := 25) (k := 28) (i := 2) (q := (6, 2)) dX2_init_22 fX2_22 rfl ⟨by decide, by decide, by decide, by decide, by decide, by decide, by decide, by decide⟩ rfl (Or.inr ⟨rfl, rfl⟩) ⟨by decide, by decide⟩ rfl ?_
  have hF := aFr_uR (j := 2) (v := some (6, 2)) hF (k := 28) (i := 2) ⟨by decide, by decide⟩
  exact aVret dX2_init_25 nlX2_init.2 rfl (by decide) (by decide +kernel) (hq hF)
set_option maxRecDepth 100000 in
set_option maxHeartbeats 4000000 in
theorem iX6_init_29_3 {w : aW} {I : aIF} {R : aRF} {Q : aQ} (hF : aFr 65 I R) (hq : aFr 66 (uI (uI I 29 3 1 0) 29 3 2 0) (uR R 29 3 0 (some (30, 3))) → Q none 66 (uI (uI I 29 3 1 0) 29 3 2 0) (uR R 29 3 0 (some (30, 3)))) : aMet w mX6_init [aO 29 3] 65 I R Q := by
  refine aMet_of nlX6_init.1 nlX6_init.2 (by decide) (fun hos => ?_)
  show aRun w mX6_init 0 [some (aO 29 3)] [] 65 65 I R Q
  refine aAload_n (pc' := 1) dX6_init_0 rfl rfl ?_
  refine aObjInit (pc' := 4) dX6_init_1 loX6_3 insObj codObj (by decide) (by decide) rfl ?_
  refine aAload_n (pc' := 5) dX6_init_4 rfl rfl ?_
  refine aBipush (pc' := 7) ⟨by decide, by decide⟩ dX6_init_5 rfl ?_
  refine aNewa (pc' := 9) (k := 30) (i := 3) (t := 0) dX6_init_7 (Or.inl ⟨rfl, rfl⟩) arr_int rfl (by decide) (by decide) (by decide) (fun j => (hF 30 3 j (fun h => absurd h.2 (by decide))).1) (by decide) (by decide +kernel) (by decide +kernel) (by decide) rfl ?_
  have hF := aFr_mono hF
  refine aPutR (pc' := 12) (k := 29) (i := 3) (q := (30, 3)) dX6_init_9 fX6_11 rfl ⟨by decide, by decide, by decide, by decide, by decide, by decide, by decide, by decide⟩ rfl (Or.inr ⟨rfl, rfl⟩) ⟨by decide, by decide⟩ rfl ?_
  have hF := aFr_uR (j := 0) (v := some (30, 3)) hF (k := 29) (i := 3) ⟨by decide, by decide⟩
  refine aAload_n (pc' := 13) dX6_init_12 rfl rfl ?_
  refine aIconst (pc' := 14) ⟨by decide, by decide⟩ dX6_init_13 rfl ?_
  refine aPutI (pc' := 17) (k := 29) (i := 3) dX6_init_14 fX6_15 rfl rfl (Or.inl rfl) ⟨by decide, by decide⟩ rfl ?_
  have hF := aFr_uI (j := 1) (v := 0) hF (k := 29) (i := 3) ⟨by decide, by decide⟩
  refine aAload_n (pc' := 18) dX6_init_17 rfl rfl ?_
  refine aIconst (pc' := 19) ⟨by decide, by decide⟩ dX6_init_18 rfl ?_
  refine aPutI (pc' := 22) (k := 29) (i := 3) dX6_init_19 fX6_19 rfl rfl (Or.inl rfl) ⟨by decide, by decide⟩ rfl ?_
  have hF := aFr_uI (j := 2) (v := 0) hF (k := 29) (i := 3) ⟨by decide, by decide⟩
  exact aVret dX6_init_22 nlX6_init.2 rfl (by decide) (by decide +kernel) (hq hF)
set_option maxRecDepth 100000 in
set_option maxHeartbeats 4000000 in
theorem iX2_init_28_3 {w : aW} {I : aIF} {R : aRF} {Q : aQ} (hF : aFr 64 I R) (hq : aFr 66 (uI (uI (uI I 29 3 1 0) 29 3 2 0) 28 3 1 3) (uR (uR (uR R 29 3 0 (some (30, 3))) 28 3 0 (some (29, 3))) 28 3 2 (some (6, 3))) → Q none 66 (uI (uI (uI I 29 3 1 0) 29 3 2 0) 28 3 1 3) (uR (uR (uR R 29 3 0 (some (30, 3))) 28 3 0 (some (29, 3))) 28 3 2 (some (6, 3)))) : aMet w mX2_init [aO 28 3, aI 3, aO 6 3] 64 I R Q := by
  refine aMet_of nlX2_init.1 nlX2_init.2 (by decide) (fun hos => ?_)
  show aRun w mX2_init 0 [some (aO 28 3), some (aI 3), some (aO 6 3)] [] 64 64 I R Q
  refine aAload_n (pc' := 1) dX2_init_0 rfl rfl ?_
  refine aObjInit (pc' := 4) dX2_init_1 loX2_3 insObj codObj (by decide) (by decide) rfl ?_
  refine aAload_n (pc' := 5) dX2_init_4 rfl rfl ?_
  refine aNew (pc' := 8) (k := 29) (i := 3) (c := 6) dX2_init_5 (by decide) rfl kX2_9 newX6 iniX6 (by decide) (by decide) (fun j => (hF 29 3 j (fun h => absurd h.2 (by decide))).1) (fun j => (hF 29 3 j (fun h => absurd h.2 (by decide))).2) (by decide) (by decide +kernel) (by decide +kernel) rfl ?_
  have hF := aFr_mono hF
  refine aDup (pc' := 9) rfl dX2_init_8 rfl ?_
  refine aCallN (As := []) (rest := [aO 29 3, aO 28 3]) (k := 29) (i := 3) (pc' := 12) dX2_init_9 lX2_11 ⟨rfl, rfl⟩ ⟨by decide, by decide⟩ npX6_init (by decide) (by decide) (by decide +kernel) rfl ?_
  refine iX6_init_29_3 hF (fun hF => ?_)
  show aRun w mX2_init 12 [some (aO 28 3), some (aI 3), some (aO 6 3)] [aO 29 3, aO 28 3] 64 66 _ _ Q
  refine aPutR (pc' := 15) (k := 28) (i := 3) (q := (29, 3)) dX2_init_12 fX2_12 rfl ⟨by decide, by decide, by decide, by decide, by decide, by decide, by decide, by decide⟩ rfl (Or.inr ⟨rfl, rfl⟩) ⟨by decide, by decide⟩ rfl ?_
  have hF := aFr_uR (j := 0) (v := some (29, 3)) hF (k := 28) (i := 3) ⟨by decide, by decide⟩
  refine aAload_n (pc' := 16) dX2_init_15 rfl rfl ?_
  refine aIload_n (pc' := 17) dX2_init_16 rfl rfl ?_
  refine aPutI (pc' := 20) (k := 28) (i := 3) dX2_init_17 fX2_18 rfl rfl (Or.inr ⟨rfl, rfl⟩) ⟨by decide, by decide⟩ rfl ?_
  have hF := aFr_uI (j := 1) (v := 3) hF (k := 28) (i := 3) ⟨by decide, by decide⟩
  refine aAload_n (pc' := 21) dX2_init_20 rfl rfl ?_
  refine aAload_n (pc' := 22) dX2_init_21 rfl rfl ?_
  refine aPutR (pc' := 25) (k := 28) (i := 3) (q := (6, 3)) dX2_init_22 fX2_22 rfl ⟨by decide, by decide, by decide, by decide, by decide, by decide, by decide, by decide⟩ rfl (Or.inr ⟨rfl, rfl⟩) ⟨by decide, by decide⟩ rfl ?_
  have hF := aFr_uR (j := 2) (v := some (6, 3)) hF (k := 28) (i := 3) ⟨by decide, by decide⟩
  exact aVret dX2_init_25 nlX2_init.2 rfl (by decide) (by decide +kernel) (hq hF)
set_option maxRecDepth 100000 in
set_option maxHeartbeats 4000000 in
theorem iX6_init_29_4 {w : aW} {I : aIF} {R : aRF} {Q : aQ} (hF : aFr 68 I R) (hq : aFr 69 (uI (uI I 29 4 1 0) 29 4 2 0) (uR R 29 4 0 (some (30, 4))) → Q none 69 (uI (uI I 29 4 1 0) 29 4 2 0) (uR R 29 4 0 (some (30, 4)))) : aMet w mX6_init [aO 29 4] 68 I R Q := by
  refine aMet_of nlX6_init.1 nlX6_init.2 (by decide) (fun hos => ?_)
  show aRun w mX6_init 0 [some (aO 29 4)] [] 68 68 I R Q
  refine aAload_n (pc' := 1) dX6_init_0 rfl rfl ?_
  refine aObjInit (pc' := 4) dX6_init_1 loX6_3 insObj codObj (by decide) (by decide) rfl ?_
  refine aAload_n (pc' := 5) dX6_init_4 rfl rfl ?_
  refine aBipush (pc' := 7) ⟨by decide, by decide⟩ dX6_init_5 rfl ?_
  refine aNewa (pc' := 9) (k := 30) (i := 4) (t := 0) dX6_init_7 (Or.inl ⟨rfl, rfl⟩) arr_int rfl (by decide) (by decide) (by decide) (fun j => (hF 30 4 j (fun h => absurd h.2 (by decide))).1) (by decide) (by decide +kernel) (by decide +kernel) (by decide) rfl ?_
  have hF := aFr_mono hF
  refine aPutR (pc' := 12) (k := 29) (i := 4) (q := (30, 4)) dX6_init_9 fX6_11 rfl ⟨by decide, by decide, by decide, by decide, by decide, by decide, by decide, by decide⟩ rfl (Or.inr ⟨rfl, rfl⟩) ⟨by decide, by decide⟩ rfl ?_
  have hF := aFr_uR (j := 0) (v := some (30, 4)) hF (k := 29) (i := 4) ⟨by decide, by decide⟩
  refine aAload_n (pc' := 13) dX6_init_12 rfl rfl ?_
  refine aIconst (pc' := 14) ⟨by decide, by decide⟩ dX6_init_13 rfl ?_
  refine aPutI (pc' := 17) (k := 29) (i := 4) dX6_init_14 fX6_15 rfl rfl (Or.inl rfl) ⟨by decide, by decide⟩ rfl ?_
  have hF := aFr_uI (j := 1) (v := 0) hF (k := 29) (i := 4) ⟨by decide, by decide⟩
  refine aAload_n (pc' := 18) dX6_init_17 rfl rfl ?_
  refine aIconst (pc' := 19) ⟨by decide, by decide⟩ dX6_init_18 rfl ?_
  refine aPutI (pc' := 22) (k := 29) (i := 4) dX6_init_19 fX6_19 rfl rfl (Or.inl rfl) ⟨by decide, by decide⟩ rfl ?_
  have hF := aFr_uI (j := 2) (v := 0) hF (k := 29) (i := 4) ⟨by decide, by decide⟩
  exact aVret dX6_init_22 nlX6_init.2 rfl (by decide) (by decide +kernel) (hq hF)
set_option maxRecDepth 100000 in
set_option maxHeartbeats 4000000 in
theorem iX2_init_28_4 {w : aW} {I : aIF} {R : aRF} {Q : aQ} (hF : aFr 67 I R) (hq : aFr 69 (uI (uI (uI I 29 4 1 0) 29 4 2 0) 28 4 1 4) (uR (uR (uR R 29 4 0 (some (30, 4))) 28 4 0 (some (29, 4))) 28 4 2 (some (6, 4))) → Q none 69 (uI (uI (uI I 29 4 1 0) 29 4 2 0) 28 4 1 4) (uR (uR (uR R 29 4 0 (some (30, 4))) 28 4 0 (some (29, 4))) 28 4 2 (some (6, 4)))) : aMet w mX2_init [aO 28 4, aI 4, aO 6 4] 67 I R Q := by
  refine aMet_of nlX2_init.1 nlX2_init.2 (by decide) (fun hos => ?_)
  show aRun w mX2_init 0 [some (aO 28 4), some (aI 4), some (aO 6 4)] [] 67 67 I R Q
  refine aAload_n (pc' := 1) dX2_init_0 rfl rfl ?_
  refine aObjInit (pc' := 4) dX2_init_1 loX2_3 insObj codObj (by decide) (by decide) rfl ?_
  refine aAload_n (pc' := 5) dX2_init_4 rfl rfl ?_
  refine aNew (pc' := 8) (k := 29) (i := 4) (c := 6) dX2_init_5 (by decide) rfl kX2_9 newX6 iniX6 (by decide) (by decide) (fun j => (hF 29 4 j (fun h => absurd h.2 (by decide))).1) (fun j => (hF 29 4 j (fun h => absurd h.2 (by decide))).2) (by decide) (by decide +kernel) (by decide +kernel) rfl ?_
  have hF := aFr_mono hF
  refine aDup (pc' := 9) rfl dX2_init_8 rfl ?_
  refine aCallN (As := []) (rest := [aO 29 4, aO 28 4]) (k := 29) (i := 4) (pc' := 12) dX2_init_9 lX2_11 ⟨rfl, rfl⟩ ⟨by decide, by decide⟩ npX6_init (by decide) (by decide) (by decide +kernel) rfl ?_
  refine iX6_init_29_4 hF (fun hF => ?_)
  show aRun w mX2_init 12 [some (aO 28 4), some (aI 4), some (aO 6 4)] [aO 29 4, aO 28 4] 67 69 _ _ Q
  refine aPutR (pc' := 15) (k := 28) (i := 4) (q := (29, 4)) dX2_init_12 fX2_12 rfl ⟨by decide, by decide, by decide, by decide, by decide, by decide, by decide, by decide⟩ rfl (Or.inr ⟨rfl, rfl⟩) ⟨by decide, by decide⟩ rfl ?_
  have hF := aFr_uR (j := 0) (v := some (29, 4)) hF (k := 28) (i := 4) ⟨by decide, by decide⟩
  refine aAload_n (pc' := 16) dX2_init_15 rfl rfl ?_
  refine aIload_n (pc' := 17) dX2_init_16 rfl rfl ?_
  refine aPutI (pc' := 20) (k := 28) (i := 4) dX2_init_17 fX2_18 rfl rfl (Or.inr ⟨rfl, rfl⟩) ⟨by decide, by decide⟩ rfl ?_
  have hF := aFr_uI (j := 1) (v := 4) hF (k := 28) (i := 4) ⟨by decide, by decide⟩
  refine aAload_n (pc' := 21) dX2_init_20 rfl rfl ?_
  refine aAload_n (pc' := 22) dX2_init_21 rfl rfl ?_
  refine aPutR (pc' := 25) (k := 28) (i := 4) (q := (6, 4)) dX2_init_22 fX2_22 rfl ⟨by decide, by decide, by decide, by decide, by decide, by decide, by decide, by decide⟩ rfl (Or.inr ⟨rfl, rfl⟩) ⟨by decide, by decide⟩ rfl ?_
  have hF := aFr_uR (j := 2) (v := some (6, 4)) hF (k := 28) (i := 4) ⟨by decide, by decide⟩
  exact aVret dX2_init_25 nlX2_init.2 rfl (by decide) (by decide +kernel) (hq hF)
set_option maxRecDepth 100000 in
set_option maxHeartbeats 4000000 in
theorem iX6_init_29_5 {w : aW} {I : aIF} {R : aRF} {Q : aQ} (hF : aFr 71 I R) (hq : aFr 72 (uI (uI I 29 5 1 0) 29 5 2 0) (uR R 29 5 0 (some (30, 5))) → Q none 72 (uI (uI I 29 5 1 0) 29 5 2 0) (uR R 29 5 0 (some (30, 5)))) : aMet w mX6_init [aO 29 5] 71 I R Q := by
  refine aMet_of nlX6_init.1 nlX6_init.2 (by decide) (fun hos => ?_)
  show aRun w mX6_init 0 [some (aO 29 5)] [] 71 71 I R Q
  refine aAload_n (pc' := 1) dX6_init_0 rfl rfl ?_
  refine aObjInit (pc' := 4) dX6_init_1 loX6_3 insObj codObj (by decide) (by decide) rfl ?_
  refine aAload_n (pc' := 5) dX6_init_4 rfl rfl ?_
  refine aBipush (pc' := 7) ⟨by decide, by decide⟩ dX6_init_5 rfl ?_
  refine aNewa (pc' := 9) (k := 30) (i := 5) (t := 0) dX6_init_7 (Or.inl ⟨rfl, rfl⟩) arr_int rfl (by decide) (by decide) (by decide) (fun j => (hF 30 5 j (fun h => absurd h.2 (by decide))).1) (by decide) (by decide +kernel) (by decide +kernel) (by decide) rfl ?_
  have hF := aFr_mono hF
  refine aPutR (pc' := 12) (k := 29) (i := 5) (q := (30, 5)) dX6_init_9 fX6_11 rfl ⟨by decide, by decide, by decide, by decide, by decide, by decide, by decide, by decide⟩ rfl (Or.inr ⟨rfl, rfl⟩) ⟨by decide, by decide⟩ rfl ?_
  have hF := aFr_uR (j := 0) (v := some (30, 5)) hF (k := 29) (i := 5) ⟨by decide, by decide⟩
  refine aAload_n (pc' := 13) dX6_init_12 rfl rfl ?_
  refine aIconst (pc' := 14) ⟨by decide, by decide⟩ dX6_init_13 rfl ?_
  refine aPutI (pc' := 17) (k := 29) (i := 5) dX6_init_14 fX6_15 rfl rfl (Or.inl rfl) ⟨by decide, by decide⟩ rfl ?_
  have hF := aFr_uI (j := 1) (v := 0) hF (k := 29) (i := 5) ⟨by decide, by decide⟩
  refine aAload_n (pc' := 18) dX6_init_17 rfl rfl ?_
  refine aIconst (pc' := 19) ⟨by decide, by decide⟩ dX6_init_18 rfl ?_
  refine aPutI (pc' := 22) (k := 29) (i := 5) dX6_init_19 fX6_19 rfl rfl (Or.inl rfl) ⟨by decide, by decide⟩ rfl ?_
  have hF := aFr_uI (j := 2) (v := 0) hF (k := 29) (i := 5) ⟨by decide, by decide⟩
  exact aVret dX6_init_22 nlX6_init.2 rfl (by decide) (by decide +kernel) (hq hF)
set_option maxRecDepth 100000 in
set_option maxHeartbeats 4000000 in
theorem iX2_init_28_5 {w : aW} {I : aIF} {R : aRF} {Q : aQ} (hF : aFr 70 I R) (hq : aFr 72 (uI (uI (uI I 29 5 1 0) 29 5 2 0) 28 5 1 5) (uR (uR (uR R 29 5 0 (some (30, 5))) 28 5 0 (some (29, 5))) 28 5 2 (some (6, 5))) → Q none 72 (uI (uI (uI I 29 5 1 0) 29 5 2 0) 28 5 1 5) (uR (uR (uR R 29 5 0 (some (30, 5))) 28 5 0 (some (29, 5))) 28 5 2 (some (6, 5)))) : aMet w mX2_init [aO 28 5, aI 5, aO 6 5] 70 I R Q := by
  refine aMet_of nlX2_init.1 nlX2_init.2 (by decide) (fun hos => ?_)
  show aRun w mX2_init 0 [some (aO 28 5), some (aI 5), some (aO 6 5)] [] 70 70 I R Q
  refine aAload_n (pc' := 1) dX2_init_0 rfl rfl ?_
  refine aObjInit (pc' := 4) dX2_init_1 loX2_3 insObj codObj (by decide) (by decide) rfl ?_
  refine aAload_n (pc' := 5) dX2_init_4 rfl rfl ?_
  refine aNew (pc' := 8) (k := 29) (i := 5) (c := 6) dX2_init_5 (by decide) rfl kX2_9 newX6 iniX6 (by decide) (by decide) (fun j => (hF 29 5 j (fun h => absurd h.2 (by decide))).1) (fun j => (hF 29 5 j (fun h => absurd h.2 (by decide))).2) (by decide) (by decide +kernel) (by decide +kernel) rfl ?_
  have hF := aFr_mono hF
  refine aDup (pc' := 9) rfl dX2_init_8 rfl ?_
  refine aCallN (As := []) (rest := [aO 29 5, aO 28 5]) (k := 29) (i := 5) (pc' := 12) dX2_init_9 lX2_11 ⟨rfl, rfl⟩ ⟨by decide, by decide⟩ npX6_init (by decide) (by decide) (by decide +kernel) rfl ?_
  refine iX6_init_29_5 hF (fun hF => ?_)
  show aRun w mX2_init 12 [some (aO 28 5), some (aI 5), some (aO 6 5)] [aO 29 5, aO 28 5] 70 72 _ _ Q
  refine aPutR (pc' := 15) (k := 28) (i := 5) (q := (29, 5)) dX2_init_12 fX2_12 rfl ⟨by decide, by decide, by decide, by decide, by decide, by decide, by decide, by decide⟩ rfl (Or.inr ⟨rfl, rfl⟩) ⟨by decide, by decide⟩ rfl ?_
  have hF := aFr_uR (j := 0) (v := some (29, 5)) hF (k := 28) (i := 5) ⟨by decide, by decide⟩
  refine aAload_n (pc' := 16) dX2_init_15 rfl rfl ?_
  refine aIload_n (pc' := 17) dX2_init_16 rfl rfl ?_
  refine aPutI (pc' := 20) (k := 28) (i := 5) dX2_init_17 fX2_18 rfl rfl (Or.inr ⟨rfl, rfl⟩) ⟨by decide, by decide⟩ rfl ?_
  have hF := aFr_uI (j := 1) (v := 5) hF (k := 28) (i := 5) ⟨by decide, by decide⟩
  refine aAload_n (pc' := 21) dX2_init_20 rfl rfl ?_
  refine aAload_n (pc' := 22) dX2_init_21 rfl rfl ?_
  refine aPutR (pc' := 25) (k := 28) (i := 5) (q := (6, 5)) dX2_init_22 fX2_22 rfl ⟨by decide, by decide, by decide, by decide, by decide, by decide, by decide, by decide⟩ rfl (Or.inr ⟨rfl, rfl⟩) ⟨by decide, by decide⟩ rfl ?_
  have hF := aFr_uR (j := 2) (v := some (6, 5)) hF (k := 28) (i := 5) ⟨by decide, by decide⟩
  exact aVret dX2_init_25 nlX2_init.2 rfl (by decide) (by decide +kernel) (hq hF)
def I_iX7_init_21_0 (I : aIF) : aIF := (uI (uI (uI (uI (uI (uI (uI (uI (uI (uI (uI (uI (uI (uI (uI (uI (uI (uI (uI (uI (uI (uI (uI I 22 0 4 0) 21 0 3 0) 21 0 4 0) 21 0 5 0) 21 0 6 0) 29 0 1 0) 29 0 2 0) 28 0 1 0) 29 1 1 0) 29 1 2 0) 28 1 1 1) 29 2 1 0) 29 2 2 0) 28 2 1 2) 29 3 1 0) 29 3 2 0) 28 3 1 3) 29 4 1 0) 29 4 2 0) 28 4 1 4) 29 5 1 0) 29 5 2 0) 28 5 1 5)
def R_iX7_init_21_0 (R : aRF) : aRF := (uR (uR (uR (uR (uR (uR (uR (uR (uR (uR (uR (uR (uR (uR (uR (uR (uR (uR (uR (uR (uR (uR (uR (uR (uR (uR (uR (uR (uR (uR (uR R 22 0 0 (some (23, 0))) 22 0 1 (some (24, 0))) 22 0 2 (some (25, 0))) 22 0 3 (some (26, 0))) 21 0 1 (some (22, 0))) 21 0 2 (some (27, 0))) 21 0 0 (some (9, 0))) 29 0 0 (some (30, 0))) 28 0 0 (some (29, 0))) 28 0 2 (some (6, 0))) 27 0 0 (some (28, 0))) 29 1 0 (some (30, 1))) 28 1 0 (some (29, 1))) 28 1 2 (some (6, 1))) 27 0 1 (some (28, 1))) 29 2 0 (some (30, 2))) 28 2 0 (some (29, 2))) 28 2 2 (some (6, 2))) 27 0 2 (some (28, 2))) 29 3 0 (some (30, 3))) 28 3 0 (some (29, 3))) 28 3 2 (some (6, 3))) 27 0 3 (some (28, 3))) 29 4 0 (some (30, 4))) 28 4 0 (some (29, 4))) 28 4 2 (some (6, 4))) 27 0 4 (some (28, 4))) 29 5 0 (some (30, 5))) 28 5 0 (some (29, 5))) 28 5 2 (some (6, 5))) 27 0 5 (some (28, 5)))
set_option maxRecDepth 100000 in
set_option maxHeartbeats 4000000 in
theorem iX7_init_21_0 {w : aW} {I : aIF} {R : aRF} {Q : aQ} (hF : aFr 48 I R) (hr_5_0_0 : R 5 0 0 = some (6, 0)) (hr_5_0_1 : R 5 0 1 = some (6, 1)) (hr_5_0_2 : R 5 0 2 = some (6, 2)) (hr_5_0_3 : R 5 0 3 = some (6, 3)) (hr_5_0_4 : R 5 0 4 = some (6, 4)) (hr_5_0_5 : R 5 0 5 = some (6, 5)) (hq : aFr 72 (I_iX7_init_21_0 I) (R_iX7_init_21_0 R) → Q none 72 (I_iX7_init_21_0 I) (R_iX7_init_21_0 R)) : aMet w mX7_init [aO 21 0, aO 9 0, aO 5 0] 48 I R Q := by
  refine aMet_of nlX7_init.1 nlX7_init.2 (by decide) (fun hos => ?_)
  show aRun w mX7_init 0 [some (aO 21 0), some (aO 9 0), some (aO 5 0), none] [] 48 48 I R Q
  refine aAload_n (pc' := 1) dX7_init_0 rfl rfl ?_
  refine aObjInit (pc' := 4) dX7_init_1 loX7_3 insObj codObj (by decide) (by decide) rfl ?_
  refine aAload_n (pc' := 5) dX7_init_4 rfl rfl ?_
  refine aNew (pc' := 8) (k := 22) (i := 0) (c := 4) dX7_init_5 (by decide) rfl kX7_9 newX4 iniX4 (by decide) (by decide) (fun j => (hF 22 0 j (fun h => absurd h.2 (by decide))).1) (fun j => (hF 22 0 j (fun h => absurd h.2 (by decide))).2) (by decide) (by decide +kernel) (by decide +kernel) rfl ?_
  have hF := aFr_mono hF
  refine aDup (pc' := 9) rfl dX7_init_8 rfl ?_
  refine aCallN (As := []) (rest := [aO 22 0, aO 21 0]) (k := 22) (i := 0) (pc' := 12) dX7_init_9 lX7_11 ⟨rfl, rfl⟩ ⟨by decide, by decide⟩ npX4_init (by decide) (by decide) (by decide +kernel) rfl ?_
  refine iX4_init_22_0 hF (fun hF => ?_)
  show aRun w mX7_init 12 [some (aO 21 0), some (aO 9 0), some (aO 5 0), none] [aO 22 0, aO 21 0] 48 53 _ _ Q
  refine aPutR (pc' := 15) (k := 21) (i := 0) (q := (22, 0)) dX7_init_12 fX7_12 rfl ⟨by decide, by decide, by decide, by decide, by decide, by decide, by decide, by decide⟩ rfl (Or.inr ⟨rfl, rfl⟩) ⟨by decide, by decide⟩ rfl ?_
  have hF := aFr_uR (j := 1) (v := some (22, 0)) hF (k := 21) (i := 0) ⟨by decide, by decide⟩
  refine aAload_n (pc' := 16) dX7_init_15 rfl rfl ?_
  refine aBipush (pc' := 18) ⟨by decide, by decide⟩ dX7_init_16 rfl ?_
  refine aAnew (pc' := 21) (k := 27) (i := 0) (t := 5) (C9 := RX2) dX7_init_18 ⟨by decide, by decide⟩ rfl kX7_18 ovrX2 rfl (by decide) (by decide) (by decide) (fun j => (hF 27 0 j (fun h => absurd h.2 (by decide))).2) (by decide) (by decide +kernel) (by decide +kernel) (by decide) rfl ?_
  have hF := aFr_mono hF
  refine aPutR (pc' := 24) (k := 21) (i := 0) (q := (27, 0)) dX7_init_21 fX7_20 rfl ⟨by decide, by decide, by decide, by decide, by decide, by decide, by decide, by decide⟩ rfl (Or.inr ⟨rfl, rfl⟩) ⟨by decide, by decide⟩ rfl ?_
  have hF := aFr_uR (j := 2) (v := some (27, 0)) hF (k := 21) (i := 0) ⟨by decide, by decide⟩
  refine aAload_n (pc' := 25) dX7_init_24 rfl rfl ?_
  refine aIconst (pc' := 26) ⟨by decide, by decide⟩ dX7_init_25 rfl ?_
  refine aPutI (pc' := 29) (k := 21) (i := 0) dX7_init_26 fX7_24 rfl rfl (Or.inl rfl) ⟨by decide, by decide⟩ rfl ?_
  have hF := aFr_uI (j := 3) (v := 0) hF (k := 21) (i := 0) ⟨by decide, by decide⟩
  refine aAload_n (pc' := 30) dX7_init_29 rfl rfl ?_
  refine aIconst (pc' := 31) ⟨by decide, by decide⟩ dX7_init_30 rfl ?_
  refine aPutZ (pc' := 34) (k := 21) (i := 0) dX7_init_31 fX7_28 rfl rfl (Or.inl rfl) ⟨by decide, by decide⟩ (by decide) rfl ?_
  have hF := aFr_uI (j := 4) (v := 0) hF (k := 21) (i := 0) ⟨by decide, by decide⟩
  refine aAload_n (pc' := 35) dX7_init_34 rfl rfl ?_
  refine aIconst (pc' := 36) ⟨by decide, by decide⟩ dX7_init_35 rfl ?_
  refine aPutI (pc' := 39) (k := 21) (i := 0) dX7_init_36 fX7_32 rfl rfl (Or.inl rfl) ⟨by decide, by decide⟩ rfl ?_
  have hF := aFr_uI (j := 5) (v := 0) hF (k := 21) (i := 0) ⟨by decide, by decide⟩
  refine aAload_n (pc' := 40) dX7_init_39 rfl rfl ?_
  refine aIconst (pc' := 41) ⟨by decide, by decide⟩ dX7_init_40 rfl ?_
  refine aPutI (pc' := 44) (k := 21) (i := 0) dX7_init_41 fX7_35 rfl rfl (Or.inl rfl) ⟨by decide, by decide⟩ rfl ?_
  have hF := aFr_uI (j := 6) (v := 0) hF (k := 21) (i := 0) ⟨by decide, by decide⟩
  refine aAload_n (pc' := 45) dX7_init_44 rfl rfl ?_
  refine aAload_n (pc' := 46) dX7_init_45 rfl rfl ?_
  refine aPutR (pc' := 49) (k := 21) (i := 0) (q := (9, 0)) dX7_init_46 fX7_38 rfl ⟨by decide, by decide, by decide, by decide, by decide, by decide, by decide, by decide⟩ rfl (Or.inr ⟨rfl, rfl⟩) ⟨by decide, by decide⟩ rfl ?_
  have hF := aFr_uR (j := 0) (v := some (9, 0)) hF (k := 21) (i := 0) ⟨by decide, by decide⟩
  refine aIconst (pc' := 50) ⟨by decide, by decide⟩ dX7_init_49 rfl ?_
  refine aIstore_n (pc' := 51) dX7_init_50 (by decide) rfl (L' := [some (aO 21 0), some (aO 9 0), some (aO 5 0), some (aI 0)]) rfl ?_
  refine aIload_n (pc' := 52) dX7_init_51 rfl rfl ?_
  refine aBipush (pc' := 54) ⟨by decide, by decide⟩ dX7_init_52 rfl ?_
  refine aIcmp_ge (tgt := 80) (pc' := 57) dX7_init_54 (by decide) rfl (fun h => absurd h (by decide)) (fun _ => ?_)
  refine aAload_n (pc' := 58) dX7_init_57 rfl rfl ?_
  refine aGetR (pc' := 61) (q := (27, 0)) dX7_init_58 fX7_20 rfl rfl ⟨by decide, by decide⟩ rfl rfl ?_
  refine aIload_n (pc' := 62) dX7_init_61 rfl rfl ?_
  refine aNew (pc' := 65) (k := 28) (i := 0) (c := 2) dX7_init_62 (by decide) rfl kX7_18 newX2 iniX2 (by decide) (by decide) (fun j => (hF 28 0 j (fun h => absurd h.2 (by decide))).1) (fun j => (hF 28 0 j (fun h => absurd h.2 (by decide))).2) (by decide) (by decide +kernel) (by decide +kernel) rfl ?_
  have hF := aFr_mono hF
  refine aDup (pc' := 66) rfl dX7_init_65 rfl ?_
  refine aIload_n (pc' := 67) dX7_init_66 rfl rfl ?_
  refine aAload_n (pc' := 68) dX7_init_67 rfl rfl ?_
  refine aIload_n (pc' := 69) dX7_init_68 rfl rfl ?_
  refine aAald (pc' := 70) (j := 0) (q := (6, 0)) dX7_init_69 (t := 4) rfl ⟨by decide, by decide⟩ ⟨by decide, by decide⟩ rfl (by decide) hr_5_0_0 rfl ?_
  refine aCallI (As := [aI 0, aO 6 0]) (rest := [aO 28 0, aI 0, aO 27 0]) (k := 28) (i := 0) (pc' := 73) dX7_init_70 lX7_42 ⟨rfl, rfl⟩ ⟨by decide, by decide⟩ npX2_init (by decide) (by decide) (by decide +kernel) rfl ?_
  refine iX2_init_28_0 hF (fun hF => ?_)
  show aRun w mX7_init 73 [some (aO 21 0), some (aO 9 0), some (aO 5 0), some (aI 0)] [aO 28 0, aI 0, aO 27 0] 48 57 _ _ Q
  refine aAastore (pc' := 74) (k := 27) (i := 0) (t := 5) (j := 0) (k2 := 28) (i2 := 0) (c := 2) dX7_init_73 rfl ⟨by decide, by decide⟩ (by decide) rfl rfl ⟨by decide, by decide⟩ ⟨by decide, by decide⟩ rfl (by decide) rfl ?_
  have hF := aFr_uR (j := 0) (v := some (28, 0)) hF (k := 27) (i := 0) ⟨by decide, by decide⟩
  refine aIinc (pc' := 77) dX7_init_74 rfl (by decide) ⟨by decide, by decide⟩ (by decide) (by decide) rfl (L' := [some (aO 21 0), some (aO 9 0), some (aO 5 0), some (aI 1)]) rfl ?_
  refine aGoto (pc' := 51) dX7_init_77 (by decide) ?_
  refine aIload_n (pc' := 52) dX7_init_51 rfl rfl ?_
  refine aBipush (pc' := 54) ⟨by decide, by decide⟩ dX7_init_52 rfl ?_
  refine aIcmp_ge (tgt := 80) (pc' := 57) dX7_init_54 (by decide) rfl (fun h => absurd h (by decide)) (fun _ => ?_)
  refine aAload_n (pc' := 58) dX7_init_57 rfl rfl ?_
  refine aGetR (pc' := 61) (q := (27, 0)) dX7_init_58 fX7_20 rfl rfl ⟨by decide, by decide⟩ rfl rfl ?_
  refine aIload_n (pc' := 62) dX7_init_61 rfl rfl ?_
  refine aNew (pc' := 65) (k := 28) (i := 1) (c := 2) dX7_init_62 (by decide) rfl kX7_18 newX2 iniX2 (by decide) (by decide) (fun j => (hF 28 1 j (fun h => absurd h.2 (by decide))).1) (fun j => (hF 28 1 j (fun h => absurd h.2 (by decide))).2) (by decide) (by decide +kernel) (by decide +kernel) rfl ?_
  have hF := aFr_mono hF
  refine aDup (pc' := 66) rfl dX7_init_65 rfl ?_
  refine aIload_n (pc' := 67) dX7_init_66 rfl rfl ?_
  refine aAload_n (pc' := 68) dX7_init_67 rfl rfl ?_
  refine aIload_n (pc' := 69) dX7_init_68 rfl rfl ?_
  refine aAald (pc' := 70) (j := 1) (q := (6, 1)) dX7_init_69 (t := 4) rfl ⟨by decide, by decide⟩ ⟨by decide, by decide⟩ rfl (by decide) hr_5_0_1 rfl ?_
  refine aCallI (As := [aI 1, aO 6 1]) (rest := [aO 28 1, aI 1, aO 27 0]) (k := 28) (i := 1) (pc' := 73) dX7_init_70 lX7_42 ⟨rfl, rfl⟩ ⟨by decide, by decide⟩ npX2_init (by decide) (by decide) (by decide +kernel) rfl ?_
  refine iX2_init_28_1 hF (fun hF => ?_)
  show aRun w mX7_init 73 [some (aO 21 0), some (aO 9 0), some (aO 5 0), some (aI 1)] [aO 28 1, aI 1, aO 27 0] 48 60 _ _ Q
  refine aAastore (pc' := 74) (k := 27) (i := 0) (t := 5) (j := 1) (k2 := 28) (i2 := 1) (c := 2) dX7_init_73 rfl ⟨by decide, by decide⟩ (by decide) rfl rfl ⟨by decide, by decide⟩ ⟨by decide, by decide⟩ rfl (by decide) rfl ?_
  have hF := aFr_uR (j := 1) (v := some (28, 1)) hF (k := 27) (i := 0) ⟨by decide, by decide⟩
  refine aIinc (pc' := 77) dX7_init_74 rfl (by decide) ⟨by decide, by decide⟩ (by decide) (by decide) rfl (L' := [some (aO 21 0), some (aO 9 0), some (aO 5 0), some (aI 2)]) rfl ?_
  refine aGoto (pc' := 51) dX7_init_77 (by decide) ?_
  refine aIload_n (pc' := 52) dX7_init_51 rfl rfl ?_
  refine aBipush (pc' := 54) ⟨by decide, by decide⟩ dX7_init_52 rfl ?_
  refine aIcmp_ge (tgt := 80) (pc' := 57) dX7_init_54 (by decide) rfl (fun h => absurd h (by decide)) (fun _ => ?_)
  refine aAload_n (pc' := 58) dX7_init_57 rfl rfl ?_
  refine aGetR (pc' := 61) (q := (27, 0)) dX7_init_58 fX7_20 rfl rfl ⟨by decide, by decide⟩ rfl rfl ?_
  refine aIload_n (pc' := 62) dX7_init_61 rfl rfl ?_
  refine aNew (pc' := 65) (k := 28) (i := 2) (c := 2) dX7_init_62 (by decide) rfl kX7_18 newX2 iniX2 (by decide) (by decide) (fun j => (hF 28 2 j (fun h => absurd h.2 (by decide))).1) (fun j => (hF 28 2 j (fun h => absurd h.2 (by decide))).2) (by decide) (by decide +kernel) (by decide +kernel) rfl ?_
  have hF := aFr_mono hF
  refine aDup (pc' := 66) rfl dX7_init_65 rfl ?_
  refine aIload_n (pc' := 67) dX7_init_66 rfl rfl ?_
  refine aAload_n (pc' := 68) dX7_init_67 rfl rfl ?_
  refine aIload_n (pc' := 69) dX7_init_68 rfl rfl ?_
  refine aAald (pc' := 70) (j := 2) (q := (6, 2)) dX7_init_69 (t := 4) rfl ⟨by decide, by decide⟩ ⟨by decide, by decide⟩ rfl (by decide) hr_5_0_2 rfl ?_
  refine aCallI (As := [aI 2, aO 6 2]) (rest := [aO 28 2, aI 2, aO 27 0]) (k := 28) (i := 2) (pc' := 73) dX7_init_70 lX7_42 ⟨rfl, rfl⟩ ⟨by decide, by decide⟩ npX2_init (by decide) (by decide) (by decide +kernel) rfl ?_
  refine iX2_init_28_2 hF (fun hF => ?_)
  show aRun w mX7_init 73 [some (aO 21 0), some (aO 9 0), some (aO 5 0), some (aI 2)] [aO 28 2, aI 2, aO 27 0] 48 63 _ _ Q
  refine aAastore (pc' := 74) (k := 27) (i := 0) (t := 5) (j := 2) (k2 := 28) (i2 := 2) (c := 2) dX7_init_73 rfl ⟨by decide, by decide⟩ (by decide) rfl rfl ⟨by decide, by decide⟩ ⟨by decide, by decide⟩ rfl (by decide) rfl ?_
  have hF := aFr_uR (j := 2) (v := some (28, 2)) hF (k := 27) (i := 0) ⟨by decide, by decide⟩
  refine aIinc (pc' := 77) dX7_init_74 rfl (by decide) ⟨by decide, by decide⟩ (by decide) (by decide) rfl (L' := [some (aO 21 0), some (aO 9 0), some (aO 5 0), some (aI 3)]) rfl ?_
  refine aGoto (pc' := 51) dX7_init_77 (by decide) ?_
  refine aIload_n (pc' := 52) dX7_init_51 rfl rfl ?_
  refine aBipush (pc' := 54) ⟨by decide, by decide⟩ dX7_init_52 rfl ?_
  refine aIcmp_ge (tgt := 80) (pc' := 57) dX7_init_54 (by decide) rfl (fun h => absurd h (by decide)) (fun _ => ?_)
  refine aAload_n (pc' := 58) dX7_init_57 rfl rfl ?_
  refine aGetR (pc' := 61) (q := (27, 0)) dX7_init_58 fX7_20 rfl rfl ⟨by decide, by decide⟩ rfl rfl ?_
  refine aIload_n (pc' := 62) dX7_init_61 rfl rfl ?_
  refine aNew (pc' := 65) (k := 28) (i := 3) (c := 2) dX7_init_62 (by decide) rfl kX7_18 newX2 iniX2 (by decide) (by decide) (fun j => (hF 28 3 j (fun h => absurd h.2 (by decide))).1) (fun j => (hF 28 3 j (fun h => absurd h.2 (by decide))).2) (by decide) (by decide +kernel) (by decide +kernel) rfl ?_
  have hF := aFr_mono hF
  refine aDup (pc' := 66) rfl dX7_init_65 rfl ?_
  refine aIload_n (pc' := 67) dX7_init_66 rfl rfl ?_
  refine aAload_n (pc' := 68) dX7_init_67 rfl rfl ?_
  refine aIload_n (pc' := 69) dX7_init_68 rfl rfl ?_
  refine aAald (pc' := 70) (j := 3) (q := (6, 3)) dX7_init_69 (t := 4) rfl ⟨by decide, by decide⟩ ⟨by decide, by decide⟩ rfl (by decide) hr_5_0_3 rfl ?_
  refine aCallI (As := [aI 3, aO 6 3]) (rest := [aO 28 3, aI 3, aO 27 0]) (k := 28) (i := 3) (pc' := 73) dX7_init_70 lX7_42 ⟨rfl, rfl⟩ ⟨by decide, by decide⟩ npX2_init (by decide) (by decide) (by decide +kernel) rfl ?_
  refine iX2_init_28_3 hF (fun hF => ?_)
  show aRun w mX7_init 73 [some (aO 21 0), some (aO 9 0), some (aO 5 0), some (aI 3)] [aO 28 3, aI 3, aO 27 0] 48 66 _ _ Q
  refine aAastore (pc' := 74) (k := 27) (i := 0) (t := 5) (j := 3) (k2 := 28) (i2 := 3) (c := 2) dX7_init_73 rfl ⟨by decide, by decide⟩ (by decide) rfl rfl ⟨by decide, by decide⟩ ⟨by decide, by decide⟩ rfl (by decide) rfl ?_
  have hF := aFr_uR (j := 3) (v := some (28, 3)) hF (k := 27) (i := 0) ⟨by decide, by decide⟩
  refine aIinc (pc' := 77) dX7_init_74 rfl (by decide) ⟨by decide, by decide⟩ (by decide) (by decide) rfl (L' := [some (aO 21 0), some (aO 9 0), some (aO 5 0), some (aI 4)]) rfl ?_
  refine aGoto (pc' := 51) dX7_init_77 (by decide) ?_
  refine aIload_n (pc' := 52) dX7_init_51 rfl rfl ?_
  refine aBipush (pc' := 54) ⟨by decide, by decide⟩ dX7_init_52 rfl ?_
  refine aIcmp_ge (tgt := 80) (pc' := 57) dX7_init_54 (by decide) rfl (fun h => absurd h (by decide)) (fun _ => ?_)
  refine aAload_n (pc' := 58) dX7_init_57 rfl rfl ?_
  refine aGetR (pc' := 61) (q := (27, 0)) dX7_init_58 fX7_20 rfl rfl ⟨by decide, by decide⟩ rfl rfl ?_
  refine aIload_n (pc' := 62) dX7_init_61 rfl rfl ?_
  refine aNew (pc' := 65) (k := 28) (i := 4) (c := 2) dX7_init_62 (by decide) rfl kX7_18 newX2 iniX2 (by decide) (by decide) (fun j => (hF 28 4 j (fun h => absurd h.2 (by decide))).1) (fun j => (hF 28 4 j (fun h => absurd h.2 (by decide))).2) (by decide) (by decide +kernel) (by decide +kernel) rfl ?_
  have hF := aFr_mono hF
  refine aDup (pc' := 66) rfl dX7_init_65 rfl ?_
  refine aIload_n (pc' := 67) dX7_init_66 rfl rfl ?_
  refine aAload_n (pc' := 68) dX7_init_67 rfl rfl ?_
  refine aIload_n (pc' := 69) dX7_init_68 rfl rfl ?_
  refine aAald (pc' := 70) (j := 4) (q := (6, 4)) dX7_init_69 (t := 4) rfl ⟨by decide, by decide⟩ ⟨by decide, by decide⟩ rfl (by decide) hr_5_0_4 rfl ?_
  refine aCallI (As := [aI 4, aO 6 4]) (rest := [aO 28 4, aI 4, aO 27 0]) (k := 28) (i := 4) (pc' := 73) dX7_init_70 lX7_42 ⟨rfl, rfl⟩ ⟨by decide, by decide⟩ npX2_init (by decide) (by decide) (by decide +kernel) rfl ?_
  refine iX2_init_28_4 hF (fun hF => ?_)
  show aRun w mX7_init 73 [some (aO 21 0), some (aO 9 0), some (aO 5 0), some (aI 4)] [aO 28 4, aI 4, aO 27 0] 48 69 _ _ Q
  refine aAastore (pc' := 74) (k := 27) (i := 0) (t := 5) (j := 4) (k2 := 28) (i2 := 4) (c := 2) dX7_init_73 rfl ⟨by decide, by decide⟩ (by decide) rfl rfl ⟨by decide, by decide⟩ ⟨by decide, by decide⟩ rfl (by decide) rfl ?_
  have hF := aFr_uR (j := 4) (v := some (28, 4)) hF (k := 27) (i := 0) ⟨by decide, by decide⟩
  refine aIinc (pc' := 77) dX7_init_74 rfl (by decide) ⟨by decide, by decide⟩ (by decide) (by decide) rfl (L' := [some (aO 21 0), some (aO 9 0), some (aO 5 0), some (aI 5)]) rfl ?_
  refine aGoto (pc' := 51) dX7_init_77 (by decide) ?_
  refine aIload_n (pc' := 52) dX7_init_51 rfl rfl ?_
  refine aBipush (pc' := 54) ⟨by decide, by decide⟩ dX7_init_52 rfl ?_
  refine aIcmp_ge (tgt := 80) (pc' := 57) dX7_init_54 (by decide) rfl (fun h => absurd h (by decide)) (fun _ => ?_)
  refine aAload_n (pc' := 58) dX7_init_57 rfl rfl ?_
  refine aGetR (pc' := 61) (q := (27, 0)) dX7_init_58 fX7_20 rfl rfl ⟨by decide, by decide⟩ rfl rfl ?_
  refine aIload_n (pc' := 62) dX7_init_61 rfl rfl ?_
  refine aNew (pc' := 65) (k := 28) (i := 5) (c := 2) dX7_init_62 (by decide) rfl kX7_18 newX2 iniX2 (by decide) (by decide) (fun j => (hF 28 5 j (fun h => absurd h.2 (by decide))).1) (fun j => (hF 28 5 j (fun h => absurd h.2 (by decide))).2) (by decide) (by decide +kernel) (by decide +kernel) rfl ?_
  have hF := aFr_mono hF
  refine aDup (pc' := 66) rfl dX7_init_65 rfl ?_
  refine aIload_n (pc' := 67) dX7_init_66 rfl rfl ?_
  refine aAload_n (pc' := 68) dX7_init_67 rfl rfl ?_
  refine aIload_n (pc' := 69) dX7_init_68 rfl rfl ?_
  refine aAald (pc' := 70) (j := 5) (q := (6, 5)) dX7_init_69 (t := 4) rfl ⟨by decide, by decide⟩ ⟨by decide, by decide⟩ rfl (by decide) hr_5_0_5 rfl ?_
  refine aCallI (As := [aI 5, aO 6 5]) (rest := [aO 28 5, aI 5, aO 27 0]) (k := 28) (i := 5) (pc' := 73) dX7_init_70 lX7_42 ⟨rfl, rfl⟩ ⟨by decide, by decide⟩ npX2_init (by decide) (by decide) (by decide +kernel) rfl ?_
  refine iX2_init_28_5 hF (fun hF => ?_)
  show aRun w mX7_init 73 [some (aO 21 0), some (aO 9 0), some (aO 5 0), some (aI 5)] [aO 28 5, aI 5, aO 27 0] 48 72 _ _ Q
  refine aAastore (pc' := 74) (k := 27) (i := 0) (t := 5) (j := 5) (k2 := 28) (i2 := 5) (c := 2) dX7_init_73 rfl ⟨by decide, by decide⟩ (by decide) rfl rfl ⟨by decide, by decide⟩ ⟨by decide, by decide⟩ rfl (by decide) rfl ?_
  have hF := aFr_uR (j := 5) (v := some (28, 5)) hF (k := 27) (i := 0) ⟨by decide, by decide⟩
  refine aIinc (pc' := 77) dX7_init_74 rfl (by decide) ⟨by decide, by decide⟩ (by decide) (by decide) rfl (L' := [some (aO 21 0), some (aO 9 0), some (aO 5 0), some (aI 6)]) rfl ?_
  refine aGoto (pc' := 51) dX7_init_77 (by decide) ?_
  refine aIload_n (pc' := 52) dX7_init_51 rfl rfl ?_
  refine aBipush (pc' := 54) ⟨by decide, by decide⟩ dX7_init_52 rfl ?_
  refine aIcmp_ge (tgt := 80) (pc' := 57) dX7_init_54 (by decide) rfl (fun _ => ?_) (fun h => absurd (by decide) h)
  exact aVret dX7_init_80 nlX7_init.2 rfl (by decide) (by decide +kernel) (hq hF)
def I_iX9_init_1_0 (I : aIF) : aIF := (uI (uI (uI (uI (uI (uI (uI (uI (uI (uI (uI (uI (uI (uI (uI (uI (uI (uI (uI (uI (uI (uI (uI (uI (uI (uI (uI (uI (uI (uI (uI (uI (uI (uI (uI (uI (uI (uI (uI I 3 0 1 (-1)) 3 0 2 0) 3 1 1 (-1)) 3 1 2 0) 3 2 1 (-1)) 3 2 2 0) 3 3 1 (-1)) 3 3 2 0) 9 0 0 8) 9 0 1 256) 9 0 2 0) 9 0 3 50) 9 0 4 2) 12 0 1 0) 12 0 2 0) 10 0 4 0) 22 0 4 0) 21 0 3 0) 21 0 4 0) 21 0 5 0) 21 0 6 0) 29 0 1 0) 29 0 2 0) 28 0 1 0) 29 1 1 0) 29 1 2 0) 28 1 1 1) 29 2 1 0) 29 2 2 0) 28 2 1 2) 29 3 1 0) 29 3 2 0) 28 3 1 3) 29 4 1 0) 29 4 2 0) 28 4 1 4) 29 5 1 0) 29 5 2 0) 28 5 1 5)
def R_iX9_init_1_0 (R : aRF) : aRF := (uR (uR (uR (uR (uR (uR (uR (uR (uR (uR (uR (uR (uR (uR (uR (uR (uR (uR (uR (uR (uR (uR (uR (uR (uR (uR (uR (uR (uR (uR (uR (uR (uR (uR (uR (uG (uR (uR (uR (uR (uR (uR (uR (uR (uR (uR (uR (uR (uR (uR (uR (uR (uR (uR (uR (uR (uR (uR (uR (uR (uR (uR (uR (uR (uR (uR (uR (uR (uR (uR (uR (uR (uR R 1 0 0 (some (2, 0))) 3 0 0 (some (4, 0))) 2 0 0 (some (3, 0))) 3 1 0 (some (4, 1))) 2 0 1 (some (3, 1))) 3 2 0 (some (4, 2))) 2 0 2 (some (3, 2))) 3 3 0 (some (4, 3))) 2 0 3 (some (3, 3))) 1 0 2 (some (5, 0))) 6 0 0 (some (7, 0))) 6 0 5 (some (8, 0))) 5 0 0 (some (6, 0))) 6 1 0 (some (7, 1))) 6 1 5 (some (8, 1))) 5 0 1 (some (6, 1))) 6 2 0 (some (7, 2))) 6 2 5 (some (8, 2))) 5 0 2 (some (6, 2))) 6 3 0 (some (7, 3))) 6 3 5 (some (8, 3))) 5 0 3 (some (6, 3))) 6 4 0 (some (7, 4))) 6 4 5 (some (8, 4))) 5 0 4 (some (6, 4))) 6 5 0 (some (7, 5))) 6 5 5 (some (8, 5))) 5 0 5 (some (6, 5))) 1 0 1 (some (9, 0))) 12 0 0 (some (13, 0))) 11 0 0 (some (12, 0))) 11 0 1 (some (14, 0))) 11 0 2 (some (15, 0))) 11 0 3 (some (16, 0))) 10 0 1 (some (11, 0))) 10 0 2 (some (17, 0))) 10 0 3 (some (18, 0)))) 10 0 5 (some (19, 0))) 10 0 0 (some (9, 0))) 1 0 3 (some (10, 0))) 22 0 0 (some (23, 0))) 22 0 1 (some (24, 0))) 22 0 2 (some (25, 0))) 22 0 3 (some (26, 0))) 21 0 1 (some (22, 0))) 21 0 2 (some (27, 0))) 21 0 0 (some (9, 0))) 29 0 0 (some (30, 0))) 28 0 0 (some (29, 0))) 28 0 2 (some (6, 0))) 27 0 0 (some (28, 0))) 29 1 0 (some (30, 1))) 28 1 0 (some (29, 1))) 28 1 2 (some (6, 1))) 27 0 1 (some (28, 1))) 29 2 0 (some (30, 2))) 28 2 0 (some (29, 2))) 28 2 2 (some (6, 2))) 27 0 2 (some (28, 2))) 29 3 0 (some (30, 3))) 28 3 0 (some (29, 3))) 28 3 2 (some (6, 3))) 27 0 3 (some (28, 3))) 29 4 0 (some (30, 4))) 28 4 0 (some (29, 4))) 28 4 2 (some (6, 4))) 27 0 4 (some (28, 4))) 29 5 0 (some (30, 5))) 28 5 0 (some (29, 5))) 28 5 2 (some (6, 5))) 27 0 5 (some (28, 5))) 1 0 4 (some (21, 0)))
set_option maxRecDepth 100000 in
set_option maxHeartbeats 4000000 in
theorem iX9_init_1_0 {w : aW} {I : aIF} {R : aRF} {Q : aQ} (hF : aFr 1 I R) (hq : aFr 72 (I_iX9_init_1_0 I) (R_iX9_init_1_0 R) → Q none 72 (I_iX9_init_1_0 I) (R_iX9_init_1_0 R)) : aMet w mX9_init [aO 1 0] 1 I R Q := by
  refine aMet_of nlX9_init.1 nlX9_init.2 (by decide) (fun hos => ?_)
  show aRun w mX9_init 0 [some (aO 1 0), none] [] 1 1 I R Q
  refine aAload_n (pc' := 1) dX9_init_0 rfl rfl ?_
  refine aObjInit (pc' := 4) dX9_init_1 loX9_1 insObj codObj (by decide) (by decide) rfl ?_
  refine aAload_n (pc' := 5) dX9_init_4 rfl rfl ?_
  refine aIconst (pc' := 6) ⟨by decide, by decide⟩ dX9_init_5 rfl ?_
  refine aAnew (pc' := 9) (k := 2) (i := 0) (t := 3) (C9 := RX3) dX9_init_6 ⟨by decide, by decide⟩ rfl kX9_9 ovrX3 rfl (by decide) (by decide) (by decide) (fun j => (hF 2 0 j (fun h => absurd h.2 (by decide))).2) (by decide) (by decide +kernel) (by decide +kernel) (by decide) rfl ?_
  have hF := aFr_mono hF
  refine aPutR (pc' := 12) (k := 1) (i := 0) (q := (2, 0)) dX9_init_9 fX9_11 rfl ⟨by decide, by decide, by decide, by decide, by decide, by decide, by decide, by decide⟩ rfl (Or.inr ⟨rfl, rfl⟩) ⟨by decide, by decide⟩ rfl ?_
  have hF := aFr_uR (j := 0) (v := some (2, 0)) hF (k := 1) (i := 0) ⟨by decide, by decide⟩
  refine aIconst (pc' := 13) ⟨by decide, by decide⟩ dX9_init_12 rfl ?_
  refine aIstore_n (pc' := 14) dX9_init_13 (by decide) rfl (L' := [some (aO 1 0), some (aI 0)]) rfl ?_
  refine aIload_n (pc' := 15) dX9_init_14 rfl rfl ?_
  refine aIconst (pc' := 16) ⟨by decide, by decide⟩ dX9_init_15 rfl ?_
  refine aIcmp_ge (tgt := 38) (pc' := 19) dX9_init_16 (by decide) rfl (fun h => absurd h (by decide)) (fun _ => ?_)
  refine aAload_n (pc' := 20) dX9_init_19 rfl rfl ?_
  refine aGetR (pc' := 23) (q := (2, 0)) dX9_init_20 fX9_11 rfl rfl ⟨by decide, by decide⟩ rfl rfl ?_
  refine aIload_n (pc' := 24) dX9_init_23 rfl rfl ?_
  refine aNew (pc' := 27) (k := 3) (i := 0) (c := 3) dX9_init_24 (by decide) rfl kX9_9 newX3 iniX3 (by decide) (by decide) (fun j => (hF 3 0 j (fun h => absurd h.2 (by decide))).1) (fun j => (hF 3 0 j (fun h => absurd h.2 (by decide))).2) (by decide) (by decide +kernel) (by decide +kernel) rfl ?_
  have hF := aFr_mono hF
  refine aDup (pc' := 28) rfl dX9_init_27 rfl ?_
  refine aCallN (As := []) (rest := [aO 3 0, aI 0, aO 2 0]) (k := 3) (i := 0) (pc' := 31) dX9_init_28 lX9_15 ⟨rfl, rfl⟩ ⟨by decide, by decide⟩ npX3_init (by decide) (by decide) (by decide +kernel) rfl ?_
  refine iX3_init_3_0 hF (fun hF => ?_)
  show aRun w mX9_init 31 [some (aO 1 0), some (aI 0)] [aO 3 0, aI 0, aO 2 0] 1 4 _ _ Q
  refine aAastore (pc' := 32) (k := 2) (i := 0) (t := 3) (j := 0) (k2 := 3) (i2 := 0) (c := 3) dX9_init_31 rfl ⟨by decide, by decide⟩ (by decide) rfl rfl ⟨by decide, by decide⟩ ⟨by decide, by decide⟩ rfl (by decide) rfl ?_
  have hF := aFr_uR (j := 0) (v := some (3, 0)) hF (k := 2) (i := 0) ⟨by decide, by decide⟩
  refine aIinc (pc' := 35) dX9_init_32 rfl (by decide) ⟨by decide, by decide⟩ (by decide) (by decide) rfl (L' := [some (aO 1 0), some (aI 1)]) rfl ?_
  refine aGoto (pc' := 14) dX9_init_35 (by decide) ?_
  refine aIload_n (pc' := 15) dX9_init_14 rfl rfl ?_
  refine aIconst (pc' := 16) ⟨by decide, by decide⟩ dX9_init_15 rfl ?_
  refine aIcmp_ge (tgt := 38) (pc' := 19) dX9_init_16 (by decide) rfl (fun h => absurd h (by decide)) (fun _ => ?_)
  refine aAload_n (pc' := 20) dX9_init_19 rfl rfl ?_
  refine aGetR (pc' := 23) (q := (2, 0)) dX9_init_20 fX9_11 rfl rfl ⟨by decide, by decide⟩ rfl rfl ?_
  refine aIload_n (pc' := 24) dX9_init_23 rfl rfl ?_
  refine aNew (pc' := 27) (k := 3) (i := 1) (c := 3) dX9_init_24 (by decide) rfl kX9_9 newX3 iniX3 (by decide) (by decide) (fun j => (hF 3 1 j (fun h => absurd h.2 (by decide))).1) (fun j => (hF 3 1 j (fun h => absurd h.2 (by decide))).2) (by decide) (by decide +kernel) (by decide +kernel) rfl ?_
  have hF := aFr_mono hF
  refine aDup (pc' := 28) rfl dX9_init_27 rfl ?_
  refine aCallN (As := []) (rest := [aO 3 1, aI 1, aO 2 0]) (k := 3) (i := 1) (pc' := 31) dX9_init_28 lX9_15 ⟨rfl, rfl⟩ ⟨by decide, by decide⟩ npX3_init (by decide) (by decide) (by decide +kernel) rfl ?_
  refine iX3_init_3_1 hF (fun hF => ?_)
  show aRun w mX9_init 31 [some (aO 1 0), some (aI 1)] [aO 3 1, aI 1, aO 2 0] 1 6 _ _ Q
  refine aAastore (pc' := 32) (k := 2) (i := 0) (t := 3) (j := 1) (k2 := 3) (i2 := 1) (c := 3) dX9_init_31 rfl ⟨by decide, by decide⟩ (by decide) rfl rfl ⟨by decide, by decide⟩ ⟨by decide, by decide⟩ rfl (by decide) rfl ?_
  have hF := aFr_uR (j := 1) (v := some (3, 1)) hF (k := 2) (i := 0) ⟨by decide, by decide⟩
  refine aIinc (pc' := 35) dX9_init_32 rfl (by decide) ⟨by decide, by decide⟩ (by decide) (by decide) rfl (L' := [some (aO 1 0), some (aI 2)]) rfl ?_
  refine aGoto (pc' := 14) dX9_init_35 (by decide) ?_
  refine aIload_n (pc' := 15) dX9_init_14 rfl rfl ?_
  refine aIconst (pc' := 16) ⟨by decide, by decide⟩ dX9_init_15 rfl ?_
  refine aIcmp_ge (tgt := 38) (pc' := 19) dX9_init_16 (by decide) rfl (fun h => absurd h (by decide)) (fun _ => ?_)
  refine aAload_n (pc' := 20) dX9_init_19 rfl rfl ?_
  refine aGetR (pc' := 23) (q := (2, 0)) dX9_init_20 fX9_11 rfl rfl ⟨by decide, by decide⟩ rfl rfl ?_
  refine aIload_n (pc' := 24) dX9_init_23 rfl rfl ?_
  refine aNew (pc' := 27) (k := 3) (i := 2) (c := 3) dX9_init_24 (by decide) rfl kX9_9 newX3 iniX3 (by decide) (by decide) (fun j => (hF 3 2 j (fun h => absurd h.2 (by decide))).1) (fun j => (hF 3 2 j (fun h => absurd h.2 (by decide))).2) (by decide) (by decide +kernel) (by decide +kernel) rfl ?_
  have hF := aFr_mono hF
  refine aDup (pc' := 28) rfl dX9_init_27 rfl ?_
  refine aCallN (As := []) (rest := [aO 3 2, aI 2, aO 2 0]) (k := 3) (i := 2) (pc' := 31) dX9_init_28 lX9_15 ⟨rfl, rfl⟩ ⟨by decide, by decide⟩ npX3_init (by decide) (by decide) (by decide +kernel) rfl ?_
  refine iX3_init_3_2 hF (fun hF => ?_)
  show aRun w mX9_init 31 [some (aO 1 0), some (aI 2)] [aO 3 2, aI 2, aO 2 0] 1 8 _ _ Q
  refine aAastore (pc' := 32) (k := 2) (i := 0) (t := 3) (j := 2) (k2 := 3) (i2 := 2) (c := 3) dX9_init_31 rfl ⟨by decide, by decide⟩ (by decide) rfl rfl ⟨by decide, by decide⟩ ⟨by decide, by decide⟩ rfl (by decide) rfl ?_
  have hF := aFr_uR (j := 2) (v := some (3, 2)) hF (k := 2) (i := 0) ⟨by decide, by decide⟩
  refine aIinc (pc' := 35) dX9_init_32 rfl (by decide) ⟨by decide, by decide⟩ (by decide) (by decide) rfl (L' := [some (aO 1 0), some (aI 3)]) rfl ?_
  refine aGoto (pc' := 14) dX9_init_35 (by decide) ?_
  refine aIload_n (pc' := 15) dX9_init_14 rfl rfl ?_
  refine aIconst (pc' := 16) ⟨by decide, by decide⟩ dX9_init_15 rfl ?_
  refine aIcmp_ge (tgt := 38) (pc' := 19) dX9_init_16 (by decide) rfl (fun h => absurd h (by decide)) (fun _ => ?_)
  refine aAload_n (pc' := 20) dX9_init_19 rfl rfl ?_
  refine aGetR (pc' := 23) (q := (2, 0)) dX9_init_20 fX9_11 rfl rfl ⟨by decide, by decide⟩ rfl rfl ?_
  refine aIload_n (pc' := 24) dX9_init_23 rfl rfl ?_
  refine aNew (pc' := 27) (k := 3) (i := 3) (c := 3) dX9_init_24 (by decide) rfl kX9_9 newX3 iniX3 (by decide) (by decide) (fun j => (hF 3 3 j (fun h => absurd h.2 (by decide))).1) (fun j => (hF 3 3 j (fun h => absurd h.2 (by decide))).2) (by decide) (by decide +kernel) (by decide +kernel) rfl ?_
  have hF := aFr_mono hF
  refine aDup (pc' := 28) rfl dX9_init_27 rfl ?_
  refine aCallN (As := []) (rest := [aO 3 3, aI 3, aO 2 0]) (k := 3) (i := 3) (pc' := 31) dX9_init_28 lX9_15 ⟨rfl, rfl⟩ ⟨by decide, by decide⟩ npX3_init (by decide) (by decide) (by decide +kernel) rfl ?_
  refine iX3_init_3_3 hF (fun hF => ?_)
  show aRun w mX9_init 31 [some (aO 1 0), some (aI 3)] [aO 3 3, aI 3, aO 2 0] 1 10 _ _ Q
  refine aAastore (pc' := 32) (k := 2) (i := 0) (t := 3) (j := 3) (k2 := 3) (i2 := 3) (c := 3) dX9_init_31 rfl ⟨by decide, by decide⟩ (by decide) rfl rfl ⟨by decide, by decide⟩ ⟨by decide, by decide⟩ rfl (by decide) rfl ?_
  have hF := aFr_uR (j := 3) (v := some (3, 3)) hF (k := 2) (i := 0) ⟨by decide, by decide⟩
  refine aIinc (pc' := 35) dX9_init_32 rfl (by decide) ⟨by decide, by decide⟩ (by decide) (by decide) rfl (L' := [some (aO 1 0), some (aI 4)]) rfl ?_
  refine aGoto (pc' := 14) dX9_init_35 (by decide) ?_
  refine aIload_n (pc' := 15) dX9_init_14 rfl rfl ?_
  refine aIconst (pc' := 16) ⟨by decide, by decide⟩ dX9_init_15 rfl ?_
  refine aIcmp_ge (tgt := 38) (pc' := 19) dX9_init_16 (by decide) rfl (fun _ => ?_) (fun h => absurd (by decide) h)
  refine aAload_n (pc' := 39) dX9_init_38 rfl rfl ?_
  refine aBipush (pc' := 41) ⟨by decide, by decide⟩ dX9_init_39 rfl ?_
  refine aAnew (pc' := 44) (k := 5) (i := 0) (t := 4) (C9 := RX1) dX9_init_41 ⟨by decide, by decide⟩ rfl kX9_16 ovrX1 rfl (by decide) (by decide) (by decide) (fun j => (hF 5 0 j (fun h => absurd h.2 (by decide))).2) (by decide) (by decide +kernel) (by decide +kernel) (by decide) rfl ?_
  have hF := aFr_mono hF
  refine aPutR (pc' := 47) (k := 1) (i := 0) (q := (5, 0)) dX9_init_44 fX9_18 rfl ⟨by decide, by decide, by decide, by decide, by decide, by decide, by decide, by decide⟩ rfl (Or.inr ⟨rfl, rfl⟩) ⟨by decide, by decide⟩ rfl ?_
  have hF := aFr_uR (j := 2) (v := some (5, 0)) hF (k := 1) (i := 0) ⟨by decide, by decide⟩
  refine aIconst (pc' := 48) ⟨by decide, by decide⟩ dX9_init_47 rfl ?_
  refine aIstore_n (pc' := 49) dX9_init_48 (by decide) rfl (L' := [some (aO 1 0), some (aI 0)]) rfl ?_
  refine aIload_n (pc' := 50) dX9_init_49 rfl rfl ?_
  refine aBipush (pc' := 52) ⟨by decide, by decide⟩ dX9_init_50 rfl ?_
  refine aIcmp_ge (tgt := 74) (pc' := 55) dX9_init_52 (by decide) rfl (fun h => absurd h (by decide)) (fun _ => ?_)
  refine aAload_n (pc' := 56) dX9_init_55 rfl rfl ?_
  refine aGetR (pc' := 59) (q := (5, 0)) dX9_init_56 fX9_18 rfl rfl ⟨by decide, by decide⟩ rfl rfl ?_
  refine aIload_n (pc' := 60) dX9_init_59 rfl rfl ?_
  refine aNew (pc' := 63) (k := 6) (i := 0) (c := 1) dX9_init_60 (by decide) rfl kX9_16 newX1 iniX1 (by decide) (by decide) (fun j => (hF 6 0 j (fun h => absurd h.2 (by decide))).1) (fun j => (hF 6 0 j (fun h => absurd h.2 (by decide))).2) (by decide) (by decide +kernel) (by decide +kernel) rfl ?_
  have hF := aFr_mono hF
  refine aDup (pc' := 64) rfl dX9_init_63 rfl ?_
  refine aCallN (As := []) (rest := [aO 6 0, aI 0, aO 5 0]) (k := 6) (i := 0) (pc' := 67) dX9_init_64 lX9_22 ⟨rfl, rfl⟩ ⟨by decide, by decide⟩ npX1_init (by decide) (by decide) (by decide +kernel) rfl ?_
  refine iX1_init_6_0 hF (fun hF => ?_)
  show aRun w mX9_init 67 [some (aO 1 0), some (aI 0)] [aO 6 0, aI 0, aO 5 0] 1 14 _ _ Q
  refine aAastore (pc' := 68) (k := 5) (i := 0) (t := 4) (j := 0) (k2 := 6) (i2 := 0) (c := 1) dX9_init_67 rfl ⟨by decide, by decide⟩ (by decide) rfl rfl ⟨by decide, by decide⟩ ⟨by decide, by decide⟩ rfl (by decide) rfl ?_
  have hF := aFr_uR (j := 0) (v := some (6, 0)) hF (k := 5) (i := 0) ⟨by decide, by decide⟩
  refine aIinc (pc' := 71) dX9_init_68 rfl (by decide) ⟨by decide, by decide⟩ (by decide) (by decide) rfl (L' := [some (aO 1 0), some (aI 1)]) rfl ?_
  refine aGoto (pc' := 49) dX9_init_71 (by decide) ?_
  refine aIload_n (pc' := 50) dX9_init_49 rfl rfl ?_
  refine aBipush (pc' := 52) ⟨by decide, by decide⟩ dX9_init_50 rfl ?_
  refine aIcmp_ge (tgt := 74) (pc' := 55) dX9_init_52 (by decide) rfl (fun h => absurd h (by decide)) (fun _ => ?_)
  refine aAload_n (pc' := 56) dX9_init_55 rfl rfl ?_
  refine aGetR (pc' := 59) (q := (5, 0)) dX9_init_56 fX9_18 rfl rfl ⟨by decide, by decide⟩ rfl rfl ?_
  refine aIload_n (pc' := 60) dX9_init_59 rfl rfl ?_
  refine aNew (pc' := 63) (k := 6) (i := 1) (c := 1) dX9_init_60 (by decide) rfl kX9_16 newX1 iniX1 (by decide) (by decide) (fun j => (hF 6 1 j (fun h => absurd h.2 (by decide))).1) (fun j => (hF 6 1 j (fun h => absurd h.2 (by decide))).2) (by decide) (by decide +kernel) (by decide +kernel) rfl ?_
  have hF := aFr_mono hF
  refine aDup (pc' := 64) rfl dX9_init_63 rfl ?_
  refine aCallN (As := []) (rest := [aO 6 1, aI 1, aO 5 0]) (k := 6) (i := 1) (pc' := 67) dX9_init_64 lX9_22 ⟨rfl, rfl⟩ ⟨by decide, by decide⟩ npX1_init (by decide) (by decide) (by decide +kernel) rfl ?_
  refine iX1_init_6_1 hF (fun hF => ?_)
  show aRun w mX9_init 67 [some (aO 1 0), some (aI 1)] [aO 6 1, aI 1, aO 5 0] 1 17 _ _ Q
  refine aAastore (pc' := 68) (k := 5) (i := 0) (t := 4) (j := 1) (k2 := 6) (i2 := 1) (c := 1) dX9_init_67 rfl ⟨by decide, by decide⟩ (by decide) rfl rfl ⟨by decide, by decide⟩ ⟨by decide, by decide⟩ rfl (by decide) rfl ?_
  have hF := aFr_uR (j := 1) (v := some (6, 1)) hF (k := 5) (i := 0) ⟨by decide, by decide⟩
  refine aIinc (pc' := 71) dX9_init_68 rfl (by decide) ⟨by decide, by decide⟩ (by decide) (by decide) rfl (L' := [some (aO 1 0), some (aI 2)]) rfl ?_
  refine aGoto (pc' := 49) dX9_init_71 (by decide) ?_
  refine aIload_n (pc' := 50) dX9_init_49 rfl rfl ?_
  refine aBipush (pc' := 52) ⟨by decide, by decide⟩ dX9_init_50 rfl ?_
  refine aIcmp_ge (tgt := 74) (pc' := 55) dX9_init_52 (by decide) rfl (fun h => absurd h (by decide)) (fun _ => ?_)
  refine aAload_n (pc' := 56) dX9_init_55 rfl rfl ?_
  refine aGetR (pc' := 59) (q := (5, 0)) dX9_init_56 fX9_18 rfl rfl ⟨by decide, by decide⟩ rfl rfl ?_
  refine aIload_n (pc' := 60) dX9_init_59 rfl rfl ?_
  refine aNew (pc' := 63) (k := 6) (i := 2) (c := 1) dX9_init_60 (by decide) rfl kX9_16 newX1 iniX1 (by decide) (by decide) (fun j => (hF 6 2 j (fun h => absurd h.2 (by decide))).1) (fun j => (hF 6 2 j (fun h => absurd h.2 (by decide))).2) (by decide) (by decide +kernel) (by decide +kernel) rfl ?_
  have hF := aFr_mono hF
  refine aDup (pc' := 64) rfl dX9_init_63 rfl ?_
  refine aCallN (As := []) (rest := [aO 6 2, aI 2, aO 5 0]) (k := 6) (i := 2) (pc' := 67) dX9_init_64 lX9_22 ⟨rfl, rfl⟩ ⟨by decide, by decide⟩ npX1_init (by decide) (by decide) (by decide +kernel) rfl ?_
  refine iX1_init_6_2 hF (fun hF => ?_)
  show aRun w mX9_init 67 [some (aO 1 0), some (aI 2)] [aO 6 2, aI 2, aO 5 0] 1 20 _ _ Q
  refine aAastore (pc' := 68) (k := 5) (i := 0) (t := 4) (j := 2) (k2 := 6) (i2 := 2) (c := 1) dX9_init_67 rfl ⟨by decide, by decide⟩ (by decide) rfl rfl ⟨by decide, by decide⟩ ⟨by decide, by decide⟩ rfl (by decide) rfl ?_
  have hF := aFr_uR (j := 2) (v := some (6, 2)) hF (k := 5) (i := 0) ⟨by decide, by decide⟩
  refine aIinc (pc' := 71) dX9_init_68 rfl (by decide) ⟨by decide, by decide⟩ (by decide) (by decide) rfl (L' := [some (aO 1 0), some (aI 3)]) rfl ?_
  refine aGoto (pc' := 49) dX9_init_71 (by decide) ?_
  refine aIload_n (pc' := 50) dX9_init_49 rfl rfl ?_
  refine aBipush (pc' := 52) ⟨by decide, by decide⟩ dX9_init_50 rfl ?_
  refine aIcmp_ge (tgt := 74) (pc' := 55) dX9_init_52 (by decide) rfl (fun h => absurd h (by decide)) (fun _ => ?_)
  refine aAload_n (pc' := 56) dX9_init_55 rfl rfl ?_
  refine aGetR (pc' := 59) (q := (5, 0)) dX9_init_56 fX9_18 rfl rfl ⟨by decide, by decide⟩ rfl rfl ?_
  refine aIload_n (pc' := 60) dX9_init_59 rfl rfl ?_
  refine aNew (pc' := 63) (k := 6) (i := 3) (c := 1) dX9_init_60 (by decide) rfl kX9_16 newX1 iniX1 (by decide) (by decide) (fun j => (hF 6 3 j (fun h => absurd h.2 (by decide))).1) (fun j => (hF 6 3 j (fun h => absurd h.2 (by decide))).2) (by decide) (by decide +kernel) (by decide +kernel) rfl ?_
  have hF := aFr_mono hF
  refine aDup (pc' := 64) rfl dX9_init_63 rfl ?_
  refine aCallN (As := []) (rest := [aO 6 3, aI 3, aO 5 0]) (k := 6) (i := 3) (pc' := 67) dX9_init_64 lX9_22 ⟨rfl, rfl⟩ ⟨by decide, by decide⟩ npX1_init (by decide) (by decide) (by decide +kernel) rfl ?_
  refine iX1_init_6_3 hF (fun hF => ?_)
  show aRun w mX9_init 67 [some (aO 1 0), some (aI 3)] [aO 6 3, aI 3, aO 5 0] 1 23 _ _ Q
  refine aAastore (pc' := 68) (k := 5) (i := 0) (t := 4) (j := 3) (k2 := 6) (i2 := 3) (c := 1) dX9_init_67 rfl ⟨by decide, by decide⟩ (by decide) rfl rfl ⟨by decide, by decide⟩ ⟨by decide, by decide⟩ rfl (by decide) rfl ?_
  have hF := aFr_uR (j := 3) (v := some (6, 3)) hF (k := 5) (i := 0) ⟨by decide, by decide⟩
  refine aIinc (pc' := 71) dX9_init_68 rfl (by decide) ⟨by decide, by decide⟩ (by decide) (by decide) rfl (L' := [some (aO 1 0), some (aI 4)]) rfl ?_
  refine aGoto (pc' := 49) dX9_init_71 (by decide) ?_
  refine aIload_n (pc' := 50) dX9_init_49 rfl rfl ?_
  refine aBipush (pc' := 52) ⟨by decide, by decide⟩ dX9_init_50 rfl ?_
  refine aIcmp_ge (tgt := 74) (pc' := 55) dX9_init_52 (by decide) rfl (fun h => absurd h (by decide)) (fun _ => ?_)
  refine aAload_n (pc' := 56) dX9_init_55 rfl rfl ?_
  refine aGetR (pc' := 59) (q := (5, 0)) dX9_init_56 fX9_18 rfl rfl ⟨by decide, by decide⟩ rfl rfl ?_
  refine aIload_n (pc' := 60) dX9_init_59 rfl rfl ?_
  refine aNew (pc' := 63) (k := 6) (i := 4) (c := 1) dX9_init_60 (by decide) rfl kX9_16 newX1 iniX1 (by decide) (by decide) (fun j => (hF 6 4 j (fun h => absurd h.2 (by decide))).1) (fun j => (hF 6 4 j (fun h => absurd h.2 (by decide))).2) (by decide) (by decide +kernel) (by decide +kernel) rfl ?_
  have hF := aFr_mono hF
  refine aDup (pc' := 64) rfl dX9_init_63 rfl ?_
  refine aCallN (As := []) (rest := [aO 6 4, aI 4, aO 5 0]) (k := 6) (i := 4) (pc' := 67) dX9_init_64 lX9_22 ⟨rfl, rfl⟩ ⟨by decide, by decide⟩ npX1_init (by decide) (by decide) (by decide +kernel) rfl ?_
  refine iX1_init_6_4 hF (fun hF => ?_)
  show aRun w mX9_init 67 [some (aO 1 0), some (aI 4)] [aO 6 4, aI 4, aO 5 0] 1 26 _ _ Q
  refine aAastore (pc' := 68) (k := 5) (i := 0) (t := 4) (j := 4) (k2 := 6) (i2 := 4) (c := 1) dX9_init_67 rfl ⟨by decide, by decide⟩ (by decide) rfl rfl ⟨by decide, by decide⟩ ⟨by decide, by decide⟩ rfl (by decide) rfl ?_
  have hF := aFr_uR (j := 4) (v := some (6, 4)) hF (k := 5) (i := 0) ⟨by decide, by decide⟩
  refine aIinc (pc' := 71) dX9_init_68 rfl (by decide) ⟨by decide, by decide⟩ (by decide) (by decide) rfl (L' := [some (aO 1 0), some (aI 5)]) rfl ?_
  refine aGoto (pc' := 49) dX9_init_71 (by decide) ?_
  refine aIload_n (pc' := 50) dX9_init_49 rfl rfl ?_
  refine aBipush (pc' := 52) ⟨by decide, by decide⟩ dX9_init_50 rfl ?_
  refine aIcmp_ge (tgt := 74) (pc' := 55) dX9_init_52 (by decide) rfl (fun h => absurd h (by decide)) (fun _ => ?_)
  refine aAload_n (pc' := 56) dX9_init_55 rfl rfl ?_
  refine aGetR (pc' := 59) (q := (5, 0)) dX9_init_56 fX9_18 rfl rfl ⟨by decide, by decide⟩ rfl rfl ?_
  refine aIload_n (pc' := 60) dX9_init_59 rfl rfl ?_
  refine aNew (pc' := 63) (k := 6) (i := 5) (c := 1) dX9_init_60 (by decide) rfl kX9_16 newX1 iniX1 (by decide) (by decide) (fun j => (hF 6 5 j (fun h => absurd h.2 (by decide))).1) (fun j => (hF 6 5 j (fun h => absurd h.2 (by decide))).2) (by decide) (by decide +kernel) (by decide +kernel) rfl ?_
  have hF := aFr_mono hF
  refine aDup (pc' := 64) rfl dX9_init_63 rfl ?_
  refine aCallN (As := []) (rest := [aO 6 5, aI 5, aO 5 0]) (k := 6) (i := 5) (pc' := 67) dX9_init_64 lX9_22 ⟨rfl, rfl⟩ ⟨by decide, by decide⟩ npX1_init (by decide) (by decide) (by decide +kernel) rfl ?_
  refine iX1_init_6_5 hF (fun hF => ?_)
  show aRun w mX9_init 67 [some (aO 1 0), some (aI 5)] [aO 6 5, aI 5, aO 5 0] 1 29 _ _ Q
  refine aAastore (pc' := 68) (k := 5) (i := 0) (t := 4) (j := 5) (k2 := 6) (i2 := 5) (c := 1) dX9_init_67 rfl ⟨by decide, by decide⟩ (by decide) rfl rfl ⟨by decide, by decide⟩ ⟨by decide, by decide⟩ rfl (by decide) rfl ?_
  have hF := aFr_uR (j := 5) (v := some (6, 5)) hF (k := 5) (i := 0) ⟨by decide, by decide⟩
  refine aIinc (pc' := 71) dX9_init_68 rfl (by decide) ⟨by decide, by decide⟩ (by decide) (by decide) rfl (L' := [some (aO 1 0), some (aI 6)]) rfl ?_
  refine aGoto (pc' := 49) dX9_init_71 (by decide) ?_
  refine aIload_n (pc' := 50) dX9_init_49 rfl rfl ?_
  refine aBipush (pc' := 52) ⟨by decide, by decide⟩ dX9_init_50 rfl ?_
  refine aIcmp_ge (tgt := 74) (pc' := 55) dX9_init_52 (by decide) rfl (fun _ => ?_) (fun h => absurd (by decide) h)
  refine aAload_n (pc' := 75) dX9_init_74 rfl rfl ?_
  refine aNew (pc' := 78) (k := 9) (i := 0) (c := 5) dX9_init_75 (by decide) rfl kX9_23 newX5 iniX5 (by decide) (by decide) (fun j => (hF 9 0 j (fun h => absurd h.2 (by decide))).1) (fun j => (hF 9 0 j (fun h => absurd h.2 (by decide))).2) (by decide) (by decide +kernel) (by decide +kernel) rfl ?_
  have hF := aFr_mono hF
  refine aDup (pc' := 79) rfl dX9_init_78 rfl ?_
  refine aCallN (As := []) (rest := [aO 9 0, aO 1 0]) (k := 9) (i := 0) (pc' := 82) dX9_init_79 lX9_25 ⟨rfl, rfl⟩ ⟨by decide, by decide⟩ npX5_init (by decide) (by decide) (by decide +kernel) rfl ?_
  refine iX5_init_9_0 hF (fun hF => ?_)
  show aRun w mX9_init 82 [some (aO 1 0), some (aI 6)] [aO 9 0, aO 1 0] 1 30 _ _ Q
  refine aPutR (pc' := 85) (k := 1) (i := 0) (q := (9, 0)) dX9_init_82 fX9_26 rfl ⟨by decide, by decide, by decide, by decide, by decide, by decide, by decide, by decide⟩ rfl (Or.inr ⟨rfl, rfl⟩) ⟨by decide, by decide⟩ rfl ?_
  have hF := aFr_uR (j := 1) (v := some (9, 0)) hF (k := 1) (i := 0) ⟨by decide, by decide⟩
  refine aAload_n (pc' := 86) dX9_init_85 rfl rfl ?_
  refine aNew (pc' := 89) (k := 10) (i := 0) (c := 0) dX9_init_86 (by decide) rfl kX9_30 newX0 iniX0 (by decide) (by decide) (fun j => (hF 10 0 j (fun h => absurd h.2 (by decide))).1) (fun j => (hF 10 0 j (fun h => absurd h.2 (by decide))).2) (by decide) (by decide +kernel) (by decide +kernel) rfl ?_
  have hF := aFr_mono hF
  refine aDup (pc' := 90) rfl dX9_init_89 rfl ?_
  refine aAload_n (pc' := 91) dX9_init_90 rfl rfl ?_
  refine aGetR (pc' := 94) (q := (9, 0)) dX9_init_91 fX9_26 rfl rfl ⟨by decide, by decide⟩ rfl rfl ?_
  refine aCallI (As := [aO 9 0]) (rest := [aO 10 0, aO 1 0]) (k := 10) (i := 0) (pc' := 97) dX9_init_94 lX9_32 ⟨rfl, rfl⟩ ⟨by decide, by decide⟩ npX0_init (by decide) (by decide) (by decide +kernel) rfl ?_
  refine iX0_init_10_0 hF (fun hF => ?_)
  show aRun w mX9_init 97 [some (aO 1 0), some (aI 6)] [aO 10 0, aO 1 0] 1 47 _ _ Q
  refine aPutR (pc' := 100) (k := 1) (i := 0) (q := (10, 0)) dX9_init_97 fX9_35 rfl ⟨by decide, by decide, by decide, by decide, by decide, by decide, by decide, by decide⟩ rfl (Or.inr ⟨rfl, rfl⟩) ⟨by decide, by decide⟩ rfl ?_
  have hF := aFr_uR (j := 3) (v := some (10, 0)) hF (k := 1) (i := 0) ⟨by decide, by decide⟩
  refine aAload_n (pc' := 101) dX9_init_100 rfl rfl ?_
  refine aNew (pc' := 104) (k := 21) (i := 0) (c := 7) dX9_init_101 (by decide) rfl kX9_39 newX7 iniX7 (by decide) (by decide) (fun j => (hF 21 0 j (fun h => absurd h.2 (by decide))).1) (fun j => (hF 21 0 j (fun h => absurd h.2 (by decide))).2) (by decide) (by decide +kernel) (by decide +kernel) rfl ?_
  have hF := aFr_mono hF
  refine aDup (pc' := 105) rfl dX9_init_104 rfl ?_
  refine aAload_n (pc' := 106) dX9_init_105 rfl rfl ?_
  refine aGetR (pc' := 109) (q := (9, 0)) dX9_init_106 fX9_26 rfl rfl ⟨by decide, by decide⟩ rfl rfl ?_
  refine aAload_n (pc' := 110) dX9_init_109 rfl rfl ?_
  refine aGetR (pc' := 113) (q := (5, 0)) dX9_init_110 fX9_18 rfl rfl ⟨by decide, by decide⟩ rfl rfl ?_
  refine aCallI (As := [aO 9 0, aO 5 0]) (rest := [aO 21 0, aO 1 0]) (k := 21) (i := 0) (pc' := 116) dX9_init_113 lX9_41 ⟨rfl, rfl⟩ ⟨by decide, by decide⟩ npX7_init (by decide) (by decide) (by decide +kernel) rfl ?_
  refine iX7_init_21_0 hF rfl rfl rfl rfl rfl rfl (fun hF => ?_)
  show aRun w mX9_init 116 [some (aO 1 0), some (aI 6)] [aO 21 0, aO 1 0] 1 72 _ _ Q
  refine aPutR (pc' := 119) (k := 1) (i := 0) (q := (21, 0)) dX9_init_116 fX9_44 rfl ⟨by decide, by decide, by decide, by decide, by decide, by decide, by decide, by decide⟩ rfl (Or.inr ⟨rfl, rfl⟩) ⟨by decide, by decide⟩ rfl ?_
  have hF := aFr_uR (j := 4) (v := some (21, 0)) hF (k := 1) (i := 0) ⟨by decide, by decide⟩
  exact aVret dX9_init_119 nlX9_init.2 rfl (by decide) (by decide +kernel) (hq hF)
