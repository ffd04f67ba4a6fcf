/-! the component's memory C and the reference's S, side by side -/
abbrev aS : Type := Nat → Nat → Int
def sU (S : aS) (f j : Nat) (v : Int) : aS := fun a b => if a = f ∧ b = j then v else S a b
/-- the reference's fields that are no arrays -/
def scal (f : Nat) : Bool := [0, 5, 6, 7, 8, 9, 10, 17, 22, 23, 24, 25, 26, 27].contains f
def mem (C : aIF) (S : aS) : aIF := fun k i j =>
  if k < 40 then C k i j else if i = 0 then (if k = 40 then (if scal j = true then S j 0 else 0) else (if scal (k - 40) = true then 0 else S (k - 40) j)) else 0
theorem mK {C : aIF} {S : aS} {k i j : Nat} {v : Int} (h : Nat.blt k 40 = true) : mem (uI C k i j v) S = uI (mem C S) k i j v := by
  have hk : k < 40 := by
    have : k ≤ 39 := by simpa [Nat.blt] using h
    omega
  funext a b c
  by_cases e : a = k ∧ b = i ∧ c = j
  · obtain ⟨rfl, rfl, rfl⟩ := e
    simp [mem, uI, hk]
  · by_cases ha : a < 40
    · simp [mem, uI, ha, e]
    · simp [mem, uI, ha, e]
theorem mA {C : aIF} {S : aS} {k f j : Nat} {v : Int} (hk : k = 40 + f) (h1 : Nat.ble 1 f = true) (h : scal f = false) : mem C (sU S f j v) = uI (mem C S) k 0 j v := by
  have h1 : 1 ≤ f := Nat.le_of_ble_eq_true h1
  subst hk
  funext a b c
  by_cases ha : a < 40
  · have : ¬ (a = 40 + f ∧ b = 0 ∧ c = j) := by omega
    simp [mem, uI, ha, this]
  · by_cases hb : b = 0
    · subst hb
      by_cases h40 : a = 40
      · subst h40
        have : ¬ (40 = 40 + f ∧ 0 = 0 ∧ c = j) := by omega
        have e2 : ¬ (c = f ∧ scal c = true) := fun z => by rw [z.1, h] at z; exact absurd z.2 (by simp)
        by_cases hs : scal c = true
        · have e3 : c ≠ f := fun z => e2 ⟨z, hs⟩
          simp [mem, uI, sU, hs, e3]
          omega
        · simp [mem, uI, hs]
          omega
      · by_cases e : a = 40 + f
        · subst e
          by_cases ec : c = j
          · subst ec
            simp [mem, uI, sU, h]
            omega
          · simp [mem, uI, sU, h, ec, show f ≠ 0 by omega]
        · have e2 : a - 40 ≠ f := by omega
          simp [mem, uI, sU, ha, h40, e, e2]
    · simp [mem, uI, ha, hb]
theorem mS {C : aIF} {S : aS} {f : Nat} {v : Int} (h : scal f = true) : mem C (sU S f 0 v) = uI (mem C S) 40 0 f v := by
  funext a b c
  by_cases ha : a < 40
  · have : ¬ (a = 40 ∧ b = 0 ∧ c = f) := by omega
    simp [mem, uI, ha, this]
  · by_cases hb : b = 0
    · subst hb
      by_cases h40 : a = 40
      · subst h40
        by_cases ec : c = f
        · subst ec
          simp [mem, uI, sU, h]
        · simp [mem, uI, sU, ec]
      · have h41 : ¬ (a = 40 ∧ 0 = 0 ∧ c = f) := fun z => h40 z.1
        by_cases hs : scal (a - 40) = true
        · simp [mem, uI, ha, h40, hs]
        · have e2 : a - 40 ≠ f := fun z => hs (by rw [z]; exact h)
          simp [mem, uI, sU, ha, h40, hs, e2]
    · have : ¬ (a = 40 ∧ b = 0 ∧ c = f) := fun z => hb z.2.1
      simp [mem, uI, ha, hb]
theorem sU_s {S : aS} {f j : Nat} {v : Int} : sU S f j v f j = v := if_pos ⟨rfl, rfl⟩
theorem sU_f {S : aS} {f j f2 j2 : Nat} {v : Int} (h : Nat.beq f2 f = false) : sU S f j v f2 j2 = S f2 j2 := if_neg (fun z => by have := z.1; subst this; rw [Nat.beq_refl] at h; cases h)
theorem sU_j {S : aS} {f j f2 j2 : Nat} {v : Int} (h : Nat.beq j2 j = false) : sU S f j v f2 j2 = S f2 j2 := if_neg (fun z => by have := z.2; subst this; rw [Nat.beq_refl] at h; cases h)
/-! the component's judgements (k) and the reference's (r) -/
def kqI (R : aRF) (S : aS) (P : Int → aIF → Prop) : cQ := cqI R (fun x I => ∃ C, I = mem C S ∧ P x C)
def kqL (R : aRF) (S : aS) (P : Int → aIF → Prop) : cQ := cqL R (fun x I => ∃ C, I = mem C S ∧ P x C)
def kqV (R : aRF) (S : aS) (P : aIF → Prop) : cQ := cqV R (fun I => ∃ C, I = mem C S ∧ P C)
def rqI (R : aRF) (C : aIF) (P : Int → aS → Prop) : cQ := cqI R (fun x I => ∃ S, I = mem C S ∧ P x S)
def rqL (R : aRF) (C : aIF) (P : Int → aS → Prop) : cQ := cqL R (fun x I => ∃ S, I = mem C S ∧ P x S)
def rqV (R : aRF) (C : aIF) (P : aS → Prop) : cQ := cqV R (fun I => ∃ S, I = mem C S ∧ P S)
def kMetI (w : aW) (M : aM) (As : List aV) (C : aIF) (S : aS) (R : aRF) (P : Int → aIF → Prop) : Prop := cMet w M As (mem C S) R (kqI R S P)
def kMetL (w : aW) (M : aM) (As : List aV) (C : aIF) (S : aS) (R : aRF) (P : Int → aIF → Prop) : Prop := cMet w M As (mem C S) R (kqL R S P)
def kMetV (w : aW) (M : aM) (As : List aV) (C : aIF) (S : aS) (R : aRF) (P : aIF → Prop) : Prop := cMet w M As (mem C S) R (kqV R S P)
def rMetI (w : aW) (M : aM) (As : List aV) (C : aIF) (S : aS) (R : aRF) (P : Int → aS → Prop) : Prop := cMet w M As (mem C S) R (rqI R C P)
def rMetL (w : aW) (M : aM) (As : List aV) (C : aIF) (S : aS) (R : aRF) (P : Int → aS → Prop) : Prop := cMet w M As (mem C S) R (rqL R C P)
def rMetV (w : aW) (M : aM) (As : List aV) (C : aIF) (S : aS) (R : aRF) (P : aS → Prop) : Prop := cMet w M As (mem C S) R (rqV R C P)
theorem kMetI_mono {w : aW} {M : aM} {As : List aV} {C : aIF} {S : aS} {R : aRF} {P P2 : Int → aIF → Prop} (h : kMetI w M As C S R P) (hq : ∀ x C', P x C' → P2 x C') : kMetI w M As C S R P2 := cMetI_mono h (fun x I' q => by obtain ⟨C', e, q⟩ := q; exact ⟨C', e, hq _ _ q⟩)
theorem kMetL_mono {w : aW} {M : aM} {As : List aV} {C : aIF} {S : aS} {R : aRF} {P P2 : Int → aIF → Prop} (h : kMetL w M As C S R P) (hq : ∀ x C', P x C' → P2 x C') : kMetL w M As C S R P2 := cMetL_mono h (fun x I' q => by obtain ⟨C', e, q⟩ := q; exact ⟨C', e, hq _ _ q⟩)
theorem kMetV_mono {w : aW} {M : aM} {As : List aV} {C : aIF} {S : aS} {R : aRF} {P P2 : aIF → Prop} (h : kMetV w M As C S R P) (hq : ∀ C', P C' → P2 C') : kMetV w M As C S R P2 := cMetV_mono h (fun I' q => by obtain ⟨C', e, q⟩ := q; exact ⟨C', e, hq _ q⟩)
theorem rMetI_mono {w : aW} {M : aM} {As : List aV} {C : aIF} {S : aS} {R : aRF} {P P2 : Int → aS → Prop} (h : rMetI w M As C S R P) (hq : ∀ x S', P x S' → P2 x S') : rMetI w M As C S R P2 := cMetI_mono h (fun x I' q => by obtain ⟨C', e, q⟩ := q; exact ⟨C', e, hq _ _ q⟩)
theorem rMetL_mono {w : aW} {M : aM} {As : List aV} {C : aIF} {S : aS} {R : aRF} {P P2 : Int → aS → Prop} (h : rMetL w M As C S R P) (hq : ∀ x S', P x S' → P2 x S') : rMetL w M As C S R P2 := cMetL_mono h (fun x I' q => by obtain ⟨C', e, q⟩ := q; exact ⟨C', e, hq _ _ q⟩)
theorem rMetV_mono {w : aW} {M : aM} {As : List aV} {C : aIF} {S : aS} {R : aRF} {P P2 : aS → Prop} (h : rMetV w M As C S R P) (hq : ∀ S', P S' → P2 S') : rMetV w M As C S R P2 := cMetV_mono h (fun I' q => by obtain ⟨C', e, q⟩ := q; exact ⟨C', e, hq _ q⟩)
abbrev kRunI (w : aW) (M : aM) (pc : Nat) (L : List (Option aV)) (st : List aV) (C : aIF) (S : aS) (R : aRF) (P : Int → aIF → Prop) : Prop := cRun w M pc L st (mem C S) R (kqI R S P)
abbrev kRunL (w : aW) (M : aM) (pc : Nat) (L : List (Option aV)) (st : List aV) (C : aIF) (S : aS) (R : aRF) (P : Int → aIF → Prop) : Prop := cRun w M pc L st (mem C S) R (kqL R S P)
abbrev kRunV (w : aW) (M : aM) (pc : Nat) (L : List (Option aV)) (st : List aV) (C : aIF) (S : aS) (R : aRF) (P : aIF → Prop) : Prop := cRun w M pc L st (mem C S) R (kqV R S P)
abbrev rRunI (w : aW) (M : aM) (pc : Nat) (L : List (Option aV)) (st : List aV) (C : aIF) (S : aS) (R : aRF) (P : Int → aS → Prop) : Prop := cRun w M pc L st (mem C S) R (rqI R C P)
abbrev rRunL (w : aW) (M : aM) (pc : Nat) (L : List (Option aV)) (st : List aV) (C : aIF) (S : aS) (R : aRF) (P : Int → aS → Prop) : Prop := cRun w M pc L st (mem C S) R (rqL R C P)
abbrev rRunV (w : aW) (M : aM) (pc : Nat) (L : List (Option aV)) (st : List aV) (C : aIF) (S : aS) (R : aRF) (P : aS → Prop) : Prop := cRun w M pc L st (mem C S) R (rqV R C P)
theorem cEqI {w : aW} {M : aM} {pc : Nat} {L : List (Option aV)} {st : List aV} {I I' : aIF} {R : aRF} {Q : cQ} (h : I' = I) (k : cRun w M pc L st I' R Q) : cRun w M pc L st I R Q := h ▸ k
theorem drop_get : ∀ (ks : List Nat) (L : List (Option aV)) (i : Nat) (v : aV), (ks.foldl (fun l k => l.set k none) L)[i]? = some (some v) → L[i]? = some (some v)
  | [], _, _, _, h => h
  | k :: ks, L, i, v, h => by
    have h1 := drop_get ks (L.set k none) i v h
    rw [List.getElem?_set] at h1
    by_cases e : k = i
    · rw [if_pos e] at h1
      split at h1 <;> cases h1
    · rw [if_neg e] at h1
      exact h1
theorem aDrop {w : aW} {M : aM} {pc : Nat} {L L' : List (Option aV)} {st : List aV} {n0 n : Nat} {I : aIF} {R : aRF} {Q : aQ} (ks : List Nat) (hL : ks.foldl (fun l k => l.set k none) L = L') (k : aRun w M pc L' st n0 n I R Q) : aRun w M pc L st n0 n I R Q := by
  subst hL
  exact aLess (drop_get ks L) k
/-! where the runners get their programs -/
theorem cEqR {w : aW} {M : aM} {pc : Nat} {L : List (Option aV)} {st : List aV} {I : aIF} {R R' : aRF} {Q : cQ} (h : R' = R) (k : cRun w M pc L st I R' Q) : cRun w M pc L st I R Q := h ▸ k
theorem rf_put {mm i : Nat} (h : i ≤ mm) : rf (max mm (i + 1)) = uR (rf mm) 28 i 2 (some (6, i)) := by
  funext a b c
  by_cases e : a = 28 ∧ c = 2
  · obtain ⟨rfl, rfl⟩ := e
    show (if b < max mm (i + 1) then some (6, b) else none) = if 28 = 28 ∧ b = i ∧ 2 = 2 then some (6, i) else (if b < mm then some (6, b) else none)
    by_cases eb : b = i
    · subst eb
      rw [if_pos (by omega), if_pos ⟨rfl, rfl, rfl⟩]
    · have e3 : ¬ (28 = 28 ∧ b = i ∧ 2 = 2) := fun z => eb z.2.1
      rw [if_neg e3]
      by_cases h2 : b < mm
      · rw [if_pos (by omega), if_pos h2]
      · rw [if_neg (by omega), if_neg h2]
  · have e2 : ¬ (a = 28 ∧ b = i ∧ c = 2) := fun z => e ⟨z.1, z.2.2⟩
    simp only [uR, if_neg e2]
    by_cases ea : a = 28
    · subst ea
      have ec : c ≠ 2 := fun z => e ⟨rfl, z⟩
      simp only [rf]
      split
      · rfl
      · exact absurd rfl ec
      · rfl
    · unfold rf
      split <;> first | rfl | (exact absurd rfl ea)
theorem mC {C : aIF} {S : aS} {k i k2 i2 sp dp m : Nat} (h : Nat.blt k 40 = true) (h2 : Nat.blt k2 40 = true) : mem (uC C k i k2 i2 sp dp m) S = uC (mem C S) k i k2 i2 sp dp m := by
  have hk : k < 40 := by
    have : k ≤ 39 := by simpa [Nat.blt] using h
    omega
  have hk2 : k2 < 40 := by
    have : k2 ≤ 39 := by simpa [Nat.blt] using h2
    omega
  funext a b c
  by_cases e : a = k2 ∧ b = i2
  · obtain ⟨rfl, rfl⟩ := e
    simp [mem, uC, hk, hk2]
  · by_cases ha : a < 40
    · simp [mem, uC, ha, e]
    · simp [mem, uC, ha, e]
def kqIR (S : aS) (P : Int → aIF → Nat → Prop) : cQ := fun r I R => ∃ mm, R = rf mm ∧ ∃ x, r = some (aI x) ∧ ∃ C, I = mem C S ∧ P x C mm
def kqVR (S : aS) (P : aIF → Nat → Prop) : cQ := fun r I R => ∃ mm, R = rf mm ∧ r = none ∧ ∃ C, I = mem C S ∧ P C mm
def kMetIR (w : aW) (M : aM) (As : List aV) (C : aIF) (S : aS) (mm : Nat) (P : Int → aIF → Nat → Prop) : Prop := cMet w M As (mem C S) (rf mm) (kqIR S P)
def kMetVR (w : aW) (M : aM) (As : List aV) (C : aIF) (S : aS) (mm : Nat) (P : aIF → Nat → Prop) : Prop := cMet w M As (mem C S) (rf mm) (kqVR S P)
abbrev kRunIR (w : aW) (M : aM) (pc : Nat) (L : List (Option aV)) (st : List aV) (C : aIF) (S : aS) (mm : Nat) (P : Int → aIF → Nat → Prop) : Prop := cRun w M pc L st (mem C S) (rf mm) (kqIR S P)
abbrev kRunVR (w : aW) (M : aM) (pc : Nat) (L : List (Option aV)) (st : List aV) (C : aIF) (S : aS) (mm : Nat) (P : aIF → Nat → Prop) : Prop := cRun w M pc L st (mem C S) (rf mm) (kqVR S P)
theorem kMetVR_run {w : aW} {M : aM} {As : List aV} {C : aIF} {S : aS} {mm : Nat} {P : aIF → Nat → Prop} {Q : cQ} (h : kMetVR w M As C S mm P) (hq : ∀ C' m', P C' m' → Q none (mem C' S) (rf m')) : cMet w M As (mem C S) (rf mm) Q :=
  aMet_mono h (fun r n I R q => ⟨q.1, by obtain ⟨-, m', rfl, rfl, C', rfl, h2⟩ := q; exact hq _ _ h2⟩)
theorem cVVR {w : aW} {M : aM} {pc pc' : Nat} {L : List (Option aV)} {st : List aV} {I : aIF} {R : aRF} {Q : cQ} {M2 : aM} (As : List aV) {rest : List aV} {k i c idx : Nat} (hd : decode M.2.1 pc = .ok (.invokevirtual idx, 3)) (hf : aVk M.1.cls idx M2) (ho : mOk M2) (hrm : aRm M M2) (hnp : (parseMethodDescriptor M2.1.desc).map (fun d => d.parameters.length) = some As.length) (hk : kObj k c = true) (hc11 : Nat.ble c 10 = true) (hcn : aNm c = M2.1.cls) (h8 : Nat.ble (rest.map aCat).sum 8 = true) (hst : st = As.reverse ++ aO k i :: rest) (hl : i < kCnt k) (hp : pc + 3 = pc')
    (kk : cMet w M2 (aO k i :: As) I R (fun r I' R' => cRun w M pc' L (r.toList ++ rest) I' R' Q)) : cRun w M pc L st I R Q :=
  cCallV As hd hf ho hrm hnp hk hc11 hcn h8 hst hl hp kk
