/-! the component's memory C and the reference's S, side by side -/
abbrev aS : Type := Nat → Nat → Int
def sU (S : aS) (f j : Nat) (v : Int) : aS := fun a b => if a = f ∧ b = j then v else S a b
/-- the reference's fields that are no arrays -/
def scal (f : Nat) : Bool := [0, 5, 6, 7, 8, 9, 10, 17, 22, 23, 24, 25, 26, 27].contains f
def mem (C : aIF) (S : aS) : aIF := fun k i j =>
  if k < 40 then C k i j else if i = 0 then (if k = 40 then (if scal j = true then S j 0 else 0) else (if scal (k - 40) = true then 0 else S (k - 40) j)) else 0
theorem mK {C : aIF} {S : aS} {k i j : Nat} {v : Int} (h : Nat.blt k 40 = true) : mem (uI C k i j v) S = uI (mem C S) k i j v := by
  have hk : k < 40 := by
    have : k ≤ 39 := by simpa [Nat.blt] using h
    omega
  funext a b c
  by_cases e : a = k ∧ b = i ∧ c = j
  · obtain ⟨rfl, rfl, rfl⟩ := e
    simp [mem, uI, hk]
  · by_cases ha : a < 40
    · simp [mem, uI, ha, e]
    · simp [mem, uI, ha, e]
theorem mA {C : aIF} {S : aS} {k f j : Nat} {v : Int} (hk : k = 40 + f) (h1 : Nat.ble 1 f = true) (h : scal f = false) : mem C (sU S f j v) = uI (mem C S) k 0 j v := by
  have h1 : 1 ≤ f := Nat.le_of_ble_eq_true h1
  subst hk
  funext a b c
  by_cases ha : a < 40
  · have : ¬ (a = 40 + f ∧ b = 0 ∧ c = j) := by omega
    simp [mem, uI, ha, this]
  · by_cases hb : b = 0
    · subst hb
      by_cases h40 : a = 40
      · subst h40
        have : ¬ (40 = 40 + f ∧ 0 = 0 ∧ c = j) := by omega
        have e2 : ¬ (c = f ∧ scal c = true) := fun z => by rw [z.1, h] at z; exact absurd z.2 (by simp)
        by_cases hs : scal c = true
        · have e3 : c ≠ f := fun z => e2 ⟨z, hs⟩
          simp [mem, uI, sU, hs, e3]
          omega
        · simp [mem, uI, hs]
          omega
      · by_cases e : a = 40 + f
        · subst e
          by_cases ec : c = j
          · subst ec
            simp [mem, uI, sU, h]
            omega
          · simp [mem, uI, sU, h, ec, show f ≠ 0 by omega]
        · have e2 : a - 40 ≠ f := by omega
          simp [mem, uI, sU, ha, h40, e, e2]
    · simp [mem, uI, ha, hb]
theorem mS {C : aIF} {S : aS} {f : Nat} {v : Int} (h : scal f = true) : mem C (sU S f 0 v) = uI (mem C S) 40 0 f v := by
  funext a b c
  by_cases ha : a < 40
  · have : ¬ (a = 40 ∧ b = 0 ∧ c = f) := by omega
    simp [mem, uI, ha, this]
  · by_cases hb : b = 0
    · subst hb
      by_cases h40 : a = 40
      · subst h40
        by_cases ec : c = f
        · subst ec
          simp [mem, uI, sU, h]
        · simp [mem, uI, sU, ec]
      · have h41 : ¬ (a = 40 ∧ 0 = 0 ∧ c = f) := fun z => h40 z.1
        by_cases hs : scal (a - 40) = true
        · simp [mem, uI, ha, h40, hs]
        · have e2 : a - 40 ≠ f := fun z => hs (by rw [z]; exact h)
          simp [mem, uI, sU, ha, h40, hs, e2]
    · have : ¬ (a = 40 ∧ b = 0 ∧ c = f) := fun z => hb z.2.1
      simp [mem, uI, ha, hb]
theorem sU_s {S : aS} {f j : Nat} {v : Int} : sU S f j v f j = v := if_pos ⟨rfl, rfl⟩
theorem sU_f {S : aS} {f j f2 j2 : Nat} {v : Int} (h : Nat.beq f2 f = false) : sU S f j v f2 j2 = S f2 j2 := if_neg (fun z => by have := z.1; subst this; rw [Nat.beq_refl] at h; cases h)
theorem sU_j {S : aS} {f j f2 j2 : Nat} {v : Int} (h : Nat.beq j2 j = false) : sU S f j v f2 j2 = S f2 j2 := if_neg (fun z => by have := z.2; subst this; rw [Nat.beq_refl] at h; cases h)
/-! the component's judgements (k) and the reference's (r) -/
def kqI (R : aRF) (S : aS) (P : Int → aIF → Prop) : cQ := cqI R (fun x I => ∃ C, I = mem C S ∧ P x C)
def kqL (R : aRF) (S : aS) (P : Int → aIF → Prop) : cQ := cqL R (fun x I => ∃ C, I = mem C S ∧ P x C)
def kqV (R : aRF) (S : aS) (P : aIF → Prop) : cQ := cqV R (fun I => ∃ C, I = mem C S ∧ P C)
def rqI (R : aRF) (C : aIF) (P : Int → aS → Prop) : cQ := cqI R (fun x I => ∃ S, I = mem C S ∧ P x S)
def rqL (R : aRF) (C : aIF) (P : Int → aS → Prop) : cQ := cqL R (fun x I => ∃ S, I = mem C S ∧ P x S)
def rqV (R : aRF) (C : aIF) (P : aS → Prop) : cQ := cqV R (fun I => ∃ S, I = mem C S ∧ P S)
def kMetI (w : aW) (M : aM) (As : List aV) (C : aIF) (S : aS) (R : aRF) (P : Int → aIF → Prop) : Prop := cMet w M As (mem C S) R (kqI R S P)
def kMetL (w : aW) (M : aM) (As : List aV) (C : aIF) (S : aS) (R : aRF) (P : Int → aIF → Prop) : Prop := cMet w M As (mem C S) R (kqL R S P)
def kMetV (w : aW) (M : aM) (As : List aV) (C : aIF) (S : aS) (R : aRF) (P : aIF → Prop) : Prop := cMet w M As (mem C S) R (kqV R S P)
def rMetI (w : aW) (M : aM) (As : List aV) (C : aIF) (S : aS) (R : aRF) (P : Int → aS → Prop) : Prop := cMet w M As (mem C S) R (rqI R C P)
def rMetL (w : aW) (M : aM) (As : List aV) (C : aIF) (S : aS) (R : aRF) (P : Int → aS → Prop) : Prop := cMet w M As (mem C S) R (rqL R C P)
def rMetV (w : aW) (M : aM) (As : List aV) (C : aIF) (S : aS) (R : aRF) (P : aS → Prop) : Prop := cMet w M As (mem C S) R (rqV R C P)
theorem kMetI_mono {w : aW} {M : aM} {As : List aV} {C : aIF} {S : aS} {R : aRF} {P P2 : Int → aIF → Prop} (h : kMetI w M As C S R P) (hq : ∀ x C', P x C' → P2 x C') : kMetI w M As C S R P2 := cMetI_mono h (fun x I' q => by obtain ⟨C', e, q⟩ := q; exact ⟨C', e, hq _ _ q⟩)
theorem kMetL_mono {w : aW} {M : aM} {As : List aV} {C : aIF} {S : aS} {R : aRF} {P P2 : Int → aIF → Prop} (h : kMetL w M As C S R P) (hq : ∀ x C', P x C' → P2 x C') : kMetL w M As C S R P2 := cMetL_mono h (fun x I' q => by obtain ⟨C', e, q⟩ := q; exact ⟨C', e, hq _ _ q⟩)
theorem kMetV_mono {w : aW} {M : aM} {As : List aV} {C : aIF} {S : aS} {R : aRF} {P P2 : aIF → Prop} (h : kMetV w M As C S R P) (hq : ∀ C', P C' → P2 C') : kMetV w M As C S R P2 := cMetV_mono h (fun I' q => by obtain ⟨C', e, q⟩ := q; exact ⟨C', e, hq _ q⟩)
theorem rMetI_mono {w : aW} {M : aM} {As : List aV} {C : aIF} {S : aS} {R : aRF} {P P2 : Int → aS → Prop} (h : rMetI w M As C S R P) (hq : ∀ x S', P x S' → P2 x S') : rMetI w M As C S R P2 := cMetI_mono h (fun x I' q => by obtain ⟨C', e, q⟩ := q; exact ⟨C', e, hq _ _ q⟩)
theorem rMetL_mono {w : aW} {M : aM} {As : List aV} {C : aIF} {S : aS} {R : aRF} {P P2 : Int → aS → Prop} (h : rMetL w M As C S R P) (hq : ∀ x S', P x S' → P2 x S') : rMetL w M As C S R P2 := cMetL_mono h (fun x I' q => by obtain ⟨C', e, q⟩ := q; exact ⟨C', e, hq _ _ q⟩)
theorem rMetV_mono {w : aW} {M : aM} {As : List aV} {C : aIF} {S : aS} {R : aRF} {P P2 : aS → Prop} (h : rMetV w M As C S R P) (hq : ∀ S', P S' → P2 S') : rMetV w M As C S R P2 := cMetV_mono h (fun I' q => by obtain ⟨C', e, q⟩ := q; exact ⟨C', e, hq _ q⟩)
abbrev kRunI (w : aW) (M : aM) (pc : Nat) (L : List (Option aV)) (st : List aV) (C : aIF) (S : aS) (R : aRF) (P : Int → aIF → Prop) : Prop := cRun w M pc L st (mem C S) R (kqI R S P)
abbrev kRunL (w : aW) (M : aM) (pc : Nat) (L : List (Option aV)) (st : List aV) (C : aIF) (S : aS) (R : aRF) (P : Int → aIF → Prop) : Prop := cRun w M pc L st (mem C S) R (kqL R S P)
abbrev kRunV (w : aW) (M : aM) (pc : Nat) (L : List (Option aV)) (st : List aV) (C : aIF) (S : aS) (R : aRF) (P : aIF → Prop) : Prop := cRun w M pc L st (mem C S) R (kqV R S P)
abbrev rRunI (w : aW) (M : aM) (pc : Nat) (L : List (Option aV)) (st : List aV) (C : aIF) (S : aS) (R : aRF) (P : Int → aS → Prop) : Prop := cRun w M pc L st (mem C S) R (rqI R C P)
abbrev rRunL (w : aW) (M : aM) (pc : Nat) (L : List (Option aV)) (st : List aV) (C : aIF) (S : aS) (R : aRF) (P : Int → aS → Prop) : Prop := cRun w M pc L st (mem C S) R (rqL R C P)
abbrev rRunV (w : aW) (M : aM) (pc : Nat) (L : List (Option aV)) (st : List aV) (C : aIF) (S : aS) (R : aRF) (P : aS → Prop) : Prop := cRun w M pc L st (mem C S) R (rqV R C P)
theorem cEqI {w : aW} {M : aM} {pc : Nat} {L : List (Option aV)} {st : List aV} {I I' : aIF} {R : aRF} {Q : cQ} (h : I' = I) (k : cRun w M pc L st I' R Q) : cRun w M pc L st I R Q := h ▸ k
