/-! RUN: the log -/
abbrev rV (w : aW) (mm : Nat) (M : aM) (As : List aV) (S S' : aS) : Prop := ∀ (C0 : aIF) (Q : aS → Prop), Q S' → rMetV w M As C0 S (rf mm) Q
abbrev rI (w : aW) (mm : Nat) (M : aM) (As : List aV) (S : aS) (x : Int) (S' : aS) : Prop := ∀ (C0 : aIF) (Q : Int → aS → Prop), Q x S' → rMetI w M As C0 S (rf mm) Q
def lgC (C : aIF) (a b c d : Int) : aIF := uI (uI (uI (uI (uI C 23 0 (C 22 0 4 % 60).toNat a) 24 0 (C 22 0 4 % 60).toNat b) 25 0 (C 22 0 4 % 60).toNat c) 26 0 (C 22 0 4 % 60).toNat d) 22 0 4 (C 22 0 4 + 1)
theorem lgC_o {C : aIF} {a b c d : Int} {k i j : Nat} (h : k < 22 ∨ 26 < k) : lgC C a b c d k i j = C k i j := by
  unfold lgC
  rw [uI_no (by omega), uI_no (by omega), uI_no (by omega), uI_no (by omega), uI_no (by omega)]
def nlB (S : aS) : Nat := if S 26 0 = 60 then 236 else (4 * S 26 0).toNat
def nl (S : aS) (b c d : Int) (j : Nat) : Int := if j = nlB S then S 24 0 else if j = nlB S + 1 then b else if j = nlB S + 2 then c else if j = nlB S + 3 then d else if S 26 0 = 60 ∧ j < 236 then S 45 (j + 4) else S 45 j
def lgS (S : aS) (b c d : Int) : aS := fun f j => if f = 45 then nl S b c d j else if f = 26 ∧ j = 0 then (if S 26 0 = 60 then 60 else S 26 0 + 1) else if f = 27 ∧ j = 0 then S 27 0 + 1 else S f j
theorem lgS_o {S : aS} {b c d : Int} {f j : Nat} (h : f < 26 ∨ (27 < f ∧ f ≠ 45)) : lgS S b c d f j = S f j := by
  unfold lgS
  rw [if_neg (by omega), if_neg (by omega), if_neg (by omega)]
def shS (S : aS) (l : Nat) : aS := fun f j => if f = 45 ∧ j < l then S 45 (j + 4) else S f j
theorem shS_s {S : aS} {l : Nat} : sU (shS S l) 45 l (shS S l 45 (l + 4)) = shS S (l + 1) := by
  funext f j
  have e : shS S l 45 (l + 4) = S 45 (l + 4) := if_neg (by omega)
  rw [e]
  by_cases h : f = 45 ∧ j = l
  · obtain ⟨rfl, rfl⟩ := h
    rw [sU_s]
    exact (if_pos ⟨rfl, by omega⟩).symm
  · rw [sU_ne h]
    unfold shS
    by_cases h2 : f = 45 ∧ j < l
    · rw [if_pos h2, if_pos ⟨h2.1, by omega⟩]
    · rw [if_neg h2, if_neg (fun z => by omega)]
theorem shS_o {S : aS} {l f j : Nat} (h : f ≠ 45) : shS S l f j = S f j := if_neg (fun z => h z.1)
section LG
variable {w : aW} {mm t : Nat}
theorem sX4_add {C : aIF} {S : aS} {a b c d : Int} {P : aIF → Prop} (h : 0 ≤ C 22 0 4 ∧ C 22 0 4 < 2147483647) (hP : P (lgC C a b c d)) : kMetV w mX4_add [aO 22 0, aI a, aI b, aI c, aI d] C S (rf mm) P :=
  gX4_add ⟨by omega, by omega, by omega, hP⟩
theorem sX10_tells_12 {C : aIF} {S : aS} {b c d : Int} {P : aS → Prop} (h6 : S 26 0 = 60) (h7 : 0 ≤ S 27 0 ∧ S 27 0 < 2147483647) (hP : P (lgS S b c d)) : ∀ (m l : Nat), l + m = 236 → rRunV w mX10_tells 12 [some (aO 40 0), some (aI b), some (aI c), some (aI d), some (aI (l : Int))] [] C (shS S l) (rf mm) P
  | 0, l, e => by
    have : l = 236 := by omega
    subst this
    have q6 : shS S 236 26 0 = 60 := by rw [shS_o (by omega)]; exact h6
    have q7 : shS S 236 27 0 = S 27 0 := shS_o (by omega)
    have q24 : shS S 236 24 0 = S 24 0 := shS_o (by omega)
    refine gX10_tells_12 ⟨fun _ => ?_, fun q => absurd (by omega) q⟩
    rw [q6, q7, q24]
    refine ⟨by omega, by omega, by omega, by omega, by omega, by omega, by omega, by omega, by omega, by omega, by omega, by omega, by omega, by omega, ?_⟩
    refine Eq.mp (congrArg P ?_) hP
    funext f j
    show _ = sU (sU (sU (sU (sU (sU (sU (shS S 236) 26 0 59) 45 236 (S 24 0)) 45 237 b) 45 238 c) 45 239 d) 26 0 60) 27 0 (S 27 0 + 1) f j
    unfold lgS
    by_cases e45 : f = 45
    · subst e45
      rw [if_pos rfl, sU_f rfl, sU_f rfl]
      unfold nl
      have eb : nlB S = 236 := if_pos h6
      rw [eb]
      by_cases j1 : j = 236
      · subst j1
        rw [if_pos rfl, sU_ne (by omega), sU_ne (by omega), sU_ne (by omega), sU_s]
      · by_cases j2 : j = 237
        · subst j2
          rw [if_neg j1, if_pos rfl, sU_ne (by omega), sU_ne (by omega), sU_s]
        · by_cases j3 : j = 238
          · subst j3
            rw [if_neg j1, if_neg j2, if_pos rfl, sU_ne (by omega), sU_s]
          · by_cases j4 : j = 239
            · subst j4
              rw [if_neg j1, if_neg j2, if_neg j3, if_pos rfl, sU_s]
            · rw [if_neg j1, if_neg j2, if_neg j3, if_neg j4, sU_ne (by omega), sU_ne (by omega), sU_ne (by omega), sU_ne (by omega), sU_f rfl]
              unfold shS
              by_cases z : j < 236
              · rw [if_pos ⟨h6, z⟩, if_pos ⟨rfl, z⟩]
              · rw [if_neg (fun y => z y.2), if_neg (fun y => z y.2)]
    · rw [if_neg e45]
      by_cases e27 : f = 27 ∧ j = 0
      · obtain ⟨rfl, rfl⟩ := e27
        rw [if_neg (by omega), if_pos ⟨rfl, rfl⟩, sU_s]
      · rw [sU_ne e27]
        by_cases e26 : f = 26 ∧ j = 0
        · obtain ⟨rfl, rfl⟩ := e26
          rw [if_pos ⟨rfl, rfl⟩, if_pos h6, sU_s]
        · rw [if_neg e26, if_neg e27, sU_ne e26, sU_ne (fun y => e45 y.1), sU_ne (fun y => e45 y.1), sU_ne (fun y => e45 y.1), sU_ne (fun y => e45 y.1), sU_ne e26, shS_o e45]
  | m + 1, l, e => by
    refine gX10_tells_12 ⟨fun q => absurd q (by omega), fun _ => ⟨by omega, by omega, by omega, by omega, ?_⟩⟩
    rw [shS_s]
    exact sX10_tells_12 h6 h7 hP m (l + 1) (by omega)
theorem sX10_tells {C : aIF} {S : aS} {b c d : Int} {P : aS → Prop} (h6 : 0 ≤ S 26 0 ∧ S 26 0 ≤ 60) (h7 : 0 ≤ S 27 0 ∧ S 27 0 < 2147483647) (hP : P (lgS S b c d)) : rMetV w mX10_tells [aO 40 0, aI b, aI c, aI d] C S (rf mm) P := by
  refine gX10_tells ⟨fun q => ?_, fun q => ?_⟩
  · refine ⟨by omega, by omega, by omega, by omega, by omega, by omega, by omega, by omega, by omega, by omega, by omega, by omega, by omega, ?_⟩
    refine Eq.mp (congrArg P ?_) hP
    funext f j
    have eb : nlB S = (4 * S 26 0).toNat := if_neg q
    have i1 : (4 * S 26 0 + 1).toNat = (4 * S 26 0).toNat + 1 := by omega
    have i2 : (4 * S 26 0 + 2).toNat = (4 * S 26 0).toNat + 2 := by omega
    have i3 : (4 * S 26 0 + 3).toNat = (4 * S 26 0).toNat + 3 := by omega
    rw [i1, i2, i3]
    unfold lgS
    by_cases e45 : f = 45
    · subst e45
      rw [if_pos rfl, sU_f rfl, sU_f rfl]
      unfold nl
      rw [eb]
      generalize (4 * S 26 0).toNat = B
      by_cases j1 : j = B
      · subst j1
        rw [if_pos rfl, sU_ne (by omega), sU_ne (by omega), sU_ne (by omega), sU_s]
      · by_cases j2 : j = B + 1
        · subst j2
          rw [if_neg j1, if_pos rfl, sU_ne (by omega), sU_ne (by omega), sU_s]
        · by_cases j3 : j = B + 2
          · subst j3
            rw [if_neg j1, if_neg j2, if_pos rfl, sU_ne (by omega), sU_s]
          · by_cases j4 : j = B + 3
            · subst j4
              rw [if_neg j1, if_neg j2, if_neg j3, if_pos rfl, sU_s]
            · rw [if_neg j1, if_neg j2, if_neg j3, if_neg j4, sU_ne (by omega), sU_ne (by omega), sU_ne (by omega), sU_ne (by omega), if_neg (fun y => q y.1)]
    · rw [if_neg e45]
      by_cases e27 : f = 27 ∧ j = 0
      · obtain ⟨rfl, rfl⟩ := e27
        rw [if_neg (by omega), if_pos ⟨rfl, rfl⟩, sU_s]
      · rw [sU_ne e27]
        by_cases e26 : f = 26 ∧ j = 0
        · obtain ⟨rfl, rfl⟩ := e26
          rw [if_pos ⟨rfl, rfl⟩, if_neg q, sU_s]
        · rw [if_neg e26, if_neg e27, sU_ne e26, sU_ne (fun y => e45 y.1), sU_ne (fun y => e45 y.1), sU_ne (fun y => e45 y.1), sU_ne (fun y => e45 y.1)]
  · have := sX10_tells_12 (w := w) (mm := mm) (C := C) (P := P) q h7 hP 236 0 (by omega)
    have e : shS S 0 = S := by
      funext f j
      exact if_neg (by omega)
    rw [e] at this
    exact this
end LG
/-- both write the same -/
theorem lg_add {C : aIF} {S : aS} {E : Nat → Nat → Int} {k : Nat} {b c d : Int} (h : lgE C S E k) : lgE (lgC C (S 24 0) b c d) (lgS S b c d) (fun a q => if a = k then (if q = 0 then S 24 0 else if q = 1 then b else if q = 2 then c else d) else E a q) (k + 1) := by
  obtain ⟨h1, h2, h3, h4, h5⟩ := h
  have hr : (C 22 0 4 % 60).toNat = k % 60 := by omega
  refine ⟨?_, ?_, ?_, fun i q g1 g2 g3 => ?_, fun a q g1 g2 g3 => ?_⟩
  · show S 27 0 + 1 = _
    omega
  · show (if S 26 0 = 60 then 60 else S 26 0 + 1) = _
    split <;> omega
  · show uI _ 22 0 4 (C 22 0 4 + 1) 22 0 4 = _
    rw [uI_s]
    omega
  · show nl S b c d (4 * i + q) = _
    unfold nl
    dsimp only
    by_cases e60 : S 26 0 = 60
    · have eb : nlB S = 236 := if_pos e60
      rw [eb]
      by_cases ei : i = 59
      · subst ei
        rw [if_pos (show k + 1 - min (k + 1) 60 + 59 = k by omega)]
        by_cases q0 : q = 0
        · subst q0
          rw [if_pos rfl, if_pos rfl]
        · by_cases q1 : q = 1
          · subst q1
            rw [if_neg (by omega), if_pos rfl, if_neg (by omega), if_pos rfl]
          · by_cases q2 : q = 2
            · subst q2
              rw [if_neg (by omega), if_neg (by omega), if_pos rfl, if_neg (by omega), if_neg (by omega), if_pos rfl]
            · rw [if_neg (by omega), if_neg (by omega), if_neg (by omega), if_pos (by omega), if_neg (by omega), if_neg (by omega), if_neg (by omega)]
      · rw [if_neg (by omega), if_neg (by omega), if_neg (by omega), if_neg (by omega), if_pos ⟨e60, by omega⟩, if_neg (by omega), show 4 * i + q + 4 = 4 * (i + 1) + q by omega, h4 (i + 1) q g1 (by omega) (by omega)]
        congr 1
        omega
    · have hk : S 26 0 = (k : Int) := by omega
      have eb : nlB S = 4 * k := by
        unfold nlB
        rw [if_neg e60]
        omega
      rw [eb]
      by_cases ei : i = k
      · subst ei
        rw [if_pos (show i + 1 - min (i + 1) 60 + i = i by omega)]
        by_cases q0 : q = 0
        · subst q0
          rw [if_pos (by omega), if_pos rfl]
        · by_cases q1 : q = 1
          · subst q1
            rw [if_neg (by omega), if_pos rfl, if_neg (by omega), if_pos rfl]
          · by_cases q2 : q = 2
            · subst q2
              rw [if_neg (by omega), if_neg (by omega), if_pos rfl, if_neg (by omega), if_neg (by omega), if_pos rfl]
            · rw [if_neg (by omega), if_neg (by omega), if_neg (by omega), if_pos (by omega), if_neg (by omega), if_neg (by omega), if_neg (by omega)]
      · rw [if_neg (by omega), if_neg (by omega), if_neg (by omega), if_neg (by omega), if_neg (fun z => e60 z.1), if_neg (by omega), h4 i q g1 g2 (by omega)]
        congr 1
        omega
  · unfold lgC
    rw [hr]
    dsimp only
    by_cases ea : a = k
    · subst ea
      rw [if_pos rfl]
      rcases (show q = 0 ∨ q = 1 ∨ q = 2 ∨ q = 3 by omega) with rfl | rfl | rfl | rfl
      · rw [uI_no (by omega), uI_no (by omega), uI_no (by omega), uI_no (by omega), uI_s, if_pos rfl]
      · rw [uI_no (by omega), uI_no (by omega), uI_no (by omega), uI_s, if_neg (by omega), if_pos rfl]
      · rw [uI_no (by omega), uI_no (by omega), uI_s, if_neg (by omega), if_neg (by omega), if_pos rfl]
      · rw [uI_no (by omega), uI_s, if_neg (by omega), if_neg (by omega), if_neg (by omega)]
    · rw [if_neg ea, uI_no (by omega), uI_no (by omega), uI_no (by omega), uI_no (by omega), uI_no (by omega)]
      exact h5 a q g1 (by omega) (by omega)
