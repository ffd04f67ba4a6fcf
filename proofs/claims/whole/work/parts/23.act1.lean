/-! RUN: the end of an act -/
def nz (S : aS) (p : Nat) : aS := sU (sU S 28 p 0) 37 p 0
theorem nz_id {S : aS} {p : Nat} (h1 : S 28 p = 0) (h2 : S 37 p = 0) : nz S p = S := by
  funext f j
  unfold nz
  by_cases e : f = 37 ∧ j = p
  · obtain ⟨rfl, rfl⟩ := e
    rw [sU_s, h2]
  · rw [sU_ne e]
    by_cases e2 : f = 28 ∧ j = p
    · obtain ⟨rfl, rfl⟩ := e2
      rw [sU_s, h1]
    · rw [sU_ne e2]
/-- what the reference does at an act's end -/
def psT (w : aW) (mm : Nat) (C : aIF) (p : Nat) (S : aS) (P : aS → Prop) : Prop := (-2147483648 ≤ ((S 33 p) + 1) ∧ ((S 33 p) + 1) < 2147483648) ∧ ((((S 11 p) ≤ ((S 33 p) + 1)) → (((S 32 p) ≤ 0) → (-2147483648 ≤ ((S 32 p) + 1) ∧ ((S 32 p) + 1) < 2147483648) ∧ (((((S 32 p) + 1) ≠ (S 14 p)) → P (sU (sU (sU (sU (sU (sU (sU S 28 p 0) 37 p 0) 33 p (((S 33 p) + 1))) 33 p 0) 40 p 0) 41 p ((S 31 p))) 32 p (((S 32 p) + 1)))) ∧ ((((S 32 p) + 1) = (S 14 p)) → rMetV w mX10_isOver [aO 40 0, aI ((p : Int)), aI 3] C (sU (sU (sU (sU (sU (sU (sU S 28 p 0) 37 p 0) 33 p (((S 33 p) + 1))) 33 p 0) 40 p 0) 41 p ((S 31 p))) 32 p (((S 32 p) + 1))) (rf mm) (fun S5 => P S5)))) ∧ ((¬ ((S 32 p) ≤ 0)) → (((S 31 p) ≤ (S 41 p)) → (-2147483648 ≤ ((S 32 p) + 1) ∧ ((S 32 p) + 1) < 2147483648) ∧ (((((S 32 p) + 1) ≠ (S 14 p)) → P (sU (sU (sU (sU (sU (sU (sU S 28 p 0) 37 p 0) 33 p (((S 33 p) + 1))) 33 p 0) 40 p 0) 41 p ((S 31 p))) 32 p (((S 32 p) + 1)))) ∧ ((((S 32 p) + 1) = (S 14 p)) → rMetV w mX10_isOver [aO 40 0, aI ((p : Int)), aI 3] C (sU (sU (sU (sU (sU (sU (sU S 28 p 0) 37 p 0) 33 p (((S 33 p) + 1))) 33 p 0) 40 p 0) 41 p ((S 31 p))) 32 p (((S 32 p) + 1))) (rf mm) (fun S9 => P S9)))) ∧ ((¬ ((S 31 p) ≤ (S 41 p))) → (-2147483648 ≤ ((S 40 p) + 1) ∧ ((S 40 p) + 1) < 2147483648) ∧ ((-2147483648 ≤ ((S 32 p) + 1) ∧ ((S 32 p) + 1) < 2147483648) ∧ (((((S 40 p) + 1) < 3) → ((((S 32 p) + 1) ≠ (S 14 p)) → P (sU (sU (sU (sU (sU (sU (sU S 28 p 0) 37 p 0) 33 p (((S 33 p) + 1))) 33 p 0) 40 p (((S 40 p) + 1))) 41 p ((S 31 p))) 32 p (((S 32 p) + 1)))) ∧ ((((S 32 p) + 1) = (S 14 p)) → rMetV w mX10_isOver [aO 40 0, aI ((p : Int)), aI 3] C (sU (sU (sU (sU (sU (sU (sU S 28 p 0) 37 p 0) 33 p (((S 33 p) + 1))) 33 p 0) 40 p (((S 40 p) + 1))) 41 p ((S 31 p))) 32 p (((S 32 p) + 1))) (rf mm) (fun S14 => P S14))) ∧ ((¬ (((S 40 p) + 1) < 3)) → (((S 42 p) ≠ 0) → ((((S 32 p) + 1) ≠ (S 14 p)) → P (sU (sU (sU (sU (sU (sU (sU S 28 p 0) 37 p 0) 33 p (((S 33 p) + 1))) 33 p 0) 40 p (((S 40 p) + 1))) 41 p ((S 31 p))) 32 p (((S 32 p) + 1)))) ∧ ((((S 32 p) + 1) = (S 14 p)) → rMetV w mX10_isOver [aO 40 0, aI ((p : Int)), aI 3] C (sU (sU (sU (sU (sU (sU (sU S 28 p 0) 37 p 0) 33 p (((S 33 p) + 1))) 33 p 0) 40 p (((S 40 p) + 1))) 41 p ((S 31 p))) 32 p (((S 32 p) + 1))) (rf mm) (fun S17 => P S17))) ∧ (((S 42 p) = 0) → rMetV w mX10_tells [aO 40 0, aI ((p : Int)), aI 7, aI ((S 31 p))] C (sU (sU (sU (sU (sU (sU (sU (sU S 28 p 0) 37 p 0) 33 p (((S 33 p) + 1))) 33 p 0) 40 p (((S 40 p) + 1))) 41 p ((S 31 p))) 32 p (((S 32 p) + 1))) 42 p 1) (rf mm) (fun S20 => (((S20 32 p) ≠ (S20 14 p)) → P S20) ∧ (((S20 32 p) = (S20 14 p)) → rMetV w mX10_isOver [aO 40 0, aI ((p : Int)), aI 3] C S20 (rf mm) (fun S23 => P S23)))))))))) ∧ ((¬ ((S 11 p) ≤ ((S 33 p) + 1))) → P (sU (sU (sU S 28 p 0) 37 p 0) 33 p (((S 33 p) + 1)))))
def S7 (S : aS) (p : Nat) (r : Int) : aS := sU (sU (sU (sU (sU (sU (sU S 28 p 0) 37 p 0) 33 p (S 33 p + 1)) 33 p 0) 40 p r) 41 p (S 31 p)) 32 p (S 32 p + 1)
def rhoF (S : aS) (p : Nat) : Int := if S 32 p ≤ 0 ∨ S 31 p ≤ S 41 p then 0 else S 40 p + 1
theorem psT_mid {w : aW} {mm p : Nat} {C : aIF} {S : aS} {P : aS → Prop} (h0 : 0 ≤ S 33 p ∧ S 33 p < 100000) (h : S 33 p + 1 < S 11 p) (hP : P (sU (nz S p) 33 p (S 33 p + 1))) : psT w mm C p S P :=
  ⟨by omega, fun q => absurd q (by omega), fun _ => hP⟩
theorem psT_end {w : aW} {mm p : Nat} {C : aIF} {S : aS} {P : aS → Prop} (h0 : 0 ≤ S 33 p ∧ S 33 p < 100000) (h32 : 0 ≤ S 32 p ∧ S 32 p < 100000) (h40 : 0 ≤ S 40 p ∧ S 40 p < 100000) (h : S 11 p ≤ S 33 p + 1)
    (h1 : ¬ (S 42 p = 0 ∧ 3 ≤ rhoF S p) → S 32 p + 1 ≠ S 14 p → P (S7 S p (rhoF S p))) (h2 : ¬ (S 42 p = 0 ∧ 3 ≤ rhoF S p) → S 32 p + 1 = S 14 p → rMetV w mX10_isOver [aO 40 0, aI (p : Int), aI 3] C (S7 S p (rhoF S p)) (rf mm) P)
    (h3 : S 42 p = 0 ∧ 3 ≤ rhoF S p → rMetV w mX10_tells [aO 40 0, aI (p : Int), aI 7, aI (S 31 p)] C (sU (S7 S p (rhoF S p)) 42 p 1) (rf mm) (fun S' => (S' 32 p ≠ S' 14 p → P S') ∧ (S' 32 p = S' 14 p → rMetV w mX10_isOver [aO 40 0, aI (p : Int), aI 3] C S' (rf mm) P))) : psT w mm C p S P := by
  unfold rhoF at h1 h2 h3
  refine ⟨by omega, fun _ => ⟨fun q => ⟨by omega, fun q2 => ?_, fun q2 => ?_⟩, fun q => ⟨fun q2 => ⟨by omega, fun q3 => ?_, fun q3 => ?_⟩, fun q2 => ⟨by omega, by omega, fun q3 => ⟨fun q4 => ?_, fun q4 => ?_⟩, fun q3 => ⟨fun q4 => ⟨fun q5 => ?_, fun q5 => ?_⟩, fun q4 => ?_⟩⟩⟩⟩, fun q => absurd h q⟩
  · rw [if_pos (Or.inl q)] at h1
    exact h1 (by omega) q2
  · rw [if_pos (Or.inl q)] at h2
    exact h2 (by omega) q2
  · rw [if_pos (Or.inr q2)] at h1
    exact h1 (by omega) q3
  · rw [if_pos (Or.inr q2)] at h2
    exact h2 (by omega) q3
  · rw [if_neg (by omega)] at h1
    exact h1 (by omega) q4
  · rw [if_neg (by omega)] at h2
    exact h2 (by omega) q4
  · rw [if_neg (by omega)] at h1
    exact h1 (by omega) q5
  · rw [if_neg (by omega)] at h2
    exact h2 (by omega) q5
  · rw [if_neg (by omega)] at h3
    exact h3 ⟨q4, by omega⟩
theorem passes_go {w : aW} {mm p : Nat} {C : aIF} {S : aS} {P : aS → Prop} (hp : p < 6) (h : S 28 p ≠ 2 ∨ S 43 p = 0) (hP : psT w mm C p S P) : rMetV w mX10_passes [aO 40 0, aI (p : Int)] C S (rf mm) P :=
  gX10_passes ⟨hp, fun _ => hP, fun q => ⟨fun _ => hP, fun q2 => absurd q2 (by omega)⟩⟩
def RPa (S : aS) (p : Nat) : Prop := (0 ≤ S 29 p ∧ S 5 0 ∣ S 29 p) ∧ (0 ≤ S 31 p ∧ S 31 p ≤ S 30 p ∧ S 30 p ≤ holdF (S 13 p) (S 29 p)) ∧ (S 28 p = 0 ∧ S 37 p = 0 ∧ S 43 p = 0) ∧ (0 ≤ S 32 p ∧ 0 ≤ S 33 p ∧ 0 ≤ S 34 p ∧ S 34 p ≤ S 32 p * S 11 p + S 33 p + 1) ∧ (S 33 p < S 11 p ∧ S 32 p < S 14 p ∧ S 14 p ≤ 40 ∧ S 11 p ≤ 60) ∧ (0 ≤ S 36 p ∧ S 36 p ≤ 8300 * (S 32 p * S 11 p + S 33 p + 1)) ∧ (0 ≤ S 40 p ∧ S 40 p ≤ S 32 p) ∧ S 31 p = sumN (fun j => S 44 (2400 * p + j)) (S 34 p).toNat ∧ ∀ j : Nat, (j : Int) < S 34 p → 0 ≤ S 44 (2400 * p + j) ∧ S 44 (2400 * p + j) ≤ 99
theorem pg_bd {o m r a : Int} (h1 : 0 ≤ o) (h2 : o < r) (h3 : r ≤ 40) (h4 : 0 ≤ a) (h5 : a < m) (h6 : m ≤ 60) : o * m + a + 1 ≤ 2400 := by
  have e1 : (o + 1) * m ≤ 40 * 60 := Int.mul_le_mul (by omega) h6 (by omega) (by omega)
  rw [Int.add_mul, Int.one_mul] at e1
  omega
section R4
variable {C C' : aIF} {S S' : aS} {mm n c p : Nat} {d : Int}
theorem XQ_rm (h : XQ C S mm n c d p) (hp : p < n) (h29 : 0 ≤ S 29 p) : S 29 p + S 25 0 + d ≤ S 6 0 ∧ S 6 0 ≤ 4096 ∧ 0 ≤ S 25 0 ∧ 0 ≤ d := by
  obtain ⟨⟨g1, g2, g3⟩, g4, g5, ⟨g6, g7⟩, g8, g9, g10, g11⟩ := h
  have h1 := sumN_one (f := fun q => S 29 q) hp (fun q hq => by
    by_cases e : q = p
    · rw [e]
      exact h29
    · exact (g7 q hq e).2.1.1)
  have h3 := g1.2.1
  have h4 : (fun q => S 29 q) p = S 29 p := rfl
  omega
/-- the next act of the row -/
theorem XR_mid (h : XQ C S mm n c d p) (hp : p < n) (a2 : pru C S p) (ha : RPa S p) (kf : ∀ k i j, ¬ (k = 28 ∧ i = p ∧ j = 7) → C' k i j = C k i j) (kv : C' 28 p 7 = S 33 p + 1) (sf : ∀ f j, ¬ (f = 33 ∧ j = p) → S' f j = S f j) (sv : S' 33 p = S 33 p + 1) (hm : S 33 p + 1 < S 11 p) : XR C' S' mm n c d ∧ fp C S C' S' p := by
  have ff : fp C S C' S' p := ⟨fun k i j z => kf k i j (by omega), fun j z => kf _ _ _ (by omega), ⟨fun q j z => ⟨kf _ _ _ (by omega), kf _ _ _ (by omega), kf _ _ _ (by omega)⟩, kf _ _ _ (by omega)⟩, fun f j z => sf f j (by omega), fun f q z z1 z2 => sf f q (by omega), fun j z => sf _ _ (by omega)⟩
  obtain ⟨o1, o2, o3, o4, o5, o6, o7, o8⟩ := ha
  have pb := pg_bd o4.1 o5.2.1 o5.2.2.1 o4.2.1 o5.1 o5.2.2.2
  refine ⟨XR_of (XQ_u h hp ff (fun k i j z1 z2 => kf k i j (by omega)) ⟨sf _ _ (by omega), sf _ _ (by omega), fun j => sf _ _ (by omega)⟩ ?_ ?_ ?_ h.2.2.2.2.2.2.1.2) ?_ ?_, ff⟩
  · rw [kf _ _ _ (by omega), sf _ _ (by omega)]
    exact h.2.2.2.2.1.2
  · rw [sf _ _ (by omega)]
    exact h.2.2.2.2.2.1
  · rw [sf _ _ (by omega), sf _ _ (by omega)]
  · obtain ⟨⟨b1, b2, b3, b4, b5, b6, b7, b8⟩, ⟨b9, b10, b11, b12, b13, b14, b15⟩, b16, b17, b18, b19⟩ := id a2
    refine ⟨⟨?_, ?_, ?_, ?_, ?_, ?_, ?_, ?_⟩, ⟨?_, ?_, ?_, ?_, ?_, ?_, ?_⟩, ?_, ?_, ?_, pru_ring a2 (fun j => kf 30 p j (by omega)) (sf 34 p (by omega)) (fun j => sf 44 j (by omega))⟩
    · rw [kf 28 p 3 (by omega), sf 28 p (by omega)]; exact b1
    · rw [kf 28 p 4 (by omega), sf 29 p (by omega)]; exact b2
    · rw [kf 28 p 5 (by omega), sf 30 p (by omega)]; exact b3
    · rw [kf 29 p 2 (by omega), sf 31 p (by omega)]; exact b4
    · rw [kf 28 p 6 (by omega), sf 32 p (by omega)]; exact b5
    · rw [kv, sv]
    · rw [kf 29 p 1 (by omega), sf 34 p (by omega)]; exact b7
    · rw [kf 28 p 8 (by omega), sf 35 p (by omega)]; exact b8
    · rw [kf 28 p 9 (by omega), sf 36 p (by omega)]; exact b9
    · rw [kf 28 p 11 (by omega), sf 37 p (by omega)]; exact b10
    · rw [kf 28 p 10 (by omega), sf 38 p (by omega)]; exact b11
    · rw [kf 28 p 16 (by omega), sf 40 p (by omega)]; exact b12
    · rw [kf 28 p 15 (by omega), sf 41 p (by omega)]; exact b13
    · rw [kf 28 p 12 (by omega), sf 42 p (by omega)]; exact b14
    · rw [kf 28 p 13 (by omega), sf 43 p (by omega)]; exact b15
    · rw [kf 28 p 14 (by omega), sf 39 p (by omega), sf 43 p (by omega)]; exact b16
    · rw [sf 42 p (by omega)]; exact b17
    · rw [sf 43 p (by omega)]; exact b18
  · unfold RP
    rw [sf 28 p (by omega), sf 29 p (by omega), sf 30 p (by omega), sf 31 p (by omega), sf 32 p (by omega), sv, sf 34 p (by omega), sf 36 p (by omega), sf 37 p (by omega), sf 39 p (by omega), sf 40 p (by omega), sf 43 p (by omega), sf 5 0 (by omega), sf 6 0 (by omega), sf 11 p (by omega), sf 13 p (by omega), sf 14 p (by omega)]
    have e44 : ∀ j, S' 44 j = S 44 j := fun j => sf 44 j (by omega)
    simp only [e44]
    exact ⟨o1, o2, by omega, ⟨by omega, by omega, by omega, by omega, by omega, by omega⟩, fun _ => ⟨hm, o5.2.1⟩, fun _ => o3.2, fun z => absurd z (by omega), fun z => absurd z (by omega), fun z => absurd z (by omega), fun z => absurd z (by omega), ⟨o6.1, by omega, fun _ => by omega, o7.1, o7.2⟩, fun _ => o8⟩
/-- a round's end -/
theorem XQ_end (h : XQ C S mm n c d p) (hp : p < n) (a2 : pru C S p) (ha : RPa S p) {r : Int} (kf : ∀ k i j, ¬ (k = 28 ∧ i = p ∧ (j = 7 ∨ j = 16 ∨ j = 15 ∨ j = 6)) → C' k i j = C k i j) (k7 : C' 28 p 7 = 0) (k16 : C' 28 p 16 = r) (k15 : C' 28 p 15 = S 31 p) (k6 : C' 28 p 6 = S 32 p + 1) (sf : ∀ f j, ¬ (j = p ∧ (f = 33 ∨ f = 40 ∨ f = 41 ∨ f = 32)) → S' f j = S f j) (s33 : S' 33 p = 0) (s40 : S' 40 p = r) (s41 : S' 41 p = S 31 p) (s32 : S' 32 p = S 32 p + 1) (hm : S 11 p ≤ S 33 p + 1) (hr : 0 ≤ r ∧ r ≤ S 32 p + 1) : XQ C' S' mm n c d p ∧ pru C' S' p ∧ fp C S C' S' p ∧ (S 32 p + 1 < S 14 p → RP S' p) ∧ RPo S' p ∧ S' 37 p = 0 ∧ S' 31 p = S 31 p ∧ S' 42 p = S 42 p ∧ S' 14 p = S 14 p := by
  have ff : fp C S C' S' p := ⟨fun k i j z => kf k i j (by omega), fun j z => kf _ _ _ (by omega), ⟨fun q j z => ⟨kf _ _ _ (by omega), kf _ _ _ (by omega), kf _ _ _ (by omega)⟩, kf _ _ _ (by omega)⟩, fun f j z => sf f j (by omega), fun f q z z1 z2 => sf f q (by omega), fun j z => sf _ _ (by omega)⟩
  obtain ⟨o1, o2, o3, o4, o5, o6, o7, o8⟩ := ha
  have pb := pg_bd o4.1 o5.2.1 o5.2.2.1 o4.2.1 o5.1 o5.2.2.2
  have pe : (S 32 p + 1) * S 11 p = S 32 p * S 11 p + S 11 p := by rw [Int.add_mul, Int.one_mul]
  refine ⟨XQ_u h hp ff (fun k i j z1 z2 => kf k i j (by omega)) ⟨sf _ _ (by omega), sf _ _ (by omega), fun j => sf _ _ (by omega)⟩ ?_ ?_ ?_ h.2.2.2.2.2.2.1.2, ?_, ff, fun hl => ?_, ?_, ?_, sf _ _ (by omega), sf _ _ (by omega), sf _ _ (by omega)⟩
  · rw [kf _ _ _ (by omega), sf _ _ (by omega)]
    exact h.2.2.2.2.1.2
  · rw [sf _ _ (by omega)]
    exact h.2.2.2.2.2.1
  · rw [sf _ _ (by omega), sf _ _ (by omega)]
  · obtain ⟨⟨b1, b2, b3, b4, b5, b6, b7, b8⟩, ⟨b9, b10, b11, b12, b13, b14, b15⟩, b16, b17, b18, b19⟩ := id a2
    refine ⟨⟨?_, ?_, ?_, ?_, ?_, ?_, ?_, ?_⟩, ⟨?_, ?_, ?_, ?_, ?_, ?_, ?_⟩, ?_, ?_, ?_, pru_ring a2 (fun j => kf 30 p j (by omega)) (sf 34 p (by omega)) (fun j => sf 44 j (by omega))⟩
    · rw [kf 28 p 3 (by omega), sf 28 p (by omega)]; exact b1
    · rw [kf 28 p 4 (by omega), sf 29 p (by omega)]; exact b2
    · rw [kf 28 p 5 (by omega), sf 30 p (by omega)]; exact b3
    · rw [kf 29 p 2 (by omega), sf 31 p (by omega)]; exact b4
    · rw [k6, s32]
    · rw [k7, s33]
    · rw [kf 29 p 1 (by omega), sf 34 p (by omega)]; exact b7
    · rw [kf 28 p 8 (by omega), sf 35 p (by omega)]; exact b8
    · rw [kf 28 p 9 (by omega), sf 36 p (by omega)]; exact b9
    · rw [kf 28 p 11 (by omega), sf 37 p (by omega)]; exact b10
    · rw [kf 28 p 10 (by omega), sf 38 p (by omega)]; exact b11
    · rw [k16, s40]
    · rw [k15, s41]
    · rw [kf 28 p 12 (by omega), sf 42 p (by omega)]; exact b14
    · rw [kf 28 p 13 (by omega), sf 43 p (by omega)]; exact b15
    · rw [kf 28 p 14 (by omega), sf 39 p (by omega), sf 43 p (by omega)]; exact b16
    · rw [sf 42 p (by omega)]; exact b17
    · rw [sf 43 p (by omega)]; exact b18
  · unfold RP
    rw [sf 28 p (by omega), sf 29 p (by omega), sf 30 p (by omega), sf 31 p (by omega), s32, s33, sf 34 p (by omega), sf 36 p (by omega), sf 37 p (by omega), sf 39 p (by omega), s40, sf 43 p (by omega), sf 5 0 (by omega), sf 6 0 (by omega), sf 11 p (by omega), sf 13 p (by omega), sf 14 p (by omega)]
    have e44 : ∀ j, S' 44 j = S 44 j := fun j => sf 44 j (by omega)
    simp only [e44]
    exact ⟨o1, o2, by omega, ⟨by omega, by omega, by omega, by omega, by omega, by omega⟩, fun _ => ⟨by omega, hl⟩, fun _ => o3.2, fun z => absurd z (by omega), fun z => absurd z (by omega), fun z => absurd z (by omega), fun z => absurd z (by omega), ⟨o6.1, by omega, fun _ => by omega, hr.1, hr.2⟩, fun _ => o8⟩
  · unfold RPo
    rw [s33, s40, s32, sf 29 p (by omega), sf 5 0 (by omega), sf 43 p (by omega), sf 34 p (by omega), sf 36 p (by omega), sf 11 p (by omega)]
    exact ⟨o1, o3.2.2, ⟨by omega, by omega, by omega, by omega, by omega, by omega⟩, by omega, by omega, by omega, by omega⟩
  · rw [sf _ _ (by omega)]
    exact o3.2.1
/-- a leaker found out -/
theorem XQ_leak (h : XQ C S mm n c d p) (hp : p < n) (a2 : pru C S p) (kf : ∀ k i j, ¬ (k = 28 ∧ i = p ∧ j = 12) → C' k i j = C k i j) (kv : C' 28 p 12 = 1) (sf : ∀ f j, ¬ (f = 42 ∧ j = p) → S' f j = S f j) (sv : S' 42 p = 1) : XQ C' S' mm n c d p ∧ pru C' S' p ∧ fp C S C' S' p ∧ (RP S p → RP S' p) ∧ (RPo S p → RPo S' p) := by
  have ff : fp C S C' S' p := ⟨fun k i j z => kf k i j (by omega), fun j z => kf _ _ _ (by omega), ⟨fun q j z => ⟨kf _ _ _ (by omega), kf _ _ _ (by omega), kf _ _ _ (by omega)⟩, kf _ _ _ (by omega)⟩, fun f j z => sf f j (by omega), fun f q z z1 z2 => sf f q (by omega), fun j z => sf _ _ (by omega)⟩
  refine ⟨XQ_u h hp ff (fun k i j z1 z2 => kf k i j (by omega)) ⟨sf _ _ (by omega), sf _ _ (by omega), fun j => sf _ _ (by omega)⟩ ?_ ?_ ?_ h.2.2.2.2.2.2.1.2, ?_, ff, fun z => ?_, fun z => ?_⟩
  · rw [kf _ _ _ (by omega), sf _ _ (by omega)]
    exact h.2.2.2.2.1.2
  · rw [sf _ _ (by omega)]
    exact h.2.2.2.2.2.1
  · rw [sf _ _ (by omega), sf _ _ (by omega)]
  · obtain ⟨⟨b1, b2, b3, b4, b5, b6, b7, b8⟩, ⟨b9, b10, b11, b12, b13, b14, b15⟩, b16, b17, b18, b19⟩ := id a2
    refine ⟨⟨?_, ?_, ?_, ?_, ?_, ?_, ?_, ?_⟩, ⟨?_, ?_, ?_, ?_, ?_, ?_, ?_⟩, ?_, ?_, ?_, pru_ring a2 (fun j => kf 30 p j (by omega)) (sf 34 p (by omega)) (fun j => sf 44 j (by omega))⟩
    · rw [kf 28 p 3 (by omega), sf 28 p (by omega)]; exact b1
    · rw [kf 28 p 4 (by omega), sf 29 p (by omega)]; exact b2
    · rw [kf 28 p 5 (by omega), sf 30 p (by omega)]; exact b3
    · rw [kf 29 p 2 (by omega), sf 31 p (by omega)]; exact b4
    · rw [kf 28 p 6 (by omega), sf 32 p (by omega)]; exact b5
    · rw [kf 28 p 7 (by omega), sf 33 p (by omega)]; exact b6
    · rw [kf 29 p 1 (by omega), sf 34 p (by omega)]; exact b7
    · rw [kf 28 p 8 (by omega), sf 35 p (by omega)]; exact b8
    · rw [kf 28 p 9 (by omega), sf 36 p (by omega)]; exact b9
    · rw [kf 28 p 11 (by omega), sf 37 p (by omega)]; exact b10
    · rw [kf 28 p 10 (by omega), sf 38 p (by omega)]; exact b11
    · rw [kf 28 p 16 (by omega), sf 40 p (by omega)]; exact b12
    · rw [kf 28 p 15 (by omega), sf 41 p (by omega)]; exact b13
    · rw [kv, sv]
    · rw [kf 28 p 13 (by omega), sf 43 p (by omega)]; exact b15
    · rw [kf 28 p 14 (by omega), sf 39 p (by omega), sf 43 p (by omega)]; exact b16
    · rw [sv]; exact Or.inr rfl
    · rw [sf 43 p (by omega)]; exact b18
  · unfold RP at z ⊢
    rw [sf 28 p (by omega), sf 29 p (by omega), sf 30 p (by omega), sf 31 p (by omega), sf 32 p (by omega), sf 33 p (by omega), sf 34 p (by omega), sf 36 p (by omega), sf 37 p (by omega), sf 39 p (by omega), sf 40 p (by omega), sf 43 p (by omega), sf 5 0 (by omega), sf 6 0 (by omega), sf 11 p (by omega), sf 13 p (by omega), sf 14 p (by omega)]
    have e44 : ∀ j, S' 44 j = S 44 j := fun j => sf 44 j (by omega)
    simp only [e44]
    exact z
  · unfold RPo at z ⊢
    rw [sf 29 p (by omega), sf 5 0 (by omega), sf 43 p (by omega), sf 34 p (by omega), sf 36 p (by omega), sf 11 p (by omega), sf 32 p (by omega), sf 33 p (by omega), sf 40 p (by omega)]
    exact z
theorem RPo_log {b u x : Int} (h : RPo S p) : RPo (lgS S b u x) p := by
  unfold RPo at *
  rw [lgS_o (by omega), lgS_o (by omega), lgS_o (by omega), lgS_o (by omega), lgS_o (by omega), lgS_o (by omega), lgS_o (by omega), lgS_o (by omega), lgS_o (by omega)]
  exact h
end R4
