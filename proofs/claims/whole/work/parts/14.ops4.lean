/-! terms, program -/
section OP4
variable {w : aW} {mm t : Nat} {C : aIF} {S : aS}
def sound (a b c : Int) : Prop := (1 ≤ a ∧ a ≤ 64) ∧ (a ≤ b ∧ b ≤ 4096) ∧ b % a = 0 ∧ b / a ≤ 64 ∧ (0 ≤ c ∧ c ≤ b) ∧ c % a = 0
theorem sX5_areSound {a b c : Int} {P : Int → aIF → Prop} (h1 : sound a b c → P 1 C) (h0 : ¬ sound a b c → P 0 C) : kMetI w mX5_areSound [aI a, aI b, aI c] C S (rf mm) P := by
  unfold sound at h1 h0
  refine gX5_areSound ?_
  repeat' (first | with_reducible apply And.intro | with_reducible intro _)
  all_goals first | omega | (apply h0; omega) | (apply h1; omega)
theorem sX9_terms_104 {p1 p2 p3 p4 p5 : Int} {P : Int → aIF → Prop} : ∀ (n l : Nat) (C : aIF), C 1 0 5 ≤ 6 → C 1 0 5 = (l : Int) + n → (∀ C' : aIF, (∀ k i j, ¬ (k = 6 ∧ j = 6) → C' k i j = C k i j) → (∀ i : Nat, l ≤ i → (i : Int) < C 1 0 5 → C' 6 i 6 = 0) → (∀ i : Nat, i < l → C' 6 i 6 = C 6 i 6) → P 0 C') → kRunI w mX9_terms 104 [some (aO 1 0), some (aI p1), some (aI p2), some (aI p3), some (aI p4), some (aI p5), some (aI (l : Int))] [] C S (rf mm) P
  | 0, l, C, hb, e, hP => gX9_terms_104 ⟨fun _ => hP C (fun _ _ _ _ => rfl) (fun i h1 h2 => absurd h2 (by omega)) (fun _ _ => rfl), fun q => absurd q (by omega)⟩
  | n + 1, l, C, hb, e, hP => by
    have e1 : uI C 6 l 6 0 1 0 5 = C 1 0 5 := uI_k rfl
    refine gX9_terms_104 ⟨fun q => absurd q (by omega), fun _ => ⟨by omega, by omega, sX9_terms_104 n (l + 1) _ (by rw [e1]; exact hb) (by rw [e1]; omega) (fun C' h1 h2 h3 => hP C' (fun k i j h => ?_) (fun i g1 g2 => ?_) (fun i g => ?_))⟩⟩
    · rw [h1 k i j h]
      exact uI_no (fun z => h ⟨z.1, z.2.2⟩)
    · by_cases ei : i = l
      · subst ei
        rw [h3 i (by omega)]
        exact uI_s
      · exact h2 i (by omega) (by rw [e1]; exact g2)
    · rw [h3 i (by omega)]
      exact uI_no (by omega)
theorem opTerms {a b c d e : Int} (h : Inv C S mm t) : opOK w mX9_terms mX10_terms [aI a, aI b, aI c, aI d, aI e] C S mm t := by
  have h9 := Inv_0 (Inv_t (Nat.le_succ t) h)
  have hr := h.2.2.2.2.2.2.1
  have hr1 := hr.1.1
  have hp := h.2.2.2.1.1
  have bad : ∀ {x : Int}, S 22 0 = 0 → ¬ (sound a b c ∧ (1 ≤ d ∧ d ≤ 1000) ∧ 0 ≤ e ∧ e ≤ 9) → x = -2 → rMetI w mX10_terms (aO 40 0 :: [aI a, aI b, aI c, aI d, aI e]) C S (rf mm) (fun y S' => y = x ∧ Inv C S' mm (t + 1)) := by
    intro x g0 g hx
    subst hx
    unfold sound at g
    refine gX10_terms ⟨fun _ => ?_, fun q => absurd g0 q⟩
    refine sX10_in (fun z1 z2 => ⟨fun q => absurd q (by decide), fun _ => ?_⟩) (fun _ => ⟨fun _ => ⟨rfl, h9⟩, fun q => absurd rfl q⟩)
    refine sX10_in (fun z3 z4 => ⟨fun q => absurd q (by decide), fun _ => ⟨by omega, fun _ => ⟨rfl, h9⟩, fun z5 => ⟨by omega, fun _ => ⟨rfl, h9⟩, fun z6 => ?_⟩⟩⟩) (fun _ => ⟨fun _ => ⟨rfl, h9⟩, fun q => absurd rfl q⟩)
    refine sX10_in (fun z7 z8 => ⟨fun q => absurd q (by decide), fun _ => ⟨by omega, fun _ => ⟨rfl, h9⟩, fun z9 => ?_⟩⟩) (fun _ => ⟨fun _ => ⟨rfl, h9⟩, fun q => absurd rfl q⟩)
    refine sX10_in (fun z10 z11 => ⟨fun q => absurd q (by decide), fun _ => ?_⟩) (fun _ => ⟨fun _ => ⟨rfl, h9⟩, fun q => absurd rfl q⟩)
    exact sX10_in (fun z12 z13 => absurd ⟨⟨⟨z1, z2⟩, ⟨z3, z4⟩, z5, by omega, ⟨z7, z8⟩, z9⟩, ⟨z10, z11⟩, z12, z13⟩ g) (fun _ => ⟨fun q => absurd rfl q, fun _ => ⟨rfl, h9⟩⟩)
  refine gX9_terms ⟨fun g => ?_, fun g => gX10_terms ⟨fun q => absurd q (by omega), fun _ => ⟨rfl, h9⟩⟩⟩
  have g0 : S 22 0 = 0 := by omega
  refine sX5_areSound (fun gs => ⟨fun q => absurd q (by decide), fun _ => ⟨fun q => bad g0 (by omega) rfl, fun q1 => ⟨fun q => bad g0 (by omega) rfl, fun q2 => ⟨fun q => bad g0 (by omega) rfl, fun q3 => ⟨fun q4 => ?_, fun q => bad g0 (by omega) rfl⟩⟩⟩⟩⟩) (fun gs => ⟨fun _ => bad g0 (fun z => gs z.1) rfl, fun q => absurd rfl q⟩)
  have hC5 : uI (uI (uI (uI (uI (uI C 9 0 0 a) 9 0 1 b) 9 0 2 c) 9 0 3 d) 9 0 4 e) 10 0 4 0 1 0 5 = C 1 0 5 := by simp [uI]
  refine sX9_terms_104 (S 10 0).toNat 0 _ (by rw [hC5]; omega) (by rw [hC5]; omega) (fun C' k1 k2 k3 => ?_)
  rw [hC5] at k2
  obtain ⟨s1, s2, s3, s4, s5, s6⟩ := id gs
  refine gX10_terms ⟨fun _ => ?_, fun q => absurd g0 q⟩
  refine sX10_in (fun z1 z2 => ⟨fun q => absurd q (by decide), fun _ => ?_⟩) (fun q => absurd s1 q)
  refine sX10_in (fun z3 z4 => ⟨fun q => absurd q (by decide), fun _ => ⟨by omega, fun q => absurd s3 q, fun z5 => ⟨by omega, fun q => absurd q (by omega), fun z6 => ?_⟩⟩⟩) (fun q => absurd s2 q)
  refine sX10_in (fun z7 z8 => ⟨fun q => absurd q (by decide), fun _ => ⟨by omega, fun q => absurd s6 q, fun z9 => ?_⟩⟩) (fun q => absurd s5 q)
  refine sX10_in (fun z10 z11 => ⟨fun q => absurd q (by decide), fun _ => ?_⟩) (fun q => absurd ⟨by omega, by omega⟩ q)
  refine sX10_in (fun z12 z13 => ⟨fun _ => ⟨rfl, ?_⟩, fun q => absurd q (by decide)⟩) (fun q => absurd ⟨by omega, by omega⟩ q)
  obtain ⟨a1, b1, c1, d1, e1, f1, g1, h1, i1, i2⟩ := h
  have kC : ∀ k i j, k ≠ 9 → k ≠ 10 → ¬ (k = 6 ∧ j = 6) → C' k i j = C k i j := fun k i j q1 q2 q3 => by
    rw [k1 k i j q3]
    simp [uI, q1, q2]
  have kS : ∀ f j, (f < 5 ∨ 9 < f) → f ≠ 0 → f ≠ 17 → sU (sU (sU (sU (sU (sU (sU S 0 0 0) 5 0 a) 6 0 b) 7 0 c) 8 0 d) 9 0 e) 17 0 0 f j = S f j := fun f j q1 q2 q3 => by
    simp only [sU]
    rw [if_neg (by omega), if_neg (by omega), if_neg (by omega), if_neg (by omega), if_neg (by omega), if_neg (by omega), if_neg (by omega)]
  refine ⟨?_, ?_, slR_cg (fun _ _ => kC _ _ _ (by omega) (by omega) (by omega)) (fun _ _ => kC _ _ _ (by omega) (by omega) (by omega)) (fun f j q1 q2 => kS _ _ (by omega) (by omega) (by omega)) c1, prR_cg (kC _ _ _ (by omega) (by omega) (by omega)) (fun _ _ _ => kC _ _ _ (by omega) (by omega) (by omega)) (fun _ _ => kC _ _ _ (by omega) (by omega) (by omega)) (kS _ _ (by omega) (by omega) (by omega)) (fun f j q1 q2 => kS _ _ (by omega) (by omega) (by omega)) d1, fun p hp1 hp2 => ?_, ⟨⟨?_, ?_⟩, fun q => ?_⟩,
    ruR_cg (kC _ _ _ (by omega) (by omega) (by omega)) (kC _ _ _ (by omega) (by omega) (by omega)) (fun _ _ => kC _ _ _ (by omega) (by omega) (by omega)) (fun _ _ => kC _ _ _ (by omega) (by omega) (by omega)) (fun _ _ => kC _ _ _ (by omega) (by omega) (by omega)) (kS _ _ (by omega) (by omega) (by omega)) (kS _ _ (by omega) (by omega) (by omega)) (fun f j q1 q2 => kS _ _ (by omega) (by omega) (by omega)) g1,
    lgR_cg (Nat.le_succ t) (kC _ _ _ (by omega) (by omega) (by omega)) (kC _ _ _ (by omega) (by omega) (by omega)) (kC _ _ _ (by omega) (by omega) (by omega)) (fun k j q1 q2 => kC _ _ _ (by omega) (by omega) (by omega)) (kS _ _ (by omega) (by omega) (by omega)) (kS _ _ (by omega) (by omega) (by omega)) (kS _ _ (by omega) (by omega) (by omega)) (kS _ _ (by omega) (by omega) (by omega)) (fun _ => kS _ _ (by omega) (by omega) (by omega)) h1, fun q => ?_, i2⟩
  · unfold tOK
    simp only [sU, and_self, if_true]
    simp
    exact ⟨s1, s2, s3, s4, s5, s6, by omega, by omega⟩
  · unfold tR
    have q9 : ∀ j, C' 9 0 j = uI (uI (uI (uI (uI (uI C 9 0 0 a) 9 0 1 b) 9 0 2 c) 9 0 3 d) 9 0 4 e) 10 0 4 0 9 0 j := fun j => k1 9 0 j (by omega)
    simp [q9, uI, sU]
  · rw [kS 10 0 (by omega) (by omega) (by omega)] at hp2
    exact Or.inl (k2 p (by omega) (by omega))
  · rw [k1 10 0 4 (by omega)]
    simp [uI, sU]
  · simp [sU]
  · exact absurd q (by simp [sU])
  · rw [kS 22 0 (by omega) (by omega) (by omega), g0] at q
    exact absurd q (by decide)
end OP4
