/-! program -/
section OP5
variable {w : aW} {mm t : Nat} {C : aIF} {S : aS}
theorem alR_cg {cp mo : Int} {act act' : Nat → Int} : ∀ (m k : Nat) (s : alS), (∀ q, k ≤ q → q < k + m → act' q = act q) → alR cp mo act' k m s = alR cp mo act k m s
  | 0, _, _, _ => rfl
  | m + 1, k, s, h => by
    simp only [alR]
    rw [h k (by omega) (by omega)]
    cases alA cp mo (act k) s with
    | none => rfl
    | some s' => exact alR_cg m (k + 1) s' (fun q h1 h2 => h q (by omega) (by omega))
theorem alQ_cg {cp mo : Int} {act act' : Nat → Int} {ma : Nat} (h : ∀ q, q < ma → act' q = act q) : ∀ (n : Nat) (s : alS), alQ cp mo act' ma n s = alQ cp mo act ma n s
  | 0, _ => rfl
  | n + 1, s => by
    simp only [alQ]
    rw [alR_cg ma 0 s (fun q h1 h2 => h q (by omega))]
    cases alR cp mo act 0 ma s with
    | none => rfl
    | some s' => exact alQ_cg h n s'
theorem aloneF_cg {cp : Int} {ro ma : Nat} {act act' : Nat → Int} {r : Int} (h : ∀ q, q < ma → act' q = act q) : aloneF cp ro ma act' r = aloneF cp ro ma act r := by
  unfold aloneF
  rw [alQ_cg h]
theorem l2i_small {v : Int} (h : i32 v) : (Int64.ofInt v).toInt32.toInt = v := by
  rw [Int64.toInt_toInt32, i64_ti (i32_64 h), i32_bm h]
theorem sX3_isAct {v : Int} {P : Int → aIF → Prop} (h1 : actOK v → P 1 C) (h0 : ¬ actOK v → P 0 C) : kMetI w mX3_isAct [aL v] C S (rf mm) P := by
  unfold actOK at h1 h0
  refine gX3_isAct ?_
  repeat' (first | with_reducible apply And.intro | with_reducible intro _)
  all_goals first | (apply h0; omega) | (apply h1; omega)
theorem sX3_holds_2 {i : Nat} (hi : i < 4) {P : Int → aIF → Prop} : ∀ (n l : Nat), C 3 i 2 ≤ 60 → C 3 i 2 = (l : Int) + n → ((∀ k : Nat, l ≤ k → (k : Int) < C 3 i 2 → actOK (C 4 i k)) → P 1 C) → (¬ (∀ k : Nat, l ≤ k → (k : Int) < C 3 i 2 → actOK (C 4 i k)) → P 0 C) → kRunI w mX3_holdsActsAlone 2 [some (aO 3 i), some (aI (l : Int))] [] C S (rf mm) P
  | 0, l, hb, e, h1, h0 => gX3_holdsActsAlone_2 hi ⟨fun _ => h1 (fun k g1 g2 => absurd g2 (by omega)), fun q => absurd q (by omega)⟩
  | n + 1, l, hb, e, h1, h0 => by
    refine gX3_holdsActsAlone_2 hi ⟨fun q => absurd q (by omega), fun _ => ⟨by omega, sX3_isAct (fun ha => ⟨fun _ => ⟨by omega, sX3_holds_2 hi n (l + 1) hb (by omega) (fun g => h1 (fun k g1 g2 => ?_)) (fun g => h0 (fun z => g (fun k g1 g2 => z k (by omega) g2)))⟩, fun q => absurd q (by decide)⟩) (fun ha => ⟨fun q => absurd rfl q, fun _ => h0 (fun z => ha (z l (by omega) (by omega)))⟩)⟩⟩
    by_cases ek : k = l
    · subst ek; exact ha
    · exact g k (by omega) g2
theorem sX1_become_11 {i s : Nat} (hi : i < 6) (hs : s < 4) {cp rd fl : Int} (hcp : cp = 0 ∨ cp = 1) {P : aIF → Prop} : ∀ (n l : Nat) (C : aIF), C 6 i 1 ≤ 60 → C 6 i 1 = (l : Int) + n → (∀ C' : aIF, (∀ k a j, ¬ (k = 6 ∧ a = i) → ¬ (k = 7 ∧ a = i) → C' k a j = C k a j) → C' 6 i 1 = C 6 i 1 → C' 6 i 2 = cp → C' 6 i 3 = rd → C' 6 i 4 = fl → C' 6 i 6 = 0 → (∀ k : Nat, k < l → C' 7 i k = C 7 i k) → (∀ k : Nat, l ≤ k → (k : Int) < C 6 i 1 → C' 7 i k = (Int64.ofInt (C 4 s k)).toInt32.toInt) → P C') → kRunV w mX1_become 11 [some (aO 6 i), some (aO 3 s), some (aI cp), some (aI rd), some (aI fl), some (aI (l : Int))] [] C S (rf mm) P
  | 0, l, C, hb, e, hP => by
    refine gX1_become_11 hi hs ⟨fun _ => ⟨hcp, hP _ (fun k a j h1 h2 => ?_) (by simp [uI]) (by simp [uI]) (by simp [uI]) (by simp [uI]) (by simp [uI]) (fun k _ => by simp [uI]) (fun k g1 g2 => absurd g2 (by omega))⟩, fun q => absurd q (by omega)⟩
    rw [uI_no (fun z => h1 ⟨z.1, z.2.1⟩), uI_no (fun z => h1 ⟨z.1, z.2.1⟩), uI_no (fun z => h1 ⟨z.1, z.2.1⟩), uI_no (fun z => h1 ⟨z.1, z.2.1⟩)]
  | n + 1, l, C, hb, e, hP => by
    have e1 : ∀ a j, uI C 7 i l ((Int64.ofInt (C 4 s l)).toInt32.toInt) 6 a j = C 6 a j := fun a j => uI_k rfl
    refine gX1_become_11 hi hs ⟨fun q => absurd q (by omega), fun _ => ⟨by omega, by omega, sX1_become_11 hi hs hcp n (l + 1) _ (by rw [e1]; exact hb) (by rw [e1]; omega) (fun C' k1 k2 k3 k4 k5 k6 k7 k8 => hP C' (fun k a j h1 h2 => ?_) (by rw [k2, e1]) k3 k4 k5 k6 (fun k hk => ?_) (fun k g1 g2 => ?_))⟩⟩
    · rw [k1 k a j h1 h2]
      exact uI_no (fun z => h2 ⟨z.1, z.2.1⟩)
    · rw [k7 k (by omega)]
      exact uI_no (by omega)
    · by_cases ek : k = l
      · subst ek
        rw [k7 k (by omega)]
        exact uI_s
      · rw [k8 k (by omega) (by rw [e1]; exact g2), uI_k rfl]
theorem sX10_program_95 {s : Nat} (hs : s < 4) {p2 p3 p4 : Int} {P : Int → aS → Prop} : ∀ (n l : Nat), S 2 s ≤ 60 → S 2 s = (l : Int) + n → ((∀ k : Nat, l ≤ k → (k : Int) < S 2 s → actOK (S 3 (60 * s + k))) → rRunI w mX10_program 168 [some (aO 40 0), some (aI (s : Int)), some (aI p2), some (aI p3), some (aI p4), some (aI 0), none, none] [] C S (rf mm) P) → (¬ (∀ k : Nat, l ≤ k → (k : Int) < S 2 s → actOK (S 3 (60 * s + k))) → P (-4) S) → rRunI w mX10_program 95 [some (aO 40 0), some (aI (s : Int)), some (aI p2), some (aI p3), some (aI p4), some (aI (l : Int)), none, none] [] C S (rf mm) P
  | 0, l, hb, e, h1, h0 => gX10_program_95 ⟨hs, fun _ => h1 (fun k g1 g2 => absurd g2 (by omega)), fun q => absurd q (by omega)⟩
  | n + 1, l, hb, e, h1, h0 => by
    have no : ¬ actOK (S 3 (60 * s + l)) → P (-4) S := fun ha => h0 (fun z => ha (z l (by omega) (by omega)))
    have yes : actOK (S 3 (60 * s + l)) → rRunI w mX10_program 95 [some (aO 40 0), some (aI (s : Int)), some (aI p2), some (aI p3), some (aI p4), some (aI ((l + 1 : Nat) : Int)), none, none] [] C S (rf mm) P := fun ha => sX10_program_95 hs n (l + 1) hb (by omega) (fun g => h1 (fun k g1 g2 => by
      by_cases ek : k = l
      · subst ek; exact ha
      · exact g k (by omega) g2)) (fun g => h0 (fun z => g (fun k g1 g2 => z k (by omega) g2)))
    unfold actOK at no yes
    refine gX10_program_95 ⟨hs, fun q => absurd q (by omega), fun _ => ⟨by omega, by omega, by omega, ?_⟩⟩
    repeat' (first | with_reducible apply And.intro | with_reducible intro _)
    all_goals first | omega | (apply no; omega) | (apply yes; omega)
theorem sX10_program_168 {s q : Nat} (hs : s < 4) (hq : q < 6) {p2 p3 p4 : Int} {P : Int → aS → Prop} : ∀ (n l : Nat) (S : aS), S 10 0 = (q : Int) → S 2 s ≤ 60 → S 2 s = (l : Int) + n → (∀ S' : aS, (∀ f j, f ≠ 10 → f ≠ 11 → f ≠ 12 → f ≠ 13 → f ≠ 14 → f ≠ 15 → f ≠ 17 → S' f j = S f j) → (∀ f j, 11 ≤ f → f ≤ 15 → f ≠ 12 → j ≠ q → S' f j = S f j) → (∀ j, (j < 60 * q ∨ 60 * q + 60 ≤ j) → S' 12 j = S 12 j) → (∀ k : Nat, k < l → S' 12 (60 * q + k) = S 12 (60 * q + k)) → (∀ k : Nat, l ≤ k → (k : Int) < S 2 s → S' 12 (60 * q + k) = (Int64.ofInt (S 3 (60 * s + k))).toInt32.toInt) → S' 11 q = S 2 s → S' 13 q = p2 → S' 14 q = p3 → S' 15 q = p4 → S' 10 0 = (q : Int) + 1 → S' 17 0 = 0 → P (q : Int) S') → rRunI w mX10_program 168 [some (aO 40 0), some (aI (s : Int)), some (aI p2), some (aI p3), some (aI p4), some (aI (l : Int)), none, none] [] C S (rf mm) P
  | 0, l, S, h10, hb, e, hP => by
    refine gX10_program_168 ⟨hs, fun _ => ⟨by omega, by omega, by omega, ?_⟩, fun q => absurd q (by omega)⟩
    rw [h10]
    have et : ((q : Int)).toNat = q := rfl
    rw [et, show (q : Int) + 1 - 1 = (q : Int) by omega]
    refine hP _ (fun f j q1 q2 q3 q4 q5 q6 q7 => ?_) (fun f j q1 q2 q3 q4 => ?_) (fun j _ => ?_) (fun k _ => ?_) (fun k g1 g2 => absurd g2 (by omega)) ?_ ?_ ?_ ?_ ?_ ?_
    · simp [sU, q1, q2, q4, q5, q6, q7]
    · simp only [sU]
      rw [if_neg (by omega), if_neg (by omega), if_neg (by omega), if_neg (by omega), if_neg (by omega), if_neg (by omega)]
    · simp [sU]
    · simp [sU]
    · simp [sU]
    · simp [sU]
    · simp [sU]
    · simp [sU]
    · simp [sU]
    · simp [sU]
  | n + 1, l, S, h10, hb, e, hP => by
    have et : (60 * S 10 0 + (l : Int)).toNat = 60 * q + l := by rw [h10]; omega
    refine gX10_program_168 ⟨hs, fun q => absurd q (by omega), fun _ => ⟨by omega, by omega, by omega, by omega, by omega, by omega, by omega, ?_⟩⟩
    rw [et]
    refine sX10_program_168 hs hq n (l + 1) _ (by rw [sU_f rfl]; exact h10) (by rw [sU_f rfl]; exact hb) (by rw [sU_f rfl]; omega) (fun S' k1 k2 k3 k4 k5 k6 k7 k8 k9 k10 k11 => hP S' (fun f j q1 q2 q3 q4 q5 q6 q7 => ?_) (fun f j q1 q2 q3 q4 => ?_) (fun j hj => ?_) (fun k hk => ?_) (fun k g1 g2 => ?_) ?_ k7 k8 k9 k10 k11)
    · rw [k1 f j q1 q2 q3 q4 q5 q6 q7]
      exact sU_ne (fun z => q3 z.1)
    · rw [k2 f j q1 q2 q3 q4]
      exact sU_ne (fun z => q3 z.1)
    · rw [k3 j hj]
      exact sU_ne (by omega)
    · rw [k4 k (by omega)]
      exact sU_ne (by omega)
    · by_cases ek : k = l
      · subst ek
        rw [k4 k (by omega)]
        exact sU_s
      · rw [k5 k (by omega) (by rw [sU_f rfl]; exact g2), sU_f rfl]
    · rw [k6]
      exact sU_f rfl
theorem opProgram {a b c d : Int} (h : Inv C S mm t) : opOK w mX9_program mX10_program [aI a, aI b, aI c, aI d] C S mm t := by
  have h9 := Inv_0 (Inv_t (Nat.le_succ t) h)
  have hr := h.2.2.2.2.2.2.1
  have hr1 := hr.1.1
  have hs := h.2.2.1
  obtain ⟨hp1, hp2, hp3⟩ := h.2.2.2.1.1
  have qS : ∀ f j, f ≠ 0 → sU S 0 0 0 f j = S f j := fun f j hf => by simp [sU, hf]
  -- the reference, as far as the refusals go
  have bad : ∀ {x : Int}, S 22 0 = 0 → ¬ ((0 ≤ a ∧ a ≤ 3) ∧ (0 ≤ b ∧ b ≤ 1) ∧ (1 ≤ c ∧ c ≤ 40) ∧ 0 ≤ d ∧ d ≤ 1000) → x = -2 → rMetI w mX10_program (aO 40 0 :: [aI a, aI b, aI c, aI d]) C S (rf mm) (fun y S' => y = x ∧ Inv C S' mm (t + 1)) := by
    intro x g0 g hx
    subst hx
    refine gX10_program ⟨fun _ => ?_, fun q => absurd g0 q⟩
    refine sX10_isSlot (fun z1 z2 => ⟨fun q => absurd q (by decide), fun _ => ?_⟩) (fun _ => ⟨fun _ => ⟨rfl, h9⟩, fun q => absurd rfl q⟩)
    refine sX10_in (fun z3 z4 => ⟨fun q => absurd q (by decide), fun _ => ?_⟩) (fun _ => ⟨fun _ => ⟨rfl, h9⟩, fun q => absurd rfl q⟩)
    refine sX10_in (fun z5 z6 => ⟨fun q => absurd q (by decide), fun _ => ?_⟩) (fun _ => ⟨fun _ => ⟨rfl, h9⟩, fun q => absurd rfl q⟩)
    exact sX10_in (fun z7 z8 => absurd ⟨⟨z1, z2⟩, ⟨z3, z4⟩, ⟨z5, z6⟩, z7, z8⟩ g) (fun _ => ⟨fun q => absurd rfl q, fun _ => ⟨rfl, h9⟩⟩)
  have good : ∀ {C' : aIF} {P : Int → aS → Prop}, S 22 0 = 0 → ((0 ≤ a ∧ a ≤ 3) ∧ (0 ≤ b ∧ b ≤ 1) ∧ (1 ≤ c ∧ c ≤ 40) ∧ 0 ≤ d ∧ d ≤ 1000) → (S 10 0 = 6 → P (-3) (sU S 0 0 0)) → (S 10 0 ≠ 6 → S 1 a.toNat < 0 → P (-5) (sU S 0 0 0)) → (S 10 0 ≠ 6 → 0 ≤ S 1 a.toNat → S 2 a.toNat = 0 → P (-8) (sU S 0 0 0)) → (S 10 0 ≠ 6 → 0 ≤ S 1 a.toNat → S 2 a.toNat ≠ 0 → rRunI w mX10_program 95 [some (aO 40 0), some (aI a), some (aI b), some (aI c), some (aI d), some (aI 0), none, none] [] C' (sU S 0 0 0) (rf mm) P) → rMetI w mX10_program (aO 40 0 :: [aI a, aI b, aI c, aI d]) C' S (rf mm) P := by
    intro C' P g0 g k3 k5 k8 k9
    obtain ⟨y1, y2, y3, y4⟩ := g
    refine gX10_program ⟨fun _ => ?_, fun q => absurd g0 q⟩
    refine sX10_isSlot (fun z1 z2 => ⟨fun q => absurd q (by decide), fun _ => ?_⟩) (fun q => absurd y1 q)
    refine sX10_in (fun z3 z4 => ⟨fun q => absurd q (by decide), fun _ => ?_⟩) (fun q => absurd y2 q)
    refine sX10_in (fun z5 z6 => ⟨fun q => absurd q (by decide), fun _ => ?_⟩) (fun q => absurd y3 q)
    refine sX10_in (fun z7 z8 => ⟨fun _ => ?_, fun q => absurd q (by decide)⟩) (fun q => absurd y4 q)
    rw [qS 10 0 (by decide), qS 1 _ (by decide), qS 2 _ (by decide)]
    exact ⟨fun q => ⟨by omega, fun q1 => ⟨fun q2 => k9 q q1 q2, fun q2 => k8 q q1 q2⟩, fun q1 => k5 q (by omega)⟩, fun q => k3 q⟩
  refine gX9_program ⟨fun g => ?_, fun g => gX10_program ⟨fun q => absurd q (by omega), fun _ => ⟨rfl, h9⟩⟩⟩
  have g0 : S 22 0 = 0 := by omega
  refine sX9_isSlot (fun g1 g2 => ⟨fun q => absurd q (by decide), fun _ => ⟨fun q => bad g0 (by omega) rfl, fun q1 => ⟨fun q => bad g0 (by omega) rfl, fun q2 => ⟨fun q => bad g0 (by omega) rfl, fun q3 => ⟨fun q => bad g0 (by omega) rfl, fun q4 => ⟨fun q => bad g0 (by omega) rfl, fun q5 => ⟨fun q6 => ⟨fun q7 => ⟨by omega, ?_⟩, fun q7 => ?_⟩, fun q => bad g0 (by omega) rfl⟩⟩⟩⟩⟩⟩⟩) (fun gs => ⟨fun _ => bad g0 (by omega) rfl, fun q => absurd rfl q⟩)
  · have gd : (0 ≤ a ∧ a ≤ 3) ∧ (0 ≤ b ∧ b ≤ 1) ∧ (1 ≤ c ∧ c ≤ 40) ∧ 0 ≤ d ∧ d ≤ 1000 := by omega
    obtain ⟨s1, s2, s3, s4⟩ := hs a.toNat (by omega)
    refine sX3_isBare (by omega) (fun z => ⟨fun q => absurd q (by decide), fun _ => good g0 gd (fun q => absurd q (by omega)) (fun _ _ => ⟨rfl, h9⟩) (fun _ q => absurd q (by omega)) (fun _ q => absurd q (by omega))⟩) (fun z => ⟨fun _ => ⟨fun z1 => ?_, fun z1 => good g0 gd (fun q => absurd q (by omega)) (fun _ q => absurd q (by omega)) (fun _ _ _ => ⟨rfl, h9⟩) (fun _ q3 q4 => absurd ((s4 q3).1.symm.trans z1) q4)⟩, fun q => absurd rfl q⟩)
    obtain ⟨c1, c2, c3, c4⟩ := s4 (by omega)
    obtain ⟨s, hs4, rfl⟩ : ∃ s : Nat, s < 4 ∧ a = (s : Int) := ⟨a.toNat, by omega, by omega⟩
    obtain ⟨q, hq6, hq⟩ : ∃ q : Nat, q < 6 ∧ S 10 0 = (q : Int) := ⟨(S 10 0).toNat, by omega, by omega⟩
    simp only [Int.toNat_natCast] at *
    have key : ∀ cp : Int, (cp = 0 ∨ cp = 1) → ((b = 0 ∧ cp = 1) ∨ (b = 1 ∧ cp = 0)) → (∀ k : Nat, 0 ≤ k → (k : Int) < C 3 s 2 → actOK (C 4 s k)) → kMetV w mX1_become [aO 6 q, aO 3 s, aI cp, aI c, aI d] C S (rf mm) (fun C13 => (-2147483648 ≤ C13 1 0 5 + 1 ∧ C13 1 0 5 + 1 < 2147483648) ∧ (-2147483648 ≤ C13 1 0 5 + 1 - 1 ∧ C13 1 0 5 + 1 - 1 < 2147483648) ∧ rMetI w mX10_program (aO 40 0 :: [aI (s : Int), aI b, aI c, aI d]) (uI (uI C13 10 0 4 0) 1 0 5 (C13 1 0 5 + 1)) S (rf mm) (fun y S' => y = C13 1 0 5 + 1 - 1 ∧ Inv (uI (uI C13 10 0 4 0) 1 0 5 (C13 1 0 5 + 1)) S' mm (t + 1))) := by
      intro cp hcp hbc hact
      refine gX1_become hq6 hs4 (sX1_become_11 hq6 hs4 hcp (S 2 s).toNat 0 _ (by rw [uI_s]; omega) (by rw [uI_s]; omega) (fun C' k1 k2 k3 k4 k5 k6 k7 k8 => ?_))
      rw [uI_s] at k2 k8
      have kC : ∀ k i j, ¬ (k = 6 ∧ i = q) → ¬ (k = 7 ∧ i = q) → C' k i j = C k i j := fun k i j q1 q2 => by
        rw [k1 k i j q1 q2]
        exact uI_no (fun z => q1 ⟨z.1, z.2.1⟩)
      have h15 : C' 1 0 5 = (q : Int) := by rw [kC 1 0 5 (by omega) (by omega), hp1, hq]
      refine ⟨by omega, by omega, good g0 gd (fun z => absurd z (by omega)) (fun _ z => absurd z (by omega)) (fun _ _ z => absurd (c1.trans z) z1) (fun _ _ _ => ?_)⟩
      refine sX10_program_95 hs4 (S 2 s).toNat 0 (by rw [qS 2 _ (by decide)]; omega) (by rw [qS 2 _ (by decide)]; omega) (fun hall => ?_) (fun hno => absurd (fun k g1 g2 => ?_) hno)
      · refine sX10_program_168 hs4 hq6 (S 2 s).toNat 0 _ (by rw [qS 10 _ (by decide)]; exact hq) (by rw [qS 2 _ (by decide)]; omega) (by rw [qS 2 _ (by decide)]; omega) (fun S' j1 j2 j3 j4 j5 j6 j7 j8 j9 j10 j11 => ⟨by rw [h15]; omega, ?_⟩)
        have jS : ∀ f j, f ≠ 0 → f ≠ 10 → f ≠ 11 → f ≠ 12 → f ≠ 13 → f ≠ 14 → f ≠ 15 → f ≠ 17 → S' f j = S f j := fun f j q0 q1 q2 q3 q4 q5 q6 q7 => by rw [j1 f j q1 q2 q3 q4 q5 q6 q7, qS f j q0]
        have jP : ∀ f j, 11 ≤ f → f ≤ 15 → f ≠ 12 → j ≠ q → S' f j = S f j := fun f j q1 q2 q3 q4 => by rw [j2 f j q1 q2 q3 q4, qS f j (by omega)]
        have j12 : ∀ p k, p ≠ q → k < 60 → S' 12 (60 * p + k) = S 12 (60 * p + k) := fun p k q1 q2 => by rw [j3 _ (by omega), qS 12 _ (by decide)]
        have kD : ∀ k i j, k ≠ 10 → k ≠ 1 → ¬ (k = 6 ∧ i = q) → ¬ (k = 7 ∧ i = q) → uI (uI C' 10 0 4 0) 1 0 5 (C' 1 0 5 + 1) k i j = C k i j := fun k i j q1 q2 q3 q4 => by
          rw [uI_no (fun z => q2 z.1), uI_no (fun z => q1 z.1), kC k i j q3 q4]
        have kE : ∀ k i j, k = 6 ∨ k = 7 → uI (uI C' 10 0 4 0) 1 0 5 (C' 1 0 5 + 1) k i j = C' k i j := fun k i j q1 => by
          rw [uI_no (by omega), uI_no (by omega)]
        rw [qS 2 _ (by decide)] at j5 j6
        obtain ⟨a1, b1, cc1, d1, e1, f1, g1', h1, i1, i2⟩ := h
        refine ⟨tOK_cg (fun f q1 q2 => jS _ _ (by omega) (by omega) (by omega) (by omega) (by omega) (by omega) (by omega) (by omega)) a1, tR_cg (fun _ => kD _ _ _ (by omega) (by omega) (by omega) (by omega)) (fun f q1 q2 => jS _ _ (by omega) (by omega) (by omega) (by omega) (by omega) (by omega) (by omega) (by omega)) b1, slR_cg (fun _ _ => kD _ _ _ (by omega) (by omega) (by omega) (by omega)) (fun _ _ => kD _ _ _ (by omega) (by omega) (by omega) (by omega)) (fun f j q1 q2 => jS _ _ (by omega) (by omega) (by omega) (by omega) (by omega) (by omega) (by omega) (by omega)) cc1, ⟨⟨?_, ?_, ?_⟩, fun p hp6 hpl => ?_⟩, fun p hp6 hpl => ?_, ⟨⟨?_, ?_⟩, fun z => ?_⟩,
          ruR_cg (kD _ _ _ (by omega) (by omega) (by omega) (by omega)) (kD _ _ _ (by omega) (by omega) (by omega) (by omega)) (fun _ _ => kD _ _ _ (by omega) (by omega) (by omega) (by omega)) (fun _ _ => kD _ _ _ (by omega) (by omega) (by omega) (by omega)) (fun _ _ => kD _ _ _ (by omega) (by omega) (by omega) (by omega)) (jS _ _ (by omega) (by omega) (by omega) (by omega) (by omega) (by omega) (by omega) (by omega)) (jS _ _ (by omega) (by omega) (by omega) (by omega) (by omega) (by omega) (by omega) (by omega)) (fun f j q1 q2 => jS _ _ (by omega) (by omega) (by omega) (by omega) (by omega) (by omega) (by omega) (by omega)) g1',
          lgR_cg (Nat.le_succ t) (kD _ _ _ (by omega) (by omega) (by omega) (by omega)) (kD _ _ _ (by omega) (by omega) (by omega) (by omega)) (kD _ _ _ (by omega) (by omega) (by omega) (by omega)) (fun k j q1 q2 => kD _ _ _ (by omega) (by omega) (by omega) (by omega)) (jS _ _ (by omega) (by omega) (by omega) (by omega) (by omega) (by omega) (by omega) (by omega)) (jS _ _ (by omega) (by omega) (by omega) (by omega) (by omega) (by omega) (by omega) (by omega)) (jS _ _ (by omega) (by omega) (by omega) (by omega) (by omega) (by omega) (by omega) (by omega)) (jS _ _ (by omega) (by omega) (by omega) (by omega) (by omega) (by omega) (by omega) (by omega)) (fun _ => jS _ _ (by omega) (by omega) (by omega) (by omega) (by omega) (by omega) (by omega) (by omega)) h1, fun z => ?_, i2⟩
        · rw [uI_s, h15, j10]
        · rw [j10]; omega
        · rw [j10]; omega
        · rw [j10] at hpl
          by_cases ep : p = q
          · subst ep
            unfold pR
            simp only [kE 6 _ _ (Or.inl rfl), kE 7 _ _ (Or.inr rfl)]
            refine ⟨⟨by rw [k2, c1, j6], by rw [j6]; omega, by rw [j6]; omega⟩, ?_, ⟨by rw [k4, j8], by rw [j8]; omega, by rw [j8]; omega⟩, ⟨by rw [k5, j9], by rw [j9]; omega, by rw [j9]; omega⟩, fun k hk hk2 => ?_⟩
            · rw [j7, k3]
              omega
            · rw [j6] at hk2
              have ha := hact k (by omega) (by omega)
              have hv := c4 k hk
              have hi : i32 (C 4 s k) := by
                unfold actOK at ha
                unfold i32
                omega
              rw [k8 k (by omega) (by omega), uI_k rfl, j5 k (by omega) hk2, qS 3 _ (by decide), ← hv, l2i_small hi]
              exact ⟨rfl, ha⟩
          · have := d1.2 p hp6 (by omega)
            unfold pR at *
            simp only [kD 6 p _ (by omega) (by omega) (by omega) (by omega), kD 7 p _ (by omega) (by omega) (by omega) (by omega), jP 11 p (by omega) (by omega) (by omega) ep, jP 13 p (by omega) (by omega) (by omega) ep, jP 14 p (by omega) (by omega) (by omega) ep, jP 15 p (by omega) (by omega) (by omega) ep]
            refine ⟨this.1, this.2.1, this.2.2.1, this.2.2.2.1, fun k hk hk2 => ?_⟩
            rw [j12 p k ep hk]
            exact this.2.2.2.2 k hk hk2
        · rw [j10] at hpl
          by_cases ep : p = q
          · subst ep
            refine Or.inl ?_
            rw [kE 6 _ _ (Or.inl rfl), k6]
          · have := e1 p hp6 (by omega)
            have hal : ∀ r, alone S' p r = alone S p r := fun r => by
              unfold alone
              rw [jP 11 p (by omega) (by omega) (by omega) ep, jP 13 p (by omega) (by omega) (by omega) ep, jP 14 p (by omega) (by omega) (by omega) ep]
              refine aloneF_cg (fun k hk => ?_)
              have hb := (d1.2 p hp6 (by omega)).1
              exact j12 p k ep (by omega)
            simp only [kD 6 p _ (by omega) (by omega) (by omega) (by omega), kD 8 p _ (by omega) (by omega) (by omega) (by omega), hal, jS 5 0 (by omega) (by omega) (by omega) (by omega) (by omega) (by omega) (by omega) (by omega), jS 6 0 (by omega) (by omega) (by omega) (by omega) (by omega) (by omega) (by omega) (by omega)]
            exact this
        · rw [uI_k rfl, uI_s, j11]
        · exact Or.inl j11
        · rw [j11] at z
          exact absurd z (by decide)
        · rw [jS 22 0 (by omega) (by omega) (by omega) (by omega) (by omega) (by omega) (by omega) (by omega), g0] at z
          exact absurd z (by decide)
      · rw [qS 2 _ (by decide)] at g2
        rw [qS 3 _ (by decide), ← c4 k (by omega)]
        exact hact k g1 (by omega)
    refine gX3_holdsActsAlone hs4 (sX3_holds_2 hs4 (S 2 s).toNat 0 (by omega) (by omega) (fun hact => ⟨fun _ => ⟨by omega, fun zb => ?_, fun zb => ?_⟩, fun q => absurd q (by decide)⟩) (fun hno => ⟨fun q => absurd rfl q, fun _ => ?_⟩))
    · have := key 0 (Or.inl rfl) (by omega) hact
      rw [hp1, hq]
      exact this
    · have := key 1 (Or.inr rfl) (by omega) hact
      rw [hp1, hq]
      exact this
    · refine good g0 gd (fun z => absurd z (by omega)) (fun _ z => absurd z (by omega)) (fun _ _ z => absurd (c1.trans z) z1) (fun _ _ _ => ?_)
      refine sX10_program_95 hs4 (S 2 s).toNat 0 (by rw [qS 2 _ (by decide)]; omega) (by rw [qS 2 _ (by decide)]; omega) (fun hall => absurd (fun k g1 g2 => ?_) hno) (fun _ => ⟨rfl, h9⟩)
      have := hall k g1 (by rw [qS 2 _ (by decide)]; omega)
      rw [qS 3 _ (by decide), ← c4 k (by omega)] at this
      exact this
  · have gd : (0 ≤ a ∧ a ≤ 3) ∧ (0 ≤ b ∧ b ≤ 1) ∧ (1 ≤ c ∧ c ≤ 40) ∧ 0 ≤ d ∧ d ≤ 1000 := by omega
    exact good g0 gd (fun _ => ⟨rfl, h9⟩) (fun q => absurd (by omega) q) (fun q => absurd (by omega) q) (fun q => absurd (by omega) q)
end OP5
