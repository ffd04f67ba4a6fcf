/-! log, row, tear, write -/
section OP2
variable {w : aW} {mm t : Nat} {C : aIF} {S : aS}
theorem opLog {a b : Int} (h : Inv C S mm t) (ht : t ≤ 512) : opOK w mX9_log mX10_log [aI a, aI b] C S mm t := by
  have h9 := Inv_0 (Inv_t (Nat.le_succ t) h)
  obtain ⟨-, -, -, -, -, -, -, hl, -⟩ := h
  obtain ⟨-, -, E, n, hn, e1, e2, e3, e4, e5⟩ := hl
  have hn2 : n ≤ 1024000000 := by
    have := Nat.mul_le_mul_left 2000000 ht
    omega
  have out : ∀ {x : Int}, ¬ ((0 ≤ a ∧ a < min (n : Int) 60) ∧ 0 ≤ b ∧ b ≤ 3) → x = -2 → rMetI w mX10_log (aO 40 0 :: [aI a, aI b]) C S (rf mm) (fun y S' => y = x ∧ Inv C S' mm (t + 1)) := by
    intro x g hx
    subst hx
    refine gX10_log ⟨by rw [e2]; omega, sX10_in (fun z1 z2 => ⟨fun q => absurd q (by decide), fun _ => sX10_in (fun y1 y2 => absurd ⟨⟨z1, by rw [e2] at z2; omega⟩, y1, y2⟩ g) (fun _ => ⟨fun _ => ⟨rfl, h9⟩, fun q => absurd rfl q⟩)⟩) (fun _ => ⟨fun _ => ⟨rfl, h9⟩, fun q => absurd rfl q⟩)⟩
  have key : ∀ c : Nat, c < 4 → b = (c : Int) → 0 ≤ a → a < min (n : Int) 60 → rMetI w mX10_log (aO 40 0 :: [aI a, aI b]) C S (rf mm) (fun y S' => y = C (23 + c) 0 ((((C 22 0 4 - min (C 22 0 4) 60) + a) % 60)).toNat ∧ Inv C S' mm (t + 1)) := by
    intro c hc hb h0 h1
    refine gX10_log ⟨by rw [e2]; omega, sX10_in (fun z1 z2 => ⟨fun q => absurd q (by decide), fun _ => sX10_in (fun y1 y2 => ⟨fun q => absurd q (by decide), fun _ => ⟨by omega, by omega, by omega, ?_, h9⟩⟩) (fun z => absurd ⟨by omega, by omega⟩ z)⟩) (fun z => absurd ⟨h0, by rw [e2]; omega⟩ z)⟩
    have k1 := e4 a.toNat c hc (by omega) (by omega)
    have k2 := e5 (n - min n 60 + a.toNat) c hc (by omega) (by omega)
    rw [e3]
    have i1 : (4 * a + b).toNat = 4 * a.toNat + c := by omega
    have i2 : (((n : Int) - min (n : Int) 60 + a) % 60).toNat = (n - min n 60 + a.toNat) % 60 := by omega
    rw [i1, i2]
    simp [sU]
    rw [k1, k2]
  refine gX9_log (gX4_told ⟨fun g => out (by omega) rfl, fun g => gX4_kept ⟨fun g2 => gX4_kept ?_, fun g2 => out (by rw [e3] at g2; omega) rfl⟩⟩)
  rw [e3] at g2
  refine ⟨by rw [e3]; omega, by rw [e3]; omega, by rw [e3]; omega, fun q => ⟨by rw [e3]; omega, key 0 (by omega) q (by omega) g2⟩, fun q => ⟨by rw [e3]; omega, key 1 (by omega) q (by omega) g2⟩, fun q => ⟨by rw [e3]; omega, key 2 (by omega) q (by omega) g2⟩, fun q => ⟨by rw [e3]; omega, key 3 (by omega) q (by omega) g2⟩, fun q => out (by omega) rfl⟩
/-- slots alone have changed -/
theorem Inv_sl {C' : aIF} {S' : aS} (hC : ∀ k i j, k ≠ 3 → k ≠ 4 → C' k i j = C k i j) (hS : ∀ f j, 5 ≤ f → S' f j = S f j) (hs : slR C' S') (h : Inv C S mm t) : Inv C' S' mm t := by
  obtain ⟨a, b, c, d, e, f, g, h9, i, i2⟩ := h
  exact ⟨tOK_cg (fun f h1 h2 => hS f 0 h1) a, tR_cg (fun _ => hC _ _ _ (by omega) (by omega)) (fun f h1 h2 => hS f 0 h1) b, hs, prR_cg (hC _ _ _ (by omega) (by omega)) (fun _ _ _ => hC _ _ _ (by omega) (by omega)) (fun _ _ => hC _ _ _ (by omega) (by omega)) (hS _ _ (by omega)) (fun f j h1 h2 => hS _ _ (by omega)) d,
    tmR_cg (fun _ => hC _ _ _ (by omega) (by omega)) (fun _ _ => hC _ _ _ (by omega) (by omega)) (hS _ _ (by omega)) (hS _ _ (by omega)) (hS _ _ (by omega)) (fun f j h1 h2 => hS _ _ (by omega)) e,
    dlR_cg (hC _ _ _ (by omega) (by omega)) (fun _ => hC _ _ _ (by omega) (by omega)) (hS _ _ (by omega)) (hS _ _ (by omega)) (hS _ _ (by omega)) (fun _ => hS _ _ (by omega)) f,
    ruR_cg (hC _ _ _ (by omega) (by omega)) (hC _ _ _ (by omega) (by omega)) (fun _ _ => hC _ _ _ (by omega) (by omega)) (fun _ _ => hC _ _ _ (by omega) (by omega)) (fun _ _ => hC _ _ _ (by omega) (by omega)) (hS _ _ (by omega)) (hS _ _ (by omega)) (fun f j h1 h2 => hS _ _ (by omega)) g,
    lgR_cg (Nat.le_refl _) (hC _ _ _ (by omega) (by omega)) (hC _ _ _ (by omega) (by omega)) (hC _ _ _ (by omega) (by omega)) (fun k j h1 h2 => hC _ _ _ (by omega) (by omega)) (hS _ _ (by omega)) (hS _ _ (by omega)) (hS _ _ (by omega)) (hS _ _ (by omega)) (fun _ => hS _ _ (by omega)) h9,
    rgR_cg (hS _ _ (by omega)) (hS _ _ (by omega)) (hS _ _ (by omega)) (hS _ _ (by omega)) (hS _ _ (by omega)) (hS _ _ (by omega)) (fun f j h1 h2 => hS _ _ (by omega)) (fun f j h1 h2 => hS _ _ (by omega)) i, i2⟩
def zC (C : aIF) (s l : Nat) : aIF := fun k i j => if k = 4 ∧ i = s ∧ l ≤ j ∧ j < 60 then 0 else C k i j
def zS (S : aS) (s l : Nat) : aS := fun f j => if f = 3 ∧ 60 * s + l ≤ j ∧ j < 60 * s + 60 then 0 else S f j
theorem sX3_lay_12 {i : Nat} (hi : i < 4) {p1 p2 : Int} {P : aIF → Prop} : ∀ (k l : Nat) (C : aIF), l + k = 60 → P (zC C i l) → kRunV w mX3_lay 12 [some (aO 3 i), some (aI p1), some (aI p2), some (aI (l : Int))] [] C S (rf mm) P
  | 0, l, C, e, hP => by
    refine gX3_lay_12 hi ⟨fun _ => ?_, fun q => absurd q (by omega)⟩
    have : zC C i l = C := by
      funext a b c
      unfold zC
      rw [if_neg (by omega)]
    rw [this] at hP
    exact hP
  | k + 1, l, C, e, hP => by
    refine gX3_lay_12 hi ⟨fun q => absurd q (by omega), fun _ => ⟨by omega, by omega, sX3_lay_12 hi k (l + 1) (uI C 4 i l 0) (by omega) ?_⟩⟩
    have : zC (uI C 4 i l 0) i (l + 1) = zC C i l := by
      funext a b c
      simp only [zC, uI]
      by_cases h1 : a = 4 ∧ b = i ∧ l + 1 ≤ c ∧ c < 60
      · rw [if_pos h1, if_pos ⟨h1.1, h1.2.1, by omega, h1.2.2.2⟩]
      · rw [if_neg h1]
        by_cases h2 : a = 4 ∧ b = i ∧ c = l
        · rw [if_pos h2, if_pos ⟨h2.1, h2.2.1, by omega, by omega⟩]
        · rw [if_neg h2, if_neg (by omega)]
    rw [this]
    exact hP
theorem sX10_row_54 {s : Nat} (hs : s < 4) {p2 p3 : Int} {P : Int → aS → Prop} : ∀ (k l : Nat) (S : aS), l + k = 60 → P 0 (zS S s l) → rRunI w mX10_row 54 [some (aO 40 0), some (aI (s : Int)), some (aI p2), some (aI p3), some (aI (l : Int))] [] C S (rf mm) P
  | 0, l, S, e, hP => by
    refine gX10_row_54 ⟨fun _ => ?_, fun q => absurd q (by omega)⟩
    have : zS S s l = S := by
      funext a b
      unfold zS
      rw [if_neg (by omega)]
    rw [this] at hP
    exact hP
  | k + 1, l, S, e, hP => by
    refine gX10_row_54 ⟨fun q => absurd q (by omega), fun _ => ⟨by omega, by omega, by omega, by omega, sX10_row_54 hs k (l + 1) (sU S 3 (60 * s + l) 0) (by omega) ?_⟩⟩
    have : zS (sU S 3 (60 * s + l) 0) s (l + 1) = zS S s l := by
      funext a b
      simp only [zS, sU]
      by_cases h1 : a = 3 ∧ 60 * s + (l + 1) ≤ b ∧ b < 60 * s + 60
      · rw [if_pos h1, if_pos (by omega)]
      · rw [if_neg h1]
        by_cases h2 : a = 3 ∧ b = 60 * s + l
        · rw [if_pos h2, if_pos (by omega)]
        · rw [if_neg h2, if_neg (by omega)]
    rw [this]
    exact hP
theorem opRow {a b c : Int} (h : Inv C S mm t) : opOK w mX9_row mX10_row [aI a, aI b, aI c] C S mm t := by
  have h9 := Inv_0 (Inv_t (Nat.le_succ t) h)
  have hs := h.2.2.1
  have out2 : ∀ {x : Int}, ¬ ((0 ≤ a ∧ a ≤ 3) ∧ (0 ≤ b ∧ b ≤ 3) ∧ c ≤ 60) → x = -2 → rMetI w mX10_row (aO 40 0 :: [aI a, aI b, aI c]) C S (rf mm) (fun y S' => y = x ∧ Inv C S' mm (t + 1)) := by
    intro x g hx
    subst hx
    exact gX10_row (sX10_isSlot (fun z1 z2 => ⟨fun q => absurd q (by decide), fun _ => sX10_in (fun y1 y2 => ⟨fun q => absurd q (by decide), fun _ => ⟨fun q => absurd ⟨⟨z1, z2⟩, ⟨y1, y2⟩, q⟩ g, fun _ => ⟨rfl, h9⟩⟩⟩) (fun _ => ⟨fun _ => ⟨rfl, h9⟩, fun q => absurd rfl q⟩)⟩) (fun _ => ⟨fun _ => ⟨rfl, h9⟩, fun q => absurd rfl q⟩))
  refine gX9_row (sX9_isSlot (fun g1 g2 => ⟨fun q => absurd q (by decide), fun _ => ⟨fun z => out2 (by omega) rfl, fun z => ⟨fun z2 => out2 (by omega) rfl, fun z2 => ⟨fun z3 => ⟨fun z4 => ⟨by omega, ?_⟩, fun z4 => ?_⟩, fun z3 => out2 (by omega) rfl⟩⟩⟩⟩) (fun g => ⟨fun _ => out2 (by omega) rfl, fun q => absurd rfl q⟩))
  · refine gX3_lay (show a.toNat < 4 by omega) (sX3_lay_12 (by omega) 60 0 _ (by omega) ?_)
    refine gX10_row (sX10_isSlot (fun _ _ => ⟨fun q => absurd q (by decide), fun _ => sX10_in (fun _ _ => ⟨fun q => absurd q (by decide), fun _ => ⟨fun _ => ⟨fun _ => ⟨by omega, ?_⟩, fun q => absurd z4 q⟩, fun q => absurd z3 q⟩⟩) (fun q => absurd ⟨by omega, by omega⟩ q)⟩) (fun q => absurd ⟨g1, g2⟩ q))
    obtain ⟨s, hs4, rfl⟩ : ∃ s : Nat, s < 4 ∧ a = (s : Int) := ⟨a.toNat, by omega, by omega⟩
    refine sX10_row_54 hs4 60 0 _ (by omega) ⟨rfl, Inv_sl (fun k i j h3 h4 => ?_) (fun f j hf => ?_) (fun q hq => ?_) (Inv_t (Nat.le_succ t) h)⟩
    · simp [zC, uI, h3, h4]
    · simp [zS, sU, show f ≠ 3 by omega, show f ≠ 2 by omega, show f ≠ 1 by omega, show f ≠ 0 by omega]
    · have hq9 := hs q hq
      by_cases e : q = s
      · subst e
        refine ⟨by simp [zC, uI, zS, sU], by simp [zS, sU]; omega, by simp [zS, sU]; omega, fun _ => ⟨by simp [zC, uI, zS, sU], by simp [zS, sU]; omega, by simp [zS, sU]; omega, fun j hj => ?_⟩⟩
        simp [zC, uI, zS, sU, hj]
      · have e1 : zC (uI (uI C 3 (s : Int).toNat 1 b) 3 (s : Int).toNat 2 c) (s : Int).toNat 0 3 q = C 3 q := by
          funext j
          simp [zC, uI, e]
        have e2 : zC (uI (uI C 3 (s : Int).toNat 1 b) 3 (s : Int).toNat 2 c) (s : Int).toNat 0 4 q = C 4 q := by
          funext j
          simp [zC, uI, e]
        have e3 : ∀ f, f = 1 ∨ f = 2 → zS (sU (sU (sU S 0 0 0) 1 (s : Int).toNat b) 2 (s : Int).toNat c) s 0 f q = S f q := by
          intro f hf
          rcases hf with rfl | rfl <;> simp [zS, sU, e]
        have e4 : ∀ j, j < 60 → zS (sU (sU (sU S 0 0 0) 1 (s : Int).toNat b) 2 (s : Int).toNat c) s 0 3 (60 * q + j) = S 3 (60 * q + j) := by
          intro j hj
          simp only [zS, sU]
          rw [if_neg (by omega), if_neg (by omega), if_neg (by omega), if_neg (by omega)]
        rw [e1, e2, e3 1 (Or.inl rfl), e3 2 (Or.inr rfl)]
        exact ⟨hq9.1, hq9.2.1, hq9.2.2.1, fun z => ⟨(hq9.2.2.2 z).1, (hq9.2.2.2 z).2.1, (hq9.2.2.2 z).2.2.1, fun j hj => by rw [e4 j hj]; exact (hq9.2.2.2 z).2.2.2 j hj⟩⟩
  · refine gX10_row (sX10_isSlot (fun _ _ => ⟨fun q => absurd q (by decide), fun _ => sX10_in (fun _ _ => ⟨fun q => absurd q (by decide), fun _ => ⟨fun _ => ⟨fun q => absurd q z4, fun _ => ⟨rfl, h9⟩⟩, fun q => absurd z3 q⟩⟩) (fun q => absurd ⟨by omega, by omega⟩ q)⟩) (fun q => absurd ⟨g1, g2⟩ q))
theorem opTear {a : Int} (h : Inv C S mm t) : opOK w mX9_tear mX10_tear [aI a] C S mm t := by
  have h9 := Inv_0 (Inv_t (Nat.le_succ t) h)
  have hs := h.2.2.1
  refine gX9_tear (sX9_isSlot (fun g1 g2 => ⟨fun q => absurd q (by decide), fun _ => ⟨by omega, sX3_isBare (by omega) (fun e => ⟨fun q => absurd q (by decide), fun _ => ?_⟩) (fun e => ⟨fun _ => gX3_strip (by omega) ?_, fun q => absurd rfl q⟩)⟩⟩) (fun g => ⟨fun _ => ?_, fun q => absurd rfl q⟩))
  · obtain ⟨s1, s2, s3, s4⟩ := hs a.toNat (by omega)
    refine gX10_tear (sX10_isSlot (fun _ _ => ⟨fun q => absurd q (by decide), fun _ => ⟨by omega, fun q => absurd q (by simp [sU]; omega), fun _ => ⟨rfl, h9⟩⟩⟩) (fun q => absurd ⟨g1, g2⟩ q))
  · obtain ⟨s1, s2, s3, s4⟩ := hs a.toNat (by omega)
    refine gX10_tear (sX10_isSlot (fun _ _ => ⟨fun q => absurd q (by decide), fun _ => ⟨by omega, fun _ => ⟨rfl, Inv_sl (fun k i j h3 h4 => ?_) (fun f j hf => ?_) (fun q hq => ?_) (Inv_t (Nat.le_succ t) h)⟩, fun q => absurd (by simp [sU]; omega) q⟩⟩) (fun q => absurd ⟨g1, g2⟩ q))
    · simp [uI, h3]
    · simp [sU, show f ≠ 1 by omega, show f ≠ 0 by omega]
    · have hq9 := hs q hq
      by_cases e2 : q = a.toNat
      · subst e2
        exact ⟨by simp [uI, sU], by simp [sU], by simp [sU], fun z => absurd z (by simp [sU])⟩
      · have e1 : ∀ j, uI (uI C 3 a.toNat 1 (-1)) 3 a.toNat 2 0 3 q j = C 3 q j := fun j => by simp [uI, e2]
        have e4 : ∀ j, uI (uI C 3 a.toNat 1 (-1)) 3 a.toNat 2 0 4 q j = C 4 q j := fun j => by simp [uI]
        have e3 : ∀ f j, 1 ≤ f → (f = 1 → j ≠ a.toNat) → sU (sU S 0 0 0) 1 a.toNat (-1) f j = S f j := fun f j hf hj => by
          simp only [sU]
          rw [if_neg (by omega), if_neg (by omega)]
        simp only [e1, e4]
        rw [e3 1 q (by omega) (fun _ => e2), e3 2 q (by omega) (by omega)]
        exact ⟨hq9.1, hq9.2.1, hq9.2.2.1, fun z => ⟨(hq9.2.2.2 z).1, (hq9.2.2.2 z).2.1, (hq9.2.2.2 z).2.2.1, fun j hj => by rw [e3 3 _ (by omega) (by omega)]; exact (hq9.2.2.2 z).2.2.2 j hj⟩⟩
  · exact gX10_tear (sX10_isSlot (fun z1 z2 => absurd ⟨z1, z2⟩ g) (fun _ => ⟨fun _ => ⟨rfl, h9⟩, fun q => absurd rfl q⟩))
end OP2
