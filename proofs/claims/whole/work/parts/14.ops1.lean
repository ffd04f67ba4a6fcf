/-! the plain calls -/
section OP1
variable {w : aW} {mm t : Nat} {C : aIF} {S : aS}
theorem sX10_in {a b c : Int} {P : Int → aS → Prop} (h1 : b ≤ a → a ≤ c → P 1 S) (h0 : ¬ (b ≤ a ∧ a ≤ c) → P 0 S) : rMetI w mX10_in [aI a, aI b, aI c] C S (rf mm) P := gX10_in ⟨fun h => h0 (by omega), fun h => ⟨fun h2 => h0 (by omega), fun h2 => h1 (by omega) (by omega)⟩⟩
theorem sX10_isSlot {a : Int} {P : Int → aS → Prop} (h1 : 0 ≤ a → a ≤ 3 → P 1 S) (h0 : ¬ (0 ≤ a ∧ a ≤ 3) → P 0 S) : rMetI w mX10_isSlot [aI a] C S (rf mm) P := gX10_isSlot (sX10_in (fun h h2 => ⟨Or.inr rfl, h1 h h2⟩) (fun h => ⟨Or.inl rfl, h0 h⟩))
theorem sX9_isSlot {a : Int} {P : Int → aIF → Prop} (h1 : 0 ≤ a → a ≤ 3 → P 1 C) (h0 : ¬ (0 ≤ a ∧ a ≤ 3) → P 0 C) : kMetI w mX9_isSlot [aO 1 0, aI a] C S (rf mm) P := gX9_isSlot ⟨fun h => h0 (by omega), fun h => ⟨fun h2 => h0 (by omega), fun h2 => h1 (by omega) (by omega)⟩⟩
theorem sX3_isBare {i : Nat} (hi : i < 4) {P : Int → aIF → Prop} (h1 : C 3 i 1 = -1 → P 1 C) (h0 : C 3 i 1 ≠ -1 → P 0 C) : kMetI w mX3_isBare [aO 3 i] C S (rf mm) P := by
  refine gX3_isBare hi ?_
  repeat' (first | with_reducible apply And.intro | with_reducible intro _)
  all_goals first | (apply h1; omega) | (apply h0; omega)
theorem sX9_isProgram {a : Int} {P : Int → aIF → Prop} (h1 : 0 ≤ a → a < C 1 0 5 → P 1 C) (h0 : ¬ (0 ≤ a ∧ a < C 1 0 5) → P 0 C) : kMetI w mX9_isProgram [aO 1 0, aI a] C S (rf mm) P := gX9_isProgram ⟨fun h => h0 (by omega), fun h => ⟨fun h2 => h0 (by omega), fun h2 => h1 (by omega) (by omega)⟩⟩
theorem sX10_isProgram {a : Int} {P : Int → aS → Prop} (hb : 0 ≤ S 10 0 ∧ S 10 0 ≤ 6) (h1 : 0 ≤ a → a < S 10 0 → P 1 S) (h0 : ¬ (0 ≤ a ∧ a < S 10 0) → P 0 S) : rMetI w mX10_isProgram [aO 40 0, aI a] C S (rf mm) P := gX10_isProgram ⟨by omega, sX10_in (fun h h2 => ⟨Or.inr rfl, h1 h (by omega)⟩) (fun h => ⟨Or.inl rfl, h0 (by omega)⟩)⟩
theorem sX9_rowsThere_4 {P : Int → aIF → Prop} (h : slR C S) : ∀ (k : Nat) (l2 : Nat) (l1 : Int), l2 + k = 4 → 0 ≤ l1 → l1 ≤ l2 → P (l1 + sumN (fun s => if S 1 (l2 + s) < 0 then 0 else 1) k) C → kRunI w mX9_rowsThere 4 [some (aO 1 0), some (aI l1), some (aI (l2 : Int))] [] C S (rf mm) P
  | 0, l2, l1, e, h1, h2, hP => by
    refine gX9_rowsThere_4 ⟨fun _ => ?_, fun q => absurd q (by omega)⟩
    simpa [sumN] using hP
  | k + 1, l2, l1, e, h1, h2, hP => by
    have hs := h l2 (by omega)
    have hsum : ∀ f : Nat → Int, sumN f (k + 1) = f 0 + sumN (fun s => f (s + 1)) k := by
      intro f
      have : ∀ n, sumN f (n + 1) = f 0 + sumN (fun s => f (s + 1)) n := by
        intro n
        induction n with
        | zero => simp [sumN]
        | succ n ih => rw [sumN, ih, sumN]; omega
      exact this k
    rw [hsum] at hP
    refine gX9_rowsThere_4 ⟨fun q => absurd q (by omega), fun _ => ⟨by omega, sX3_isBare (by omega) (fun e1 => ⟨fun _ => ⟨by omega, ?_⟩, fun q => absurd q (by decide)⟩) (fun e1 => ⟨fun q => absurd rfl q, fun _ => ⟨by omega, by omega, ?_⟩⟩)⟩⟩
    · refine sX9_rowsThere_4 h k (l2 + 1) l1 (by omega) h1 (by omega) ?_
      have e2 : S 1 (l2 + 0) < 0 := by show S 1 l2 < 0; omega
      rw [if_pos e2] at hP
      have e3 : (fun s => if S 1 (l2 + 1 + s) < 0 then (0 : Int) else 1) = (fun s => if S 1 (l2 + (s + 1)) < 0 then (0 : Int) else 1) := funext (fun s => by rw [show l2 + 1 + s = l2 + (s + 1) by omega])
      rw [e3]
      simpa using hP
    · refine sX9_rowsThere_4 h k (l2 + 1) (l1 + 1) (by omega) (by omega) (by omega) ?_
      have e2 : ¬ S 1 (l2 + 0) < 0 := by show ¬ S 1 l2 < 0; omega
      rw [if_neg e2] at hP
      have e3 : (fun s => if S 1 (l2 + 1 + s) < 0 then (0 : Int) else 1) = (fun s => if S 1 (l2 + (s + 1)) < 0 then (0 : Int) else 1) := funext (fun s => by rw [show l2 + 1 + s = l2 + (s + 1) by omega])
      rw [e3, Int.add_assoc]
      exact hP
theorem sX10_count_135 {p1 : Int} {P : Int → aS → Prop} : ∀ (k : Nat) (l3 : Nat) (l2 : Int), l3 + k = 4 → 0 ≤ l2 → l2 ≤ l3 → P (l2 + sumN (fun s => if S 1 (l3 + s) < 0 then 0 else 1) k) S → rRunI w mX10_count 135 [some (aO 40 0), some (aI p1), some (aI l2), some (aI (l3 : Int))] [] C S (rf mm) P
  | 0, l3, l2, e, h1, h2, hP => by
    refine gX10_count_135 ⟨fun _ => ?_, fun q => absurd q (by omega)⟩
    simpa [sumN] using hP
  | k + 1, l3, l2, e, h1, h2, hP => by
    have hsum : ∀ f : Nat → Int, sumN f (k + 1) = f 0 + sumN (fun s => f (s + 1)) k := by
      intro f
      have : ∀ n, sumN f (n + 1) = f 0 + sumN (fun s => f (s + 1)) n := by
        intro n
        induction n with
        | zero => simp [sumN]
        | succ n ih => rw [sumN, ih, sumN]; omega
      exact this k
    rw [hsum] at hP
    have e3 : (fun s => if S 1 (l3 + 1 + s) < 0 then (0 : Int) else 1) = (fun s => if S 1 (l3 + (s + 1)) < 0 then (0 : Int) else 1) := funext (fun s => by rw [show l3 + 1 + s = l3 + (s + 1) by omega])
    refine gX10_count_135 ⟨fun q => absurd q (by omega), fun _ => ⟨by omega, fun e1 => ⟨by omega, by omega, ?_⟩, fun e1 => ⟨by omega, by omega, ?_⟩⟩⟩
    · refine sX10_count_135 k (l3 + 1) (l2 + 0) (by omega) (by omega) (by omega) ?_
      have e2 : S 1 (l3 + 0) < 0 := e1
      rw [if_pos e2] at hP
      rw [e3]
      simpa using hP
    · refine sX10_count_135 k (l3 + 1) (l2 + 1) (by omega) (by omega) (by omega) ?_
      have e2 : ¬ S 1 (l3 + 0) < 0 := e1
      rw [if_neg e2] at hP
      rw [e3, Int.add_assoc]
      exact hP
theorem opCount {a : Int} (h : Inv C S mm t) : opOK w mX9_count mX10_count [aI a] C S mm t := by
  have h9 := Inv_0 (Inv_t (Nat.le_succ t) h)
  obtain ⟨-, ht, hs, hp, -, -, hr, hl, -⟩ := h
  obtain ⟨t1, t2, t3, t4, t5⟩ := ht
  obtain ⟨⟨l1, -, -⟩, l2, E, n, -, e1, e2, e3, -, -⟩ := hl
  have hr1 := hr.1.1
  have hp1 := hp.1.1
  refine gX9_count ?_
  repeat' (first | with_reducible apply And.intro | with_reducible intro _)
  all_goals try (refine gX4_kept ?_)
  all_goals try (refine gX9_rowsThere (sX9_rowsThere_4 hs 4 0 0 (by omega) (by omega) (by omega) ?_))
  all_goals refine gX10_count ?_
  all_goals repeat' (first | with_reducible apply And.intro | with_reducible intro _)
  all_goals try (exfalso; omega)
  all_goals first | exact h9 | (rw [hp.1.1]; done) | (rw [hr.1.1]; done) | omega | skip
  refine sX10_count_135 4 0 0 (by omega) (by omega) (by omega) ?_
  refine ⟨?_, h9⟩
  simp [sU]
theorem opStop (h : Inv C S mm t) : opOK w mX9_stop mX10_stop [] C S mm t := by
  have hr := h.2.2.2.2.2.2.1
  refine gX9_stop ⟨by rw [hr.1.1]; exact hr.1.2, gX10_stop ⟨hr.1.2, hr.1.1.symm, ?_⟩⟩
  obtain ⟨a, b, c, d, e, f, g, h9, i, i2⟩ := h
  refine ⟨tOK_cg (fun f h1 h2 => ?_) a, tR_cg (fun _ => ?_) (fun f h1 h2 => ?_) b, slR_cg (fun _ _ => ?_) (fun _ _ => ?_) (fun f j h1 h2 => ?_) c, prR_cg ?_ (fun _ _ _ => ?_) (fun _ _ => ?_) ?_ (fun f j h1 h2 => ?_) d, tmR_cg (fun _ => ?_) (fun _ _ => ?_) ?_ ?_ ?_ (fun f j h1 h2 => ?_) e, dlR_cg ?_ (fun _ => ?_) ?_ ?_ ?_ (fun _ => ?_) f, ⟨⟨?_, ?_⟩, ?_, fun p hp => ?_, fun p hp hq => pru_cg (fun _ => ?_) (fun _ => ?_) (fun _ => ?_) (fun f j h1 h2 => ?_) (g.2.2.2 p hp ?_)⟩, lgR_cg (Nat.le_succ t) ?_ ?_ ?_ (fun k j h1 h2 => ?_) ?_ ?_ ?_ ?_ (fun _ => ?_) h9, fun q => ?_, i2⟩
  all_goals first | (simp [uI, sU]; done) | (simp [uI, sU]; omega) | skip
  · simpa [uI, sU] using g.2.1
  · simpa [uI] using g.2.2.1 p hp
  · simpa [sU] using hq
  · exact absurd q (by simp [sU])
theorem opClear (h : Inv C S mm t) : opOK w mX9_clear mX10_clear [] C S mm t := by
  have hr := h.2.2.2.2.2.2.1
  have hp9 := h.2.2.2.1
  refine gX9_clear (gX10_clear ⟨hp9.1.1.symm, ?_⟩)
  obtain ⟨a, b, c, d, e, f, g, h9, i, i2⟩ := h
  refine ⟨tOK_cg (fun f h1 h2 => ?_) a, tR_cg (fun _ => ?_) (fun f h1 h2 => ?_) b, slR_cg (fun _ _ => ?_) (fun _ _ => ?_) (fun f j h1 h2 => ?_) c, ⟨⟨?_, ?_, ?_⟩, fun p hp hq => ?_⟩, fun p hp hq => ?_, ⟨⟨?_, ?_⟩, fun q => ?_⟩, ⟨⟨?_, ?_⟩, ⟨?_, ?_, ?_⟩, fun p hp => ?_, fun p hp hq => ?_⟩, lgR_cg (Nat.le_succ t) ?_ ?_ ?_ (fun k j h1 h2 => ?_) ?_ ?_ ?_ ?_ (fun _ => ?_) h9, fun q => ?_, i2⟩
  all_goals first | (simp [uI, sU]; done) | (simp [uI, sU]; omega) | (exfalso; simp [sU] at hq; omega) | (exfalso; simp [sU] at q; done) | skip
  · simpa [uI] using g.2.2.1 p hp
theorem opShare {a : Int} (h : Inv C S mm t) : opOK w mX9_share mX10_share [aI a] C S mm t := by
  have h9 := Inv_0 (Inv_t (Nat.le_succ t) h)
  obtain ⟨hto, ht, hs, hp, -, hd, hr, hl, -⟩ := h
  obtain ⟨hp1, hp2, hp3⟩ := hp.1
  refine gX9_share (sX9_isProgram (fun g1 g2 => ⟨fun q => absurd q (by decide), fun _ => ⟨fun q => ?_, fun q => ?_⟩⟩) (fun g => ⟨fun _ => ?_, fun q => absurd rfl q⟩))
  · have q17 : S 17 0 = 1 := by
      rcases hd.1.2 with e | e
      · rw [hd.1.1, e] at q
        exact absurd rfl q
      · exact e
    rw [hp.1.1] at g2
    obtain ⟨d1, d2, d3⟩ := hd.2 q17 a.toNat (by omega) (by omega)
    have hst := hto.1
    have hsm : C 17 0 a.toNat * C 9 0 0 = S 18 a.toNat := by rw [ht.1]; exact d1
    have hb : 0 ≤ C 17 0 a.toNat * C 9 0 0 ∧ C 17 0 a.toNat * C 9 0 0 ≤ 64 * 64 := by
      rw [ht.1]
      exact ⟨Int.mul_nonneg d2 (by omega), Int.mul_le_mul d3 hst.2 (by omega) (by omega)⟩
    refine ⟨by omega, by omega, gX10_share ⟨fun e => absurd e (by omega), fun _ => sX10_isProgram (by simp [sU]; omega) (fun _ _ => ⟨fun q => absurd q (by decide), fun _ => ⟨by omega, ?_, h9⟩⟩) (fun z => absurd (by simp [sU]; omega) z)⟩⟩
    simp [sU, hsm]
  · rw [hd.1.1] at q
    exact gX10_share ⟨fun _ => ⟨rfl, h9⟩, fun z => absurd q z⟩
  · rw [hp.1.1] at g
    refine gX10_share ⟨fun _ => ⟨rfl, h9⟩, fun _ => sX10_isProgram (by simp [sU]; omega) (fun z1 z2 => absurd (by simp [sU] at z2; omega) g) (fun _ => ⟨fun _ => ⟨rfl, h9⟩, fun q => absurd rfl q⟩)⟩
theorem opOf {a b : Int} (h : Inv C S mm t) : opOK w mX9_of mX10_of [aI a, aI b] C S mm t := by
  have h9 := Inv_0 (Inv_t (Nat.le_succ t) h)
  obtain ⟨hto, ht, hs, hp, -, hd, hr, hl, -⟩ := h
  obtain ⟨⟨r1, r2⟩, ⟨r3, r4, r5⟩, r6, r7⟩ := hr
  have out : ∀ {x : Int}, ¬ (0 ≤ a ∧ a < S 23 0) → x = -2 → rMetI w mX10_of (aO 40 0 :: [aI a, aI b]) C S (rf mm) (fun y S' => y = x ∧ Inv C S' mm (t + 1)) := by
    intro x g hx
    subst hx
    exact gX10_of ⟨by omega, sX10_in (fun z1 z2 => absurd ⟨z1, by omega⟩ g) (fun _ => ⟨fun q => absurd rfl q, fun _ => ⟨rfl, h9⟩⟩)⟩
  refine gX9_of ⟨fun g => out (by omega) rfl, fun g => ⟨fun g2 => ⟨by omega, ?_⟩, fun g2 => out (by omega) rfl⟩⟩
  rw [r3] at g2
  obtain ⟨⟨e1, e2, e3, e4, e5, e6, e7, e8⟩, ⟨e9, e10, e11, e12, e13, e14, e15⟩, -, e16, e17, -⟩ := r7 a.toNat (by omega) (by omega)
  refine gX2_told (show a.toNat < 6 by omega) ?_
  repeat' (first | with_reducible apply And.intro | with_reducible intro _)
  all_goals refine gX10_of ⟨by omega, sX10_in (fun z1 z2 => ⟨fun _ => ?_, fun q => absurd q (by decide)⟩) (fun z => absurd ⟨by omega, by omega⟩ z)⟩
  all_goals repeat' (first | with_reducible apply And.intro | with_reducible intro _)
  all_goals first | exact h9 | omega | (simp only [sU] at *; omega) | (simp [sU] at *; omega)
end OP1
