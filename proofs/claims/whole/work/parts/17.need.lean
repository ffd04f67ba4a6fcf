/-! time, need, falls -/
theorem mlt {a b s : Int} (hs : 0 < s) : a * s < b * s ↔ a < b := by
  constructor
  · intro h
    by_cases h1 : a < b
    · exact h1
    · have := Int.mul_le_mul_of_nonneg_right (Int.not_lt.mp h1) (Int.le_of_lt hs)
      omega
  · intro h
    exact Int.mul_lt_mul_of_pos_right h hs
theorem mle {a b s : Int} (hs : 0 < s) : a * s ≤ b * s ↔ a ≤ b := by
  have := mlt (a := b) (b := a) hs
  omega
theorem mdiv {a s : Int} (hs : 0 < s) : a * s / s = a := Int.mul_ediv_cancel a (Int.ne_of_gt hs)
/-- all is N steps, the reserve M -/
theorem tOK_N {S : aS} (h : tOK S) : ∃ N M : Nat, (1 ≤ N ∧ N ≤ 64) ∧ M ≤ N ∧ S 6 0 = (N : Int) * S 5 0 ∧ S 7 0 = (M : Int) * S 5 0 ∧ S 6 0 / S 5 0 = (N : Int) ∧ (S 6 0 - S 7 0) / S 5 0 = (N : Int) - M ∧ S 6 0 - S 7 0 = ((N : Int) - M) * S 5 0 := by
  obtain ⟨⟨h1, h2⟩, ⟨h3, h4⟩, h5, h6, ⟨h7, h8⟩, h9, -, -⟩ := h
  have e1 := Int.ediv_mul_add_emod (S 6 0) (S 5 0)
  have e2 := Int.ediv_mul_add_emod (S 7 0) (S 5 0)
  rw [h5, Int.add_zero] at e1
  rw [h9, Int.add_zero] at e2
  have hs : 0 < S 5 0 := by omega
  generalize ha : S 6 0 / S 5 0 = a at *
  generalize hb : S 7 0 / S 5 0 = b at *
  have g1 : 1 * S 5 0 ≤ a * S 5 0 := by omega
  have g2 : 0 * S 5 0 ≤ b * S 5 0 := by omega
  have g3 : b * S 5 0 ≤ a * S 5 0 := by omega
  rw [mle hs] at g1 g2 g3
  have e3 : S 6 0 - S 7 0 = (a - b) * S 5 0 := by rw [Int.sub_mul, e1, e2]
  refine ⟨a.toNat, b.toNat, by omega, by omega, ?_, ?_, by omega, ?_, ?_⟩
  · rw [Int.toNat_of_nonneg (by omega)]
    exact e1.symm
  · rw [Int.toNat_of_nonneg (by omega)]
    exact e2.symm
  · rw [Int.toNat_of_nonneg (by omega), Int.toNat_of_nonneg (by omega), e3, mdiv hs]
  · rw [Int.toNat_of_nonneg (by omega), Int.toNat_of_nonneg (by omega)]
    exact e3
def aT (S : aS) (p k : Nat) : Int := alone S p ((k : Int) * S 5 0)
def fstN (g : Nat → Int) : Nat → Nat → Int
  | 0, _ => -1
  | m + 1, k => if g k = -1 then fstN g m (k + 1) else (k : Int)
theorem fstN_is {g : Nat → Int} : ∀ (m k : Nat), fstN g m k = -1 ∨ ∃ q : Nat, k ≤ q ∧ q < k + m ∧ fstN g m k = (q : Int) ∧ g q ≠ -1 ∧ ∀ z, k ≤ z → z < q → g z = -1
  | 0, _ => Or.inl rfl
  | m + 1, k => by
    unfold fstN
    by_cases e : g k = -1
    · rw [if_pos e]
      rcases fstN_is (g := g) m (k + 1) with h | ⟨q, h1, h2, h3, h4, h5⟩
      · exact Or.inl h
      · refine Or.inr ⟨q, by omega, by omega, h3, h4, fun z z1 z2 => ?_⟩
        by_cases ez : z = k
        · rw [ez]
          exact e
        · exact h5 z (by omega) z2
    · rw [if_neg e]
      exact Or.inr ⟨k, by omega, by omega, rfl, e, fun z z1 z2 => absurd z2 (by omega)⟩
theorem fstN_no {g : Nat → Int} : ∀ (m k : Nat), fstN g m k = -1 → ∀ z, k ≤ z → z < k + m → g z = -1
  | 0, _, _, _, h1, h2 => absurd h2 (by omega)
  | m + 1, k, h, z, h1, h2 => by
    unfold fstN at h
    by_cases e : g k = -1
    · rw [if_pos e] at h
      by_cases ez : z = k
      · rw [ez]
        exact e
      · exact fstN_no m (k + 1) h z (by omega) (by omega)
    · rw [if_neg e] at h
      omega
def ups (S : aS) (v : Int) : Int := (v + S 5 0 - 1) / S 5 0
def needF (S : aS) (p : Nat) : Int := fstN (aT S p) ((S 6 0 / S 5 0).toNat + 1 - (ups S (S 15 p)).toNat) (ups S (S 15 p)).toNat
/-- what the learning of times may change -/
def tF (C C' : aIF) : Prop := (∀ k i j, k ≠ 8 → ¬ (k = 6 ∧ j = 6) → (k < 11 ∨ 16 < k) → C' k i j = C k i j) ∧ ∀ j, C 6 j 6 = 1 → C' 6 j 6 = 1
theorem tF_refl {C : aIF} : tF C C := ⟨fun _ _ _ _ _ _ => rfl, fun _ h => h⟩
theorem tF_trans {C C1 C2 : aIF} (h : tF C C1) (k : tF C1 C2) : tF C C2 := ⟨fun a i j h1 h2 h3 => by rw [k.1 a i j h1 h2 h3, h.1 a i j h1 h2 h3], fun j z => k.2 j (h.2 j z)⟩
theorem Inv_tF {C C' : aIF} {S : aS} {mm t : Nat} (h : Inv C S mm t) (k : tF C C') (kt : tmR C' S) : Inv C' S mm t := by
  obtain ⟨a, b, c, d, e, f, g, h9, i, i2⟩ := h
  have q : ∀ k i j, k < 6 ∨ 16 < k ∨ k = 7 ∨ k = 9 ∨ k = 10 → C' k i j = C k i j := fun k1 i j hk => k.1 k1 i j (by omega) (by omega) (by omega)
  exact ⟨a, tR_cg (fun _ => q _ _ _ (by omega)) (fun _ _ _ => rfl) b, slR_cg (fun _ _ => q _ _ _ (by omega)) (fun _ _ => q _ _ _ (by omega)) (fun _ _ _ _ => rfl) c, prR_cg (q _ _ _ (by omega)) (fun i j hj => k.1 _ _ _ (by omega) (by omega) (by omega)) (fun _ _ => q _ _ _ (by omega)) rfl (fun _ _ _ _ => rfl) d, kt, dlR_cg (q _ _ _ (by omega)) (fun _ => q _ _ _ (by omega)) rfl rfl rfl (fun _ => rfl) f,
    ruR_cg (q _ _ _ (by omega)) (q _ _ _ (by omega)) (fun _ _ => q _ _ _ (by omega)) (fun _ _ => q _ _ _ (by omega)) (fun _ _ => q _ _ _ (by omega)) rfl rfl (fun _ _ _ _ => rfl) g, lgR_cg (Nat.le_refl _) (q _ _ _ (by omega)) (q _ _ _ (by omega)) (q _ _ _ (by omega)) (fun _ _ _ _ => q _ _ _ (by omega)) rfl rfl rfl rfl (fun _ => rfl) h9, i, i2⟩
def len (S : aS) (p : Nat) : Nat := (S 11 p).toNat
theorem pC_of {C : aIF} {S : aS} {p : Nat} (h : pR C S p) : pC C p (S 13 p) (S 11 p).toNat (S 14 p).toNat (fun k => S 12 (60 * p + k)) := by
  obtain ⟨⟨h1, h2, h3⟩, h4, ⟨h5, h6, h7⟩, h8, h9⟩ := h
  exact ⟨by omega, h4, by omega, fun q hq => (h9 q (by omega) (by omega)).1⟩
section ND
variable {w : aW} {mm t : Nat}
theorem sX0_timeByRoom {C : aIF} {S : aS} {p : Nat} {r : Int} {P : Int → aIF → Prop} (hp : p < 6) (hR : pR C S p) (hr : 0 ≤ r ∧ r ≤ 4096) (hP : ∀ C' : aIF, (∀ k i j, k < 11 ∨ 16 < k → C' k i j = C k i j) → P (alone S p r) C') : kMetI w mX0_timeByRoom [aO 10 0, aO 6 p, aI r] C S (rf mm) P := by
  have ho := pOK_of hR
  refine gX0_timeByRoom hp ?_
  refine sX8_pass (L := 1) hp (by omega) (Int.le_refl 0) (fun q hq => ?_) (pC_of hR) (by have := ho.1; omega) (by have := ho.2.1; omega) (fun q hq => ho.2.2 q (by have := ho.1; omega) (by omega)) (fun C' h1 h2 h3 => ?_)
  · rw [Int.mul_zero]
    omega
  · have := h3 0 (by omega)
    rw [Int.mul_zero, Int.add_zero] at this
    have e : alone S p r = aloneF (S 13 p) (S 14 p).toNat (S 11 p).toNat (fun k => S 12 (60 * p + k)) r := rfl
    rw [← e] at this
    refine gX8_timeOf ⟨fun q => ?_, fun q => ⟨fun _ => ⟨by omega, ?_⟩, fun z => absurd (by rw [h2]; decide) z⟩⟩
    · rw [← this.1 q]
      exact hP C' h1
    · obtain ⟨g1, g2⟩ := this.2 q
      refine ⟨g1 |> fun z => ⟨by show _ ≤ C' 11 0 6 + C' 16 0 0; omega, by show C' 11 0 6 + C' 16 0 0 < _; omega⟩, ?_⟩
      show P (C' 11 0 6 + C' 16 0 0) C'
      rw [← g2]
      exact hP C' h1
theorem opTime {C : aIF} {S : aS} {a b : Int} (h : Inv C S mm t) : opOK w mX9_time mX10_time [aI a, aI b] C S mm t := by
  have h9 := Inv_0 (Inv_t (Nat.le_succ t) h)
  have hp := h.2.2.2.1
  have hp1 := hp.1
  have hb : 0 ≤ sU S 0 0 0 10 0 ∧ sU S 0 0 0 10 0 ≤ 6 := by rw [sU_f rfl]; omega
  have h10 : sU S 0 0 0 10 0 = S 10 0 := sU_f rfl
  refine gX9_time (sX9_isProgram (fun g1 g2 => ⟨fun q => absurd q (by decide), fun _ => ⟨fun q => ?_, fun q => ⟨fun q2 => ⟨by omega, ?_⟩, fun q2 => ?_⟩⟩⟩) (fun g => ⟨fun _ => ?_, fun q => absurd rfl q⟩))
  · exact gX10_time (sX10_isProgram hb (fun _ _ => ⟨fun q => absurd q (by decide), fun _ => sX10_in (fun z _ => absurd z (by omega)) (fun _ => ⟨fun _ => ⟨rfl, h9⟩, fun q => absurd rfl q⟩)⟩) (fun _ => ⟨fun _ => ⟨rfl, h9⟩, fun q => absurd rfl q⟩))
  · obtain ⟨p, rfl⟩ : ∃ p : Nat, a = (p : Int) := ⟨a.toNat, by omega⟩
    have hR := hp.2 p (by omega) (by omega)
    rw [Int.toNat_natCast]
    refine sX0_timeByRoom (by omega) hR (by omega) (fun C' hf => ?_)
    have hI := Inv_tF h9 (C' := C') ⟨fun k i j _ _ z => hf k i j z, fun j z => by rw [hf _ _ _ (by omega)]; exact z⟩ (tmR_cg (fun _ => hf _ _ _ (by omega)) (fun _ _ => hf _ _ _ (by omega)) rfl rfl rfl (fun _ _ _ _ => rfl) h9.2.2.2.2.1)
    refine gX10_time (sX10_isProgram hb (fun _ _ => ⟨fun q => absurd q (by decide), fun _ => sX10_in (fun _ _ => ⟨fun q => absurd q (by decide), fun _ => ?_⟩) (fun z => absurd (by omega) z)⟩) (fun z => absurd (by rw [h10]; omega) z))
    have e : alone (sU S 0 0 0) p b = alone S p b := alone_cg (fun f j q1 q2 => sU_ne (by omega)) p b
    refine sX10_alone (by omega) (by omega) (by omega) (pOK_cg (fun f j q1 q2 => sU_ne (by omega)) (pOK_of hR)) (fun S' hS => ⟨e, Inv_S (fun f j _ _ z _ _ _ => hS f j z) hI⟩)
  · exact gX10_time (sX10_isProgram hb (fun _ _ => ⟨fun q => absurd q (by decide), fun _ => sX10_in (fun _ z => absurd z (by omega)) (fun _ => ⟨fun _ => ⟨rfl, h9⟩, fun q => absurd rfl q⟩)⟩) (fun _ => ⟨fun _ => ⟨rfl, h9⟩, fun q => absurd rfl q⟩))
  · exact gX10_time (sX10_isProgram hb (fun z1 z2 => absurd (by rw [h10] at z2; omega) g) (fun _ => ⟨fun _ => ⟨rfl, h9⟩, fun q => absurd rfl q⟩))
end ND
