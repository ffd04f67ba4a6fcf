/-! deal: the needs, the reference, both -/
def dF (C C' : aIF) : Prop := ∀ k i j, k ≠ 8 → ¬ (k = 6 ∧ j = 6) → ¬ (k = 10 ∧ j = 4) → (k < 11 ∨ 20 < k) → C' k i j = C k i j
theorem dF_trans {C C1 C2 : aIF} (h : dF C C1) (k : dF C1 C2) : dF C C2 := fun a i j z1 z2 z3 z4 => by rw [k a i j z1 z2 z3 z4, h a i j z1 z2 z3 z4]
theorem dF_of {C C' : aIF} (h : tF C C') : dF C C' := fun k i j z1 z2 z3 z4 => h.1 k i j z1 z2 (by omega)
/-- what a deal may change of the reference -/
def eF (S S' : aS) : Prop := ∀ f j, f ≠ 0 → (f < 16 ∨ 21 < f) → S' f j = S f j
theorem eF_trans {S S1 S2 : aS} (h : eF S S1) (k : eF S1 S2) : eF S S2 := fun f j a b => by rw [k f j a b, h f j a b]
theorem eF_16 {S S' : aS} (h : ∀ f j, f ≠ 16 → S' f j = S f j) : eF S S' := fun f j _ _ => h f j (by omega)
theorem sF_e {S S' : aS} (h : eF S S') : sF S S' := fun f j _ _ => h f j (by omega) (by omega)
theorem Inv_D {C C' : aIF} {S S' : aS} {mm t : Nat} (h : Inv C S mm t) (k : dF C C') (ks : eF S S') (kt : kR C' S) (kd : dlR C' S') : Inv C' S' mm t := by
  obtain ⟨a, b, c, d, e, f, g, h9, i, i2⟩ := h
  have q : ∀ k i j, k < 6 ∨ 20 < k ∨ k = 7 ∨ k = 9 → C' k i j = C k i j := fun k1 i j hk => k k1 i j (by omega) (by omega) (by omega) (by omega)
  have s : ∀ f j, f ≠ 0 → (f < 16 ∨ 21 < f) → S' f j = S f j := ks
  exact ⟨tOK_cg (fun f h1 h2 => s f 0 (by omega) (by omega)) a, tR_cg (fun _ => rfl) (fun f h1 h2 => s f 0 (by omega) (by omega)) kt.2.1, slR_cg (fun _ _ => q _ _ _ (by omega)) (fun _ _ => q _ _ _ (by omega)) (fun f j h1 h2 => s f j (by omega) (by omega)) c, prR_cg rfl (fun _ _ _ => rfl) (fun _ _ => rfl) (s _ _ (by omega) (by omega)) (fun f j h1 h2 => s f j (by omega) (by omega)) kt.2.2.1, tmR_cg (fun _ => rfl) (fun _ _ => rfl) (s _ _ (by omega) (by omega)) (s _ _ (by omega) (by omega)) (s _ _ (by omega) (by omega)) (fun f j h1 h2 => s f j (by omega) (by omega)) kt.2.2.2, kd,
    ruR_cg (q _ _ _ (by omega)) (q _ _ _ (by omega)) (fun _ _ => q _ _ _ (by omega)) (fun _ _ => q _ _ _ (by omega)) (fun _ _ => q _ _ _ (by omega)) (s _ _ (by omega) (by omega)) (s _ _ (by omega) (by omega)) (fun f j h1 h2 => s f j (by omega) (by omega)) g, lgR_cg (Nat.le_refl _) (q _ _ _ (by omega)) (q _ _ _ (by omega)) (q _ _ _ (by omega)) (fun _ _ _ _ => q _ _ _ (by omega)) (s _ _ (by omega) (by omega)) (s _ _ (by omega) (by omega)) (s _ _ (by omega) (by omega)) (s _ _ (by omega) (by omega)) (fun j => s _ _ (by omega) (by omega)) h9,
    rgR_cg (s _ _ (by omega) (by omega)) (s _ _ (by omega) (by omega)) (s _ _ (by omega) (by omega)) (s _ _ (by omega) (by omega)) (s _ _ (by omega) (by omega)) (s _ _ (by omega) (by omega)) (fun f j h1 h2 => s f j (by omega) (by omega)) (fun f j h1 h2 => s f j (by omega) (by omega)) i, i2⟩
theorem sumN_mono {f : Nat → Int} : ∀ (n k : Nat), k ≤ n → (∀ q, q < n → 0 ≤ f q) → sumN f k ≤ sumN f n
  | 0, k, hk, _ => by
    have : k = 0 := by omega
    rw [this]
    exact Int.le_refl _
  | n + 1, k, hk, h => by
    by_cases e : k = n + 1
    · rw [e]
      exact Int.le_refl _
    · have := sumN_mono n k (by omega) (fun q hq => h q (by omega))
      have := h n (by omega)
      show sumN f k ≤ sumN f n + f n
      omega
def nOK (S : aS) (n : Nat) (D : Int) : Prop := (∀ p, p < n → needF S p ≠ -1) ∧ sumN (needF S) n ≤ D
section DL2
variable {w : aW} {mm t : Nat}
theorem sX0_by_16 {S : aS} {n N : Nat} {D : Int} {P : Int → aIF → Prop} (hn : n ≤ 6) (hN : N ≤ 64) (eN : S 6 0 / S 5 0 = (N : Int)) (h10 : S 10 0 = (n : Int)) (hD : D ≤ 64) : ∀ (m p : Nat) (C : aIF), p + m = n → kR C S → (∀ q, q < p → needF S q ≠ -1 ∧ C 17 0 q = needF S q ∧ C 6 q 6 = 1) → sumN (needF S) p ≤ D →
    (¬ nOK S n D → ∀ C' : aIF, dF C C' → kR C' S → C' 10 0 4 = C 10 0 4 → P (-1) C') →
    (nOK S n D → ∀ C' : aIF, dF C C' → kR C' S → (∀ q, q < n → C' 17 0 q = needF S q ∧ C' 6 q 6 = 1) → kRunI w mX0_bySavings 66 [some (aO 10 0), some (aO 5 0), some (aI (n : Int)), some (aI (D - sumN (needF S) n)), some (aI (n : Int)), none] [] C' S (rf mm) P) →
    kRunI w mX0_bySavings 16 [some (aO 10 0), some (aO 5 0), some (aI (n : Int)), some (aI (D - sumN (needF S) p)), some (aI (p : Int)), none] [] C S (rf mm) P
  | 0, p, C, e, hk, hq, hs, hb, hg => by
    have : p = n := by omega
    subst this
    exact gX0_bySavings_16 ⟨fun _ => hg ⟨fun q z => (hq q z).1, hs⟩ C (fun _ _ _ _ _ _ _ => rfl) hk (fun q z => (hq q z).2), fun q => absurd (by omega) q⟩
  | m + 1, p, C, e, hk, hq, hs, hb, hg => by
    have hbn : ∀ q, needF S q = -1 ∨ (0 ≤ needF S q ∧ needF S q ≤ 64) := fun q => by
      rcases needF_is (S := S) (p := q) eN with z | ⟨z, z0, z1, z2, z3, z4⟩
      · exact Or.inl z
      · exact Or.inr (by omega)
    refine gX0_bySavings_16 ⟨fun q => absurd q (by omega), fun _ => ⟨by omega, sX0_need hk (by omega) (by omega) (fun C1 f1 k1 c1 => ?_)⟩⟩
    have hs0 := sumN_0 (f := needF S) p (fun q z => by have := hbn q; have := (hq q z).1; omega)
    have hb1 := hbn p
    refine ⟨fun q => ?_, fun q => ⟨fun q2 => ⟨by omega, by omega, ?_⟩, fun q2 => ?_⟩⟩
    · exact hb (fun z => z.1 p (by omega) q) C1 (dF_of f1) k1 (f1.1 _ _ _ (by omega) (by omega) (by omega))
    · have := sX0_by_16 (P := P) hn hN eN h10 hD m (p + 1) (uI C1 17 0 p (needF S p)) (by omega) (kR_cg k1 (fun k i j z => uI_no (by omega))) (fun z hz => ?_) (by show sumN (needF S) p + needF S p ≤ D; omega) (fun z C' d1 d2 d3 => hb z C' (fun k i j z1 z2 z3 z4 => by rw [d1 k i j z1 z2 z3 z4, uI_no (by omega)]; exact f1.1 k i j z1 z2 (by omega)) d2 (by rw [d3, uI_k rfl]; exact f1.1 _ _ _ (by omega) (by omega) (by omega))) (fun z C' d1 d2 d3 => hg z C' (fun k i j z1 z2 z3 z4 => by rw [d1 k i j z1 z2 z3 z4, uI_no (by omega)]; exact f1.1 k i j z1 z2 (by omega)) d2 d3)
      · rw [show D - sumN (needF S) p - needF S p = D - sumN (needF S) (p + 1) by show _ = D - (sumN (needF S) p + needF S p); omega]
        exact this
      · by_cases ez : z = p
        · rw [ez, uI_s, uI_k rfl]
          exact ⟨q, rfl, c1⟩
        · have := hq z (by omega)
          rw [uI_no (by omega), uI_k rfl, f1.1 17 0 z (by omega) (by omega) (by omega)]
          exact ⟨this.1, this.2.1, f1.2 z this.2.2⟩
    · refine hb (fun z => ?_) C1 (dF_of f1) k1 (f1.1 _ _ _ (by omega) (by omega) (by omega))
      have := sumN_mono (f := needF S) n (p + 1) (by omega) (fun q hq => by have := hbn q; have := z.1 q hq; omega)
      have h2 : sumN (needF S) (p + 1) = sumN (needF S) p + needF S p := rfl
      have := z.2
      omega
/-- what a deal by savings gives -/
def shF (S : aS) (n N : Nat) (D : Int) : Nat → Nat := grF (aT S) n (D - sumN (needF S) n).toNat (fun p => (needF S p).toNat)
theorem sX0_by {C : aIF} {S : aS} {n N M : Nat} {P : Int → aIF → Prop} (hk : kR C S) (hn : n ≤ 6) (h10 : S 10 0 = (n : Int)) (hN : 1 ≤ N ∧ N ≤ 64) (hM : M ≤ N) (e6 : S 6 0 = (N : Int) * S 5 0) (eN : S 6 0 / S 5 0 = (N : Int)) (eM : (S 6 0 - S 7 0) / S 5 0 = (N : Int) - M)
    (hb : ¬ nOK S n ((N : Int) - M) → ∀ C' : aIF, dF C C' → kR C' S → C' 10 0 4 = 0 → P (-1) C') (hg : nOK S n ((N : Int) - M) → ∀ C' : aIF, dF C C' → kR C' S → C' 10 0 4 = 1 → (∀ p, p < n → C' 17 0 p = (shF S n N ((N : Int) - M) p : Int)) → P (smF (aT S) (shF S n N ((N : Int) - M)) n 0 0) C') : kMetI w mX0_bySavings [aO 10 0, aO 5 0, aI (n : Int)] C S (rf mm) P := by
  obtain ⟨r0, r1, r2, r3, r4⟩ := hk.2.1
  have h5 := hk.1.1
  have h6 := hk.1.2.1
  have h7 := hk.1.2.2.2.2.1
  have hs : 0 < S 5 0 := by omega
  refine gX0_bySavings (gX5_dealtSteps ?_)
  rw [uI_k rfl, uI_k rfl, uI_k rfl, r0, r1, r2, eM]
  refine ⟨by omega, by omega, ?_⟩
  have hbn : ∀ q, needF S q = -1 ∨ (0 ≤ needF S q ∧ needF S q ≤ N) := fun q => by
    rcases needF_is (S := S) (p := q) eN with z | ⟨z, z0, z1, z2, z3, z4⟩
    · exact Or.inl z
    · exact Or.inr (by omega)
  have d0 : ∀ {C' : aIF}, dF (uI C 10 0 4 0) C' → dF C C' := fun {C'} d k i j z1 z2 z3 z4 => by
    rw [d k i j z1 z2 z3 z4]
    exact uI_no (fun z => z3 ⟨z.1, z.2.2⟩)
  have := sX0_by_16 (w := w) (mm := mm) (S := S) (P := P) (D := (N : Int) - M) hn hN.2 eN h10 (by omega) n 0 (uI C 10 0 4 0) (by omega) (kR_cg hk (fun k i j z => uI_no (by omega))) (fun q z => absurd z (by omega)) (by show (0 : Int) ≤ _; omega) (fun z C' f1 f2 f3 => hb z C' (d0 f1) f2 (by rw [f3]; exact uI_s)) (fun z C1 f1 f2 f3 => ?_)
  · rw [show (N : Int) - M = (N : Int) - M - sumN (needF S) 0 by show _ = (N : Int) - M - 0; omega]
    exact this
  · have hz := z.2
    have hs0 := sumN_0 (f := needF S) n (fun q hq => by have := hbn q; have := z.1 q hq; omega)
    have el : (N : Int) - M - sumN (needF S) n = (((N : Int) - M - sumN (needF S) n).toNat : Int) := by omega
    obtain ⟨u0, u1, u2, u3, u4⟩ := f2.2.1
    rw [el]
    refine sX0_by_66 (g := aT S) (N := N) hn hN.2 _ (fun p => (needF S p).toNat) C1 n (by omega) (by omega) (by rw [u0, u1]; exact eN) (fun p hp => ?_) (fun p hp k hk2 => ?_) (fun C' v1 v2 v3 => hg z C' (fun k i j z1 z2 z3 z4 => by rw [v1 k i j z3 (by omega)]; exact d0 f1 k i j z1 z2 z3 z4) (kR_cg f2 (fun k i j z => v1 k i j (by omega) (by omega))) v2 v3)
    · have b1 := hbn p
      have b2 := z.1 p hp
      have b3 := sumN_one (f := needF S) hp (fun q hq => by have := hbn q; have := z.1 q hq; omega)
      rw [(f3 p hp).1]
      omega
    · have b1 := (f2.2.2.2 p (by omega) (by omega)).resolve_left (by have := (f3 p hp).2; omega)
      have b0 : (k : Int) * S 5 0 ≤ S 6 0 := by rw [e6, mle hs]; omega
      have b2 := b1.2 k (by omega) b0
      have b3 := aT_bd (S := S) (p := p) (k := k) (sR_of hk) (by omega) (by omega) b0
      exact ⟨b2, by omega, by omega⟩
/-! the reference -/
theorem sX10_are_4 {C : aIF} {n N : Nat} {st : Int} {nd : Nat → Int} {P : Int → aS → Prop} (hn : n ≤ 6) (hN : N ≤ 64) (hs : 1 ≤ st ∧ st ≤ 64) (hnd : ∀ q, nd q = -1 ∨ (0 ≤ nd q ∧ nd q ≤ 64)) : ∀ (m p : Nat) (S : aS), p + m = n → sR S → S 5 0 = st → S 10 0 = (n : Int) → S 6 0 ≤ 4096 → 0 ≤ S 7 0 ∧ S 7 0 ≤ S 6 0 → (∀ q, needF S q = nd q) → (∀ q, q < p → nd q ≠ -1 ∧ S 19 q = nd q * st) → (0 ≤ sumN nd p * st ∧ sumN nd p * st ≤ 4096 * (p : Int)) →
    (∀ (S' : aS) , (∀ f j, f ≠ 16 → f ≠ 19 → S' f j = S f j) → ¬ ((∀ q, q < n → nd q ≠ -1) ∧ sumN nd n * st ≤ S 6 0 - S 7 0) → P 0 S') →
    (∀ (S' : aS) , (∀ f j, f ≠ 16 → f ≠ 19 → S' f j = S f j) → (∀ q, q < n → nd q ≠ -1) → sumN nd n * st ≤ S 6 0 - S 7 0 → (∀ q, q < n → S' 19 q = nd q * st) → P 1 S') →
    rRunI w mX10_areNeeds 4 [some (aO 40 0), some (aI (sumN nd p * st)), some (aI (p : Int))] [] C S (rf mm) P
  | 0, p, S, e, hR, h5, h10, h6, h7, hnf, hq, hbd, hb, hg => by
    have : p = n := by omega
    subst this
    refine gX10_areNeeds_4 ⟨fun _ => ⟨by omega, fun q => hb S (fun _ _ _ _ => rfl) (fun z => absurd z.2 (by omega)), fun q => hg S (fun _ _ _ _ => rfl) (fun q z => (hq q z).1) (by omega) (fun q z => (hq q z).2)⟩, fun q => absurd (by omega) q⟩
  | m + 1, p, S, e, hR, h5, h10, h6, h7, hnf, hq, hbd, hb, hg => by
    have hb1 := hnd p
    refine gX10_areNeeds_4 ⟨fun q => absurd q (by omega), fun _ => sX10_needOf hR (by omega) (by omega) (fun S1 f1 => ?_)⟩
    rw [hnf p, h5]
    refine ⟨by omega, fun q => ?_, fun q => ?_⟩
    · have q2 : nd p ≠ -1 := fun z => by rw [if_pos z] at q; exact q rfl
      rw [if_neg q2]
      have m1 : 0 ≤ nd p * st := Int.mul_nonneg (by omega) (by omega)
      have m2 : nd p * st ≤ 64 * 64 := Int.mul_le_mul (by omega) (by omega) (by omega) (by omega)
      have m3 : sumN nd (p + 1) * st = sumN nd p * st + nd p * st := by
        show (sumN nd p + nd p) * st = _
        rw [Int.add_mul]
      refine ⟨by omega, by omega, ?_⟩
      rw [← m3]
      have hF : ∀ f j, f ≠ 16 → f ≠ 19 → sU S1 19 p (nd p * st) f j = S f j := fun f j z1 z2 => by
        rw [sU_ne (fun z => z2 z.1)]
        exact f1 f j z1
      have hsF : sF S (sU S1 19 p (nd p * st)) := fun f j z1 z2 => hF f j (by omega) (by omega)
      refine sX10_are_4 (C := C) hn hN hs hnd m (p + 1) (sU S1 19 p (nd p * st)) (by omega) (sR_cg hR hsF) (by rw [hF _ _ (by decide) (by decide)]; exact h5) (by rw [hF _ _ (by decide) (by decide)]; exact h10) (by rw [hF _ _ (by decide) (by decide)]; exact h6) (by rw [hF _ _ (by decide) (by decide), hF _ _ (by decide) (by decide)]; exact h7) (fun z => by rw [needF_cg hsF]; exact hnf z) (fun z hz => ?_) ⟨by omega, by omega⟩ (fun S' g1 g2 => hb S' (fun f j z1 z2 => by rw [g1 f j z1 z2, hF f j z1 z2]) (by rw [hF _ _ (by decide) (by decide), hF _ _ (by decide) (by decide)] at g2; exact g2)) (fun S' g1 g2 g3 g4 => hg S' (fun f j z1 z2 => by rw [g1 f j z1 z2, hF f j z1 z2]) g2 (by rw [hF _ _ (by decide) (by decide), hF _ _ (by decide) (by decide)] at g3; exact g3) g4)
      by_cases ez : z = p
      · rw [ez, sU_s]
        exact ⟨q2, rfl⟩
      · rw [sU_ne (fun y => ez y.2), f1 _ _ (by decide)]
        exact hq z (by omega)
    · have q2 : nd p = -1 := by
        by_cases z : nd p = -1
        · exact z
        · rw [if_neg z] at q
          have : 0 ≤ nd p * st := Int.mul_nonneg (by omega) (by omega)
          omega
      exact hb _ (fun f j z1 z2 => by rw [sU_ne (fun z => z2 z.1)]; exact f1 f j z1) (fun z => z.1 p (by omega) q2)
theorem sX10_sum_4 {C : aIF} {n : Nat} {g : Nat → Nat → Int} {sh : Nat → Nat} {P : Int → aS → Prop} (hn : n ≤ 6) : ∀ (m k : Nat) (acc : Int) (S : aS), k + m = n → sR S → S 10 0 = (n : Int) → (∀ p, p < n → S 18 p = (sh p : Int) * S 5 0 ∧ (sh p : Int) * S 5 0 ≤ S 6 0 ∧ aT S p = g p) → -(k : Int) ≤ acc → acc ≤ 20160000 * (k : Int) → (∀ S' : aS, (∀ f j, f ≠ 16 → S' f j = S f j) → P (smF g sh m k acc) S') → rRunI w mX10_sum 4 [some (aO 40 0), some (aI acc), some (aI (k : Int))] [] C S (rf mm) P
  | 0, k, acc, S, e, hR, h10, hsh, _, _, hP => gX10_sum_4 ⟨fun _ => hP S (fun _ _ _ => rfl), fun q => absurd (by omega) q⟩
  | m + 1, k, acc, S, e, hR, h10, hsh, i1, i2, hP => by
    obtain ⟨s1, s2, s3⟩ := hsh k (by omega)
    have hs := hR.1.1
    have h6 := hR.1.2.1
    have hb := aT_bd (S := S) (p := k) (k := sh k) hR (by omega) (by omega) s2
    refine gX10_sum_4 ⟨fun q => absurd q (by omega), fun _ => ⟨by omega, ?_⟩⟩
    rw [s1]
    refine sX10_alone (by omega) (Int.mul_nonneg (by omega) (by omega)) (by omega) (hR.2.2 k (by omega) (by omega)).1 (fun S1 f1 => ?_)
    have e1 : alone S k ((sh k : Int) * S 5 0) = aT S k (sh k) := rfl
    rw [e1]
    refine ⟨by omega, by omega, ?_⟩
    rw [s3]
    rw [s3] at hb
    refine sX10_sum_4 hn m (k + 1) _ S1 (by omega) (sR_cg hR (sF_16 f1)) (by rw [f1 _ _ (by decide)]; exact h10) (fun p hp => ?_) (by omega) (by omega) (fun S' f2 => hP S' (fun f j z => by rw [f2 f j z, f1 f j z]))
    rw [aT_cg (sF_16 f1), f1 _ _ (by decide), f1 _ _ (by decide), f1 _ _ (by decide)]
    exact hsh p hp
theorem sX10_dealt_86 {C : aIF} {n : Nat} {g : Nat → Nat → Int} {sh : Nat → Nat} {l1 l2 : Int} {P : Int → aS → Prop} (hn : n ≤ 6) : ∀ (m k : Nat) (who most : Int) (S : aS), k + m = n → sR S → S 10 0 = (n : Int) → (∀ p, p < n → S 18 p = (sh p : Int) * S 5 0 ∧ ((sh p + 1 : Nat) : Int) * S 5 0 ≤ S 6 0 ∧ aT S p = g p) →
    (∀ (x : Int) (S' : aS), (∀ f j, f ≠ 16 → S' f j = S f j) → rRunI w mX10_dealt 86 [some (aO 40 0), some (aI l1), some (aI l2), some (aI (whoF (svF g sh) m k who most)), some (aI x), some (aI (n : Int)), none] [] C S' (rf mm) P) →
    rRunI w mX10_dealt 86 [some (aO 40 0), some (aI l1), some (aI l2), some (aI who), some (aI most), some (aI (k : Int)), none] [] C S (rf mm) P
  | 0, k, who, most, S, e, hR, h10, hsh, hP => by
    have : k = n := by omega
    subst this
    exact hP most S (fun _ _ _ => rfl)
  | m + 1, k, who, most, S, e, hR, h10, hsh, hP => by
    obtain ⟨s1, s2, s3⟩ := hsh k (by omega)
    have hs := hR.1.1
    have h6 := hR.1.2.1
    have e2 : (sh k : Int) * S 5 0 + S 5 0 = ((sh k + 1 : Nat) : Int) * S 5 0 := by rw [Int.natCast_succ, Int.add_mul, Int.one_mul]
    have m0 : 0 ≤ (sh k : Int) * S 5 0 := Int.mul_nonneg (by omega) (by omega)
    have hb := aT_bd (S := S) (p := k) (k := sh k) hR (by omega) (by omega) (by omega)
    have hb2 := aT_bd (S := S) (p := k) (k := sh k + 1) hR (by omega) (by omega) s2
    rw [s3] at hb hb2
    unfold whoF at hP
    refine gX10_dealt_86 ⟨fun q => absurd q (by omega), fun _ => ⟨by omega, ?_⟩⟩
    rw [s1]
    refine sX10_alone (by omega) m0 (by omega) (hR.2.2 k (by omega) (by omega)).1 (fun S1 f1 => ?_)
    rw [f1 _ _ (by decide), f1 _ _ (by decide), s1, e2]
    refine ⟨by omega, sX10_alone (by omega) (by omega) (by omega) ((sR_cg hR (sF_16 f1)).2.2 k (by omega) (by rw [f1 _ _ (by decide)]; omega)).1 (fun S2 f2 => ?_)⟩
    have a1 : alone S k ((sh k : Int) * S 5 0) = g k (sh k) := by rw [← s3]; rfl
    have a2 : alone S1 k (((sh k + 1 : Nat) : Int) * S 5 0) = g k (sh k + 1) := by
      rw [alone_cg (fun f j z1 z2 => f1 f j (by omega)) k, ← s3]
      rfl
    have e3 : svF g sh k = g k (sh k) - g k (sh k + 1) := rfl
    have f12 : ∀ f j, f ≠ 16 → S2 f j = S f j := fun f j z => by rw [f2 f j z, f1 f j z]
    rw [a1, a2]
    have hsh2 : ∀ p, p < n → S2 18 p = (sh p : Int) * S2 5 0 ∧ ((sh p + 1 : Nat) : Int) * S2 5 0 ≤ S2 6 0 ∧ aT S2 p = g p := fun p hp => by
      rw [aT_cg (sF_16 f12), f12 _ _ (by decide), f12 _ _ (by decide), f12 _ _ (by decide)]
      exact hsh p hp
    refine ⟨by omega, fun q => ⟨by omega, ?_⟩, fun q => ⟨by omega, ?_⟩⟩
    · rw [if_pos (by omega)] at hP
      exact sX10_dealt_86 hn m (k + 1) _ _ S2 (by omega) (sR_cg hR (sF_16 f12)) (by rw [f12 _ _ (by decide)]; exact h10) hsh2 (fun x S' f => hP x S' (fun a b z => by rw [f a b z, f12 a b z]))
    · rw [if_neg (by omega)] at hP
      exact sX10_dealt_86 hn m (k + 1) _ _ S2 (by omega) (sR_cg hR (sF_16 f12)) (by rw [f12 _ _ (by decide)]; exact h10) hsh2 (fun x S' f => hP x S' (fun a b z => by rw [f a b z, f12 a b z]))
theorem sX10_dealt_66 {C : aIF} {n : Nat} {g : Nat → Nat → Int} {P : Int → aS → Prop} (hn : n ≤ 6) : ∀ (l : Nat) (sh : Nat → Nat) (S : aS), sR S → S 10 0 = (n : Int) → (∀ p, p < n → S 18 p = (sh p : Int) * S 5 0 ∧ ((sh p + l : Nat) : Int) * S 5 0 ≤ S 6 0 ∧ aT S p = g p) →
    (∀ S' : aS, (∀ f j, f ≠ 16 → f ≠ 18 → S' f j = S f j) → (∀ p, p < n → S' 18 p = (grF g n l sh p : Int) * S 5 0) → P (smF g (grF g n l sh) n 0 0) S') →
    rRunI w mX10_dealt 66 [some (aO 40 0), some (aI ((l : Int) * S 5 0)), some (aI 1), none, none, none, none] [] C S (rf mm) P
  | 0, sh, S, hR, h10, hsh, hP => by
    have hs := hR.1.1
    refine gX10_dealt_66 ⟨fun q => absurd q (by decide), fun _ => ⟨fun _ => ?_, fun q => absurd (by omega) q⟩⟩
    exact gX10_sum (sX10_sum_4 (g := g) (sh := sh) hn n 0 0 S (by omega) hR h10 (fun p hp => ⟨(hsh p hp).1, (hsh p hp).2.1, (hsh p hp).2.2⟩) (by omega) (by omega) (fun S' f => hP S' (fun a b z _ => f a b z) (fun p hp => by rw [f _ _ (by decide)]; exact (hsh p hp).1)))
  | l + 1, sh, S, hR, h10, hsh, hP => by
    have hs := hR.1.1
    have h6 := hR.1.2.1
    have e1 : ((l + 1 : Nat) : Int) * S 5 0 = (l : Int) * S 5 0 + S 5 0 := by rw [Int.natCast_succ, Int.add_mul, Int.one_mul]
    have m0 : 0 ≤ (l : Int) * S 5 0 := Int.mul_nonneg (by omega) (by omega)
    have hlt : ∀ p, p < n → ∀ k, k ≤ sh p + (l + 1) → (k : Int) * S 5 0 ≤ S 6 0 := fun p hp k hk => by
      have h1 := (hsh p hp).2.1
      have h2 : (k : Int) * S 5 0 ≤ ((sh p + (l + 1) : Nat) : Int) * S 5 0 := (mle (by omega)).2 (by omega)
      omega
    refine gX10_dealt_66 ⟨fun q => absurd q (by decide), fun _ => ⟨fun q => absurd q (by omega), fun _ => ?_⟩⟩
    refine sX10_dealt_86 (g := g) (sh := sh) hn n 0 _ _ S (by omega) hR h10 (fun p hp => ⟨(hsh p hp).1, hlt p hp _ (by omega), (hsh p hp).2.2⟩) (fun x S1 f1 => ?_)
    unfold grF at hP
    generalize hw : whoF (svF g sh) n 0 (-1) 0 = i at *
    refine gX10_dealt_86 ⟨fun _ => ⟨fun q => ?_, fun q => ?_⟩, fun q => absurd (by rw [f1 _ _ (by decide)]; omega) q⟩
    · rw [if_pos q] at hP
      refine gX10_dealt_66 ⟨fun _ => ?_, fun q => absurd rfl q⟩
      refine gX10_sum (sX10_sum_4 (g := g) (sh := sh) hn n 0 0 S1 (by omega) (sR_cg hR (sF_16 f1)) (by rw [f1 _ _ (by decide)]; exact h10) (fun p hp => ?_) (by omega) (by omega) (fun S' f => hP S' (fun a b z _ => by rw [f a b z, f1 a b z]) (fun p hp => by rw [f _ _ (by decide), f1 _ _ (by decide)]; exact (hsh p hp).1)))
      rw [aT_cg (sF_16 f1), f1 _ _ (by decide), f1 _ _ (by decide), f1 _ _ (by decide)]
      exact ⟨(hsh p hp).1, hlt p hp _ (by omega), (hsh p hp).2.2⟩
    · rw [if_neg q] at hP
      have hi : 0 ≤ i ∧ i.toNat < n ∧ (i.toNat : Int) = i := by
        rcases whoF_is (sv := svF g sh) n 0 (-1) 0 with h | ⟨z, h1, h2, h3⟩ <;> omega
      obtain ⟨s1, s2, s3⟩ := hsh i.toNat hi.2.1
      have m1 : 0 ≤ (sh i.toNat : Int) * S 5 0 := Int.mul_nonneg (by omega) (by omega)
      have m2 := hlt i.toNat hi.2.1 (sh i.toNat) (by omega)
      have m3 := hlt i.toNat hi.2.1 (l + 1) (by omega)
      rw [f1 _ _ (by decide), f1 _ _ (by decide), s1]
      have e2 : (sh i.toNat : Int) * S 5 0 + S 5 0 = ((sh i.toNat + 1 : Nat) : Int) * S 5 0 := by rw [Int.natCast_succ, Int.add_mul, Int.one_mul]
      have hF : ∀ v, ∀ f j, f ≠ 16 → f ≠ 18 → sU S1 18 i.toNat v f j = S f j := fun v f j z1 z2 => by
        rw [sU_ne (fun z => z2 z.1)]
        exact f1 f j z1
      have hsF : ∀ v, sF S (sU S1 18 i.toNat v) := fun v f j z1 z2 => hF v f j (by omega) (by omega)
      refine ⟨by omega, by omega, by omega, ?_⟩
      rw [e1, show (l : Int) * S 5 0 + S 5 0 - S 5 0 = (l : Int) * S 5 0 by omega, e2]
      have := sX10_dealt_66 (C := C) (g := g) (P := P) hn l (uM sh i.toNat (sh i.toNat + 1)) (sU S1 18 i.toNat (((sh i.toNat + 1 : Nat) : Int) * S 5 0)) (sR_cg hR (hsF _)) (by rw [hF _ _ _ (by decide) (by decide)]; exact h10) (fun p hp => ?_) (fun S' k1 k2 => hP S' (fun a b z1 z2 => by rw [k1 a b z1 z2, hF _ a b z1 z2]) (fun p hp => by have := k2 p hp; rw [hF _ _ _ (by decide) (by decide)] at this; exact this))
      · rw [hF _ _ _ (by decide) (by decide)] at this
        exact this
      · rw [aT_cg (hsF _), hF _ 5 0 (by decide) (by decide), hF _ 6 0 (by decide) (by decide)]
        by_cases e : p = i.toNat
        · rw [e, uM_s, sU_s]
          exact ⟨rfl, hlt _ hi.2.1 _ (by omega), s3⟩
        · rw [uM_n e, sU_ne (fun z => e z.2), f1 _ _ (by decide)]
          exact ⟨(hsh p hp).1, hlt p hp _ (by omega), (hsh p hp).2.2⟩
theorem sX10_dealt_29 {C : aIF} {n : Nat} {nd : Nat → Int} {P : Int → aS → Prop} {D st : Int} (hn : n ≤ 6) (hs : 1 ≤ st ∧ st ≤ 64) (hD : 0 ≤ D * st ∧ D * st ≤ 4096) (hnd : ∀ q, q < n → 0 ≤ nd q ∧ nd q ≤ 64) : ∀ (m p : Nat) (S : aS), p + m = n → S 10 0 = (n : Int) → (∀ q, q < n → S 19 q = nd q * st) → (∀ q, q < p → S 18 q = nd q * st) → 0 ≤ sumN nd p * st ∧ sumN nd p * st ≤ 4096 * (p : Int) →
    (∀ S' : aS, (∀ f j, f ≠ 18 → S' f j = S f j) → (∀ q, q < n → S' 18 q = nd q * st) → rRunI w mX10_dealt 66 [some (aO 40 0), some (aI ((D - sumN nd n) * st)), some (aI 1), none, none, none, none] [] C S' (rf mm) P) →
    rRunI w mX10_dealt 29 [some (aO 40 0), some (aI ((D - sumN nd p) * st)), some (aI (p : Int)), none, none, none, none] [] C S (rf mm) P
  | 0, p, S, e, h10, h19, h18, hb, hP => by
    have : p = n := by omega
    subst this
    exact gX10_dealt_29 ⟨fun _ => hP S (fun _ _ _ => rfl) h18, fun q => absurd (by omega) q⟩
  | m + 1, p, S, e, h10, h19, h18, hb, hP => by
    have hb1 := hnd p (by omega)
    have m1 : 0 ≤ nd p * st := Int.mul_nonneg (by omega) (by omega)
    have m2 : nd p * st ≤ 64 * 64 := Int.mul_le_mul (by omega) (by omega) (by omega) (by omega)
    have m3 : sumN nd (p + 1) * st = sumN nd p * st + nd p * st := by
      show (sumN nd p + nd p) * st = _
      rw [Int.add_mul]
    have m4 : (D - sumN nd p) * st = D * st - sumN nd p * st := Int.sub_mul _ _ _
    have m5 : (D - sumN nd (p + 1)) * st = D * st - sumN nd (p + 1) * st := Int.sub_mul _ _ _
    refine gX10_dealt_29 ⟨fun q => absurd q (by omega), fun _ => ⟨by omega, ?_⟩⟩
    rw [h19 p (by omega)]
    refine ⟨by omega, by omega, ?_⟩
    rw [show (D - sumN nd p) * st - nd p * st = (D - sumN nd (p + 1)) * st by omega]
    refine sX10_dealt_29 (C := C) hn hs hD hnd m (p + 1) _ (by omega) (by rw [sU_f rfl]; exact h10) (fun q hq => by rw [sU_f rfl]; exact h19 q hq) (fun q hq => ?_) ⟨by omega, by omega⟩ (fun S' k1 k2 => hP S' (fun f j z => by rw [k1 f j z]; exact sU_ne (fun y => z y.1)) k2)
    by_cases eq : q = p
    · rw [eq, sU_s]
    · rw [sU_ne (fun z => eq z.2)]
      exact h18 q (by omega)
/-- both deal alike -/
theorem sX10_dealt {C : aIF} {S : aS} {n N M : Nat} {P : Int → aS → Prop} (hR : sR S) (hn : n ≤ 6) (h10 : S 10 0 = (n : Int)) (hN : 1 ≤ N ∧ N ≤ 64) (hM : M ≤ N) (e6 : S 6 0 = (N : Int) * S 5 0) (eN : S 6 0 / S 5 0 = (N : Int)) (eD : S 6 0 - S 7 0 = ((N : Int) - M) * S 5 0)
    (hb : ¬ nOK S n ((N : Int) - M) → ∀ S' : aS, eF S S' → S' 17 0 = 0 → P (-1) S') (hg : nOK S n ((N : Int) - M) → ∀ S' : aS, eF S S' → S' 17 0 = 1 → (∀ p, p < n → S' 18 p = (shF S n N ((N : Int) - M) p : Int) * S 5 0) → P (smF (aT S) (shF S n N ((N : Int) - M)) n 0 0) S') : rMetI w mX10_dealt [aO 40 0] C S (rf mm) P := by
  have hs := hR.1.1
  have h6 := hR.1.2.1
  have h7 := hR.1.2.2.2.2.1
  have hbn : ∀ q, needF S q = -1 ∨ (0 ≤ needF S q ∧ needF S q ≤ N) := fun q => by
    rcases needF_is (S := S) (p := q) eN with z | ⟨z, z0, z1, z2, z3, z4⟩
    · exact Or.inl z
    · exact Or.inr (by omega)
  have cond : sumN (needF S) n * S 5 0 ≤ S 6 0 - S 7 0 ↔ sumN (needF S) n ≤ (N : Int) - M := by rw [eD, mle (by omega)]
  refine gX10_dealt (gX10_areNeeds ?_)
  have key := sX10_are_4 (w := w) (mm := mm) (C := C) (n := n) (N := N) (st := S 5 0) (nd := needF S) (P := fun x1 S2 => (x1 = 0 ∨ x1 = 1) ∧ (x1 ≠ 0 → (-2147483648 ≤ S2 6 0 - S2 7 0 ∧ S2 6 0 - S2 7 0 < 2147483648) ∧ rRunI w mX10_dealt 29 [some (aO 40 0), some (aI (S2 6 0 - S2 7 0)), some (aI 0), none, none, none, none] [] C (sU S2 17 0 x1) (rf mm) P) ∧ (x1 = 0 → P (-1) (sU S2 17 0 x1))) hn hN.2 (by omega) (fun q => by have := hbn q; omega) n 0 S (by omega) hR rfl h10 (by omega) h7 (fun _ => rfl) (fun q hq => absurd hq (by omega)) (by show 0 ≤ 0 * S 5 0 ∧ 0 * S 5 0 ≤ _; rw [Int.zero_mul]; exact ⟨by omega, by omega⟩) ?_ ?_
  · have e0 : sumN (needF S) 0 * S 5 0 = 0 := Int.zero_mul _
    rw [e0] at key
    exact key
  · intro S' f1 z
    refine ⟨Or.inl rfl, fun q => absurd rfl q, fun _ => hb (fun y => z ⟨y.1, cond.2 y.2⟩) _ (fun f j z1 z2 => ?_) sU_s⟩
    rw [sU_ne (by omega)]
    exact f1 f j (by omega) (by omega)
  · intro S1 f1 z1 z2 z3
    rw [cond] at z2
    have hnd : ∀ q, q < n → 0 ≤ needF S q ∧ needF S q ≤ 64 := fun q hq => by have := hbn q; have := z1 q hq; omega
    have hs0 := sumN_0 (f := needF S) n (fun q hq => (hnd q hq).1)
    have mm1 : 0 ≤ ((N : Int) - M) * S 5 0 := Int.mul_nonneg (by omega) (by omega)
    refine ⟨Or.inr rfl, fun _ => ⟨by rw [f1 _ _ (by decide) (by decide), f1 _ _ (by decide) (by decide)]; omega, ?_⟩, fun q => absurd q (by decide)⟩
    rw [f1 6 _ (by decide) (by decide), f1 7 _ (by decide) (by decide), eD]
    have k9 := sX10_dealt_29 (w := w) (mm := mm) (C := C) (n := n) (nd := needF S) (P := P) (D := (N : Int) - M) (st := S 5 0) hn (by omega) (by omega) hnd n 0 (sU S1 17 0 1) (by omega) (by rw [sU_f rfl, f1 _ _ (by decide) (by decide)]; exact h10) (fun q hq => by rw [sU_f rfl]; exact z3 q hq) (fun q hq => absurd hq (by omega)) (by show 0 ≤ 0 * S 5 0 ∧ 0 * S 5 0 ≤ _; rw [Int.zero_mul]; exact ⟨by omega, by omega⟩) ?_
    · have e0 : ((N : Int) - M - sumN (needF S) 0) * S 5 0 = ((N : Int) - M) * S 5 0 := by
        show ((N : Int) - M - 0) * S 5 0 = _
        rw [Int.sub_zero]
      rw [e0] at k9
      exact k9
    · intro S2 f2 z4
      have g2 : ∀ f j, f ≠ 16 → f ≠ 17 → f ≠ 18 → f ≠ 19 → S2 f j = S f j := fun f j y1 y2 y3 y4 => by
        rw [f2 f j y3, sU_ne (fun y => y2 y.1), f1 f j y1 y4]
      have g3 : sF S S2 := fun f j y1 y2 => g2 f j (by omega) (by omega) (by omega) (by omega)
      have g17 : S2 17 0 = 1 := by
        rw [f2 _ _ (by decide)]
        exact sU_s
      have el : (N : Int) - M - sumN (needF S) n = (((N : Int) - M - sumN (needF S) n).toNat : Int) := by omega
      have k6 := sX10_dealt_66 (w := w) (mm := mm) (C := C) (g := aT S) (P := P) hn ((N : Int) - M - sumN (needF S) n).toNat (fun p => (needF S p).toNat) S2 (sR_cg hR g3) (by rw [g3 _ _ (by omega) (by omega)]; exact h10) (fun p hp => ?_) (fun S' k1 k2 => hg ⟨z1, z2⟩ S' (fun f j y1 y2 => ?_) ?_ (fun p hp => ?_))
      · rw [g3 5 0 (by omega) (by omega), ← el] at k6
        exact k6
      · rw [g3 5 0 (by omega) (by omega), g3 6 0 (by omega) (by omega), z4 p hp]
        have b1 := hnd p hp
        have b3 := sumN_one (f := needF S) hp (fun q hq => (hnd q hq).1)
        refine ⟨by rw [Int.toNat_of_nonneg b1.1], ?_, aT_cg g3 p⟩
        rw [e6, mle (by omega)]
        omega
      · rw [k1 f j (by omega) (by omega)]
        exact g2 f j (by omega) (by omega) (by omega) (by omega)
      · rw [k1 _ _ (by decide) (by decide)]
        exact g17
      · have := k2 p hp
        rw [g3 5 0 (by omega) (by omega)] at this
        exact this
theorem smF_0 {g : Nat → Nat → Int} {sh : Nat → Nat} : ∀ (m k : Nat) (acc : Int), 0 ≤ acc → (∀ q, k ≤ q → q < k + m → 0 ≤ g q (sh q)) → 0 ≤ smF g sh m k acc
  | 0, _, _, h, _ => h
  | m + 1, k, acc, h, hg => by
    have := hg k (by omega) (by omega)
    exact smF_0 m (k + 1) _ (by omega) (fun q z1 z2 => hg q (by omega) (by omega))
theorem kR_S {C : aIF} {S S' : aS} (h : kR C S) (k : sF S S') : kR C S' :=
  ⟨tOK_cg (fun f h1 h2 => k f 0 h1 (by omega)) h.1, tR_cg (fun _ => rfl) (fun f h1 h2 => k f 0 h1 (by omega)) h.2.1, prR_cg rfl (fun _ _ _ => rfl) (fun _ _ => rfl) (k _ _ (by omega) (by omega)) (fun f j h1 h2 => k f j (by omega) h2) h.2.2.1, tmR_cg (fun _ => rfl) (fun _ _ => rfl) (k _ _ (by omega) (by omega)) (k _ _ (by omega) (by omega)) (k _ _ (by omega) (by omega)) (fun f j h1 h2 => k f j (by omega) h2) h.2.2.2⟩
theorem nOK_cg {S S' : aS} (k : sF S S') (n : Nat) (D : Int) : nOK S' n D ↔ nOK S n D := by
  unfold nOK
  rw [show needF S' = needF S from funext (needF_cg k)]
theorem shF_cg {S S' : aS} (k : sF S S') (n N : Nat) (D : Int) : shF S' n N D = shF S n N D := by
  unfold shF
  rw [show needF S' = needF S from funext (needF_cg k), show aT S' = aT S from funext (aT_cg k)]
theorem sumN_uM {f : Nat → Nat} {i : Nat} : ∀ (n : Nat), sumN (fun p => (uM f i (f i + 1) p : Int)) n ≤ sumN (fun p => (f p : Int)) n + (if i < n then 1 else 0)
  | 0 => by
    rw [if_neg (by omega)]
    exact Int.le_refl 0
  | n + 1 => by
    have := sumN_uM (f := f) (i := i) n
    show sumN (fun p => (uM f i (f i + 1) p : Int)) n + (uM f i (f i + 1) n : Int) ≤ sumN (fun p => (f p : Int)) n + (f n : Int) + _
    by_cases e : n = i
    · subst e
      rw [uM_s]
      rw [if_neg (by omega)] at this
      rw [if_pos (by omega)]
      omega
    · rw [uM_n e]
      split
      · rw [if_pos (by omega)] at this
        omega
      · rw [if_neg (by omega)] at this
        omega
theorem grF_sum {g : Nat → Nat → Int} {n : Nat} : ∀ (l : Nat) (sh : Nat → Nat), sumN (fun p => (grF g n l sh p : Int)) n ≤ sumN (fun p => (sh p : Int)) n + l
  | 0, sh => by
    show sumN (fun p => (sh p : Int)) n ≤ sumN (fun p => (sh p : Int)) n + ((0 : Nat) : Int)
    omega
  | l + 1, sh => by
    unfold grF
    split
    · omega
    · generalize (whoF (svF g sh) n 0 (-1) 0).toNat = i
      have h1 := grF_sum (g := g) (n := n) l (uM sh i (sh i + 1))
      have h2 := sumN_uM (f := sh) (i := i) n
      have h3 : (if i < n then (1 : Int) else 0) ≤ 1 := by split <;> omega
      omega
theorem ups_ge {S : aS} {v : Int} (hs : 1 ≤ S 5 0) : v ≤ ups S v * S 5 0 := by
  have h1 := Int.ediv_mul_add_emod (v + S 5 0 - 1) (S 5 0)
  have h2 := Int.emod_lt_of_pos (v + S 5 0 - 1) (show 0 < S 5 0 by omega)
  unfold ups
  omega
/-- a deal: the component, then the reference -/
theorem dl_both {C : aIF} {S : aS} {P : Int → aIF → Prop} (h : Inv C S mm t) (hP : ∀ (x : Int) (C' : aIF), dF C C' → kR C' S → (x ≠ -1 → sumN (fun p => C' 17 0 p) (S 10 0).toNat * S 5 0 ≤ S 6 0 ∧ ∀ p : Nat, (p : Int) < S 10 0 → 0 ≤ C' 17 0 p ∧ C' 17 0 p ≤ 64) → (∀ (C0 : aIF) (m0 : Nat) (S0 : aS) (Q : Int → aS → Prop), eF S S0 → (∀ S' : aS, eF S S' → Inv C' S' mm t → (x = -1 → S' 17 0 = 0) → (x ≠ -1 → S' 17 0 = 1) → Q x S') → rMetI w mX10_dealt [aO 40 0] C0 S0 (rf m0) Q) → P x C') : kMetI w mX0_bySavings [aO 10 0, aO 5 0, aI (C 1 0 5)] C S (rf mm) P := by
  obtain ⟨N, M, hN, hM, e6, e7, eN, eM, eD⟩ := tOK_N h.1
  have hk := kR_of h
  have hR := sR_of hk
  obtain ⟨n, hn⟩ : ∃ n : Nat, S 10 0 = (n : Int) := ⟨(S 10 0).toNat, by have := hR.2.1; omega⟩
  have hn6 : n ≤ 6 := by have := hR.2.1; omega
  have hs := h.1.1
  have h6 := h.1.2.1
  have h105 : C 1 0 5 = (n : Int) := by rw [h.2.2.2.1.1.1]; exact hn
  have hbn : ∀ q, needF S q = -1 ∨ (0 ≤ needF S q ∧ needF S q ≤ N) := fun q => by
    rcases needF_is (S := S) (p := q) eN with z | ⟨z, z0, z1, z2, z3, z4⟩
    · exact Or.inl z
    · exact Or.inr (by omega)
  rw [h105]
  refine sX0_by hk hn6 hn hN hM e6 eN eM (fun nb C' d1 d2 d3 => hP (-1) C' d1 d2 (fun q => absurd rfl q) (fun C0 m0 S0 Q es hQ => ?_)) (fun ng C' d1 d2 d3 d4 => hP _ C' d1 d2 (fun _ => ?_) (fun C0 m0 S0 Q es hQ => ?_))
  · have k := sF_e es
    refine sX10_dealt (N := N) (M := M) (sR_cg hR k) hn6 (by rw [k 10 0 (by omega) (by omega)]; exact hn) hN hM (by rw [k 5 0 (by omega) (by omega), k 6 0 (by omega) (by omega)]; exact e6) (by rw [k 5 0 (by omega) (by omega), k 6 0 (by omega) (by omega)]; exact eN) (by rw [k 5 0 (by omega) (by omega), k 6 0 (by omega) (by omega), k 7 0 (by omega) (by omega)]; exact eD) (fun _ S' z1 z2 => hQ S' (eF_trans es z1) (Inv_D h d1 (eF_trans es z1) d2 ⟨⟨by rw [d3, z2], by omega⟩, fun q => absurd q (by omega)⟩) (fun _ => z2) (fun q => absurd rfl q)) (fun q => absurd ((nOK_cg k _ _).1 q) nb)
  · have hz := ng.2
    have hnd : ∀ q, q < n → 0 ≤ needF S q ∧ needF S q ≤ N := fun q hq => by have := hbn q; have := ng.1 q hq; omega
    have hs0 := sumN_0 (f := needF S) n (fun q hq => (hnd q hq).1)
    have hle : ∀ p, p < n → (needF S p).toNat ≤ shF S n N ((N : Int) - M) p ∧ shF S n N ((N : Int) - M) p ≤ N := fun p hp => by
      unfold shF
      refine grF_le (N := N) _ (fun p => (needF S p).toNat) (fun q hq => ?_) p hp
      have b1 := hnd q hq
      have b3 := sumN_one (f := needF S) hq (fun q hq => (hnd q hq).1)
      omega
    have hsum : sumN (fun p => C' 17 0 p) n * S 5 0 ≤ S 6 0 := by
      rw [e6, mle (by omega), sumN_cg (g := fun p => (shF S n N ((N : Int) - M) p : Int)) n (fun q hq => d4 q hq)]
      have g1 := grF_sum (g := aT S) (n := n) ((N : Int) - M - sumN (needF S) n).toNat (fun p => (needF S p).toNat)
      have g2 : sumN (fun p => ((needF S p).toNat : Int)) n = sumN (needF S) n := sumN_cg n (fun q hq => by have := hnd q hq; omega)
      rw [g2] at g1
      unfold shF
      omega
    refine ⟨by rw [hn, Int.toNat_natCast]; exact hsum, fun p hp => ?_⟩
    have := hle p (by omega)
    rw [d4 p (by omega)]
    omega
  · have k := sF_e es
    have hz := ng.2
    have hnd : ∀ q, q < n → 0 ≤ needF S q ∧ needF S q ≤ N := fun q hq => by have := hbn q; have := ng.1 q hq; omega
    have hs0 := sumN_0 (f := needF S) n (fun q hq => (hnd q hq).1)
    have hle : ∀ p, p < n → (needF S p).toNat ≤ shF S n N ((N : Int) - M) p ∧ shF S n N ((N : Int) - M) p ≤ N := fun p hp => by
      unfold shF
      refine grF_le (N := N) _ (fun p => (needF S p).toNat) (fun q hq => ?_) p hp
      have b1 := hnd q hq
      have b3 := sumN_one (f := needF S) hq (fun q hq => (hnd q hq).1)
      omega
    have hx0 : 0 ≤ smF (aT S) (shF S n N ((N : Int) - M)) n 0 0 := by
      refine smF_0 n 0 0 (Int.le_refl 0) (fun q _ hq => ?_)
      have hq : q < n := by omega
      have b1 := hnd q hq
      have b2 := hle q hq
      rcases needF_is (S := S) (p := q) eN with z | ⟨z, z0, z1, z2, z3, z4⟩
      · exact absurd z (ng.1 q hq)
      · refine alone_mono (hR.2.2 q (by omega) (by omega)).1 (r := (z : Int) * S 5 0) (Int.mul_nonneg (by omega) (by omega)) ?_ ?_ z3
        · rw [mle (by omega)]
          omega
        · have : (shF S n N ((N : Int) - M) q : Int) * S 5 0 ≤ (N : Int) * S 5 0 := (mle (by omega)).2 (by omega)
          omega
    refine sX10_dealt (N := N) (M := M) (sR_cg hR k) hn6 (by rw [k 10 0 (by omega) (by omega)]; exact hn) hN hM (by rw [k 5 0 (by omega) (by omega), k 6 0 (by omega) (by omega)]; exact e6) (by rw [k 5 0 (by omega) (by omega), k 6 0 (by omega) (by omega)]; exact eN) (by rw [k 5 0 (by omega) (by omega), k 6 0 (by omega) (by omega), k 7 0 (by omega) (by omega)]; exact eD) (fun q => absurd ((nOK_cg k _ _).2 ng) q) (fun _ S' z1 z2 z3 => ?_)
    rw [show aT S0 = aT S from funext (aT_cg k), shF_cg k]
    rw [shF_cg k, k 5 0 (by omega) (by omega)] at z3
    refine hQ S' (eF_trans es z1) (Inv_D h d1 (eF_trans es z1) d2 ⟨⟨by rw [d3, z2], by omega⟩, fun _ p hp hq => ?_⟩) (fun q => absurd q (by omega)) (fun _ => z2)
    rw [(eF_trans es z1) 10 0 (by omega) (by omega), hn] at hq
    rw [(eF_trans es z1) 5 0 (by omega) (by omega), d4 p (by omega), z3 p (by omega)]
    have := hle p (by omega)
    exact ⟨rfl, by omega, by omega⟩
theorem opDeal {C : aIF} {S : aS} (h : Inv C S mm t) : opOK w mX9_deal mX10_deal [] C S mm t := by
  refine gX9_deal (dl_both (Inv_t (Nat.le_succ t) h) (fun x C' _ _ _ hR => gX10_deal (hR _ _ (sU S 0 0 0) _ (fun f j z _ => sU_ne (fun y => z y.1)) (fun S' e1 e2 _ _ => ⟨rfl, e2⟩))))
end DL2
