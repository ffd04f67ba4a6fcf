/-! best: the reference -/
def rv (r : Int × Int) : Int := if r.1 = -1 then far else r.2
theorem rv_no {sh sum x b : Int} (hx : x ≠ -1) (hxb : 0 ≤ x ∧ x ≤ 20160000) (hb : b = -1 ∨ (0 ≤ b ∧ b ≤ 201600000)) (hs : sh = -1 ∨ (0 ≤ sum ∧ sum ≤ 400000000)) (h : ¬ (wF x b ≠ -1 ∧ (sh = -1 ∨ wF x b < sum))) : min (rv (sh, sum)) (x + rl b) = rv (sh, sum) := by
  unfold rv rl far wF at *
  dsimp only at *
  by_cases e : b = -1
  · rw [if_pos e]
    split <;> omega
  · rw [if_neg e]
    rw [if_neg (by omega)] at h
    split <;> omega
theorem rv_yes {sh sum x b : Int} {k : Nat} (hx : x ≠ -1) (hxb : 0 ≤ x ∧ x ≤ 20160000) (hb : b = -1 ∨ (0 ≤ b ∧ b ≤ 201600000)) (h : wF x b ≠ -1 ∧ (sh = -1 ∨ wF x b < sum)) : min (rv (sh, sum)) (x + rl b) = rv ((k : Int), wF x b) := by
  unfold rv rl far wF at *
  dsimp only at *
  by_cases e : b = -1
  · rw [if_pos (Or.inl e)] at h
    exact absurd rfl h.1
  · have hw : (if b = -1 ∨ x = -1 then -1 else x + b) = x + b := if_neg (by omega)
    rw [hw] at h ⊢
    rw [if_neg e, if_neg (show ¬ (k : Int) = -1 by omega)]
    split <;> omega
section BR
variable {w : aW} {mm t : Nat}
def tR3 (S : aS) (tb : Nat → Nat → Int) (n D : Nat) : Prop := ∀ q, q < n → ∀ j, j ≤ D → S 20 (65 * q + j) = tb q j
theorem sX10_best_56 {C : aIF} {n N D p : Nat} {tb : Nat → Nat → Int} {nd : Nat → Int} {st : Int} {P : Int → aS → Prop} (hn : n ≤ 6) (hN : 1 ≤ N ∧ N ≤ 64) (hD : D ≤ N) (hs : 1 ≤ st ∧ st ≤ 64) (hp : p < n) : ∀ (m k : Nat) (S : aS), k + m = D + 1 → sR S → S 10 0 = (n : Int) → S 5 0 = st → S 6 0 = (N : Int) * st → tbF S = tb → needF S p = nd p → nd p ≠ -1 → (∀ q, q < n → S 19 q = nd q * st) → (∀ q, q < p → ∀ j, j ≤ D → S 20 (65 * q + j) = tb q j) → (∀ j, j < k → S 20 (65 * p + j) = tb p j) →
    (∀ S' : aS, (∀ f j, f ≠ 16 → f ≠ 20 → S' f j = S f j) → (∀ q, q < p + 1 → ∀ j, j ≤ D → S' 20 (65 * q + j) = tb q j) → rRunI w mX10_best 44 [some (aO 40 0), some (aI (D : Int)), some (aL 1099511627776), none, some (aI ((p + 1 : Nat) : Int)), none, none, none, none] [] C S' (rf mm) P) →
    rRunI w mX10_best 56 [some (aO 40 0), some (aI (D : Int)), some (aL 1099511627776), none, some (aI (p : Int)), some (aI (k : Int)), none, none, none] [] C S (rf mm) P
  | 0, k, S, e, hR, h10, h5, h6, htb, hnf, hn1, h19, ht, htp, hP => gX10_best_56 ⟨fun _ => ⟨by omega, hP S (fun _ _ _ _ => rfl) (fun q z1 j z2 => by
      by_cases ez : q = p
      · rw [ez]
        exact htp j (by omega)
      · exact ht q (by omega) j z2)⟩, fun q => absurd (by omega) q⟩
  | m + 1, k, S, e, hR, h10, h5, h6, htb, hnf, hn1, h19, ht, htp, hP => by
    have h61 := hR.1.2.1
    have k0 : 0 ≤ (k : Int) * st := Int.mul_nonneg (by omega) (by omega)
    have k1 : (k : Int) * st ≤ (N : Int) * st := (mle (by omega)).2 (by omega)
    have nx : Unit → ∀ (S1 : aS) (x : Int), (∀ f j, f ≠ 16 → S1 f j = S f j) → x = tb p k → (65 * p + k < 390 ∧ k + 1 < 2147483648 ∧ rRunI w mX10_best 56 [some (aO 40 0), some (aI (D : Int)), some (aL 1099511627776), none, some (aI (p : Int)), some (aI ((k + 1 : Nat) : Int)), none, none, none] [] C (sU S1 20 (65 * p + k) x) (rf mm) P) := fun _ S1 x f1 hx => by
      have hF : ∀ f j, f ≠ 16 → f ≠ 20 → sU S1 20 (65 * p + k) x f j = S f j := fun f j z1 z2 => by
        rw [sU_ne (fun z => z2 z.1)]
        exact f1 f j z1
      have hsF : sF S (sU S1 20 (65 * p + k) x) := fun f j z1 z2 => hF f j (by omega) (by omega)
      refine ⟨by omega, by omega, sX10_best_56 hn hN hD hs hp m (k + 1) _ (by omega) (sR_cg hR hsF) (by rw [hF _ _ (by decide) (by decide)]; exact h10) (by rw [hF _ _ (by decide) (by decide)]; exact h5) (by rw [hF _ _ (by decide) (by decide)]; exact h6) (by rw [tbF_cg hsF]; exact htb) (by rw [needF_cg hsF]; exact hnf) hn1 (fun q hq => by rw [hF _ _ (by decide) (by decide)]; exact h19 q hq) (fun q z1 j z2 => ?_) (fun j z => ?_) (fun S' g1 g2 => hP S' (fun f j z1 z2 => by rw [g1 f j z1 z2, hF f j z1 z2]) g2)⟩
      · rw [sU_ne (by omega), f1 _ _ (by decide)]
        exact ht q z1 j z2
      · by_cases ez : j = k
        · rw [ez, sU_s]
          exact hx
        · rw [sU_ne (by omega), f1 _ _ (by decide)]
          exact htp j (by omega)
    refine gX10_best_56 ⟨fun q => absurd q (by omega), fun _ => ?_⟩
    rw [h5, h19 p hp]
    refine ⟨by omega, by omega, by omega, by omega, fun q => ⟨by omega, ?_⟩, fun q => nx () S _ (fun _ _ _ => rfl) ?_⟩
    · refine sX10_alone (by omega) k0 (by omega) (hR.2.2 p (by omega) (by omega)).1 (fun S1 f1 => nx () S1 _ f1 ?_)
      rw [mle (by omega)] at q
      rw [← htb]
      unfold tbF aT
      rw [if_neg (by rw [hnf]; omega), h5]
    · rw [mle (by omega)] at q
      rw [← htb]
      unfold tbF
      rw [if_pos (by rw [hnf]; omega)]
theorem sX10_best_44 {C : aIF} {n N D : Nat} {tb : Nat → Nat → Int} {nd : Nat → Int} {st : Int} {P : Int → aS → Prop} (hn : n ≤ 6) (hN : 1 ≤ N ∧ N ≤ 64) (hD : D ≤ N) (hs : 1 ≤ st ∧ st ≤ 64) : ∀ (m p : Nat) (S : aS), p + m = n → sR S → S 10 0 = (n : Int) → S 5 0 = st → S 6 0 = (N : Int) * st → tbF S = tb → (∀ q, q < n → needF S q = nd q ∧ nd q ≠ -1) → (∀ q, q < n → S 19 q = nd q * st) → (∀ q, q < p → ∀ j, j ≤ D → S 20 (65 * q + j) = tb q j) →
    (∀ S' : aS, (∀ f j, f ≠ 16 → f ≠ 20 → S' f j = S f j) → tR3 S' tb n D → rRunI w mX10_best 124 [some (aO 40 0), some (aI (D : Int)), some (aL 1099511627776), none, some (aI 0), none, none, none, none] [] C S' (rf mm) P) →
    rRunI w mX10_best 44 [some (aO 40 0), some (aI (D : Int)), some (aL 1099511627776), none, some (aI (p : Int)), none, none, none, none] [] C S (rf mm) P
  | 0, p, S, e, hR, h10, h5, h6, htb, hnf, h19, ht, hP => gX10_best_44 ⟨fun _ => hP S (fun _ _ _ _ => rfl) (fun q z1 j z2 => ht q (by omega) j z2), fun q => absurd (by omega) q⟩
  | m + 1, p, S, e, hR, h10, h5, h6, htb, hnf, h19, ht, hP => by
    refine gX10_best_44 ⟨fun q => absurd q (by omega), fun _ => sX10_best_56 hn hN hD hs (by omega) (D + 1) 0 S (by omega) hR h10 h5 h6 htb (hnf p (by omega)).1 (hnf p (by omega)).2 h19 ht (fun j hj => absurd hj (by omega)) (fun S1 f1 g1 => ?_)⟩
    have hsF : sF S S1 := fun f j z1 z2 => f1 f j (by omega) (by omega)
    exact sX10_best_44 hn hN hD hs m (p + 1) S1 (by omega) (sR_cg hR hsF) (by rw [f1 _ _ (by decide) (by decide)]; exact h10) (by rw [f1 _ _ (by decide) (by decide)]; exact h5) (by rw [f1 _ _ (by decide) (by decide)]; exact h6) (by rw [tbF_cg hsF]; exact htb) (fun q hq => by rw [needF_cg hsF]; exact hnf q hq) (fun q hq => by rw [f1 _ _ (by decide) (by decide)]; exact h19 q hq) g1 (fun S' g2 g3 => hP S' (fun f j z1 z2 => by rw [g2 f j z1 z2, f1 f j z1 z2]) g3)
/-- rows p and up of the least sums are there -/
def lR3 (S : aS) (tb : Nat → Nat → Int) (n D p : Nat) : Prop := ∀ q, p ≤ q → q ≤ n → ∀ j, j ≤ D → S 21 (65 * q + j) = rl (LL tb n q j)
theorem sX10_best_124 {C : aIF} {n D : Nat} {tb : Nat → Nat → Int} {P : Int → aS → Prop} (hn : n ≤ 6) (hD : D ≤ 64) : ∀ (m k : Nat) (S : aS), k + m = D + 1 → S 10 0 = (n : Int) → (∀ j, j < k → S 21 (65 * n + j) = 0) →
    (∀ S' : aS, (∀ f j, f ≠ 21 → S' f j = S f j) → lR3 S' tb n D n → rRunI w mX10_best 160 [some (aO 40 0), some (aI (D : Int)), some (aL 1099511627776), none, some (aI ((n : Int) - 1)), none, none, none, none] [] C S' (rf mm) P) →
    rRunI w mX10_best 124 [some (aO 40 0), some (aI (D : Int)), some (aL 1099511627776), none, some (aI (k : Int)), none, none, none, none] [] C S (rf mm) P
  | 0, k, S, e, h10, h0, hP => by
    refine gX10_best_124 ⟨fun _ => ⟨by omega, ?_⟩, fun q => absurd (by omega) q⟩
    rw [h10]
    refine hP S (fun _ _ _ => rfl) (fun q z1 z2 j z3 => ?_)
    have : q = n := by omega
    subst this
    rw [h0 j (by omega), LL_n]
    rfl
  | m + 1, k, S, e, h10, h0, hP => by
    have ei : (65 * S 10 0 + (k : Int)).toNat = 65 * n + k := by omega
    refine gX10_best_124 ⟨fun q => absurd q (by omega), fun _ => ⟨by omega, by omega, by omega, by omega, ?_⟩⟩
    rw [ei]
    refine sX10_best_124 hn hD m (k + 1) _ (by omega) (by rw [sU_f rfl]; exact h10) (fun j hj => ?_) (fun S' g1 g2 => hP S' (fun f j z => by rw [g1 f j z]; exact sU_ne (fun y => z y.1)) g2)
    by_cases ez : j = k
    · rw [ez, sU_s]
    · rw [sU_ne (by omega)]
      exact h0 j (by omega)
theorem sX10_best_180 {C : aIF} {S : aS} {n D p k : Nat} {tb : Nat → Nat → Int} {P : Int → aS → Prop} (hn : n ≤ 6) (hD : D ≤ 64) (hp : p < n) (hk : k ≤ D) (hK : tbK tb n D) (hT : tR3 S tb n D) (hL : lR3 S tb n D (p + 1)) : ∀ (m i : Nat) (sh sum : Int), i + m = k + 1 → bsI (fF tb n p k) i sh sum →
    rRunI w mX10_best 180 [some (aO 40 0), some (aI (D : Int)), some (aL 1099511627776), none, some (aI (p : Int)), some (aI (k : Int)), some (aL (rv (bs (fF tb n p k) m i sh sum))), none, some (aI ((k + 1 : Nat) : Int))] [] C S (rf mm) P →
    rRunI w mX10_best 180 [some (aO 40 0), some (aI (D : Int)), some (aL 1099511627776), none, some (aI (p : Int)), some (aI (k : Int)), some (aL (rv (sh, sum))), none, some (aI (i : Int))] [] C S (rf mm) P
  | 0, i, sh, sum, e, hI, hP => by
    have : i = k + 1 := by omega
    subst this
    exact hP
  | m + 1, i, sh, sum, e, hI, hP => by
    have ei : (65 * ((p : Int) + 1) + (k : Int) - (i : Int)).toNat = 65 * (p + 1) + (k - i) := by omega
    have t1 := hT p hp i (by omega)
    have t2 := hL (p + 1) (by omega) (by omega) (k - i) (by omega)
    have b1 := hK p hp i (by omega)
    have b2 := LL_bd hK (n - (p + 1)) (p + 1) (k - i) (by omega) (by omega)
    have b3 : LL tb n (p + 1) (k - i) = -1 ∨ (0 ≤ LL tb n (p + 1) (k - i) ∧ LL tb n (p + 1) (k - i) ≤ 201600000) := by omega
    have hst := bs_step hI
    have hsum : sh = -1 ∨ (0 ≤ sum ∧ sum ≤ 400000000) := by
      rcases hI with ⟨h1, _⟩ | ⟨q, h1, h2, h3, h4, _, _⟩
      · exact Or.inl h1
      · refine Or.inr ?_
        have c1 := hK p hp q (by omega)
        have c2 := LL_bd hK (n - (p + 1)) (p + 1) (k - q) (by omega) (by omega)
        rw [h4]
        unfold fF wF at *
        split at h3
        · exact absurd rfl h3
        · rename_i z
          rw [if_neg z]
          omega
    have hrl : 0 ≤ rl (LL tb n (p + 1) (k - i)) ∧ rl (LL tb n (p + 1) (k - i)) ≤ 1099511627776 := by
      unfold rl far
      split <;> omega
    unfold bs at hP
    refine gX10_best_180 ⟨fun q => absurd q (by omega), fun _ => ⟨by omega, by omega, by omega, ?_, ?_⟩⟩
    · rw [t1]
      refine fun q => ⟨by omega, ?_⟩
      have hno : ¬ (fF tb n p k i ≠ -1 ∧ (sh = -1 ∨ fF tb n p k i < sum)) := fun z => z.1 (by unfold fF; rw [q, wF_n])
      rw [if_neg hno] at hP
      exact sX10_best_180 hn hD hp hk hK hT hL m (i + 1) sh sum (by omega) (hst.2 hno) hP
    · rw [t1, ei, t2]
      refine fun q => ⟨by omega, by omega, by omega, by omega, by omega, by omega, by omega, by omega, by omega, ?_⟩
      by_cases z : fF tb n p k i ≠ -1 ∧ (sh = -1 ∨ fF tb n p k i < sum)
      · rw [if_pos z] at hP
        have := sX10_best_180 (C := C) (P := P) hn hD hp hk hK hT hL m (i + 1) _ _ (by omega) (hst.1 z) hP
        rw [rv_yes (k := i) q (by omega) b3 z]
        exact this
      · rw [if_neg z] at hP
        have := sX10_best_180 (C := C) (P := P) hn hD hp hk hK hT hL m (i + 1) _ _ (by omega) (hst.2 z) hP
        rw [rv_no q (by omega) b3 hsum z]
        exact this
theorem rv_LL {tb : Nat → Nat → Int} {n p k : Nat} (hp : p < n) : rv (bs (fF tb n p k) (k + 1) 0 (-1) 0) = rl (LL tb n p k) := by
  rw [LL_p hp]
  rcases FB_is (tb := tb) (n := n) (p := p) (k := k) with ⟨h1, _⟩ | ⟨q, h1, h2, h3, h4, _, _⟩
  · rw [if_pos h1]
    unfold rv
    unfold FB at h1
    rw [if_pos h1]
    rfl
  · rw [if_neg (by omega), h1, Int.toNat_natCast]
    unfold rv
    unfold FB at h1
    rw [if_neg (by omega), h4]
    unfold rl
    rw [if_neg h3]
theorem sX10_best_168 {C : aIF} {n D p : Nat} {tb : Nat → Nat → Int} {P : Int → aS → Prop} (hn : n ≤ 6) (hD : D ≤ 64) (hp : p < n) (hK : tbK tb n D) : ∀ (m k : Nat) (S : aS), k + m = D + 1 → tR3 S tb n D → lR3 S tb n D (p + 1) → (∀ j, j < k → S 21 (65 * p + j) = rl (LL tb n p j)) →
    (∀ S' : aS, (∀ f j, f ≠ 21 → S' f j = S f j) → lR3 S' tb n D p → rRunI w mX10_best 160 [some (aO 40 0), some (aI (D : Int)), some (aL 1099511627776), none, some (aI ((p : Int) + -1)), none, none, none, none] [] C S' (rf mm) P) →
    rRunI w mX10_best 168 [some (aO 40 0), some (aI (D : Int)), some (aL 1099511627776), none, some (aI (p : Int)), some (aI (k : Int)), none, none, none] [] C S (rf mm) P
  | 0, k, S, e, hT, hL, hp0, hP => gX10_best_168 ⟨fun _ => ⟨by omega, hP S (fun _ _ _ => rfl) (fun q z1 z2 j z3 => by
      by_cases ez : q = p
      · rw [ez]
        exact hp0 j (by omega)
      · exact hL q (by omega) z2 j z3)⟩, fun q => absurd (by omega) q⟩
  | m + 1, k, S, e, hT, hL, hp0, hP => by
    refine gX10_best_168 ⟨fun q => absurd q (by omega), fun _ => ?_⟩
    have := sX10_best_180 (w := w) (mm := mm) (C := C) (S := S) (P := P) hn hD hp (show k ≤ D by omega) hK hT hL (k + 1) 0 (-1) 0 (by omega) (Or.inl ⟨rfl, fun i hi => absurd hi (by omega)⟩) ?_
    · exact this
    · refine gX10_best_180 ⟨fun _ => ⟨by omega, by omega, by omega, by omega, ?_⟩, fun q => absurd (by omega) q⟩
      rw [rv_LL hp]
      refine sX10_best_168 hn hD hp hK m (k + 1) _ (by omega) (fun q z1 j z2 => by rw [sU_f rfl]; exact hT q z1 j z2) (fun q z1 z2 j z3 => by rw [sU_ne (by omega)]; exact hL q z1 z2 j z3) (fun j hj => ?_) (fun S' g1 g2 => hP S' (fun f j z => by rw [g1 f j z]; exact sU_ne (fun y => z y.1)) g2)
      by_cases ez : j = k
      · rw [ez, sU_s]
      · rw [sU_ne (by omega)]
        exact hp0 j (by omega)
theorem sX10_best_160 {C : aIF} {n D : Nat} {tb : Nat → Nat → Int} {P : Int → aS → Prop} (hn : n ≤ 6) (hD : D ≤ 64) (hK : tbK tb n D) : ∀ (p : Nat) (S : aS), p ≤ n → tR3 S tb n D → lR3 S tb n D p →
    (∀ S' : aS, (∀ f j, f ≠ 21 → S' f j = S f j) → lR3 S' tb n D 0 → rRunI w mX10_best 283 [some (aO 40 0), some (aI (D : Int)), some (aL 1099511627776), none, some (aI (D : Int)), some (aI 0), none, none, none] [] C S' (rf mm) P) →
    rRunI w mX10_best 160 [some (aO 40 0), some (aI (D : Int)), some (aL 1099511627776), none, some (aI ((p : Int) - 1)), none, none, none, none] [] C S (rf mm) P
  | 0, S, hp, hT, hL, hP => gX10_best_160 ⟨fun _ => hP S (fun _ _ _ => rfl) hL, fun q => absurd (by decide) q⟩
  | p + 1, S, hp, hT, hL, hP => by
    refine gX10_best_160 ⟨fun q => absurd q (by omega), fun _ => ?_⟩
    rw [show ((p + 1 : Nat) : Int) - 1 = (p : Int) by omega]
    refine sX10_best_168 hn hD (by omega) hK (D + 1) 0 S (by omega) hT hL (fun j hj => absurd hj (by omega)) (fun S1 f1 g1 => ?_)
    exact sX10_best_160 (C := C) (P := P) hn hD hK p S1 (by omega) (fun q z1 j z2 => by rw [f1 _ _ (by decide)]; exact hT q z1 j z2) g1 (fun S' g2 g3 => hP S' (fun f j z => by rw [g2 f j z, f1 f j z]) g3)
theorem sX10_best_295 {C : aIF} {S : aS} {n D p k : Nat} {tb : Nat → Nat → Int} {P : Int → aS → Prop} (hn : n ≤ 6) (hD : D ≤ 64) (hp : p < n) (hk : k ≤ D) (hK : tbK tb n D) (hT : tR3 S tb n D) (hL : lR3 S tb n D 0) (h5 : 1 ≤ S 5 0 ∧ S 5 0 ≤ 64) {q : Nat} (hq : FB tb n p k = (q : Int)) (hqk : q ≤ k) (hll : LL tb n p k = fF tb n p k q) (hf : fF tb n p k q ≠ -1)
    (hP : rRunI w mX10_best 283 [some (aO 40 0), some (aI (D : Int)), some (aL 1099511627776), none, some (aI ((k - q : Nat) : Int)), some (aI ((p + 1 : Nat) : Int)), none, none, none] [] C (sU S 18 p ((q : Int) * S 5 0)) (rf mm) P) : ∀ (m i : Nat), i + m = q →
    rRunI w mX10_best 295 [some (aO 40 0), some (aI (D : Int)), some (aL 1099511627776), none, some (aI (k : Int)), some (aI (p : Int)), some (aI (i : Int)), none, none] [] C S (rf mm) P
  | m, i, e => by
    have e1 : (65 * ((p : Int) + 1) + (k : Int) - (i : Int)).toNat = 65 * (p + 1) + (k - i) := by omega
    have e2 : (65 * (p : Int) + (k : Int)).toNat = 65 * p + k := by omega
    have t1 := hT p hp i (by omega)
    have t2 := hL (p + 1) (by omega) (by omega) (k - i) (by omega)
    have t3 := hL p (by omega) (by omega) k hk
    have b1 := hK p hp i (by omega)
    have b2 := LL_bd hK (n - (p + 1)) (p + 1) (k - i) (by omega) (by omega)
    have b4 := LL_bd hK (n - p) p k (by omega) hk
    have b5 : rl (LL tb n p k) = fF tb n p k q := by
      unfold rl
      rw [if_neg (by rw [hll]; exact hf), hll]
    have b6 : 0 ≤ fF tb n p k q ∧ fF tb n p k q ≤ 400000000 := by omega
    have hrl : 0 ≤ rl (LL tb n (p + 1) (k - i)) ∧ rl (LL tb n (p + 1) (k - i)) ≤ 1099511627776 := by
      unfold rl far
      split <;> omega
    refine gX10_best_295 ⟨by omega, by omega, by omega, ?_, ?_⟩
    · rw [t1]
      intro y
      cases m with
      | zero =>
        have : i = q := by omega
        subst this
        unfold fF at hf
        rw [y, wF_n] at hf
        exact absurd rfl hf
      | succ m => exact ⟨by omega, sX10_best_295 hn hD hp hk hK hT hL h5 hq hqk hll hf hP m (i + 1) (by omega)⟩
    · rw [t1, e1, t2, e2, t3, b5]
      intro y
      refine ⟨by omega, by omega, by omega, by omega, by omega, by omega, by omega, by omega, by omega, by omega, by omega, fun z => ?_, fun z => ?_⟩
      · have hiq : i = q := by
          cases m with
          | zero => omega
          | succ m =>
            exfalso
            rcases FB_is (tb := tb) (n := n) (p := p) (k := k) with ⟨h1, _⟩ | ⟨q2, h1, h2, h3, h4, h6, h7⟩
            · omega
            · have : q2 = q := by omega
              subst this
              have h8 := h7 i (by omega)
              unfold rl far at z
              split at z
              · omega
              · rename_i y2
                have : fF tb n p k i = tb p i + LL tb n (p + 1) (k - i) := by
                  unfold fF wF
                  rw [if_neg (fun y3 => y3.elim y2 y)]
                omega
        subst hiq
        have m0 : 0 ≤ (i : Int) * S 5 0 := Int.mul_nonneg (by omega) (by omega)
        have m1 : (i : Int) * S 5 0 ≤ 64 * 64 := Int.mul_le_mul (by omega) (by omega) (by omega) (by omega)
        rw [show (k : Int) - (i : Int) = ((k - i : Nat) : Int) by omega]
        exact ⟨by omega, by omega, by omega, by omega, hP⟩
      · cases m with
        | zero =>
          have : i = q := by omega
          subst this
          exfalso
          unfold fF wF at hf z
          split at hf
          · exact absurd rfl hf
          · rename_i y2
            rw [if_neg y2] at z
            unfold rl at z
            rw [if_neg (fun y3 => y2 (Or.inl y3))] at z
            exact z rfl
        | succ m => exact ⟨by omega, sX10_best_295 hn hD hp hk hK hT hL h5 hq hqk hll hf hP m (i + 1) (by omega)⟩
theorem sX10_best_283 {C : aIF} {n N D : Nat} {tb g : Nat → Nat → Int} {P : Int → aS → Prop} (hn : n ≤ 6) (hN : N ≤ 64) (hD : D ≤ N) (hK : tbK tb n D) : ∀ (m p k : Nat) (S : aS), p + m = n → k ≤ D → tR3 S tb n D → lR3 S tb n D 0 → S 10 0 = (n : Int) → 1 ≤ S 5 0 ∧ S 5 0 ≤ 64 → LL tb n p k ≠ -1 →
    (∀ S' : aS, (∀ f j, f ≠ 18 → S' f j = S f j) → (∀ q, p ≤ q → q < n → S' 18 q = (bW tb n m p k q : Int) * S 5 0) → (∀ q, q < p → S' 18 q = S 18 q) → rMetI w mX10_sum [aO 40 0] C S' (rf mm) P) →
    rRunI w mX10_best 283 [some (aO 40 0), some (aI (D : Int)), some (aL 1099511627776), none, some (aI (k : Int)), some (aI (p : Int)), none, none, none] [] C S (rf mm) P
  | 0, p, k, S, e, hk, hT, hL, h10, h5, hl, hP => gX10_best_283 ⟨fun _ => rMetI_mono (hP S (fun _ _ _ => rfl) (fun q z1 z2 => absurd z2 (by omega)) (fun _ _ => rfl)) (fun x S' z => z), fun q => absurd (by omega) q⟩
  | m + 1, p, k, S, e, hk, hT, hL, h10, h5, hl, hP => by
    obtain ⟨q, h1, h2, h3, h4, h6⟩ := LL_go (show p < n by omega) hl
    have hll : LL tb n p k = fF tb n p k q := by
      rw [LL_p (by omega), if_neg (by omega), h1, Int.toNat_natCast]
    refine gX10_best_283 ⟨fun z => absurd z (by omega), fun _ => ?_⟩
    refine sX10_best_295 hn (by omega) (by omega) hk hK hT hL h5 h1 h2 hll (by rw [← hll]; exact hl) ?_ q 0 (by omega)
    refine sX10_best_283 (g := g) hn hN hD hK m (p + 1) (k - q) _ (by omega) (by omega) (fun a z1 j z2 => by rw [sU_f rfl]; exact hT a z1 j z2) (fun a z1 z2 j z3 => by rw [sU_f rfl]; exact hL a z1 z2 j z3) (by rw [sU_f rfl]; exact h10) (by rw [sU_f rfl]; exact h5) h6 (fun S' d1 d2 d3 => hP S' (fun f j z => by rw [d1 f j z]; exact sU_ne (fun y => z y.1)) (fun i z1 z2 => ?_) (fun i z => ?_))
    · show S' 18 i = ((if i = p then (FB tb n p k).toNat else bW tb n m (p + 1) (k - (FB tb n p k).toNat) i : Nat) : Int) * S 5 0
      rw [h1, Int.toNat_natCast]
      by_cases ei : i = p
      · rw [if_pos ei, ei, d3 p (by omega), sU_s]
      · rw [if_neg ei]
        have := d2 i (by omega) z2
        rw [sU_f rfl] at this
        exact this
    · rw [d3 i (by omega)]
      exact sU_ne (by omega)
/-- what best gives in the reference -/
theorem sX10_best {C : aIF} {S : aS} {n N M : Nat} {P : Int → aS → Prop} (hR : sR S) (hn : n ≤ 6) (h10 : S 10 0 = (n : Int)) (hN : 1 ≤ N ∧ N ≤ 64) (hM : M ≤ N) (e6 : S 6 0 = (N : Int) * S 5 0) (eN : S 6 0 / S 5 0 = (N : Int)) (eM : (S 6 0 - S 7 0) / S 5 0 = (N : Int) - M) (eD : S 6 0 - S 7 0 = ((N : Int) - M) * S 5 0)
    (hb : LL (tbF S) n 0 (N - M) = -1 → ∀ S' : aS, eF S S' → S' 17 0 = 0 → P (-1) S') (hg : LL (tbF S) n 0 (N - M) ≠ -1 → ∀ S' : aS, eF S S' → S' 17 0 = 1 → (∀ p, p < n → S' 18 p = (bW (tbF S) n n 0 (N - M) p : Int) * S 5 0) → P (LL (tbF S) n 0 (N - M)) S') : rMetI w mX10_best [aO 40 0] C S (rf mm) P := by
  have hs := hR.1.1
  have h6 := hR.1.2.1
  have h7 := hR.1.2.2.2.2.1
  have hbn : ∀ q, needF S q = -1 ∨ (0 ≤ needF S q ∧ needF S q ≤ N) := fun q => by
    rcases needF_is (S := S) (p := q) eN with z | ⟨z, z0, z1, z2, z3, z4⟩
    · exact Or.inl z
    · exact Or.inr (by omega)
  have cond : sumN (needF S) n * S 5 0 ≤ S 6 0 - S 7 0 ↔ sumN (needF S) n ≤ (N : Int) - M := by rw [eD, mle (by omega)]
  have hK := tbK_of hR hn h10 e6
  have hK2 : tbK (tbF S) n (N - M) := fun p hp k hk => hK p hp k (by omega)
  have hok := LL_ok (nd := needF S) hK2 (fun p hp => by have := hbn p; omega) (fun p hp k hk z => by unfold tbF; rw [if_pos z]) (fun p hp k hk z => by
    rcases needF_is (S := S) (p := p) eN with y | ⟨y, y0, y1, y2, y3, y4⟩
    · omega
    · unfold tbF
      rw [if_neg (by omega)]
      have : k = y := by omega
      rw [this]
      exact y3) n 0 (N - M) (by omega) (by omega)
  have e0 : sumN (needF S) 0 = 0 := rfl
  have sF0 : sF S (sU S 0 0 0) := fun f j z1 z2 => sU_ne (by omega)
  refine gX10_best (gX10_areNeeds ?_)
  have key := sX10_are_4 (w := w) (mm := mm) (C := C) (n := n) (N := N) (st := S 5 0) (nd := needF S) (P := fun x1 S2 => (x1 = 0 ∨ x1 = 1) ∧ (x1 ≠ 0 → (-2147483648 ≤ S2 6 0 - S2 7 0 ∧ S2 6 0 - S2 7 0 < 2147483648) ∧ (0 ≤ S2 6 0 - S2 7 0 ∧ 0 < S2 5 0) ∧ rRunI w mX10_best 44 [some (aO 40 0), some (aI ((S2 6 0 - S2 7 0) / S2 5 0)), some (aL 1099511627776), none, some (aI 0), none, none, none, none] [] C (sU S2 17 0 x1) (rf mm) P) ∧ (x1 = 0 → P (-1) (sU S2 17 0 x1))) hn hN.2 (by omega) (fun q => by have := hbn q; omega) n 0 (sU S 0 0 0) (by omega) (sR_cg hR sF0) (sF0 _ _ (by omega) (by omega)) (by rw [sF0 _ _ (by omega) (by omega)]; exact h10) (by rw [sF0 _ _ (by omega) (by omega)]; omega) (by rw [sF0 _ _ (by omega) (by omega), sF0 _ _ (by omega) (by omega)]; exact h7) (fun q => needF_cg sF0 q) (fun q hq => absurd hq (by omega)) (by show 0 ≤ 0 * S 5 0 ∧ 0 * S 5 0 ≤ _; rw [Int.zero_mul]; exact ⟨by omega, by omega⟩) ?_ ?_
  · have e0 : sumN (needF S) 0 * S 5 0 = 0 := Int.zero_mul _
    rw [e0] at key
    exact key
  · intro S' f1 z
    rw [sF0 _ _ (by omega) (by omega), sF0 _ _ (by omega) (by omega), cond] at z
    refine ⟨Or.inl rfl, fun q => absurd rfl q, fun _ => hb ?_ _ (fun f j z1 z2 => ?_) sU_s⟩
    · by_cases y : LL (tbF S) n 0 (N - M) = -1
      · exact y
      · have := hok.1 y
        exact absurd ⟨fun q hq => this.1 q (by omega) hq, by have := this.2; omega⟩ z
    · rw [sU_ne (by omega), f1 f j (by omega) (by omega)]
      exact sU_ne (by omega)
  · intro S1 f1 z1 z2 z3
    rw [sF0 _ _ (by omega) (by omega), sF0 _ _ (by omega) (by omega), cond] at z2
    have hll : LL (tbF S) n 0 (N - M) ≠ -1 := hok.2 ⟨fun q _ hq => z1 q hq, by omega⟩
    have g1 : ∀ f j, f ≠ 0 → f ≠ 16 → f ≠ 19 → S1 f j = S f j := fun f j y1 y2 y3 => by
      rw [f1 f j y2 y3]
      exact sU_ne (fun y => y1 y.1)
    have g17 : ∀ f j, f ≠ 0 → f ≠ 16 → f ≠ 19 → f ≠ 17 → sU S1 17 0 1 f j = S f j := fun f j y1 y2 y3 y4 => by
      rw [sU_ne (fun y => y4 y.1)]
      exact g1 f j y1 y2 y3
    have s17 : sF S (sU S1 17 0 1) := fun f j y1 y2 => g17 f j (by omega) (by omega) (by omega) (by omega)
    have q5 := g1 5 0 (by decide) (by decide) (by decide)
    have q6 := g1 6 0 (by decide) (by decide) (by decide)
    have q7 := g1 7 0 (by decide) (by decide) (by decide)
    refine ⟨Or.inr rfl, fun _ => ⟨by omega, by omega, ?_⟩, fun q => absurd q (by decide)⟩
    rw [q5, q6, q7, eM, show (N : Int) - M = ((N - M : Nat) : Int) by omega]
    refine sX10_best_44 (tb := tbF S) (nd := needF S) (st := S 5 0) hn hN (show N - M ≤ N by omega) (by omega) n 0 (sU S1 17 0 1) (by omega) (sR_cg hR s17) (by rw [s17 _ _ (by omega) (by omega)]; exact h10) (s17 _ _ (by omega) (by omega)) (by rw [s17 _ _ (by omega) (by omega)]; exact e6) (tbF_cg s17) (fun q hq => ⟨needF_cg s17 q, z1 q hq⟩) (fun q hq => by rw [sU_f rfl]; exact z3 q hq) (fun q hq => absurd hq (by omega)) (fun S2 f2 hT => ?_)
    refine sX10_best_124 (tb := tbF S) hn (by omega) (N - M + 1) 0 S2 (by omega) (by rw [f2 _ _ (by decide) (by decide), s17 _ _ (by omega) (by omega)]; exact h10) (fun j hj => absurd hj (by omega)) (fun S3 f3 hL => ?_)
    refine sX10_best_160 (tb := tbF S) hn (by omega) hK2 n S3 (Nat.le_refl _) (fun q y1 j y2 => by rw [f3 _ _ (by decide)]; exact hT q y1 j y2) hL (fun S4 f4 hL4 => ?_)
    have g4 : ∀ f j, f ≠ 0 → f ≠ 16 → f ≠ 17 → f ≠ 19 → f ≠ 20 → f ≠ 21 → S4 f j = S f j := fun f j y1 y2 y3 y4 y5 y6 => by
      rw [f4 f j y6, f3 f j y6, f2 f j y2 y5, g17 f j y1 y2 y4 y3]
    have q45 := g4 5 0 (by decide) (by decide) (by decide) (by decide) (by decide) (by decide)
    have q417 : S4 17 0 = 1 := by
      rw [f4 _ _ (by decide), f3 _ _ (by decide), f2 _ _ (by decide) (by decide)]
      exact sU_s
    refine sX10_best_283 (tb := tbF S) (g := aT S) (N := N) hn hN.2 (by omega) hK2 n 0 (N - M) S4 (by omega) (Nat.le_refl _) (fun q y1 j y2 => by rw [f4 _ _ (by decide), f3 _ _ (by decide)]; exact hT q y1 j y2) hL4 (by rw [g4 _ _ (by decide) (by decide) (by decide) (by decide) (by decide) (by decide)]; exact h10) (by rw [q45]; omega) hll (fun S5 d1 d2 d3 => ?_)
    have g5 : ∀ f j, f ≠ 0 → f ≠ 16 → f ≠ 17 → f ≠ 18 → f ≠ 19 → f ≠ 20 → f ≠ 21 → S5 f j = S f j := fun f j y1 y2 y3 y4 y5 y6 y7 => by
      rw [d1 f j y4, g4 f j y1 y2 y3 y5 y6 y7]
    have s5 : sF S S5 := fun f j y1 y2 => g5 f j (by omega) (by omega) (by omega) (by omega) (by omega) (by omega) (by omega)
    refine gX10_sum (sX10_sum_4 (g := aT S) (sh := bW (tbF S) n n 0 (N - M)) hn n 0 0 S5 (by omega) (sR_cg hR s5) (by rw [s5 _ _ (by omega) (by omega)]; exact h10) (fun p hp => ?_) (by omega) (by omega) (fun S6 d6 => ?_))
    · rw [s5 5 0 (by omega) (by omega), s5 6 0 (by omega) (by omega)]
      have := d2 p (by omega) hp
      rw [q45] at this
      have hle := bW_le (tb := tbF S) (n := n) n 0 (N - M) (by omega) hll p (by omega) hp
      exact ⟨this, by rw [e6, mle (by omega)]; omega, aT_cg s5 p⟩
    · rw [bW_sum (tb := tbF S) (g := aT S) (fun p k y => by
        unfold tbF at y ⊢
        split at y
        · exact absurd rfl y
        · rename_i y2
          rw [if_neg y2]) n 0 (N - M) 0 (by omega) hll, Int.zero_add]
      refine hg hll S6 (fun f j y1 y2 => ?_) ?_ (fun p hp => ?_)
      · rw [d6 f j (by omega)]
        exact g5 f j (by omega) (by omega) (by omega) (by omega) (by omega) (by omega) (by omega)
      · rw [d6 _ _ (by decide), d1 _ _ (by decide)]
        exact q417
      · rw [d6 _ _ (by decide)]
        have := d2 p (by omega) hp
        rw [q45] at this
        exact this
theorem opBest {C : aIF} {S : aS} (h : Inv C S mm t) : opOK w mX9_best mX10_best [] C S mm t := by
  have h' := Inv_t (Nat.le_succ t) h
  obtain ⟨N, M, hN, hM, e6, e7, eN, eM, eD⟩ := tOK_N h.1
  have hk := kR_of h
  have hR := sR_of hk
  obtain ⟨n, hn⟩ : ∃ n : Nat, S 10 0 = (n : Int) := ⟨(S 10 0).toNat, by have := hR.2.1; omega⟩
  have hn6 : n ≤ 6 := by have := hR.2.1; omega
  have h105 : C 1 0 5 = (n : Int) := by rw [h.2.2.2.1.1.1]; exact hn
  refine gX9_best ?_
  rw [h105]
  refine sX0_best hk hn6 hn hN hM e6 eN eM (fun nb C' d1 d2 d3 => ?_) (fun ng C' d1 d2 d3 d4 => ?_)
  · exact sX10_best hR hn6 hn hN hM e6 eN eM eD (fun _ S' z1 z2 => ⟨rfl, Inv_D h' d1 z1 d2 ⟨⟨by rw [d3, z2], by omega⟩, fun q => absurd q (by omega)⟩⟩) (fun q => absurd nb q)
  · refine sX10_best hR hn6 hn hN hM e6 eN eM eD (fun q => absurd q ng) (fun _ S' z1 z2 z3 => ⟨rfl, Inv_D h' d1 z1 d2 ⟨⟨by rw [d3, z2], by omega⟩, fun _ p hp hq => ?_⟩⟩)
    rw [z1 10 0 (by omega) (by omega), hn] at hq
    have hle := bW_le (tb := tbF S) (n := n) n 0 (N - M) (by omega) ng p (by omega) (by omega)
    rw [z1 5 0 (by omega) (by omega), d4 p (by omega), z3 p (by omega)]
    exact ⟨rfl, by omega, by omega⟩
end BR
