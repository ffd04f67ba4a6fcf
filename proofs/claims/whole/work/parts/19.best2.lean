/-! best: the component -/
def tbF (S : aS) (p k : Nat) : Int := if needF S p = -1 ∨ (k : Int) < needF S p then -1 else aT S p k
theorem tbF_cg {S S' : aS} (k : sF S S') : tbF S' = tbF S := funext (fun p => funext (fun q => by
  unfold tbF
  rw [needF_cg k, aT_cg k]))
theorem tbK_of {S : aS} {n N : Nat} (hR : sR S) (hn : n ≤ 6) (h10 : S 10 0 = (n : Int)) (e6 : S 6 0 = (N : Int) * S 5 0) : tbK (tbF S) n N := fun p hp k hk => by
  have hs := hR.1.1
  unfold tbF
  split
  · exact Or.inl rfl
  · exact aT_bd hR (by omega) (by omega) (by rw [e6, mle (by omega)]; omega)
def cB (C : aIF) (S : aS) (n D p : Nat) : Prop := kR C S ∧ (∀ q, p ≤ q → q < n → C 18 0 q = needF S q ∧ C 6 q 6 = 1) ∧ ∀ q, p ≤ q → q ≤ n → ∀ k, k ≤ D → C 20 q k = LL (tbF S) n q k
theorem wF_n {a : Int} : wF (-1) a = -1 := by
  unfold wF
  rw [if_pos (Or.inr rfl)]
section BS
variable {w : aW} {mm t : Nat}
theorem sX0_sumWith {C : aIF} {S : aS} {p sh lf : Nat} {P : Int → aIF → Prop} (hp : p < 6) (h1 : sh ≤ lf) (h2 : lf ≤ 64) (ha : -1 ≤ C 8 p sh ∧ C 8 p sh ≤ 20160000) (hb : -1 ≤ C 20 (p + 1) (lf - sh) ∧ C 20 (p + 1) (lf - sh) ≤ 201600000) (hP : P (wF (C 8 p sh) (C 20 (p + 1) (lf - sh))) C) : kMetI w mX0_sumWith [aO 10 0, aO 6 p, aI (p : Int), aI (sh : Int), aI (lf : Int)] C S (rf mm) P := by
  have e1 : ((lf : Int) - (sh : Int)).toNat = lf - sh := by omega
  unfold wF at hP
  refine gX0_sumWith hp ?_
  rw [e1, Int.toNat_natCast]
  refine ⟨by omega, by omega, by omega, by omega, fun q => ?_, fun q => ⟨by omega, fun q2 => ⟨by omega, ?_⟩, fun q2 => ?_⟩⟩
  · rw [if_pos (Or.inl q)] at hP
    exact hP
  · rw [if_neg (by omega)] at hP
    exact hP
  · rw [if_pos (Or.inr q2)] at hP
    exact hP
theorem sX0_first_26 {C : aIF} {S : aS} {p k0 lf : Nat} {f : Nat → Int} {P : Int → aIF → Prop} (hp : p < 6) (h2 : lf ≤ 64) (ha : ∀ i, k0 ≤ i → i ≤ lf → -1 ≤ C 8 p i ∧ C 8 p i ≤ 20160000) (hb : ∀ i, i ≤ lf → -1 ≤ C 20 (p + 1) i ∧ C 20 (p + 1) i ≤ 201600000) (hf : ∀ i, k0 ≤ i → i ≤ lf → wF (C 8 p i) (C 20 (p + 1) (lf - i)) = f i) : ∀ (m k : Nat) (sh sum : Int), lf + 1 - k = m → k0 ≤ k → k < 100000 → P (bs f m k sh sum).1 C → kRunI w mX0_firstBestShare 26 [some (aO 10 0), some (aO 6 p), some (aI (p : Int)), some (aI (lf : Int)), some (aI sh), some (aI sum), some (aI (k : Int)), none] [] C S (rf mm) P
  | 0, k, sh, sum, e, hk, hk2, hP => gX0_firstBestShare_26 hp ⟨fun _ => hP, fun q => absurd (by omega) q⟩
  | m + 1, k, sh, sum, e, hk, hk2, hP => by
    refine gX0_firstBestShare_26 hp ⟨fun q => absurd q (by omega), fun _ => sX0_sumWith hp (by omega) h2 (ha k hk (by omega)) (hb _ (by omega)) ?_⟩
    rw [hf k hk (by omega)]
    unfold bs at hP
    refine ⟨fun q => ⟨by omega, ?_⟩, fun q => ⟨fun q2 => ⟨by omega, ?_⟩, fun q2 => ⟨fun q3 => ⟨by omega, ?_⟩, fun q3 => ⟨by omega, ?_⟩⟩⟩⟩
    · rw [if_neg (fun z => z.1 q)] at hP
      exact sX0_first_26 hp h2 ha hb hf m (k + 1) _ _ (by omega) (by omega) (by omega) hP
    · rw [if_pos ⟨q, Or.inl q2⟩] at hP
      exact sX0_first_26 hp h2 ha hb hf m (k + 1) _ _ (by omega) (by omega) (by omega) hP
    · rw [if_neg (fun z => by omega)] at hP
      exact sX0_first_26 hp h2 ha hb hf m (k + 1) _ _ (by omega) (by omega) (by omega) hP
    · rw [if_pos ⟨q, Or.inr (by omega)⟩] at hP
      exact sX0_first_26 hp h2 ha hb hf m (k + 1) _ _ (by omega) (by omega) (by omega) hP
theorem sX0_first {C : aIF} {S : aS} {n N D p lf : Nat} {P : Int → aIF → Prop} (hn : n ≤ 6) (h10 : S 10 0 = (n : Int)) (hN : 1 ≤ N ∧ N ≤ 64) (hD : D ≤ N) (e6 : S 6 0 = (N : Int) * S 5 0) (eN : S 6 0 / S 5 0 = (N : Int)) (hp : p < n) (hl : lf ≤ D) (hk : kR C S) (h18 : C 18 0 p = needF S p) (h66 : C 6 p 6 = 1) (h20 : ∀ k, k ≤ D → C 20 (p + 1) k = LL (tbF S) n (p + 1) k) (hP : P (FB (tbF S) n p lf) C) : kMetI w mX0_firstBestShare [aO 10 0, aO 6 p, aI (p : Int), aI (lf : Int)] C S (rf mm) P := by
  have hR := sR_of hk
  have hs := hR.1.1
  have htb := tbK_of hR hn h10 e6
  have h8 : ∀ k, k ≤ N → C 8 p k = aT S p k ∧ -1 ≤ aT S p k ∧ aT S p k ≤ 20160000 := fun k hk2 => by
    have b1 := (hk.2.2.2 p (by omega) (by omega)).resolve_left (by omega)
    have b0 : (k : Int) * S 5 0 ≤ S 6 0 := by rw [e6, mle (by omega)]; omega
    have b2 := b1.2 k (by omega) b0
    have b3 := aT_bd (S := S) (p := p) (k := k) hR (by omega) (by omega) b0
    exact ⟨b2, by omega, by omega⟩
  refine gX0_firstBestShare (by omega) ⟨by omega, fun q => ?_, fun q => ?_⟩
  · rw [h18] at q ⊢
    rcases needF_is (S := S) (p := p) eN with z | ⟨z, z0, z1, z2, z3, z4⟩
    · exact absurd z q
    · rw [z0]
      refine sX0_first_26 (k0 := z) (f := fF (tbF S) n p lf) (by omega) (by omega) (fun i y1 y2 => ?_) (fun i y => ?_) (fun i y1 y2 => ?_) (lf + 1 - z) z (-1) 0 rfl (by omega) (by omega) ?_
      · rw [(h8 i (by omega)).1]
        exact (h8 i (by omega)).2
      · rw [h20 i (by omega)]
        have := LL_bd htb (n - (p + 1)) (p + 1) i (by omega) (by omega)
        omega
      · rw [(h8 i (by omega)).1, h20 _ (by omega)]
        unfold fF tbF
        rw [if_neg (by omega)]
      · have hno : ∀ i, i < z → fF (tbF S) n p lf i = -1 := fun i hi => by
          unfold fF tbF
          rw [if_pos (by omega)]
          exact wF_n
        unfold FB at hP
        by_cases y : z ≤ lf + 1
        · have := bs_skip (f := fF (tbF S) n p lf) (sh := -1) (sum := 0) (m := lf + 1 - z) z 0 (fun i _ hi => hno i (by omega))
          rw [show z + (lf + 1 - z) = lf + 1 by omega, Nat.zero_add] at this
          rw [this] at hP
          exact hP
        · rw [bs_none (lf + 1) 0 (fun i _ hi => hno i (by omega))] at hP
          rw [show lf + 1 - z = 0 by omega]
          exact hP
  · have hno : ∀ i, fF (tbF S) n p lf i = -1 := fun i => by
      unfold fF tbF
      rw [if_pos (by omega)]
      exact wF_n
    unfold FB at hP
    rw [bs_none (lf + 1) 0 (fun i _ hi => hno i)] at hP
    exact hP
theorem sX0_best_66 {S : aS} {n N D p : Nat} {P : Int → aIF → Prop} (hn : n ≤ 6) (h10 : S 10 0 = (n : Int)) (hN : 1 ≤ N ∧ N ≤ 64) (hD : D ≤ N) (e6 : S 6 0 = (N : Int) * S 5 0) (eN : S 6 0 / S 5 0 = (N : Int)) (hp : p < n) : ∀ (m k : Nat) (C : aIF), k + m = D + 1 → cB C S n D (p + 1) → C 18 0 p = needF S p → C 6 p 6 = 1 → (∀ q, q < k → C 20 p q = LL (tbF S) n p q) →
    (∀ C' : aIF, dF C C' → C' 10 0 4 = C 10 0 4 → cB C' S n D p → kRunI w mX0_atBest 43 [some (aO 10 0), some (aO 5 0), some (aI (n : Int)), some (aI (D : Int)), some (aI ((p : Int) + -1)), none, none] [] C' S (rf mm) P) →
    kRunI w mX0_atBest 66 [some (aO 10 0), some (aO 5 0), some (aI (n : Int)), some (aI (D : Int)), some (aI (p : Int)), some (aI (k : Int)), none] [] C S (rf mm) P
  | 0, k, C, e, hc, h18, h66, hk, hP => gX0_atBest_66 ⟨fun _ => ⟨by omega, hP C (fun _ _ _ _ _ _ _ => rfl) rfl ⟨hc.1, fun q z1 z2 => by
      by_cases ez : q = p
      · rw [ez]
        exact ⟨h18, h66⟩
      · exact hc.2.1 q (by omega) z2, fun q z1 z2 i hi => by
      by_cases ez : q = p
      · rw [ez]
        exact hk i (by omega)
      · exact hc.2.2 q (by omega) z2 i hi⟩⟩, fun q => absurd (by omega) q⟩
  | m + 1, k, C, e, hc, h18, h66, hk, hP => by
    have hR := sR_of hc.1
    have hs := hR.1.1
    have htb := tbK_of hR hn h10 e6
    have nx : Unit → ∀ x : Int, x = LL (tbF S) n p k → k < 65 ∧ k + 1 < 2147483648 ∧ kRunI w mX0_atBest 66 [some (aO 10 0), some (aO 5 0), some (aI (n : Int)), some (aI (D : Int)), some (aI (p : Int)), some (aI ((k + 1 : Nat) : Int)), none] [] (uI C 20 p k x) S (rf mm) P := fun _ x hx => by
      refine ⟨by omega, by omega, sX0_best_66 hn h10 hN hD e6 eN hp m (k + 1) _ (by omega) ⟨kR_cg hc.1 (fun k i j z => uI_no (by omega)), fun q z1 z2 => ?_, fun q z1 z2 i hi => ?_⟩ (by rw [uI_k rfl]; exact h18) (by rw [uI_k rfl]; exact h66) (fun q hq => ?_) (fun C' d1 d2 d3 => hP C' (fun k i j z1 z2 z3 z4 => by rw [d1 k i j z1 z2 z3 z4]; exact uI_no (by omega)) (by rw [d2]; exact uI_k rfl) d3)⟩
      · rw [uI_k rfl, uI_k rfl]
        exact hc.2.1 q z1 z2
      · rw [uI_no (by omega)]
        exact hc.2.2 q z1 z2 i hi
      · by_cases ez : q = k
        · rw [ez, uI_s]
          exact hx
        · rw [uI_no (by omega)]
          exact hk q (by omega)
    refine gX0_atBest_66 ⟨fun q => absurd q (by omega), fun _ => ⟨by omega, ?_⟩⟩
    refine sX0_first hn h10 hN hD e6 eN hp (by omega) hc.1 h18 h66 (fun i hi => hc.2.2 (p + 1) (by omega) (by omega) i hi) ⟨fun q => ?_, fun q => nx () _ (by rw [LL_p hp, if_pos q])⟩
    rcases FB_is (tb := tbF S) (n := n) (p := p) (k := k) with ⟨h1, _⟩ | ⟨z, h1, h2, h3, _, _, _⟩
    · exact absurd h1 q
    · have hnd : tbF S p z = aT S p z := by
        unfold fF at h3
        by_cases y : tbF S p z = -1
        · rw [y, wF_n] at h3
          exact absurd rfl h3
        · unfold tbF at y ⊢
          split at y
          · exact absurd rfl y
          · rename_i y2
            rw [if_neg y2]
      have b1 := (hc.1.2.2.2 p (by omega) (by omega)).resolve_left (by omega)
      have b0 : (z : Int) * S 5 0 ≤ S 6 0 := by rw [e6, mle (by omega)]; omega
      have b2 : C 8 p z = aT S p z := b1.2 z (by omega) b0
      have b3 := aT_bd (S := S) (p := p) (k := z) hR (by omega) (by omega) b0
      have b4 := hc.2.2 (p + 1) (by omega) (by omega) (k - z) (by omega)
      have b5 := LL_bd htb (n - (p + 1)) (p + 1) (k - z) (by omega) (by omega)
      rw [h1]
      refine sX0_sumWith (by omega) h2 (by omega) (by rw [b2]; omega) (by rw [b4]; omega) (nx () _ ?_)
      rw [LL_p hp, if_neg (by omega), h1, Int.toNat_natCast, b2, b4]
      unfold fF
      rw [hnd]
theorem sX0_best_43 {S : aS} {n N D : Nat} {P : Int → aIF → Prop} (hn : n ≤ 6) (h10 : S 10 0 = (n : Int)) (hN : 1 ≤ N ∧ N ≤ 64) (hD : D ≤ N) (e6 : S 6 0 = (N : Int) * S 5 0) (eN : S 6 0 / S 5 0 = (N : Int)) : ∀ (p : Nat) (C : aIF), p ≤ n → cB C S n D p →
    (∀ C' : aIF, dF C C' → C' 10 0 4 = C 10 0 4 → cB C' S n D 0 → kRunI w mX0_atBest 43 [some (aO 10 0), some (aO 5 0), some (aI (n : Int)), some (aI (D : Int)), some (aI (-1)), none, none] [] C' S (rf mm) P) →
    kRunI w mX0_atBest 43 [some (aO 10 0), some (aO 5 0), some (aI (n : Int)), some (aI (D : Int)), some (aI ((p : Int) - 1)), none, none] [] C S (rf mm) P
  | 0, C, hp, hc, hP => hP C (fun _ _ _ _ _ _ _ => rfl) rfl hc
  | p + 1, C, hp, hc, hP => by
    refine gX0_atBest_43 ⟨fun q => absurd q (by omega), fun _ => ⟨by omega, ?_⟩⟩
    rw [show ((p + 1 : Nat) : Int) - 1 = (p : Int) by omega, Int.toNat_natCast]
    refine sX0_need hc.1 (by omega) (by omega) (fun C1 f1 k1 c1 => ?_)
    have g : ∀ k i j, k ≠ 8 → ¬ (k = 6 ∧ j = 6) → (k < 11 ∨ 16 < k) → k ≠ 18 → uI C1 18 0 p (needF S p) k i j = C k i j := fun k i j z1 z2 z3 z4 => by
      rw [uI_no (fun z => z4 z.1)]
      exact f1.1 k i j z1 z2 z3
    refine sX0_best_66 hn h10 hN hD e6 eN (by omega) (D + 1) 0 _ (by omega) ⟨kR_cg k1 (fun k i j z => uI_no (by omega)), fun q z1 z2 => ?_, fun q z1 z2 i hi => ?_⟩ uI_s (by rw [uI_k rfl]; exact c1) (fun q hq => absurd hq (by omega)) (fun C2 d1 d2 d3 => ?_)
    · have := hc.2.1 q z1 z2
      rw [uI_no (by omega), uI_k rfl, f1.1 18 0 q (by omega) (by omega) (by omega)]
      exact ⟨this.1, f1.2 q this.2⟩
    · rw [g _ _ _ (by omega) (by omega) (by omega) (by omega)]
      exact hc.2.2 q z1 z2 i hi
    · have := sX0_best_43 (P := P) hn h10 hN hD e6 eN p C2 (by omega) d3 (fun C' v1 v2 v3 => hP C' (dF_trans (fun k i j z1 z2 z3 z4 => ?_) (dF_trans d1 v1)) (by rw [v2, d2, g _ _ _ (by omega) (by omega) (by omega) (by omega)]) v3)
      · exact this
      · exact g k i j z1 z2 (by omega) (by omega)
theorem sX0_best_16 {S : aS} {n N D : Nat} {P : Int → aIF → Prop} (hn : n ≤ 6) (hN : 1 ≤ N ∧ N ≤ 64) (hD : D ≤ N) : ∀ (m k : Nat) (C : aIF), k + m = D + 1 → kR C S → (∀ q, q < k → C 20 n q = 0) →
    (∀ C' : aIF, dF C C' → C' 10 0 4 = C 10 0 4 → cB C' S n D n → kRunI w mX0_atBest 43 [some (aO 10 0), some (aO 5 0), some (aI (n : Int)), some (aI (D : Int)), some (aI ((n : Int) - 1)), none, none] [] C' S (rf mm) P) →
    kRunI w mX0_atBest 16 [some (aO 10 0), some (aO 5 0), some (aI (n : Int)), some (aI (D : Int)), some (aI (k : Int)), none, none] [] C S (rf mm) P
  | 0, k, C, e, hk, h0, hP => gX0_atBest_16 ⟨fun _ => ⟨by omega, hP C (fun _ _ _ _ _ _ _ => rfl) rfl ⟨hk, fun q z1 z2 => absurd z2 (by omega), fun q z1 z2 i hi => by
      have : q = n := by omega
      subst this
      rw [LL_n]
      exact h0 i (by omega)⟩⟩, fun q => absurd (by omega) q⟩
  | m + 1, k, C, e, hk, h0, hP => by
    refine gX0_atBest_16 ⟨fun q => absurd q (by omega), fun _ => ⟨by omega, by omega, by omega, ?_⟩⟩
    refine sX0_best_16 hn hN hD m (k + 1) _ (by omega) (kR_cg hk (fun k i j z => uI_no (by omega))) (fun q hq => ?_) (fun C' d1 d2 d3 => hP C' (fun k i j z1 z2 z3 z4 => by rw [d1 k i j z1 z2 z3 z4]; exact uI_no (by omega)) (by rw [d2]; exact uI_k rfl) d3)
    by_cases ez : q = k
    · rw [ez, uI_s]
    · rw [uI_no (by omega)]
      exact h0 q (by omega)
theorem sX0_take_6 {S : aS} {n N D : Nat} {top : Int} {P : aIF → Prop} (hn : n ≤ 6) (h10 : S 10 0 = (n : Int)) (hN : 1 ≤ N ∧ N ≤ 64) (hD : D ≤ N) (e6 : S 6 0 = (N : Int) * S 5 0) (eN : S 6 0 / S 5 0 = (N : Int)) : ∀ (m p k : Nat) (C : aIF), p + m = n → k ≤ D → cB C S n D 0 → LL (tbF S) n p k ≠ -1 →
    (∀ C' : aIF, (∀ k i j, k ≠ 17 → C' k i j = C k i j) → (∀ q, p ≤ q → q < n → C' 17 0 q = (bW (tbF S) n m p k q : Int)) → (∀ q, q < p → C' 17 0 q = C 17 0 q) → P C') →
    kRunV w mX0_takeFirstBest 6 [some (aO 10 0), some (aO 5 0), some (aI (n : Int)), some (aI top), some (aI (k : Int)), some (aI (p : Int)), none] [] C S (rf mm) P
  | 0, p, k, C, e, hk, hc, hl, hP => gX0_takeFirstBest_6 ⟨fun _ => hP C (fun _ _ _ _ => rfl) (fun q z1 z2 => absurd z2 (by omega)) (fun _ _ => rfl), fun q => absurd (by omega) q⟩
  | m + 1, p, k, C, e, hk, hc, hl, hP => by
    obtain ⟨q, h1, h2, h3, h4, h5⟩ := LL_go (show p < n by omega) hl
    refine gX0_takeFirstBest_6 ⟨fun q => absurd q (by omega), fun _ => ⟨by omega, ?_⟩⟩
    refine sX0_first hn h10 hN hD e6 eN (by omega) hk hc.1 (hc.2.1 p (by omega) (by omega)).1 (hc.2.1 p (by omega) (by omega)).2 (fun i hi => hc.2.2 (p + 1) (by omega) (by omega) i hi) ?_
    rw [h1, show max (q : Int) 0 = (q : Int) by omega, show (k : Int) - (q : Int) = ((k - q : Nat) : Int) by omega]
    refine ⟨by omega, by omega, ?_⟩
    refine sX0_take_6 hn h10 hN hD e6 eN m (p + 1) (k - q) _ (by omega) (by omega) ⟨kR_cg hc.1 (fun k i j z => uI_no (by omega)), fun i z1 z2 => ?_, fun i z1 z2 j hj => ?_⟩ h5 (fun C' d1 d2 d3 => hP C' (fun k i j z => by rw [d1 k i j z]; exact uI_no (fun y => z y.1)) (fun i z1 z2 => ?_) (fun i z => ?_))
    · rw [uI_k rfl, uI_k rfl]
      exact hc.2.1 i z1 z2
    · rw [uI_k rfl]
      exact hc.2.2 i z1 z2 j hj
    · show C' 17 0 i = ((if i = p then (FB (tbF S) n p k).toNat else bW (tbF S) n m (p + 1) (k - (FB (tbF S) n p k).toNat) i : Nat) : Int)
      rw [h1, Int.toNat_natCast]
      by_cases ei : i = p
      · rw [if_pos ei, ei, d3 p (by omega), uI_s]
      · rw [if_neg ei]
        exact d2 i (by omega) z2
    · rw [d3 i (by omega)]
      exact uI_no (by omega)
/-- what best gives in the component -/
theorem sX0_best {C : aIF} {S : aS} {n N M : Nat} {P : Int → aIF → Prop} (hk : kR C S) (hn : n ≤ 6) (h10 : S 10 0 = (n : Int)) (hN : 1 ≤ N ∧ N ≤ 64) (hM : M ≤ N) (e6 : S 6 0 = (N : Int) * S 5 0) (eN : S 6 0 / S 5 0 = (N : Int)) (eM : (S 6 0 - S 7 0) / S 5 0 = (N : Int) - M)
    (hb : LL (tbF S) n 0 (N - M) = -1 → ∀ C' : aIF, dF C C' → kR C' S → C' 10 0 4 = 0 → P (-1) C') (hg : LL (tbF S) n 0 (N - M) ≠ -1 → ∀ C' : aIF, dF C C' → kR C' S → C' 10 0 4 = 1 → (∀ p, p < n → C' 17 0 p = (bW (tbF S) n n 0 (N - M) p : Int)) → P (LL (tbF S) n 0 (N - M)) C') : kMetI w mX0_atBest [aO 10 0, aO 5 0, aI (n : Int)] C S (rf mm) P := by
  obtain ⟨r0, r1, r2, r3, r4⟩ := hk.2.1
  have h5 := hk.1.1
  have h6 := hk.1.2.1
  have h7 := hk.1.2.2.2.2.1
  refine gX0_atBest (gX5_dealtSteps ?_)
  rw [uI_k rfl, uI_k rfl, uI_k rfl, r0, r1, r2, eM, show (N : Int) - M = ((N - M : Nat) : Int) by omega]
  refine ⟨by omega, by omega, ?_⟩
  have d0 : ∀ {C' : aIF}, dF (uI C 10 0 4 0) C' → dF C C' := fun {C'} d k i j z1 z2 z3 z4 => by
    rw [d k i j z1 z2 z3 z4]
    exact uI_no (fun z => z3 ⟨z.1, z.2.2⟩)
  refine sX0_best_16 (N := N) hn hN (by omega) (N - M + 1) 0 _ (by omega) (kR_cg hk (fun k i j z => uI_no (by omega))) (fun q hq => absurd hq (by omega)) (fun C1 f1 f2 f3 => ?_)
  refine sX0_best_43 (N := N) hn h10 hN (by omega) e6 eN n C1 (Nat.le_refl _) f3 (fun C2 g1 g2 g3 => ?_)
  have l0 := g3.2.2 0 (by omega) (by omega) (N - M) (by omega)
  have u4 : C2 10 0 4 = 0 := by rw [g2, f2]; exact uI_s
  refine gX0_atBest_43 ⟨fun _ => ⟨by omega, ?_⟩, fun q => absurd (by decide) q⟩
  rw [Int.toNat_natCast]
  refine ⟨fun q => ?_, fun q => ?_⟩
  · rw [l0] at q
    refine gX0_takeFirstBest (sX0_take_6 (N := N) (D := N - M) hn h10 hN (by omega) e6 eN n 0 (N - M) C2 (by omega) (by omega) g3 q (fun C3 k1 k2 k3 => ?_))
    have e0 : C3 20 0 (N - M) = LL (tbF S) n 0 (N - M) := by rw [k1 _ _ _ (by omega)]; exact l0
    rw [e0]
    refine hg q _ (fun k i j z1 z2 z3 z4 => ?_) (kR_cg g3.1 (fun k i j z => ?_)) uI_s (fun p hp => ?_)
    · rw [uI_no (fun z => z3 ⟨z.1, z.2.2⟩), k1 k i j (by omega)]
      exact dF_trans (d0 f1) g1 k i j z1 z2 z3 z4
    · rw [uI_no (by omega)]
      exact k1 k i j (by omega)
    · rw [uI_k rfl]
      exact k2 p (by omega) hp
  · rw [l0] at q
    exact hb q C2 (dF_trans (d0 f1) g1) g3.1 u4
end BS
