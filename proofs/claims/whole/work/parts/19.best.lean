/-! best: the tables -/
def wF (a b : Int) : Int := if b = -1 ∨ a = -1 then -1 else a + b
def bs (f : Nat → Int) : Nat → Nat → Int → Int → Int × Int
  | 0, _, sh, sum => (sh, sum)
  | m + 1, k, sh, sum => if f k ≠ -1 ∧ (sh = -1 ∨ f k < sum) then bs f m (k + 1) (k : Int) (f k) else bs f m (k + 1) sh sum
def bsI (f : Nat → Int) (k : Nat) (sh sum : Int) : Prop := (sh = -1 ∧ ∀ i, i < k → f i = -1) ∨ ∃ q : Nat, sh = (q : Int) ∧ q < k ∧ f q ≠ -1 ∧ sum = f q ∧ (∀ i, i < k → f i = -1 ∨ f q ≤ f i) ∧ ∀ i, i < q → f i = -1 ∨ f q < f i
theorem bs_step {f : Nat → Int} {k : Nat} {sh sum : Int} (h : bsI f k sh sum) : (f k ≠ -1 ∧ (sh = -1 ∨ f k < sum) → bsI f (k + 1) (k : Int) (f k)) ∧ (¬ (f k ≠ -1 ∧ (sh = -1 ∨ f k < sum)) → bsI f (k + 1) sh sum) := by
  rcases h with ⟨h1, h2⟩ | ⟨q, h1, h2, h3, h4, h5, h6⟩
  · refine ⟨fun z => Or.inr ⟨k, rfl, by omega, z.1, rfl, fun i hi => ?_, fun i hi => Or.inl (h2 i hi)⟩, fun z => Or.inl ⟨h1, fun i hi => ?_⟩⟩
    · by_cases e : i = k
      · rw [e]
        exact Or.inr (Int.le_refl _)
      · exact Or.inl (h2 i (by omega))
    · by_cases e : i = k
      · rw [e]
        by_cases y : f k = -1
        · exact y
        · exact absurd ⟨y, Or.inl h1⟩ z
      · exact h2 i (by omega)
  · refine ⟨fun z => Or.inr ⟨k, rfl, by omega, z.1, rfl, fun i hi => ?_, fun i hi => ?_⟩, fun z => Or.inr ⟨q, h1, by omega, h3, h4, fun i hi => ?_, h6⟩⟩
    · by_cases e : i = k
      · rw [e]
        exact Or.inr (Int.le_refl _)
      · have := h5 i (by omega)
        omega
    · have := h5 i hi
      omega
    · by_cases e : i = k
      · rw [e]
        by_cases y : f k = -1
        · exact Or.inl y
        · refine Or.inr ?_
          by_cases y2 : f k < sum
          · exact absurd ⟨y, Or.inr y2⟩ z
          · omega
      · exact h5 i (by omega)
theorem bs_is {f : Nat → Int} : ∀ (m k : Nat) (sh sum : Int), bsI f k sh sum → bsI f (k + m) (bs f m k sh sum).1 (bs f m k sh sum).2
  | 0, _, _, _, h => h
  | m + 1, k, sh, sum, h => by
    have hs := bs_step h
    unfold bs
    rw [show k + (m + 1) = k + 1 + m by omega]
    split
    · exact bs_is m (k + 1) _ _ (hs.1 (by assumption))
    · exact bs_is m (k + 1) _ _ (hs.2 (by assumption))
theorem bs_skip {f : Nat → Int} {sh sum : Int} {m : Nat} : ∀ (d k : Nat), (∀ i, k ≤ i → i < k + d → f i = -1) → bs f (d + m) k sh sum = bs f m (k + d) sh sum
  | 0, k, _ => by rw [Nat.zero_add]; rfl
  | d + 1, k, h => by
    rw [show d + 1 + m = (d + m) + 1 by omega]
    show (if f k ≠ -1 ∧ (sh = -1 ∨ f k < sum) then bs f (d + m) (k + 1) (k : Int) (f k) else bs f (d + m) (k + 1) sh sum) = _
    rw [if_neg (fun z => z.1 (h k (by omega) (by omega))), bs_skip d (k + 1) (fun i h1 h2 => h i (by omega) (by omega)), show k + 1 + d = k + (d + 1) by omega]
theorem bs_none {f : Nat → Int} {sh sum : Int} : ∀ (m k : Nat), (∀ i, k ≤ i → i < k + m → f i = -1) → bs f m k sh sum = (sh, sum)
  | 0, _, _ => rfl
  | m + 1, k, h => by
    show (if f k ≠ -1 ∧ (sh = -1 ∨ f k < sum) then bs f m (k + 1) (k : Int) (f k) else bs f m (k + 1) sh sum) = _
    rw [if_neg (fun z => z.1 (h k (by omega) (by omega))), bs_none m (k + 1) (fun i h1 h2 => h i (by omega) (by omega))]
/-- the values: row m is of the last m programs -/
def LF (tb : Nat → Nat → Int) (n : Nat) : Nat → Nat → Int
  | 0, _ => 0
  | m + 1, k => if (bs (fun i => wF (tb (n - (m + 1)) i) (LF tb n m (k - i))) (k + 1) 0 (-1) 0).1 = -1 then -1 else wF (tb (n - (m + 1)) (bs (fun i => wF (tb (n - (m + 1)) i) (LF tb n m (k - i))) (k + 1) 0 (-1) 0).1.toNat) (LF tb n m (k - (bs (fun i => wF (tb (n - (m + 1)) i) (LF tb n m (k - i))) (k + 1) 0 (-1) 0).1.toNat))
def LL (tb : Nat → Nat → Int) (n p k : Nat) : Int := LF tb n (n - p) k
def fF (tb : Nat → Nat → Int) (n p k i : Nat) : Int := wF (tb p i) (LL tb n (p + 1) (k - i))
def FB (tb : Nat → Nat → Int) (n p k : Nat) : Int := (bs (fF tb n p k) (k + 1) 0 (-1) 0).1
theorem LL_n {tb : Nat → Nat → Int} {n k : Nat} : LL tb n n k = 0 := by
  unfold LL
  rw [Nat.sub_self]
  rfl
theorem LL_p {tb : Nat → Nat → Int} {n p k : Nat} (h : p < n) : LL tb n p k = if FB tb n p k = -1 then -1 else fF tb n p k (FB tb n p k).toNat := by
  have e1 : n - p = (n - (p + 1)) + 1 := by omega
  have e2 : n - (n - (p + 1) + 1) = p := by omega
  show LF tb n (n - p) k = _
  rw [e1]
  unfold LF
  rw [e2]
  rfl
theorem FB_is {tb : Nat → Nat → Int} {n p k : Nat} : (FB tb n p k = -1 ∧ ∀ i, i ≤ k → fF tb n p k i = -1) ∨ ∃ q : Nat, FB tb n p k = (q : Int) ∧ q ≤ k ∧ fF tb n p k q ≠ -1 ∧ (bs (fF tb n p k) (k + 1) 0 (-1) 0).2 = fF tb n p k q ∧ (∀ i, i ≤ k → fF tb n p k i = -1 ∨ fF tb n p k q ≤ fF tb n p k i) ∧ ∀ i, i < q → fF tb n p k i = -1 ∨ fF tb n p k q < fF tb n p k i := by
  have h := bs_is (f := fF tb n p k) (k + 1) 0 (-1) 0 (Or.inl ⟨rfl, fun i hi => absurd hi (by omega)⟩)
  rw [Nat.zero_add] at h
  rcases h with ⟨h1, h2⟩ | ⟨q, h1, h2, h3, h4, h5, h6⟩
  · exact Or.inl ⟨h1, fun i hi => h2 i (by omega)⟩
  · exact Or.inr ⟨q, h1, by omega, h3, h4, fun i hi => h5 i (by omega), h6⟩
def tbK (tb : Nat → Nat → Int) (n D : Nat) : Prop := ∀ p, p < n → ∀ k, k ≤ D → tb p k = -1 ∨ (0 ≤ tb p k ∧ tb p k ≤ 20160000)
theorem LL_bd {tb : Nat → Nat → Int} {n D : Nat} (h : tbK tb n D) : ∀ (m p k : Nat), p + m = n → k ≤ D → LL tb n p k = -1 ∨ (0 ≤ LL tb n p k ∧ LL tb n p k ≤ 20160000 * (m : Int))
  | 0, p, k, e, hk => by
    have : p = n := by omega
    rw [this, LL_n]
    omega
  | m + 1, p, k, e, hk => by
    rw [LL_p (by omega)]
    rcases FB_is (tb := tb) (n := n) (p := p) (k := k) with ⟨h1, _⟩ | ⟨q, h1, h2, h3, _, _, _⟩
    · rw [if_pos h1]
      exact Or.inl rfl
    · rw [if_neg (by omega), h1, Int.toNat_natCast]
      unfold fF wF at *
      have b1 := h p (by omega) q (by omega)
      have b2 := LL_bd h m (p + 1) (k - q) (by omega) (by omega)
      split
      · exact Or.inl rfl
      · refine Or.inr ?_
        omega
/-- where all can be dealt -/
theorem LL_ok {tb : Nat → Nat → Int} {n D : Nat} {nd : Nat → Int} (h : tbK tb n D) (hnd : ∀ p, p < n → nd p = -1 ∨ 0 ≤ nd p) (hno : ∀ p, p < n → ∀ k, k ≤ D → (nd p = -1 ∨ (k : Int) < nd p) → tb p k = -1) (hyes : ∀ p, p < n → ∀ k, k ≤ D → nd p = (k : Int) → tb p k ≠ -1) : ∀ (m p k : Nat), p + m = n → k ≤ D → (LL tb n p k ≠ -1 ↔ (∀ q, p ≤ q → q < n → nd q ≠ -1) ∧ sumN nd n - sumN nd p ≤ (k : Int))
  | 0, p, k, e, hk => by
    have : p = n := by omega
    subst this
    rw [LL_n]
    exact ⟨fun _ => ⟨fun q h1 h2 => absurd h2 (by omega), by omega⟩, fun _ => by decide⟩
  | m + 1, p, k, e, hk => by
    rw [LL_p (by omega)]
    have es : sumN nd (p + 1) = sumN nd p + nd p := rfl
    rcases FB_is (tb := tb) (n := n) (p := p) (k := k) with ⟨h1, h2⟩ | ⟨q, h1, h2, h3, _, _, _⟩
    · rw [if_pos h1]
      refine ⟨fun z => absurd rfl z, fun z => ?_⟩
      have n1 := z.1 p (by omega) (by omega)
      have n2 := hnd p (by omega)
      have n3 : 0 ≤ sumN nd n - sumN nd (p + 1) := by
        have := sumN_mono (f := fun q => if q < p + 1 then 0 else nd q) n (p + 1) (by omega) (fun q hq => by
          by_cases y : q < p + 1
          · rw [if_pos y]
            omega
          · rw [if_neg y]
            have := hnd q hq
            have := z.1 q (by omega) hq
            omega)
        have a1 : ∀ j, j ≤ p + 1 → sumN (fun q => if q < p + 1 then 0 else nd q) j = 0 := fun j => by
          induction j with
          | zero => exact fun _ => rfl
          | succ j ih =>
            intro hj
            show sumN (fun q => if q < p + 1 then 0 else nd q) j + (if j < p + 1 then 0 else nd j) = 0
            rw [ih (by omega), if_pos (by omega)]
            rfl
        have a2 : ∀ j, p + 1 ≤ j → sumN (fun q => if q < p + 1 then 0 else nd q) j = sumN nd j - sumN nd (p + 1) := fun j => by
          induction j with
          | zero => exact fun z => absurd z (by omega)
          | succ j ih =>
            intro hj
            show sumN (fun q => if q < p + 1 then 0 else nd q) j + (if j < p + 1 then 0 else nd j) = sumN nd j + nd j - sumN nd (p + 1)
            by_cases y : p + 1 ≤ j
            · rw [ih y, if_neg (by omega)]
              omega
            · have : j = p := by omega
              subst this
              rw [a1 j (by omega), if_pos (by omega)]
              omega
        rw [a1 (p + 1) (by omega), a2 n (by omega)] at this
        exact this
      obtain ⟨i, hi⟩ : ∃ i : Nat, nd p = (i : Int) := ⟨(nd p).toNat, by omega⟩
      have hik : i ≤ k := by omega
      have t1 := hyes p (by omega) i (by omega) hi
      have t2 := (LL_ok h hnd hno hyes m (p + 1) (k - i) (by omega) (by omega)).2 ⟨fun q y1 y2 => z.1 q (by omega) y2, by omega⟩
      have t3 := h2 i hik
      have b1 := h p (by omega) i (by omega)
      have b2 := LL_bd h m (p + 1) (k - i) (by omega) (by omega)
      unfold fF wF at t3
      rw [if_neg (by omega)] at t3
      omega
    · rw [if_neg (by omega), h1, Int.toNat_natCast]
      refine ⟨fun _ => ?_, fun _ => h3⟩
      unfold fF wF at h3
      split at h3
      · exact absurd rfl h3
      · have t2 := (LL_ok h hnd hno hyes m (p + 1) (k - q) (by omega) (by omega)).1 (by omega)
        have t3 : ¬ (nd p = -1 ∨ (q : Int) < nd p) := fun z => by
          have := hno p (by omega) q (by omega) z
          omega
        refine ⟨fun i y1 y2 => ?_, by omega⟩
        by_cases ei : i = p
        · rw [ei]
          omega
        · exact t2.1 i (by omega) y2
def far : Int := 1099511627776
def rl (x : Int) : Int := if x = -1 then far else x
/-- the shares -/
def bW (tb : Nat → Nat → Int) (n : Nat) : Nat → Nat → Nat → Nat → Nat
  | 0, _, _ => fun _ => 0
  | m + 1, p, k => fun q => if q = p then (FB tb n p k).toNat else bW tb n m (p + 1) (k - (FB tb n p k).toNat) q
theorem LL_go {tb : Nat → Nat → Int} {n p k : Nat} (hp : p < n) (h : LL tb n p k ≠ -1) : ∃ q : Nat, FB tb n p k = (q : Int) ∧ q ≤ k ∧ LL tb n p k = tb p q + LL tb n (p + 1) (k - q) ∧ tb p q ≠ -1 ∧ LL tb n (p + 1) (k - q) ≠ -1 := by
  rw [LL_p hp] at h ⊢
  rcases FB_is (tb := tb) (n := n) (p := p) (k := k) with ⟨h1, _⟩ | ⟨q, h1, h2, h3, _, _, _⟩
  · rw [if_pos h1] at h
    exact absurd rfl h
  · refine ⟨q, h1, h2, ?_⟩
    rw [if_neg (by omega), h1, Int.toNat_natCast]
    unfold fF wF at *
    split at h3
    · exact absurd rfl h3
    · rename_i z
      rw [if_neg z]
      exact ⟨rfl, fun y => z (Or.inr y), fun y => z (Or.inl y)⟩
theorem smF_cg {g : Nat → Nat → Int} {sh sh' : Nat → Nat} : ∀ (m k : Nat) (acc : Int), (∀ q, k ≤ q → q < k + m → g q (sh q) = g q (sh' q)) → smF g sh m k acc = smF g sh' m k acc
  | 0, _, _, _ => rfl
  | m + 1, k, acc, h => by
    show smF g sh m (k + 1) (acc + g k (sh k)) = smF g sh' m (k + 1) (acc + g k (sh' k))
    rw [h k (by omega) (by omega)]
    exact smF_cg m (k + 1) _ (fun q h1 h2 => h q (by omega) (by omega))
theorem bW_sum {tb g : Nat → Nat → Int} {n : Nat} (hg : ∀ p k, tb p k ≠ -1 → tb p k = g p k) : ∀ (m p k : Nat) (acc : Int), p + m = n → LL tb n p k ≠ -1 → smF g (bW tb n m p k) m p acc = acc + LL tb n p k
  | 0, p, k, acc, e, h => by
    have : p = n := by omega
    subst this
    rw [LL_n]
    show acc = acc + 0
    omega
  | m + 1, p, k, acc, e, h => by
    obtain ⟨q, h1, h2, h3, h4, h5⟩ := LL_go (by omega) h
    show smF g (bW tb n (m + 1) p k) m (p + 1) (acc + g p (bW tb n (m + 1) p k p)) = _
    have e1 : bW tb n (m + 1) p k p = q := by
      show (if p = p then (FB tb n p k).toNat else _) = q
      rw [if_pos rfl, h1, Int.toNat_natCast]
    rw [e1, smF_cg (sh' := bW tb n m (p + 1) (k - q)) m (p + 1) _ (fun i z1 z2 => ?_), bW_sum hg m (p + 1) (k - q) _ (by omega) h5, h3, hg p q h4]
    · omega
    · show g i (if i = p then (FB tb n p k).toNat else bW tb n m (p + 1) (k - (FB tb n p k).toNat) i) = _
      rw [if_neg (by omega), h1, Int.toNat_natCast]
theorem bW_le {tb : Nat → Nat → Int} {n : Nat} : ∀ (m p k : Nat), p + m = n → LL tb n p k ≠ -1 → ∀ q, p ≤ q → q < n → bW tb n m p k q ≤ k
  | 0, p, k, e, h, q, h1, h2 => absurd h2 (by omega)
  | m + 1, p, k, e, h, q, z1, z2 => by
    obtain ⟨i, h1, h2, h3, h4, h5⟩ := LL_go (by omega) h
    show (if q = p then (FB tb n p k).toNat else bW tb n m (p + 1) (k - (FB tb n p k).toNat) q) ≤ k
    rw [h1, Int.toNat_natCast]
    split
    · exact h2
    · have := bW_le (tb := tb) (n := n) m (p + 1) (k - i) (by omega) h5 q (by omega) z2
      omega
