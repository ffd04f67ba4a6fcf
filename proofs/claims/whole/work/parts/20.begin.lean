/-! begin -/
def bC (C : aIF) (q : Nat) (s : Int) : Prop :=
  (C 28 q 3 = 0 ∧ C 28 q 4 = s ∧ C 28 q 5 = 0 ∧ C 28 q 6 = 0 ∧ C 28 q 7 = 0 ∧ C 28 q 8 = 0 ∧ C 28 q 9 = 0) ∧ (C 28 q 10 = -1 ∧ C 28 q 11 = 0 ∧ C 28 q 12 = 0 ∧ C 28 q 13 = 0 ∧ C 28 q 14 = 0 ∧ C 28 q 15 = 0 ∧ C 28 q 16 = 0) ∧ C 29 q 1 = 0 ∧ C 29 q 2 = 0
theorem bC_cg {C C' : aIF} {q : Nat} {s : Int} (h8 : ∀ j, C' 28 q j = C 28 q j) (h9 : ∀ j, C' 29 q j = C 29 q j) (h : bC C q s) : bC C' q s := by
  unfold bC at *
  simp only [h8, h9]
  exact h
def bS (S : aS) (q : Nat) (s : Int) : Prop :=
  (S 28 q = 0 ∧ S 29 q = s ∧ S 30 q = 0 ∧ S 31 q = 0 ∧ S 32 q = 0 ∧ S 33 q = 0 ∧ S 34 q = 0 ∧ S 35 q = 0) ∧ (S 36 q = 0 ∧ S 37 q = 0 ∧ S 38 q = -1 ∧ S 39 q = 0 ∧ S 40 q = 0 ∧ S 41 q = 0 ∧ S 42 q = 0 ∧ S 43 q = 0)
theorem bS_cg {S S' : aS} {q : Nat} {s : Int} (h : ∀ f, 28 ≤ f → f ≤ 43 → S' f q = S f q) (k : bS S q s) : bS S' q s := by
  unfold bS at *
  rw [h 28 (by omega) (by omega), h 29 (by omega) (by omega), h 30 (by omega) (by omega), h 31 (by omega) (by omega), h 32 (by omega) (by omega), h 33 (by omega) (by omega), h 34 (by omega) (by omega), h 35 (by omega) (by omega), h 36 (by omega) (by omega), h 37 (by omega) (by omega), h 38 (by omega) (by omega), h 39 (by omega) (by omega), h 40 (by omega) (by omega), h 41 (by omega) (by omega), h 42 (by omega) (by omega), h 43 (by omega) (by omega)]
  exact k
section BG
variable {w : aW} {t : Nat} {S : aS}
theorem sX7_start_35 {mm n : Nat} {hw : Nat} {P : aIF → Prop} {st : Int} (hn : n ≤ 6) (hs : 1 ≤ st ∧ st ≤ 64) : ∀ (m p : Nat) (C : aIF), p + m = n → C 21 0 3 = (n : Int) → C 9 0 0 = st → (∀ q, q < n → 0 ≤ C 17 0 q ∧ C 17 0 q ≤ 64) → -100000 ≤ C 21 0 6 - 4096 * (m : Int) → C 21 0 6 ≤ 100000 →
    (∀ (C' : aIF), (∀ k i j, k ≠ 28 → k ≠ 29 → ¬ (k = 21 ∧ j = 6) → C' k i j = C k i j) → (∀ q, C' 28 q 1 = C 28 q 1) → (∀ q, p ≤ q → q < n → bC C' q (C 17 0 q * st)) → (∀ q, q < p → ∀ j, C' 28 q j = C 28 q j ∧ C' 29 q j = C 29 q j) → C' 21 0 6 = C 21 0 6 - (sumN (fun q => C 17 0 q * st) n - sumN (fun q => C 17 0 q * st) p) → P C') →
    kRunV w mX7_start 35 [some (aO 21 0), some (aI (hw : Int)), some (aO 17 0), some (aI (p : Int)), none] [] C S (rf mm) P
  | 0, p, C, e, h3, h9, h17, hb1, hb2, hP => by
    have : p = n := by omega
    subst this
    exact gX7_start_35 ⟨fun _ => hP C (fun _ _ _ _ _ _ => rfl) (fun _ => rfl) (fun q z1 z2 => absurd z2 (by omega)) (fun _ _ _ => ⟨rfl, rfl⟩) (by omega), fun q => absurd (by omega) q⟩
  | m + 1, p, C, e, h3, h9, h17, hb1, hb2, hP => by
    have s1 := h17 p (by omega)
    have m0 : 0 ≤ C 17 0 p * st := Int.mul_nonneg (by omega) (by omega)
    have m1 : C 17 0 p * st ≤ 64 * 64 := Int.mul_le_mul (by omega) (by omega) (by omega) (by omega)
    refine gX7_start_35 ⟨fun q => absurd q (by omega), fun _ => ⟨by omega, ?_⟩⟩
    rw [h9]
    refine ⟨by omega, gX2_start (by omega) (gX6_forget_r (by omega) ?_)⟩
    generalize hC4 : uI (uI (uI (uI (uI (uI (uI (uI (uI (uI (uI (uI (uI (uI (uI (uI C 29 p 1 0) 29 p 2 0) 28 p 3 0) 28 p 4 (C 17 0 p * st)) 28 p 5 0) 28 p 6 0) 28 p 7 0) 28 p 8 0) 28 p 9 0) 28 p 10 (-1)) 28 p 11 0) 28 p 12 0) 28 p 13 0) 28 p 14 0) 28 p 15 0) 28 p 16 0 = C4
    have f0 : ∀ k i j, k ≠ 28 → k ≠ 29 → C4 k i j = C k i j := fun k i j z1 z2 => by
      rw [← hC4]
      simp only [uI, z1, z2, false_and, if_false]
    have f1 : ∀ q, C4 28 q 1 = C 28 q 1 := fun q => by
      rw [← hC4]
      simp [uI]
    have f2 : bC C4 p (C 17 0 p * st) := by
      rw [← hC4]
      unfold bC
      simp [uI]
    have f3 : ∀ q, q ≠ p → ∀ j, C4 28 q j = C 28 q j ∧ C4 29 q j = C 29 q j := fun q z j => by
      rw [← hC4]
      simp [uI, z]
    rw [f0 21 _ _ (by omega) (by omega)]
    refine ⟨by omega, by omega, sX7_start_35 hn hs m (p + 1) _ (by omega) (by rw [uI_j rfl, f0 _ _ _ (by omega) (by omega)]; exact h3) (by rw [uI_k rfl, f0 _ _ _ (by omega) (by omega)]; exact h9) (fun q hq => by rw [uI_k rfl, f0 _ _ _ (by omega) (by omega)]; exact h17 q hq) (by rw [uI_s]; omega) (by rw [uI_s]; omega) (fun C' k4 k5 k6 k7 k8 => hP C' (fun k i j z1 z2 z3 => ?_) (fun q => ?_) (fun q z1 z2 => ?_) (fun q z j => ?_) ?_)⟩
    · rw [k4 k i j z1 z2 z3, uI_no (fun z => z3 ⟨z.1, z.2.2⟩), f0 k i j z1 z2]
    · rw [k5 q, uI_k rfl, f1 q]
    · by_cases eq : q = p
      · rw [eq]
        exact bC_cg (fun j => by rw [(k7 p (by omega) j).1, uI_k rfl]) (fun j => by rw [(k7 p (by omega) j).2, uI_k rfl]) f2
      · have := k6 q (by omega) z2
        rw [uI_k rfl, f0 _ _ _ (by omega) (by omega)] at this
        exact this
    · rw [(k7 q (by omega) j).1, (k7 q (by omega) j).2, uI_k rfl, uI_k rfl]
      exact f3 q (by omega) j
    · rw [k8, uI_s]
      have e1 : (fun q => uI C4 21 0 6 (C 21 0 6 - C 17 0 p * st) 17 0 q * st) = (fun q => C 17 0 q * st) := funext (fun q => by rw [uI_k rfl, f0 _ _ _ (by omega) (by omega)])
      rw [e1]
      show C 21 0 6 - C 17 0 p * st - (sumN (fun q => C 17 0 q * st) n - (sumN (fun q => C 17 0 q * st) p + C 17 0 p * st)) = _
      omega
theorem sX10_begin_64 {C : aIF} {mm n : Nat} {l1 : Int} {P : Int → aS → Prop} (hn : n ≤ 6) : ∀ (m p : Nat) (S : aS), p + m = n → S 23 0 = (n : Int) → (∀ q, q < n → 0 ≤ S 18 q ∧ S 18 q ≤ 4096) → -100000 ≤ S 25 0 - 4096 * (m : Int) → S 25 0 ≤ 100000 →
    (∀ S' : aS, (∀ f j, f ≠ 25 → (f < 28 ∨ 43 < f) → S' f j = S f j) → (∀ q, p ≤ q → q < n → bS S' q (S 18 q)) → (∀ q, q < p → ∀ f, 28 ≤ f → f ≤ 43 → S' f q = S f q) → S' 25 0 = S 25 0 - (sumN (fun q => S 18 q) n - sumN (fun q => S 18 q) p) → P 1 S') →
    rRunI w mX10_begin 64 [some (aO 40 0), some (aI l1), some (aI (p : Int))] [] C S (rf mm) P
  | 0, p, S, e, h3, h18, hb1, hb2, hP => by
    have : p = n := by omega
    subst this
    exact gX10_begin_64 ⟨fun _ => hP S (fun _ _ _ _ => rfl) (fun q z1 z2 => absurd z2 (by omega)) (fun _ _ _ _ _ => rfl) (by omega), fun q => absurd (by omega) q⟩
  | m + 1, p, S, e, h3, h18, hb1, hb2, hP => by
    have s1 := h18 p (by omega)
    refine gX10_begin_64 ⟨fun q => absurd q (by omega), fun _ => ⟨by omega, by omega, by omega, ?_⟩⟩
    generalize hS4 : sU (sU (sU (sU (sU (sU (sU (sU (sU (sU (sU (sU (sU (sU (sU (sU (sU S 28 p 0) 29 p (S 18 p)) 25 0 (S 25 0 - S 18 p)) 30 p 0) 31 p 0) 32 p 0) 33 p 0) 34 p 0) 35 p 0) 36 p 0) 37 p 0) 38 p (-1)) 39 p 0) 40 p 0) 41 p 0) 42 p 0) 43 p 0 = S4
    have f0 : ∀ f j, f ≠ 25 → (f < 28 ∨ 43 < f) → S4 f j = S f j := fun f j z1 z2 => by
      rw [← hS4]
      rw [sU_ne (by omega), sU_ne (by omega), sU_ne (by omega), sU_ne (by omega), sU_ne (by omega), sU_ne (by omega), sU_ne (by omega), sU_ne (by omega), sU_ne (by omega), sU_ne (by omega), sU_ne (by omega), sU_ne (by omega), sU_ne (by omega), sU_ne (by omega), sU_ne (by omega), sU_ne (by omega), sU_ne (by omega)]
    have f2 : bS S4 p (S 18 p) := by
      rw [← hS4]
      unfold bS
      simp [sU]
    have f3 : ∀ q, q ≠ p → ∀ f, 28 ≤ f → f ≤ 43 → S4 f q = S f q := fun q z f z1 z2 => by
      rw [← hS4]
      rw [sU_ne (by omega), sU_ne (by omega), sU_ne (by omega), sU_ne (by omega), sU_ne (by omega), sU_ne (by omega), sU_ne (by omega), sU_ne (by omega), sU_ne (by omega), sU_ne (by omega), sU_ne (by omega), sU_ne (by omega), sU_ne (by omega), sU_ne (by omega), sU_ne (by omega), sU_ne (by omega), sU_ne (by omega)]
    have f4 : S4 25 0 = S 25 0 - S 18 p := by
      rw [← hS4]
      simp [sU]
    refine sX10_begin_64 hn m (p + 1) S4 (by omega) (by rw [f0 _ _ (by omega) (by omega)]; exact h3) (fun q hq => by rw [f0 _ _ (by omega) (by omega)]; exact h18 q hq) (by omega) (by omega) (fun S' k1 k2 k3 k4 => hP S' (fun f j z1 z2 => by rw [k1 f j z1 z2, f0 f j z1 z2]) (fun q z1 z2 => ?_) (fun q z f z1 z2 => ?_) ?_)
    · by_cases eq : q = p
      · rw [eq]
        exact bS_cg (fun f z1 z2 => k3 p (by omega) f z1 z2) f2
      · have := k2 q (by omega) z2
        rw [f0 _ _ (by omega) (by omega)] at this
        exact this
    · rw [k3 q (by omega) f z1 z2]
      exact f3 q (by omega) f z1 z2
    · rw [k4, f4]
      have e1 : (fun q => S4 18 q) = (fun q => S 18 q) := funext (fun q => f0 _ _ (by omega) (by omega))
      rw [e1]
      show S 25 0 - S 18 p - (sumN (fun q => S 18 q) n - (sumN (fun q => S 18 q) p + S 18 p)) = _
      omega
theorem sumN_mul {f : Nat → Int} {c : Int} : ∀ n : Nat, sumN (fun q => f q * c) n = sumN f n * c
  | 0 => (Int.zero_mul c).symm
  | n + 1 => by
    show sumN (fun q => f q * c) n + f n * c = (sumN f n + f n) * c
    rw [sumN_mul n, Int.add_mul]
theorem opBegin {C : aIF} {mm : Nat} (h : Inv C S mm t) : opOK w mX9_begin mX10_begin [] C S mm t := by
  have h' := Inv_t (Nat.le_succ t) h
  have e0 : eF S (sU S 0 0 0) := fun f j z _ => sU_ne (fun y => z y.1)
  have hb := h.2.2.2.1.1
  refine gX9_begin (dl_both h' (fun x C2 d1 d2 hx hR => ⟨fun q => ?_, fun q => ⟨fun q2 => ?_, fun q2 => ?_⟩⟩))
  · exact gX10_begin (hR _ _ _ _ e0 (fun S1 e1 e2 e3 _ => ⟨fun _ => ⟨rfl, e2⟩, fun z => absurd (e3 q) z⟩))
  · have c105 : C2 1 0 5 = S 10 0 := by rw [d1 1 0 5 (by omega) (by omega) (by omega) (by omega)]; exact hb.1
    obtain ⟨n, hn⟩ : ∃ n : Nat, S 10 0 = (n : Int) := ⟨(S 10 0).toNat, by omega⟩
    have hn6 : n ≤ 6 := by omega
    have hn1 : 1 ≤ n := by omega
    have hx2 := hx q
    rw [hn, Int.toNat_natCast] at hx2
    rw [c105, hn]
    obtain ⟨r0, r1, r2, r3, r4⟩ := d2.2.1
    have hs := h.1.1
    have h6 := h.1.2.1
    obtain ⟨N, M, hN, hM, e6, e7, eN, eM, eD⟩ := tOK_N h.1
    refine gX7_start (gX4_forget ?_)
    generalize hC3 : uI (uI (uI (uI (uI C2 22 0 4 0) 21 0 4 1) 21 0 5 0) 21 0 3 (n : Int)) 21 0 6 (uI C2 22 0 4 0 9 0 1) = C3
    have f0 : ∀ k i j, k ≠ 21 → k ≠ 22 → C3 k i j = C2 k i j := fun k i j z1 z2 => by
      rw [← hC3]
      simp only [uI, z1, z2, false_and, if_false]
    have f1 : C3 21 0 4 = 1 ∧ C3 21 0 5 = 0 ∧ C3 21 0 3 = (n : Int) ∧ C3 21 0 6 = S 6 0 ∧ C3 22 0 4 = 0 := by
      rw [← hC3]
      simp [uI, r1]
    have e17 : (fun q => C3 17 0 q * S 5 0) = (fun q => C2 17 0 q * S 5 0) := funext (fun q => by rw [f0 _ _ _ (by omega) (by omega)])
    refine sX7_start_35 (n := n) (st := S 5 0) hn6 hs n 0 C3 (by omega) f1.2.2.1 (by rw [f0 _ _ _ (by omega) (by omega)]; exact r0) (fun q hq => by rw [f0 _ _ _ (by omega) (by omega)]; exact hx2.2 q (by omega)) (by omega) (by omega) (fun C4 k4 k5 k6 k7 k8 => ?_)
    rw [e17] at k8
    have g0 : ∀ k i j, k ≠ 21 → k ≠ 22 → k ≠ 28 → k ≠ 29 → C4 k i j = C2 k i j := fun k i j z1 z2 z3 z4 => by rw [k4 k i j z3 z4 (by omega), f0 k i j z1 z2]
    refine gX10_begin (hR C4 mm _ _ e0 (fun S1 e1 e2 e3 e4 => ⟨fun z => absurd (e4 q) (by omega), fun _ => ⟨fun _ => ?_, fun z => absurd (by rw [e1 10 0 (by omega) (by omega)] at z; omega) q2⟩⟩))
    have v17 := e4 q
    have v10 : S1 10 0 = (n : Int) := by rw [e1 10 0 (by omega) (by omega)]; exact hn
    have v5 : S1 5 0 = S 5 0 := e1 5 0 (by omega) (by omega)
    have v6 : S1 6 0 = S 6 0 := e1 6 0 (by omega) (by omega)
    obtain ⟨a, b, c, d, e, f, g, h9, i, i2⟩ := e2
    have hsh : ∀ q, q < n → C2 17 0 q * S 5 0 = S1 18 q ∧ 0 ≤ C2 17 0 q ∧ C2 17 0 q ≤ 64 := fun q hq => by
      have := f.2 v17 q (by omega) (by omega)
      rw [v5] at this
      exact this
    generalize hS2 : sU (sU (sU (sU (sU (sU S1 22 0 1) 23 0 (S1 10 0)) 24 0 0) 25 0 (S1 6 0)) 26 0 0) 27 0 0 = S2
    have u0 : ∀ f j, (f < 22 ∨ 27 < f) → S2 f j = S1 f j := fun f j z => by
      rw [← hS2, sU_ne (by omega), sU_ne (by omega), sU_ne (by omega), sU_ne (by omega), sU_ne (by omega), sU_ne (by omega)]
    have u1 : S2 22 0 = 1 ∧ S2 23 0 = (n : Int) ∧ S2 24 0 = 0 ∧ S2 25 0 = S 6 0 ∧ S2 26 0 = 0 ∧ S2 27 0 = 0 := by
      rw [← hS2]
      simp [sU, v10, v6]
    have e18 : sumN (fun q => S2 18 q) n = sumN (fun q => C2 17 0 q * S 5 0) n := sumN_cg n (fun q hq => by rw [u0 _ _ (by omega), (hsh q hq).1])
    refine sX10_begin_64 (n := n) hn6 n 0 S2 (by omega) u1.2.1 (fun q hq => ?_) (by omega) (by omega) (fun S3 w1 w2 w3 w4 => ⟨rfl, ?_⟩)
    · rw [u0 _ _ (by omega), ← (hsh q hq).1]
      have b1 := (hsh q hq).2
      exact ⟨Int.mul_nonneg b1.1 (by omega), Int.mul_le_mul b1.2 hs.2 (by omega) (by omega)⟩
    rw [e18] at w4
    have x0 : ∀ f j, (f < 22 ∨ 43 < f) → S3 f j = S1 f j := fun f j z => by rw [w1 f j (by omega) (by omega), u0 f j (by omega)]
    have x22 : S3 22 0 = 1 := by rw [w1 _ _ (by omega) (by omega)]; exact u1.1
    have x23 : S3 23 0 = (n : Int) := by rw [w1 _ _ (by omega) (by omega)]; exact u1.2.1
    have x24 : S3 24 0 = 0 := by rw [w1 _ _ (by omega) (by omega)]; exact u1.2.2.1
    have x26 : S3 26 0 = 0 := by rw [w1 _ _ (by omega) (by omega)]; exact u1.2.2.2.2.1
    have x27 : S3 27 0 = 0 := by rw [w1 _ _ (by omega) (by omega)]; exact u1.2.2.2.2.2
    have z0 : sumN (fun q => C2 17 0 q * S 5 0) 0 = 0 := rfl
    have z1 : sumN (fun q => S2 18 q) 0 = 0 := rfl
    have hpool : C4 21 0 6 = S3 25 0 := by rw [k8, w4, f1.2.2.2.1, u1.2.2.2.1, z0, z1]
    have hmul := sumN_mul (f := fun q => C2 17 0 q) (c := S 5 0) n
    have hpv : S3 25 0 = ((N : Int) - sumN (fun q => C2 17 0 q) n) * S 5 0 := by
      rw [w4, u1.2.2.2.1, z1, hmul, Int.sub_mul, ← e6]
      omega
    have hp0 : 0 ≤ S3 25 0 := by
      rw [w4, u1.2.2.2.1, z1, hmul]
      have := hx2.1
      omega
    have hroom : ∀ q, q < n → S3 29 q = C2 17 0 q * S 5 0 := fun q hq => by
      have := (w2 q (by omega) hq).1.2.1
      rw [this, u0 _ _ (by omega), (hsh q hq).1]
    refine ⟨tOK_cg (fun f y1 y2 => x0 f 0 (by omega)) a, tR_cg (fun _ => g0 _ _ _ (by omega) (by omega) (by omega) (by omega)) (fun f y1 y2 => x0 f 0 (by omega)) b, slR_cg (fun _ _ => g0 _ _ _ (by omega) (by omega) (by omega) (by omega)) (fun _ _ => g0 _ _ _ (by omega) (by omega) (by omega) (by omega)) (fun f j y1 y2 => x0 f j (by omega)) c, prR_cg (g0 _ _ _ (by omega) (by omega) (by omega) (by omega)) (fun _ _ _ => g0 _ _ _ (by omega) (by omega) (by omega) (by omega)) (fun _ _ => g0 _ _ _ (by omega) (by omega) (by omega) (by omega)) (x0 _ _ (by omega)) (fun f j y1 y2 => x0 f j (by omega)) d,
      tmR_cg (fun _ => g0 _ _ _ (by omega) (by omega) (by omega) (by omega)) (fun _ _ => g0 _ _ _ (by omega) (by omega) (by omega) (by omega)) (x0 _ _ (by omega)) (x0 _ _ (by omega)) (x0 _ _ (by omega)) (fun f j y1 y2 => x0 f j (by omega)) e, dlR_cg (g0 _ _ _ (by omega) (by omega) (by omega) (by omega)) (fun _ => g0 _ _ _ (by omega) (by omega) (by omega) (by omega)) (x0 _ _ (by omega)) (x0 _ _ (by omega)) (x0 _ _ (by omega)) (fun j => x0 _ _ (by omega)) f, ⟨⟨?_, Or.inr x22⟩, ⟨?_, by omega, by omega⟩, fun p hp => ?_, fun p hp hq => ?_⟩, ⟨⟨?_, by omega, by omega⟩, hpool, fun _ _ => 0, 0, Nat.zero_le _, x27, x26, ?_, fun i c y1 y2 y3 => absurd y3 (by omega), fun i c y1 y2 y3 => absurd y2 (by omega)⟩, fun _ => ⟨⟨?_, by omega, by omega⟩, ⟨hp0, ?_⟩, ?_, fun p hp => ?_⟩, i2⟩
    · rw [x22, k4 _ _ _ (by omega) (by omega) (by omega)]
      exact f1.1
    · rw [x23, k4 _ _ _ (by omega) (by omega) (by omega)]
      exact f1.2.2.1
    · rw [k5 p, f0 _ _ _ (by omega) (by omega)]
      exact g.2.2.1 p hp
    · have cc := k6 p (by omega) (by omega)
      rw [f0 _ _ _ (by omega) (by omega)] at cc
      have ss := w2 p (by omega) (by omega)
      rw [u0 _ _ (by omega), ← (hsh p (by omega)).1] at ss
      unfold bC at cc
      unfold bS at ss
      unfold pru
      refine ⟨by omega, by omega, fun _ => by omega, by omega, by omega, fun y y1 y2 y3 => absurd y3 (by omega)⟩
    · rw [x24, k4 _ _ _ (by omega) (by omega) (by omega)]
      exact f1.2.1
    · rw [k4 _ _ _ (by omega) (by omega) (by omega)]
      exact f1.2.2.2.2
    · rw [x23, x0 _ _ (by omega)]
      exact v10.symm
    · rw [hpv, x0 5 0 (by omega), v5]
      exact Int.dvd_mul_left _ _
    · rw [x23, Int.toNat_natCast, sumN_cg (g := fun q => C2 17 0 q * S 5 0) n hroom, w4, u1.2.2.2.1, z1, x0 6 0 (by omega), v6]
      omega
    · have ss := w2 p (by omega) (by omega)
      rw [u0 _ _ (by omega), ← (hsh p (by omega)).1] at ss
      have pp := d.2 p (by omega) (by omega)
      have p1 := pp.1
      have p2 := pp.2.2.1
      have m0 : 0 ≤ C2 17 0 p * S 5 0 := Int.mul_nonneg (hsh p (by omega)).2.1 (by omega)
      unfold bS at ss
      obtain ⟨⟨s1, s2, s3, s4, s5, s6, s7, s8⟩, s9, s10, s11, s12, s13, s14, s15, s16⟩ := ss
      have y11 : S3 11 p = S1 11 p := x0 _ _ (by omega)
      have y14 : S3 14 p = S1 14 p := x0 _ _ (by omega)
      have y5 : S3 5 0 = S 5 0 := by rw [x0 _ _ (by omega)]; exact v5
      unfold RP
      rw [s1, s2, s3, s4, s5, s6, s7, s9, s10, s13, s16, y11, y14, y5, Int.zero_mul]
      refine ⟨⟨m0, Int.dvd_mul_left _ _⟩, ⟨by omega, by omega, ?_⟩, by omega, by omega, fun _ => by omega, fun _ => by omega, fun y => absurd y (by omega), fun y => absurd y (by omega), fun y => absurd y (by omega), fun y => absurd y (by omega), by omega, fun _ => ⟨rfl, fun j hj => absurd hj (by omega)⟩⟩
      unfold holdF
      split <;> omega
  · have c105 : C2 1 0 5 = S 10 0 := by rw [d1 1 0 5 (by omega) (by omega) (by omega) (by omega)]; exact hb.1
    refine gX10_begin (hR _ _ _ _ e0 (fun S1 e1 e2 e3 e4 => ⟨fun _ => ⟨rfl, e2⟩, fun _ => ⟨fun z => absurd (by rw [e1 10 0 (by omega) (by omega)]; omega) z, fun _ => ⟨rfl, e2⟩⟩⟩))
end BG
