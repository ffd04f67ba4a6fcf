/-! RUN: a make, a death -/
section MK
variable {C C' : aIF} {S S' : aS} {mm n c p : Nat} {d : Int}
theorem RPa_of (h : XR C S mm n c d) (hp : p < n) (h28 : S 28 p = 0) : RPa S p := by
  obtain ⟨a1, a2, a3, a4, a5, a6, a7⟩ := XR_at h hp
  obtain ⟨r1, r2, r3, r4, r5, r6, r7, r8, r9, r10, r11, r12⟩ := a3
  have r5' := r5 (by omega)
  have p1 := a4.1
  have p2 := a4.2.2.1
  exact ⟨r1, r2, ⟨h28, (r6 h28).1, (r6 h28).2⟩, ⟨r4.1, r4.2.1, r4.2.2.1, by omega⟩, ⟨r5'.1, r5'.2, by omega, by omega⟩, ⟨r11.1, r11.2.1⟩, ⟨r11.2.2.2.1, r11.2.2.2.2⟩, r12 (by omega)⟩
theorem XQ_make (h : XR C S mm n c d) (hp : p < n) (h28 : S 28 p = 0) {v : Int} (hv : 0 < v ∧ v ≤ 99) (hf : S 30 p + v ≤ holdF (S 13 p) (S 29 p)) {N : Nat} (h34 : S 34 p = (N : Int)) (kf : ∀ k i j, ¬ ((k = 30 ∧ i = p ∧ j = N % 60) ∨ (k = 29 ∧ i = p ∧ (j = 1 ∨ j = 2)) ∨ (k = 28 ∧ i = p ∧ j = 5)) → C' k i j = C k i j) (k30 : C' 30 p (N % 60) = v) (k1 : C' 29 p 1 = S 34 p + 1) (k2 : C' 29 p 2 = S 31 p + v) (k5 : C' 28 p 5 = S 30 p + v) (sf : ∀ f j, ¬ ((f = 44 ∧ j = 2400 * p + N) ∨ (j = p ∧ (f = 34 ∨ f = 31 ∨ f = 30))) → S' f j = S f j) (s44 : S' 44 (2400 * p + N) = v) (s34 : S' 34 p = S 34 p + 1) (s31 : S' 31 p = S 31 p + v) (s30 : S' 30 p = S 30 p + v) : XQ C' S' mm n c d p ∧ pru C' S' p ∧ RPa S' p ∧ fp C S C' S' p := by
  have ra := RPa_of h hp h28
  obtain ⟨o1, o2, o3, o4, o5, o6, o7, o8⟩ := ra
  have pb := pg_bd o4.1 o5.2.1 o5.2.2.1 o4.2.1 o5.1 o5.2.2.2
  have a2 := (h.2.2.2.1.2 p hp).1
  have hr4 := (h.2.2.2.1.2 p hp).2.2.2.2.1
  have hN : N < 2400 := by omega
  have ff : fp C S C' S' p := ⟨fun k i j z => kf k i j (by omega), fun j z => kf _ _ _ (by omega), ⟨fun q j z => ⟨kf _ _ _ (by omega), kf _ _ _ (by omega), kf _ _ _ (by omega)⟩, kf _ _ _ (by omega)⟩, fun f j z => sf f j (by omega), fun f q z z1 z2 => sf f q (by omega), fun j z => sf _ _ (by omega)⟩
  refine ⟨XQ_u (XQ_of p h) hp ff (fun k i j z1 z2 => kf k i j (by omega)) ⟨sf _ _ (by omega), sf _ _ (by omega), fun j => sf _ _ (by omega)⟩ ?_ ?_ ?_ h.2.2.2.2.2.2.1.2, ?_, ?_, ff⟩
  · rw [kf _ _ _ (by omega), sf _ _ (by omega)]
    exact h.2.2.2.2.1.2
  · rw [sf _ _ (by omega)]
    exact h.2.2.2.2.2.1
  · rw [sf _ _ (by omega), sf _ _ (by omega)]
  · obtain ⟨⟨b1, b2, b3, b4, b5, b6, b7, b8⟩, ⟨b9, b10, b11, b12, b13, b14, b15⟩, b16, b17, b18, b19⟩ := id a2
    refine ⟨⟨?_, ?_, ?_, ?_, ?_, ?_, ?_, ?_⟩, ⟨?_, ?_, ?_, ?_, ?_, ?_, ?_⟩, ?_, ?_, ?_, fun a z1 z2 z3 => ?_⟩
    · rw [kf 28 p 3 (by omega), sf 28 p (by omega)]; exact b1
    · rw [kf 28 p 4 (by omega), sf 29 p (by omega)]; exact b2
    · rw [k5, s30]
    · rw [k2, s31]
    · rw [kf 28 p 6 (by omega), sf 32 p (by omega)]; exact b5
    · rw [kf 28 p 7 (by omega), sf 33 p (by omega)]; exact b6
    · rw [k1, s34]
    · rw [kf 28 p 8 (by omega), sf 35 p (by omega)]; exact b8
    · rw [kf 28 p 9 (by omega), sf 36 p (by omega)]; exact b9
    · rw [kf 28 p 11 (by omega), sf 37 p (by omega)]; exact b10
    · rw [kf 28 p 10 (by omega), sf 38 p (by omega)]; exact b11
    · rw [kf 28 p 16 (by omega), sf 40 p (by omega)]; exact b12
    · rw [kf 28 p 15 (by omega), sf 41 p (by omega)]; exact b13
    · rw [kf 28 p 12 (by omega), sf 42 p (by omega)]; exact b14
    · rw [kf 28 p 13 (by omega), sf 43 p (by omega)]; exact b15
    · rw [kf 28 p 14 (by omega), sf 39 p (by omega), sf 43 p (by omega)]; exact b16
    · rw [sf 42 p (by omega)]; exact b17
    · rw [sf 43 p (by omega)]; exact b18
    rw [s34, h34] at z3 ⊢
    by_cases e : a = 1
    · subst e
      rw [show (((N : Int) + 1 - (1 : Nat)) % 60).toNat = N % 60 by omega, show (2400 * (p : Int) + ((N : Int) + 1 - (1 : Nat))).toNat = 2400 * p + N by omega, k30, s44]
    · have := b19 (a - 1) (by omega) (by omega) (by rw [h34]; omega)
      rw [h34, show (((N : Int) - ((a - 1 : Nat) : Int)) % 60).toNat = (((N : Int) + 1 - (a : Int)) % 60).toNat by omega, show (2400 * (p : Int) + ((N : Int) - ((a - 1 : Nat) : Int))).toNat = (2400 * (p : Int) + ((N : Int) + 1 - (a : Int))).toNat by omega] at this
      rw [kf 30 p _ (by omega), sf 44 _ (by omega)]
      exact this
  · unfold RPa
    rw [sf 28 p (by omega), sf 29 p (by omega), s30, s31, sf 32 p (by omega), sf 33 p (by omega), s34, sf 36 p (by omega), sf 37 p (by omega), sf 40 p (by omega), sf 43 p (by omega), sf 5 0 (by omega), sf 11 p (by omega), sf 13 p (by omega), sf 14 p (by omega)]
    refine ⟨o1, ⟨by omega, by omega, hf⟩, o3, ⟨by omega, by omega, by omega, by omega⟩, o5, o6, o7, ?_, fun j hj => ?_⟩
    · rw [h34, show ((N : Int) + 1).toNat = N + 1 by omega]
      show S 31 p + v = sumN (fun j => S' 44 (2400 * p + j)) N + S' 44 (2400 * p + N)
      rw [s44, sumN_cg (g := fun j => S 44 (2400 * p + j)) N (fun j hj => sf 44 _ (by omega)), o8.1, h34, Int.toNat_natCast]
    · by_cases e : j = N
      · rw [e, s44]
        omega
      · rw [sf 44 _ (by omega)]
        exact o8.2 j (by omega)
theorem XQ_die (h : XR C S mm n c d) (hp : p < n) (h28 : S 28 p = 0) {N b : Nat} (h34 : S 34 p = (N : Int)) (hb : 1 ≤ b ∧ b ≤ 59 ∧ b ≤ N) (kf : ∀ k i j, ¬ ((k = 30 ∧ i = p ∧ j = (N - b) % 60) ∨ (k = 29 ∧ i = p ∧ j = 2)) → C' k i j = C k i j) (k30 : C' 30 p ((N - b) % 60) = 0) (k2 : C' 29 p 2 = S 31 p - S 44 (2400 * p + (N - b))) (sf : ∀ f j, ¬ ((f = 44 ∧ j = 2400 * p + (N - b)) ∨ (j = p ∧ f = 31)) → S' f j = S f j) (s44 : S' 44 (2400 * p + (N - b)) = 0) (s31 : S' 31 p = S 31 p - S 44 (2400 * p + (N - b))) : XQ C' S' mm n c d p ∧ pru C' S' p ∧ RPa S' p ∧ fp C S C' S' p := by
  have ra := RPa_of h hp h28
  obtain ⟨o1, o2, o3, o4, o5, o6, o7, o8⟩ := ra
  have pb := pg_bd o4.1 o5.2.1 o5.2.2.1 o4.2.1 o5.1 o5.2.2.2
  have a2 := (h.2.2.2.1.2 p hp).1
  have hr4 := (h.2.2.2.1.2 p hp).2.2.2.2.1
  have hN : N < 2400 := by omega
  have ox := o8.2 (N - b) (by omega)
  have oy := sumN_one (f := fun j => S 44 (2400 * p + j)) (i := N - b) (n := (S 34 p).toNat) (by omega) (fun q hq => (o8.2 q (by omega)).1)
  have oz : (fun j => S 44 (2400 * p + j)) (N - b) = S 44 (2400 * p + (N - b)) := rfl
  have ff : fp C S C' S' p := ⟨fun k i j z => kf k i j (by omega), fun j z => kf _ _ _ (by omega), ⟨fun q j z => ⟨kf _ _ _ (by omega), kf _ _ _ (by omega), kf _ _ _ (by omega)⟩, kf _ _ _ (by omega)⟩, fun f j z => sf f j (by omega), fun f q z z1 z2 => sf f q (by omega), fun j z => sf _ _ (by omega)⟩
  refine ⟨XQ_u (XQ_of p h) hp ff (fun k i j z1 z2 => kf k i j (by omega)) ⟨sf _ _ (by omega), sf _ _ (by omega), fun j => sf _ _ (by omega)⟩ ?_ ?_ ?_ h.2.2.2.2.2.2.1.2, ?_, ?_, ff⟩
  · rw [kf _ _ _ (by omega), sf _ _ (by omega)]
    exact h.2.2.2.2.1.2
  · rw [sf _ _ (by omega)]
    exact h.2.2.2.2.2.1
  · rw [sf _ _ (by omega), sf _ _ (by omega)]
  · obtain ⟨⟨b1, b2, b3, b4, b5, b6, b7, b8⟩, ⟨b9, b10, b11, b12, b13, b14, b15⟩, b16, b17, b18, b19⟩ := id a2
    refine ⟨⟨?_, ?_, ?_, ?_, ?_, ?_, ?_, ?_⟩, ⟨?_, ?_, ?_, ?_, ?_, ?_, ?_⟩, ?_, ?_, ?_, fun a z1 z2 z3 => ?_⟩
    · rw [kf 28 p 3 (by omega), sf 28 p (by omega)]; exact b1
    · rw [kf 28 p 4 (by omega), sf 29 p (by omega)]; exact b2
    · rw [kf 28 p 5 (by omega), sf 30 p (by omega)]; exact b3
    · rw [k2, s31]
    · rw [kf 28 p 6 (by omega), sf 32 p (by omega)]; exact b5
    · rw [kf 28 p 7 (by omega), sf 33 p (by omega)]; exact b6
    · rw [kf 29 p 1 (by omega), sf 34 p (by omega)]; exact b7
    · rw [kf 28 p 8 (by omega), sf 35 p (by omega)]; exact b8
    · rw [kf 28 p 9 (by omega), sf 36 p (by omega)]; exact b9
    · rw [kf 28 p 11 (by omega), sf 37 p (by omega)]; exact b10
    · rw [kf 28 p 10 (by omega), sf 38 p (by omega)]; exact b11
    · rw [kf 28 p 16 (by omega), sf 40 p (by omega)]; exact b12
    · rw [kf 28 p 15 (by omega), sf 41 p (by omega)]; exact b13
    · rw [kf 28 p 12 (by omega), sf 42 p (by omega)]; exact b14
    · rw [kf 28 p 13 (by omega), sf 43 p (by omega)]; exact b15
    · rw [kf 28 p 14 (by omega), sf 39 p (by omega), sf 43 p (by omega)]; exact b16
    · rw [sf 42 p (by omega)]; exact b17
    · rw [sf 43 p (by omega)]; exact b18
    rw [sf 34 p (by omega), h34] at z3 ⊢
    by_cases e : a = b
    · subst e
      rw [show (((N : Int) - (a : Int)) % 60).toNat = (N - a) % 60 by omega, show (2400 * (p : Int) + ((N : Int) - (a : Int))).toNat = 2400 * p + (N - a) by omega, k30, s44]
    · have := b19 a (by omega) (by omega) (by rw [h34]; omega)
      rw [h34] at this
      rw [kf 30 p _ (by omega), sf 44 _ (by omega)]
      exact this
  · unfold RPa
    rw [sf 28 p (by omega), sf 29 p (by omega), sf 30 p (by omega), s31, sf 32 p (by omega), sf 33 p (by omega), sf 34 p (by omega), sf 36 p (by omega), sf 37 p (by omega), sf 40 p (by omega), sf 43 p (by omega), sf 5 0 (by omega), sf 11 p (by omega), sf 13 p (by omega), sf 14 p (by omega)]
    refine ⟨o1, ⟨by omega, by omega, by omega⟩, o3, o4, o5, o6, o7, ?_, fun j hj => ?_⟩
    · have e1 := sumN_uN (f := fun j => S 44 (2400 * p + j)) (i := N - b) (v := 0) (S 34 p).toNat (by omega)
      have e2 : sumN (uN (fun j => S 44 (2400 * p + j)) (N - b) 0) (S 34 p).toNat = sumN (fun j => S' 44 (2400 * p + j)) (S 34 p).toNat := sumN_cg _ (fun j hj => by
        by_cases e : j = N - b
        · rw [e, uN_s, s44]
        · rw [uN_n e, sf 44 _ (by omega)])
      rw [← e2, e1]
      have := o8.1
      omega
    · by_cases e : j = N - b
      · rw [e, s44]
        omega
      · rw [sf 44 _ (by omega)]
        exact o8.2 j hj
end MK
