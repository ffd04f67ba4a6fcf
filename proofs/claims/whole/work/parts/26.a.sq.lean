/-! RUN: the squeeze of sleepers -/
theorem lgS_cg {A B : aS} {b u a : Int} {f j : Nat} (h24 : A 24 0 = B 24 0) (h26 : A 26 0 = B 26 0) (h27 : A 27 0 = B 27 0) (h45 : ∀ j, A 45 j = B 45 j) (hf : A f j = B f j) : lgS A b u a f j = lgS B b u a f j := by
  unfold lgS nl nlB
  simp only [h24, h26, h27, h45, hf]
section SQ
variable {w : aW} {S0 : aS} {C C' : aIF} {S S' : aS} {mm n c p : Nat} {d : Int}
theorem XR_sq (h : XR C S mm n c d) (hp : p < n) (h28 : S 28 p = 2) (kf : ∀ k i j, ¬ (k = 28 ∧ i = p ∧ (j = 13 ∨ j = 14)) → C' k i j = C k i j) (k13 : C' 28 p 13 = 1) (k14 : C' 28 p 14 = S 29 p) (sf : ∀ f j, ¬ (j = p ∧ (f = 39 ∨ f = 43)) → S' f j = S f j) (s43 : S' 43 p = 1) (s39 : S' 39 p = S 29 p) : XR C' S' mm n c d ∧ fp C S C' S' p := by
  obtain ⟨a1, a2, a3, a4, a5, a6, a7⟩ := XR_at h hp
  have hr := XR_rm h hp
  have ff : fp C S C' S' p := ⟨fun k i j z => kf k i j (by omega), fun j z => kf _ _ _ (by omega), ⟨fun q j z => ⟨kf _ _ _ (by omega), kf _ _ _ (by omega), kf _ _ _ (by omega)⟩, kf _ _ _ (by omega)⟩, fun f j z => sf f j (by omega), fun f q z z1 z2 => sf f q (by omega), fun j z => sf _ _ (by omega)⟩
  refine ⟨XR_of (XQ_u (XQ_of p h) hp ff (fun k i j z1 z2 => kf k i j (by omega)) ⟨sf _ _ (by omega), sf _ _ (by omega), fun j => sf _ _ (by omega)⟩ ?_ ?_ ?_ h.2.2.2.2.2.2.1.2) ?_ ?_, ff⟩
  · rw [kf _ _ _ (by omega), sf _ _ (by omega)]
    exact h.2.2.2.2.1.2
  · rw [sf _ _ (by omega)]
    exact h.2.2.2.2.2.1
  · rw [sf _ _ (by omega), sf _ _ (by omega)]
  · obtain ⟨⟨b1, b2, b3, b4, b5, b6, b7, b8⟩, ⟨b9, b10, b11, b12, b13, b14, b15⟩, b16, b17, b18, b19⟩ := id a2
    refine ⟨⟨?_, ?_, ?_, ?_, ?_, ?_, ?_, ?_⟩, ⟨?_, ?_, ?_, ?_, ?_, ?_, ?_⟩, ?_, ?_, ?_, pru_ring a2 (fun j => kf 30 p j (by omega)) (sf 34 p (by omega)) (fun j => sf 44 j (by omega))⟩
    · rw [kf 28 p 3 (by omega), sf 28 p (by omega)]; exact b1
    · rw [kf 28 p 4 (by omega), sf 29 p (by omega)]; exact b2
    · rw [kf 28 p 5 (by omega), sf 30 p (by omega)]; exact b3
    · rw [kf 29 p 2 (by omega), sf 31 p (by omega)]; exact b4
    · rw [kf 28 p 6 (by omega), sf 32 p (by omega)]; exact b5
    · rw [kf 28 p 7 (by omega), sf 33 p (by omega)]; exact b6
    · rw [kf 29 p 1 (by omega), sf 34 p (by omega)]; exact b7
    · rw [kf 28 p 8 (by omega), sf 35 p (by omega)]; exact b8
    · rw [kf 28 p 9 (by omega), sf 36 p (by omega)]; exact b9
    · rw [kf 28 p 11 (by omega), sf 37 p (by omega)]; exact b10
    · rw [kf 28 p 10 (by omega), sf 38 p (by omega)]; exact b11
    · rw [kf 28 p 16 (by omega), sf 40 p (by omega)]; exact b12
    · rw [kf 28 p 15 (by omega), sf 41 p (by omega)]; exact b13
    · rw [kf 28 p 12 (by omega), sf 42 p (by omega)]; exact b14
    · rw [k13, s43]
    · rw [k14, s39]; exact fun _ => rfl
    · rw [sf 42 p (by omega)]; exact b17
    · rw [s43]; exact Or.inr rfl
  · obtain ⟨r1, r2, r3, r4, r5, r6, r7, r8, r9, r10, r11, r12⟩ := a3
    unfold RP
    rw [sf 28 p (by omega), sf 29 p (by omega), sf 30 p (by omega), sf 31 p (by omega), sf 32 p (by omega), sf 33 p (by omega), sf 34 p (by omega), sf 36 p (by omega), sf 37 p (by omega), s39, sf 40 p (by omega), s43, sf 5 0 (by omega), sf 6 0 (by omega), sf 11 p (by omega), sf 13 p (by omega), sf 14 p (by omega)]
    have e44 : ∀ j, S' 44 j = S 44 j := fun j => sf 44 j (by omega)
    simp only [e44]
    exact ⟨r1, r2, r3, r4, r5, fun z => absurd z (by omega), fun z => absurd z (by omega), r8, fun z => absurd z (by omega), fun _ => ⟨Int.le_refl _, r1.2, hr.2.1⟩, r11, r12⟩
/-- costs since the redeal are forgotten -/
theorem XR_since (h : XR C S mm n c d) (hp : p < n) (kf : ∀ k i j, ¬ (k = 28 ∧ i = p ∧ j = 9) → C' k i j = C k i j) (kv : C' 28 p 9 = 0) (sf : ∀ f j, ¬ (j = p ∧ f = 36) → S' f j = S f j) (sv : S' 36 p = 0) : XR C' S' mm n c d ∧ fp C S C' S' p := by
  obtain ⟨a1, a2, a3, a4, a5, a6, a7⟩ := XR_at h hp
  have ff : fp C S C' S' p := ⟨fun k i j z => kf k i j (by omega), fun j z => kf _ _ _ (by omega), ⟨fun q j z => ⟨kf _ _ _ (by omega), kf _ _ _ (by omega), kf _ _ _ (by omega)⟩, kf _ _ _ (by omega)⟩, fun f j z => sf f j (by omega), fun f q z z1 z2 => sf f q (by omega), fun j z => sf _ _ (by omega)⟩
  refine ⟨XR_of (XQ_u (XQ_of p h) hp ff (fun k i j z1 z2 => kf k i j (by omega)) ⟨sf _ _ (by omega), sf _ _ (by omega), fun j => sf _ _ (by omega)⟩ ?_ ?_ ?_ h.2.2.2.2.2.2.1.2) ?_ ?_, ff⟩
  · rw [kf _ _ _ (by omega), sf _ _ (by omega)]
    exact h.2.2.2.2.1.2
  · rw [sf _ _ (by omega)]
    exact h.2.2.2.2.2.1
  · rw [sf _ _ (by omega), sf _ _ (by omega)]
  · obtain ⟨⟨b1, b2, b3, b4, b5, b6, b7, b8⟩, ⟨b9, b10, b11, b12, b13, b14, b15⟩, b16, b17, b18, b19⟩ := id a2
    refine ⟨⟨?_, ?_, ?_, ?_, ?_, ?_, ?_, ?_⟩, ⟨?_, ?_, ?_, ?_, ?_, ?_, ?_⟩, ?_, ?_, ?_, pru_ring a2 (fun j => kf 30 p j (by omega)) (sf 34 p (by omega)) (fun j => sf 44 j (by omega))⟩
    · rw [kf 28 p 3 (by omega), sf 28 p (by omega)]; exact b1
    · rw [kf 28 p 4 (by omega), sf 29 p (by omega)]; exact b2
    · rw [kf 28 p 5 (by omega), sf 30 p (by omega)]; exact b3
    · rw [kf 29 p 2 (by omega), sf 31 p (by omega)]; exact b4
    · rw [kf 28 p 6 (by omega), sf 32 p (by omega)]; exact b5
    · rw [kf 28 p 7 (by omega), sf 33 p (by omega)]; exact b6
    · rw [kf 29 p 1 (by omega), sf 34 p (by omega)]; exact b7
    · rw [kf 28 p 8 (by omega), sf 35 p (by omega)]; exact b8
    · rw [kv, sv]
    · rw [kf 28 p 11 (by omega), sf 37 p (by omega)]; exact b10
    · rw [kf 28 p 10 (by omega), sf 38 p (by omega)]; exact b11
    · rw [kf 28 p 16 (by omega), sf 40 p (by omega)]; exact b12
    · rw [kf 28 p 15 (by omega), sf 41 p (by omega)]; exact b13
    · rw [kf 28 p 12 (by omega), sf 42 p (by omega)]; exact b14
    · rw [kf 28 p 13 (by omega), sf 43 p (by omega)]; exact b15
    · rw [kf 28 p 14 (by omega), sf 39 p (by omega), sf 43 p (by omega)]; exact b16
    · rw [sf 42 p (by omega)]; exact b17
    · rw [sf 43 p (by omega)]; exact b18
  · obtain ⟨r1, r2, r3, r4, r5, r6, r7, r8, r9, r10, r11, r12⟩ := a3
    unfold RP
    rw [sf 28 p (by omega), sf 29 p (by omega), sf 30 p (by omega), sf 31 p (by omega), sf 32 p (by omega), sf 33 p (by omega), sf 34 p (by omega), sv, sf 37 p (by omega), sf 39 p (by omega), sf 40 p (by omega), sf 43 p (by omega), sf 5 0 (by omega), sf 6 0 (by omega), sf 11 p (by omega), sf 13 p (by omega), sf 14 p (by omega)]
    have e44 : ∀ j, S' 44 j = S 44 j := fun j => sf 44 j (by omega)
    simp only [e44]
    exact ⟨r1, r2, r3, r4, r5, r6, r7, r8, r9, r10, ⟨by omega, by omega, fun _ => by omega, r11.2.2.2.1, r11.2.2.2.2⟩, r12⟩
theorem p_sqTail {T : aS} {P : aIF → Prop} (h : XR C S mm n c 0) (hp : p < n) (h28 : S 28 p = 2) (hul : S 30 p ≤ S 31 p) (tf : ∀ f j, ¬ (j = p ∧ (f = 39 ∨ f = 43)) → T f j = S f j) (t43 : T 43 p = 1) (t39 : T 39 p = S 29 p) (hc : c + 1 ≤ 2000000000)
    (k : ∀ (C' : aIF) (S' : aS), (∀ (C0 : aIF) (Q : aS → Prop), Q S' → rMetI w mX10_spare [aO 40 0, aI (p : Int)] C0 T (rf mm) (fun x3 S4 => (-2147483648 ≤ S4 29 p - x3 ∧ S4 29 p - x3 < 2147483648) ∧ ((-2147483648 ≤ S4 25 0 + x3 ∧ S4 25 0 + x3 < 2147483648) ∧ rMetV w mX10_tells [aO 40 0, aI (p : Int), aI 4, aI x3] C0 (sU (sU S4 29 p (S4 29 p - x3)) 25 0 (S4 25 0 + x3)) (rf mm) Q))) → XR C' S' mm n (c + 1) 0 → fp C S C' S' p → P C') :
    kMetI w mX2_spare [aO 28 p, aO 9 0] C S0 (rf mm) (fun x1 C2 => (-2147483648 ≤ C2 28 p 4 - x1 ∧ C2 28 p 4 - x1 < 2147483648) ∧ ((-2147483648 ≤ C2 21 0 6 + x1 ∧ C2 21 0 6 + x1 < 2147483648) ∧ (kMetV w mX4_add [aO 22 0, aI (C2 21 0 5), aI (C2 28 p 1), aI 4, aI x1] (uI (uI (uI (uI C2 28 p 13 1) 28 p 14 (C2 28 p 4)) 28 p 4 (C2 28 p 4 - x1)) 21 0 6 (C2 21 0 6 + x1)) S0 (rf mm) (fun C7 => P C7)))) := by
  obtain ⟨a1, a2, a3, a4, a5, a6, a7⟩ := XR_at h hp
  obtain ⟨s1, s2, s3, s4, s5⟩ := spF_is h hp
  have hr := XR_rm h hp
  have c4 := a2.1.2.1
  have h5 := h.2.2.2.2.1
  have hp0 := h.2.2.2.2.2.1
  have hnum := h.2.2.2.1.1 p a1.1
  have hb := lgX_b h.2.2.2.2.2.2.2 (show c ≤ 2000000000 by omega)
  obtain ⟨q1, q2⟩ := XR_sq (C' := uI (uI C 28 p 13 1) 28 p 14 (S 29 p)) (S' := T) h hp h28 (fun k i j z => by rw [uI_no (by omega), uI_no (by omega)]) (by rw [uI_j rfl, uI_s]) uI_s tf t43 t39
  have tsp : spF T p = spF S p := spF_cg (tf _ _ (by omega)) (tf _ _ (by omega)) (tf _ _ (by omega)) (tf _ _ (by omega)) (tf _ _ (by omega)) (tf _ _ (by omega))
  have t29 : T 29 p = S 29 p := tf _ _ (by omega)
  have t25 : T 25 0 = S 25 0 := tf _ _ (by omega)
  have t30 : T 30 p = S 30 p := tf _ _ (by omega)
  have t13 : T 13 p = S 13 p := tf _ _ (by omega)
  have t28 : T 28 p = S 28 p := tf _ _ (by omega)
  have t5 : T 5 0 = S 5 0 := tf _ _ (by omega)
  have t24 : T 24 0 = S 24 0 := tf _ _ (by omega)
  have hold : S 30 p ≤ holdF (S 13 p) (S 29 p - spF S p) := by
    by_cases y : spF S p = 0
    · rw [y, Int.sub_zero]
      exact a3.2.1.2.2
    · rw [show S 30 p = S 31 p by omega]
      exact s4 _ (Int.le_refl _) (by omega)
  obtain ⟨x1, x2⟩ := XR_room (C' := uI (uI (uI C 28 p 13 1) 28 p 14 (S 29 p)) 28 p 4 (S 29 p - spF S p)) (S' := sU T 29 p (S 29 p - spF S p)) (r := S 29 p - spF S p) q1 hp (fun k i j z => uI_no z) uI_s (fun f j z => sU_ne z) sU_s (by omega) (by rw [t5]; exact Int.dvd_sub a3.1.2 s3) (by rw [t30, t13]; exact hold) (by omega) (fun _ => by omega) (by omega)
  have z1 := XR_pool (C' := uI (uI (uI (uI C 28 p 13 1) 28 p 14 (S 29 p)) 28 p 4 (S 29 p - spF S p)) 21 0 6 (S 25 0 + spF S p)) (S' := sU (sU T 29 p (S 29 p - spF S p)) 25 0 (S 25 0 + spF S p)) (v := S 25 0 + spF S p) x1 (fun k i j z => uI_no z) uI_s (fun f j z => sU_ne z) sU_s (by omega) (by rw [sU_f rfl, t5]; exact Int.dvd_add hp0.2 s3) (by rw [sU_f rfl]; omega)
  have z2 : fp C S (uI (uI (uI (uI C 28 p 13 1) 28 p 14 (S 29 p)) 28 p 4 (S 29 p - spF S p)) 21 0 6 (S 25 0 + spF S p)) (sU (sU T 29 p (S 29 p - spF S p)) 25 0 (S 25 0 + spF S p)) p := fp_trans q2 (fp_trans x2 ⟨fun k i j z => uI_no (by omega), fun j z => uI_no (by omega), ⟨fun q j z => ⟨uI_k rfl, uI_k rfl, uI_k rfl⟩, uI_k rfl⟩, fun f j z => sU_ne (by omega), fun f q z z1 z2 => sU_ne (by omega), fun j z => sU_f rfl⟩)
  rw [show (0 : Int) + (T 29 p - (S 29 p - spF S p)) + (sU T 29 p (S 29 p - spF S p) 25 0 - (S 25 0 + spF S p)) = 0 by rw [sU_f rfl]; omega] at z1
  have e24 : sU (sU T 29 p (S 29 p - spF S p)) 25 0 (S 25 0 + spF S p) 24 0 = S 24 0 := by rw [sU_f rfl, sU_f rfl, t24]
  refine sX2_spare h hp ?_
  rw [c4, h5.1, h5.2, hnum]
  refine ⟨by omega, by omega, sX4_add (by rw [uI_k rfl, uI_k rfl, uI_k rfl, uI_k rfl]; exact hb.1) ?_⟩
  refine k _ (lgS (sU (sU T 29 p (S 29 p - spF S p)) 25 0 (S 25 0 + spF S p)) (p : Int) 4 (spF S p)) (fun C0 Q hQ => sX10_spare q1 hp ?_) (XR_log z1 hp e24.symm) (fp_log z2)
  rw [tsp, t29, t25]
  refine ⟨by omega, by omega, sX10_tells ?_ ?_ hQ⟩
  · rw [sU_f rfl, sU_f rfl, tf _ _ (by omega)]
    exact hb.2.1
  · rw [sU_f rfl, sU_f rfl, tf _ _ (by omega)]
    exact hb.2.2
abbrev sqR (w : aW) (mm : Nat) (C0 : aIF) (S : aS) (p : Nat) (Q : aS → Prop) : Prop := (((S 30 p) ≤ (S 31 p)) → rMetI w mX10_spare [aO 40 0, aI ((p : Int))] C0 (sU (sU S 43 p 1) 39 p ((S 29 p))) (rf mm) (fun x3 S4 => (-2147483648 ≤ ((S4 29 p) - x3) ∧ ((S4 29 p) - x3) < 2147483648) ∧ ((-2147483648 ≤ ((S4 25 0) + x3) ∧ ((S4 25 0) + x3) < 2147483648) ∧ (rMetV w mX10_tells [aO 40 0, aI ((p : Int)), aI 4, aI x3] C0 (sU (sU S4 29 p (((S4 29 p) - x3))) 25 0 (((S4 25 0) + x3))) (rf mm) Q)))) ∧ ((¬ ((S 30 p) ≤ (S 31 p))) → rMetI w mX10_collects [aO 40 0, aI ((p : Int))] C0 (sU (sU S 43 p 1) 39 p ((S 29 p))) (rf mm) (fun x12 S13 => rMetI w mX10_spare [aO 40 0, aI ((p : Int))] C0 S13 (rf mm) (fun x15 S16 => (-2147483648 ≤ ((S16 29 p) - x15) ∧ ((S16 29 p) - x15) < 2147483648) ∧ ((-2147483648 ≤ ((S16 25 0) + x15) ∧ ((S16 25 0) + x15) < 2147483648) ∧ (rMetV w mX10_tells [aO 40 0, aI ((p : Int)), aI 4, aI x15] C0 (sU (sU S16 29 p (((S16 29 p) - x15))) 25 0 (((S16 25 0) + x15))) (rf mm) Q)))))
theorem p_squeeze {P : aIF → Prop} (h : XR C S mm n c 0) (hp : p < n) (h28 : S 28 p = 2) (hc : c + 2 ≤ 2000000000) (k : ∀ (C' : aIF) (S' : aS), (∀ (C0 : aIF) (Q : aS → Prop), Q S' → sqR w mm C0 S p Q) → XR C' S' mm n (c + 2) 0 → fp C S C' S' p → P C') : kMetV w mX7_squeeze [aO 21 0, aO 28 p] C S0 (rf mm) P := by
  obtain ⟨a1, a2, a3, a4, a5, a6, a7⟩ := XR_at h hp
  have c5 := a2.1.2.2.1
  have c2 := a2.1.2.2.2.1
  refine gX7_squeeze a1.1 ?_
  rw [c5, c2]
  refine ⟨fun z => ?_, fun z => ?_⟩
  · exact p_sqTail (T := sU (sU S 43 p 1) 39 p (S 29 p)) h hp h28 z (fun f j y => by rw [sU_ne (by omega), sU_ne (by omega)]) (by rw [sU_f rfl, sU_s]) sU_s (by omega) (fun C' S' r1 r2 r3 => k C' S' (fun C0 Q hQ => ⟨fun _ => r1 C0 Q hQ, fun y => absurd z y⟩) (XR_up (by omega) r2) r3)
  · obtain ⟨q1, q2⟩ := XR_sq (C' := uI (uI C 28 p 13 1) 28 p 14 (S 29 p)) (S' := sU (sU S 43 p 1) 39 p (S 29 p)) h hp h28 (fun k i j z => by rw [uI_no (by omega), uI_no (by omega)]) (by rw [uI_j rfl, uI_s]) uI_s (fun f j y => by rw [sU_ne (by omega), sU_ne (by omega)]) (by rw [sU_f rfl, sU_s]) sU_s
    obtain ⟨y1, y2, y3, y4, y5, y6, y7⟩ := XR_col (C' := coC C S p (costF (S 13 p) (S 31 p) (S 30 p))) (S' := coS S p (costF (S 13 p) (S 31 p) (S 30 p))) h hp (by omega) rfl rfl rfl
    have t28 := y5 28 (by omega) (by omega) (by omega) (by omega) (by omega) (by omega)
    have t31 := y5 31 (by omega) (by omega) (by omega) (by omega) (by omega) (by omega)
    have t29 := y5 29 (by omega) (by omega) (by omega) (by omega) (by omega) (by omega)
    have e13 : sU (sU S 43 p 1) 39 p (S 29 p) 13 p = S 13 p := by rw [sU_f rfl, sU_f rfl]
    have e31 : sU (sU S 43 p 1) 39 p (S 29 p) 31 p = S 31 p := by rw [sU_f rfl, sU_f rfl]
    have e30 : sU (sU S 43 p 1) 39 p (S 29 p) 30 p = S 30 p := by rw [sU_f rfl, sU_f rfl]
    have e35 : sU (sU S 43 p 1) 39 p (S 29 p) 35 p = S 35 p := by rw [sU_f rfl, sU_f rfl]
    have e36 : sU (sU S 43 p 1) 39 p (S 29 p) 36 p = S 36 p := by rw [sU_f rfl, sU_f rfl]
    refine p_collect h hp (by omega) ?_
    generalize hX : costF (S 13 p) (S 31 p) (S 30 p) = x at *
    refine p_sqTail (T := coS (sU (sU S 43 p 1) 39 p (S 29 p)) p x) y1 hp (by rw [t28]; exact h28) (by rw [y4, t31]; exact Int.le_refl _) (fun f j y => ?_) ?_ ?_ (by omega) (fun C' S' r1 r2 r3 => k C' S' (fun C0 Q hQ => ⟨fun y => absurd y z, fun _ => sX10_collects q1 hp (by omega) ?_⟩) r2 (fp_trans y2 r3))
    · unfold coS
      rw [e31, e35, e36]
      refine lgS_cg ?_ ?_ ?_ (fun j => ?_) ?_
      · rw [sU_f rfl, sU_f rfl, sU_f rfl, sU_f rfl, sU_f rfl, sU_f rfl, sU_f rfl, sU_f rfl]
      · rw [sU_f rfl, sU_f rfl, sU_f rfl, sU_f rfl, sU_f rfl, sU_f rfl, sU_f rfl, sU_f rfl]
      · rw [sU_f rfl, sU_f rfl, sU_f rfl, sU_f rfl, sU_f rfl, sU_f rfl, sU_f rfl, sU_f rfl]
      · rw [sU_f rfl, sU_f rfl, sU_f rfl, sU_f rfl, sU_f rfl, sU_f rfl, sU_f rfl, sU_f rfl]
      · by_cases z1 : f = 30 ∧ j = p
        · obtain ⟨rfl, rfl⟩ := z1
          rw [sU_s, sU_s]
        · rw [sU_ne z1, sU_ne z1]
          by_cases z2 : f = 36 ∧ j = p
          · obtain ⟨rfl, rfl⟩ := z2
            rw [sU_s, sU_s]
          · rw [sU_ne z2, sU_ne z2]
            by_cases z3 : f = 35 ∧ j = p
            · obtain ⟨rfl, rfl⟩ := z3
              rw [sU_s, sU_s]
            · rw [sU_ne z3, sU_ne z3, sU_ne (by omega), sU_ne (by omega)]
    · unfold coS
      rw [lgS_o (by omega), sU_f rfl, sU_f rfl, sU_f rfl, sU_f rfl, sU_s]
    · unfold coS
      rw [lgS_o (by omega), sU_f rfl, sU_f rfl, sU_f rfl, sU_s]
      exact t29.symm
    · rw [e13, e31, e30, hX]
      exact r1 C0 Q hQ
end SQ
