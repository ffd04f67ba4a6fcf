/-! RUN: a tick, the run -/
section TK
variable {w : aW} {S0 : aS} {mm n : Nat}
theorem p_tick_12 {P : aIF → Prop} : ∀ (m l c : Nat) (C : aIF) (S : aS), l + m = n → XR C S mm n c 0 → 0 ≤ S 24 0 → c + 150 * m + 39 ≤ 2000000000 →
    (∀ (C' : aIF) (S' : aS), (∀ (C0 : aIF) (Q : aS → Prop), Q S' → rRunV w mX10_ticks 12 [some (aO 40 0), some (aI (l : Int))] [] C0 S (rf mm) Q) → XR C' S' mm n (c + 150 * m + 39) 0 → tkF C S C' S' → P C') →
    kRunV w mX7_tick 12 [some (aO 21 0), some (aI (l : Int)), none] [] C S0 (rf mm) P
  | 0, l, c, C, S, e, h, h24, hc, k => by
    have hn := h.2.2.1
    have hn6 := h.2.1
    have h5 := h.2.2.2.2.1
    have hc9 := h.1.2.1
    have h8 := h.1.1.2.2.2.2.2.2.1
    refine gX7_tick_12 ⟨fun _ => ?_, fun z => absurd (by omega) z⟩
    rw [h5.1, hc9.2.2.2.1]
    refine ⟨⟨h24, by omega⟩, fun z => ?_, fun z => ?_⟩
    · exact k C S (fun C0 Q hQ => gX10_ticks_12 ⟨fun _ => ⟨⟨h24, by omega⟩, fun _ => hQ, fun y => absurd y z⟩, fun y => absurd (by omega) y⟩) (XR_up (by omega) h) tkF_refl
    · exact gX7_redeal (p_redeal_2 n 0 c C S (by omega) h (by omega) (fun C' S' r1 r2 r3 => k C' S' (fun C0 Q hQ => gX10_ticks_12 ⟨fun _ => ⟨⟨h24, by omega⟩, fun y => absurd z y, fun _ => gX10_redeals (r1 C0 Q hQ)⟩, fun y => absurd (by omega) y⟩) (XR_up (by omega) r2) r3))
  | m + 1, l, c, C, S, e, h, h24, hc, k => by
    have hn := h.2.2.1
    have hn6 := h.2.1
    have hl : l < n := by omega
    obtain ⟨a1, a2, a3, a4, a5, a6, a7⟩ := XR_at h hl
    have c3 := a2.1.1
    have h28 := a3.2.2.1
    have next : ∀ (C' : aIF) (S' : aS), (∀ (C0 : aIF) (Q : aS → Prop), rRunV w mX10_ticks 12 [some (aO 40 0), some (aI ((l + 1 : Nat) : Int))] [] C0 S' (rf mm) Q → rRunV w mX10_ticks 12 [some (aO 40 0), some (aI (l : Int))] [] C0 S (rf mm) Q) → XR C' S' mm n (c + 150) 0 → tkF C S C' S' → (l + 1 < 2147483648) ∧ kRunV w mX7_tick 12 [some (aO 21 0), some (aI ((l + 1 : Nat) : Int)), none] [] C' S0 (rf mm) P := fun C1 S1 q1 q2 q3 => ⟨by omega, p_tick_12 m (l + 1) (c + 150) C1 S1 (by omega) q2 (by rw [q3.2.2 24 0 (by omega)]; exact h24) (by omega) (fun C' S' r1 r2 r3 => k C' S' (fun C0 Q hQ => q1 C0 Q (r1 C0 Q hQ)) (XR_up (by omega) r2) (tkF_trans q3 r3))⟩
    refine gX7_tick_12 ⟨fun z => absurd z (by omega), fun _ => ⟨a1.1, gX2_isAboutToMake a1.1 ⟨fun z => ⟨fun _ => ⟨fun _ => gX2_goesOn a1.1 ?_, fun y => absurd y z⟩, fun y => absurd rfl y⟩, fun z => ?_⟩⟩⟩
    · rw [c3] at z ⊢
      have gone : 3 ≤ S 28 l → (l + 1 < 2147483648) ∧ kRunV w mX7_tick 12 [some (aO 21 0), some (aI ((l + 1 : Nat) : Int)), none] [] C S0 (rf mm) P := fun y => next C S (fun C0 Q q => gX10_ticks_12 ⟨fun y2 => absurd y2 (by omega), fun _ => ⟨a1.1, fun _ => ⟨fun _ => ⟨fun _ => ⟨by omega, q⟩, fun y2 => absurd y2 (by omega)⟩, fun y2 => absurd y2 (by omega)⟩, fun y2 => absurd y2 z⟩⟩) (XR_up (by omega) h) tkF_refl
      refine ⟨fun z1 => ⟨fun _ => gone (by omega), fun y => absurd rfl y⟩, fun z1 => ⟨fun z2 => ⟨fun _ => gone (by omega), fun y => absurd rfl y⟩, fun z2 => ⟨fun y => absurd y (by decide), fun _ => ?_⟩⟩⟩
      by_cases hs : S 28 l = 1
      · have r7 := a3.2.2.2.2.2.2.1 hs
        exact p_busy h hl hs (fun y C' q1 q2 => next C' _ (fun C0 Q q => gX10_ticks_12 ⟨fun y2 => absurd y2 (by omega), fun _ => ⟨a1.1, fun _ => ⟨fun y2 => absurd hs y2, fun _ => ⟨by omega, fun _ => ⟨by omega, q⟩, fun y2 => absurd y2 y⟩⟩, fun y2 => absurd y2 z⟩⟩) (XR_up (by omega) q1) q2) (fun y C' q1 q2 => next C' _ (fun C0 Q q => gX10_ticks_12 ⟨fun y2 => absurd y2 (by omega), fun _ => ⟨a1.1, fun _ => ⟨fun y2 => absurd hs y2, fun _ => ⟨by omega, fun y2 => absurd y y2, fun _ => ⟨by omega, q⟩⟩⟩, fun y2 => absurd y2 z⟩⟩) (XR_up (by omega) q1) q2)
      · have hs2 : S 28 l = 2 := by omega
        have r8 := a3.2.2.2.2.2.2.2.1 hs2
        exact p_asleep h hl hs2 (by omega) (fun y C' q1 q2 => next C' _ (fun C0 Q q => gX10_ticks_12 ⟨fun y2 => absurd y2 (by omega), fun _ => ⟨a1.1, fun _ => ⟨fun _ => ⟨fun y2 => absurd hs2 y2, fun _ => ⟨by omega, fun _ => ⟨by omega, q⟩, fun y2 => absurd y2 y⟩⟩, fun y2 => absurd y2 hs⟩, fun y2 => absurd y2 z⟩⟩) (XR_up (by omega) q1) q2) (fun y C' S' r1 q1 q2 => next C' S' (fun C0 Q q => gX10_ticks_12 ⟨fun y2 => absurd y2 (by omega), fun _ => ⟨a1.1, fun _ => ⟨fun _ => ⟨fun y2 => absurd hs2 y2, fun _ => ⟨by omega, fun y2 => absurd y y2, fun _ => r1 C0 _ ⟨by omega, q⟩⟩⟩, fun y2 => absurd y2 hs⟩, fun y2 => absurd y2 z⟩⟩) q1 q2)
    · have hs : S 28 l = 0 := by omega
      obtain ⟨k1, k2, k3, k4⟩ := act_ok h hl (by omega)
      obtain ⟨a, hA⟩ : ∃ a, S 12 ((60 * (l : Int) + S 33 l).toNat) = a := ⟨_, rfl⟩
      rw [hA] at k2
      have refa : ∀ S', rV w mm mX10_acts [aO 40 0, aI (l : Int)] S S' → ∀ (C0 : aIF) (Q : aS → Prop), rRunV w mX10_ticks 12 [some (aO 40 0), some (aI ((l + 1 : Nat) : Int))] [] C0 S' (rf mm) Q → rRunV w mX10_ticks 12 [some (aO 40 0), some (aI (l : Int))] [] C0 S (rf mm) Q := fun S' r C0 Q q => gX10_ticks_12 ⟨fun y2 => absurd y2 (by omega), fun _ => ⟨a1.1, fun y2 => absurd hs y2, fun _ => r C0 _ ⟨by omega, q⟩⟩⟩
      have other : ((-59 ≤ a ∧ a ≤ 0) ∨ (1001 ≤ a ∧ a ≤ 1200)) → (((0 : Int) = 0) → (((C 28 l 3) ≠ 0) → kMetI w mX2_goesOn [aO 28 l] C S0 (rf mm) (fun x9 C10 => ((x9 = 0) → (l + 1 < 2147483648) ∧ (kRunV w mX7_tick 12 [some (aO 21 0), some (aI ((((l + 1) : Nat) : Int))), none] [] C10 S0 (rf mm) P)) ∧ ((¬ (x9 = 0)) → kMetV w mX7_passTick [aO 21 0, aO 28 l] C10 S0 (rf mm) (fun C14 => (l + 1 < 2147483648) ∧ (kRunV w mX7_tick 12 [some (aO 21 0), some (aI ((((l + 1) : Nat) : Int))), none] [] C14 S0 (rf mm) P))))) ∧ (((C 28 l 3) = 0) → kMetV w mX7_doOtherAct [aO 21 0, aO 28 l] C S0 (rf mm) (fun C18 => (l + 1 < 2147483648) ∧ (kRunV w mX7_tick 12 [some (aO 21 0), some (aI ((((l + 1) : Nat) : Int))), none] [] C18 S0 (rf mm) P)))) ∧ ((¬ ((0 : Int) = 0)) → kMetV w mX7_tryMake [aO 21 0, aO 28 l] C S0 (rf mm) (fun C22 => (l + 1 < 2147483648) ∧ (kRunV w mX7_tick 12 [some (aO 21 0), some (aI ((((l + 1) : Nat) : Int))), none] [] C22 S0 (rf mm) P))) := fun ha => ⟨fun _ => ⟨fun y => absurd z y, fun _ => p_other h hl hs hA ha (by omega) (fun C' S' r1 r2 r3 => next C' S' (refa S' r1) r2 r3)⟩, fun y => absurd rfl y⟩
      unfold actOK at k2
      refine sX2_nextAct h hl (by omega) hA (gX1_isMake ⟨fun z1 => ⟨fun _ => other (by omega), fun y => absurd rfl y⟩, fun z1 => ⟨fun z2 => ⟨fun _ => other (by omega), fun y => absurd rfl y⟩, fun z2 => ⟨fun y => absurd y (by decide), fun _ => ⟨fun y => absurd y (by decide), fun _ => ?_⟩⟩⟩⟩)
      exact p_tryMake h hl hs hA (by omega) (by omega) (fun C' S' r1 r2 r3 => next C' S' (refa S' r1) r2 r3)
/-- what a run leaves -/
def uF (C : aIF) (S : aS) (C' : aIF) (S' : aS) : Prop := (∀ k i j, k < 21 → C' k i j = C k i j) ∧ (∀ j, j ≠ 5 → j ≠ 6 → C' 21 0 j = C 21 0 j) ∧ ∀ f j, f < 24 → S' f j = S f j
theorem uF_refl {C : aIF} {S : aS} : uF C S C S := ⟨fun _ _ _ _ => rfl, fun _ _ _ => rfl, fun _ _ _ => rfl⟩
theorem uF_trans {C C1 C2 : aIF} {S S1 S2 : aS} (h : uF C S C1 S1) (k : uF C1 S1 C2 S2) : uF C S C2 S2 := by
  obtain ⟨a1, a2, a3⟩ := h
  obtain ⟨b1, b2, b3⟩ := k
  exact ⟨fun k i j z => by rw [b1 k i j z, a1 k i j z], fun j z z2 => by rw [b2 j z z2, a2 j z z2], fun f j z => by rw [b3 f j z, a3 f j z]⟩
theorem XR_now {C C' : aIF} {S S' : aS} {c : Nat} {d v : Int} (h : XR C S mm n c d) (kf : ∀ k i j, ¬ (k = 21 ∧ i = 0 ∧ j = 5) → C' k i j = C k i j) (kv : C' 21 0 5 = v) (sf : ∀ f j, ¬ (f = 24 ∧ j = 0) → S' f j = S f j) (sv : S' 24 0 = v) : XR C' S' mm n c d := by
  obtain ⟨⟨g1, g2, g3⟩, g4, g5, ⟨g6, g7⟩, g8, g9, g10, E, kk, g11, g12⟩ := h
  refine ⟨⟨tOK_cg (fun f z1 z2 => sf f 0 (by omega)) g1, tR_cg (fun _ => kf _ _ _ (by omega)) (fun f z1 z2 => sf f 0 (by omega)) g2, prR_cg (kf _ _ _ (by omega)) (fun _ _ _ => kf _ _ _ (by omega)) (fun _ _ => kf _ _ _ (by omega)) (sf _ _ (by omega)) (fun f j z1 z2 => sf f j (by omega)) g3⟩, by rw [sf _ _ (by omega)]; exact g4, ⟨by rw [sf _ _ (by omega)]; exact g5.1, by rw [kf _ _ _ (by omega)]; exact g5.2⟩, ⟨fun q hq => by rw [kf _ _ _ (by omega)]; exact g6 q hq, fun q hq => ⟨pru_cg (fun j => kf _ _ _ (by omega)) (fun j => kf _ _ _ (by omega)) (fun j => kf _ _ _ (by omega)) (fun f j z1 z2 => sf f j (by omega)) (g7 q hq).1, RP_cg (sf _ _ (by omega)) (sf _ _ (by omega)) (fun f j z1 z2 => sf f j (by omega)) (fun f j z1 z2 => sf f j (by omega)) (g7 q hq).2⟩⟩, ⟨by rw [kv, sv], by rw [kf _ _ _ (by omega), sf _ _ (by omega)]; exact g8.2⟩, ⟨by rw [sf _ _ (by omega)]; exact g9.1, by rw [sf 25 0 (by omega), sf 5 0 (by omega)]; exact g9.2⟩, ⟨?_, g10.2⟩, E, kk, g11, lgE_cg (kf _ _ _ (by omega)) (fun k j z1 z2 => kf _ _ _ (by omega)) (sf _ _ (by omega)) (sf _ _ (by omega)) (fun j => sf _ _ (by omega)) g12⟩
  rw [sf 25 0 (by omega), sf 6 0 (by omega), sumN_cg (g := fun q => S 29 q) n (fun q hq => sf _ _ (by omega))]
  exact g10.1
theorem p_tick {C : aIF} {S : aS} {c : Nat} {P : aIF → Prop} (h : XR C S mm n c 0) (h24 : 0 ≤ S 24 0 ∧ S 24 0 < 2000000000) (hc : c + 1000 ≤ 2000000000) (k : ∀ (C' : aIF) (S' : aS), rV w mm mX10_ticks [aO 40 0] S S' → XR C' S' mm n (c + 1000) 0 → uF C S C' S' → S' 24 0 = S 24 0 + 1 → P C') : kMetV w mX7_tick [aO 21 0] C S0 (rf mm) P := by
  have h5 := h.2.2.2.2.1
  have hn6 := h.2.1
  refine gX7_tick ?_
  rw [h5.1]
  have x := XR_now (C' := uI C 21 0 5 (S 24 0 + 1)) (S' := sU S 24 0 (S 24 0 + 1)) (v := S 24 0 + 1) h (fun k i j z => uI_no z) uI_s (fun f j z => sU_ne z) sU_s
  refine ⟨by omega, p_tick_12 n 0 c _ _ (by omega) x (by rw [sU_s]; omega) (by omega) (fun C' S' r1 r2 r3 => k C' S' (fun C0 Q hQ => gX10_ticks ⟨by omega, r1 C0 Q hQ⟩) (XR_up (by omega) r2) ⟨fun k i j z => ?_, fun j z z2 => ?_, fun f j z => ?_⟩ ?_)⟩
  · rw [r3.1 k i j z, uI_no (by omega)]
  · rw [r3.2.1 j z2, uI_no (by omega)]
  · rw [r3.2.2 f j (by omega), sU_ne (by omega)]
  · rw [r3.2.2 24 0 (by omega), sU_s]
theorem sX7_go_2 {C : aIF} {S : aS} {c : Nat} {d : Int} {P : Int → aIF → Prop} (h : XR C S mm n c d) : ∀ (m l : Nat), l + m = n → ((∀ q, l ≤ q → q < n → 3 ≤ S 28 q) → P 0 C) → ((∃ q, l ≤ q ∧ q < n ∧ ¬ 3 ≤ S 28 q) → P 1 C) → kRunI w mX7_someGoOn 2 [some (aO 21 0), some (aI (l : Int))] [] C S0 (rf mm) P
  | 0, l, e, h0, h1 => by
    have hn := h.2.2.1
    exact gX7_someGoOn_2 ⟨fun _ => h0 (fun q z1 z2 => absurd z1 (by omega)), fun z => absurd (by omega) z⟩
  | m + 1, l, e, h0, h1 => by
    have hn := h.2.2.1
    have hl : l < n := by omega
    obtain ⟨a1, a2, a3, a4, a5, a6, a7⟩ := XR_at h hl
    have c3 := a2.1.1
    have h28 := a3.2.2.1
    have nx : 3 ≤ S 28 l → (l + 1 < 2147483648) ∧ kRunI w mX7_someGoOn 2 [some (aO 21 0), some (aI ((l + 1 : Nat) : Int))] [] C S0 (rf mm) P := fun z => ⟨by omega, sX7_go_2 h m (l + 1) (by omega) (fun y => h0 (fun q z1 z2 => by
      by_cases eq : q = l
      · rw [eq]
        exact z
      · exact y q (by omega) z2)) (fun ⟨q, y1, y2, y3⟩ => h1 ⟨q, by omega, y2, y3⟩)⟩
    refine gX7_someGoOn_2 ⟨fun z => absurd z (by omega), fun _ => ⟨a1.1, gX2_goesOn a1.1 ?_⟩⟩
    rw [c3]
    exact ⟨fun z => ⟨fun _ => nx (by omega), fun y => absurd rfl y⟩, fun z => ⟨fun z2 => ⟨fun _ => nx (by omega), fun y => absurd rfl y⟩, fun z2 => ⟨fun y => absurd y (by decide), fun _ => h1 ⟨l, by omega, hl, by omega⟩⟩⟩⟩
theorem sX10_any_2 {C C0 : aIF} {S : aS} {c : Nat} {d : Int} {P : Int → aS → Prop} (h : XR C S mm n c d) : ∀ (m l : Nat), l + m = n → ((∀ q, l ≤ q → q < n → 3 ≤ S 28 q) → P 0 S) → ((∃ q, l ≤ q ∧ q < n ∧ ¬ 3 ≤ S 28 q) → P 1 S) → rRunI w mX10_isAny 2 [some (aO 40 0), some (aI (l : Int))] [] C0 S (rf mm) P
  | 0, l, e, h0, h1 => by
    have hn := h.2.2.1
    exact gX10_isAny_2 ⟨fun _ => h0 (fun q z1 z2 => absurd z1 (by omega)), fun z => absurd (by omega) z⟩
  | m + 1, l, e, h0, h1 => by
    have hn := h.2.2.1
    have hl : l < n := by omega
    have h6 := h.2.1
    refine gX10_isAny_2 ⟨fun z => absurd z (by omega), fun _ => gX10_isThere ⟨by omega, fun z => ⟨fun _ => ⟨by omega, sX10_any_2 h m (l + 1) (by omega) (fun y => h0 (fun q z1 z2 => by
      by_cases eq : q = l
      · rw [eq]
        exact z
      · exact y q (by omega) z2)) (fun ⟨q, y1, y2, y3⟩ => h1 ⟨q, by omega, y2, y3⟩)⟩, fun y => absurd rfl y⟩, fun z => ⟨fun y => absurd y (by decide), fun _ => h1 ⟨l, by omega, hl, z⟩⟩⟩⟩
set_option maxRecDepth 20000 in
theorem p_run_30 {r : Nat} {P : Int → aIF → Prop} : ∀ (m l c : Nat) (C : aIF) (S : aS), l + m = r → r ≤ 2000 → XR C S mm n c 0 → 0 ≤ S 24 0 → S 24 0 + (m : Int) ≤ 2000000000 → c + 1000 * m ≤ 2000000000 →
    (∀ (C' : aIF) (S' : aS), (∀ (C0 : aIF) (Q : Int → aS → Prop), Q (S' 24 0) S' → rRunI w mX10_run 31 [some (aO 40 0), some (aI (r : Int)), some (aI (l : Int))] [] C0 S (rf mm) Q) → XR C' S' mm n (c + 1000 * m) 0 → uF C S C' S' → S 24 0 ≤ S' 24 0 → S' 24 0 ≤ S 24 0 + (m : Int) → P (S' 24 0) C') →
    kRunI w mX9_run 30 [some (aO 1 0), some (aI (r : Int)), some (aI (l : Int))] [] C S0 (rf mm) P
  | 0, l, c, C, S, e, hr, h, h24, h24b, hc, k => by
    have h5 := h.2.2.2.2.1
    refine gX9_run_30 ⟨fun _ => ?_, fun z => absurd (by omega) z⟩
    rw [h5.1]
    exact k C S (fun C0 Q hQ => gX10_run_31 ⟨fun _ => hQ, fun z => absurd (by omega) z⟩) (XR_up (by omega) h) uF_refl (by omega) (by omega)
  | m + 1, l, c, C, S, e, hr, h, h24, h24b, hc, k => by
    have h5 := h.2.2.2.2.1
    refine gX9_run_30 ⟨fun z => absurd z (by omega), fun _ => gX7_someGoOn (sX7_go_2 h n 0 (by omega) (fun z => ⟨fun _ => ?_, fun y => absurd rfl y⟩) (fun z => ⟨fun y => absurd y (by decide), fun _ => ?_⟩))⟩
    · rw [h5.1]
      exact k C S (fun C0 Q hQ => gX10_run_31 ⟨fun y => absurd y (by omega), fun _ => gX10_isAny (sX10_any_2 h n 0 (by omega) (fun _ => ⟨fun _ => hQ, fun y => absurd rfl y⟩) (fun ⟨q, y1, y2, y3⟩ => absurd (z q y1 y2) y3))⟩) (XR_up (by omega) h) uF_refl (by omega) (by omega)
    · refine p_tick h (by omega) (by omega) (fun C1 S1 q1 q2 q3 q4 => ⟨by omega, p_run_30 m (l + 1) (c + 1000) C1 S1 (by omega) hr q2 (by omega) (by omega) (by omega) (fun C' S' r1 r2 r3 r4 r5 => k C' S' (fun C0 Q hQ => gX10_run_31 ⟨fun y => absurd y (by omega), fun _ => gX10_isAny (sX10_any_2 h n 0 (by omega) (fun y => ?_) (fun _ => ⟨fun y => absurd y (by decide), fun _ => q1 C0 _ ⟨by omega, r1 C0 Q hQ⟩⟩))⟩) (XR_up (by omega) r2) (uF_trans q3 r3) (by omega) (by omega))⟩)
      obtain ⟨q, y1, y2, y3⟩ := z
      exact absurd (y q y1 y2) y3
theorem XR_inv {C : aIF} {S : aS} {t : Nat} (h : Inv C S mm t) (h22 : S 22 0 = 1) : ∃ n : Nat, XR C S mm n (2000000 * t) 0 ∧ 0 ≤ S 24 0 ∧ S 24 0 ≤ 2000 * (t : Int) := by
  obtain ⟨i1, i2, i3, i4, i5, i6, i7, i8, i9, i10⟩ := h
  obtain ⟨g1, g2, g3, g4⟩ := i9 h22
  obtain ⟨u1, u2, u3, u4⟩ := i7
  obtain ⟨l1, l2, E, kk, l3, l4⟩ := i8
  obtain ⟨n, hn⟩ : ∃ n : Nat, S 23 0 = (n : Int) := ⟨(S 23 0).toNat, by omega⟩
  rw [hn, Int.toNat_natCast] at g3
  exact ⟨n, ⟨⟨i1, i2, i4⟩, ⟨by omega, by omega, by omega, by omega⟩, ⟨hn, by omega⟩, ⟨u3, fun p hp => ⟨u4 p (by omega) (by omega), g4 p (by omega)⟩⟩, ⟨l1.1, l2⟩, g2, ⟨by omega, by omega⟩, E, kk, l3, l4⟩, l1.2.1, l1.2.2⟩
theorem Inv_XR {C C' : aIF} {S S' : aS} {t n : Nat} (h : Inv C S mm t) (h22 : S 22 0 = 1) (x : XR C' S' mm n (2000000 * (t + 1)) 0) (f : uF C S C' S') (h24 : 0 ≤ S' 24 0 ∧ S' 24 0 ≤ 2000 * ((t + 1 : Nat) : Int)) : Inv C' S' mm (t + 1) := by
  obtain ⟨i1, i2, i3, i4, i5, i6, i7, i8, i9, i10⟩ := h
  obtain ⟨⟨x1, x2, x3⟩, x4, x5, ⟨x6, x7⟩, x8, x9, x10, E, kk, x11, x12⟩ := x
  obtain ⟨f1, f2, f3⟩ := f
  have t22 : S' 22 0 = S 22 0 := f3 22 0 (by omega)
  have c4 : C' 21 0 4 = C 21 0 4 := f2 4 (by omega) (by omega)
  refine ⟨x1, x2, slR_cg (fun _ _ => f1 _ _ _ (by omega)) (fun _ _ => f1 _ _ _ (by omega)) (fun f j z1 z2 => f3 f j (by omega)) i3, x3, tmR_cg (fun _ => f1 _ _ _ (by omega)) (fun _ _ => f1 _ _ _ (by omega)) (f3 _ _ (by omega)) (f3 _ _ (by omega)) (f3 _ _ (by omega)) (fun f j z1 z2 => f3 f j (by omega)) i5, dlR_cg (f1 _ _ _ (by omega)) (fun _ => f1 _ _ _ (by omega)) (f3 _ _ (by omega)) (f3 _ _ (by omega)) (f3 _ _ (by omega)) (fun _ => f3 _ _ (by omega)) i6, ⟨?_, ⟨by omega, by omega, by omega⟩, x6, fun p z1 z2 => (x7 p (by omega)).1⟩, ⟨⟨x8.1, h24.1, h24.2⟩, x8.2, E, kk, x11, x12⟩, fun _ => ⟨⟨by omega, by omega, by omega⟩, x9, ?_, fun p z => (x7 p (by omega)).2⟩, i10⟩
  · rw [c4, t22]
    exact i7.1
  · rw [x5.1, Int.toNat_natCast]
    have := x10.1
    omega
theorem opRun {C : aIF} {S : aS} {t : Nat} {r : Int} (h : Inv C S mm t) (ht : t ≤ 600) : opOK w mX9_run mX10_run [aI r] C S mm t := by
  have h0 : Inv C (sU S 0 0 0) mm t := Inv_0 h
  have h22 := h.2.2.2.2.2.2.1.1
  have s22 : sU S 0 0 0 22 0 = S 22 0 := sU_f rfl
  have same : Inv C (sU S 0 0 0) mm (t + 1) := Inv_t (by omega) h0
  have bad : ∀ x : Int, ¬ (1 ≤ r ∧ r ≤ 2000) → x = -2 → rMetI w mX10_run [aO 40 0, aI r] C S (rf mm) (fun y S' => y = x ∧ Inv C S' mm (t + 1)) := fun x z e => gX10_run (sX10_in (fun a b => absurd ⟨a, b⟩ z) (fun _ => ⟨fun y => absurd rfl y, fun _ => ⟨e.symm, same⟩⟩))
  refine gX9_run ⟨fun z => bad _ (by omega) rfl, fun z => ⟨fun z1 => ⟨fun z2 => ?_, fun z2 => ?_⟩, fun z1 => bad _ (by omega) rfl⟩⟩
  · obtain ⟨R, hR⟩ : ∃ R : Nat, r = (R : Int) := ⟨r.toNat, by omega⟩
    subst hR
    have e22 : sU S 0 0 0 22 0 = 1 := by omega
    obtain ⟨n, x, b1, b2⟩ := XR_inv h0 e22
    refine p_run_30 R 0 (2000000 * t) C (sU S 0 0 0) (by omega) (by omega) x b1 (by omega) (by omega) (fun C' S' r1 r2 r3 r4 r5 => ?_)
    refine gX10_run (sX10_in (fun _ _ => ⟨fun _ => ⟨fun _ => r1 C' _ ⟨rfl, Inv_XR h0 e22 (XR_up (by omega) r2) r3 (by omega)⟩, fun y => absurd y (by omega)⟩, fun y => absurd y (by decide)⟩) (fun y => absurd (by omega) y))
  · exact gX10_run (sX10_in (fun _ _ => ⟨fun _ => ⟨fun y => absurd y (by omega), fun _ => ⟨rfl, same⟩⟩, fun y => absurd y (by decide)⟩) (fun y => absurd (by omega) y))
end TK
