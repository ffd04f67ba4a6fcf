/-! RUN: waking; a tick that passes -/
theorem nz_log {S : aS} {p : Nat} {b u a : Int} : nz (lgS S b u a) p = lgS (nz S p) b u a := by
  have e : ∀ f j, f ≠ 28 → f ≠ 37 → nz S p f j = S f j := fun f j z1 z2 => by
    unfold nz
    rw [sU_ne (fun y => z2 y.1), sU_ne (fun y => z1 y.1)]
  have en : nl (nz S p) b u a = nl S b u a := by
    funext j
    unfold nl nlB
    rw [e 26 0 (by decide) (by decide), e 24 0 (by decide) (by decide), e 45 j (by decide) (by decide), e 45 (j + 4) (by decide) (by decide)]
  funext f j
  by_cases h : f = 28 ∨ f = 37
  · rw [lgS_o (by omega)]
    unfold nz
    by_cases h1 : f = 37 ∧ j = p
    · obtain ⟨rfl, rfl⟩ := h1
      rw [sU_s, sU_s]
    · rw [sU_ne h1, sU_ne h1]
      by_cases h2 : f = 28 ∧ j = p
      · obtain ⟨rfl, rfl⟩ := h2
        rw [sU_s, sU_s]
      · rw [sU_ne h2, sU_ne h2, lgS_o (by omega)]
  · have h1 : f ≠ 28 := fun z => h (Or.inl z)
    have h2 : f ≠ 37 := fun z => h (Or.inr z)
    rw [show nz (lgS S b u a) p f j = lgS S b u a f j by unfold nz; rw [sU_ne (fun y => h2 y.1), sU_ne (fun y => h1 y.1)]]
    unfold lgS
    rw [en, e 26 0 (by decide) (by decide), e 27 0 (by decide) (by decide), e f j h1 h2]
section WK
variable {w : aW} {S0 : aS} {C C' : aIF} {S S' : aS} {mm n c p : Nat} {d : Int}
theorem XQ_wake (h : XR C S mm n c d) (hp : p < n) (h28 : S 28 p = 2) {x : Int} (hx : 0 ≤ x ∧ x ≤ S 25 0 ∧ S 5 0 ∣ x) (kf : ∀ k i j, ¬ ((k = 28 ∧ i = p ∧ (j = 3 ∨ j = 4 ∨ j = 11 ∨ j = 13)) ∨ (k = 21 ∧ i = 0 ∧ j = 6)) → C' k i j = C k i j) (k3 : C' 28 p 3 = 0) (k4 : C' 28 p 4 = S 29 p + x) (k11 : C' 28 p 11 = 0) (k13 : C' 28 p 13 = 0) (k6 : C' 21 0 6 = S 25 0 - x) (sf : ∀ f j, ¬ ((j = p ∧ (f = 28 ∨ f = 29 ∨ f = 37 ∨ f = 43)) ∨ (f = 25 ∧ j = 0)) → S' f j = S f j) (s28 : S' 28 p = 0) (s29 : S' 29 p = S 29 p + x) (s37 : S' 37 p = 0) (s43 : S' 43 p = 0) (s25 : S' 25 0 = S 25 0 - x) : XQ C' S' mm n c d p ∧ pru C' S' p ∧ RPa S' p ∧ fp C S C' S' p := by
  obtain ⟨a1, a2, a3, a4, a5, a6, a7⟩ := XR_at h hp
  obtain ⟨r1, r2, r3, r4, r5, r6, r7, r8, r9, r10, r11, r12⟩ := a3
  have r5' := r5 (by omega)
  have r12' := r12 (by omega)
  have p1 := a4.1
  have p2 := a4.2.2.1
  have hp0 := h.2.2.2.2.2.1
  have ff : fp C S C' S' p := ⟨fun k i j z => kf k i j (by omega), fun j z => kf _ _ _ (by omega), ⟨fun q j z => ⟨kf _ _ _ (by omega), kf _ _ _ (by omega), kf _ _ _ (by omega)⟩, kf _ _ _ (by omega)⟩, fun f j z => sf f j (by omega), fun f q z z1 z2 => sf f q (by omega), fun j z => sf _ _ (by omega)⟩
  refine ⟨XQ_u (XQ_of p h) hp ff (fun k i j z1 z2 => kf k i j (by omega)) ⟨sf _ _ (by omega), sf _ _ (by omega), fun j => sf _ _ (by omega)⟩ (by rw [k6, s25]) ⟨by omega, ?_⟩ (by omega) h.2.2.2.2.2.2.1.2, ?_, ?_, ff⟩
  · rw [s25]
    exact Int.dvd_sub hp0.2 hx.2.2
  · obtain ⟨⟨b1, b2, b3, b4, b5, b6, b7, b8⟩, ⟨b9, b10, b11, b12, b13, b14, b15⟩, b16, b17, b18, b19⟩ := id a2
    refine ⟨⟨?_, ?_, ?_, ?_, ?_, ?_, ?_, ?_⟩, ⟨?_, ?_, ?_, ?_, ?_, ?_, ?_⟩, ?_, ?_, ?_, pru_ring a2 (fun j => kf 30 p j (by omega)) (sf 34 p (by omega)) (fun j => sf 44 j (by omega))⟩
    · rw [k3, s28]
    · rw [k4, s29]
    · rw [kf 28 p 5 (by omega), sf 30 p (by omega)]; exact b3
    · rw [kf 29 p 2 (by omega), sf 31 p (by omega)]; exact b4
    · rw [kf 28 p 6 (by omega), sf 32 p (by omega)]; exact b5
    · rw [kf 28 p 7 (by omega), sf 33 p (by omega)]; exact b6
    · rw [kf 29 p 1 (by omega), sf 34 p (by omega)]; exact b7
    · rw [kf 28 p 8 (by omega), sf 35 p (by omega)]; exact b8
    · rw [kf 28 p 9 (by omega), sf 36 p (by omega)]; exact b9
    · rw [k11, s37]
    · rw [kf 28 p 10 (by omega), sf 38 p (by omega)]; exact b11
    · rw [kf 28 p 16 (by omega), sf 40 p (by omega)]; exact b12
    · rw [kf 28 p 15 (by omega), sf 41 p (by omega)]; exact b13
    · rw [kf 28 p 12 (by omega), sf 42 p (by omega)]; exact b14
    · rw [k13, s43]
    · rw [s43]; exact fun z => absurd z (by decide)
    · rw [sf 42 p (by omega)]; exact b17
    · rw [s43]; exact Or.inl rfl
  · unfold RPa
    rw [s28, s29, sf 30 p (by omega), sf 31 p (by omega), sf 32 p (by omega), sf 33 p (by omega), sf 34 p (by omega), sf 36 p (by omega), s37, sf 40 p (by omega), s43, sf 5 0 (by omega), sf 11 p (by omega), sf 13 p (by omega), sf 14 p (by omega)]
    have e44 : ∀ j, S' 44 j = S 44 j := fun j => sf 44 j (by omega)
    simp only [e44]
    have hm := hold_mono (cp := S 13 p) (show S 29 p ≤ S 29 p + x by omega)
    exact ⟨⟨by omega, Int.dvd_add r1.2 hx.2.2⟩, ⟨r2.1, r2.2.1, by omega⟩, by simp, ⟨r4.1, r4.2.1, r4.2.2.1, by omega⟩, ⟨r5'.1, r5'.2, by omega, by omega⟩, ⟨r11.1, r11.2.1⟩, ⟨r11.2.2.2.1, r11.2.2.2.2⟩, r12'⟩
/-- one that is busy -/
theorem p_busy {P : aIF → Prop} (h : XR C S mm n c 0) (hp : p < n) (h28 : S 28 p = 1) (k1 : S 37 p - 1 ≠ 0 → ∀ C' : aIF, XR C' (sU S 37 p (S 37 p - 1)) mm n c 0 → tkF C S C' (sU S 37 p (S 37 p - 1)) → P C') (k2 : S 37 p - 1 = 0 → ∀ C' : aIF, XR C' (sU (sU S 37 p (S 37 p - 1)) 28 p 0) mm n c 0 → tkF C S C' (sU (sU S 37 p (S 37 p - 1)) 28 p 0) → P C') : kMetV w mX7_passTick [aO 21 0, aO 28 p] C S0 (rf mm) P := by
  obtain ⟨a1, a2, a3, a4, a5, a6, a7⟩ := XR_at h hp
  have c3 := a2.1.1
  have c11 := a2.2.1.2.1
  have r7 := a3.2.2.2.2.2.2.1 h28
  refine gX7_passTick a1.1 ?_
  rw [c3, c11]
  refine ⟨fun _ => ⟨by omega, gX2_waitFor a1.1 ⟨fun z => ?_, fun z => ?_⟩⟩, fun z => absurd z (by omega)⟩
  · obtain ⟨v1, v2⟩ := XR_wait (C' := uI (uI C 28 p 11 (S 37 p - 1)) 28 p 3 0) (S' := sU (sU S 37 p (S 37 p - 1)) 28 p 0) (hw := 0) (L := S 37 p - 1) h hp (fun k i j z => by rw [uI_no (by omega), uI_no (by omega)]) uI_s (by rw [uI_j rfl, uI_s]) (fun f j z => by rw [sU_ne (by omega), sU_ne (by omega)]) sU_s (by rw [sU_f rfl, sU_s]) (by omega) (Or.inl rfl) (fun _ => ⟨by omega, by omega⟩) (fun z => absurd z (by decide)) (fun z => absurd z (by decide))
    exact k2 (by omega) _ v1 (tkF_fp v2)
  · obtain ⟨v1, v2⟩ := XR_wait (C' := uI (uI C 28 p 11 (S 37 p - 1)) 28 p 3 (S 28 p)) (S' := sU S 37 p (S 37 p - 1)) (hw := 1) (L := S 37 p - 1) h hp (fun k i j z => by rw [uI_no (by omega), uI_no (by omega)]) (by rw [uI_s, h28]) (by rw [uI_j rfl, uI_s]) (fun f j z => by rw [sU_ne (by omega)]) (by rw [sU_f rfl, h28]) sU_s (by omega) (Or.inr (Or.inl rfl)) (fun z => absurd z (by decide)) (fun _ => ⟨by omega, by omega, by omega, by omega⟩) (fun z => absurd z (by decide))
    exact k1 (by omega) _ v1 (tkF_fp v2)
/-- one that sleeps -/
theorem p_asleep {P : aIF → Prop} (h : XR C S mm n c 0) (hp : p < n) (h28 : S 28 p = 2) (hc : c + 150 ≤ 2000000000) (k1 : S 37 p - 1 ≠ 0 → ∀ C' : aIF, XR C' (sU S 37 p (S 37 p - 1)) mm n c 0 → tkF C S C' (sU S 37 p (S 37 p - 1)) → P C') (k2 : S 37 p - 1 = 0 → ∀ (C' : aIF) (S' : aS), rV w mm mX10_passes [aO 40 0, aI (p : Int)] (sU S 37 p (S 37 p - 1)) S' → XR C' S' mm n (c + 150) 0 → tkF C S C' S' → P C') : kMetV w mX7_passTick [aO 21 0, aO 28 p] C S0 (rf mm) P := by
  obtain ⟨a1, a2, a3, a4, a5, a6, a7⟩ := XR_at h hp
  have hr := XR_rm h hp
  have c3 := a2.1.1
  have c4 := a2.1.2.1
  have c11 := a2.2.1.2.1
  have c13 := a2.2.1.2.2.2.2.2.2
  have c14 := a2.2.2.1
  have b43 := a2.2.2.2.2.1
  have h5 := h.2.2.2.2.1
  have hp0 := h.2.2.2.2.2.1
  have hnum := h.2.2.2.1.1 p a1.1
  have r8 := a3.2.2.2.2.2.2.2.1 h28
  have r10 := a3.2.2.2.2.2.2.2.2.2.1
  have hb := lgX_b h.2.2.2.2.2.2.2 (show c ≤ 2000000000 by omega)
  refine gX7_passTick a1.1 ?_
  rw [c3, c11]
  refine ⟨fun z => absurd h28 z, fun _ => ⟨by omega, gX2_waitFor a1.1 ⟨fun z => ⟨fun y => absurd uI_s y, fun _ => gX7_wake a1.1 ?_⟩, fun z => ⟨fun _ => ?_, fun y => absurd (uI_s.symm.trans y) (by omega)⟩⟩⟩⟩
  · have e1 : S 37 p - 1 = 0 := by omega
    have q13 : uI (uI C 28 p 11 (S 37 p - 1)) 28 p 3 0 28 p 13 = C 28 p 13 := by rw [uI_j rfl, uI_j rfl]
    have q14 : uI (uI C 28 p 11 (S 37 p - 1)) 28 p 3 0 28 p 14 = C 28 p 14 := by rw [uI_j rfl, uI_j rfl]
    have q4 : uI (uI C 28 p 11 (S 37 p - 1)) 28 p 3 0 28 p 4 = C 28 p 4 := by rw [uI_j rfl, uI_j rfl]
    have q1 : uI (uI C 28 p 11 (S 37 p - 1)) 28 p 3 0 28 p 1 = C 28 p 1 := by rw [uI_j rfl, uI_j rfl]
    have q6 : uI (uI C 28 p 11 (S 37 p - 1)) 28 p 3 0 21 0 6 = C 21 0 6 := by rw [uI_k rfl, uI_k rfl]
    have q5 : uI (uI C 28 p 11 (S 37 p - 1)) 28 p 3 0 21 0 5 = C 21 0 5 := by rw [uI_k rfl, uI_k rfl]
    rw [q13, q14, q4, q1, q6, q5, c13, c4, h5.1, h5.2, hnum, e1]
    refine ⟨fun y => ?_, fun y => ?_⟩
    · have s43 : S 43 p = 1 := by omega
      have hh := r10 s43
      rw [c14 s43]
      have hm : max (S 39 p - S 29 p) 0 = S 39 p - S 29 p := by omega
      rw [hm]
      have hdv : S 5 0 ∣ min (S 25 0) (S 39 p - S 29 p) := by
        by_cases y : S 25 0 ≤ S 39 p - S 29 p
        · rw [Int.min_eq_left y]
          exact hp0.2
        · rw [Int.min_eq_right (by omega)]
          exact Int.dvd_sub hh.2.1 a3.1.2
      have hmn : 0 ≤ min (S 25 0) (S 39 p - S 29 p) ∧ min (S 25 0) (S 39 p - S 29 p) ≤ S 25 0 ∧ min (S 25 0) (S 39 p - S 29 p) ≤ S 39 p - S 29 p := by omega
      have hpl : S 25 0 / S 5 0 * S 5 0 = S 25 0 := Int.ediv_mul_cancel hp0.2
      generalize hX : min (S 25 0) (S 39 p - S 29 p) = x at *
      obtain ⟨x1, x2, x3, x4⟩ := XQ_wake (x := x) (C' := uI (uI (uI (uI (uI C 28 p 11 0) 28 p 3 0) 21 0 6 (S 25 0 - x)) 28 p 4 (S 29 p + x)) 28 p 13 0) (S' := nz (sU (sU (sU (sU S 37 p 0) 25 0 (S 25 0 - x)) 29 p (S 29 p + x)) 43 p 0) p) h hp h28 ⟨hmn.1, hmn.2.1, hdv⟩ (fun k i j z => by rw [uI_no (by omega), uI_no (by omega), uI_no (by omega), uI_no (by omega), uI_no (by omega)]) (by rw [uI_j rfl, uI_j rfl, uI_k rfl, uI_s]) (by rw [uI_j rfl, uI_s]) (by rw [uI_j rfl, uI_j rfl, uI_k rfl, uI_j rfl, uI_s]) uI_s (by rw [uI_k rfl, uI_k rfl, uI_s]) (fun f j z => by unfold nz; rw [sU_ne (by omega), sU_ne (by omega), sU_ne (by omega), sU_ne (by omega), sU_ne (by omega), sU_ne (by omega)]) (by unfold nz; rw [sU_f rfl, sU_s]) (by unfold nz; rw [sU_f rfl, sU_f rfl, sU_f rfl, sU_s]) (by unfold nz; rw [sU_s]) (by unfold nz; rw [sU_f rfl, sU_f rfl, sU_s]) (by unfold nz; rw [sU_f rfl, sU_f rfl, sU_f rfl, sU_f rfl, sU_s])
      have e24 : nz (sU (sU (sU (sU S 37 p 0) 25 0 (S 25 0 - x)) 29 p (S 29 p + x)) 43 p 0) p 24 0 = S 24 0 := by
        unfold nz
        rw [sU_f rfl, sU_f rfl, sU_f rfl, sU_f rfl, sU_f rfl, sU_f rfl]
      refine ⟨by omega, by omega, by omega, sX4_add ?_ ?_⟩
      · rw [uI_k rfl, uI_k rfl, uI_k rfl, uI_k rfl, uI_k rfl]
        exact hb.1
      · have g1 := XQ_log (p := p) (b := (p : Int)) (u := 5) (x := x) x1 hp e24.symm
        have g2 := pru_log (a := S 24 0) (b := (p : Int)) (u := 5) (x := x) (b2 := (p : Int)) (u2 := 5) (x2 := x) x2
        have g3 : RPa (lgS (nz (sU (sU (sU (sU S 37 p 0) 25 0 (S 25 0 - x)) 29 p (S 29 p + x)) 43 p 0) p) (p : Int) 5 x) p := by
          unfold RPa at x3 ⊢
          simp only [lgS_o (show (5 : Nat) < 26 ∨ (27 < 5 ∧ 5 ≠ 45) by omega), lgS_o (show (11 : Nat) < 26 ∨ (27 < 11 ∧ 11 ≠ 45) by omega), lgS_o (show (13 : Nat) < 26 ∨ (27 < 13 ∧ 13 ≠ 45) by omega), lgS_o (show (14 : Nat) < 26 ∨ (27 < 14 ∧ 14 ≠ 45) by omega), lgS_o (show (28 : Nat) < 26 ∨ (27 < 28 ∧ 28 ≠ 45) by omega), lgS_o (show (29 : Nat) < 26 ∨ (27 < 29 ∧ 29 ≠ 45) by omega), lgS_o (show (30 : Nat) < 26 ∨ (27 < 30 ∧ 30 ≠ 45) by omega), lgS_o (show (31 : Nat) < 26 ∨ (27 < 31 ∧ 31 ≠ 45) by omega), lgS_o (show (32 : Nat) < 26 ∨ (27 < 32 ∧ 32 ≠ 45) by omega), lgS_o (show (33 : Nat) < 26 ∨ (27 < 33 ∧ 33 ≠ 45) by omega), lgS_o (show (34 : Nat) < 26 ∨ (27 < 34 ∧ 34 ≠ 45) by omega), lgS_o (show (36 : Nat) < 26 ∨ (27 < 36 ∧ 36 ≠ 45) by omega), lgS_o (show (37 : Nat) < 26 ∨ (27 < 37 ∧ 37 ≠ 45) by omega), lgS_o (show (40 : Nat) < 26 ∨ (27 < 40 ∧ 40 ≠ 45) by omega), lgS_o (show (43 : Nat) < 26 ∨ (27 < 43 ∧ 43 ≠ 45) by omega), lgS_o (show (44 : Nat) < 26 ∨ (27 < 44 ∧ 44 ≠ 45) by omega)]
          exact x3
        rw [← nz_log] at g1 g2 g3
        refine p_endAct (S := lgS (sU (sU (sU (sU S 37 p 0) 25 0 (S 25 0 - x)) 29 p (S 29 p + x)) 43 p 0) (p : Int) 5 x) g1 hp g2 g3 (by omega) (fun C' S' r1 r2 r3 => k2 e1 C' S' (fun C0 Q hQ => ?_) (XR_up (by omega) r2) (tkF_fp (fp_trans x4 ?_)))
        · refine gX10_passes ⟨a1.1, fun y2 => absurd ?_ y2, fun _ => ⟨fun y2 => absurd y2 ?_, fun _ => ?_⟩⟩
          · rw [sU_f rfl]
            exact h28
          · rw [sU_f rfl]
            omega
          · rw [e1, sU_f rfl, sU_f rfl, sU_f rfl, sU_f rfl, hpl, hX]
            refine ⟨by omega, by omega, by omega, by omega, by omega, sX10_tells ?_ ?_ (r1 C0 Q hQ)⟩
            · rw [sU_f rfl, sU_f rfl, sU_f rfl, sU_f rfl]
              exact hb.2.1
            · rw [sU_f rfl, sU_f rfl, sU_f rfl, sU_f rfl]
              exact hb.2.2
        · rw [nz_log] at r3
          exact fp_trans (fp_log fp_refl) r3
    · obtain ⟨v1, v2⟩ := XR_wait (C' := uI (uI C 28 p 11 0) 28 p 3 0) (S' := nz (sU S 37 p 0) p) (hw := 0) (L := 0) h hp (fun k i j z => by rw [uI_no (by omega), uI_no (by omega)]) uI_s (by rw [uI_j rfl, uI_s]) (fun f j z => by unfold nz; rw [sU_ne (by omega), sU_ne (by omega), sU_ne (by omega)]) (by unfold nz; rw [sU_f rfl, sU_s]) (by unfold nz; rw [sU_s]) (by omega) (Or.inl rfl) (fun _ => ⟨rfl, y⟩) (fun z => absurd z (by decide)) (fun z => absurd z (by decide))
      refine p_endAct (S := sU S 37 p 0) (XQ_of p v1) hp (v1.2.2.2.1.2 p hp).1 (RPa_of v1 hp (by unfold nz; rw [sU_f rfl, sU_s])) (by omega) (fun C' S' r1 r2 r3 => k2 e1 C' S' (fun C0 Q hQ => ?_) (XR_up (by omega) r2) (tkF_fp (fp_trans v2 r3)))
      rw [e1]
      exact passes_go a1.1 (Or.inr (by rw [sU_f rfl]; exact y)) (r1 C0 Q hQ)
  · obtain ⟨v1, v2⟩ := XR_wait (C' := uI (uI C 28 p 11 (S 37 p - 1)) 28 p 3 (S 28 p)) (S' := sU S 37 p (S 37 p - 1)) (hw := 2) (L := S 37 p - 1) h hp (fun k i j z => by rw [uI_no (by omega), uI_no (by omega)]) (by rw [uI_s, h28]) (by rw [uI_j rfl, uI_s]) (fun f j z => by rw [sU_ne (by omega)]) (by rw [sU_f rfl, h28]) sU_s (by omega) (Or.inr (Or.inr rfl)) (fun z => absurd z (by decide)) (fun z => absurd z (by decide)) (fun _ => ⟨by omega, by omega⟩)
    exact k1 (by omega) _ v1 (tkF_fp v2)
end WK
