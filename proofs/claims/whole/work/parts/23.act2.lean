/-! RUN: leaving, the end of an act, in both machines -/
def ovS (S : aS) (p : Nat) (hw : Int) : aS := sU (sU (sU (sU (sU (sU (sU S 28 p hw) 38 p (S 24 0)) 37 p 0) 25 0 (S 25 0 + S 29 p)) 29 p 0) 30 p 0) 31 p 0
section A2
variable {w : aW} {S0 : aS} {C : aIF} {S : aS} {mm n c p : Nat} {d : Int}
theorem sX10_isOver {C0 : aIF} {hw wt : Int} {P : aS → Prop} (hp : p < 6) (hb : -2147483648 ≤ S 25 0 + S 29 p ∧ S 25 0 + S 29 p < 2147483648) (hl : (0 ≤ S 26 0 ∧ S 26 0 ≤ 60) ∧ 0 ≤ S 27 0 ∧ S 27 0 < 2147483647) (hw0 : (hw = 3 ∧ wt = 6) ∨ (hw = 4 ∧ wt = 2)) (hP : P (lgS (ovS S p hw) (p : Int) wt (S 29 p))) : rMetV w mX10_isOver [aO 40 0, aI (p : Int), aI hw] C0 S (rf mm) P := by
  have e6 : ovS S p hw 26 0 = S 26 0 := by unfold ovS; rw [sU_f rfl, sU_f rfl, sU_f rfl, sU_f rfl, sU_f rfl, sU_f rfl, sU_f rfl]
  have e7 : ovS S p hw 27 0 = S 27 0 := by unfold ovS; rw [sU_f rfl, sU_f rfl, sU_f rfl, sU_f rfl, sU_f rfl, sU_f rfl, sU_f rfl]
  refine gX10_isOver ⟨hp, hb, fun q => ?_, fun q => ?_⟩
  · have : wt = 2 := by omega
    subst this
    exact sX10_tells (S := ovS S p hw) (by rw [e6]; exact hl.1) (by rw [e7]; exact hl.2) hP
  · have : wt = 6 := by omega
    subst this
    exact sX10_tells (S := ovS S p hw) (by rw [e6]; exact hl.1) (by rw [e7]; exact hl.2) hP
theorem p_leave {hw wt : Int} {P : aIF → Prop} (h : XQ C S mm n c d p) (hp : p < n) (a2 : pru C S p) (ho : RPo S p) (h37 : S 37 p = 0) (hc : c ≤ 2000000000) (hw0 : (hw = 3 ∧ wt = 6) ∨ (hw = 4 ∧ wt = 2)) (k : ∀ (C' : aIF) (S' : aS), rV w mm mX10_isOver [aO 40 0, aI (p : Int), aI hw] S S' → XR C' S' mm n (c + 1) d → fp C S C' S' p → P C') : kMetV w mX7_leave [aO 21 0, aO 28 p, aI hw, aI wt] C S0 (rf mm) P := by
  have hn := h.2.1
  have hb := lgX_b h.2.2.2.2.2.2.2 hc
  have hr := XQ_rm h hp ho.1.1
  have h5 := h.2.2.2.2.1
  have hnum := h.2.2.2.1.1 p (by omega)
  have b2 := a2.1.2.1
  have h29 := ho.1.1
  refine gX7_leave (by omega) (gX2_leave (by omega) ?_)
  generalize hC1 : uI (uI (uI (uI (uI C 28 p 3 hw) 28 p 10 (C 21 0 5)) 28 p 4 0) 28 p 5 0) 29 p 2 0 = C1
  have kf1 : ∀ k i j, ¬ ((k = 28 ∧ i = p ∧ (j = 3 ∨ j = 4 ∨ j = 5 ∨ j = 10)) ∨ (k = 29 ∧ i = p ∧ j = 2)) → C1 k i j = C k i j := fun k i j z => by
    rw [← hC1, uI_no (by omega), uI_no (by omega), uI_no (by omega), uI_no (by omega), uI_no (by omega)]
  have q6 : C1 21 0 6 = S 25 0 := by rw [kf1 _ _ _ (by omega)]; exact h5.2
  have q5 : C1 21 0 5 = S 24 0 := by rw [kf1 _ _ _ (by omega)]; exact h5.1
  have q1 : C1 28 p 1 = (p : Int) := by rw [kf1 _ _ _ (by omega)]; exact hnum
  have q22 : C1 22 0 4 = C 22 0 4 := kf1 _ _ _ (by omega)
  rw [q6, q5, q1, b2]
  refine ⟨by omega, sX4_add (by rw [uI_k rfl, q22]; exact hb.1) ?_⟩
  generalize hC2 : uI C1 21 0 6 (S 25 0 + S 29 p) = C2
  have kf2 : ∀ k i j, ¬ ((k = 28 ∧ i = p ∧ (j = 3 ∨ j = 4 ∨ j = 5 ∨ j = 10)) ∨ (k = 29 ∧ i = p ∧ j = 2) ∨ (k = 21 ∧ i = 0 ∧ j = 6)) → C2 k i j = C k i j := fun k i j z => by
    rw [← hC2, uI_no (by omega), kf1 k i j (by omega)]
  have sfO : ∀ f j, ¬ ((j = p ∧ (f = 28 ∨ f = 38 ∨ f = 37 ∨ f = 29 ∨ f = 30 ∨ f = 31)) ∨ (f = 25 ∧ j = 0)) → ovS S p hw f j = S f j := fun f j z => by
    unfold ovS
    rw [sU_ne (by omega), sU_ne (by omega), sU_ne (by omega), sU_ne (by omega), sU_ne (by omega), sU_ne (by omega), sU_ne (by omega)]
  obtain ⟨x1, x2⟩ := XR_over (C' := C2) (S' := ovS S p hw) (hw := hw) h hp a2 ho h37 kf2 (by rw [← hC2, uI_k rfl, ← hC1]; simp [uI]) (by rw [← hC2, uI_k rfl, ← hC1]; simp [uI]) (by rw [← hC2, uI_k rfl, ← hC1]; simp [uI]) (by rw [← hC2, uI_k rfl, ← hC1, ← h5.1]; simp [uI]) (by rw [← hC2, uI_k rfl, ← hC1]; simp [uI]) (by rw [← hC2, uI_s]) sfO (by simp [ovS, sU]) (by simp [ovS, sU]) (by simp [ovS, sU]) (by simp [ovS, sU]) (by simp [ovS, sU]) (by simp [ovS, sU]) (by simp [ovS, sU]) (by omega)
  have e24 : ovS S p hw 24 0 = S 24 0 := sfO _ _ (by omega)
  refine k _ (lgS (ovS S p hw) (p : Int) wt (S 29 p)) (fun C0 Q hQ => sX10_isOver (by omega) (by omega) ⟨hb.2.1, hb.2.2⟩ hw0 hQ) (XR_log x1 hp e24.symm) (fp_log x2)
theorem sX2_endRound {P : aIF → Prop} (hp : p < 6) (a2 : pru C S p) (h32 : 0 ≤ S 32 p ∧ S 32 p < 100000) (h40 : 0 ≤ S 40 p ∧ S 40 p < 100000) (hP : P (uI (uI (uI (uI C 28 p 16 (rhoF S p)) 28 p 15 (S 31 p)) 28 p 6 (S 32 p + 1)) 28 p 7 0)) : kMetV w mX2_endRound [aO 28 p] C S0 (rf mm) P := by
  obtain ⟨⟨b1, b2, b3, b4, b5, b6, b7, b8⟩, ⟨b9, b10, b11, b12, b13, b14, b15⟩, b16, b17, b18, b19⟩ := id a2
  unfold rhoF at hP
  refine gX2_endRound hp ?_
  rw [b5, b4, b13, b12]
  refine ⟨fun q => ⟨by omega, ?_⟩, fun q => ⟨fun q2 => ⟨by omega, ?_⟩, fun q2 => ⟨by omega, by omega, ?_⟩⟩⟩
  · rw [if_pos (Or.inl q)] at hP
    exact hP
  · rw [if_pos (Or.inr q2)] at hP
    exact hP
  · rw [if_neg (by omega)] at hP
    exact hP
/-- the end of an act; S is the reference's state ahead of it, nz S p what the component has -/
theorem p_endAct {P : aIF → Prop} (h : XQ C (nz S p) mm n c d p) (hp : p < n) (a2 : pru C (nz S p) p) (ha : RPa (nz S p) p) (hc : c + 2 ≤ 2000000000) (k : ∀ (C' : aIF) (S' : aS), (∀ (C0 : aIF) (Q : aS → Prop), Q S' → psT w mm C0 p S Q) → XR C' S' mm n (c + 2) d → fp C (nz S p) C' S' p → P C') : kMetV w mX7_endAct [aO 21 0, aO 28 p] C S0 (rf mm) P := by
  have hn := h.2.1
  have hb := lgX_b h.2.2.2.2.2.2.2 (show c ≤ 2000000000 by omega)
  have hpr := h.1.2.2.2 p (by omega) (by have := h.2.1.1; omega)
  have zf : ∀ f j, ¬ (j = p ∧ (f = 28 ∨ f = 37)) → nz S p f j = S f j := fun f j z => by
    unfold nz
    rw [sU_ne (by omega), sU_ne (by omega)]
  have mono : ∀ {C' : aIF} {S' : aS} {c' : Nat}, c' ≤ c + 2 → XR C' S' mm n c' d → XR C' S' mm n (c + 2) d := fun {C'} {S'} {c'} z x => by
    obtain ⟨x1, x2, x3, x4, x5, x6, x7, E, kk, x8, x9⟩ := x
    exact ⟨x1, x2, x3, x4, x5, x6, x7, E, kk, by omega, x9⟩
  obtain ⟨⟨b1, b2, b3, b4, b5, b6, b7, b8⟩, ⟨b9, b10, b11, b12, b13, b14, b15⟩, b16, b17, b18, b19⟩ := id a2
  obtain ⟨o1, o2, o3, o4, o5, o6, o7, o8⟩ := id ha
  have h11 := hpr.1.1
  have h14 := hpr.2.2.1.1
  have z33 := zf 33 p (by omega)
  have z32 := zf 32 p (by omega)
  have z31 := zf 31 p (by omega)
  have z40 := zf 40 p (by omega)
  have z41 := zf 41 p (by omega)
  have z42 := zf 42 p (by omega)
  have z11 := zf 11 p (by omega)
  have z14 := zf 14 p (by omega)
  have zr : rhoF (nz S p) p = rhoF S p := by
    unfold rhoF
    rw [z32, z31, z41, z40]
  have hrho : 0 ≤ rhoF S p ∧ rhoF S p ≤ S 32 p + 1 := by
    unfold rhoF
    split <;> omega
  refine gX7_endAct (by omega) (by omega) ⟨by omega, fun q => ?_, fun q => ?_⟩
  · -- a round's end
    have a2' : pru (uI C 28 p 7 (C 28 p 7 + 1)) (sU (nz S p) 33 p (C 28 p 7 + 1)) p := by
      have kf : ∀ k i j, ¬ (k = 28 ∧ i = p ∧ j = 7) → uI C 28 p 7 (C 28 p 7 + 1) k i j = C k i j := fun k i j z => uI_no (by omega)
      have sf : ∀ f j, ¬ (f = 33 ∧ j = p) → sU (nz S p) 33 p (C 28 p 7 + 1) f j = nz S p f j := fun f j z => sU_ne z
      refine ⟨⟨?_, ?_, ?_, ?_, ?_, ?_, ?_, ?_⟩, ⟨?_, ?_, ?_, ?_, ?_, ?_, ?_⟩, ?_, ?_, ?_, pru_ring a2 (fun j => kf 30 p j (by omega)) (sf 34 p (by omega)) (fun j => sf 44 j (by omega))⟩
      · rw [kf 28 p 3 (by omega), sf 28 p (by omega)]; exact b1
      · rw [kf 28 p 4 (by omega), sf 29 p (by omega)]; exact b2
      · rw [kf 28 p 5 (by omega), sf 30 p (by omega)]; exact b3
      · rw [kf 29 p 2 (by omega), sf 31 p (by omega)]; exact b4
      · rw [kf 28 p 6 (by omega), sf 32 p (by omega)]; exact b5
      · rw [uI_s, sU_s]
      · rw [kf 29 p 1 (by omega), sf 34 p (by omega)]; exact b7
      · rw [kf 28 p 8 (by omega), sf 35 p (by omega)]; exact b8
      · rw [kf 28 p 9 (by omega), sf 36 p (by omega)]; exact b9
      · rw [kf 28 p 11 (by omega), sf 37 p (by omega)]; exact b10
      · rw [kf 28 p 10 (by omega), sf 38 p (by omega)]; exact b11
      · rw [kf 28 p 16 (by omega), sf 40 p (by omega)]; exact b12
      · rw [kf 28 p 15 (by omega), sf 41 p (by omega)]; exact b13
      · rw [kf 28 p 12 (by omega), sf 42 p (by omega)]; exact b14
      · rw [kf 28 p 13 (by omega), sf 43 p (by omega)]; exact b15
      · rw [kf 28 p 14 (by omega), sf 39 p (by omega), sf 43 p (by omega)]; exact b16
      · rw [sf 42 p (by omega)]; exact b17
      · rw [sf 43 p (by omega)]; exact b18
    have w32' : sU (nz S p) 33 p (C 28 p 7 + 1) 32 p = S 32 p := by rw [sU_f rfl]; exact z32
    have w31' : sU (nz S p) 33 p (C 28 p 7 + 1) 31 p = S 31 p := by rw [sU_f rfl]; exact z31
    have w40' : sU (nz S p) 33 p (C 28 p 7 + 1) 40 p = S 40 p := by rw [sU_f rfl]; exact z40
    have wr : rhoF (sU (nz S p) 33 p (C 28 p 7 + 1)) p = rhoF S p := by
      unfold rhoF
      rw [w32', w31', w40', sU_f rfl, z41]
    refine sX2_endRound (S := sU (nz S p) 33 p (C 28 p 7 + 1)) (by omega) a2' (by rw [w32']; omega) (by rw [w40']; omega) ?_
    rw [wr, w31', w32']
    generalize hC3 : uI (uI (uI (uI (uI C 28 p 7 (C 28 p 7 + 1)) 28 p 16 (rhoF S p)) 28 p 15 (S 31 p)) 28 p 6 (S 32 p + 1)) 28 p 7 0 = C3
    have kf3 : ∀ k i j, ¬ (k = 28 ∧ i = p ∧ (j = 7 ∨ j = 16 ∨ j = 15 ∨ j = 6)) → C3 k i j = C k i j := fun k i j z => by
      rw [← hC3, uI_no (by omega), uI_no (by omega), uI_no (by omega), uI_no (by omega), uI_no (by omega)]
    have sf3 : ∀ f j, ¬ (j = p ∧ (f = 33 ∨ f = 40 ∨ f = 41 ∨ f = 32)) → S7 S p (rhoF S p) f j = nz S p f j := fun f j z => by
      unfold S7
      rw [sU_ne (by omega), sU_ne (by omega), sU_ne (by omega), sU_ne (by omega), sU_ne (by omega)]
      rfl
    obtain ⟨e1, e2, e3, e4, e5, e6, e7, e8, e9⟩ := XQ_end (C' := C3) (S' := S7 S p (rhoF S p)) (r := rhoF S p) h hp a2 ha kf3 (by rw [← hC3, uI_s]) (by rw [← hC3]; simp [uI]) (by rw [← hC3, z31]; simp [uI]) (by rw [← hC3, z32]; simp [uI]) sf3 (by simp [S7, sU]) (by simp [S7, sU]) (by rw [z31]; simp [S7, sU]) (by rw [z32]; simp [S7, sU]) (by omega) (by rw [z32]; exact hrho)
    have c6 : C3 28 p 6 = S 32 p + 1 := by rw [← hC3]; simp [uI]
    have c63 : C3 6 p 3 = S 14 p := by rw [kf3 _ _ _ (by omega)]; omega
    have c12 : C3 28 p 12 = S 42 p := by rw [kf3 _ _ _ (by omega)]; omega
    have c16 : C3 28 p 16 = rhoF S p := by rw [← hC3]; simp [uI]
    have c215 : C3 21 0 5 = nz S p 24 0 := e1.2.2.2.2.1.1 |> fun z => by rw [z]; exact sf3 24 0 (by omega)
    have c281 : C3 28 p 1 = (p : Int) := by rw [kf3 _ _ _ (by omega)]; exact h.2.2.2.1.1 p (by omega)
    have c292 : C3 29 p 2 = S 31 p := by rw [kf3 _ _ _ (by omega)]; omega
    rw [z32, z14] at e4
    have t24 : S7 S p (rhoF S p) 24 0 = nz S p 24 0 := sf3 24 0 (by omega)
    -- no leaker is told of
    have plain : ¬ (S 42 p = 0 ∧ 3 ≤ rhoF S p) → (S 32 p + 1 < S 14 p → P C3) ∧ (¬ S 32 p + 1 < S 14 p → kMetV w mX7_leave [aO 21 0, aO 28 p, aI 3, aI 6] C3 S0 (rf mm) P) := fun nl => by
      refine ⟨fun z => k C3 _ (fun C0 Q hQ => psT_end (by omega) (by omega) (by omega) (by omega) (fun _ _ => hQ) (fun _ y => absurd y (by omega)) (fun y => absurd y nl)) (mono (by omega) (XR_of e1 e2 (e4 z))) e3, fun z => ?_⟩
      refine p_leave e1 hp e2 e5 e6 (by omega) (Or.inl ⟨rfl, rfl⟩) (fun C' S' r1 r2 r3 => k C' S' (fun C0 Q hQ => psT_end (by omega) (by omega) (by omega) (by omega) (fun _ y => absurd y (by omega)) (fun _ _ => r1 C0 Q hQ) (fun y => absurd y nl)) (mono (by omega) r2) (fp_trans e3 r3))
    rw [c6, c63, c12, c16, c215, c281, c292]
    refine ⟨fun q2 => ?_, fun q2 => ⟨fun q3 => ?_, fun q3 => ?_⟩⟩
    · exact plain (fun z => q2 z.1)
    · exact plain (fun z => by omega)
    · have lk : S 42 p = 0 ∧ 3 ≤ rhoF S p := ⟨q2, by omega⟩
      obtain ⟨f1, f2, f3, f4, f5⟩ := XQ_leak (C' := uI C3 28 p 12 1) (S' := sU (S7 S p (rhoF S p)) 42 p 1) e1 hp e2 (fun k i j z => uI_no z) uI_s (fun f j z => sU_ne z) sU_s
      have hb3 := lgX_b f1.2.2.2.2.2.2.2 (show c ≤ 2000000000 by omega)
      have u24 : sU (S7 S p (rhoF S p)) 42 p 1 24 0 = nz S p 24 0 := by rw [sU_f rfl]; exact t24
      have u32 : sU (S7 S p (rhoF S p)) 42 p 1 32 p = S 32 p + 1 := by rw [sU_f rfl]; simp [S7, sU]
      have u14 : sU (S7 S p (rhoF S p)) 42 p 1 14 p = S 14 p := by rw [sU_f rfl]; omega
      refine sX4_add hb3.1 ?_
      generalize hC5 : lgC (uI C3 28 p 12 1) (nz S p 24 0) (p : Int) 7 (S 31 p) = C5
      generalize hS5 : lgS (sU (S7 S p (rhoF S p)) 42 p 1) (p : Int) 7 (S 31 p) = S5
      have g1 : XQ C5 S5 mm n (c + 1) d p := by
        rw [← hC5, ← hS5]
        exact XQ_log (p := p) f1 hp u24.symm
      have g2 : pru C5 S5 p := by
        rw [← hC5, ← hS5]
        exact pru_log f2
      have g3 : fp C (nz S p) C5 S5 p := by
        rw [← hC5, ← hS5]
        exact fp_log (fp_trans e3 f3)
      have v6 : C5 28 p 6 = S 32 p + 1 := by rw [← hC5, lgC_o (by omega), uI_j rfl]; exact c6
      have v63 : C5 6 p 3 = S 14 p := by rw [← hC5, lgC_o (by omega), uI_k rfl]; exact c63
      have y32 : S5 32 p = S 32 p + 1 := by rw [← hS5, lgS_o (by omega)]; exact u32
      have y14 : S5 14 p = S 14 p := by rw [← hS5, lgS_o (by omega)]; exact u14
      have y37 : S5 37 p = 0 := by rw [← hS5, lgS_o (by omega), sU_f rfl]; exact e6
      have tl : ∀ (C0 : aIF) (Q : aS → Prop), ((S5 32 p ≠ S5 14 p → Q S5) ∧ (S5 32 p = S5 14 p → rMetV w mX10_isOver [aO 40 0, aI (p : Int), aI 3] C0 S5 (rf mm) Q)) → psT w mm C0 p S Q := fun C0 Q hQ =>
        psT_end (by omega) (by omega) (by omega) (by omega) (fun y => absurd lk y) (fun y => absurd lk y) (fun _ => sX10_tells hb3.2.1 hb3.2.2 (by rw [hS5]; exact hQ))
      rw [v6, v63]
      refine ⟨fun z => k C5 S5 (fun C0 Q hQ => tl C0 Q ⟨fun _ => hQ, fun y => absurd y (by omega)⟩) (mono (by omega) (XR_of g1 g2 ?_)) g3, fun z => ?_⟩
      · rw [← hS5]
        exact RP_log (f4 (e4 z))
      · refine p_leave g1 hp g2 ?_ y37 (by omega) (Or.inl ⟨rfl, rfl⟩) (fun C' S' r1 r2 r3 => k C' S' (fun C0 Q hQ => tl C0 Q ⟨fun y => absurd (by omega) y, fun _ => r1 C0 Q hQ⟩) (mono (by omega) r2) (fp_trans g3 r3))
        rw [← hS5]
        exact RPo_log (f5 e5)
  · obtain ⟨e1, e2⟩ := XR_mid (C' := uI C 28 p 7 (C 28 p 7 + 1)) (S' := sU (nz S p) 33 p (S 33 p + 1)) h hp a2 ha (fun k i j z => uI_no z) (by rw [uI_s, b6]) (fun f j z => sU_ne z) (by rw [sU_s, z33]) (by omega)
    exact k _ _ (fun C0 Q hQ => psT_mid (by omega) (by omega) hQ) (mono (by omega) e1) e2
end A2
