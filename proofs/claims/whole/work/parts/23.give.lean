/-! RUN: collecting and giving -/
def coS (S : aS) (p : Nat) (x : Int) : aS := lgS (sU (sU (sU S 35 p (w32 (S 35 p + x))) 36 p (w32 (S 36 p + x))) 30 p (S 31 p)) (p : Int) 0 x
def coC (C : aIF) (S : aS) (p : Nat) (x : Int) : aIF := lgC (uI (uI (uI C 28 p 5 (S 31 p)) 28 p 8 (w32 (C 28 p 8 + x))) 28 p 9 (w32 (C 28 p 9 + x))) (S 24 0) (p : Int) 0 x
theorem XR_up {C : aIF} {S : aS} {mm n c c' : Nat} {d : Int} (hc : c ≤ c') (h : XR C S mm n c d) : XR C S mm n c' d := by
  obtain ⟨x1, x2, x3, x4, x5, x6, x7, E, kk, x8, x9⟩ := h
  exact ⟨x1, x2, x3, x4, x5, x6, x7, E, kk, by omega, x9⟩
section GV
variable {w : aW} {S0 : aS} {C : aIF} {S : aS} {mm n c p : Nat} {d : Int}
theorem p_collect {P : Int → aIF → Prop} (h : XR C S mm n c d) (hp : p < n) (hc : c ≤ 2000000000) (hP : P (costF (S 13 p) (S 31 p) (S 30 p)) (coC C S p (costF (S 13 p) (S 31 p) (S 30 p)))) : kMetI w mX7_collect [aO 21 0, aO 28 p] C S0 (rf mm) P := by
  obtain ⟨a1, a2, a3, a4, a5, a6, a7⟩ := XR_at h hp
  have hb := lgX_b h.2.2.2.2.2.2.2 hc
  have h5 := h.2.2.2.2.1.1
  have hnum := h.2.2.2.1.1 p a1.1
  have c2 := a2.1.2.2.2.1
  have c3 := a2.1.2.2.1
  refine gX7_collect a1.1 (gX2_collectNow a1.1 a1.2 ?_)
  rw [c2, c3]
  refine sX1_cost a1.1 a4.2.1 (by omega) (by omega) ?_
  rw [uI_k rfl, uI_k rfl, uI_k rfl, h5, uI_j rfl, uI_j rfl, uI_j rfl, hnum]
  refine sX4_add (by rw [uI_k rfl, uI_k rfl, uI_k rfl]; exact hb.1) ?_
  rw [c2]
  exact hP
theorem sX10_collects {C0 : aIF} {m0 : Nat} {P : Int → aS → Prop} (h : XR C S mm n c d) (hp : p < n) (hc : c ≤ 2000000000) (hP : P (costF (S 13 p) (S 31 p) (S 30 p)) (coS S p (costF (S 13 p) (S 31 p) (S 30 p)))) : rMetI w mX10_collects [aO 40 0, aI (p : Int)] C0 S (rf m0) P := by
  obtain ⟨a1, a2, a3, a4, a5, a6, a7⟩ := XR_at h hp
  have hb := lgX_b h.2.2.2.2.2.2.2 hc
  refine gX10_collects ⟨a1.1, sX10_cost (by omega) (by omega) ?_⟩
  refine sX10_tells ?_ ?_ hP
  · rw [sU_f rfl, sU_f rfl, sU_f rfl]
    exact hb.2.1
  · rw [sU_f rfl, sU_f rfl, sU_f rfl]
    exact hb.2.2
/-- one gives room -/
theorem p_give {a : Int} {P : aIF → Prop} (h : XR C S mm n c d) (hp : p < n) (ha : 0 < a) (has : a ≤ spF S p) (hdv : S 5 0 ∣ a) (hc : c + 2 ≤ 2000000000)
    (k : ∀ (C' : aIF) (S' : aS), rV w mm mX10_gives [aO 40 0, aI (p : Int), aI a] S S' → XR C' S' mm n (c + 2) (d + a) → fp C S C' S' p → S' 29 p = S 29 p - a → S' 31 p = S 31 p → S' 25 0 = S 25 0 → (S' 28 p = S 28 p ∨ (S 28 p ≠ 2 ∧ S' 28 p = 1)) → S 28 p ≤ 2 → P C') : kMetV w mX7_give [aO 21 0, aO 28 p, aI a] C S0 (rf mm) P := by
  obtain ⟨a1, a2, a3, a4, a5, a6, a7⟩ := XR_at h hp
  obtain ⟨s1, s2, s3, s4, s5⟩ := spF_is h hp
  have hr := XR_rm h hp
  have hb := lgX_b h.2.2.2.2.2.2.2 (show c ≤ 2000000000 by omega)
  have h5 := h.2.2.2.2.1.1
  have hnum := h.2.2.2.1.1 p a1.1
  have h28 : S 28 p ≤ 2 := by
    by_cases e : 3 ≤ S 28 p
    · have := s5 e
      omega
    · omega
  have hl := s4 a has ha
  have c4 := a2.1.2.1
  have c5 := a2.1.2.2.1
  have hdr : S 5 0 ∣ S 29 p - a := Int.dvd_sub a3.1.2 hdv
  have hd0 := h.2.2.2.2.2.2.1.2
  have hde : d + (S 29 p - (S 29 p - a)) = d + a := by omega
  refine gX7_give a1.1 a1.2 ⟨by omega, ?_⟩
  rw [c4, c5]
  refine sX1_holds a1.1 a4.2.1 (by omega) ⟨fun q => ⟨by omega, ?_⟩, fun q => ?_⟩
  · rw [h5, hnum, c4]
    refine sX4_add (by rw [uI_k rfl]; exact hb.1) ?_
    obtain ⟨x1, x2⟩ := XR_room (C' := uI C 28 p 4 (S 29 p - a)) (S' := sU S 29 p (S 29 p - a)) (r := S 29 p - a) h hp (fun k i j z => uI_no z) uI_s (fun f j z => sU_ne z) sU_s (by omega) hdr q h28 (fun z => by have := (a3.2.2.2.2.2.2.2.2.2.1 z).1; omega) (by omega)
    rw [hde] at x1
    have e24 : sU S 29 p (S 29 p - a) 24 0 = S 24 0 := sU_f rfl
    refine k _ (lgS (sU S 29 p (S 29 p - a)) (p : Int) 3 a) (fun C0 Q hQ => ?_) (XR_up (by omega) (XR_log x1 hp e24.symm)) (fp_log x2) (by rw [lgS_o (by omega), sU_s]) (by rw [lgS_o (by omega), sU_f rfl]) (by rw [lgS_o (by omega), sU_f rfl]) (Or.inl (by rw [lgS_o (by omega), sU_f rfl])) h28
    exact gX10_gives ⟨a1.1, by omega, sX10_holds (by omega) ⟨fun _ => ⟨by omega, sX10_tells (by rw [sU_f rfl]; exact hb.2.1) (by rw [sU_f rfl]; exact hb.2.2) hQ⟩, fun z => absurd q z⟩⟩
  · refine p_collect h hp (by omega) ?_
    have hx := cost_bd (cp := S 13 p) a7
    have hlu : S 31 p < S 30 p := by omega
    obtain ⟨y1, y2, y3, y4, y5, y6, y7⟩ := XR_col (C' := coC C S p (costF (S 13 p) (S 31 p) (S 30 p))) (S' := coS S p (costF (S 13 p) (S 31 p) (S 30 p))) h hp hlu rfl rfl rfl
    generalize hC1 : coC C S p (costF (S 13 p) (S 31 p) (S 30 p)) = C1 at *
    generalize hS1 : coS S p (costF (S 13 p) (S 31 p) (S 30 p)) = S1 at *
    generalize hX : costF (S 13 p) (S 31 p) (S 30 p) = x at *
    obtain ⟨b1, b2, b3, b4, b5, b6, b7⟩ := XR_at y1 hp
    have t29 := y5 29 (by omega) (by omega) (by omega) (by omega) (by omega) (by omega)
    have t28 := y5 28 (by omega) (by omega) (by omega) (by omega) (by omega) (by omega)
    have t31 := y5 31 (by omega) (by omega) (by omega) (by omega) (by omega) (by omega)
    have t37 := y5 37 (by omega) (by omega) (by omega) (by omega) (by omega) (by omega)
    have t43 := y5 43 (by omega) (by omega) (by omega) (by omega) (by omega) (by omega)
    have t13 := y5 13 (by omega) (by omega) (by omega) (by omega) (by omega) (by omega)
    have t39 := y5 39 (by omega) (by omega) (by omega) (by omega) (by omega) (by omega)
    have t5 : S1 5 0 = S 5 0 := y2.2.2.2.1 5 0 (by omega)
    have t24 : S1 24 0 = S 24 0 := y2.2.2.2.1 24 0 (by omega)
    have hb1 := lgX_b y1.2.2.2.2.2.2.2 (show c + 1 ≤ 2000000000 by omega)
    have u3 := b2.1.1
    have u4 := b2.1.2.1
    have u11 := b2.2.1.2.1
    have u5 := y1.2.2.2.2.1.1
    have unum := y1.2.2.2.1.1 p a1.1
    rw [u3, u11]
    have hde1 : d + (S1 29 p - (S1 29 p - a)) = d + a := by omega
    refine ⟨fun q2 => ⟨by omega, ?_⟩, fun q2 => ⟨?_, ?_⟩⟩
    · rw [u5, unum, u4]
      refine sX4_add (by rw [uI_k rfl]; exact hb1.1) ?_
      obtain ⟨x1, x2⟩ := XR_room (C' := uI C1 28 p 4 (S1 29 p - a)) (S' := sU S1 29 p (S1 29 p - a)) (r := S1 29 p - a) y1 hp (fun k i j z => uI_no z) uI_s (fun f j z => sU_ne z) sU_s (by omega) (by rw [t5, t29]; exact hdr) (by rw [y4, t13, t29]; exact hl) (by omega) (fun z => by rw [t43] at z; have := (a3.2.2.2.2.2.2.2.2.2.1 z).1; omega) (by omega)
      rw [hde1] at x1
      have e24 : sU S1 29 p (S1 29 p - a) 24 0 = S1 24 0 := sU_f rfl
      refine k _ (lgS (sU S1 29 p (S1 29 p - a)) (p : Int) 3 a) (fun C0 Q hQ => ?_) (XR_up (by omega) (XR_log x1 hp e24.symm)) (fp_log (fp_trans y2 x2)) (by rw [lgS_o (by omega), sU_s, t29]) (by rw [lgS_o (by omega), sU_f rfl, t31]) (by rw [lgS_o (by omega), sU_f rfl, y3]) (Or.inl (by rw [lgS_o (by omega), sU_f rfl, t28])) h28
      refine gX10_gives ⟨a1.1, by omega, sX10_holds (by omega) ⟨fun z => absurd z q, fun _ => sX10_collects h hp (by omega) ?_⟩⟩
      rw [hX, hS1]
      exact ⟨fun _ => ⟨by omega, sX10_tells (by rw [sU_f rfl]; exact hb1.2.1) (by rw [sU_f rfl]; exact hb1.2.2) hQ⟩, fun z => absurd q2 z⟩
    · have h37 := a3.2.2.2.2.2.1
      have : S 28 p ≠ 1 := fun z => by have := (a3.2.2.2.2.2.2.1 z).1; omega
      have h28b := a3.2.2.1
      have := h37 (by omega)
      omega
    · have h37 := a3.2.2.2.2.2.1
      have n1 : S 28 p ≠ 1 := fun z => by have := (a3.2.2.2.2.2.2.1 z).1; omega
      have h28b := a3.2.2.1
      have h370 := h37 (by omega)
      refine gX2_waitFor a1.1 ⟨fun z => absurd z (by omega), fun _ => ?_⟩
      obtain ⟨v1, v2⟩ := XR_wait (C' := uI (uI C1 28 p 11 (S1 37 p + x)) 28 p 3 1) (S' := sU (sU S1 28 p 1) 37 p (S1 37 p + x)) (hw := 1) (L := S1 37 p + x) y1 hp (fun k i j z => by rw [uI_no (by omega), uI_no (by omega)]) uI_s (by rw [uI_j rfl, uI_s]) (fun f j z => by rw [sU_ne (by omega), sU_ne (by omega)]) (by rw [sU_f rfl, sU_s]) sU_s (by omega) (Or.inr (Or.inl rfl)) (fun z => absurd z (by decide)) (fun _ => ⟨by omega, by omega, by omega, by omega⟩) (fun z => absurd z (by decide))
      generalize hC2 : uI (uI C1 28 p 11 (S1 37 p + x)) 28 p 3 1 = C2 at *
      generalize hS2 : sU (sU S1 28 p 1) 37 p (S1 37 p + x) = S2 at *
      have g29 : S2 29 p = S1 29 p := by rw [← hS2, sU_f rfl, sU_f rfl]
      have g28 : S2 28 p = 1 := by rw [← hS2, sU_f rfl, sU_s]
      have g30 : S2 30 p = S1 30 p := by rw [← hS2, sU_f rfl, sU_f rfl]
      have g31 : S2 31 p = S1 31 p := by rw [← hS2, sU_f rfl, sU_f rfl]
      have g13 : S2 13 p = S1 13 p := by rw [← hS2, sU_f rfl, sU_f rfl]
      have g43 : S2 43 p = S1 43 p := by rw [← hS2, sU_f rfl, sU_f rfl]
      have g5 : S2 5 0 = S1 5 0 := by rw [← hS2, sU_f rfl, sU_f rfl]
      have g25 : S2 25 0 = S1 25 0 := by rw [← hS2, sU_f rfl, sU_f rfl]
      have hb2 := lgX_b v1.2.2.2.2.2.2.2 (show c + 1 ≤ 2000000000 by omega)
      have w4 := (v1.2.2.2.1.2 p hp).1.1.2.1
      have w5 := v1.2.2.2.2.1.1
      have wnum := v1.2.2.2.1.1 p a1.1
      rw [w4, w5, wnum, g29]
      refine ⟨by omega, sX4_add (by rw [uI_k rfl]; exact hb2.1) ?_⟩
      obtain ⟨x1, x2⟩ := XR_room (C' := uI C2 28 p 4 (S1 29 p - a)) (S' := sU S2 29 p (S1 29 p - a)) (r := S1 29 p - a) v1 hp (fun k i j z => uI_no z) uI_s (fun f j z => sU_ne z) sU_s (by omega) (by rw [g5, t5, t29]; exact hdr) (by rw [g30, y4, g13, t13, t29]; exact hl) (by omega) (fun z => by omega) (by omega)
      rw [g29, hde1] at x1
      have e24 : sU S2 29 p (S1 29 p - a) 24 0 = S2 24 0 := sU_f rfl
      refine k _ (lgS (sU S2 29 p (S1 29 p - a)) (p : Int) 3 a) (fun C0 Q hQ => ?_) (XR_up (by omega) (XR_log x1 hp e24.symm)) (fp_log (fp_trans y2 (fp_trans v2 x2))) (by rw [lgS_o (by omega), sU_s, t29]) (by rw [lgS_o (by omega), sU_f rfl, g31, t31]) (by rw [lgS_o (by omega), sU_f rfl, g25, y3]) (Or.inr ⟨by omega, by rw [lgS_o (by omega), sU_f rfl, g28]⟩) h28
      refine gX10_gives ⟨a1.1, by omega, sX10_holds (by omega) ⟨fun z => absurd z q, fun _ => sX10_collects h hp (by omega) ?_⟩⟩
      rw [hX, hS1]
      refine ⟨fun z => absurd z q2, fun _ => ⟨by omega, by omega, ?_⟩⟩
      rw [hS2]
      exact sX10_tells (by rw [sU_f rfl]; exact hb2.2.1) (by rw [sU_f rfl]; exact hb2.2.2) hQ
end GV
