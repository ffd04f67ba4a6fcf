/-! RUN: one program's step in a tick -/
def tkF (C : aIF) (S : aS) (C' : aIF) (S' : aS) : Prop := (∀ k i j, k < 21 → C' k i j = C k i j) ∧ (∀ j, j ≠ 6 → C' 21 0 j = C 21 0 j) ∧ ∀ f j, f < 25 → S' f j = S f j
theorem tkF_refl {C : aIF} {S : aS} : tkF C S C S := ⟨fun _ _ _ _ => rfl, fun _ _ => rfl, fun _ _ _ => rfl⟩
theorem tkF_trans {C C1 C2 : aIF} {S S1 S2 : aS} (h : tkF C S C1 S1) (k : tkF C1 S1 C2 S2) : tkF C S C2 S2 := by
  obtain ⟨a1, a2, a3⟩ := h
  obtain ⟨b1, b2, b3⟩ := k
  exact ⟨fun k i j z => by rw [b1 k i j z, a1 k i j z], fun j z => by rw [b2 j z, a2 j z], fun f j z => by rw [b3 f j z, a3 f j z]⟩
theorem tkF_fp {C C' : aIF} {S S' : aS} {p : Nat} (h : fp C S C' S' p) : tkF C S C' S' := ⟨h.1, h.2.1, h.2.2.2.1⟩
theorem tkF_hF {C C' : aIF} {S S' : aS} {p : Nat} {M : Int} (h : hF C S C' S' p M) : tkF C S C' S' := ⟨h.1, h.2.1, h.2.2.1⟩
theorem uI_id {C : aIF} {k i j : Nat} {v : Int} (h : C k i j = v) : uI C k i j v = C := by
  funext a b c
  by_cases e : a = k ∧ b = i ∧ c = j
  · obtain ⟨rfl, rfl, rfl⟩ := e
    rw [uI_s, h]
  · exact uI_no e
section AC
variable {w : aW} {S0 : aS} {C : aIF} {S : aS} {mm n c p : Nat} {d : Int}
theorem RPo_of (h : XR C S mm n c d) (hp : p < n) (h28 : S 28 p = 0) : RPo S p := by
  have a3 := (h.2.2.2.1.2 p hp).2
  obtain ⟨r1, r2, r3, r4, r5, r6, r7, r8, r9, r10, r11, r12⟩ := a3
  exact ⟨r1, (r6 h28).2, r4, r11.1, r11.2.1, r11.2.2.2.1, r11.2.2.2.2⟩
theorem p_end0 {P : aIF → Prop} (h : XQ C S mm n c d p) (hp : p < n) (a2 : pru C S p) (ha : RPa S p) (hc : c + 2 ≤ 2000000000) (k : ∀ (C' : aIF) (S' : aS), rV w mm mX10_passes [aO 40 0, aI (p : Int)] S S' → XR C' S' mm n (c + 2) d → fp C S C' S' p → P C') : kMetV w mX7_endAct [aO 21 0, aO 28 p] C S0 (rf mm) P := by
  have hz : nz S p = S := nz_id ha.2.2.1.1 ha.2.2.1.2.1
  have h6 := h.2.1
  refine p_endAct (S := S) (by rw [hz]; exact h) hp (by rw [hz]; exact a2) (by rw [hz]; exact ha) hc (fun C' S' r1 r2 r3 => k C' S' (fun C0 Q hQ => passes_go (by omega) (Or.inl (by rw [ha.2.2.1.1]; decide)) (r1 C0 Q hQ)) r2 (by rw [hz] at r3; exact r3))
theorem p_make {v : Int} {P : aIF → Prop} (h : XR C S mm n c d) (hp : p < n) (h28 : S 28 p = 0) (hv : 0 < v ∧ v ≤ 99) (hf : S 30 p + v ≤ holdF (S 13 p) (S 29 p)) (hc : c + 2 ≤ 2000000000) (k : ∀ (C' : aIF) (S' : aS), rV w mm mX10_makes [aO 40 0, aI (p : Int), aI v] S S' → XR C' S' mm n (c + 2) d → fp C S C' S' p → P C') : kMetV w mX2_makeNow [aO 28 p, aI v] C S0 (rf mm) (fun C8 => kMetV w mX7_endAct [aO 21 0, aO 28 p] C8 S0 (rf mm) P) := by
  obtain ⟨a1, a2, a3, a4, a5, a6, a7⟩ := XR_at h hp
  have r4 := a3.2.2.2.1
  have r5 := a3.2.2.2.2.1 (by omega)
  obtain ⟨N, h34⟩ : ∃ N : Nat, S 34 p = (N : Int) := ⟨(S 34 p).toNat, by omega⟩
  have c1 := a2.1.2.2.2.2.2.2.1
  have c2 := a2.1.2.2.2.1
  have c5 := a2.1.2.2.1
  have ra := RPa_of h hp h28
  have pb := pg_bd ra.2.2.2.1.1 ra.2.2.2.2.1.2.1 ra.2.2.2.2.1.2.2.1 ra.2.2.2.1.2.1 ra.2.2.2.2.1.1 ra.2.2.2.2.1.2.2.2
  have hN : N < 2400 := by omega
  obtain ⟨x1, x2, x3, x4⟩ := XQ_make (C' := uI (uI (uI (uI C 30 p (N % 60) v) 29 p 1 ((N : Int) + 1)) 29 p 2 (S 31 p + v)) 28 p 5 (S 30 p + v)) (S' := sU (sU (sU (sU S 44 (2400 * p + N) v) 34 p (S 34 p + 1)) 31 p (S 31 p + v)) 30 p (S 30 p + v)) h hp h28 hv hf h34 (fun k i j z => by rw [uI_no (by omega), uI_no (by omega), uI_no (by omega), uI_no (by omega)]) (by rw [uI_k rfl, uI_k rfl, uI_k rfl, uI_s]) (by rw [uI_k rfl, uI_j rfl, uI_s, h34]) (by rw [uI_k rfl, uI_s]) uI_s (fun f j z => by rw [sU_ne (by omega), sU_ne (by omega), sU_ne (by omega), sU_ne (by omega)]) (by rw [sU_f rfl, sU_f rfl, sU_f rfl, sU_s]) (by rw [sU_f rfl, sU_f rfl, sU_s]) (by rw [sU_f rfl, sU_s]) sU_s
  refine gX2_makeNow a1.1 (gX6_add_r a1.1 ?_)
  rw [c1, c2, h34]
  refine ⟨by omega, by omega, by omega, by omega, ?_⟩
  rw [uI_k rfl, uI_k rfl, uI_k rfl, c5, show ((N : Int) % 60).toNat = N % 60 by omega]
  refine ⟨by omega, ?_⟩
  refine p_end0 x1 hp x2 x3 hc (fun C' S' r1 r2 r3 => k C' S' (fun C0 Q hQ => gX10_makes ⟨by omega, a1.1, by omega, by omega, by omega, by omega, by omega, ?_⟩) r2 (fp_trans x4 r3))
  rw [show (2400 * (p : Int) + S 34 p).toNat = 2400 * p + N by omega]
  exact r1 C0 Q hQ
theorem act_ok (h : XR C S mm n c d) (hp : p < n) (h28 : S 28 p ≤ 2) : C 7 p (S 33 p).toNat = S 12 ((60 * (p : Int) + S 33 p).toNat) ∧ actOK (S 12 ((60 * (p : Int) + S 33 p).toNat)) ∧ 0 ≤ S 33 p ∧ S 33 p < 60 := by
  obtain ⟨a1, a2, a3, a4, a5, a6, a7⟩ := XR_at h hp
  have r4 := a3.2.2.2.1
  have r5 := a3.2.2.2.2.1 h28
  have p1 := a4.1
  have hk := a4.2.2.2.2 (S 33 p).toNat (by omega) (by omega)
  rw [show 60 * p + (S 33 p).toNat = (60 * (p : Int) + S 33 p).toNat by omega] at hk
  exact ⟨hk.1, hk.2, by omega, by omega⟩
theorem sX2_nextAct {a : Int} {P : Int → aIF → Prop} (h : XR C S mm n c d) (hp : p < n) (h28 : S 28 p ≤ 2) (hA : S 12 ((60 * (p : Int) + S 33 p).toNat) = a) (hP : P a C) : kMetI w mX2_nextAct [aO 28 p] C S0 (rf mm) P := by
  obtain ⟨a1, a2, a3, a4, a5, a6, a7⟩ := XR_at h hp
  have r5 := a3.2.2.2.2.1 h28
  have c7 := a2.1.2.2.2.2.2.1
  have p1 := a4.1
  have hk := act_ok h hp h28
  refine gX2_nextAct a1.1 a1.2 ?_
  rw [c7, p1.1]
  refine ⟨fun z => absurd z (by omega), fun _ => ⟨fun z => absurd z (by omega), fun _ => ⟨by omega, ?_⟩⟩⟩
  rw [hk.1, hA]
  exact hP
/-- a program that is about to make -/
theorem p_tryMake {a : Int} {P : aIF → Prop} (h : XR C S mm n c 0) (hp : p < n) (h28 : S 28 p = 0) (hA : S 12 ((60 * (p : Int) + S 33 p).toNat) = a) (ha : 0 < a ∧ a ≤ 99) (hc : c + 150 ≤ 2000000000) (k : ∀ (C' : aIF) (S' : aS), rV w mm mX10_acts [aO 40 0, aI (p : Int)] S S' → XR C' S' mm n (c + 150) 0 → tkF C S C' S' → P C') : kMetV w mX7_tryMake [aO 21 0, aO 28 p] C S0 (rf mm) P := by
  obtain ⟨a1, a2, a3, a4, a5, a6, a7⟩ := XR_at h hp
  have hr := XR_rm h hp
  have hk := act_ok h hp (by omega)
  have c5 := a2.1.2.2.1
  have c4 := a2.1.2.1
  have c2 := a2.1.2.2.2.1
  have h6 := a3.2.2.2.2.2.1 h28
  have ref : ∀ (C0 : aIF) (Q : aS → Prop), (S 30 p + a ≤ holdF (S 13 p) (S 29 p) → rMetV w mX10_makes [aO 40 0, aI (p : Int), aI a] C0 S (rf mm) Q) → (¬ S 30 p + a ≤ holdF (S 13 p) (S 29 p) → S 30 p ≤ S 31 p → rMetI w mX10_asks [aO 40 0, aI (p : Int), aI a] C0 S (rf mm) (fun x S' => (x = 0 → rMetV w mX10_isOver [aO 40 0, aI (p : Int), aI 4] C0 S' (rf mm) Q) ∧ (¬ (x = 0) → rMetV w mX10_makes [aO 40 0, aI (p : Int), aI a] C0 S' (rf mm) Q))) → (¬ S 30 p + a ≤ holdF (S 13 p) (S 29 p) → ¬ (S 30 p ≤ S 31 p) → rMetI w mX10_collects [aO 40 0, aI (p : Int)] C0 S (rf mm) (fun x S' => (-2147483648 ≤ x - 1 ∧ x - 1 < 2147483648) ∧ ((x - 1 ≤ 0 → Q (sU (sU S' 37 p (x - 1)) 28 p 0)) ∧ (¬ (x - 1 ≤ 0) → Q (sU (sU S' 37 p (x - 1)) 28 p 1))))) → rMetV w mX10_acts [aO 40 0, aI (p : Int)] C0 S (rf mm) Q := fun C0 Q k1 k2 k3 => by
    refine gX10_acts ?_
    rw [hA]
    exact ⟨by omega, a1.1, by omega, by omega, fun _ => ⟨fun _ => ⟨fun z => absurd z (by omega), fun _ => ⟨fun _ => ⟨by omega, sX10_holds (by omega) ⟨fun z => ⟨k2 (by omega), k3 (by omega)⟩, fun z => k1 (by omega)⟩⟩, fun z => absurd z (by omega)⟩⟩, fun z => absurd ha.1 (by omega)⟩, fun z => absurd z (by omega)⟩
  refine gX7_tryMake a1.1 (sX2_nextAct h hp (by omega) hA (gX2_fits a1.1 a1.2 ?_))
  rw [c5, c4]
  refine ⟨by omega, sX1_holds a1.1 a4.2.1 (by omega) ⟨fun z => ⟨fun z0 => absurd rfl z0, fun _ => ⟨fun z1 => ?_, fun z1 => ?_⟩⟩, fun z => ⟨fun _ => ?_, fun z0 => absurd z0 (by decide)⟩⟩⟩
  · rw [c5, c2] at z1
    refine p_asks hp h ha h28 (by omega) (by omega) (fun r0 => ⟨fun z2 => absurd rfl z2, fun _ => ?_⟩) (fun C1 S1 M r1 r2 r3 r4 => ⟨fun _ => ?_, fun z2 => absurd z2 (by decide)⟩)
    · exact p_leave (XQ_of p h) hp a2 (RPo_of h hp h28) h6.1 (by omega) (Or.inr ⟨rfl, rfl⟩) (fun C' S' r1 r2 r3 => k C' S' (fun C0 Q hQ => ref C0 Q (fun y => absurd y (by omega)) (fun _ _ => r0 C0 _ ⟨fun _ => r1 C0 Q hQ, fun y => absurd rfl y⟩) (fun _ y => absurd z1 y)) (XR_up (by omega) r2) (tkF_fp r3))
    · have t28 := r3.2.2.2.1 28 (by omega) (by omega) (by omega)
      have t30 := r3.2.2.2.1 30 (by omega) (by omega) (by omega)
      have t13 := r3.2.2.1 13 p (by omega)
      exact p_make r2 hp (by rw [t28]; exact h28) ha (by rw [t30, t13, r3.2.2.2.2.1]; exact r4) (by omega) (fun C' S' q1 q2 q3 => k C' S' (fun C0 Q hQ => ref C0 Q (fun y => absurd y (by omega)) (fun _ _ => r1 C0 _ ⟨fun y => absurd y (by decide), fun _ => q1 C0 Q hQ⟩) (fun _ y => absurd z1 y)) (XR_up (by omega) q2) (tkF_trans (tkF_hF r3) (tkF_fp q3)))
  · rw [c5, c2] at z1
    have hx := cost_bd (cp := S 13 p) a7
    obtain ⟨y1, y2, y3, y4, y5, y6, y7⟩ := XR_col (C' := coC C S p (costF (S 13 p) (S 31 p) (S 30 p))) (S' := coS S p (costF (S 13 p) (S 31 p) (S 30 p))) h hp (by omega) rfl rfl rfl
    have t28 := y5 28 (by omega) (by omega) (by omega) (by omega) (by omega) (by omega)
    have t31 := y5 31 (by omega) (by omega) (by omega) (by omega) (by omega) (by omega)
    have t43 := y5 43 (by omega) (by omega) (by omega) (by omega) (by omega) (by omega)
    refine p_collect h hp (by omega) ⟨by omega, gX2_waitFor a1.1 ⟨fun z2 => ?_, fun z2 => ?_⟩⟩
    · obtain ⟨v1, v2⟩ := XR_wait (C' := uI (uI (coC C S p (costF (S 13 p) (S 31 p) (S 30 p))) 28 p 11 (costF (S 13 p) (S 31 p) (S 30 p) - 1)) 28 p 3 0) (S' := sU (sU (coS S p (costF (S 13 p) (S 31 p) (S 30 p))) 37 p (costF (S 13 p) (S 31 p) (S 30 p) - 1)) 28 p 0) (hw := 0) (L := costF (S 13 p) (S 31 p) (S 30 p) - 1) y1 hp (fun k i j z => by rw [uI_no (by omega), uI_no (by omega)]) uI_s (by rw [uI_j rfl, uI_s]) (fun f j z => by rw [sU_ne (by omega), sU_ne (by omega)]) sU_s (by rw [sU_f rfl, sU_s]) (by omega) (Or.inl rfl) (fun _ => ⟨by omega, by omega⟩) (fun z => absurd z (by decide)) (fun z => absurd z (by decide))
      exact k _ _ (fun C0 Q hQ => ref C0 Q (fun y => absurd y (by omega)) (fun _ y => absurd y z1) (fun _ _ => sX10_collects h hp (by omega) ⟨by omega, fun _ => hQ, fun y => absurd z2 y⟩)) (XR_up (by omega) v1) (tkF_fp (fp_trans y2 v2))
    · obtain ⟨v1, v2⟩ := XR_wait (C' := uI (uI (coC C S p (costF (S 13 p) (S 31 p) (S 30 p))) 28 p 11 (costF (S 13 p) (S 31 p) (S 30 p) - 1)) 28 p 3 1) (S' := sU (sU (coS S p (costF (S 13 p) (S 31 p) (S 30 p))) 37 p (costF (S 13 p) (S 31 p) (S 30 p) - 1)) 28 p 1) (hw := 1) (L := costF (S 13 p) (S 31 p) (S 30 p) - 1) y1 hp (fun k i j z => by rw [uI_no (by omega), uI_no (by omega)]) uI_s (by rw [uI_j rfl, uI_s]) (fun f j z => by rw [sU_ne (by omega), sU_ne (by omega)]) sU_s (by rw [sU_f rfl, sU_s]) (by omega) (Or.inr (Or.inl rfl)) (fun z => absurd z (by decide)) (fun _ => ⟨by omega, by omega, by omega, by omega⟩) (fun z => absurd z (by decide))
      exact k _ _ (fun C0 Q hQ => ref C0 Q (fun y => absurd y (by omega)) (fun _ y => absurd y z1) (fun _ _ => sX10_collects h hp (by omega) ⟨by omega, fun y => absurd y z2, fun _ => hQ⟩)) (XR_up (by omega) v1) (tkF_fp (fp_trans y2 v2))
  · exact p_make h hp h28 ha (by omega) (by omega) (fun C' S' q1 q2 q3 => k C' S' (fun C0 Q hQ => ref C0 Q (fun _ => q1 C0 Q hQ) (fun y => absurd (by omega) y) (fun y => absurd (by omega) y)) (XR_up (by omega) q2) (tkF_fp q3))
/-- a death, a sleep, a pause -/
theorem p_other {a : Int} {P : aIF → Prop} (h : XR C S mm n c 0) (hp : p < n) (h28 : S 28 p = 0) (hA : S 12 ((60 * (p : Int) + S 33 p).toNat) = a) (ha : (-59 ≤ a ∧ a ≤ 0) ∨ (1001 ≤ a ∧ a ≤ 1200)) (hc : c + 150 ≤ 2000000000) (k : ∀ (C' : aIF) (S' : aS), rV w mm mX10_acts [aO 40 0, aI (p : Int)] S S' → XR C' S' mm n (c + 150) 0 → tkF C S C' S' → P C') : kMetV w mX7_doOtherAct [aO 21 0, aO 28 p] C S0 (rf mm) P := by
  obtain ⟨a1, a2, a3, a4, a5, a6, a7⟩ := XR_at h hp
  have hr := XR_rm h hp
  have hk := act_ok h hp (by omega)
  have c3 := a2.1.1
  have c1 := a2.1.2.2.2.2.2.2.1
  have c2 := a2.1.2.2.2.1
  have c11 := a2.2.1.2.1
  have h6 := a3.2.2.2.2.2.1 h28
  have r4 := a3.2.2.2.1
  have ra := RPa_of h hp h28
  refine gX7_doOtherAct a1.1 (sX2_nextAct h hp (by omega) hA ⟨fun z => ⟨fun z1 => ⟨fun z2 => absurd (by omega) z2, fun _ => ?_⟩, fun z1 => ⟨by omega, by omega, gX2_waitFor a1.1 ⟨fun z2 => ?_, fun z2 => ?_⟩⟩⟩, fun z => ⟨by omega, gX6_die_r a1.1 ⟨fun z1 => absurd z1 (by omega), fun _ => ⟨fun z1 => absurd z1 (by omega), fun _ => ⟨fun z1 => ?_, fun z1 => ?_⟩⟩⟩⟩⟩)
  · refine p_end0 (XQ_of p h) hp a2 ra (by omega) (fun C' S' r1 r2 r3 => k C' S' (fun C0 Q hQ => gX10_acts ?_) (XR_up (by omega) r2) (tkF_fp r3))
    rw [hA]
    exact ⟨by omega, a1.1, by omega, by omega, fun _ => ⟨fun _ => ⟨fun _ => r1 C0 Q hQ, fun y => absurd (by omega) y⟩, fun y => absurd z y⟩, fun y => absurd (by omega) y⟩
  · have e1 : a - 1000 - 1 = 0 := by omega
    rw [e1, uI_id (show C 28 p 11 = 0 by omega), uI_id (show C 28 p 3 = 0 by omega)]
    refine ⟨fun y => absurd (by omega) y, fun _ => p_end0 (XQ_of p h) hp a2 ra (by omega) (fun C' S' r1 r2 r3 => k C' S' (fun C0 Q hQ => gX10_acts ?_) (XR_up (by omega) r2) (tkF_fp r3))⟩
    rw [hA]
    exact ⟨by omega, a1.1, by omega, by omega, fun _ => ⟨fun _ => ⟨fun y => absurd y (by omega), fun _ => ⟨fun y => absurd (by omega) y, fun _ => r1 C0 Q hQ⟩⟩, fun y => absurd z y⟩, fun y => absurd (by omega) y⟩
  · refine ⟨fun _ => ?_, fun y => absurd (uI_s.symm.trans y) (by decide)⟩
    obtain ⟨v1, v2⟩ := XR_wait (C' := uI (uI C 28 p 11 (a - 1000 - 1)) 28 p 3 2) (S' := sU (sU S 28 p 2) 37 p (a - 1001)) (hw := 2) (L := a - 1001) h hp (fun k i j z => by rw [uI_no (by omega), uI_no (by omega)]) uI_s (by rw [uI_j rfl, uI_s]; omega) (fun f j z => by rw [sU_ne (by omega), sU_ne (by omega)]) (by rw [sU_f rfl, sU_s]) sU_s (by omega) (Or.inr (Or.inr rfl)) (fun z => absurd z (by decide)) (fun z => absurd z (by decide)) (fun _ => ⟨by omega, by omega⟩)
    refine k _ _ (fun C0 Q hQ => gX10_acts ?_) (XR_up (by omega) v1) (tkF_fp v2)
    rw [hA]
    exact ⟨by omega, a1.1, by omega, by omega, fun y => absurd y (by omega), fun _ => ⟨by omega, hQ⟩⟩
  · obtain ⟨N, h34⟩ : ∃ N : Nat, S 34 p = (N : Int) := ⟨(S 34 p).toNat, by omega⟩
    obtain ⟨b, hb⟩ : ∃ b : Nat, -a = (b : Int) := ⟨(-a).toNat, by omega⟩
    have hring := a2.2.2.2.2.2 b (by omega) (by omega) (by omega)
    have o8 := ra.2.2.2.2.2.2.2.2 (N - b) (by omega)
    rw [h34, show (((N : Int) - (b : Int)) % 60).toNat = (N - b) % 60 by omega, show (2400 * (p : Int) + ((N : Int) - (b : Int))).toNat = 2400 * p + (N - b) by omega] at hring
    obtain ⟨x1, x2, x3, x4⟩ := XQ_die (C' := uI (uI C 29 p 2 (S 31 p - S 44 (2400 * p + (N - b)))) 30 p ((N - b) % 60) 0) (S' := sU (sU S 31 p (S 31 p - S 44 (2400 * p + (N - b)))) 44 (2400 * p + (N - b)) 0) h hp h28 (b := b) h34 (by omega) (fun k i j z => by rw [uI_no (by omega), uI_no (by omega)]) uI_s (by rw [uI_k rfl, uI_s]) (fun f j z => by rw [sU_ne (by omega), sU_ne (by omega)]) sU_s (by rw [sU_f rfl, sU_s])
    rw [hb, c1, h34, show (((N : Int) - (b : Int)) % 60).toNat = (N - b) % 60 by omega, hring, c2]
    refine ⟨by omega, by omega, by omega, by omega, ?_⟩
    rw [uI_k rfl, uI_k rfl, c3]
    refine ⟨fun y => absurd h28 y, fun _ => p_end0 x1 hp x2 x3 (by omega) (fun C' S' r1 r2 r3 => k C' S' (fun C0 Q hQ => gX10_acts ?_) (XR_up (by omega) r2) (tkF_fp (fp_trans x4 r3)))⟩
    rw [hA, show (2400 * (p : Int) + S 34 p + a).toNat = 2400 * p + (N - b) by omega]
    exact ⟨by omega, a1.1, by omega, by omega, fun _ => ⟨fun y => absurd y z, fun _ => ⟨by omega, fun y => absurd y (by omega), fun _ => ⟨by omega, by omega, by omega, by omega, by omega, by omega, by omega, by omega, fun _ => r1 C0 Q hQ, fun y => absurd (by omega) y⟩⟩⟩, fun y => absurd (by omega) y⟩
  · refine ⟨fun y => absurd (by omega) y, fun _ => p_end0 (XQ_of p h) hp a2 ra (by omega) (fun C' S' r1 r2 r3 => k C' S' (fun C0 Q hQ => gX10_acts ?_) (XR_up (by omega) r2) (tkF_fp r3))⟩
    rw [hA]
    exact ⟨by omega, a1.1, by omega, by omega, fun _ => ⟨fun y => absurd y z, fun _ => ⟨by omega, fun _ => ⟨fun _ => r1 C0 Q hQ, fun y => absurd (by omega) y⟩, fun y => absurd (by omega) y⟩⟩, fun y => absurd (by omega) y⟩
end AC
