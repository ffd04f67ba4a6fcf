/-! RUN: a step moves; the redeal -/
section M2
variable {w : aW} {S0 : aS} {mm n : Nat}
theorem p_moves {C : aIF} {S : aS} {c : Nat} {P : Int → aIF → Prop} (h : XR C S mm n c 0) (hc : c + 3 ≤ 2000000000) (k0 : rI w mm mX10_swung [aO 40 0] S 0 S → P 0 C) (k1 : ∀ (C' : aIF) (S' : aS), rI w mm mX10_swung [aO 40 0] S 1 S' → XR C' S' mm n (c + 3) 0 → tkF C S C' S' → P 1 C') : kMetI w mX7_movesStep [aO 21 0] C S0 (rf mm) P := by
  have hn6 := h.2.1
  have hn := h.2.2.1
  have h5 := h.2.2.2.2.1
  have hp0 := h.2.2.2.2.2.1
  have hs : 0 ≤ S 7 0 ∧ S 7 0 ≤ S 6 0 := h.1.1.2.2.2.2.1
  have hc9 := h.1.2.1
  have hb := lgX_b h.2.2.2.2.2.2.2 (show c ≤ 2000000000 by omega)
  refine gX7_movesStep (gX7_whoGainsMost (sX7_wg_7 h n 0 _ _ (by omega) ?_))
  rw [hc9.1, hc9.2.2.1, h5.1, h5.2]
  have ref : ∀ (C0 : aIF) (Q : Int → aS → Prop), rRunI w mX10_swung 7 [some (aO 40 0), some (aI (whoF (gnF S) n 0 (-1) 0)), some (aL (whoM (gnF S) n 0 0)), none, some (aI (n : Int)), none, none, none, none, none, none] [] C0 S (rf mm) Q → rMetI w mX10_swung [aO 40 0] C0 S (rf mm) Q := fun C0 Q z => gX10_swung (sX10_sw_7 h n 0 _ _ (by omega) (Int.le_refl 0) z)
  refine ⟨fun z => ?_, fun z => ?_⟩
  · obtain ⟨t, ht, het⟩ : ∃ t : Nat, t < n ∧ whoF (gnF S) n 0 (-1) 0 = (t : Int) := by
      rcases whoF_is (sv := gnF S) n 0 (-1) 0 with y | ⟨q, y1, y2, y3⟩
      · exact absurd y z
      · exact ⟨q, by omega, y3⟩
    have hpos : 0 < gnF S t := whoF_pos n 0 (-1) 0 t (Or.inl rfl) (Int.le_refl 0) het
    have hG : whoM (gnF S) n 0 0 = gnF S t := whoM_is n 0 (-1) 0 (Or.inl rfl) t het
    rw [het, hG] at ref
    rw [het, Int.toNat_natCast]
    obtain ⟨a1, a2, a3, a4, a5, a6, a7⟩ := XR_at h ht
    have hr := XR_rm h ht
    have hup : S 28 t = 0 ∨ S 28 t = 1 := by
      unfold gnF at hpos
      split at hpos
      · rename_i y
        exact y.1
      · exact absurd hpos (by decide)
    have h43 : S 43 t = 0 := by
      rcases hup with y | y
      · exact (a3.2.2.2.2.2.1 y).2
      · exact (a3.2.2.2.2.2.2.1 y).2.2.2
    have hm := hold_mono (cp := S 13 t) (show S 29 t ≤ S 29 t + S 5 0 by omega)
    have hu : S 30 t ≤ holdF (S 13 t) (S 29 t + S 5 0) := Int.le_trans a3.2.1.2.2 hm
    refine ⟨by omega, fun z1 => ?_, fun z1 => ⟨by omega, by omega, ?_⟩⟩
    · -- another must give
      refine gX7_whoLosesLeast (sX7_wl_7 h n 0 _ _ (by omega) ?_)
      have hrel := ll_rel (f := lsT S t) (g := gnF S t) n 0 (-1) 0 (-1) (gnF S t) (Or.inl ⟨rfl, rfl, rfl⟩)
      have hbs := bs_is (f := lsT S t) n 0 (-1) 0 (Or.inl ⟨rfl, fun i hi => absurd hi (by omega)⟩)
      have ref2 : ∀ (C0 : aIF) (Q : Int → aS → Prop), rRunI w mX10_swung 160 [some (aO 40 0), some (aI (t : Int)), some (aL (gnF S t)), none, some (aI (llR (lsT S t) n 0 (-1) (gnF S t)).1), some (aL (llR (lsT S t) n 0 (-1) (gnF S t)).2), none, some (aI (n : Int)), none, none, none] [] C0 S (rf mm) Q → rMetI w mX10_swung [aO 40 0] C0 S (rf mm) Q := fun C0 Q y => ref C0 Q (gX10_swung_7 ⟨fun _ => ⟨fun _ => ⟨by omega, fun _ => sX10_sw_160 h n 0 _ _ (by omega) y, fun y2 => absurd z1 y2⟩, fun y2 => absurd y2 (by omega)⟩, fun y2 => absurd (by omega) y2⟩)
      generalize hB : bs (lsT S t) n 0 (-1) 0 = B at hrel hbs ⊢
      rcases hbs with ⟨b1, b2⟩ | ⟨q, b1, b2, b3, b4, b5, b6⟩
      · refine ⟨fun _ => k0 (fun C0 Q hQ => ref2 C0 Q ?_), fun y => absurd b1 y⟩
        rw [if_neg (fun y => y.1 b1)] at hrel
        rw [hrel]
        exact gX10_swung_160 ⟨fun _ => ⟨fun y => absurd rfl y, fun _ => hQ⟩, fun y => absurd (by omega) y⟩
      · have hq : q < n := by omega
        have hqt : q ≠ t := fun y => b3 (if_pos y)
        have el : lsT S t q = lsF S q := if_neg hqt
        rw [b1, Int.toNat_natCast]
        have hls : (S 28 q = 0 ∨ S 28 q = 1) ∧ S 5 0 ≤ spF S q ∧ stF S q < holdF (S 13 q) (S 29 q) - S 31 q := by
          rw [el] at b3
          unfold lsF at b3
          split at b3
          · assumption
          · exact absurd rfl b3
        refine ⟨fun y => absurd y (by omega), fun _ => ⟨by omega, sX2_loss h hq ⟨by omega, sX2_gain h ht ⟨fun y => ?_, fun y => ?_⟩⟩⟩⟩
        · rw [hc9.1]
          rw [b1, b4, el, if_pos ⟨by omega, y⟩] at hrel
          refine p_give h hq (by omega) hls.2.1 (Int.dvd_refl _) (by omega) (fun C1 S1 r1 r2 r3 r4 r5 r6 r7 r8 => ?_)
          have fC := r3.2.2.1.1 t 4 (fun y => hqt y.symm)
          have fS := fun f y1 y2 => r3.2.2.2.2.1 f t (fun y => hqt y.symm) y1 y2
          obtain ⟨e1, e2, e3, e4, e5, e6, e7⟩ := XR_at r2 ht
          have er := XR_rm r2 ht
          have t5 : S1 5 0 = S 5 0 := r3.2.2.2.1 5 0 (by omega)
          have t13 : S1 13 t = S 13 t := r3.2.2.2.1 13 t (by omega)
          have t29 := fS 29 (by omega) (by omega)
          have t28 := fS 28 (by omega) (by omega)
          have t30 := fS 30 (by omega) (by omega)
          have t43 := fS 43 (by omega) (by omega)
          have u4 := e2.1.2.1
          have u5 := r2.2.2.2.2.1.1
          have hb1 := lgX_b r2.2.2.2.2.2.2.2 (show c + 2 ≤ 2000000000 by omega)
          rw [u4, e5.1, u5]
          obtain ⟨x1, x2⟩ := XR_room (C' := uI C1 28 t 4 (S1 29 t + S1 5 0)) (S' := sU S1 29 t (S1 29 t + S1 5 0)) (r := S1 29 t + S1 5 0) r2 ht (fun k i j z => uI_no z) uI_s (fun f j z => sU_ne z) sU_s (by omega) (Int.dvd_add e3.1.2 (Int.dvd_refl _)) (by rw [t30, t13, t29, t5]; exact hu) (by omega) (fun z => by omega) (by omega)
          rw [show (0 : Int) + S 5 0 + (S1 29 t - (S1 29 t + S1 5 0)) = 0 by omega] at x1
          have e24 : sU S1 29 t (S1 29 t + S1 5 0) 24 0 = S1 24 0 := sU_f rfl
          refine ⟨by omega, sX4_add (by rw [uI_k rfl]; exact hb1.1) ?_⟩
          refine k1 _ (lgS (sU S1 29 t (S1 29 t + S1 5 0)) (t : Int) 8 (S1 5 0)) (fun C0 Q hQ => ref2 C0 Q ?_) (XR_log x1 ht e24.symm) (tkF_trans (tkF_fp r3) (tkF_fp (fp_log x2)))
          rw [hrel]
          refine gX10_swung_160 ⟨fun _ => ⟨fun _ => r1 C0 _ ⟨by omega, ?_⟩, fun y => absurd y (by omega)⟩, fun y => absurd (by omega) y⟩
          rw [Int.toNat_natCast]
          exact ⟨by omega, sX10_tells (by rw [sU_f rfl]; exact hb1.2.1) (by rw [sU_f rfl]; exact hb1.2.2) hQ⟩
        · rw [b1, b4, el, if_neg (fun z => y z.2)] at hrel
          refine k0 (fun C0 Q hQ => ref2 C0 Q ?_)
          rw [hrel]
          exact gX10_swung_160 ⟨fun _ => ⟨fun y => absurd rfl y, fun _ => hQ⟩, fun y => absurd (by omega) y⟩
    · have c4 := a2.1.2.1
      rw [c4]
      have x0 := XR_pool (C' := uI C 21 0 6 (S 25 0 - S 5 0)) (S' := sU S 25 0 (S 25 0 - S 5 0)) (v := S 25 0 - S 5 0) h (fun k i j z => uI_no z) uI_s (fun f j z => sU_ne z) sU_s (by omega) (Int.dvd_sub hp0.2 (Int.dvd_refl _)) (by omega)
      obtain ⟨x1, x2⟩ := XR_room (C' := uI (uI C 21 0 6 (S 25 0 - S 5 0)) 28 t 4 (S 29 t + S 5 0)) (S' := sU (sU S 25 0 (S 25 0 - S 5 0)) 29 t (S 29 t + S 5 0)) (r := S 29 t + S 5 0) x0 ht (fun k i j z => uI_no z) uI_s (fun f j z => sU_ne z) sU_s (by omega) (by rw [sU_f rfl]; exact Int.dvd_add a3.1.2 (Int.dvd_refl _)) (by rw [sU_f rfl, sU_f rfl]; exact hu) (by rw [sU_f rfl]; omega) (fun z => by rw [sU_f rfl] at z; omega) (by rw [sU_f rfl]; omega)
      rw [show (0 : Int) + (S 25 0 - (S 25 0 - S 5 0)) + (sU S 25 0 (S 25 0 - S 5 0) 29 t - (S 29 t + S 5 0)) = 0 by rw [sU_f rfl]; omega] at x1
      have e24 : sU (sU S 25 0 (S 25 0 - S 5 0)) 29 t (S 29 t + S 5 0) 24 0 = S 24 0 := by rw [sU_f rfl, sU_f rfl]
      refine ⟨by omega, sX4_add (by rw [uI_k rfl, uI_k rfl]; exact hb.1) ?_⟩
      refine k1 _ (lgS (sU (sU S 25 0 (S 25 0 - S 5 0)) 29 t (S 29 t + S 5 0)) (t : Int) 8 (S 5 0)) (fun C0 Q hQ => ref C0 Q ?_) (XR_up (by omega) (XR_log x1 ht e24.symm)) ?_
      · refine gX10_swung_7 ⟨fun _ => ⟨fun _ => ⟨by omega, fun y => absurd y z1, fun _ => ⟨by omega, by omega, ?_⟩⟩, fun y => absurd y (by omega)⟩, fun y => absurd (by omega) y⟩
        rw [Int.toNat_natCast]
        exact ⟨by omega, sX10_tells (by rw [sU_f rfl, sU_f rfl]; exact hb.2.1) (by rw [sU_f rfl, sU_f rfl]; exact hb.2.2) hQ⟩
      · exact ⟨fun k i j z => by rw [lgC_o (by omega), uI_no (by omega), uI_no (by omega)], fun j z => by rw [lgC_o (by omega), uI_no (by omega), uI_no (by omega)], fun f j z => by rw [lgS_o (by omega), sU_ne (by omega), sU_ne (by omega)]⟩
  · refine k0 (fun C0 Q hQ => ref C0 Q ?_)
    rw [z]
    exact gX10_swung_7 ⟨fun _ => ⟨fun y => absurd rfl y, fun _ => hQ⟩, fun y => absurd (by omega) y⟩
theorem p_redeal_83 {P : aIF → Prop} {mv : Nat} : ∀ (m l c : Nat) (C : aIF) (S : aS), l + m = n → XR C S mm n c 0 →
    (∀ (C' : aIF) (S' : aS), (∀ (C0 : aIF) (Q : aS → Prop) (sw : Nat), Q S' → rRunV w mX10_redeals 136 [some (aO 40 0), some (aI (sw : Int)), some (aI (l : Int))] [] C0 S (rf mm) Q) → XR C' S' mm n c 0 → tkF C S C' S' → P C') →
    kRunV w mX7_redeal 83 [some (aO 21 0), some (aI (mv : Int)), some (aI (l : Int))] [] C S0 (rf mm) P
  | 0, l, c, C, S, e, h, k => by
    have hn := h.2.2.1
    refine gX7_redeal_83 ⟨fun _ => k C S (fun C0 Q sw hQ => gX10_redeals_136 ⟨fun _ => hQ, fun z => absurd (by omega) z⟩) h tkF_refl, fun z => absurd (by omega) z⟩
  | m + 1, l, c, C, S, e, h, k => by
    have hn := h.2.2.1
    have hn6 := h.2.1
    refine gX7_redeal_83 ⟨fun z => absurd z (by omega), fun _ => ⟨by omega, by omega, ?_⟩⟩
    rw [Int.toNat_natCast]
    obtain ⟨x1, x2⟩ := XR_since (p := l) (C' := uI C 28 l 9 0) (S' := sU S 36 l 0) h (by omega) (fun k i j z => uI_no z) uI_s (fun f j z => sU_ne (fun y => z ⟨y.2, y.1⟩)) sU_s
    refine p_redeal_83 m (l + 1) c _ _ (by omega) x1 (fun C' S' r1 r2 r3 => k C' S' (fun C0 Q sw hQ => ?_) r2 (tkF_trans (tkF_fp x2) r3))
    refine gX10_redeals_136 ⟨fun z => absurd z (by omega), fun _ => ⟨by omega, by omega, ?_⟩⟩
    rw [Int.toNat_natCast]
    exact r1 C0 Q sw hQ
theorem p_redeal_55 {P : aIF → Prop} : ∀ (m l c : Nat) (C : aIF) (S : aS), S 9 0 = ((l + m : Nat) : Int) → XR C S mm n c 0 → l + m ≤ 9 → c + 3 * m ≤ 2000000000 →
    (∀ (C' : aIF) (S' : aS), (∀ (C0 : aIF) (Q : aS → Prop), Q S' → rRunV w mX10_redeals 113 [some (aO 40 0), some (aI (l : Int)), none] [] C0 S (rf mm) Q) → XR C' S' mm n (c + 3 * m) 0 → tkF C S C' S' → P C') →
    kRunV w mX7_redeal 55 [some (aO 21 0), some (aI 1), some (aI (l : Int))] [] C S0 (rf mm) P
  | m, l, c, C, S, e, h, hm, hc, k => by
    have hc9 : C 9 0 4 = S 9 0 := h.1.2.1.2.2.2.2
    refine gX7_redeal_55 ⟨fun z => ?_, fun z => ⟨fun y => absurd y (by decide), fun _ => ?_⟩⟩
    · exact p_redeal_83 (mv := 1) n 0 c C S (by omega) h (fun C' S' r1 r2 r3 => k C' S' (fun C0 Q hQ => gX10_redeals_113 ⟨fun _ => r1 C0 Q l hQ, fun y => absurd (by omega) y⟩) (XR_up (by omega) r2) r3)
    · cases m with
      | zero => exact absurd (by omega) z
      | succ m =>
        refine p_moves h (by omega) (fun r0 => ⟨by omega, ?_⟩) (fun C1 S1 r1 r2 r3 => ⟨by omega, ?_⟩)
        · have stop : kRunV w mX7_redeal 83 [some (aO 21 0), some (aI ((0 : Nat) : Int)), some (aI 0)] [] C S0 (rf mm) P := p_redeal_83 (mv := 0) n 0 c C S (by omega) h (fun C' S' y1 y2 y3 => k C' S' (fun C0 Q hQ => gX10_redeals_113 ⟨fun y => absurd y (by omega), fun _ => r0 C0 _ ⟨fun _ => y1 C0 Q l hQ, fun y => absurd rfl y⟩⟩) (XR_up (by omega) y2) y3)
          exact gX7_redeal_55 ⟨fun _ => stop, fun _ => ⟨fun _ => stop, fun y => absurd rfl y⟩⟩
        · have t9 : S1 9 0 = S 9 0 := r3.2.2 9 0 (by omega)
          refine p_redeal_55 m (l + 1) (c + 3) C1 S1 (by rw [t9, e]; omega) r2 (by omega) (by omega) (fun C' S' y1 y2 y3 => k C' S' (fun C0 Q hQ => gX10_redeals_113 ⟨fun y => absurd y (by omega), fun _ => r1 C0 _ ⟨fun y => absurd y (by decide), fun _ => ⟨by omega, y1 C0 Q hQ⟩⟩⟩) (XR_up (by omega) y2) (tkF_trans r3 y3))
theorem p_redeal_2 {P : aIF → Prop} : ∀ (m l c : Nat) (C : aIF) (S : aS), l + m = n → XR C S mm n c 0 → c + 2 * m + 27 ≤ 2000000000 →
    (∀ (C' : aIF) (S' : aS), (∀ (C0 : aIF) (Q : aS → Prop), Q S' → rRunV w mX10_redeals 2 [some (aO 40 0), some (aI (l : Int)), none] [] C0 S (rf mm) Q) → XR C' S' mm n (c + 2 * m + 27) 0 → tkF C S C' S' → P C') →
    kRunV w mX7_redeal 2 [some (aO 21 0), some (aI (l : Int)), none] [] C S0 (rf mm) P
  | 0, l, c, C, S, e, h, hc, k => by
    have hn := h.2.2.1
    have hs := h.1.1.2.2.2.2.2.2.2
    obtain ⟨sw, hsw⟩ : ∃ sw : Nat, S 9 0 = ((0 + sw : Nat) : Int) := ⟨(S 9 0).toNat, by omega⟩
    refine gX7_redeal_2 ⟨fun _ => p_redeal_55 sw 0 c C S hsw h (by omega) (by omega) (fun C' S' r1 r2 r3 => k C' S' (fun C0 Q hQ => gX10_redeals_2 ⟨fun _ => r1 C0 Q hQ, fun z => absurd (by omega) z⟩) (XR_up (by omega) r2) r3), fun z => absurd (by omega) z⟩
  | m + 1, l, c, C, S, e, h, hc, k => by
    have hn := h.2.2.1
    have hn6 := h.2.1
    have hl : l < n := by omega
    obtain ⟨a1, a2, a3, a4, a5, a6, a7⟩ := XR_at h hl
    have c3 := a2.1.1
    have c13 := a2.2.1.2.2.2.2.2.2
    have skip : (∀ (C0 : aIF) (Q : aS → Prop), rRunV w mX10_redeals 2 [some (aO 40 0), some (aI ((l + 1 : Nat) : Int)), none] [] C0 S (rf mm) Q → rRunV w mX10_redeals 2 [some (aO 40 0), some (aI (l : Int)), none] [] C0 S (rf mm) Q) → kRunV w mX7_redeal 2 [some (aO 21 0), some (aI ((l + 1 : Nat) : Int)), none] [] C S0 (rf mm) P := fun z => p_redeal_2 m (l + 1) c C S (by omega) h (by omega) (fun C' S' r1 r2 r3 => k C' S' (fun C0 Q hQ => z C0 Q (r1 C0 Q hQ)) (XR_up (by omega) r2) r3)
    refine gX7_redeal_2 ⟨fun z => absurd z (by omega), fun _ => ⟨a1.1, ?_⟩⟩
    rw [c3, c13]
    refine ⟨fun z => ⟨by omega, skip (fun C0 Q y => gX10_redeals_2 ⟨fun y2 => absurd y2 (by omega), fun _ => ⟨a1.1, fun _ => ⟨by omega, y⟩, fun y2 => absurd y2 z⟩⟩)⟩, fun z => ⟨fun z2 => ⟨by omega, skip (fun C0 Q y => gX10_redeals_2 ⟨fun y2 => absurd y2 (by omega), fun _ => ⟨a1.1, fun y2 => absurd z y2, fun _ => ⟨fun y2 => absurd y2 z2, fun _ => ⟨by omega, y⟩⟩⟩⟩)⟩, fun z2 => ?_⟩⟩
    refine p_squeeze h hl z (by omega) (fun C1 S1 r1 r2 r3 => ⟨by omega, p_redeal_2 m (l + 1) (c + 2) C1 S1 (by omega) r2 (by omega) (fun C' S' y1 y2 y3 => k C' S' (fun C0 Q hQ => gX10_redeals_2 ⟨fun y2 => absurd y2 (by omega), fun _ => ⟨a1.1, fun y2 => absurd z y2, fun _ => ⟨fun _ => r1 C0 _ ⟨by omega, y1 C0 Q hQ⟩, fun y2 => absurd z2 y2⟩⟩⟩) (XR_up (by omega) y2) (tkF_trans (tkF_fp r3) y3))⟩)
end M2
