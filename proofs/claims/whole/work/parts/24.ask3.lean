/-! RUN: asking, both at once -/
def hF (C : aIF) (S : aS) (C' : aIF) (S' : aS) (p : Nat) (M : Int) : Prop :=
  (∀ k i j, k < 21 → C' k i j = C k i j) ∧ (∀ j, j ≠ 6 → C' 21 0 j = C 21 0 j) ∧ (∀ f j, f < 25 → S' f j = S f j) ∧ (∀ f, 28 ≤ f → f ≤ 43 → f ≠ 29 → S' f p = S f p) ∧ S' 29 p = S 29 p + M ∧ ∀ j, 2400 * p ≤ j → j < 2400 * p + 2400 → S' 44 j = S 44 j
theorem hF_g {C C1 C2 : aIF} {S S1 S2 : aS} {p : Nat} {M : Int} (h : gF C S C1 S1 p) (k : hF C1 S1 C2 S2 p M) : hF C S C2 S2 p M := by
  obtain ⟨a1, a2, a3, a4, a5⟩ := h
  obtain ⟨b1, b2, b3, b4, b5, b6⟩ := k
  exact ⟨fun k i j z => by rw [b1 k i j z, a1 k i j z], fun j z => by rw [b2 j z, a2 j z], fun f j z => by rw [b3 f j z, a3 f j z], fun f z1 z2 z3 => by rw [b4 f z1 z2 z3, a4 f z1 z2], by rw [b5, a4 29 (by omega) (by omega)], fun j z1 z2 => by rw [b6 j z1 z2, a5 j z1 z2]⟩
theorem sumZ : ∀ n : Nat, sumN (fun _ => (0 : Int)) n = 0
  | 0 => rfl
  | n + 1 => (Int.add_zero _).trans (sumZ n)
section AZ
variable {w : aW} {S0 : aS} {mm n p : Nat}
theorem p_ask_192 {v M l4 l5 : Int} {T : Nat} {P : Int → aIF → Prop} (hp : p < n) (hT : T ≤ 64) : ∀ (K i c : Nat) (C : aIF) (S : aS), i + K = T → K ≤ 64 → c + 2 * K + 1 ≤ 2000000000 → XR C S mm n c (M - (K : Int) * S 5 0) → S 5 0 ∣ M → 0 ≤ M → M ≤ 100000 → (K : Int) * S 5 0 ≤ sumN (svA S p) n → (0 < K → ∀ q, q < n → q ≠ p → S 28 q = 2 → svA S p q = 0) → S 28 p = 0 → S 43 p = 0 → S 30 p ≤ holdF (S 13 p) (S 29 p + M) →
    (∀ (C' : aIF) (S' : aS), (∀ (C0 : aIF) (Q : Int → aS → Prop) (l4' l5' l7' : Int), Q 1 S' → rRunI w mX10_asks 232 [some (aO 40 0), some (aI (p : Int)), some (aI v), some (aI M), some (aI l4'), some (aI l5'), some (aI ((K : Int) * S 5 0)), some (aI l7'), none] [] C0 S (rf mm) Q) → XR C' S' mm n (c + 2 * K + 1) 0 → hF C S C' S' p M → P 1 C') →
    kRunI w mX7_getsByAsking 192 [some (aO 21 0), some (aO 28 p), some (aI v), some (aI M), some (aI l4), some (aI l5), some (aI (T : Int)), some (aI (i : Int)), none] [] C S0 (rf mm) P
  | 0, i, c, C, S, e, hK, hc, h, hdM, hM0, hM1, hs, hz, h28, h43, hu, k => by
    obtain ⟨a1, a2, a3, a4, a5, a6, a7⟩ := XR_at h hp
    have hr := XR_rm h hp
    have hb := lgX_b h.2.2.2.2.2.2.2 (show c ≤ 2000000000 by omega)
    have h5 := h.2.2.2.2.1.1
    have hnum := h.2.2.2.1.1 p a1.1
    have c4 := a2.1.2.1
    have hK0 : ((0 : Nat) : Int) * S 5 0 = 0 := Int.zero_mul _
    refine gX7_getsByAsking_192 a1.1 ⟨fun _ => ⟨by omega, ?_⟩, fun z => absurd (by omega) z⟩
    rw [h5, hnum, c4]
    refine sX4_add (by rw [uI_k rfl]; exact hb.1) ?_
    obtain ⟨x1, x2⟩ := XR_room (C' := uI C 28 p 4 (S 29 p + M)) (S' := sU S 29 p (S 29 p + M)) (r := S 29 p + M) h hp (fun k i j z => uI_no z) uI_s (fun f j z => sU_ne z) sU_s (by omega) (Int.dvd_add a3.1.2 hdM) hu (by omega) (fun z => by omega) (by omega)
    have hde : M - ((0 : Nat) : Int) * S 5 0 + (S 29 p - (S 29 p + M)) = 0 := by omega
    rw [hde] at x1
    have e24 : sU S 29 p (S 29 p + M) 24 0 = S 24 0 := sU_f rfl
    have x3 := fp_log (a := S 24 0) (b := (p : Int)) (c := 1) (d := M) x2
    refine k _ (lgS (sU S 29 p (S 29 p + M)) (p : Int) 1 M) (fun C0 Q l4' l5' l7' hQ => ?_) (XR_up (by omega) (XR_log x1 hp e24.symm)) ⟨x3.1, x3.2.1, x3.2.2.2.1, fun f z1 z2 z3 => ?_, ?_, fun j z1 z2 => ?_⟩
    · refine gX10_asks_232 ⟨fun _ => ⟨a1.1, by omega, sX10_tells (by rw [sU_f rfl]; exact hb.2.1) (by rw [sU_f rfl]; exact hb.2.2) hQ⟩, fun z => absurd (by omega) z⟩
    · rw [lgS_o (by omega)]
      exact sU_ne (fun y => z3 y.1)
    · rw [lgS_o (by omega), sU_s]
    · rw [lgS_o (by omega), sU_f rfl]
  | K + 1, i, c, C, S, e, hK, hc, h, hdM, hM0, hM1, hs, hz, h28, h43, hu, k => by
    obtain ⟨a1, a2, a3, a4, a5, a6, a7⟩ := XR_at h hp
    have hn6 := h.2.1
    have hn := h.2.2.1.1
    have eK : ((K + 1 : Nat) : Int) * S 5 0 = (K : Int) * S 5 0 + S 5 0 := by rw [Int.natCast_succ, Int.add_mul, Int.one_mul]
    have K0 : 0 ≤ (K : Int) * S 5 0 := Int.mul_nonneg (by omega) (by omega)
    have K1 : (K : Int) * S 5 0 ≤ 64 * 64 := Int.mul_le_mul (by omega) (by omega) (by omega) (by omega)
    have hzz : ∀ q, q < n → q ≠ p → S 28 q ≠ 0 → S 28 q ≠ 1 → svA S p q = 0 := fun q z1 z2 z3 z4 => by
      have h28q := (h.2.2.2.1.2 q z1).2.2.2.1
      by_cases e2 : S 28 q = 2
      · exact hz (by omega) q z1 z2 e2
      · exact (sv_is h z1).2.2.2 (by omega)
    refine gX7_getsByAsking_192 a1.1 ⟨fun z => absurd z (by omega), fun _ => gX7_whoSparesMost a1.1 (sX7_ws_7 h hp n 0 _ _ (by omega) (by omega) ?_)⟩
    generalize hw : whoF (svA S p) n 0 (-1) 0 = x
    have hne : x ≠ -1 := fun z => by
      rw [z] at hw
      have h1 := (whoF_no n 0 (-1) 0 hw).1
      have h2 := sumN_le2 (f := svA S p) (g := fun _ => 0) n (fun q hq => h1 q (by omega) (by omega))
      have h3 := sumZ n
      omega
    obtain ⟨q, hq, hxq⟩ : ∃ q : Nat, q < n ∧ x = (q : Int) := by
      rcases whoF_is (sv := svA S p) n 0 (-1) 0 with z | ⟨q, z1, z2, z3⟩
      · exact absurd (hw.symm.trans z) hne
      · exact ⟨q, by omega, by rw [← hw]; exact z3⟩
    have hpos : 0 < svA S p q := whoF_pos n 0 (-1) 0 q (Or.inl rfl) (Int.le_refl 0) (by rw [hw, hxq])
    have hqp : q ≠ p := fun z => by
      rw [show svA S p q = 0 from if_pos z] at hpos
      omega
    have esv : svA S p q = spF S q := if_neg hqp
    have hst : S 5 0 ≤ spF S q := by
      rw [← esv]
      exact Int.le_of_dvd hpos (sv_is h hq).2.1
    subst hxq
    rw [Int.toNat_natCast, a5.1]
    refine ⟨fun z => absurd z hne, fun _ => ⟨by omega, p_give h hq (by omega) hst (Int.dvd_refl _) (by omega) (fun C1 S1 r1 r2 r3 r4 r5 r6 r7 r8 => ⟨by omega, ?_⟩)⟩⟩
    have g1 := gF_of (p := p) r3 (fun z => hqp z.symm)
    have t5 : S1 5 0 = S 5 0 := g1.2.2.1 5 0 (by omega)
    obtain ⟨u1, u2⟩ := svA_give (p := p) h hq r3 (by omega) hst r4 r5 r7 r8 hqp
    have us := sumN_sv hq u1 u2
    refine p_ask_192 hp hT K (i + 1) (c + 2) C1 S1 (by omega) (by omega) (by omega) ?_ (by rw [t5]; exact hdM) hM0 hM1 (by rw [t5, us]; omega) (fun z r z1 z2 z3 => ?_) (by rw [g1.2.2.2.1 28 (by omega) (by omega)]; exact h28) (by rw [g1.2.2.2.1 43 (by omega) (by omega)]; exact h43) (by rw [g1.2.2.2.1 30 (by omega) (by omega), g1.2.2.2.1 29 (by omega) (by omega), g1.2.2.1 13 p (by omega)]; exact hu) (fun C' S' y1 y2 y3 => k C' S' (fun C0 Q l4' l5' l7' hQ => ?_) (XR_up (by omega) y2) (hF_g g1 y3))
    · rw [t5, show M - (K : Int) * S 5 0 = M - ((K + 1 : Nat) : Int) * S 5 0 + S 5 0 by omega]
      exact r2
    · by_cases er : r = q
      · subst er
        rcases r7 with r7 | ⟨r7, r7'⟩
        · have := hz (by omega) r z1 z2 (by omega)
          omega
        · omega
      · rw [u2 r er]
        refine hz (by omega) r z1 z2 ?_
        rw [← r3.2.2.2.2.1 28 r er (by omega) (by omega)]
        exact z3
    · refine gX10_asks_232 ⟨fun z => absurd z (by omega), fun _ => ?_⟩
      refine sX10_asks_243 h hp hzz n 0 _ _ (by omega) (Or.inl ⟨rfl, rfl⟩) ?_
      rw [hw]
      refine gX10_asks_243 ⟨fun _ => r1 C0 _ ⟨by rw [t5]; omega, ?_⟩, fun z => absurd (by omega) z⟩
      have := y1 C0 Q l4' l5' (q : Int) hQ
      rw [t5] at this
      rw [t5, show ((K + 1 : Nat) : Int) * S 5 0 - S 5 0 = (K : Int) * S 5 0 by omega]
      exact this
theorem p_ask_100 {v M l4 : Int} {P : Int → aIF → Prop} (hp : p < n) : ∀ (m i c W : Nat) (C : aIF) (S : aS) (l4c : Int), i + m = n → c + 2 * m ≤ 2000000000 → XR C S mm n c (M - (W : Int)) → S 5 0 ∣ (W : Int) → (W : Int) ≤ 100000 → (W : Int) ≤ sumN (svA S p) n → (0 < W → ∀ q, q < i → q ≠ p → S 28 q = 2 → svA S p q = 0) → S 28 p = 0 →
    (∀ (C' : aIF) (S' : aS) (W' : Nat) (l4d : Int), (∀ (C0 : aIF) (Q : Int → aS → Prop) (l5 : Int), (∀ l5' l7' : Int, rRunI w mX10_asks 232 [some (aO 40 0), some (aI (p : Int)), some (aI v), some (aI M), some (aI l4), some (aI l5'), some (aI (W' : Int)), some (aI l7'), none] [] C0 S' (rf mm) Q) → rRunI w mX10_asks 155 [some (aO 40 0), some (aI (p : Int)), some (aI v), some (aI M), some (aI l4), some (aI l5), some (aI (W : Int)), some (aI (i : Int)), none] [] C0 S (rf mm) Q) → XR C' S' mm n (c + 2 * m) (M - (W' : Int)) → gF C S C' S' p → S 5 0 ∣ (W' : Int) → W' ≤ W → (W' : Int) ≤ sumN (svA S' p) n → (0 < W' → ∀ q, q < n → q ≠ p → S' 28 q = 2 → svA S' p q = 0) → kRunI w mX7_getsByAsking 192 [some (aO 21 0), some (aO 28 p), some (aI v), some (aI M), some (aI l4d), some (aI (W' : Int)), some (aI (ups S (W' : Int))), some (aI 0), none] [] C' S0 (rf mm) P) →
    kRunI w mX7_getsByAsking 100 [some (aO 21 0), some (aO 28 p), some (aI v), some (aI M), some (aI l4c), some (aI (W : Int)), some (aI (i : Int)), none, none] [] C S0 (rf mm) P
  | m, i, c, W, C, S, l4c, e, hc, h, hdW, hW, hs, hz, h28, k => by
    obtain ⟨a1, a2, a3, a4, a5, a6, a7⟩ := XR_at h hp
    have hn6 := h.2.1
    have hn := h.2.2.1
    have stop : Unit → (W = 0 ∨ i = n) → kMetI w mX5_stepsFor [aO 9 0, aI (W : Int)] C S0 (rf mm) (fun x1 C2 => kRunI w mX7_getsByAsking 192 [some (aO 21 0), some (aO 28 p), some (aI v), some (aI M), some (aI l4c), some (aI (W : Int)), some (aI x1), some (aI 0), none] [] C2 S0 (rf mm) P) := fun _ z => by
      refine gX5_stepsFor ?_
      rw [a5.1]
      refine ⟨by omega, by omega, ⟨by omega, by omega⟩, ?_⟩
      refine k C S W l4c (fun C0 Q l5 hQ => ?_) (XR_up (by omega) h) gF_refl hdW (Nat.le_refl _) hs (fun z1 q z2 z3 z4 => hz z1 q (by omega) z3 z4)
      exact gX10_asks_155 ⟨fun _ => hQ _ _, fun _ => ⟨fun _ => hQ _ _, fun z2 => absurd (by omega) z2⟩⟩
    refine gX7_getsByAsking_100 a1.1 ⟨fun z => stop () (by omega), fun z0 => ⟨fun z => stop () (by omega), fun z1 => ⟨by omega, ?_, ?_⟩⟩⟩
    · cases m with
      | zero => exact absurd (by omega) z0
      | succ m =>
        intro z2
        have hi28 := (h.2.2.2.1.2 i (by omega)).1.1.1
        refine ⟨by omega, p_ask_100 (l4 := l4) hp m (i + 1) c W C S l4c (by omega) (by omega) h hdW hW hs (fun y q y1 y2 y3 => ?_) h28 (fun C' S' W' l4d y1 y2 y3 y4 y5 y6 y7 => k C' S' W' l4d (fun C0 Q l5 hQ => ?_) (XR_up (by omega) y2) y3 y4 y5 y6 y7)⟩
        · by_cases eq : q = i
          · subst eq
            omega
          · exact hz y q (by omega) y2 y3
        · refine gX10_asks_155 ⟨fun y => absurd y (by omega), fun _ => ⟨fun y => absurd y (by omega), fun _ => ⟨fun y => ⟨by omega, y1 C0 Q l5 hQ⟩, fun y => ⟨by omega, ?_⟩⟩⟩⟩
          rw [Int.toNat_natCast]
          exact ⟨fun _ => ⟨by omega, y1 C0 Q l5 hQ⟩, fun y2 => absurd y2 (by omega)⟩
    · cases m with
      | zero => exact absurd (by omega) z0
      | succ m =>
        intro z2
        have hi : i < n := by omega
        have hi28 := (h.2.2.2.1.2 i hi).1.1.1
        have hip : i ≠ p := fun z => by
          subst z
          omega
        have esv : svA S p i = spF S i := if_neg hip
        obtain ⟨v1, v2, v3, v4⟩ := sv_is (p := p) h hi
        rw [esv] at v1 v2 v3
        refine sX2_spare h hi ⟨fun z3 => ⟨by omega, ?_⟩, fun z3 => ?_⟩
        · have sp0 : spF S i = 0 := by omega
          refine p_ask_100 (l4 := l4) hp m (i + 1) c W C S l4c (by omega) (by omega) h hdW hW hs (fun y q y1 y2 y3 => ?_) h28 (fun C' S' W' l4d y1 y2 y3 y4 y5 y6 y7 => k C' S' W' l4d (fun C0 Q l5 hQ => ?_) (XR_up (by omega) y2) y3 y4 y5 y6 y7)
          · by_cases eq : q = i
            · subst eq
              omega
            · exact hz y q (by omega) y2 y3
          · refine gX10_asks_155 ⟨fun y => absurd y (by omega), fun _ => ⟨fun y => absurd y (by omega), fun _ => ⟨fun y => absurd y (by omega), fun y => ⟨by omega, ?_⟩⟩⟩⟩
            rw [Int.toNat_natCast]
            exact ⟨fun y2 => absurd (by omega) y2, fun _ => sX10_spare h hi ⟨fun y2 => absurd sp0 y2, fun _ => ⟨by omega, y1 C0 Q l5 hQ⟩⟩⟩
        · have hdm : S 5 0 ∣ min (spF S i) (W : Int) := by
            by_cases y : spF S i ≤ (W : Int)
            · rw [Int.min_eq_left y]
              exact v2
            · rw [Int.min_eq_right (by omega)]
              exact hdW
          refine p_give h hi (by omega) (by omega) hdm (by omega) (fun C1 S1 r1 r2 r3 r4 r5 r6 r7 r8 => ⟨by omega, by omega, ?_⟩)
          have g1 := gF_of (p := p) r3 (fun z => hip z.symm)
          have t5 : S1 5 0 = S 5 0 := g1.2.2.1 5 0 (by omega)
          obtain ⟨u1, u2⟩ := svA_give (p := p) h hi r3 (by omega) (by omega) r4 r5 r7 r8 hip
          have us := sumN_sv hi u1 u2
          obtain ⟨W1, hW1⟩ : ∃ W1 : Nat, (W : Int) - min (spF S i) (W : Int) = (W1 : Int) := ⟨((W : Int) - min (spF S i) (W : Int)).toNat, by omega⟩
          rw [hW1]
          refine p_ask_100 (l4 := l4) hp m (i + 1) (c + 2) W1 C1 S1 l4c (by omega) (by omega) ?_ (by rw [t5, ← hW1]; exact Int.dvd_sub hdW hdm) (by omega) (by rw [us]; omega) (fun y q y1 y2 y3 => ?_) (by rw [g1.2.2.2.1 28 (by omega) (by omega)]; exact h28) (fun C' S' W' l4d y1 y2 y3 y4 y5 y6 y7 => ?_)
          · rw [show M - (W1 : Int) = M - (W : Int) + min (spF S i) (W : Int) by omega]
            exact r2
          · by_cases eq : q = i
            · subst eq
              rw [u1]
              omega
            · rw [u2 q eq]
              refine hz (by omega) q (by omega) y2 ?_
              rw [← r3.2.2.2.2.1 28 q eq (by omega) (by omega)]
              exact y3
          · have e5 : ups S1 (W' : Int) = ups S (W' : Int) := by
              unfold ups
              rw [t5]
            rw [e5]
            refine k C' S' W' l4d (fun C0 Q l5 hQ => ?_) (XR_up (by omega) y2) (gF_trans g1 y3) (by rw [← t5]; exact y4) (by omega) y6 y7
            refine gX10_asks_155 ⟨fun y => absurd y (by omega), fun _ => ⟨fun y => absurd y (by omega), fun _ => ⟨fun y => absurd y (by omega), fun y => ⟨by omega, ?_⟩⟩⟩⟩
            rw [Int.toNat_natCast]
            refine ⟨fun y2 => absurd (by omega) y2, fun _ => sX10_spare h hi ⟨fun _ => sX10_spare h hi (r1 C0 _ ⟨by omega, by omega, ?_⟩), fun y2 => absurd y2 (by omega)⟩⟩
            rw [hW1]
            exact y1 C0 Q _ hQ
/-- asking -/
theorem p_asks {C : aIF} {S : aS} {c : Nat} {v : Int} {P : Int → aIF → Prop} (hp : p < n) (h : XR C S mm n c 0) (hv : 0 < v ∧ v ≤ 99) (h28 : S 28 p = 0) (hno : holdF (S 13 p) (S 29 p) < S 30 p + v) (hc : c + 141 ≤ 2000000000)
    (k0 : rI w mm mX10_asks [aO 40 0, aI (p : Int), aI v] S 0 S → P 0 C)
    (k1 : ∀ (C' : aIF) (S' : aS) (M : Int), rI w mm mX10_asks [aO 40 0, aI (p : Int), aI v] S 1 S' → XR C' S' mm n (c + 141) 0 → hF C S C' S' p M → S 30 p + v ≤ holdF (S 13 p) (S 29 p + M) → P 1 C') : kMetI w mX7_getsByAsking [aO 21 0, aO 28 p, aI v] C S0 (rf mm) P := by
  obtain ⟨a1, a2, a3, a4, a5, a6, a7⟩ := XR_at h hp
  have hr := XR_rm h hp
  have hn6 := h.2.1
  have hn := h.2.2.1
  have h43 := (a3.2.2.2.2.2.1 h28).2
  have c5 := a2.1.2.2.1
  have c4 := a2.1.2.1
  have c12 := a2.2.1.2.2.2.2.2.1
  have hpool := h.2.2.2.2.1.2
  have hdp := h.2.2.2.2.2.1
  have hsum := h.2.2.2.2.2.2.1.1
  obtain ⟨N, Mr, hN, hMr, e6, e7, eN, eM, eD⟩ := tOK_N h.1.1
  have hD0 : 0 < rfF (S 13 p) (S 30 p + v) - S 29 p := by
    by_cases z : rfF (S 13 p) (S 30 p + v) ≤ S 29 p
    · have := hold_of z
      omega
    · omega
  have hrf : rfF (S 13 p) (S 30 p + v) ≤ 9000 := by
    unfold rfF
    split <;> omega
  have hub := ups_bd (S := S) (v := rfF (S 13 p) (S 30 p + v) - S 29 p) a6.1 (by omega)
  have hge := ups_ge (S := S) (v := rfF (S 13 p) (S 30 p + v) - S 29 p) a6.1
  have hlt := ups_lt (S := S) (v := rfF (S 13 p) (S 30 p + v) - S 29 p) a6.1
  rw [Int.sub_mul, Int.one_mul] at hlt
  obtain ⟨J, hJ⟩ : ∃ J : Nat, ups S (rfF (S 13 p) (S 30 p + v) - S 29 p) = (J : Int) := ⟨(ups S (rfF (S 13 p) (S 30 p + v) - S 29 p)).toNat, by omega⟩
  have hJ1 : 1 ≤ J := by
    rw [hJ] at hge
    by_cases z : J = 0
    · subst z
      have : ((0 : Nat) : Int) * S 5 0 = 0 := Int.zero_mul _
      omega
    · omega
  rw [hJ] at hge hlt
  have hhold : S 30 p + v ≤ holdF (S 13 p) (S 29 p + (J : Int) * S 5 0) := hold_of (by omega)
  have hdJ : S 5 0 ∣ (J : Int) * S 5 0 := Int.dvd_mul_left _ _
  have hsv0 := sumN_0 (f := svA S p) n (fun q hq => (sv_is h hq).1)
  have hsv1 : sumN (svA S p) n ≤ sumN (fun q => S 29 q) n := sumN_le2 n (fun q hq => (sv_is h hq).2.2.1)
  -- the reference up to the decision
  have ref : ∀ (C0 : aIF) (Q : Int → aS → Prop), rRunI w mX10_asks 52 [some (aO 40 0), some (aI (p : Int)), some (aI v), some (aI ((J : Int) * S 5 0)), some (aI (S 25 0 + sumN (svA S p) n)), some (aI (n : Int)), none, none, none] [] C0 S (rf mm) Q → rMetI w mX10_asks [aO 40 0, aI (p : Int), aI v] C0 S (rf mm) Q := fun C0 Q z => by
    refine gX10_asks ?_
    have q1 := sX10_asks_5 (w := w) (C0 := C0) (P := Q) h hp hv hJ ?_ (J - 1) 1 (by omega) (by omega)
    · rw [show ((1 : Nat) : Int) * S 5 0 = S 5 0 from Int.one_mul _] at q1
      exact q1
    · refine sX10_asks_52 h hp n 0 (S 25 0) (by omega) (by omega) (by omega) ?_
      have z0 : sumN (svA S p) 0 = 0 := rfl
      rw [z0, show S 25 0 + (sumN (svA S p) n - 0) = S 25 0 + sumN (svA S p) n by omega]
      exact z
  have yes : ∀ (l4c : Int), ¬ (S 25 0 + sumN (svA S p) n < (J : Int) * S 5 0) → (S 42 p = 0 ∨ S 29 p + (J : Int) * S 5 0 ≤ S 6 0 / S 23 0) → kRunI w mX7_getsByAsking 100 [some (aO 21 0), some (aO 28 p), some (aI v), some (aI ((J : Int) * S 5 0)), some (aI l4c), some (aI ((J : Int) * S 5 0 - min (S 25 0) ((J : Int) * S 5 0))), some (aI 0), none, none] [] (uI C 21 0 6 (S 25 0 - min (S 25 0) ((J : Int) * S 5 0))) S0 (rf mm) P := fun l4c g1 g2 => by
    have hdm : S 5 0 ∣ min (S 25 0) ((J : Int) * S 5 0) := by
      by_cases y : S 25 0 ≤ (J : Int) * S 5 0
      · rw [Int.min_eq_left y]
        exact hdp.2
      · rw [Int.min_eq_right (by omega)]
        exact hdJ
    obtain ⟨W, hW⟩ : ∃ W : Nat, (J : Int) * S 5 0 - min (S 25 0) ((J : Int) * S 5 0) = (W : Int) := ⟨((J : Int) * S 5 0 - min (S 25 0) ((J : Int) * S 5 0)).toNat, by omega⟩
    have x1 := XR_pool (C' := uI C 21 0 6 (S 25 0 - min (S 25 0) ((J : Int) * S 5 0))) (S' := sU S 25 0 (S 25 0 - min (S 25 0) ((J : Int) * S 5 0))) (v := S 25 0 - min (S 25 0) ((J : Int) * S 5 0)) h (fun k i j z => uI_no z) uI_s (fun f j z => sU_ne z) sU_s (by omega) (Int.dvd_sub hdp.2 hdm) (by omega)
    generalize hC1 : uI C 21 0 6 (S 25 0 - min (S 25 0) ((J : Int) * S 5 0)) = C1 at *
    generalize hS1 : sU S 25 0 (S 25 0 - min (S 25 0) ((J : Int) * S 5 0)) = S1 at *
    have sf : ∀ f j, f ≠ 25 → S1 f j = S f j := fun f j z => by
      rw [← hS1]
      exact sU_ne (fun y => z y.1)
    have sv1 : svA S1 p = svA S p := funext (fun q => by
      unfold svA
      by_cases eq : q = p
      · rw [if_pos eq, if_pos eq]
      · rw [if_neg eq, if_neg eq]
        exact spF_cg (sf _ _ (by decide)) (sf _ _ (by decide)) (sf _ _ (by decide)) (sf _ _ (by decide)) (sf _ _ (by decide)) (sf _ _ (by decide)))
    have gg : gF C S C1 S1 p := ⟨fun k i j z => by rw [← hC1, uI_no (by omega)], fun j z => by rw [← hC1, uI_no (by omega)], fun f j z => sf f j (by omega), fun f z1 z2 => sf f p (by omega), fun j _ _ => sf _ _ (by omega)⟩
    rw [show (0 : Int) + (S 25 0 - (S 25 0 - min (S 25 0) ((J : Int) * S 5 0))) = (J : Int) * S 5 0 - (W : Int) by omega] at x1
    rw [hW]
    refine p_ask_100 (w := w) (S0 := S0) (mm := mm) (M := (J : Int) * S 5 0) (l4 := S 25 0 + sumN (svA S p) n) hp n 0 c W C1 S1 l4c (by omega) (by omega) x1 (by rw [sf _ _ (by decide), ← hW]; exact Int.dvd_sub hdJ hdm) (by omega) (by rw [sv1]; omega) (fun _ q z => absurd z (by omega)) (by rw [sf _ _ (by decide)]; exact h28) (fun C2 S2 W2 l4d y1 y2 y3 y4 y5 y6 y7 => ?_)
    have t5 : S2 5 0 = S 5 0 := by rw [y3.2.2.1 5 0 (by omega)]; exact sf _ _ (by decide)
    have s5 : S1 5 0 = S 5 0 := sf _ _ (by decide)
    obtain ⟨K, hK⟩ : ∃ K : Nat, (W2 : Int) = (K : Int) * S 5 0 := by
      obtain ⟨z, hz⟩ := y4
      rw [s5, Int.mul_comm] at hz
      have hz0 : 0 * S 5 0 ≤ z * S 5 0 := by omega
      rw [mle (by omega)] at hz0
      exact ⟨z.toNat, by rw [Int.toNat_of_nonneg hz0]; exact hz⟩
    have hK64 : K ≤ 64 := by
      have : (K : Int) * S 5 0 ≤ (N : Int) * S 5 0 := by omega
      rw [mle (by omega)] at this
      omega
    have eups : ups S1 (W2 : Int) = (K : Int) := by
      unfold ups
      rw [s5, hK, show (K : Int) * S 5 0 + S 5 0 - 1 = S 5 0 - 1 + (K : Int) * S 5 0 by omega, Int.add_mul_ediv_right _ _ (show S 5 0 ≠ 0 by omega), Int.ediv_eq_zero_of_lt (by omega) (by omega), Int.zero_add]
    rw [eups]
    have b28 := y3.2.2.2.1 28 (by omega) (by omega)
    have b43 := y3.2.2.2.1 43 (by omega) (by omega)
    have b30 := y3.2.2.2.1 30 (by omega) (by omega)
    have b29 := y3.2.2.2.1 29 (by omega) (by omega)
    have b13 := y3.2.2.1 13 p (by omega)
    rw [sf _ _ (by decide)] at b28 b43 b30 b29 b13
    rw [hK, show (K : Int) * S 5 0 = (K : Int) * S2 5 0 by rw [t5]] at y2
    refine p_ask_192 (l4 := l4d) (T := K) hp hK64 K 0 (c + 2 * n) C2 S2 (by omega) hK64 (by omega) y2 (by rw [t5]; exact hdJ) (by omega) (by omega) (by rw [t5, ← hK]; exact y6) (fun z => y7 (by
      by_cases y : W2 = 0
      · rw [y] at hK
        have : 1 * S 5 0 ≤ (K : Int) * S 5 0 := (mle (by omega)).2 (by omega)
        omega
      · omega)) (by rw [b28]; exact h28) (by rw [b43]; exact h43) (by rw [b30, b13, b29]; omega) (fun C' S' z1 z2 z3 => k1 C' S' _ (fun C0 Q hQ => ref C0 Q ?_) (XR_up (by omega) z2) (hF_g gg (hF_g y3 z3)) hhold)
    have rr : rRunI w mX10_asks 155 [some (aO 40 0), some (aI (p : Int)), some (aI v), some (aI ((J : Int) * S 5 0)), some (aI (S 25 0 + sumN (svA S p) n)), some (aI (min (S 25 0) ((J : Int) * S 5 0))), some (aI ((J : Int) * S 5 0 - min (S 25 0) ((J : Int) * S 5 0))), some (aI 0), none] [] C0 (sU S 25 0 (S 25 0 - min (S 25 0) ((J : Int) * S 5 0))) (rf mm) Q := by
      rw [hW, hS1]
      refine y1 C0 Q _ (fun l5' l7' => ?_)
      have := z1 C0 Q (S 25 0 + sumN (svA S p) n) l5' l7' hQ
      rw [t5] at this
      rw [hK]
      exact this
    refine gX10_asks_52 ⟨fun _ => ⟨fun z => absurd z g1, fun _ => ⟨a1.1, fun z => ⟨by omega, by omega, rr⟩, fun z => ⟨by omega, by omega, fun _ => ⟨by omega, by omega, rr⟩, fun z2 => absurd (by omega) z2⟩⟩⟩, fun z => absurd (by omega) z⟩
  refine gX7_getsByAsking a1.1 a1.2 ⟨by omega, ?_⟩
  rw [c5]
  refine sX1_roomFor a1.1 a4.2.1 (by omega) ?_
  rw [c4]
  refine ⟨by omega, gX5_stepsFor ?_⟩
  rw [a5.1]
  refine ⟨by omega, by omega, ⟨by omega, by omega⟩, ?_⟩
  have em : S 5 0 * ((rfF (S 13 p) (S 30 p + v) - S 29 p + S 5 0 - 1) / S 5 0) = (J : Int) * S 5 0 := by
    rw [← hJ, Int.mul_comm]
    rfl
  rw [em, hpool]
  refine ⟨by omega, gX7_spareOfOthers a1.1 (sX7_so_4 h hp n 0 0 (by omega) (by omega) (by omega) ?_)⟩
  have z0 : sumN (svA S p) 0 = 0 := rfl
  rw [z0, show (0 : Int) + (sumN (svA S p) n - 0) = sumN (svA S p) n by omega, c12, hpool, c4]
  refine ⟨by omega, fun g1 => ?_, fun g1 => ⟨fun g2 => ⟨by omega, by omega, yes _ g1 (Or.inl g2)⟩, fun g2 => ⟨by omega, gX7_fairPart ⟨fun z => absurd z (by omega), fun _ => ?_⟩⟩⟩⟩
  · exact k0 (fun C0 Q hQ => ref C0 Q (gX10_asks_52 ⟨fun _ => ⟨fun _ => hQ, fun z => absurd g1 z⟩, fun z => absurd (by omega) z⟩))
  · rw [a5.2.1, hn.2, hpool]
    refine ⟨by omega, fun g3 => ⟨by omega, by omega, yes _ g1 (Or.inr (by rw [hn.1]; exact g3))⟩, fun g3 => ?_⟩
    refine k0 (fun C0 Q hQ => ref C0 Q (gX10_asks_52 ⟨fun _ => ⟨fun z => absurd z g1, fun _ => ⟨a1.1, fun z => absurd z g2, fun z => ⟨by omega, by omega, fun z2 => absurd (by rw [hn.1] at z2; exact z2) g3, fun _ => hQ⟩⟩⟩, fun z => absurd (by omega) z⟩))
end AZ
