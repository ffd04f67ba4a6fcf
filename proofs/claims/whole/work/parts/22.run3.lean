/-! RUN: the log, room, waiting, leaving -/
theorem XQ_u {C C' : aIF} {S S' : aS} {mm n c p : Nat} {d d' : Int} (h : XQ C S mm n c d p) (hp : p < n) (f : fp C S C' S' p) (hl : ∀ k i j, 22 ≤ k → k ≤ 26 → C' k i j = C k i j) (hs : S' 26 0 = S 26 0 ∧ S' 27 0 = S 27 0 ∧ ∀ j, S' 45 j = S 45 j) (h6 : C' 21 0 6 = S' 25 0) (h25 : 0 ≤ S' 25 0 ∧ S 5 0 ∣ S' 25 0) (hsum : S' 29 p + S' 25 0 + d' = S 29 p + S 25 0 + d) (hd : 0 ≤ d') : XQ C' S' mm n c d' p := by
  obtain ⟨E, k, hk, hE⟩ := h.2.2.2.2.2.2.2
  exact XQ_p h hp f h6 h25 hsum hd ⟨E, k, hk, lgE_cg (hl _ _ _ (by omega) (by omega)) (fun k j z1 z2 => hl k 0 j (by omega) z2) hs.1 hs.2.1 hs.2.2 hE⟩
theorem pru_log {C : aIF} {S : aS} {p : Nat} {a b u x b2 u2 x2 : Int} (h : pru C S p) : pru (lgC C a b u x) (lgS S b2 u2 x2) p := by
  unfold pru at *
  simp only [lgC_o (show (28 : Nat) < 22 ∨ 26 < 28 by omega), lgC_o (show (29 : Nat) < 22 ∨ 26 < 29 by omega), lgC_o (show (30 : Nat) < 22 ∨ 26 < 30 by omega), lgS_o (show (28 : Nat) < 26 ∨ (27 < 28 ∧ 28 ≠ 45) by omega), lgS_o (show (29 : Nat) < 26 ∨ (27 < 29 ∧ 29 ≠ 45) by omega), lgS_o (show (30 : Nat) < 26 ∨ (27 < 30 ∧ 30 ≠ 45) by omega), lgS_o (show (31 : Nat) < 26 ∨ (27 < 31 ∧ 31 ≠ 45) by omega), lgS_o (show (32 : Nat) < 26 ∨ (27 < 32 ∧ 32 ≠ 45) by omega), lgS_o (show (33 : Nat) < 26 ∨ (27 < 33 ∧ 33 ≠ 45) by omega), lgS_o (show (34 : Nat) < 26 ∨ (27 < 34 ∧ 34 ≠ 45) by omega), lgS_o (show (35 : Nat) < 26 ∨ (27 < 35 ∧ 35 ≠ 45) by omega), lgS_o (show (36 : Nat) < 26 ∨ (27 < 36 ∧ 36 ≠ 45) by omega), lgS_o (show (37 : Nat) < 26 ∨ (27 < 37 ∧ 37 ≠ 45) by omega), lgS_o (show (38 : Nat) < 26 ∨ (27 < 38 ∧ 38 ≠ 45) by omega), lgS_o (show (39 : Nat) < 26 ∨ (27 < 39 ∧ 39 ≠ 45) by omega), lgS_o (show (40 : Nat) < 26 ∨ (27 < 40 ∧ 40 ≠ 45) by omega), lgS_o (show (41 : Nat) < 26 ∨ (27 < 41 ∧ 41 ≠ 45) by omega), lgS_o (show (42 : Nat) < 26 ∨ (27 < 42 ∧ 42 ≠ 45) by omega), lgS_o (show (43 : Nat) < 26 ∨ (27 < 43 ∧ 43 ≠ 45) by omega), lgS_o (show (44 : Nat) < 26 ∨ (27 < 44 ∧ 44 ≠ 45) by omega)]
  exact h
theorem RP_e {S S' : aS} {p : Nat} (h : ∀ f j, (f < 25 ∨ (28 ≤ f ∧ f ≤ 44)) → f ≠ 25 → S' f j = S f j) (k : RP S p) : RP S' p := RP_cg (h _ _ (by omega) (by omega)) (h _ _ (by omega) (by omega)) (fun f j z1 z2 => h f j (by omega) (by omega)) (fun f j z1 z2 => h f j (by omega) (by omega)) k
theorem RP_log {S : aS} {p : Nat} {b u x : Int} (h : RP S p) : RP (lgS S b u x) p := RP_e (fun f j z1 z2 => lgS_o (by omega)) h
theorem XQ_log {C : aIF} {S : aS} {mm n c p q : Nat} {d b u x a : Int} (h : XQ C S mm n c d q) (hp : q < n) (ha : a = S 24 0) : XQ (lgC C a b u x) (lgS S b u x) mm n (c + 1) d q := by
  subst ha
  refine XQ_p h hp (fp_log fp_refl) ?_ ?_ ?_ h.2.2.2.2.2.2.1.2 (lgX h.2.2.2.2.2.2.2 (fun _ _ _ _ _ => rfl) ⟨rfl, rfl⟩ (fun _ => rfl))
  · rw [lgC_o (by omega), lgS_o (by omega)]
    exact h.2.2.2.2.1.2
  · rw [lgS_o (by omega)]
    exact h.2.2.2.2.2.1
  · rw [lgS_o (by omega), lgS_o (by omega)]
theorem XR_log {C : aIF} {S : aS} {mm n c p : Nat} {d b u x a : Int} (h : XR C S mm n c d) (hp : p < n) (ha : a = S 24 0) : XR (lgC C a b u x) (lgS S b u x) mm n (c + 1) d :=
  XR_of (p := p) (XQ_log (p := p) (XQ_of p h) hp ha) (pru_log (h.2.2.2.1.2 p hp).1) (RP_log (h.2.2.2.1.2 p hp).2)
section R3
variable {C C' : aIF} {S S' : aS} {mm n c p : Nat} {d : Int}

/-- other room -/
theorem XR_room (h : XR C S mm n c d) (hp : p < n) {r : Int} (kf : ∀ k i j, ¬ (k = 28 ∧ i = p ∧ j = 4) → C' k i j = C k i j) (kv : C' 28 p 4 = r) (sf : ∀ f j, ¬ (f = 29 ∧ j = p) → S' f j = S f j) (sv : S' 29 p = r) (h0 : 0 ≤ r) (hdv : S 5 0 ∣ r) (hu : S 30 p ≤ holdF (S 13 p) r) (h3 : S 28 p ≤ 2) (hsq : S 43 p = 1 → r ≤ S 39 p) (hd : 0 ≤ d + (S 29 p - r)) : XR C' S' mm n c (d + (S 29 p - r)) ∧ fp C S C' S' p := by
  obtain ⟨a1, a2, a3, a4, a5, a6, a7⟩ := XR_at h hp
  have ff : fp C S C' S' p := ⟨fun k i j z => kf k i j (by omega), fun j z => kf _ _ _ (by omega), ⟨fun q j z => ⟨kf _ _ _ (by omega), kf _ _ _ (by omega), kf _ _ _ (by omega)⟩, kf _ _ _ (by omega)⟩, fun f j z => sf f j (by omega), fun f q z z1 z2 => sf f q (by omega), fun j z => sf _ _ (by omega)⟩
  refine ⟨XR_of (XQ_u (XQ_of p h) hp ff (fun k i j z1 z2 => kf k i j (by omega)) ⟨sf _ _ (by omega), sf _ _ (by omega), fun j => sf _ _ (by omega)⟩ ?_ ?_ ?_ hd) ?_ ?_, ff⟩
  · rw [kf _ _ _ (by omega), sf _ _ (by omega)]
    exact h.2.2.2.2.1.2
  · rw [sf _ _ (by omega)]
    exact h.2.2.2.2.2.1
  · rw [sv, sf _ _ (by omega)]
    omega
  · obtain ⟨⟨b1, b2, b3, b4, b5, b6, b7, b8⟩, ⟨b9, b10, b11, b12, b13, b14, b15⟩, b16, b17, b18, b19⟩ := id a2
    refine ⟨⟨?_, ?_, ?_, ?_, ?_, ?_, ?_, ?_⟩, ⟨?_, ?_, ?_, ?_, ?_, ?_, ?_⟩, ?_, ?_, ?_, pru_ring a2 (fun j => kf 30 p j (by omega)) (sf 34 p (by omega)) (fun j => sf 44 j (by omega))⟩
    · rw [kf 28 p 3 (by omega), sf 28 p (by omega)]; exact b1
    · rw [kv, sv]
    · rw [kf 28 p 5 (by omega), sf 30 p (by omega)]; exact b3
    · rw [kf 29 p 2 (by omega), sf 31 p (by omega)]; exact b4
    · rw [kf 28 p 6 (by omega), sf 32 p (by omega)]; exact b5
    · rw [kf 28 p 7 (by omega), sf 33 p (by omega)]; exact b6
    · rw [kf 29 p 1 (by omega), sf 34 p (by omega)]; exact b7
    · rw [kf 28 p 8 (by omega), sf 35 p (by omega)]; exact b8
    · rw [kf 28 p 9 (by omega), sf 36 p (by omega)]; exact b9
    · rw [kf 28 p 11 (by omega), sf 37 p (by omega)]; exact b10
    · rw [kf 28 p 10 (by omega), sf 38 p (by omega)]; exact b11
    · rw [kf 28 p 16 (by omega), sf 40 p (by omega)]; exact b12
    · rw [kf 28 p 15 (by omega), sf 41 p (by omega)]; exact b13
    · rw [kf 28 p 12 (by omega), sf 42 p (by omega)]; exact b14
    · rw [kf 28 p 13 (by omega), sf 43 p (by omega)]; exact b15
    · rw [kf 28 p 14 (by omega), sf 39 p (by omega), sf 43 p (by omega)]; exact b16
    · rw [sf 42 p (by omega)]; exact b17
    · rw [sf 43 p (by omega)]; exact b18
  · obtain ⟨r1, r2, r3, r4, r5, r6, r7, r8, r9, r10, r11, r12⟩ := a3
    unfold RP
    rw [sf 28 p (by omega), sv, sf 30 p (by omega), sf 31 p (by omega), sf 32 p (by omega), sf 33 p (by omega), sf 34 p (by omega), sf 36 p (by omega), sf 37 p (by omega), sf 39 p (by omega), sf 40 p (by omega), sf 43 p (by omega), sf 5 0 (by omega), sf 6 0 (by omega), sf 11 p (by omega), sf 13 p (by omega), sf 14 p (by omega)]
    have e44 : ∀ j, S' 44 j = S 44 j := fun j => sf 44 j (by omega)
    simp only [e44]
    exact ⟨⟨h0, hdv⟩, ⟨r2.1, r2.2.1, hu⟩, r3, r4, r5, r6, r7, r8, fun z => absurd z (by omega), fun z => ⟨hsq z, (r10 z).2⟩, r11, r12⟩

/-- it waits, or is ready -/
theorem XR_wait (h : XR C S mm n c d) (hp : p < n) {hw L : Int} (kf : ∀ k i j, ¬ (k = 28 ∧ i = p ∧ (j = 3 ∨ j = 11)) → C' k i j = C k i j) (kv : C' 28 p 3 = hw) (kv2 : C' 28 p 11 = L) (sf : ∀ f j, ¬ (j = p ∧ (f = 28 ∨ f = 37)) → S' f j = S f j) (sv : S' 28 p = hw) (sv2 : S' 37 p = L) (h3 : S 28 p ≤ 2) (hw0 : hw = 0 ∨ hw = 1 ∨ hw = 2) (c0 : hw = 0 → L = 0 ∧ S 43 p = 0) (c1 : hw = 1 → S 31 p = S 30 p ∧ 1 ≤ L ∧ L ≤ 10000 ∧ S 43 p = 0) (c2 : hw = 2 → 1 ≤ L ∧ L ≤ 199) : XR C' S' mm n c d ∧ fp C S C' S' p := by
  obtain ⟨a1, a2, a3, a4, a5, a6, a7⟩ := XR_at h hp
  have ff : fp C S C' S' p := ⟨fun k i j z => kf k i j (by omega), fun j z => kf _ _ _ (by omega), ⟨fun q j z => ⟨kf _ _ _ (by omega), kf _ _ _ (by omega), kf _ _ _ (by omega)⟩, kf _ _ _ (by omega)⟩, fun f j z => sf f j (by omega), fun f q z z1 z2 => sf f q (by omega), fun j z => sf _ _ (by omega)⟩
  refine ⟨XR_of (XQ_u (XQ_of p h) hp ff (fun k i j z1 z2 => kf k i j (by omega)) ⟨sf _ _ (by omega), sf _ _ (by omega), fun j => sf _ _ (by omega)⟩ ?_ ?_ ?_ h.2.2.2.2.2.2.1.2) ?_ ?_, ff⟩
  · rw [kf _ _ _ (by omega), sf _ _ (by omega)]
    exact h.2.2.2.2.1.2
  · rw [sf _ _ (by omega)]
    exact h.2.2.2.2.2.1
  · rw [sf _ _ (by omega), sf _ _ (by omega)]
  · obtain ⟨⟨b1, b2, b3, b4, b5, b6, b7, b8⟩, ⟨b9, b10, b11, b12, b13, b14, b15⟩, b16, b17, b18, b19⟩ := id a2
    refine ⟨⟨?_, ?_, ?_, ?_, ?_, ?_, ?_, ?_⟩, ⟨?_, ?_, ?_, ?_, ?_, ?_, ?_⟩, ?_, ?_, ?_, pru_ring a2 (fun j => kf 30 p j (by omega)) (sf 34 p (by omega)) (fun j => sf 44 j (by omega))⟩
    · rw [kv, sv]
    · rw [kf 28 p 4 (by omega), sf 29 p (by omega)]; exact b2
    · rw [kf 28 p 5 (by omega), sf 30 p (by omega)]; exact b3
    · rw [kf 29 p 2 (by omega), sf 31 p (by omega)]; exact b4
    · rw [kf 28 p 6 (by omega), sf 32 p (by omega)]; exact b5
    · rw [kf 28 p 7 (by omega), sf 33 p (by omega)]; exact b6
    · rw [kf 29 p 1 (by omega), sf 34 p (by omega)]; exact b7
    · rw [kf 28 p 8 (by omega), sf 35 p (by omega)]; exact b8
    · rw [kf 28 p 9 (by omega), sf 36 p (by omega)]; exact b9
    · rw [kv2, sv2]
    · rw [kf 28 p 10 (by omega), sf 38 p (by omega)]; exact b11
    · rw [kf 28 p 16 (by omega), sf 40 p (by omega)]; exact b12
    · rw [kf 28 p 15 (by omega), sf 41 p (by omega)]; exact b13
    · rw [kf 28 p 12 (by omega), sf 42 p (by omega)]; exact b14
    · rw [kf 28 p 13 (by omega), sf 43 p (by omega)]; exact b15
    · rw [kf 28 p 14 (by omega), sf 39 p (by omega), sf 43 p (by omega)]; exact b16
    · rw [sf 42 p (by omega)]; exact b17
    · rw [sf 43 p (by omega)]; exact b18
  · obtain ⟨r1, r2, r3, r4, r5, r6, r7, r8, r9, r10, r11, r12⟩ := a3
    unfold RP
    rw [sv, sf 29 p (by omega), sf 30 p (by omega), sf 31 p (by omega), sf 32 p (by omega), sf 33 p (by omega), sf 34 p (by omega), sf 36 p (by omega), sv2, sf 39 p (by omega), sf 40 p (by omega), sf 43 p (by omega), sf 5 0 (by omega), sf 6 0 (by omega), sf 11 p (by omega), sf 13 p (by omega), sf 14 p (by omega)]
    have e44 : ∀ j, S' 44 j = S 44 j := fun j => sf 44 j (by omega)
    simp only [e44]
    exact ⟨r1, r2, by omega, r4, fun _ => r5 h3, c0, c1, c2, fun z => absurd z (by omega), r10, r11, fun _ => r12 h3⟩

/-- it leaves: what is needed of it -/
def RPo (S : aS) (p : Nat) : Prop := (0 ≤ S 29 p ∧ S 5 0 ∣ S 29 p) ∧ S 43 p = 0 ∧ (0 ≤ S 32 p ∧ 0 ≤ S 33 p ∧ 0 ≤ S 34 p ∧ S 34 p ≤ S 32 p * S 11 p + S 33 p ∧ S 32 p * S 11 p + S 33 p ≤ 2400 ∧ S 32 p ≤ 40) ∧ 0 ≤ S 36 p ∧ S 36 p ≤ 8300 * (S 32 p * S 11 p + S 33 p + 1) ∧ 0 ≤ S 40 p ∧ S 40 p ≤ S 32 p
theorem XR_over (h : XQ C S mm n c d p) (hp : p < n) (a2 : pru C S p) (ho : RPo S p) (h37 : S 37 p = 0) {hw : Int} (kf : ∀ k i j, ¬ ((k = 28 ∧ i = p ∧ (j = 3 ∨ j = 4 ∨ j = 5 ∨ j = 10)) ∨ (k = 29 ∧ i = p ∧ j = 2) ∨ (k = 21 ∧ i = 0 ∧ j = 6)) → C' k i j = C k i j) (k3 : C' 28 p 3 = hw) (k4 : C' 28 p 4 = 0) (k5 : C' 28 p 5 = 0) (k10 : C' 28 p 10 = S 24 0) (k2 : C' 29 p 2 = 0) (k6 : C' 21 0 6 = S 25 0 + S 29 p) (sf : ∀ f j, ¬ ((j = p ∧ (f = 28 ∨ f = 38 ∨ f = 37 ∨ f = 29 ∨ f = 30 ∨ f = 31)) ∨ (f = 25 ∧ j = 0)) → S' f j = S f j) (s28 : S' 28 p = hw) (s38 : S' 38 p = S 24 0) (s37 : S' 37 p = 0) (s29 : S' 29 p = 0) (s30 : S' 30 p = 0) (s31 : S' 31 p = 0) (s25 : S' 25 0 = S 25 0 + S 29 p) (hw0 : hw = 3 ∨ hw = 4) : XR C' S' mm n c d ∧ fp C S C' S' p := by
  have ff : fp C S C' S' p := ⟨fun k i j z => kf k i j (by omega), fun j z => kf _ _ _ (by omega), ⟨fun q j z => ⟨kf _ _ _ (by omega), kf _ _ _ (by omega), kf _ _ _ (by omega)⟩, kf _ _ _ (by omega)⟩, fun f j z => sf f j (by omega), fun f q z z1 z2 => sf f q (by omega), fun j z => sf _ _ (by omega)⟩
  obtain ⟨o1, o2, o3, o4, o5, o6, o7⟩ := ho
  have hp0 := h.2.2.2.2.2.1
  refine ⟨XR_of (XQ_u h hp ff (fun k i j z1 z2 => kf k i j (by omega)) ⟨sf _ _ (by omega), sf _ _ (by omega), fun j => sf _ _ (by omega)⟩ (by rw [k6, s25]) ⟨by omega, ?_⟩ (by omega) h.2.2.2.2.2.2.1.2) ?_ ?_, ff⟩
  · rw [s25]
    exact Int.dvd_add hp0.2 o1.2
  · obtain ⟨⟨b1, b2, b3, b4, b5, b6, b7, b8⟩, ⟨b9, b10, b11, b12, b13, b14, b15⟩, b16, b17, b18, b19⟩ := id a2
    refine ⟨⟨?_, ?_, ?_, ?_, ?_, ?_, ?_, ?_⟩, ⟨?_, ?_, ?_, ?_, ?_, ?_, ?_⟩, ?_, ?_, ?_, pru_ring a2 (fun j => kf 30 p j (by omega)) (sf 34 p (by omega)) (fun j => sf 44 j (by omega))⟩
    · rw [k3, s28]
    · rw [k4, s29]
    · rw [k5, s30]
    · rw [k2, s31]
    · rw [kf 28 p 6 (by omega), sf 32 p (by omega)]; exact b5
    · rw [kf 28 p 7 (by omega), sf 33 p (by omega)]; exact b6
    · rw [kf 29 p 1 (by omega), sf 34 p (by omega)]; exact b7
    · rw [kf 28 p 8 (by omega), sf 35 p (by omega)]; exact b8
    · rw [kf 28 p 9 (by omega), sf 36 p (by omega)]; exact b9
    · rw [kf 28 p 11 (by omega), s37]; omega
    · rw [k10, s38]
    · rw [kf 28 p 16 (by omega), sf 40 p (by omega)]; exact b12
    · rw [kf 28 p 15 (by omega), sf 41 p (by omega)]; exact b13
    · rw [kf 28 p 12 (by omega), sf 42 p (by omega)]; exact b14
    · rw [kf 28 p 13 (by omega), sf 43 p (by omega)]; exact b15
    · rw [kf 28 p 14 (by omega), sf 39 p (by omega), sf 43 p (by omega)]; exact b16
    · rw [sf 42 p (by omega)]; exact b17
    · rw [sf 43 p (by omega)]; exact b18
  · unfold RP
    rw [s28, s29, s30, s31, sf 32 p (by omega), sf 33 p (by omega), sf 34 p (by omega), sf 36 p (by omega), s37, sf 39 p (by omega), sf 40 p (by omega), sf 43 p (by omega), sf 5 0 (by omega), sf 6 0 (by omega), sf 11 p (by omega), sf 13 p (by omega), sf 14 p (by omega)]
    exact ⟨⟨by omega, Int.dvd_zero _⟩, ⟨by omega, by omega, (hold_le (by omega)).2⟩, by omega, o3, fun z => absurd z (by omega), fun z => absurd z (by omega), fun z => absurd z (by omega), fun z => absurd z (by omega), fun _ => ⟨rfl, rfl, rfl, o2⟩, fun z => absurd z (by omega), ⟨o4, o5, fun z => absurd z (by omega), o6, o7⟩, fun z => absurd z (by omega)⟩
end R3
