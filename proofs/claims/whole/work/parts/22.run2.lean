/-! RUN: changes of one program, in both at once -/
theorem lgX {C C1 : aIF} {S S1 : aS} {c : Nat} {b u a : Int} (h : ∃ (E : Nat → Nat → Int) (k : Nat), k ≤ c ∧ lgE C S E k) (hC : ∀ k i j, 22 ≤ k → k ≤ 26 → C1 k i j = C k i j) (hS : S1 26 0 = S 26 0 ∧ S1 27 0 = S 27 0) (h45 : ∀ j, S1 45 j = S 45 j) : ∃ (E : Nat → Nat → Int) (k : Nat), k ≤ c + 1 ∧ lgE (lgC C1 (S1 24 0) b u a) (lgS S1 b u a) E k := by
  obtain ⟨E, k, hk, hl⟩ := h
  exact ⟨_, k + 1, by omega, lg_add (lgE_cg (hC _ _ _ (by omega) (by omega)) (fun k j z1 z2 => hC k 0 j (by omega) z2) hS.1 hS.2 h45 hl)⟩
theorem lgX_b {C : aIF} {S : aS} {c : Nat} (h : ∃ (E : Nat → Nat → Int) (k : Nat), k ≤ c ∧ lgE C S E k) (hc : c ≤ 2000000000) : (0 ≤ C 22 0 4 ∧ C 22 0 4 < 2147483647) ∧ (0 ≤ S 26 0 ∧ S 26 0 ≤ 60) ∧ 0 ≤ S 27 0 ∧ S 27 0 < 2147483647 := by
  obtain ⟨E, k, hk, h1, h2, h3, -, -⟩ := h
  omega
theorem pru_ring {C C' : aIF} {S S' : aS} {p : Nat} (h : pru C S p) (h30 : ∀ j, C' 30 p j = C 30 p j) (h34 : S' 34 p = S 34 p) (h44 : ∀ j, S' 44 j = S 44 j) : ∀ a : Nat, 1 ≤ a → a ≤ 59 → (a : Int) ≤ S' 34 p → C' 30 p (((S' 34 p - a) % 60).toNat) = S' 44 ((2400 * p + (S' 34 p - a)).toNat) := fun a z1 z2 z3 => by
  rw [h30, h44, h34]
  rw [h34] at z3
  exact h.2.2.2.2.2 a z1 z2 z3
theorem cost_bd {cp lv us : Int} (h : 0 ≤ lv ∧ lv ≤ us ∧ us ≤ 4096) : 1 ≤ costF cp lv us ∧ costF cp lv us ≤ 8300 := by
  unfold costF
  split <;> omega
section R2
variable {C : aIF} {S : aS} {mm n c p : Nat} {d : Int}
/-- collected -/
theorem XR_col (h : XR C S mm n c d) (hp : p < n) (hu : S 31 p < S 30 p) {x : Int} (hx : x = costF (S 13 p) (S 31 p) (S 30 p)) {C' : aIF} {S' : aS} (hC' : C' = lgC (uI (uI (uI C 28 p 5 (S 31 p)) 28 p 8 (w32 (C 28 p 8 + x))) 28 p 9 (w32 (C 28 p 9 + x))) (S 24 0) (p : Int) 0 x) (hS' : S' = lgS (sU (sU (sU S 35 p (w32 (S 35 p + x))) 36 p (w32 (S 36 p + x))) 30 p (S 31 p)) (p : Int) 0 x) :
    XR C' S' mm n (c + 1) d ∧ fp C S C' S' p ∧ S' 25 0 = S 25 0 ∧ S' 30 p = S 31 p ∧ (∀ f, f ≠ 30 → f ≠ 35 → f ≠ 36 → f < 45 → f ≠ 26 → f ≠ 27 → S' f p = S f p) ∧ (∀ j, S' 44 j = S 44 j) ∧ ∀ i j, (∀ q, i = 28 → j ≠ 5 → j ≠ 8 → j ≠ 9 → C' 28 q j = C 28 q j) := by
  obtain ⟨a1, a2, a3, a4, a5, a6, a7⟩ := XR_at h hp
  have hxb := cost_bd (cp := S 13 p) a7
  rw [← hx] at hxb
  have kf : ∀ k i j, (k < 22 ∨ 26 < k) → ¬ (k = 28 ∧ i = p ∧ (j = 5 ∨ j = 8 ∨ j = 9)) → C' k i j = C k i j := fun k i j z1 z2 => by
    rw [hC', lgC_o z1, uI_no (by omega), uI_no (by omega), uI_no (by omega)]
  have k5 : C' 28 p 5 = S 31 p := by rw [hC', lgC_o (by omega), uI_no (by omega), uI_no (by omega), uI_s]
  have k8 : C' 28 p 8 = w32 (C 28 p 8 + x) := by rw [hC', lgC_o (by omega), uI_no (by omega), uI_s]
  have k9 : C' 28 p 9 = w32 (C 28 p 9 + x) := by rw [hC', lgC_o (by omega), uI_s]
  have sf : ∀ f j, (f < 26 ∨ (27 < f ∧ f ≠ 45)) → ¬ (j = p ∧ (f = 30 ∨ f = 35 ∨ f = 36)) → S' f j = S f j := fun f j z1 z2 => by
    rw [hS', lgS_o z1, sU_ne (by omega), sU_ne (by omega), sU_ne (by omega)]
  have s30 : S' 30 p = S 31 p := by rw [hS', lgS_o (by omega), sU_s]
  have s35 : S' 35 p = w32 (S 35 p + x) := by rw [hS', lgS_o (by omega), sU_ne (by omega), sU_ne (by omega), sU_s]
  have s36' : S' 36 p = w32 (S 36 p + x) := by rw [hS', lgS_o (by omega), sU_ne (by omega), sU_s]
  have r := a3.2.2.2.2.2.2.2.2.2.2.1
  have rp := a3.2.2.2.1
  have s36 : S' 36 p = S 36 p + x := by rw [s36', w32_eq]; unfold i32; omega
  have ff : fp C S C' S' p := ⟨fun k i j z => kf k i j (by omega) (by omega), fun j z => kf _ _ _ (by omega) (by omega), ⟨fun q j z => ⟨kf _ _ _ (by omega) (by omega), kf _ _ _ (by omega) (by omega), kf _ _ _ (by omega) (by omega)⟩, kf _ _ _ (by omega) (by omega)⟩, fun f j z => sf f j (by omega) (by omega), fun f q z z1 z2 => sf f q (by omega) (by omega), fun j z => sf _ _ (by omega) (by omega)⟩
  refine ⟨XR_p h hp ff ?_ ?_ ?_ ?_ ?_ h.2.2.2.2.2.2.1.2 ?_, ff, sf _ _ (by omega) (by omega), s30, fun f z1 z2 z3 z4 z5 z6 => sf f p (by omega) (by omega), fun j => sf _ _ (by omega) (by omega), fun i j q z0 z1 z2 z3 => kf _ _ _ (by omega) (by omega)⟩
  · obtain ⟨⟨b1, b2, b3, b4, b5, b6, b7, b8⟩, ⟨b9, b10, b11, b12, b13, b14, b15⟩, b16, b17, b18, b19⟩ := a2
    refine ⟨⟨?_, ?_, ?_, ?_, ?_, ?_, ?_, ?_⟩, ⟨?_, ?_, ?_, ?_, ?_, ?_, ?_⟩, ?_, ?_, ?_, pru_ring (h.2.2.2.1.2 p hp).1 (fun j => kf _ _ _ (by omega) (by omega)) (sf _ _ (by omega) (by omega)) (fun j => sf _ _ (by omega) (by omega))⟩
    · rw [kf _ _ _ (by omega) (by omega), sf _ _ (by omega) (by omega)]; exact b1
    · rw [kf _ _ _ (by omega) (by omega), sf _ _ (by omega) (by omega)]; exact b2
    · rw [k5, s30]
    · rw [kf _ _ _ (by omega) (by omega), sf _ _ (by omega) (by omega)]; exact b4
    · rw [kf _ _ _ (by omega) (by omega), sf _ _ (by omega) (by omega)]; exact b5
    · rw [kf _ _ _ (by omega) (by omega), sf _ _ (by omega) (by omega)]; exact b6
    · rw [kf _ _ _ (by omega) (by omega), sf _ _ (by omega) (by omega)]; exact b7
    · rw [k8, s35, b8]
    · rw [k9, s36', b9]
    · rw [kf _ _ _ (by omega) (by omega), sf _ _ (by omega) (by omega)]; exact b10
    · rw [kf _ _ _ (by omega) (by omega), sf _ _ (by omega) (by omega)]; exact b11
    · rw [kf _ _ _ (by omega) (by omega), sf _ _ (by omega) (by omega)]; exact b12
    · rw [kf _ _ _ (by omega) (by omega), sf _ _ (by omega) (by omega)]; exact b13
    · rw [kf _ _ _ (by omega) (by omega), sf _ _ (by omega) (by omega)]; exact b14
    · rw [kf _ _ _ (by omega) (by omega), sf _ _ (by omega) (by omega)]; exact b15
    · rw [kf _ _ _ (by omega) (by omega), sf 39 _ (by omega) (by omega), sf 43 _ (by omega) (by omega)]; exact b16
    · rw [sf _ _ (by omega) (by omega)]; exact b17
    · rw [sf _ _ (by omega) (by omega)]; exact b18
  · obtain ⟨r1, r2, r3, r4, r5, r6, r7, r8, r9, r10, r11, r12⟩ := a3
    unfold RP
    rw [s30, s36, sf 5 0 (by omega) (by omega), sf 6 0 (by omega) (by omega), sf 11 p (by omega) (by omega), sf 13 p (by omega) (by omega), sf 14 p (by omega) (by omega), sf 28 p (by omega) (by omega), sf 29 p (by omega) (by omega), sf 31 p (by omega) (by omega), sf 32 p (by omega) (by omega), sf 33 p (by omega) (by omega), sf 34 p (by omega) (by omega), sf 37 p (by omega) (by omega), sf 39 p (by omega) (by omega), sf 40 p (by omega) (by omega), sf 43 p (by omega) (by omega)]
    refine ⟨r1, ⟨by omega, by omega, by omega⟩, r3, r4, r5, r6, fun z => ⟨rfl, (r7 z).2⟩, r8, fun z => by have := r9 z; omega, r10, ⟨by omega, by omega, fun z => absurd z (by omega), by omega, by omega⟩, fun z => ?_⟩
    have e44 : ∀ j, S' 44 j = S 44 j := fun j => sf 44 j (by omega) (by omega)
    simp only [e44]
    exact r12 z
  · rw [kf _ _ _ (by omega) (by omega), sf _ _ (by omega) (by omega)]
    exact h.2.2.2.2.1.2
  · rw [sf _ _ (by omega) (by omega)]
    exact h.2.2.2.2.2.1
  · rw [sf _ _ (by omega) (by omega), sf _ _ (by omega) (by omega)]
  · rw [hC', hS']
    have e24 : sU (sU (sU S 35 p (w32 (S 35 p + x))) 36 p (w32 (S 36 p + x))) 30 p (S 31 p) 24 0 = S 24 0 := by rw [sU_f rfl, sU_f rfl, sU_f rfl]
    have := lgX (b := (p : Int)) (u := 0) (a := x) (C1 := uI (uI (uI C 28 p 5 (S 31 p)) 28 p 8 (w32 (C 28 p 8 + x))) 28 p 9 (w32 (C 28 p 9 + x))) (S1 := sU (sU (sU S 35 p (w32 (S 35 p + x))) 36 p (w32 (S 36 p + x))) 30 p (S 31 p)) h.2.2.2.2.2.2.2 (fun k i j z1 z2 => by rw [uI_no (by omega), uI_no (by omega), uI_no (by omega)]) ⟨by rw [sU_f rfl, sU_f rfl, sU_f rfl], by rw [sU_f rfl, sU_f rfl, sU_f rfl]⟩ (fun j => by rw [sU_f rfl, sU_f rfl, sU_f rfl])
    rw [e24] at this
    exact this
end R2
