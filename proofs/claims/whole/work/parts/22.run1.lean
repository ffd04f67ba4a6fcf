/-! RUN: what holds, and what one program's change leaves -/
def XR (C : aIF) (S : aS) (mm n c : Nat) (d : Int) : Prop :=
  (tOK S ∧ tR C S ∧ prR C S) ∧ (S 10 0 = (n : Int) ∧ 1 ≤ n ∧ n ≤ 6 ∧ n ≤ mm) ∧ (S 23 0 = (n : Int) ∧ C 21 0 3 = (n : Int)) ∧ ((∀ p : Nat, p < 6 → C 28 p 1 = (p : Int)) ∧ ∀ p : Nat, p < n → pru C S p ∧ RP S p) ∧ (C 21 0 5 = S 24 0 ∧ C 21 0 6 = S 25 0) ∧ (0 ≤ S 25 0 ∧ S 5 0 ∣ S 25 0) ∧ (sumN (fun q => S 29 q) n + S 25 0 + d = S 6 0 ∧ 0 ≤ d) ∧ ∃ (E : Nat → Nat → Int) (k : Nat), k ≤ c ∧ lgE C S E k
def fp (C : aIF) (S : aS) (C' : aIF) (S' : aS) (p : Nat) : Prop :=
  (∀ k i j, k < 21 → C' k i j = C k i j) ∧ (∀ j, j ≠ 6 → C' 21 0 j = C 21 0 j) ∧ ((∀ q j, q ≠ p → C' 28 q j = C 28 q j ∧ C' 29 q j = C 29 q j ∧ C' 30 q j = C 30 q j) ∧ C' 28 p 1 = C 28 p 1) ∧ (∀ f j, f < 25 → S' f j = S f j) ∧ (∀ f q, q ≠ p → 28 ≤ f → f ≤ 43 → S' f q = S f q) ∧ ∀ j, (j < 2400 * p ∨ 2400 * p + 2400 ≤ j) → S' 44 j = S 44 j
theorem fp_refl {C : aIF} {S : aS} {p : Nat} : fp C S C S p := ⟨fun _ _ _ _ => rfl, fun _ _ => rfl, ⟨fun _ _ _ => ⟨rfl, rfl, rfl⟩, rfl⟩, fun _ _ _ => rfl, fun _ _ _ _ _ => rfl, fun _ _ => rfl⟩
theorem fp_trans {C C1 C2 : aIF} {S S1 S2 : aS} {p : Nat} (h : fp C S C1 S1 p) (k : fp C1 S1 C2 S2 p) : fp C S C2 S2 p := by
  obtain ⟨a1, a2, ⟨a3, a4⟩, a5, a6, a7⟩ := h
  obtain ⟨b1, b2, ⟨b3, b4⟩, b5, b6, b7⟩ := k
  exact ⟨fun k i j z => by rw [b1 k i j z, a1 k i j z], fun j z => by rw [b2 j z, a2 j z], ⟨fun q j z => by rw [(b3 q j z).1, (b3 q j z).2.1, (b3 q j z).2.2]; exact a3 q j z, by rw [b4, a4]⟩, fun f j z => by rw [b5 f j z, a5 f j z], fun f q z z1 z2 => by rw [b6 f q z z1 z2, a6 f q z z1 z2], fun j z => by rw [b7 j z, a7 j z]⟩
theorem fp_log {C : aIF} {S : aS} {C' : aIF} {S' : aS} {p : Nat} {a b c d : Int} (h : fp C S C' S' p) : fp C S (lgC C' a b c d) (lgS S' b c d) p := by
  obtain ⟨a1, a2, ⟨a3, a4⟩, a5, a6, a7⟩ := h
  exact ⟨fun k i j z => by rw [lgC_o (by omega), a1 k i j z], fun j z => by rw [lgC_o (by omega), a2 j z], ⟨fun q j z => by rw [lgC_o (by omega), lgC_o (by omega), lgC_o (by omega)]; exact a3 q j z, by rw [lgC_o (by omega), a4]⟩, fun f j z => by rw [lgS_o (by omega), a5 f j z], fun f q z z1 z2 => by rw [lgS_o (by omega), a6 f q z z1 z2], fun j z => by rw [lgS_o (by omega), a7 j z]⟩
/-- all but program p -/
def XQ (C : aIF) (S : aS) (mm n c : Nat) (d : Int) (p : Nat) : Prop :=
  (tOK S ∧ tR C S ∧ prR C S) ∧ (S 10 0 = (n : Int) ∧ 1 ≤ n ∧ n ≤ 6 ∧ n ≤ mm) ∧ (S 23 0 = (n : Int) ∧ C 21 0 3 = (n : Int)) ∧ ((∀ p : Nat, p < 6 → C 28 p 1 = (p : Int)) ∧ ∀ q : Nat, q < n → q ≠ p → pru C S q ∧ RP S q) ∧ (C 21 0 5 = S 24 0 ∧ C 21 0 6 = S 25 0) ∧ (0 ≤ S 25 0 ∧ S 5 0 ∣ S 25 0) ∧ (sumN (fun q => S 29 q) n + S 25 0 + d = S 6 0 ∧ 0 ≤ d) ∧ ∃ (E : Nat → Nat → Int) (k : Nat), k ≤ c ∧ lgE C S E k
theorem XQ_of {C : aIF} {S : aS} {mm n c : Nat} {d : Int} (p : Nat) (h : XR C S mm n c d) : XQ C S mm n c d p := ⟨h.1, h.2.1, h.2.2.1, ⟨h.2.2.2.1.1, fun q z _ => h.2.2.2.1.2 q z⟩, h.2.2.2.2⟩
theorem XR_of {C : aIF} {S : aS} {mm n c : Nat} {d : Int} {p : Nat} (h : XQ C S mm n c d p) (h1 : pru C S p) (h2 : RP S p) : XR C S mm n c d := ⟨h.1, h.2.1, h.2.2.1, ⟨h.2.2.2.1.1, fun q z => by
  by_cases e : q = p
  · rw [e]
    exact ⟨h1, h2⟩
  · exact h.2.2.2.1.2 q z e⟩, h.2.2.2.2⟩
theorem XQ_p {C C' : aIF} {S S' : aS} {mm n c c' p : Nat} {d d' : Int} (h : XQ C S mm n c d p) (hp : p < n) (f : fp C S C' S' p) (h6 : C' 21 0 6 = S' 25 0) (h25 : 0 ≤ S' 25 0 ∧ S 5 0 ∣ S' 25 0) (hsum : S' 29 p + S' 25 0 + d' = S 29 p + S 25 0 + d) (hd : 0 ≤ d') (hlog : ∃ (E : Nat → Nat → Int) (k : Nat), k ≤ c' ∧ lgE C' S' E k) : XQ C' S' mm n c' d' p := by
  obtain ⟨⟨g1, g2, g3⟩, g4, g5, ⟨g6, g7⟩, g8, g9, g10, g11⟩ := h
  obtain ⟨a1, a2, ⟨a3, a4⟩, a5, a6, a7⟩ := f
  refine ⟨⟨tOK_cg (fun f z1 z2 => a5 f 0 (by omega)) g1, tR_cg (fun _ => a1 _ _ _ (by omega)) (fun f z1 z2 => a5 f 0 (by omega)) g2, prR_cg (a1 _ _ _ (by omega)) (fun _ _ _ => a1 _ _ _ (by omega)) (fun _ _ => a1 _ _ _ (by omega)) (a5 _ _ (by omega)) (fun f j z1 z2 => a5 f j (by omega)) g3⟩, by rw [a5 _ _ (by omega)]; exact g4, ⟨by rw [a5 _ _ (by omega)]; exact g5.1, by rw [a2 _ (by omega)]; exact g5.2⟩, ⟨fun q hq => ?_, fun q hq e => ?_⟩, ⟨by rw [a2 _ (by omega), a5 _ _ (by omega)]; exact g8.1, h6⟩, by rw [a5 5 0 (by omega)]; exact h25, ⟨?_, hd⟩, hlog⟩
  · by_cases e : q = p
    · rw [e, a4, ← e]
      exact g6 q hq
    · rw [(a3 q 1 e).1]
      exact g6 q hq
  · obtain ⟨k1, k2⟩ := g7 q hq e
    have b34 : S 34 q ≤ 2400 ∧ 0 ≤ S 34 q := by
      have := k2.2.2.2.1
      omega
    have s : ∀ f, 28 ≤ f → f ≤ 43 → S' f q = S f q := fun f z1 z2 => a6 f q e z1 z2
    refine ⟨?_, ?_⟩
    · unfold pru at k1 ⊢
      rw [s 28 (by omega) (by omega), s 29 (by omega) (by omega), s 30 (by omega) (by omega), s 31 (by omega) (by omega), s 32 (by omega) (by omega), s 33 (by omega) (by omega), s 34 (by omega) (by omega), s 35 (by omega) (by omega), s 36 (by omega) (by omega), s 37 (by omega) (by omega), s 38 (by omega) (by omega), s 39 (by omega) (by omega), s 40 (by omega) (by omega), s 41 (by omega) (by omega), s 42 (by omega) (by omega), s 43 (by omega) (by omega)]
      simp only [(a3 q _ e).1, (a3 q _ e).2.1]
      refine ⟨k1.1, k1.2.1, k1.2.2.1, k1.2.2.2.1, k1.2.2.2.2.1, fun a z1 z2 z3 => ?_⟩
      rw [(a3 q _ e).2.2, a7 _ (by omega)]
      exact k1.2.2.2.2.2 a z1 z2 z3
    · unfold RP at k2 ⊢
      rw [s 28 (by omega) (by omega), s 29 (by omega) (by omega), s 30 (by omega) (by omega), s 31 (by omega) (by omega), s 32 (by omega) (by omega), s 33 (by omega) (by omega), s 34 (by omega) (by omega), s 36 (by omega) (by omega), s 37 (by omega) (by omega), s 39 (by omega) (by omega), s 40 (by omega) (by omega), s 43 (by omega) (by omega), a5 5 0 (by omega), a5 6 0 (by omega), a5 11 q (by omega), a5 13 q (by omega), a5 14 q (by omega)]
      refine ⟨k2.1, k2.2.1, k2.2.2.1, k2.2.2.2.1, k2.2.2.2.2.1, k2.2.2.2.2.2.1, k2.2.2.2.2.2.2.1, k2.2.2.2.2.2.2.2.1, k2.2.2.2.2.2.2.2.2.1, k2.2.2.2.2.2.2.2.2.2.1, k2.2.2.2.2.2.2.2.2.2.2.1, fun z => ?_⟩
      have k3 := k2.2.2.2.2.2.2.2.2.2.2.2 z
      refine ⟨?_, fun j hj => ?_⟩
      · rw [sumN_cg (g := fun j => S 44 (2400 * q + j)) _ (fun j hj => a7 _ (by omega))]
        exact k3.1
      · rw [a7 _ (by omega)]
        exact k3.2 j hj
  · have e1 := sumN_uN (f := fun q => S 29 q) (v := S' 29 p) n hp
    have e2 : sumN (uN (fun q => S 29 q) p (S' 29 p)) n = sumN (fun q => S' 29 q) n := sumN_cg n (fun q hq => by
      by_cases e : q = p
      · rw [e, uN_s]
      · rw [uN_n e]
        exact (a6 29 q e (by omega) (by omega)).symm)
    rw [a5 6 0 (by omega), ← e2, e1]
    have := g10.1
    omega
theorem XR_p {C C' : aIF} {S S' : aS} {mm n c c' p : Nat} {d d' : Int} (h : XR C S mm n c d) (hp : p < n) (f : fp C S C' S' p) (hpru : pru C' S' p) (hRP : RP S' p) (h6 : C' 21 0 6 = S' 25 0) (h25 : 0 ≤ S' 25 0 ∧ S 5 0 ∣ S' 25 0) (hsum : S' 29 p + S' 25 0 + d' = S 29 p + S 25 0 + d) (hd : 0 ≤ d') (hlog : ∃ (E : Nat → Nat → Int) (k : Nat), k ≤ c' ∧ lgE C' S' E k) : XR C' S' mm n c' d' :=
  XR_of (XQ_p (XQ_of p h) hp f h6 h25 hsum hd hlog) hpru hRP
theorem XR_rm {C : aIF} {S : aS} {mm n c p : Nat} {d : Int} (h : XR C S mm n c d) (hp : p < n) : 0 ≤ S 29 p ∧ S 29 p ≤ S 6 0 ∧ S 6 0 ≤ 4096 ∧ S 25 0 ≤ S 6 0 ∧ S 29 p + S 25 0 + d ≤ S 6 0 ∧ 0 ≤ S 25 0 ∧ 0 ≤ d := by
  obtain ⟨⟨g1, g2, g3⟩, g4, g5, ⟨g6, g7⟩, g8, g9, g10, g11⟩ := h
  have h1 := sumN_one (f := fun q => S 29 q) hp (fun q hq => (g7 q hq).2.1.1)
  have h2 := (g7 p hp).2.1.1
  have h3 := g1.2.1
  have h4 : (fun q => S 29 q) p = S 29 p := rfl
  omega
def rfF (cp v : Int) : Int := if cp = 0 then 2 * v else v
theorem hold_of {cp v r : Int} (h : rfF cp v ≤ r) : v ≤ holdF cp r := by
  unfold rfF at h
  unfold holdF
  split at h
  · rename_i e
    rw [if_pos e]
    omega
  · rename_i e
    rw [if_neg e]
    exact h
theorem hold_to {cp v r : Int} (h : v ≤ holdF cp r) : rfF cp v ≤ r := by
  unfold holdF at h
  unfold rfF
  split at h
  · rename_i e
    rw [if_pos e]
    omega
  · rename_i e
    rw [if_neg e]
    exact h
theorem hold_mono {cp r r' : Int} (h : r ≤ r') : holdF cp r ≤ holdF cp r' := by
  unfold holdF
  split <;> omega
theorem hold_le {cp r : Int} (h : 0 ≤ r) : holdF cp r ≤ r ∧ 0 ≤ holdF cp r := by
  unfold holdF
  split <;> omega
def kpF (S : aS) (p : Nat) : Int := ups S (max (S 15 p) (rfF (S 13 p) (S 31 p))) * S 5 0
def spF (S : aS) (p : Nat) : Int := if 3 ≤ S 28 p then 0 else max 0 (S 29 p - kpF S p)
theorem dvd_max0 {s a : Int} (h : s ∣ a) : s ∣ max 0 a := by
  by_cases e : a ≤ 0
  · rw [Int.max_eq_left e]
    exact Int.dvd_zero s
  · rw [Int.max_eq_right (by omega)]
    exact h
theorem spF_is {C : aIF} {S : aS} {mm n c p : Nat} {d : Int} (h : XR C S mm n c d) (hp : p < n) : 0 ≤ spF S p ∧ spF S p ≤ S 29 p ∧ S 5 0 ∣ spF S p ∧ (∀ a, a ≤ spF S p → 0 < a → S 31 p ≤ holdF (S 13 p) (S 29 p - a)) ∧ (3 ≤ S 28 p → spF S p = 0) := by
  have hr := XR_rm h hp
  have hR := (h.2.2.2.1.2 p hp).2
  have hs := h.1.1.1
  have hk : rfF (S 13 p) (S 31 p) ≤ kpF S p := by
    have := ups_ge (S := S) (v := max (S 15 p) (rfF (S 13 p) (S 31 p))) (by omega)
    unfold kpF
    omega
  have hR2 := hR.2.1
  have hk0 : 0 ≤ rfF (S 13 p) (S 31 p) := by
    unfold rfF
    split <;> omega
  unfold spF
  by_cases e : 3 ≤ S 28 p
  · rw [if_pos e]
    exact ⟨by omega, by omega, Int.dvd_zero _, fun a z1 z2 => absurd z1 (by omega), fun _ => rfl⟩
  · rw [if_neg e]
    refine ⟨by omega, by omega, ?_, fun a z1 z2 => ?_, fun z => absurd z e⟩
    · exact dvd_max0 (Int.dvd_sub hR.1.2 (by unfold kpF; exact Int.dvd_mul_left _ _))
    · exact hold_of (by omega)
section RU
variable {w : aW} {S0 : aS}
theorem sX1_roomFor {C : aIF} {mm i : Nat} {cp v : Int} {P : Int → aIF → Prop} (hi : i < 6) (hcp : (cp = 0 ∧ C 6 i 2 = 1) ∨ (cp = 1 ∧ C 6 i 2 = 0)) (h1 : 0 ≤ v ∧ v ≤ 100000) (hP : P (rfF cp v) C) : kMetI w mX1_roomFor [aO 6 i, aI v] C S0 (rf mm) P := by
  unfold rfF at hP
  refine gX1_roomFor hi ⟨fun q => ?_, fun q => ⟨by omega, ?_⟩⟩
  · rw [if_neg (by omega)] at hP
    exact hP
  · rw [if_pos (by omega)] at hP
    exact hP
/-- what is known of program p -/
theorem XR_at {C : aIF} {S : aS} {mm n c p : Nat} {d : Int} (h : XR C S mm n c d) (hp : p < n) : (p < 6 ∧ p < mm) ∧ pru C S p ∧ RP S p ∧ pR C S p ∧ (C 9 0 0 = S 5 0 ∧ C 9 0 1 = S 6 0 ∧ C 9 0 2 = S 7 0 ∧ C 9 0 3 = S 8 0 ∧ C 9 0 4 = S 9 0) ∧ (1 ≤ S 5 0 ∧ S 5 0 ≤ 64) ∧ (0 ≤ S 31 p ∧ S 31 p ≤ S 30 p ∧ S 30 p ≤ 4096) := by
  have hr := XR_rm h hp
  obtain ⟨⟨g1, g2, g3⟩, g4, g5, ⟨g6, g7⟩, g8, g9, g10, g11⟩ := h
  have h2 := (g7 p hp).2.2.1
  have h3 := hold_le (cp := S 13 p) (r := S 29 p) hr.1
  exact ⟨by omega, (g7 p hp).1, (g7 p hp).2, g3.2 p (by omega) (by omega), g2, g1.1, by omega⟩
theorem kp_bd {C : aIF} {S : aS} {mm n c p : Nat} {d : Int} (h : XR C S mm n c d) (hp : p < n) : 0 ≤ kpF S p ∧ kpF S p ≤ 10000 ∧ 0 ≤ max (S 15 p) (rfF (S 13 p) (S 31 p)) ∧ max (S 15 p) (rfF (S 13 p) (S 31 p)) ≤ 9000 := by
  obtain ⟨a1, a2, a3, a4, a5, a6, a7⟩ := XR_at h hp
  have f := a4.2.2.2.1
  have hm : 0 ≤ max (S 15 p) (rfF (S 13 p) (S 31 p)) ∧ max (S 15 p) (rfF (S 13 p) (S 31 p)) ≤ 9000 := by
    unfold rfF
    split <;> omega
  have b := ups_bd (S := S) (v := max (S 15 p) (rfF (S 13 p) (S 31 p))) (by omega) hm.1
  have e := Int.ediv_mul_le (max (S 15 p) (rfF (S 13 p) (S 31 p)) + S 5 0 - 1) (show S 5 0 ≠ 0 by omega)
  refine ⟨Int.mul_nonneg b.1 (by omega), ?_, hm.1, hm.2⟩
  unfold kpF ups
  omega
theorem sX2_keep {C : aIF} {S : aS} {mm n c p : Nat} {d : Int} {P : Int → aIF → Prop} (h : XR C S mm n c d) (hp : p < n) (hP : P (kpF S p) C) : kMetI w mX2_keep [aO 28 p, aO 9 0] C S0 (rf mm) P := by
  obtain ⟨a1, a2, a3, a4, a5, a6, a7⟩ := XR_at h hp
  have b := kp_bd h hp
  have c2 := a2.1.2.2.2.1
  refine gX2_keep a1.1 a1.2 ?_
  rw [c2]
  refine sX1_roomFor a1.1 a4.2.1 (by omega) (gX5_stepsFor ?_)
  rw [a5.1, a4.2.2.2.1.1]
  refine ⟨by omega, by omega, ⟨by omega, by omega⟩, ?_⟩
  have e : S 5 0 * ((max (S 15 p) (rfF (S 13 p) (S 31 p)) + S 5 0 - 1) / S 5 0) = kpF S p := by
    unfold kpF ups
    rw [Int.mul_comm]
  rw [e]
  exact ⟨by omega, hP⟩
theorem sX2_spare {C : aIF} {S : aS} {mm n c p : Nat} {d : Int} {P : Int → aIF → Prop} (h : XR C S mm n c d) (hp : p < n) (hP : P (spF S p) C) : kMetI w mX2_spare [aO 28 p, aO 9 0] C S0 (rf mm) P := by
  obtain ⟨a1, a2, a3, a4, a5, a6, a7⟩ := XR_at h hp
  have b := kp_bd h hp
  have hr := XR_rm h hp
  have c0 := a2.1.1
  have c1 := a2.1.2.1
  have h28 := a3.2.2.1
  unfold spF at hP
  refine gX2_spare a1.1 (gX2_goesOn a1.1 ⟨fun q => ⟨fun _ => ?_, fun q => absurd rfl q⟩, fun q => ⟨fun q2 => ⟨fun _ => ?_, fun q => absurd rfl q⟩, fun q2 => ⟨fun q => absurd q (by decide), fun _ => ?_⟩⟩⟩)
  · rw [if_pos (by omega)] at hP
    exact hP
  · rw [if_pos (by omega)] at hP
    exact hP
  · rw [if_neg (by omega)] at hP
    refine sX2_keep h hp ⟨by omega, ?_⟩
    rw [c1, Int.max_comm]
    exact hP
theorem sX10_up {C : aIF} {S : aS} {mm : Nat} {v : Int} {P : Int → aS → Prop} (hs : 1 ≤ S 5 0 ∧ S 5 0 ≤ 64) (h : 0 ≤ v ∧ v ≤ 100000) (hP : P (ups S v * S 5 0) S) : rMetI w mX10_up [aO 40 0, aI v] C S (rf mm) P := by
  have e := Int.ediv_mul_le (v + S 5 0 - 1) (show S 5 0 ≠ 0 by omega)
  have b := ups_bd (S := S) (v := v) (by omega) h.1
  have e0 : 0 ≤ ups S v * S 5 0 := Int.mul_nonneg b.1 (by omega)
  unfold ups at *
  exact gX10_up ⟨by omega, by omega, ⟨by omega, by omega⟩, by omega, hP⟩
theorem sX10_spare {C C0 : aIF} {S : aS} {mm m0 n c p : Nat} {d : Int} {P : Int → aS → Prop} (h : XR C S mm n c d) (hp : p < n) (hP : P (spF S p) S) : rMetI w mX10_spare [aO 40 0, aI (p : Int)] C0 S (rf m0) P := by
  obtain ⟨a1, a2, a3, a4, a5, a6, a7⟩ := XR_at h hp
  have b := kp_bd h hp
  have hr := XR_rm h hp
  have h28 := a3.2.2.1
  unfold spF kpF at hP
  unfold kpF at b
  unfold rfF at hP b
  refine gX10_spare (gX10_isThere ⟨a1.1, fun q => ⟨fun q => absurd rfl q, fun _ => ?_⟩, fun q => ⟨fun _ => ⟨a1.1, fun q2 => ?_, fun q2 => ⟨by omega, ?_⟩⟩, fun q => absurd q (by decide)⟩⟩)
  · rw [if_pos q] at hP
    exact hP
  · rw [if_neg q, if_neg q2] at hP
    rw [if_neg q2] at b
    exact sX10_up a6 (by omega) ⟨by omega, hP⟩
  · rw [if_neg q, if_pos q2] at hP
    rw [if_pos q2] at b
    exact sX10_up a6 (by omega) ⟨by omega, hP⟩
end RU
