/-! need, falls -/
def kR (C : aIF) (S : aS) : Prop := tOK S ∧ tR C S ∧ prR C S ∧ tmR C S
theorem kR_of {C : aIF} {S : aS} {mm t : Nat} (h : Inv C S mm t) : kR C S := ⟨h.1, h.2.1, h.2.2.2.1, h.2.2.2.2.1⟩
theorem kR_tF {C C' : aIF} {S : aS} (h : kR C S) (k : tF C C') (kt : tmR C' S) : kR C' S :=
  ⟨h.1, tR_cg (fun _ => k.1 _ _ _ (by omega) (by omega) (by omega)) (fun _ _ _ => rfl) h.2.1, prR_cg (k.1 _ _ _ (by omega) (by omega) (by omega)) (fun i j hj => k.1 _ _ _ (by omega) (by omega) (by omega)) (fun _ _ => k.1 _ _ _ (by omega) (by omega) (by omega)) rfl (fun _ _ _ _ => rfl) h.2.2.1, kt⟩
theorem kR_cg {C C' : aIF} {S : aS} (h : kR C S) (k : ∀ k i j, k < 10 → C' k i j = C k i j) : kR C' S :=
  ⟨h.1, tR_cg (fun _ => k _ _ _ (by omega)) (fun _ _ _ => rfl) h.2.1, prR_cg (k _ _ _ (by omega)) (fun i j hj => k _ _ _ (by omega)) (fun _ _ => k _ _ _ (by omega)) rfl (fun _ _ _ _ => rfl) h.2.2.1, tmR_cg (fun _ => k _ _ _ (by omega)) (fun _ _ => k _ _ _ (by omega)) rfl rfl rfl (fun _ _ _ _ => rfl) h.2.2.2⟩
/-- the reference's side -/
def sR (S : aS) : Prop := tOK S ∧ (0 ≤ S 10 0 ∧ S 10 0 ≤ 6) ∧ ∀ p : Nat, p < 6 → (p : Int) < S 10 0 → pOK S p ∧ 0 ≤ S 15 p ∧ S 15 p ≤ 1000
theorem sR_of {C : aIF} {S : aS} (h : kR C S) : sR S := ⟨h.1, h.2.2.1.1.2, fun p h1 h2 => ⟨pOK_of (h.2.2.1.2 p h1 h2), (h.2.2.1.2 p h1 h2).2.2.2.1.2⟩⟩
/-- a change that leaves terms and programs -/
def sF (S S' : aS) : Prop := ∀ f j, 5 ≤ f → f ≤ 15 → S' f j = S f j
theorem sF_trans {S S1 S2 : aS} (h : sF S S1) (k : sF S1 S2) : sF S S2 := fun f j a b => by rw [k f j a b, h f j a b]
theorem sF_16 {S S' : aS} (h : ∀ f j, f ≠ 16 → S' f j = S f j) : sF S S' := fun f j _ _ => h f j (by omega)
theorem sR_cg {S S' : aS} (h : sR S) (k : sF S S') : sR S' := by
  refine ⟨tOK_cg (fun f h1 h2 => k f 0 h1 (by omega)) h.1, by rw [k 10 0 (by omega) (by omega)]; exact h.2.1, fun p h1 h2 => ?_⟩
  rw [k 10 0 (by omega) (by omega)] at h2
  rw [k 15 p (by omega) (by omega)]
  exact ⟨pOK_cg (fun f j g1 g2 => k f j (by omega) g2) (h.2.2 p h1 h2).1, (h.2.2 p h1 h2).2⟩
theorem aT_cg {S S' : aS} (k : sF S S') (p : Nat) : aT S' p = aT S p := funext (fun q => by
  unfold aT
  rw [k 5 0 (by omega) (by omega)]
  exact alone_cg (fun f j h1 h2 => k f j (by omega) h2) p _)
theorem needF_cg {S S' : aS} (k : sF S S') (p : Nat) : needF S' p = needF S p := by
  unfold needF ups
  rw [aT_cg k p, k 5 0 (by omega) (by omega), k 6 0 (by omega) (by omega), k 15 p (by omega) (by omega)]
theorem aT_bd {S : aS} {p k : Nat} (h : sR S) (hp : p < 6) (hq : (p : Int) < S 10 0) (hk : (k : Int) * S 5 0 ≤ S 6 0) : aT S p k = -1 ∨ (0 ≤ aT S p k ∧ aT S p k ≤ 20160000) :=
  alone_bd (h.2.2 p hp hq).1 (Int.mul_nonneg (by omega) (by have := h.1.1; omega)) (by have := h.1.2.1; omega)
theorem needF_is {S : aS} {p N : Nat} (hN : S 6 0 / S 5 0 = (N : Int)) : needF S p = -1 ∨ ∃ q : Nat, needF S p = (q : Int) ∧ (ups S (S 15 p)).toNat ≤ q ∧ q ≤ N ∧ aT S p q ≠ -1 ∧ ∀ z, (ups S (S 15 p)).toNat ≤ z → z < q → aT S p z = -1 := by
  unfold needF
  rw [hN]
  rcases fstN_is (g := aT S p) ((N : Int).toNat + 1 - (ups S (S 15 p)).toNat) (ups S (S 15 p)).toNat with h | ⟨q, h1, h2, h3, h4, h5⟩
  · exact Or.inl h
  · exact Or.inr ⟨q, h3, h1, by omega, h4, h5⟩
section ND2
variable {w : aW} {mm t : Nat}
theorem sX0_learn_37 {S : aS} {p N : Nat} {g : Nat → Int} {P : aIF → Prop} (hp : p < 6) (hN : N ≤ 64) : ∀ (m k : Nat) (C : aIF), k + m = N + 1 → C 11 0 4 = ((N + 1 : Nat) : Int) → (∀ q : Nat, q < N + 1 → ((q : Int) < C 11 0 5 → g q = -1) ∧ (¬ (q : Int) < C 11 0 5 → (0 ≤ C 11 0 6 + C 16 0 q ∧ C 11 0 6 + C 16 0 q ≤ 40000000) ∧ g q = C 11 0 6 + C 16 0 q)) →
    (∀ C' : aIF, (∀ k i j, ¬ (k = 8 ∧ i = p) → ¬ (k = 6 ∧ i = p ∧ j = 6) → C' k i j = C k i j) → C' 6 p 6 = 1 → (∀ q, k ≤ q → q ≤ N → C' 8 p q = g q) → (∀ q, q < k → C' 8 p q = C 8 p q) → P C') →
    kRunV w mX0_learnTimes 37 [some (aO 10 0), some (aO 6 p), some (aI (N : Int)), some (aI (k : Int))] [] C S (rf mm) P
  | 0, k, C, e, h4, hg, hP => gX0_learnTimes_37 hp ⟨fun _ => hP _ (fun k i j z1 z2 => uI_no z2) uI_s (fun q z1 z2 => absurd z2 (by omega)) (fun q z => uI_k rfl), fun q => absurd (by omega) q⟩
  | m + 1, k, C, e, h4, hg, hP => by
    have nx : Unit → ∀ x : Int, x = g k → k < 65 ∧ k + 1 < 2147483648 ∧ kRunV w mX0_learnTimes 37 [some (aO 10 0), some (aO 6 p), some (aI (N : Int)), some (aI ((k + 1 : Nat) : Int))] [] (uI C 8 p k x) S (rf mm) P := fun _ x hx => by
      refine ⟨by omega, by omega, sX0_learn_37 (g := g) hp hN m (k + 1) _ (by omega) (by rw [uI_k rfl]; exact h4) (fun q hq => ?_) (fun C' k1 k2 k3 k4 => hP C' (fun k i j z1 z2 => ?_) k2 (fun q z1 z2 => ?_) (fun q z => ?_))⟩
      · rw [uI_k rfl, uI_k rfl, uI_k rfl]
        exact hg q hq
      · rw [k1 k i j z1 z2]
        exact uI_no (fun z => z1 ⟨z.1, z.2.1⟩)
      · by_cases eq : q = k
        · rw [eq, k4 k (by omega), uI_s]
          exact hx
        · exact k3 q (by omega) z2
      · rw [k4 q (by omega)]
        exact uI_no (by omega)
    have hk := hg k (by omega)
    refine gX0_learnTimes_37 hp ⟨fun q => absurd q (by omega), fun _ => gX8_timeOf ⟨fun q => nx () _ (hk.1 q).symm, fun q => ⟨fun _ => ⟨by omega, ?_⟩, fun z => absurd (by omega) z⟩⟩⟩
    have := hk.2 q
    refine ⟨by rw [Int.toNat_natCast]; omega, nx () _ ?_⟩
    rw [Int.toNat_natCast]
    exact this.2.symm
theorem sX0_learn {C : aIF} {S : aS} {p : Nat} {P : aIF → Prop} (h : kR C S) (hp : p < 6) (hq : (p : Int) < S 10 0) (hP : ∀ C' : aIF, tF C C' → kR C' S → C' 6 p 6 = 1 → P C') : kMetV w mX0_learnTimes [aO 10 0, aO 6 p] C S (rf mm) P := by
  obtain ⟨N, M, hN, hM, e6, e7, eN, eM, -⟩ := tOK_N h.1
  have hR := h.2.2.1.2 p hp hq
  have ho := pOK_of hR
  have hs : 0 < S 5 0 := by have := h.1.1; omega
  obtain ⟨r0, r1, r2, r3, r4⟩ := h.2.1
  refine gX0_learnTimes hp ⟨fun g => ?_, fun g => ?_⟩
  · refine gX5_allSteps ⟨⟨by have := h.1.2.1; omega, by omega⟩, ?_⟩
    rw [r0, r1, eN]
    refine ⟨by omega, ?_⟩
    refine sX8_pass (L := N + 1) hp (by omega) (by omega) (fun q hq => ?_) (pC_of hR) (by have := ho.1; omega) (by have := ho.2.1; omega) (fun q hq => ho.2.2 q (by have := ho.1; omega) (by omega)) (fun C1 h1 h2 h3 => ?_)
    · have z1 : (q : Int) * S 5 0 ≤ (N : Int) * S 5 0 := (mle hs).2 (by omega)
      have z2 : 0 ≤ (q : Int) * S 5 0 := Int.mul_nonneg (by omega) (by omega)
      have z3 := h.1.2.1
      omega
    · have h3' : ∀ q : Nat, q < N + 1 → ((q : Int) < C1 11 0 5 → aT S p q = -1) ∧ (¬ (q : Int) < C1 11 0 5 → (0 ≤ C1 11 0 6 + C1 16 0 q ∧ C1 11 0 6 + C1 16 0 q ≤ 40000000) ∧ aT S p q = C1 11 0 6 + C1 16 0 q) := fun q hq => by
        have := h3 q hq
        rw [Int.zero_add] at this
        exact this
      refine sX0_learn_37 (g := aT S p) hp (by omega) (N + 1) 0 C1 (by omega) h2 h3' (fun C' k1 k2 k3 k4 => ?_)
      have ft : tF C C' := ⟨fun k i j z1 z2 z3 => by rw [k1 k i j (fun z => z1 z.1) (fun z => z2 ⟨z.1, z.2.2⟩), h1 k i j z3], fun j z => by
        by_cases ej : j = p
        · rw [ej]
          exact k2
        · rw [k1 6 j 6 (by omega) (by omega), h1 6 j 6 (by omega)]
          exact z⟩
      have tt : tmR C' S := fun j z1 z2 => by
        by_cases ej : j = p
        · subst ej
          refine Or.inr ⟨k2, fun k z3 z4 => k3 k (by omega) ?_⟩
          rw [e6, mle hs] at z4
          omega
        · rw [k1 6 j 6 (by omega) (by omega), h1 6 j 6 (by omega)]
          have := h.2.2.2 j z1 z2
          refine this.imp id (fun z => ⟨z.1, fun k z3 z4 => ?_⟩)
          rw [k1 8 j k (by omega) (by omega), h1 8 j k (by omega)]
          exact z.2 k z3 z4
      exact hP C' ft (kR_tF h ft tt) k2
  · refine hP C tF_refl h ?_
    have := h.2.2.2 p hp hq
    omega
theorem sX0_need_17 {C : aIF} {S : aS} {p N : Nat} {P : Int → aIF → Prop} (hp : p < 6) (hN : N ≤ 64) (h9 : C 9 0 1 / C 9 0 0 = (N : Int)) (h90 : 0 < C 9 0 0) (h91 : 0 ≤ C 9 0 1) {g : Nat → Int} (hg : ∀ k, k ≤ N → C 8 p k = g k) : ∀ (m k : Nat), N + 1 - k = m → k < 100000 → P (fstN g m k) C → kRunI w mX0_needInSteps 17 [some (aO 10 0), some (aO 6 p), some (aI (k : Int))] [] C S (rf mm) P
  | 0, k, e, hk, hP => gX0_needInSteps_17 hp (gX5_allSteps ⟨⟨h91, h90⟩, by rw [h9]; exact ⟨fun _ => hP, fun q => absurd (by omega) q⟩⟩)
  | m + 1, k, e, hk, hP => gX0_needInSteps_17 hp (gX5_allSteps ⟨⟨h91, h90⟩, by
      rw [h9]
      unfold fstN at hP
      refine ⟨fun q => absurd q (by omega), fun _ => ⟨by omega, fun q => ⟨by omega, ?_⟩, fun q => ?_⟩⟩
      · rw [hg k (by omega)] at q
        rw [if_pos q] at hP
        exact sX0_need_17 hp hN h9 h90 h91 hg m (k + 1) (by omega) (by omega) hP
      · rw [hg k (by omega)] at q
        rw [if_neg q] at hP
        exact hP⟩)
theorem ups_bd {S : aS} {v : Int} (hs : 1 ≤ S 5 0) (h0 : 0 ≤ v) : 0 ≤ ups S v ∧ ups S v ≤ v + S 5 0 - 1 := by
  unfold ups
  refine ⟨Int.ediv_nonneg (by omega) (by omega), ?_⟩
  exact Int.ediv_le_self _ (by omega)
theorem sX0_need {C : aIF} {S : aS} {p : Nat} {P : Int → aIF → Prop} (h : kR C S) (hp : p < 6) (hq : (p : Int) < S 10 0) (hP : ∀ C' : aIF, tF C C' → kR C' S → C' 6 p 6 = 1 → P (needF S p) C') : kMetI w mX0_needInSteps [aO 10 0, aO 6 p] C S (rf mm) P := by
  obtain ⟨N, M, hN, hM, e6, e7, eN, eM, -⟩ := tOK_N h.1
  have hs : 0 < S 5 0 := by have := h.1.1; omega
  refine gX0_needInSteps hp (sX0_learn h hp hq (fun C1 f1 k1 c1 => ?_))
  obtain ⟨r0, r1, r2, r3, r4⟩ := k1.2.1
  have hfl := (k1.2.2.1.2 p hp hq).2.2.2.1
  have h5 := h.1.1
  have hub := ups_bd (S := S) (v := S 15 p) (by omega) (by omega)
  refine gX5_stepsFor ⟨by omega, by omega, ⟨by omega, by omega⟩, ?_⟩
  have ek : (C1 6 p 4 + C1 9 0 0 - 1) / C1 9 0 0 = (((ups S (S 15 p)).toNat : Nat) : Int) := by
    rw [hfl.1, r0, Int.toNat_of_nonneg hub.1]
    rfl
  rw [ek]
  refine sX0_need_17 (N := N) (g := aT S p) hp (by omega) (by rw [r0, r1]; exact eN) (by omega) (by have := h.1.2.1; omega) (fun k hk => ?_) _ _ rfl (by omega) ?_
  · have := (k1.2.2.2 p hp hq).resolve_left (by omega)
    exact this.2 k (by omega) (by rw [e6, mle hs]; omega)
  · have e : fstN (aT S p) (N + 1 - (ups S (S 15 p)).toNat) (ups S (S 15 p)).toNat = needF S p := by
      unfold needF
      rw [eN]
      rfl
    rw [e]
    exact hP C1 f1 k1 c1
theorem sX10_need_11 {C : aIF} {p N : Nat} {st : Int} {P : Int → aS → Prop} (hp : p < 6) (hN : N ≤ 64) (hs : 1 ≤ st ∧ st ≤ 64) {g : Nat → Int} : ∀ (m k : Nat) (S : aS), N + 1 - k = m → k < 2000 → sR S → (p : Int) < S 10 0 → S 5 0 = st → S 6 0 = (N : Int) * st → aT S p = g → (∀ S' : aS, (∀ f j, f ≠ 16 → S' f j = S f j) → P (if fstN g m k = -1 then -1 else fstN g m k * st) S') → rRunI w mX10_needOf 11 [some (aO 40 0), some (aI (p : Int)), some (aI ((k : Int) * st))] [] C S (rf mm) P
  | 0, k, S, e, hk, hR, hq, h5, h6, hg, hP => gX10_needOf_11 ⟨fun _ => hP S (fun _ _ _ => rfl), fun q => absurd (by rw [h6, mlt (by omega)]; omega) q⟩
  | m + 1, k, S, e, hk, hR, hq, h5, h6, hg, hP => by
    have hkN : (k : Int) * st ≤ (N : Int) * st := (mle (by omega)).2 (by omega)
    have hk0 : 0 ≤ (k : Int) * st := Int.mul_nonneg (by omega) (by omega)
    have h61 := hR.1.2.1
    refine gX10_needOf_11 ⟨fun q => absurd q (by omega), fun _ => sX10_alone hp hk0 (by omega) (hR.2.2 p hp hq).1 (fun S1 f1 => ?_)⟩
    have ea : alone S p ((k : Int) * st) = g k := by
      rw [← hg, ← h5]
      rfl
    rw [ea]
    unfold fstN at hP
    refine ⟨fun q => ⟨by rw [f1 _ _ (by decide), h5]; omega, ?_⟩, fun q => ?_⟩
    · rw [if_pos q] at hP
      have := sX10_need_11 (C := C) hp hN hs (g := g) m (k + 1) S1 (by omega) (by omega) (sR_cg hR (sF_16 f1)) (by rw [f1 _ _ (by decide)]; exact hq) (by rw [f1 _ _ (by decide)]; exact h5) (by rw [f1 _ _ (by decide)]; exact h6) (by rw [aT_cg (sF_16 f1)]; exact hg) (fun S' f2 => hP S' (fun f j z => by rw [f2 f j z, f1 f j z]))
      rw [f1 _ _ (by decide), h5, show (k : Int) * st + st = ((k + 1 : Nat) : Int) * st by rw [Int.natCast_succ, Int.add_mul, Int.one_mul]]
      exact this
    · rw [if_neg q] at hP
      have := hP S1 f1
      rw [if_neg (by omega)] at this
      exact this
theorem sX10_needOf {C : aIF} {S : aS} {p : Nat} {P : Int → aS → Prop} (hR : sR S) (hp : p < 6) (hq : (p : Int) < S 10 0) (hP : ∀ S' : aS, (∀ f j, f ≠ 16 → S' f j = S f j) → P (if needF S p = -1 then -1 else needF S p * S 5 0) S') : rMetI w mX10_needOf [aO 40 0, aI (p : Int)] C S (rf mm) P := by
  obtain ⟨N, M, hN, hM, e6, e7, eN, eM, -⟩ := tOK_N hR.1
  have h5 := hR.1.1
  have hfl := (hR.2.2 p hp hq).2
  have hub := ups_bd (S := S) (v := S 15 p) (by omega) (by omega)
  have hmul : 0 ≤ ups S (S 15 p) * S 5 0 ∧ ups S (S 15 p) * S 5 0 ≤ S 15 p + S 5 0 - 1 := by
    unfold ups at *
    exact ⟨Int.mul_nonneg hub.1 (by omega), Int.ediv_mul_le _ (by omega)⟩
  refine gX10_needOf ⟨hp, gX10_up ⟨by omega, by omega, ⟨by omega, by omega⟩, ?_, ?_⟩⟩
  · show -2147483648 ≤ ups S (S 15 p) * S 5 0 ∧ ups S (S 15 p) * S 5 0 < 2147483648
    omega
  · have e : (S 15 p + S 5 0 - 1) / S 5 0 * S 5 0 = (((ups S (S 15 p)).toNat : Nat) : Int) * S 5 0 := by
      rw [Int.toNat_of_nonneg hub.1]
      rfl
    rw [e]
    refine sX10_need_11 (N := N) hp (by omega) (by omega) _ _ S rfl (by omega) hR hq rfl e6 rfl ?_
    have e : fstN (aT S p) (N + 1 - (ups S (S 15 p)).toNat) (ups S (S 15 p)).toNat = needF S p := by
      unfold needF
      rw [eN]
      rfl
    rw [e]
    exact hP
theorem opNeed {C : aIF} {S : aS} {a : Int} (h : Inv C S mm t) : opOK w mX9_need mX10_need [aI a] C S mm t := by
  have h9 := Inv_0 (Inv_t (Nat.le_succ t) h)
  have hp := h.2.2.2.1
  have hp1 := hp.1
  have hb : 0 ≤ sU S 0 0 0 10 0 ∧ sU S 0 0 0 10 0 ≤ 6 := by rw [sU_f rfl]; omega
  have h10 : sU S 0 0 0 10 0 = S 10 0 := sU_f rfl
  have hf0 : sF S (sU S 0 0 0) := fun f j q1 q2 => sU_ne (by omega)
  have hk := kR_of h
  refine gX9_need (sX9_isProgram (fun g1 g2 => ⟨fun _ => ⟨by omega, ?_⟩, fun q => absurd q (by decide)⟩) (fun g => ⟨fun q => absurd rfl q, fun _ => ?_⟩))
  · obtain ⟨p, rfl⟩ : ∃ p : Nat, a = (p : Int) := ⟨a.toNat, by omega⟩
    rw [Int.toNat_natCast]
    obtain ⟨N, M, hN, hM, e6, e7, eN, eM, -⟩ := tOK_N h.1
    have h5 := h.1.1
    have h6 := h.1.2.1
    refine sX0_need hk (by omega) (by omega) (fun C1 f1 k1 c1 => ?_)
    have hI : Inv C1 (sU S 0 0 0) mm (t + 1) := Inv_0 (Inv_tF (Inv_t (Nat.le_succ t) h) f1 k1.2.2.2)
    have e9 : C1 9 0 0 = S 5 0 := k1.2.1.1
    have ref : ∀ x : Int, x = (if needF S p = -1 then -1 else needF S p * S 5 0) → rMetI w mX10_need (aO 40 0 :: [aI (p : Int)]) C1 S (rf mm) (fun y S' => y = x ∧ Inv C1 S' mm (t + 1)) := fun x hx => by
      refine gX10_need (sX10_isProgram hb (fun _ _ => ⟨fun q => absurd q (by decide), fun _ => ?_⟩) (fun z => absurd (by rw [h10]; omega) z))
      refine sX10_needOf (sR_cg (sR_of hk) hf0) (by omega) (by rw [h10]; omega) (fun S' hS => ⟨?_, Inv_S (fun f j _ _ z _ _ _ => hS f j z) hI⟩)
      rw [needF_cg hf0, sU_f rfl, hx]
    refine ⟨fun q => ?_, fun q => ?_⟩
    · rcases needF_is (S := S) (p := p) eN with e | ⟨z, e, z1, z2, z3, z4⟩
      · exact absurd e q
      · rw [e9]
        have u1 : (z : Int) * S 5 0 ≤ (N : Int) * S 5 0 := (mle (by omega)).2 (by omega)
        have u2 : 0 ≤ (z : Int) * S 5 0 := Int.mul_nonneg (by omega) (by omega)
        refine ⟨by rw [e]; omega, ref _ ?_⟩
        rw [if_neg q]
    · refine ref _ ?_
      rw [if_pos q]
  · exact gX10_need (sX10_isProgram hb (fun z1 z2 => absurd (by rw [h10] at z2; omega) g) (fun _ => ⟨fun _ => ⟨rfl, h9⟩, fun q => absurd rfl q⟩))
end ND2
/-! falls -/
def fallF (g : Nat → Int) : Nat → Nat → Int → Int
  | 0, _, _ => 1
  | m + 1, k, w => if g k - g (k + 1) < 0 ∨ w < g k - g (k + 1) then 0 else fallF g m (k + 1) (g k - g (k + 1))
section ND3
variable {w : aW} {mm t : Nat}
theorem sX1_falls_6 {C : aIF} {S : aS} {p N : Nat} {p1 : Int} {P : Int → aIF → Prop} (hp : p < 6) (hN : N ≤ 64) {g : Nat → Int} (hg : ∀ k, k ≤ N → C 8 p k = g k ∧ -1 ≤ g k ∧ g k ≤ 20160000) : ∀ (m k : Nat) (ah : Int), k + m = N → P (fallF g m k ah) C → kRunI w mX1_fallsEverSlower 6 [some (aO 6 p), some (aI p1), some (aI (N : Int)), some (aI ah), some (aI (k : Int)), none] [] C S (rf mm) P
  | 0, k, ah, e, hP => gX1_fallsEverSlower_6 hp ⟨fun _ => hP, fun q => absurd (by omega) q⟩
  | m + 1, k, ah, e, hP => by
    obtain ⟨a1, a2, a3⟩ := hg k (by omega)
    obtain ⟨b1, b2, b3⟩ := hg (k + 1) (by omega)
    unfold fallF at hP
    refine gX1_fallsEverSlower_6 hp ⟨fun q => absurd q (by omega), fun _ => ⟨by omega, by omega, by omega, by omega, fun q => ?_, fun q => ⟨fun q2 => ⟨by omega, ?_⟩, fun q2 => ?_⟩⟩⟩
    · rw [if_pos (by omega)] at hP
      exact hP
    · rw [if_neg (by omega)] at hP
      rw [a1, b1]
      exact sX1_falls_6 hp hN hg m (k + 1) _ (by omega) hP
    · rw [if_pos (by omega)] at hP
      exact hP
theorem sX10_falls_40 {C : aIF} {p N : Nat} {st : Int} {P : Int → aS → Prop} (hp : p < 6) (hN : N ≤ 64) (hs : 1 ≤ st ∧ st ≤ 64) {g : Nat → Int} (hg : ∀ k, k ≤ N → -1 ≤ g k ∧ g k ≤ 20160000) : ∀ (m k : Nat) (ah : Int) (S : aS), k + m = N → sR S → (p : Int) < S 10 0 → S 5 0 = st → S 6 0 = (N : Int) * st → aT S p = g → (∀ S' : aS, (∀ f j, f ≠ 16 → S' f j = S f j) → P (fallF g m k ah) S') → rRunI w mX10_falls 40 [some (aO 40 0), some (aI (p : Int)), some (aI ((k : Int) * st)), some (aI ah), some (aI (g k)), none, none] [] C S (rf mm) P
  | 0, k, ah, S, e, hR, hq, h5, h6, hgg, hP => by
    have hkN : k = N := by omega
    subst hkN
    have := hR.1.2.1
    have hk0 : 0 ≤ (k : Int) * st := Int.mul_nonneg (by omega) (by omega)
    refine gX10_falls_40 ⟨by omega, fun _ => hP S (fun _ _ _ => rfl), fun q => absurd (by omega) q⟩
  | m + 1, k, ah, S, e, hR, hq, h5, h6, hgg, hP => by
    have ek : (k : Int) * st + S 5 0 = ((k + 1 : Nat) : Int) * st := by rw [h5, Int.natCast_succ, Int.add_mul, Int.one_mul]
    have hkN : ((k + 1 : Nat) : Int) * st ≤ (N : Int) * st := (mle (by omega)).2 (by omega)
    have hk0 : 0 ≤ ((k + 1 : Nat) : Int) * st := Int.mul_nonneg (by omega) (by omega)
    have h61 := hR.1.2.1
    have a2 := hg k (by omega)
    have b2 := hg (k + 1) (by omega)
    unfold fallF at hP
    refine gX10_falls_40 ?_
    rw [ek]
    refine ⟨by omega, fun q => absurd q (by omega), fun _ => ⟨by omega, sX10_alone hp hk0 (by omega) (hR.2.2 p hp hq).1 (fun S1 f1 => ?_)⟩⟩
    have ea : alone S p (((k + 1 : Nat) : Int) * st) = g (k + 1) := by
      rw [← hgg, ← h5]
      rfl
    rw [ea]
    refine ⟨by omega, fun q => ?_, fun q => ⟨fun q2 => ?_, fun q2 => ?_⟩⟩
    · rw [if_pos (by omega)] at hP
      exact hP S1 f1
    · rw [if_neg (by omega)] at hP
      exact sX10_falls_40 (C := C) hp hN hs hg m (k + 1) _ S1 (by omega) (sR_cg hR (sF_16 f1)) (by rw [f1 _ _ (by decide)]; exact hq) (by rw [f1 _ _ (by decide)]; exact h5) (by rw [f1 _ _ (by decide)]; exact h6) (by rw [aT_cg (sF_16 f1)]; exact hgg) (fun S' f2 => hP S' (fun f j z => by rw [f2 f j z, f1 f j z]))
    · rw [if_pos (by omega)] at hP
      exact hP S1 f1
theorem fallF_01 {g : Nat → Int} : ∀ (m k : Nat) (w : Int), fallF g m k w = 0 ∨ fallF g m k w = 1
  | 0, _, _ => Or.inr rfl
  | m + 1, k, w => by
    unfold fallF
    split
    · exact Or.inl rfl
    · exact fallF_01 m (k + 1) _
theorem opFalls {C : aIF} {S : aS} {a : Int} (h : Inv C S mm t) : opOK w mX9_falls mX10_falls [aI a] C S mm t := by
  have h9 := Inv_0 (Inv_t (Nat.le_succ t) h)
  have hp := h.2.2.2.1
  have hp1 := hp.1
  have hb : 0 ≤ sU S 0 0 0 10 0 ∧ sU S 0 0 0 10 0 ≤ 6 := by rw [sU_f rfl]; omega
  have h10 : sU S 0 0 0 10 0 = S 10 0 := sU_f rfl
  have hf0 : sF S (sU S 0 0 0) := fun f j q1 q2 => sU_ne (by omega)
  have hk := kR_of h
  refine gX9_falls (sX9_isProgram (fun g1 g2 => ⟨fun _ => ⟨by omega, ?_⟩, fun q => absurd q (by decide)⟩) (fun g => ⟨fun q => absurd rfl q, fun _ => ?_⟩))
  · obtain ⟨p, rfl⟩ : ∃ p : Nat, a = (p : Int) := ⟨a.toNat, by omega⟩
    rw [Int.toNat_natCast]
    obtain ⟨N, M, hN, hM, e6, e7, eN, eM, -⟩ := tOK_N h.1
    have h5 := h.1.1
    have h6 := h.1.2.1
    have hs : 0 < S 5 0 := by omega
    refine sX0_need hk (by omega) (by omega) (fun C1 f1 k1 c1 => ?_)
    have hI : Inv C1 (sU S 0 0 0) mm (t + 1) := Inv_0 (Inv_tF (Inv_t (Nat.le_succ t) h) f1 k1.2.2.2)
    obtain ⟨r0, r1, r2, r3, r4⟩ := k1.2.1
    have hR0 := sR_cg (sR_of hk) hf0
    have hgb : ∀ k, k ≤ N → -1 ≤ aT S p k ∧ aT S p k ≤ 20160000 := fun k hk2 => by
      have := aT_bd (S := S) (p := p) (k := k) (sR_of hk) (by omega) (by omega) (by rw [e6, mle hs]; omega)
      omega
    have ref : ∀ x : Int, (needF S p = -1 → x = -1) → (∀ z : Nat, needF S p = (z : Int) → x = fallF (aT S p) (N - z) z 2147483647) → rMetI w mX10_falls (aO 40 0 :: [aI (p : Int)]) C1 S (rf mm) (fun y S' => y = x ∧ Inv C1 S' mm (t + 1)) := fun x hx1 hx2 => by
      refine gX10_falls (sX10_isProgram hb (fun _ _ => ⟨fun _ => ?_, fun q => absurd q (by decide)⟩) (fun z => absurd (by rw [h10]; omega) z))
      refine sX10_needOf hR0 (by omega) (by rw [h10]; omega) (fun S1 hS => ?_)
      rw [needF_cg hf0, sU_f rfl]
      have hI1 : Inv C1 S1 mm (t + 1) := Inv_S (fun f j _ _ z _ _ _ => hS f j z) hI
      have hF1 : sF S S1 := sF_trans hf0 (sF_16 hS)
      rcases needF_is (S := S) (p := p) eN with e | ⟨z, e, z1, z2, z3, z4⟩
      · rw [if_pos e]
        exact ⟨fun q => absurd rfl q, fun _ => ⟨(hx1 e).symm, hI1⟩⟩
      · rw [if_neg (by omega), e]
        have u1 : (z : Int) * S 5 0 ≤ (N : Int) * S 5 0 := (mle hs).2 (by omega)
        have u2 : 0 ≤ (z : Int) * S 5 0 := Int.mul_nonneg (by omega) (by omega)
        have hR1 := sR_cg (sR_of hk) hF1
        have q10 : S1 10 0 = S 10 0 := hF1 10 0 (by omega) (by omega)
        refine ⟨fun _ => sX10_alone (by omega) u2 (by omega) (hR1.2.2 p (by omega) (by omega)).1 (fun S2 hS2 => ?_), fun q => absurd q (by omega)⟩
        have ea : alone S1 p ((z : Int) * S 5 0) = aT S p z := alone_cg (fun f j z1 z2 => hF1 f j (by omega) z2) p _
        rw [ea]
        have hF2 : sF S S2 := sF_trans hF1 (sF_16 hS2)
        refine sX10_falls_40 (C := C1) (by omega) (by omega) (by omega) hgb (N - z) z _ S2 (by omega) (sR_cg (sR_of hk) hF2) (by rw [hF2 10 0 (by omega) (by omega)]; omega) (hF2 5 0 (by omega) (by omega)) (by rw [hF2 6 0 (by omega) (by omega)]; exact e6) (aT_cg hF2 p) (fun S3 hS3 => ⟨(hx2 z e).symm, Inv_S (fun f j _ _ z _ _ _ => by rw [hS3 f j z, hS2 f j z]) hI1⟩)
    refine ⟨fun q => ?_, fun q => ref _ (fun _ => rfl) (fun z hz => absurd hz (by omega))⟩
    rcases needF_is (S := S) (p := p) eN with e | ⟨z, e, z1, z2, z3, z4⟩
    · exact absurd e q
    · refine gX5_allSteps ⟨⟨by omega, by omega⟩, gX1_fallsEverSlower (by omega) ?_⟩
      rw [r0, r1, eN, e]
      refine sX1_falls_6 (g := aT S p) (by omega) (by omega) (fun k hk2 => ⟨?_, hgb k hk2⟩) (N - z) z _ (by omega) ?_
      · have := (k1.2.2.2 p (by omega) (by omega)).resolve_left (by omega)
        exact this.2 k (by omega) (by rw [e6, mle hs]; omega)
      · rcases fallF_01 (g := aT S p) (N - z) z 2147483647 with f | f
        · exact ⟨fun _ => ref _ (fun z => absurd z q) (fun z' hz => by
            have : z' = z := by omega
            rw [this, f]), fun q => absurd f q⟩
        · exact ⟨fun q => absurd q (by omega), fun _ => ref _ (fun z => absurd z q) (fun z' hz => by
            have : z' = z := by omega
            rw [this, f])⟩
  · exact gX10_falls (sX10_isProgram hb (fun z1 z2 => absurd (by rw [h10] at z2; omega) g) (fun _ => ⟨fun q => absurd rfl q, fun _ => ⟨rfl, h9⟩⟩))
end ND3
