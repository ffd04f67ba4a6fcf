/-! RUN: asking for room: what is there -/
def svA (S : aS) (p q : Nat) : Int := if q = p then 0 else spF S q
/-- what asking leaves as it was -/
def gF (C : aIF) (S : aS) (C' : aIF) (S' : aS) (p : Nat) : Prop :=
  (∀ k i j, k < 21 → C' k i j = C k i j) ∧ (∀ j, j ≠ 6 → C' 21 0 j = C 21 0 j) ∧ (∀ f j, f < 25 → S' f j = S f j) ∧ (∀ f, 28 ≤ f → f ≤ 43 → S' f p = S f p) ∧ ∀ j, 2400 * p ≤ j → j < 2400 * p + 2400 → S' 44 j = S 44 j
theorem gF_refl {C : aIF} {S : aS} {p : Nat} : gF C S C S p := ⟨fun _ _ _ _ => rfl, fun _ _ => rfl, fun _ _ _ => rfl, fun _ _ _ => rfl, fun _ _ _ => rfl⟩
theorem gF_trans {C C1 C2 : aIF} {S S1 S2 : aS} {p : Nat} (h : gF C S C1 S1 p) (k : gF C1 S1 C2 S2 p) : gF C S C2 S2 p := by
  obtain ⟨a1, a2, a3, a4, a5⟩ := h
  obtain ⟨b1, b2, b3, b4, b5⟩ := k
  exact ⟨fun k i j z => by rw [b1 k i j z, a1 k i j z], fun j z => by rw [b2 j z, a2 j z], fun f j z => by rw [b3 f j z, a3 f j z], fun f z1 z2 => by rw [b4 f z1 z2, a4 f z1 z2], fun j z1 z2 => by rw [b5 j z1 z2, a5 j z1 z2]⟩
theorem gF_of {C C' : aIF} {S S' : aS} {p q : Nat} (h : fp C S C' S' q) (e : p ≠ q) : gF C S C' S' p := by
  obtain ⟨a1, a2, ⟨a3, a4⟩, a5, a6, a7⟩ := h
  exact ⟨a1, a2, a5, fun f z1 z2 => a6 f p e z1 z2, fun j z1 z2 => a7 j (by omega)⟩
theorem spF_cg {S S' : aS} {q : Nat} (h5 : S' 5 0 = S 5 0) (h13 : S' 13 q = S 13 q) (h15 : S' 15 q = S 15 q) (h28 : S' 28 q = S 28 q) (h29 : S' 29 q = S 29 q) (h31 : S' 31 q = S 31 q) : spF S' q = spF S q := by
  unfold spF kpF ups
  rw [h5, h13, h15, h28, h29, h31]
theorem svA_give {C C' : aIF} {S S' : aS} {mm n c p q : Nat} {d a : Int} (h : XR C S mm n c d) (hq : q < n) (f : fp C S C' S' q) (ha : 0 < a) (has : a ≤ spF S q) (h29 : S' 29 q = S 29 q - a) (h31 : S' 31 q = S 31 q) (h28 : S' 28 q = S 28 q ∨ (S 28 q ≠ 2 ∧ S' 28 q = 1)) (h2 : S 28 q ≤ 2) (e : q ≠ p) : svA S' p q = svA S p q - a ∧ ∀ r, r ≠ q → svA S' p r = svA S p r := by
  obtain ⟨a1, a2, ⟨a3, a4⟩, a5, a6, a7⟩ := f
  refine ⟨?_, fun r hr => ?_⟩
  · unfold svA
    rw [if_neg e, if_neg e]
    have ek : kpF S' q = kpF S q := by
      unfold kpF ups
      rw [a5 5 0 (by omega), a5 15 q (by omega), a5 13 q (by omega), h31]
    unfold spF at has ⊢
    rw [ek, h29, if_neg (by omega), if_neg (by omega)]
    rw [if_neg (by omega)] at has
    omega
  · unfold svA
    by_cases er : r = p
    · rw [if_pos er, if_pos er]
    · rw [if_neg er, if_neg er]
      exact spF_cg (a5 _ _ (by omega)) (a5 _ _ (by omega)) (a5 _ _ (by omega)) (a6 _ _ hr (by omega) (by omega)) (a6 _ _ hr (by omega) (by omega)) (a6 _ _ hr (by omega) (by omega))
theorem sumN_sv {f g : Nat → Int} {q : Nat} {a : Int} {n : Nat} (hq : q < n) (h1 : g q = f q - a) (h2 : ∀ r, r ≠ q → g r = f r) : sumN g n = sumN f n - a := by
  have e1 := sumN_uN (f := f) (v := f q - a) n hq
  have e2 : sumN (uN f q (f q - a)) n = sumN g n := sumN_cg n (fun r hr => by
    by_cases e : r = q
    · rw [e, uN_s, h1]
    · rw [uN_n e, h2 r e])
  omega
theorem sv_is {C : aIF} {S : aS} {mm n c p q : Nat} {d : Int} (h : XR C S mm n c d) (hq : q < n) : 0 ≤ svA S p q ∧ S 5 0 ∣ svA S p q ∧ svA S p q ≤ S 29 q ∧ (3 ≤ S 28 q → svA S p q = 0) := by
  obtain ⟨s1, s2, s3, s4, s5⟩ := spF_is h hq
  have := XR_rm h hq
  unfold svA
  split
  · exact ⟨by omega, Int.dvd_zero _, by omega, fun _ => rfl⟩
  · exact ⟨s1, s3, s2, s5⟩
theorem sumN_le2 {f g : Nat → Int} : ∀ (n : Nat), (∀ q, q < n → f q ≤ g q) → sumN f n ≤ sumN g n
  | 0, _ => Int.le_refl 0
  | n + 1, h => by
    have h1 := sumN_le2 n (fun q hq => h q (by omega))
    have h2 := h n (by omega)
    show sumN f n + f n ≤ sumN g n + g n
    omega
theorem whoF_no {sv : Nat → Int} : ∀ (m k : Nat) (who most : Int), whoF sv m k who most = -1 → (∀ q, k ≤ q → q < k + m → sv q ≤ most) ∧ who = -1
  | 0, _, _, _, h => ⟨fun q z1 z2 => absurd z2 (by omega), h⟩
  | m + 1, k, who, most, h => by
    unfold whoF at h
    split at h
    · have := (whoF_no m (k + 1) _ _ h).2
      omega
    · rename_i e
      obtain ⟨h1, h2⟩ := whoF_no m (k + 1) _ _ h
      refine ⟨fun q z1 z2 => ?_, h2⟩
      by_cases eq : q = k
      · rw [eq]
        omega
      · exact h1 q (by omega) (by omega)
theorem whoF_pos {sv : Nat → Int} : ∀ (m k : Nat) (who most : Int) (q : Nat), (who = -1 ∨ ∃ r : Nat, who = (r : Int) ∧ 0 < sv r) → 0 ≤ most → whoF sv m k who most = (q : Int) → 0 < sv q
  | 0, _, who, _, q, h, _, e => by
    have e : who = (q : Int) := e
    rcases h with h | ⟨r, h1, h2⟩
    · omega
    · have : r = q := by omega
      rw [← this]
      exact h2
  | m + 1, k, who, most, q, h, h0, e => by
    unfold whoF at e
    split at e
    · rename_i z
      exact whoF_pos m (k + 1) _ _ q (Or.inr ⟨k, rfl, by omega⟩) (by omega) e
    · exact whoF_pos m (k + 1) _ _ q h h0 e
section AS
variable {w : aW} {S0 : aS} {C C' : aIF} {S S' : aS} {mm n c p : Nat} {d : Int}
/-- the pool changes -/
theorem XR_pool (h : XR C S mm n c d) {v : Int} (kf : ∀ k i j, ¬ (k = 21 ∧ i = 0 ∧ j = 6) → C' k i j = C k i j) (kv : C' 21 0 6 = v) (sf : ∀ f j, ¬ (f = 25 ∧ j = 0) → S' f j = S f j) (sv : S' 25 0 = v) (h0 : 0 ≤ v) (hdv : S 5 0 ∣ v) (hd : 0 ≤ d + (S 25 0 - v)) : XR C' S' mm n c (d + (S 25 0 - v)) := by
  obtain ⟨⟨g1, g2, g3⟩, g4, g5, ⟨g6, g7⟩, g8, g9, g10, E, kk, g11, g12⟩ := h
  refine ⟨⟨tOK_cg (fun f z1 z2 => sf f 0 (by omega)) g1, tR_cg (fun _ => kf _ _ _ (by omega)) (fun f z1 z2 => sf f 0 (by omega)) g2, prR_cg (kf _ _ _ (by omega)) (fun _ _ _ => kf _ _ _ (by omega)) (fun _ _ => kf _ _ _ (by omega)) (sf _ _ (by omega)) (fun f j z1 z2 => sf f j (by omega)) g3⟩, by rw [sf _ _ (by omega)]; exact g4, ⟨by rw [sf _ _ (by omega)]; exact g5.1, by rw [kf _ _ _ (by omega)]; exact g5.2⟩, ⟨fun q hq => by rw [kf _ _ _ (by omega)]; exact g6 q hq, fun q hq => ⟨pru_cg (fun j => kf _ _ _ (by omega)) (fun j => kf _ _ _ (by omega)) (fun j => kf _ _ _ (by omega)) (fun f j z1 z2 => sf f j (by omega)) (g7 q hq).1, RP_e (fun f j z1 z2 => sf f j (by omega)) (g7 q hq).2⟩⟩, ⟨by rw [kf _ _ _ (by omega), sf _ _ (by omega)]; exact g8.1, by rw [kv, sv]⟩, ⟨by rw [sv]; exact h0, by rw [sv, sf _ _ (by omega)]; exact hdv⟩, ⟨?_, hd⟩, E, kk, g11, lgE_cg (kf _ _ _ (by omega)) (fun k j z1 z2 => kf _ _ _ (by omega)) (sf _ _ (by omega)) (sf _ _ (by omega)) (fun j => sf _ _ (by omega)) g12⟩
  rw [sv, sf 6 0 (by omega), sumN_cg (g := fun q => S 29 q) n (fun q hq => sf _ _ (by omega))]
  have := g10.1
  omega
theorem sX7_so_4 {P : Int → aIF → Prop} (h : XR C S mm n c d) (hp : p < n) : ∀ (m q : Nat) (acc : Int), q + m = n → 0 ≤ acc → acc ≤ 4096 * (q : Int) → P (acc + (sumN (svA S p) n - sumN (svA S p) q)) C → kRunI w mX7_spareOfOthers 4 [some (aO 21 0), some (aO 28 p), some (aI acc), some (aI (q : Int))] [] C S0 (rf mm) P
  | 0, q, acc, e, h0, h1, hP => by
    have hn := h.2.2.1.2
    have : q = n := by omega
    subst this
    refine gX7_spareOfOthers_4 (by have := h.2.1; omega) ⟨fun _ => ?_, fun z => absurd (by omega) z⟩
    rw [show acc + (sumN (svA S p) q - sumN (svA S p) q) = acc by omega] at hP
    exact hP
  | m + 1, q, acc, e, h0, h1, hP => by
    have hn := h.2.2.1.2
    have hn6 := h.2.1
    have hnum := h.2.2.2.1.1 p (by omega)
    have es : sumN (svA S p) (q + 1) = sumN (svA S p) q + svA S p q := rfl
    have hr := XR_rm h (show q < n by omega)
    obtain ⟨v1, v2, v3, v4⟩ := sv_is (p := p) h (show q < n by omega)
    refine gX7_spareOfOthers_4 (by omega) ⟨fun z => absurd z (by omega), fun _ => ⟨fun z => ⟨by omega, ?_⟩, fun z => ⟨by omega, sX2_spare h (by omega) ?_⟩⟩⟩
    · have : svA S p q = 0 := if_pos (by omega)
      exact sX7_so_4 h hp m (q + 1) acc (by omega) h0 (by omega) (by rw [es, this, Int.add_zero]; exact hP)
    · have : svA S p q = spF S q := if_neg (by omega)
      rw [← this]
      exact ⟨by omega, by omega, sX7_so_4 h hp m (q + 1) _ (by omega) (by omega) (by omega) (by rw [es, show acc + svA S p q + (sumN (svA S p) n - (sumN (svA S p) q + svA S p q)) = acc + (sumN (svA S p) n - sumN (svA S p) q) by omega]; exact hP)⟩
theorem sX7_ws_7 {P : Int → aIF → Prop} (h : XR C S mm n c d) (hp : p < n) : ∀ (m q : Nat) (who most : Int), q + m = n → 0 ≤ most → P (whoF (svA S p) m q who most) C → kRunI w mX7_whoSparesMost 7 [some (aO 21 0), some (aO 28 p), some (aI who), some (aI most), some (aI (q : Int)), none] [] C S0 (rf mm) P
  | 0, q, who, most, e, h0, hP => by
    have hn := h.2.2.1.2
    exact gX7_whoSparesMost_7 (by have := h.2.1; omega) ⟨fun _ => hP, fun z => absurd (by omega) z⟩
  | m + 1, q, who, most, e, h0, hP => by
    have hn := h.2.2.1.2
    have hn6 := h.2.1
    have hnum := h.2.2.2.1.1 p (by omega)
    unfold whoF at hP
    refine gX7_whoSparesMost_7 (by omega) ⟨fun z => absurd z (by omega), fun _ => ⟨fun z => ⟨by omega, sX2_spare h (by omega) ?_⟩, fun z => ⟨fun z2 => ⟨by omega, ?_⟩, fun z2 => absurd h0 z2⟩⟩⟩
    · have : svA S p q = spF S q := if_neg (by omega)
      rw [← this]
      refine ⟨fun z2 => ⟨by omega, ?_⟩, fun z2 => ⟨by omega, ?_⟩⟩
      · rw [if_neg (by omega)] at hP
        exact sX7_ws_7 h hp m (q + 1) _ _ (by omega) h0 hP
      · rw [if_pos (by omega)] at hP
        exact sX7_ws_7 h hp m (q + 1) _ _ (by omega) (by omega) hP
    · have : svA S p q = 0 := if_pos (by omega)
      rw [if_neg (by omega)] at hP
      exact sX7_ws_7 h hp m (q + 1) _ _ (by omega) h0 hP
end AS
