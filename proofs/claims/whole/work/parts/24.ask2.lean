/-! RUN: asking for room -/
section AK
variable {w : aW} {S0 : aS} {C : aIF} {S : aS} {mm n c p : Nat} {d : Int}
theorem ups_lt {S : aS} {v : Int} (hs : 1 ≤ S 5 0) : (ups S v - 1) * S 5 0 < v := by
  have e := Int.ediv_mul_le (v + S 5 0 - 1) (show S 5 0 ≠ 0 by omega)
  rw [Int.sub_mul, Int.one_mul]
  unfold ups
  omega
theorem sX10_asks_5 {C0 : aIF} {v : Int} {P : Int → aS → Prop} (h : XR C S mm n c d) (hp : p < n) (hv : 0 < v ∧ v ≤ 99) {J : Nat} (hJ : ups S (rfF (S 13 p) (S 30 p + v) - S 29 p) = (J : Int))
    (hP : rRunI w mX10_asks 52 [some (aO 40 0), some (aI (p : Int)), some (aI v), some (aI ((J : Int) * S 5 0)), some (aI (S 25 0)), some (aI 0), none, none, none] [] C0 S (rf mm) P) : ∀ (m j : Nat), j + m = J → 1 ≤ j → rRunI w mX10_asks 5 [some (aO 40 0), some (aI (p : Int)), some (aI v), some (aI ((j : Int) * S 5 0)), none, none, none, none, none] [] C0 S (rf mm) P
  | m, j, e, hj => by
    obtain ⟨a1, a2, a3, a4, a5, a6, a7⟩ := XR_at h hp
    have hr := XR_rm h hp
    have hlt := ups_lt (S := S) (v := rfF (S 13 p) (S 30 p + v) - S 29 p) a6.1
    have hge := ups_ge (S := S) (v := rfF (S 13 p) (S 30 p + v) - S 29 p) a6.1
    rw [hJ] at hlt hge
    have hrf : rfF (S 13 p) (S 30 p + v) ≤ 9000 := by
      unfold rfF
      split <;> omega
    have j0 : 0 ≤ (j : Int) * S 5 0 := Int.mul_nonneg (by omega) (by omega)
    have j1 : (j : Int) * S 5 0 ≤ (J : Int) * S 5 0 := (mle (by omega)).2 (by omega)
    have j2 : ((J : Int) - 1) * S 5 0 = (J : Int) * S 5 0 - S 5 0 := by rw [Int.sub_mul, Int.one_mul]
    refine gX10_asks_5 ⟨a1.1, by omega, sX10_holds (by omega) ⟨by omega, fun q => ?_, fun q => ⟨by omega, ?_⟩⟩⟩
    · have q1 := hold_to q
      have q2 : ((J : Int) - 1) * S 5 0 < (j : Int) * S 5 0 := by omega
      rw [mlt (by omega)] at q2
      have : j = J := by omega
      rw [this]
      exact hP
    · cases m with
      | zero =>
        have : j = J := by omega
        subst this
        exact absurd (hold_of (by omega)) q
      | succ m =>
        have := sX10_asks_5 (C0 := C0) (P := P) h hp hv hJ hP m (j + 1) (by omega) (by omega)
        rw [show ((j + 1 : Nat) : Int) * S 5 0 = (j : Int) * S 5 0 + S 5 0 by rw [Int.natCast_succ, Int.add_mul, Int.one_mul]] at this
        exact this
theorem sX10_asks_52 {C0 : aIF} {v M : Int} {P : Int → aS → Prop} (h : XR C S mm n c d) (hp : p < n) : ∀ (m q : Nat) (acc : Int), q + m = n → 0 ≤ acc → acc ≤ 10000 + 4096 * (q : Int) →
    rRunI w mX10_asks 52 [some (aO 40 0), some (aI (p : Int)), some (aI v), some (aI M), some (aI (acc + (sumN (svA S p) n - sumN (svA S p) q))), some (aI (n : Int)), none, none, none] [] C0 S (rf mm) P →
    rRunI w mX10_asks 52 [some (aO 40 0), some (aI (p : Int)), some (aI v), some (aI M), some (aI acc), some (aI (q : Int)), none, none, none] [] C0 S (rf mm) P
  | 0, q, acc, e, h0, h1, hP => by
    have : q = n := by omega
    subst this
    rw [show acc + (sumN (svA S p) q - sumN (svA S p) q) = acc by omega] at hP
    exact hP
  | m + 1, q, acc, e, h0, h1, hP => by
    have hn := h.2.2.1.1
    have hn6 := h.2.1
    have es : sumN (svA S p) (q + 1) = sumN (svA S p) q + svA S p q := rfl
    have hr := XR_rm h (show q < n by omega)
    obtain ⟨v1, v2, v3, v4⟩ := sv_is (p := p) h (show q < n by omega)
    refine gX10_asks_52 ⟨fun z => absurd z (by omega), fun _ => ⟨fun z => sX10_spare h (by omega) ?_, fun z => ⟨by omega, by omega, ?_⟩⟩⟩
    · have : svA S p q = spF S q := if_neg (by omega)
      rw [← this]
      exact ⟨by omega, by omega, sX10_asks_52 h hp m (q + 1) _ (by omega) (by omega) (by omega) (by rw [es, show acc + svA S p q + (sumN (svA S p) n - (sumN (svA S p) q + svA S p q)) = acc + (sumN (svA S p) n - sumN (svA S p) q) by omega]; exact hP)⟩
    · have : svA S p q = 0 := if_pos (by omega)
      rw [Int.add_zero]
      exact sX10_asks_52 h hp m (q + 1) acc (by omega) h0 (by omega) (by rw [es, this, Int.add_zero]; exact hP)
theorem sX10_asks_243 {C0 : aIF} {v M l4 l5 l6 : Int} {P : Int → aS → Prop} (h : XR C S mm n c d) (hp : p < n) (hz : ∀ q, q < n → q ≠ p → S 28 q ≠ 0 → S 28 q ≠ 1 → svA S p q = 0) : ∀ (m q : Nat) (who most : Int), q + m = n → (who = -1 ∧ most = 0 ∨ ∃ r : Nat, r < n ∧ r ≠ p ∧ who = (r : Int) ∧ most = svA S p r ∧ 0 < most) →
    rRunI w mX10_asks 243 [some (aO 40 0), some (aI (p : Int)), some (aI v), some (aI M), some (aI l4), some (aI l5), some (aI l6), some (aI (whoF (svA S p) m q who most)), some (aI (n : Int))] [] C0 S (rf mm) P →
    rRunI w mX10_asks 243 [some (aO 40 0), some (aI (p : Int)), some (aI v), some (aI M), some (aI l4), some (aI l5), some (aI l6), some (aI who), some (aI (q : Int))] [] C0 S (rf mm) P
  | 0, q, who, most, e, hw, hP => by
    have : q = n := by omega
    subst this
    exact hP
  | m + 1, q, who, most, e, hw, hP => by
    have hn := h.2.2.1.1
    have hn6 := h.2.1
    have h28 := (h.2.2.2.1.2 q (by omega)).2.2.2.1
    have hm0 : 0 ≤ most := by
      rcases hw with hw | ⟨r, _, _, _, _, hr⟩ <;> omega
    obtain ⟨v1, v2, v3, v4⟩ := sv_is (p := p) h (show q < n by omega)
    unfold whoF at hP
    have same : Unit → svA S p q ≤ most → rRunI w mX10_asks 243 [some (aO 40 0), some (aI (p : Int)), some (aI v), some (aI M), some (aI l4), some (aI l5), some (aI l6), some (aI who), some (aI ((q + 1 : Nat) : Int))] [] C0 S (rf mm) P := fun _ z => by
      rw [if_neg (by omega)] at hP
      exact sX10_asks_243 h hp hz m (q + 1) who most (by omega) hw hP
    have take : Unit → q ≠ p → most < svA S p q → rRunI w mX10_asks 243 [some (aO 40 0), some (aI (p : Int)), some (aI v), some (aI M), some (aI l4), some (aI l5), some (aI l6), some (aI (q : Int)), some (aI ((q + 1 : Nat) : Int))] [] C0 S (rf mm) P := fun _ z1 z => by
      rw [if_pos z] at hP
      exact sX10_asks_243 h hp hz m (q + 1) _ _ (by omega) (Or.inr ⟨q, by omega, z1, rfl, rfl, by omega⟩) hP
    refine gX10_asks_243 ⟨fun z => absurd z (by omega), fun _ => ⟨fun z => ⟨by omega, same () ?_⟩, fun z => ?_⟩⟩
    · rw [show svA S p q = 0 from if_pos (by omega)]
      exact hm0
    · have ev : svA S p q = spF S q := if_neg (by omega)
      have up : Unit → _ := fun _ => fun (zu : S 28 q = 0 ∨ S 28 q = 1) => (⟨fun q => absurd q (by decide), fun _ => sX10_spare h (by omega) ⟨fun z2 => ⟨by omega, same () (by omega)⟩, fun z2 => ⟨fun z3 => ⟨by omega, take () (by omega) (by
          rcases hw with hw | ⟨r, _, _, hr, _, _⟩ <;> omega)⟩, fun z3 => by
            rcases hw with hw | ⟨r, r1, r2, r3, r4, r5⟩
            · omega
            · have er : svA S p r = spF S r := if_neg r2
              rw [r3]
              exact sX10_spare h (by omega) (sX10_spare h r1 ⟨fun z4 => ⟨by omega, by rw [← r3]; exact same () (by omega)⟩, fun z4 => ⟨by omega, take () (by omega) (by omega)⟩⟩)⟩⟩⟩ : ((1 : Int) = 0 → q + 1 < 2147483648 ∧ rRunI w mX10_asks 243 [some (aO 40 0), some (aI (p : Int)), some (aI v), some (aI M), some (aI l4), some (aI l5), some (aI l6), some (aI who), some (aI ((q + 1 : Nat) : Int))] [] C0 S (rf mm) P) ∧ (¬ ((1 : Int) = 0) → rMetI w mX10_spare [aO 40 0, aI (q : Int)] C0 S (rf mm) (fun x10 S11 => (x10 ≤ 0 → q + 1 < 2147483648 ∧ rRunI w mX10_asks 243 [some (aO 40 0), some (aI (p : Int)), some (aI v), some (aI M), some (aI l4), some (aI l5), some (aI l6), some (aI who), some (aI ((q + 1 : Nat) : Int))] [] C0 S11 (rf mm) P) ∧ (¬ (x10 ≤ 0) → (who < 0 → q + 1 < 2147483648 ∧ rRunI w mX10_asks 243 [some (aO 40 0), some (aI (p : Int)), some (aI v), some (aI M), some (aI l4), some (aI l5), some (aI l6), some (aI (q : Int)), some (aI ((q + 1 : Nat) : Int))] [] C0 S11 (rf mm) P) ∧ (¬ (who < 0) → rMetI w mX10_spare [aO 40 0, aI (q : Int)] C0 S11 (rf mm) (fun x15 S16 => rMetI w mX10_spare [aO 40 0, aI who] C0 S16 (rf mm) (fun x18 S19 => (x15 ≤ x18 → q + 1 < 2147483648 ∧ rRunI w mX10_asks 243 [some (aO 40 0), some (aI (p : Int)), some (aI v), some (aI M), some (aI l4), some (aI l5), some (aI l6), some (aI who), some (aI ((q + 1 : Nat) : Int))] [] C0 S19 (rf mm) P) ∧ (¬ (x15 ≤ x18) → q + 1 < 2147483648 ∧ rRunI w mX10_asks 243 [some (aO 40 0), some (aI (p : Int)), some (aI v), some (aI M), some (aI l4), some (aI l5), some (aI l6), some (aI (q : Int)), some (aI ((q + 1 : Nat) : Int))] [] C0 S19 (rf mm) P))))))))
      refine gX10_isUp ⟨by omega, fun z2 => up () (Or.inl z2), fun z2 => ⟨fun z3 => ⟨fun _ => ⟨by omega, same () ?_⟩, fun q => absurd rfl q⟩, fun z3 => up () (Or.inr z3)⟩⟩
      rw [hz q (by omega) (by omega) z2 z3]
      exact hm0
end AK
