/-! the component's walk -/
section TR
variable {w : aW} {mm t : Nat} {C : aIF} {S : aS}
theorem sX1_cost {i : Nat} {cp lv us : Int} {P : Int → aIF → Prop} (hi : i < 6) (hcp : (cp = 0 ∧ C 6 i 2 = 1) ∨ (cp = 1 ∧ C 6 i 2 = 0)) (h1 : 0 ≤ lv ∧ lv ≤ 4096) (h2 : 0 ≤ us ∧ us ≤ 4096) (hP : P (costF cp lv us) C) : kMetI w mX1_costToCollect [aO 6 i, aI lv, aI us] C S (rf mm) P := by
  unfold costF at hP
  refine gX1_costToCollect hi ⟨fun q => ⟨by omega, by omega, by omega, ?_⟩, fun q => ⟨by omega, by omega, ?_⟩⟩
  · rw [if_neg (by omega)] at hP
    exact hP
  · rw [if_pos (by omega)] at hP
    exact hP
theorem sX1_holds {i : Nat} {cp r : Int} {P : Int → aIF → Prop} (hi : i < 6) (hcp : (cp = 0 ∧ C 6 i 2 = 1) ∨ (cp = 1 ∧ C 6 i 2 = 0)) (h1 : 0 ≤ r) (hP : P (holdF cp r) C) : kMetI w mX1_holds [aO 6 i, aI r] C S (rf mm) P := by
  unfold holdF at hP
  refine gX1_holds hi ⟨fun q => ?_, fun q => ⟨by omega, ?_⟩⟩
  · rw [if_neg (by omega)] at hP
    exact hP
  · rw [if_pos (by omega)] at hP
    exact hP
theorem sX1_isMake {a : Int} {P : Int → aIF → Prop} (h1 : 0 < a ∧ a < 1000 → P 1 C) (h0 : ¬ (0 < a ∧ a < 1000) → P 0 C) : kMetI w mX1_isMake [aI a] C S (rf mm) P :=
  gX1_isMake ⟨fun q => h0 (by omega), fun q => ⟨fun q2 => h0 (by omega), fun q2 => h1 ⟨by omega, by omega⟩⟩⟩
theorem sX8_make_53 {i L len ro : Nat} {cp v lv : Int} {act : Nat → Int} {P : aIF → Prop} (hi : i < 6) (hv : 0 < v ∧ v ≤ 99) (hL : L ≤ 65) : ∀ (m k : Nat) (C : aIF), k + m = L → C 11 0 4 = (L : Int) → pC C i cp len ro act → (∀ q, k ≤ q → q < L → (0 ≤ C 15 0 q ∧ C 15 0 q ≤ 4096) ∧ (0 ≤ C 16 0 q ∧ C 16 0 q ≤ 40000000) ∧ (0 ≤ lv ∧ lv ≤ 4096)) →
    (∀ C' : aIF, (∀ k i j, k ≠ 15 → k ≠ 16 → C' k i j = C k i j) → (∀ q, k ≤ q → q < L → C' 15 0 q = usF (C 14 0 q) v lv (C 15 0 q) ∧ C' 16 0 q = coF cp (C 14 0 q) v lv (C 15 0 q) (C 16 0 q)) → (∀ q, q < k → C' 15 0 q = C 15 0 q ∧ C' 16 0 q = C 16 0 q) → kMetV w mX6_add [aO 12 0, aI v] C' S (rf mm) P) →
    kRunV w mX8_makeInAll 53 [some (aO 11 0), some (aO 6 i), some (aI v), some (aI lv), some (aI (k : Int))] [] C S (rf mm) P
  | 0, k, C, e, h4, hp, hb, hP => gX8_makeInAll_53 hi ⟨fun _ => hP C (fun _ _ _ _ _ => rfl) (fun q h1 h2 => absurd h2 (by omega)) (fun _ _ => ⟨rfl, rfl⟩), fun q => absurd q (by omega)⟩
  | m + 1, k, C, e, h4, hp, hb, hP => by
    obtain ⟨⟨b1, b2⟩, ⟨b3, b4⟩, b5, b6⟩ := hb k (by omega) (by omega)
    have hcF : 0 ≤ costF cp lv (C 15 0 k) ∧ costF cp lv (C 15 0 k) ≤ 8300 := by
      unfold costF
      split <;> omega
    have nx : Unit → ∀ C1 : aIF, (∀ k i j, k ≠ 15 → k ≠ 16 → C1 k i j = C k i j) → (∀ q, q ≠ k → C1 15 0 q = C 15 0 q ∧ C1 16 0 q = C 16 0 q) → C1 15 0 k = usF (C 14 0 k) v lv (C 15 0 k) → C1 16 0 k = coF cp (C 14 0 k) v lv (C 15 0 k) (C 16 0 k) → kRunV w mX8_makeInAll 53 [some (aO 11 0), some (aO 6 i), some (aI v), some (aI lv), some (aI ((k + 1 : Nat) : Int))] [] C1 S (rf mm) P := fun _ C1 g1 g2 g3 g4 => by
      refine sX8_make_53 hi hv hL m (k + 1) C1 (by omega) (by rw [g1 _ _ _ (by omega) (by omega)]; exact h4) (pC_cg (fun k i j hk => g1 k i j (by omega) (by omega)) hp) (fun q z1 z2 => by rw [(g2 q (by omega)).1, (g2 q (by omega)).2]; exact hb q (by omega) z2) (fun C' k1 k2 k3 => hP C' (fun k i j z1 z2 => by rw [k1 k i j z1 z2, g1 k i j z1 z2]) (fun q z1 z2 => ?_) (fun q z => by rw [(k3 q (by omega)).1, (k3 q (by omega)).2]; exact g2 q (by omega)))
      by_cases eq : q = k
      · rw [eq, (k3 k (by omega)).1, (k3 k (by omega)).2]
        exact ⟨g3, g4⟩
      · have := k2 q (by omega) z2
        rw [g1 14 _ _ (by omega) (by omega), (g2 q eq).1, (g2 q eq).2] at this
        exact this
    refine gX8_makeInAll_53 hi ⟨fun q => absurd q (by omega), fun _ => ⟨by omega, by omega, fun q => ⟨by omega, by omega, nx () _ (fun k i j z1 z2 => uI_no (fun z => z1 z.1)) (fun q z => ⟨uI_no (fun z2 => z z2.2.2), uI_k rfl⟩) ?_ ?_⟩, fun q => sX1_cost hi hp.2.1 ⟨b5, b6⟩ ⟨b1, b2⟩ ⟨by omega, by omega, by omega, nx () _ (fun k i j z1 z2 => ?_) (fun q z => ⟨?_, ?_⟩) ?_ ?_⟩⟩⟩
    · rw [uI_s]
      unfold usF
      rw [if_pos q]
    · rw [uI_k rfl]
      unfold coF
      rw [if_pos q]
    · rw [uI_no (fun z => z1 z.1), uI_no (fun z => z1 z.1), uI_no (fun z => z2 z.1)]
    · rw [uI_no (fun z2 => z z2.2.2), uI_no (fun z2 => z z2.2.2), uI_k rfl]
    · rw [uI_k rfl, uI_k rfl, uI_no (fun z2 => z z2.2.2)]
    · rw [uI_s]
      unfold usF
      rw [if_neg q]
    · rw [uI_k rfl, uI_k rfl, uI_s]
      unfold coF
      rw [if_neg q]
theorem sX8_make_8 {i L : Nat} {v lv : Int} {P : aIF → Prop} (hi : i < 6) (hL : L ≤ 65) (hlv : 0 ≤ lv ∧ lv ≤ 400000) (hv : 0 < v ∧ v ≤ 99) : ∀ (m fa : Nat) (C : aIF), fa + m = L → C 11 0 4 = (L : Int) → C 11 0 5 = (fa : Int) →
    (∀ (fb : Nat) (C' : aIF), fa ≤ fb → fb ≤ L → (∀ q, fa ≤ q → q < fb → ¬ lv + v ≤ C 14 0 q) → (fb < L → lv + v ≤ C 14 0 fb) → (∀ k i j, ¬ (k = 11 ∧ j = 5) → C' k i j = C k i j) → C' 11 0 5 = (fb : Int) → kRunV w mX8_makeInAll 53 [some (aO 11 0), some (aO 6 i), some (aI v), some (aI lv), some (aI (fb : Int))] [] C' S (rf mm) P) →
    kRunV w mX8_makeInAll 8 [some (aO 11 0), some (aO 6 i), some (aI v), some (aI lv), none] [] C S (rf mm) P
  | 0, fa, C, e, h4, h5, hP => by
    refine gX8_makeInAll_8 hi ⟨fun _ => ?_, fun q => absurd q (by omega)⟩
    have := hP fa C (Nat.le_refl _) (by omega) (fun q z1 z2 => absurd z2 (by omega)) (fun z => absurd z (by omega)) (fun _ _ _ _ => rfl) h5
    rw [h5]
    exact this
  | m + 1, fa, C, e, h4, h5, hP => by
    refine gX8_makeInAll_8 hi ⟨fun q => absurd q (by omega), fun _ => ⟨by omega, by omega, fun q => ?_, fun q => ⟨by omega, ?_⟩⟩⟩
    · have hfa : (C 11 0 5).toNat = fa := by omega
      rw [hfa] at q
      have := hP fa C (Nat.le_refl _) (by omega) (fun q z1 z2 => absurd z2 (by omega)) (fun _ => q) (fun _ _ _ _ => rfl) h5
      rw [h5]
      exact this
    · have hfa : (C 11 0 5).toNat = fa := by omega
      rw [hfa] at q
      refine sX8_make_8 hi hL hlv hv m (fa + 1) _ (by omega) (by rw [uI_j rfl]; exact h4) (by rw [uI_s]; omega) (fun fb C' z1 z2 z3 z4 z5 z6 => hP fb C' (by omega) z2 (fun q2 y1 y2 => ?_) (fun y => ?_) (fun k i j y => ?_) z6)
      · by_cases eq : q2 = fa
        · rw [eq]
          exact q
        · have := z3 q2 (by omega) y2
          rw [uI_k rfl] at this
          exact this
      · have := z4 y
        rw [uI_k rfl] at this
        exact this
      · rw [z5 k i j y]
        exact uI_no (fun z => y ⟨z.1, z.2.2⟩)
theorem sX8_makeInAll {i L fa n len ro : Nat} {cp v : Int} {act : Nat → Int} {P : aIF → Prop} (hi : i < 6) (hL : L ≤ 65) (hv : 0 < v ∧ v ≤ 99) (hp : pC C i cp len ro act) (h4 : C 11 0 4 = (L : Int)) (h5 : C 11 0 5 = (fa : Int)) (hfa : fa ≤ L) (hn : C 12 0 1 = (n : Int)) (hn2 : n < 2400) (hlv : 0 ≤ C 12 0 2 ∧ C 12 0 2 ≤ 400000) (hb : ∀ q, fa ≤ q → q < L → (0 ≤ C 15 0 q ∧ C 15 0 q ≤ 4096) ∧ (0 ≤ C 16 0 q ∧ C 16 0 q ≤ 40000000) ∧ (0 ≤ C 12 0 2 ∧ C 12 0 2 ≤ 4096))
    (hP : ∀ (fb : Nat) (C' : aIF), fa ≤ fb ∧ fb ≤ L → (∀ q, fa ≤ q → q < fb → ¬ C 12 0 2 + v ≤ C 14 0 q) → (fb < L → C 12 0 2 + v ≤ C 14 0 fb) → (∀ k i j, k < 11 ∨ 16 < k ∨ k = 14 → C' k i j = C k i j) → C' 11 0 4 = C 11 0 4 → C' 11 0 5 = (fb : Int) → C' 11 0 6 = C 11 0 6 → C' 12 0 1 = C 12 0 1 + 1 → C' 12 0 2 = C 12 0 2 + v → C' 13 0 (n % 60) = v → (∀ j, j ≠ n % 60 → C' 13 0 j = C 13 0 j) →
      (∀ q, fb ≤ q → q < L → C' 15 0 q = usF (C 14 0 q) v (C 12 0 2) (C 15 0 q) ∧ C' 16 0 q = coF cp (C 14 0 q) v (C 12 0 2) (C 15 0 q) (C 16 0 q)) → P C') : kMetV w mX8_makeInAll [aO 11 0, aO 6 i, aI v] C S (rf mm) P := by
  refine gX8_makeInAll hi (sX8_make_8 hi hL hlv hv (L - fa) fa C (by omega) h4 h5 (fun fb C1 z1 z2 z3 z4 z5 z6 => ?_))
  refine sX8_make_53 (cp := cp) (len := len) (ro := ro) (act := act) hi hv hL (L - fb) fb C1 (by omega) (by rw [z5 _ _ _ (by omega)]; exact h4) (pC_cg (fun k i j hk => z5 k i j (by omega)) hp) (fun q y1 y2 => ?_) (fun C2 k1 k2 k3 => ?_)
  · rw [z5 15 _ _ (by omega), z5 16 _ _ (by omega)]
    exact hb q (by omega) y2
  have e1 : C2 12 0 1 = (n : Int) := by rw [k1 _ _ _ (by omega) (by omega), z5 _ _ _ (by omega)]; exact hn
  have e2 : C2 12 0 2 = C 12 0 2 := by rw [k1 _ _ _ (by omega) (by omega), z5 _ _ _ (by omega)]
  have en : (C2 12 0 1 % 60).toNat = n % 60 := by omega
  refine gX6_add_t ⟨by omega, by omega, by omega, by omega, ?_⟩
  rw [en, e1, e2]
  have g : ∀ k i j, k ≠ 11 → k ≠ 12 → k ≠ 13 → k ≠ 15 → k ≠ 16 → uI (uI (uI C2 13 0 (n % 60) v) 12 0 1 ((n : Int) + 1)) 12 0 2 (C 12 0 2 + v) k i j = C k i j := fun k i j y1 y2 y3 y4 y5 => by
    rw [uI_no (fun z => y2 z.1), uI_no (fun z => y2 z.1), uI_no (fun z => y3 z.1), k1 k i j y4 y5, z5 k i j (fun z => y1 z.1)]
  refine hP fb _ ⟨z1, z2⟩ z3 z4 (fun k i j hk => g k i j (by omega) (by omega) (by omega) (by omega) (by omega)) ?_ ?_ ?_ ?_ ?_ ?_ (fun j hj => ?_) (fun q y1 y2 => ?_)
  · rw [uI_k rfl, uI_k rfl, uI_k rfl, k1 _ _ _ (by omega) (by omega), z5 _ _ _ (by omega)]
  · rw [uI_k rfl, uI_k rfl, uI_k rfl, k1 _ _ _ (by omega) (by omega), z6]
  · rw [uI_k rfl, uI_k rfl, uI_k rfl, k1 _ _ _ (by omega) (by omega), z5 _ _ _ (by omega)]
  · rw [uI_j rfl, uI_s]
    omega
  · rw [uI_s]
  · rw [uI_k rfl, uI_k rfl, uI_s]
  · rw [uI_k rfl, uI_k rfl, uI_no (fun z => hj z.2.2), k1 _ _ _ (by omega) (by omega), z5 _ _ _ (by omega)]
  · rw [uI_k rfl, uI_k rfl, uI_k rfl, uI_k rfl, uI_k rfl, uI_k rfl]
    have := k2 q y1 y2
    rw [z5 14 _ _ (by omega), z5 15 _ _ (by omega), z5 16 _ _ (by omega)] at this
    exact this
end TR
