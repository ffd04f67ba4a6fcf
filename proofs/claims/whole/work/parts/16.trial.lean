/-! A PROGRAM BY ITSELF, in the component: many rooms at once -/
theorem alR_succ {cp mo : Int} {act : Nat → Int} {k m : Nat} {s : alS} : alR cp mo act k (m + 1) s = (alA cp mo (act k) s).bind (alR cp mo act (k + 1) m) := by
  show (match alA cp mo (act k) s with | none => none | some s' => alR cp mo act (k + 1) m s') = _
  cases alA cp mo (act k) s <;> rfl
theorem alQ_succ {cp mo : Int} {act : Nat → Int} {ma n : Nat} {s : alS} : alQ cp mo act ma (n + 1) s = (alR cp mo act 0 ma s).bind (alQ cp mo act ma n) := by
  show (match alR cp mo act 0 ma s with | none => none | some s' => alQ cp mo act ma n s') = _
  cases alR cp mo act 0 ma s <;> rfl
theorem bind_bind {α β γ : Type} (x : Option α) (f : α → Option β) (g : β → Option γ) : (x.bind f).bind g = x.bind (fun y => (f y).bind g) := by
  cases x <;> rfl
def pC (C : aIF) (i : Nat) (cp : Int) (len ro : Nat) (act : Nat → Int) : Prop := C 6 i 1 = (len : Int) ∧ ((cp = 0 ∧ C 6 i 2 = 1) ∨ (cp = 1 ∧ C 6 i 2 = 0)) ∧ C 6 i 3 = (ro : Int) ∧ ∀ q, q < len → C 7 i q = act q
theorem pC_cg {C C' : aIF} {i : Nat} {cp : Int} {len ro : Nat} {act : Nat → Int} (h : ∀ k i j, k < 11 → C' k i j = C k i j) (k : pC C i cp len ro act) : pC C' i cp len ro act := by
  unfold pC at *
  simp only [h 6 _ _ (by omega), h 7 _ _ (by omega)]
  exact k
/-- the lanes: fa is the first that is alive, n the makes, own what was made -/
def lnR (C : aIF) (L c : Nat) (h : Nat → Int) (fa n : Nat) (own : Nat → Int) (st : Nat → Option alS) : Prop :=
  (C 11 0 4 = (L : Int) ∧ C 11 0 5 = (fa : Int) ∧ fa ≤ L ∧ C 12 0 1 = (n : Int) ∧ n ≤ c) ∧ (0 ≤ C 11 0 6 ∧ C 11 0 6 ≤ 200 * (c : Int)) ∧ (C 12 0 2 = sumN own n ∧ ∀ q, q < n → 0 ≤ own q ∧ own q ≤ 99) ∧
  (∀ b, 1 ≤ b → b ≤ 59 → b ≤ n → C 13 0 ((n - b) % 60) = own (n - b)) ∧ (∀ q, q < L → C 14 0 q = h q) ∧ (∀ q, q < fa → st q = none) ∧
  ∀ q, fa ≤ q → q < L → st q = some (C 11 0 6 + C 16 0 q, n, C 12 0 2, C 15 0 q, own) ∧ 0 ≤ C 16 0 q ∧ alJ c (C 11 0 6 + C 16 0 q, n, C 12 0 2, C 15 0 q, own)
theorem sumN_le {f : Nat → Int} : ∀ (n : Nat), (∀ q, q < n → f q ≤ 99) → sumN f n ≤ 99 * (n : Int)
  | 0, _ => Int.le_refl 0
  | n + 1, h => by
    have h1 := sumN_le n (fun q hq => h q (by omega))
    have h2 := h n (by omega)
    show sumN f n + f n ≤ 99 * ((n + 1 : Nat) : Int)
    omega
theorem lnR_tick {C C' : aIF} {L c : Nat} {h : Nat → Int} {fa n : Nat} {own : Nat → Int} {st : Nat → Option alS} {cp a δ : Int} (k : lnR C L c h fa n own st) (ha : actOK a) (hm : ∀ q, q < L → h q ≤ 4096) (hδ : 0 ≤ δ ∧ δ ≤ 200) (hC : ∀ k i j, ¬ (k = 11 ∧ j = 6) → C' k i j = C k i j) (h6 : C' 11 0 6 = C 11 0 6 + δ) (hA : ∀ q s, s.2.1 = n → alA cp (h q) a s = some (s.1 + δ, s.2)) : lnR C' L (c + 1) h fa n own (fun q => (st q).bind (alA cp (h q) a)) := by
  obtain ⟨⟨k1, k2, k3, k4, k5⟩, ⟨k6, k7⟩, ⟨k8, k9⟩, k10, k11, k12, k13⟩ := k
  have g : ∀ k i j, k ≠ 11 → C' k i j = C k i j := fun k i j hk => hC k i j (fun z => hk z.1)
  refine ⟨⟨by rw [hC _ _ _ (by omega)]; exact k1, by rw [hC _ _ _ (by omega)]; exact k2, k3, by rw [g _ _ _ (by omega)]; exact k4, by omega⟩, ⟨by rw [h6]; omega, by rw [h6]; omega⟩, ⟨by rw [g _ _ _ (by omega)]; exact k8, k9⟩, fun b h1 h2 h3 => by rw [g _ _ _ (by omega)]; exact k10 b h1 h2 h3, fun q hq => by rw [g _ _ _ (by omega)]; exact k11 q hq, fun q hq => by show (st q).bind _ = none; rw [k12 q hq]; rfl, fun q h1 h2 => ?_⟩
  obtain ⟨j1, j2, j3⟩ := k13 q h1 h2
  rw [g 16 _ _ (by omega), g 12 _ _ (by omega), g 15 _ _ (by omega), h6, show C 11 0 6 + δ + C 16 0 q = C 11 0 6 + C 16 0 q + δ by omega]
  have e := hA q (C 11 0 6 + C 16 0 q, n, C 12 0 2, C 15 0 q, own) rfl
  refine ⟨?_, j2, alA_ok (hm q h2) ha j3 e⟩
  show (st q).bind _ = _
  rw [j1]
  exact e
theorem lnR_die {C C' : aIF} {L c : Nat} {h : Nat → Int} {fa n : Nat} {own : Nat → Int} {st : Nat → Option alS} {cp a : Int} {b : Nat} (k : lnR C L c h fa n own st) (hm : ∀ q, q < L → h q ≤ 4096) (hb : 1 ≤ b ∧ b ≤ 59 ∧ b ≤ n ∧ a = -(b : Int)) (hC : ∀ k i j, k ≠ 11 → k ≠ 12 → k ≠ 13 → C' k i j = C k i j) (h4 : C' 11 0 4 = C 11 0 4) (h5 : C' 11 0 5 = C 11 0 5) (h6 : C' 11 0 6 = C 11 0 6 + 1) (h1 : C' 12 0 1 = C 12 0 1) (h2 : C' 12 0 2 = C 12 0 2 - C 13 0 ((n - b) % 60)) (h13 : C' 13 0 ((n - b) % 60) = 0) (h13b : ∀ j, j ≠ (n - b) % 60 → C' 13 0 j = C 13 0 j) : lnR C' L (c + 1) h fa n (uN own (n - b) 0) (fun q => (st q).bind (alA cp (h q) a)) := by
  obtain ⟨⟨k1, k2, k3, k4, k5⟩, ⟨k6, k7⟩, ⟨k8, k9⟩, k10, k11, k12, k13⟩ := k
  have hr := k10 b hb.1 hb.2.1 hb.2.2.1
  refine ⟨⟨by rw [h4]; exact k1, by rw [h5]; exact k2, k3, by rw [h1]; exact k4, by omega⟩, ⟨by rw [h6]; omega, by rw [h6]; omega⟩, ⟨?_, fun q hq => ?_⟩, fun d g1 g2 g3 => ?_, fun q hq => by rw [hC _ _ _ (by omega) (by omega) (by omega)]; exact k11 q hq, fun q hq => by show (st q).bind _ = none; rw [k12 q hq]; rfl, fun q g1 g2 => ?_⟩
  · rw [h2, hr, k8, sumN_uN n (by omega)]
    omega
  · by_cases e : q = n - b
    · rw [e, uN_s]
      omega
    · rw [uN_n e]
      exact k9 q hq
  · by_cases e : d = b
    · rw [e, uN_s]
      exact h13
    · rw [uN_n (by omega), h13b _ (by omega)]
      exact k10 d g1 g2 g3
  · obtain ⟨j1, j2, j3⟩ := k13 q g1 g2
    rw [hC 16 _ _ (by omega) (by omega) (by omega), hC 15 _ _ (by omega) (by omega) (by omega), h2, h6, hr, show C 11 0 6 + 1 + C 16 0 q = C 11 0 6 + C 16 0 q + 1 by omega]
    have e : alA cp (h q) a (C 11 0 6 + C 16 0 q, n, C 12 0 2, C 15 0 q, own) = some (C 11 0 6 + C 16 0 q + 1, n, C 12 0 2 - own (n - b), C 15 0 q, uN own (n - b) 0) := by
      unfold alA
      dsimp only
      have : ((n : Int) + a).toNat = n - b := by omega
      rw [if_neg (by omega), if_neg (by omega), if_pos (by omega), if_neg (by omega), this]
    have ha : actOK a := by
      unfold actOK
      omega
    refine ⟨?_, j2, alA_ok (hm q g2) ha j3 e⟩
    show (st q).bind _ = _
    rw [j1]
    exact e
def usF (h v lv us : Int) : Int := if us + v ≤ h then us + v else lv + v
def coF (cp h v lv us co : Int) : Int := if us + v ≤ h then co else co + costF cp lv us
theorem lnR_make {C C' : aIF} {L c : Nat} {h : Nat → Int} {fa fb n : Nat} {own : Nat → Int} {st : Nat → Option alS} {cp a : Int} (k : lnR C L c h fa n own st) (hm : ∀ q, q < L → h q ≤ 4096) (hmo : ∀ p q, p ≤ q → q < L → h p ≤ h q) (ha : 0 < a ∧ a ≤ 99) (hf : fa ≤ fb ∧ fb ≤ L) (hf1 : ∀ q, fa ≤ q → q < fb → ¬ C 12 0 2 + a ≤ C 14 0 q) (hf2 : fb < L → C 12 0 2 + a ≤ C 14 0 fb)
    (hC : ∀ k i j, k < 11 ∨ 16 < k ∨ k = 14 → C' k i j = C k i j) (h4 : C' 11 0 4 = C 11 0 4) (h5 : C' 11 0 5 = (fb : Int)) (h6 : C' 11 0 6 = C 11 0 6 + 1) (h1 : C' 12 0 1 = C 12 0 1 + 1) (h2 : C' 12 0 2 = C 12 0 2 + a) (h13 : C' 13 0 (n % 60) = a) (h13b : ∀ j, j ≠ n % 60 → C' 13 0 j = C 13 0 j)
    (h15 : ∀ q, fb ≤ q → q < L → C' 15 0 q = usF (C 14 0 q) a (C 12 0 2) (C 15 0 q) ∧ C' 16 0 q = coF cp (C 14 0 q) a (C 12 0 2) (C 15 0 q) (C 16 0 q)) : lnR C' L (c + 1) h fb (n + 1) (uN own n a) (fun q => (st q).bind (alA cp (h q) a)) := by
  obtain ⟨⟨k1, k2, k3, k4, k5⟩, ⟨k6, k7⟩, ⟨k8, k9⟩, k10, k11, k12, k13⟩ := k
  have hbad : ∀ q s, s.2.2.1 ≤ s.2.2.2.1 → ¬ s.2.2.1 + a ≤ h q → alA cp (h q) a s = none := fun q s g1 g2 => by
    unfold alA
    rw [if_neg (by omega), if_neg (by omega), if_neg (by omega)]
    by_cases e : h q < s.2.2.2.1 + a ∧ s.2.2.1 < s.2.2.2.1
    · rw [if_pos e, if_pos (by omega)]
    · rw [if_neg e, if_pos (by omega)]
  refine ⟨⟨by rw [h4]; exact k1, h5, hf.2, by rw [h1]; omega, by omega⟩, ⟨by rw [h6]; omega, by rw [h6]; omega⟩, ⟨?_, fun q hq => ?_⟩, fun d g1 g2 g3 => ?_, fun q hq => by rw [hC _ _ _ (by omega)]; exact k11 q hq, fun q hq => ?_, fun q g1 g2 => ?_⟩
  · show C' 12 0 2 = sumN (uN own n a) n + uN own n a n
    rw [uN_s, sumN_cg (f := uN own n a) (g := own) n (fun q hq => uN_n (by omega)), h2, k8]
  · by_cases e : q = n
    · rw [e, uN_s]
      omega
    · rw [uN_n e]
      exact k9 q (by omega)
  · by_cases e : d = 1
    · rw [e, show n + 1 - 1 = n by omega, uN_s]
      exact h13
    · rw [uN_n (by omega), h13b _ (by omega), show n + 1 - d = n - (d - 1) by omega]
      exact k10 (d - 1) (by omega) (by omega) (by omega)
  · by_cases e : q < fa
    · show (st q).bind _ = _
      rw [k12 q e]
      rfl
    · obtain ⟨j1, j2, j3⟩ := k13 q (by omega) (by omega)
      have := hf1 q (by omega) hq
      rw [k11 q (by omega)] at this
      show (st q).bind _ = _
      rw [j1]
      exact hbad q (C 11 0 6 + C 16 0 q, n, C 12 0 2, C 15 0 q, own) j3.2.2.1.2.1 this
  · obtain ⟨j1, j2, j3⟩ := k13 q (by omega) g2
    obtain ⟨u1, u2⟩ := h15 q g1 g2
    have b1 := hf2 (by omega)
    have b2 := hmo fb q g1 g2
    rw [k11 fb (by omega)] at b1
    rw [k11 q g2] at u1 u2
    have jj := j3
    obtain ⟨⟨i1, i2⟩, i3, ⟨i4, i5, i6⟩, i7, i8⟩ := j3
    dsimp only at i1 i2 i3 i4 i5 i6
    have e : alA cp (h q) a (C 11 0 6 + C 16 0 q, n, C 12 0 2, C 15 0 q, own) = some (C' 11 0 6 + C' 16 0 q, n + 1, C' 12 0 2, C' 15 0 q, uN own n a) := by
      unfold alA
      dsimp only
      rw [if_neg (by omega), if_neg (by omega), if_neg (by omega), h6, h2, u1, u2]
      unfold usF coF
      by_cases e : C 15 0 q + a ≤ h q
      · rw [if_neg (by omega), if_neg (by omega), if_pos e, if_pos e, show C 11 0 6 + 1 + C 16 0 q = C 11 0 6 + C 16 0 q + 1 by omega]
      · rw [if_pos (by omega), if_neg (by omega), if_neg e, if_neg e, show C 11 0 6 + 1 + (C 16 0 q + costF cp (C 12 0 2) (C 15 0 q)) = C 11 0 6 + C 16 0 q + 1 + costF cp (C 12 0 2) (C 15 0 q) by omega]
    have hao : actOK a := by
      unfold actOK
      omega
    refine ⟨?_, ?_, alA_ok (hm q g2) hao jj e⟩
    · show (st q).bind _ = _
      rw [j1]
      exact e
    · rw [u2]
      unfold coF
      split
      · exact j2
      · unfold costF
        split <;> omega
