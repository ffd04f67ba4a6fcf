/-! A PROGRAM BY ITSELF, in the reference -/
theorem sumN_cg {f g : Nat → Int} : ∀ (n : Nat), (∀ q, q < n → f q = g q) → sumN f n = sumN g n
  | 0, _ => rfl
  | n + 1, h => by
    show sumN f n + f n = sumN g n + g n
    rw [sumN_cg n (fun q hq => h q (by omega)), h n (by omega)]
theorem sumN_0 {f : Nat → Int} : ∀ (n : Nat), (∀ q, q < n → 0 ≤ f q) → 0 ≤ sumN f n
  | 0, _ => Int.le_refl 0
  | n + 1, h => by
    have h1 := sumN_0 n (fun q hq => h q (by omega))
    have h2 := h n (by omega)
    show 0 ≤ sumN f n + f n
    omega
theorem uN_s {f : Nat → Int} {i : Nat} {v : Int} : uN f i v i = v := if_pos rfl
theorem uN_n {f : Nat → Int} {i q : Nat} {v : Int} (h : q ≠ i) : uN f i v q = f q := if_neg h
theorem sumN_uN {f : Nat → Int} {i : Nat} {v : Int} : ∀ (n : Nat), i < n → sumN (uN f i v) n = sumN f n - f i + v
  | 0, h => absurd h (by omega)
  | n + 1, h => by
    show sumN (uN f i v) n + uN f i v n = sumN f n + f n - f i + v
    by_cases e : n = i
    · subst e
      rw [uN_s, sumN_cg (f := uN f n v) (g := f) n (fun q hq => uN_n (by omega))]
      omega
    · rw [uN_n e, sumN_uN n (by omega)]
      omega
theorem sumN_one {f : Nat → Int} {i n : Nat} (hi : i < n) (h : ∀ q, q < n → 0 ≤ f q) : f i ≤ sumN f n := by
  have h1 := sumN_uN (f := f) (v := 0) n hi
  have h2 := sumN_0 (f := uN f i 0) n (fun q hq => by
    by_cases e : q = i
    · rw [e, uN_s]
      exact Int.le_refl 0
    · rw [uN_n e]
      exact h q hq)
  omega
def alI (c : Nat) (t : Int) (n : Nat) (lv us : Int) (own : Nat → Int) : Prop := (0 ≤ t ∧ t ≤ 8400 * (c : Int)) ∧ n ≤ c ∧ (0 ≤ lv ∧ lv ≤ us ∧ us ≤ 4096) ∧ lv = sumN own n ∧ ∀ q, q < n → 0 ≤ own q ∧ own q ≤ 99
def alJ (c : Nat) (s : alS) : Prop := alI c s.1 s.2.1 s.2.2.1 s.2.2.2.1 s.2.2.2.2
theorem alA_ok {cp mo a : Int} {c : Nat} {s s' : alS} (hm : mo ≤ 4096) (ha : actOK a) (h : alJ c s) (e : alA cp mo a s = some s') : alJ (c + 1) s' := by
  obtain ⟨t, n, lv, us, own⟩ := s
  obtain ⟨⟨h1, h2⟩, h3, ⟨h4, h5, h6⟩, h7, h8⟩ := h
  dsimp only at *
  unfold actOK at ha
  unfold alA at e
  dsimp only at e
  have hadd : ∀ {v : Int}, 0 < v → v ≤ 99 → lv + v = sumN (uN own n v) (n + 1) ∧ ∀ q, q < n + 1 → 0 ≤ uN own n v q ∧ uN own n v q ≤ 99 := fun {v} hv hv2 => by
    refine ⟨?_, fun q hq => ?_⟩
    · show lv + v = sumN (uN own n v) n + uN own n v n
      rw [uN_s, sumN_cg (f := uN own n v) (g := own) n (fun q hq => uN_n (by omega)), h7]
    · by_cases e : q = n
      · rw [e, uN_s]
        omega
      · rw [uN_n e]
        exact h8 q (by omega)
  have hcost : 0 ≤ costF cp lv us ∧ costF cp lv us ≤ 8300 := by
    unfold costF
    split <;> omega
  by_cases a1 : 1000 < a
  · rw [if_pos a1] at e
    cases e
    exact ⟨⟨by omega, by dsimp only; omega⟩, by dsimp only; omega, ⟨h4, h5, h6⟩, h7, h8⟩
  rw [if_neg a1] at e
  by_cases a2 : a = 0
  · rw [if_pos a2] at e
    cases e
    exact ⟨⟨by omega, by dsimp only; omega⟩, by dsimp only; omega, ⟨h4, h5, h6⟩, h7, h8⟩
  rw [if_neg a2] at e
  by_cases a3 : a < 0
  · rw [if_pos a3] at e
    by_cases a4 : (n : Int) + a < 0
    · rw [if_pos a4] at e
      cases e
      exact ⟨⟨by omega, by dsimp only; omega⟩, by dsimp only; omega, ⟨h4, h5, h6⟩, h7, h8⟩
    rw [if_neg a4] at e
    cases e
    have hi : ((n : Int) + a).toNat < n := by omega
    have hq := h8 _ hi
    have hq2 := sumN_one hi (fun q hq => (h8 q hq).1)
    refine ⟨⟨by omega, by dsimp only; omega⟩, by dsimp only; omega, ⟨by dsimp only; omega, by dsimp only; omega, h6⟩, ?_, fun q hq => ?_⟩
    · dsimp only
      rw [sumN_uN n hi]
      omega
    · dsimp only
      by_cases e : q = ((n : Int) + a).toNat
      · rw [e, uN_s]
        omega
      · rw [uN_n e]
        exact h8 q hq
  rw [if_neg a3] at e
  by_cases a5 : mo < us + a ∧ lv < us
  · rw [if_pos a5] at e
    by_cases a6 : mo < lv + a
    · rw [if_pos a6] at e
      cases e
    rw [if_neg a6] at e
    cases e
    have := hadd (v := a) (by omega) (by omega)
    exact ⟨⟨by dsimp only; omega, by dsimp only; omega⟩, by dsimp only; omega, ⟨by dsimp only; omega, by dsimp only; omega, by dsimp only; omega⟩, this.1, this.2⟩
  rw [if_neg a5] at e
  by_cases a6 : mo < us + a
  · rw [if_pos a6] at e
    cases e
  rw [if_neg a6] at e
  cases e
  have := hadd (v := a) (by omega) (by omega)
  exact ⟨⟨by dsimp only; omega, by dsimp only; omega⟩, by dsimp only; omega, ⟨by dsimp only; omega, by dsimp only; omega, by dsimp only; omega⟩, this.1, this.2⟩
theorem alR_ok {cp mo : Int} {act : Nat → Int} (hm : mo ≤ 4096) : ∀ (m k c : Nat) (s s' : alS), (∀ q, q < k + m → actOK (act q)) → alJ c s → alR cp mo act k m s = some s' → alJ (c + m) s'
  | 0, k, c, s, s', _, h, e => by
    cases e
    exact h
  | m + 1, k, c, s, s', ha, h, e => by
    unfold alR at e
    cases e1 : alA cp mo (act k) s with
    | none =>
      rw [e1] at e
      cases e
    | some s1 =>
      rw [e1] at e
      have := alR_ok hm m (k + 1) (c + 1) s1 s' (fun q hq => ha q (by omega)) (alA_ok hm (ha k (by omega)) h e1) e
      rw [show c + (m + 1) = c + 1 + m by omega]
      exact this
theorem alQ_ok {cp mo : Int} {act : Nat → Int} {ma : Nat} (hm : mo ≤ 4096) (ha : ∀ q, q < ma → actOK (act q)) : ∀ (n c : Nat) (s s' : alS), alJ c s → alQ cp mo act ma n s = some s' → alJ (c + n * ma) s'
  | 0, c, s, s', h, e => by
    cases e
    rw [Nat.zero_mul]
    exact h
  | n + 1, c, s, s', h, e => by
    unfold alQ at e
    cases e1 : alR cp mo act 0 ma s with
    | none =>
      rw [e1] at e
      cases e
    | some s1 =>
      rw [e1] at e
      have := alQ_ok hm ha n (c + ma) s1 s' (alR_ok hm ma 0 c s s1 (fun q hq => ha q (by omega)) h e1) e
      rw [Nat.succ_mul, show c + (n * ma + ma) = c + ma + n * ma by omega]
      exact this
theorem alJ_0 : alJ 0 al0 := ⟨⟨Int.le_refl 0, Int.le_refl 0⟩, Nat.le_refl 0, ⟨Int.le_refl 0, Int.le_refl 0, by decide⟩, rfl, fun q hq => absurd hq (Nat.not_lt_zero q)⟩
def pOK (S : aS) (p : Nat) : Prop := (1 ≤ S 11 p ∧ S 11 p ≤ 60) ∧ (1 ≤ S 14 p ∧ S 14 p ≤ 40) ∧ ∀ k : Nat, k < 60 → (k : Int) < S 11 p → actOK (S 12 (60 * p + k))
theorem pOK_of {C : aIF} {S : aS} {p : Nat} (h : pR C S p) : pOK S p := ⟨h.1.2, h.2.2.1.2, fun k h1 h2 => (h.2.2.2.2 k h1 h2).2⟩
theorem pOK_cg {S S' : aS} {p : Nat} (h : ∀ f j, 11 ≤ f → f ≤ 15 → S' f j = S f j) (k : pOK S p) : pOK S' p := by
  unfold pOK at *
  rw [h 11 p (by omega) (by omega), h 14 p (by omega) (by omega)]
  refine ⟨k.1, k.2.1, fun q h1 h2 => ?_⟩
  rw [h 12 _ (by omega) (by omega)]
  exact k.2.2 q h1 h2
theorem alone_bd {S : aS} {p : Nat} {r : Int} (h : pOK S p) (h0 : 0 ≤ r) (hr : r ≤ 4096) : alone S p r = -1 ∨ (0 ≤ alone S p r ∧ alone S p r ≤ 20160000) := by
  obtain ⟨h1, h2, h3⟩ := h
  unfold alone aloneF
  have hm : holdF (S 13 p) r ≤ 4096 := by
    unfold holdF
    split <;> omega
  cases e : alQ (S 13 p) (holdF (S 13 p) r) (fun k => S 12 (60 * p + k)) (S 11 p).toNat (S 14 p).toNat al0 with
  | none => exact Or.inl rfl
  | some s =>
    have hj := alQ_ok hm (fun q hq => h3 q (by omega) (by omega)) _ 0 _ _ alJ_0 e
    have hb : (S 14 p).toNat * (S 11 p).toNat ≤ 40 * 60 := Nat.mul_le_mul (by omega) (by omega)
    have := hj.1
    refine Or.inr ⟨this.1, ?_⟩
    show s.1 ≤ 20160000
    omega
/-! the reference's walk -/
section AL
variable {w : aW} {mm t : Nat} {C : aIF} {S : aS}
theorem sX10_cost {cp lv us : Int} {P : Int → aS → Prop} (h1 : 0 ≤ lv ∧ lv ≤ 4096) (h2 : 0 ≤ us ∧ us ≤ 4096) (hP : P (costF cp lv us) S) : rMetI w mX10_cost [aI cp, aI lv, aI us] C S (rf mm) P := by
  unfold costF at hP
  refine gX10_cost ⟨fun q => ⟨by omega, by omega, by omega, ?_⟩, fun q => ⟨by omega, by omega, ?_⟩⟩
  · rw [if_neg q] at hP
    exact hP
  · rw [if_pos q] at hP
    exact hP
theorem sX10_holds {cp r : Int} {P : Int → aS → Prop} (h1 : 0 ≤ r) (hP : P (holdF cp r) S) : rMetI w mX10_holds [aI cp, aI r] C S (rf mm) P := by
  unfold holdF at hP
  refine gX10_holds ⟨fun q => ?_, fun q => ⟨by omega, ?_⟩⟩
  · rw [if_neg q] at hP
    exact hP
  · rw [if_pos q] at hP
    exact hP
theorem sX10_alone_act {p k i c : Nat} {r mo tk lv us : Int} {n : Nat} {own : Nat → Int} {P : Int → aS → Prop} (hp : p < 6) (hk : (k : Int) < S 11 p) (hk6 : k < 60) (hi : i < 100) (hm : mo ≤ 4096) (hc : c < 2400) (ha : actOK (S 12 (60 * p + k))) (hI : alI c tk n lv us own) (hS : ∀ q, q < n → S 16 q = own q)
    (h0 : alA (S 13 p) mo (S 12 (60 * p + k)) (tk, n, lv, us, own) = none → P (-1) S)
    (nx : ∀ (tk' : Int) (n' : Nat) (lv' us' : Int) (own' : Nat → Int) (S' : aS), alA (S 13 p) mo (S 12 (60 * p + k)) (tk, n, lv, us, own) = some (tk', n', lv', us', own') → (∀ f j, f ≠ 16 → S' f j = S f j) → (∀ q, q < n' → S' 16 q = own' q) → rRunI w mX10_alone 40 [some (aO 40 0), some (aI (p : Int)), some (aI r), some (aI mo), some (aI tk'), some (aI (n' : Int)), some (aI lv'), some (aI us'), some (aI (i : Int)), some (aI ((k + 1 : Nat) : Int)), none] [] C S' (rf mm) P) :
    rRunI w mX10_alone 40 [some (aO 40 0), some (aI (p : Int)), some (aI r), some (aI mo), some (aI tk), some (aI (n : Int)), some (aI lv), some (aI us), some (aI (i : Int)), some (aI (k : Int)), none] [] C S (rf mm) P := by
  obtain ⟨⟨h1, h2⟩, h3, ⟨h4, h5, h6⟩, h7, h8⟩ := hI
  unfold actOK at ha
  unfold alA at h0 nx
  dsimp only at h0 nx
  generalize hA : S 12 (60 * p + k) = a at *
  have h0 : Unit → _ → _ := fun _ => h0
  have lid : ∀ f j, f ≠ 16 → S f j = S f j := fun _ _ _ => rfl
  have hadd : ∀ {v : Int} {S1 : aS}, (∀ f j, S1 f j = S f j) → ∀ q, q < n + 1 → sU S1 16 n v 16 q = uN own n v q := fun {v} {S1} hS1 q hq => by
    by_cases e : q = n
    · rw [e, uN_s]
      exact sU_s
    · rw [uN_n e, ← hS q (by omega), ← hS1]
      exact sU_ne (fun z => e z.2)
  have hfr : ∀ {v : Int} {j0 : Nat}, ∀ f j, f ≠ 16 → sU S 16 j0 v f j = S f j := fun {v} {j0} f j h => sU_ne (fun z => h z.1)
  have hl0 : 0 ≤ us + a ∨ a < 0 := by omega
  have fit : Unit → ¬ 1000 < a → a ≠ 0 → 0 ≤ a → us + a ≤ mo → rRunI w mX10_alone 40 [some (aO 40 0), some (aI (p : Int)), some (aI r), some (aI mo), some (aI (tk + 1)), some (aI ((n + 1 : Nat) : Int)), some (aI (lv + a)), some (aI (us + a)), some (aI (i : Int)), some (aI ((k + 1 : Nat) : Int)), none] [] C (sU S 16 n a) (rf mm) P := fun _ g1 g2 g3 g4 =>
    nx _ _ _ _ _ _ (by rw [if_neg g1, if_neg g2, if_neg (by omega), if_neg (by omega), if_neg (by omega)]) hfr (hadd (fun _ _ => rfl))
  have bad1 : Unit → ¬ 1000 < a → a ≠ 0 → 0 ≤ a → ¬ us + a ≤ mo → us ≤ lv → P (-1) S := fun _ g1 g2 g3 g4 g5 => h0 () (by rw [if_neg g1, if_neg g2, if_neg (by omega), if_neg (by omega), if_pos (by omega)])
  have col : Unit → ¬ 1000 < a → a ≠ 0 → 0 ≤ a → ¬ us + a ≤ mo → ¬ us ≤ lv → lv + a ≤ mo → rRunI w mX10_alone 40 [some (aO 40 0), some (aI (p : Int)), some (aI r), some (aI mo), some (aI (tk + 1 + costF (S 13 p) lv us)), some (aI ((n + 1 : Nat) : Int)), some (aI (lv + a)), some (aI (lv + a)), some (aI (i : Int)), some (aI ((k + 1 : Nat) : Int)), none] [] C (sU S 16 n a) (rf mm) P := fun _ g1 g2 g3 g4 g5 g6 =>
    nx _ _ _ _ _ _ (by rw [if_neg g1, if_neg g2, if_neg (by omega), if_pos (by omega), if_neg (by omega)]) hfr (hadd (fun _ _ => rfl))
  have bad2 : Unit → ¬ 1000 < a → a ≠ 0 → 0 ≤ a → ¬ us + a ≤ mo → ¬ us ≤ lv → ¬ lv + a ≤ mo → P (-1) S := fun _ g1 g2 g3 g4 g5 g6 => h0 () (by rw [if_neg g1, if_neg g2, if_neg (by omega), if_pos (by omega), if_pos (by omega)])
  have nop : Unit → ¬ 1000 < a → a = 0 → rRunI w mX10_alone 40 [some (aO 40 0), some (aI (p : Int)), some (aI r), some (aI mo), some (aI (tk + 1)), some (aI (n : Int)), some (aI lv), some (aI us), some (aI (i : Int)), some (aI ((k + 1 : Nat) : Int)), none] [] C S (rf mm) P := fun _ g1 g2 => nx _ _ _ _ _ _ (by rw [if_neg g1, if_pos g2]) lid hS
  have slp : Unit → 1000 < a → rRunI w mX10_alone 40 [some (aO 40 0), some (aI (p : Int)), some (aI r), some (aI mo), some (aI (tk + (a - 1000))), some (aI (n : Int)), some (aI lv), some (aI us), some (aI (i : Int)), some (aI ((k + 1 : Nat) : Int)), none] [] C S (rf mm) P := fun _ g1 => nx _ _ _ _ _ _ (by rw [if_pos g1]) lid hS
  have die0 : Unit → ¬ 1000 < a → a ≠ 0 → ¬ 0 ≤ a → ¬ 0 ≤ (n : Int) + a → rRunI w mX10_alone 40 [some (aO 40 0), some (aI (p : Int)), some (aI r), some (aI mo), some (aI (tk + 1)), some (aI (n : Int)), some (aI lv), some (aI us), some (aI (i : Int)), some (aI ((k + 1 : Nat) : Int)), none] [] C S (rf mm) P := fun _ g1 g2 g3 g4 => nx _ _ _ _ _ _ (by rw [if_neg g1, if_neg g2, if_pos (by omega), if_pos (by omega)]) lid hS
  have hdi : Unit → ¬ 0 ≤ a → 0 ≤ (n : Int) + a → 0 ≤ S 16 ((n : Int) + a).toNat ∧ S 16 ((n : Int) + a).toNat ≤ 99 := fun _ g1 g2 => by
    rw [hS _ (by omega)]
    exact h8 _ (by omega)
  have die : Unit → ¬ 1000 < a → a ≠ 0 → ¬ 0 ≤ a → 0 ≤ (n : Int) + a → rRunI w mX10_alone 40 [some (aO 40 0), some (aI (p : Int)), some (aI r), some (aI mo), some (aI (tk + 1)), some (aI (n : Int)), some (aI (lv - S 16 ((n : Int) + a).toNat)), some (aI us), some (aI (i : Int)), some (aI ((k + 1 : Nat) : Int)), none] [] C (sU S 16 ((n : Int) + a).toNat 0) (rf mm) P := fun _ g1 g2 g3 g4 =>
    nx _ _ _ _ _ _ (by rw [if_neg g1, if_neg g2, if_pos (by omega), if_neg (by omega), hS _ (by omega)]) hfr (fun q hq => by
      by_cases e : q = ((n : Int) + a).toNat
      · rw [e, uN_s]
        exact sU_s
      · rw [uN_n e, ← hS q hq]
        exact sU_ne (fun z => e z.2))
  have hco : 0 ≤ costF (S 13 p) lv us ∧ costF (S 13 p) lv us ≤ 8300 := by
    unfold costF
    split <;> omega
  refine gX10_alone_40 ⟨hp, fun q => absurd q (by omega), fun _ => ⟨by omega, by omega, by omega, ?_, ?_⟩⟩
  all_goals rw [hA]
  · refine fun _ => ⟨by omega, fun q => absurd q (by omega), fun g1 => ⟨fun g2 => ⟨fun g3 => ⟨by omega, fun g4 => ⟨by omega, fun _ => ⟨by omega, by omega, by omega, by omega, by omega, fit () g1 g2 g3 g4⟩, fun q => absurd g4 q⟩, fun g4 => ⟨fun g5 => ⟨by omega, fun q => absurd q g4, fun _ => bad1 () g1 g2 g3 g4 g5⟩, fun g5 => ?_⟩⟩, fun g3 => ⟨by omega, fun g4 => ?_, fun g4 => ⟨by omega, die0 () g1 g2 g3 g4⟩⟩⟩, fun g2 => ⟨by omega, nop () g1 g2⟩⟩⟩
    · exact sX10_cost ⟨by omega, by omega⟩ ⟨by omega, by omega⟩ ⟨by omega, by omega, fun g6 => ⟨by omega, by omega, by omega, by omega, by omega, col () g1 g2 g3 g4 g5 g6⟩, fun g6 => bad2 () g1 g2 g3 g4 g5 g6⟩
    · have := hdi () g3 g4
      exact ⟨by omega, by omega, by omega, by omega, by omega, die () g1 g2 g3 g4⟩
  · exact fun q => ⟨by omega, by omega, fun g1 => ⟨by omega, slp () g1⟩, fun q2 => absurd (by omega) q2⟩
theorem sX10_alone_40 {p i : Nat} {r mo : Int} {P : Int → aS → Prop} (hp : p < 6) (hi : i < 100) (hm : mo ≤ 4096) {cp : Int} {len : Nat} {act : Nat → Int} (hl : len ≤ 60) (hact : ∀ q, q < len → actOK (act q)) : ∀ (m k c : Nat) (tk : Int) (n : Nat) (lv us : Int) (own : Nat → Int) (S : aS), k + m = len → S 11 p = (len : Int) → S 13 p = cp → (∀ q, q < len → S 12 (60 * p + q) = act q) → c + m ≤ 2400 → alI c tk n lv us own → (∀ q, q < n → S 16 q = own q) →
    (alR cp mo act k m (tk, n, lv, us, own) = none → ∀ S' : aS, (∀ f j, f ≠ 16 → S' f j = S f j) → P (-1) S') →
    (∀ (tk' : Int) (n' : Nat) (lv' us' : Int) (own' : Nat → Int) (S' : aS), alR cp mo act k m (tk, n, lv, us, own) = some (tk', n', lv', us', own') → (∀ f j, f ≠ 16 → S' f j = S f j) → (∀ q, q < n' → S' 16 q = own' q) → rRunI w mX10_alone 26 [some (aO 40 0), some (aI (p : Int)), some (aI r), some (aI mo), some (aI tk'), some (aI (n' : Int)), some (aI lv'), some (aI us'), some (aI ((i + 1 : Nat) : Int)), none, none] [] C S' (rf mm) P) →
    rRunI w mX10_alone 40 [some (aO 40 0), some (aI (p : Int)), some (aI r), some (aI mo), some (aI tk), some (aI (n : Int)), some (aI lv), some (aI us), some (aI (i : Int)), some (aI (k : Int)), none] [] C S (rf mm) P
  | 0, k, c, tk, n, lv, us, own, S, e, h11, h13, h12, hc, hI, hS, h0, nx => gX10_alone_40 ⟨hp, fun _ => ⟨by omega, nx _ _ _ _ _ S rfl (fun _ _ _ => rfl) hS⟩, fun q => absurd (by omega) q⟩
  | m + 1, k, c, tk, n, lv, us, own, S, e, h11, h13, h12, hc, hI, hS, h0, nx => by
    have hk := h12 k (by omega)
    have ha : actOK (S 12 (60 * p + k)) := by
      rw [hk]
      exact hact k (by omega)
    unfold alR at h0 nx
    rw [← hk, ← h13] at h0 nx
    refine sX10_alone_act hp (by omega) (by omega) hi hm (c := c) (by omega) ha hI hS (fun hn => ?_) (fun tk' n' lv' us' own' S' hs hf hS' => ?_)
    · rw [hn] at h0
      exact h0 rfl S (fun _ _ _ => rfl)
    · rw [hs] at h0 nx
      have hj : alJ (c + 1) (tk', n', lv', us', own') := alA_ok (s := (tk, n, lv, us, own)) hm ha hI hs
      rw [← hk, ← h13] at *
      refine sX10_alone_40 hp hi hm hl hact m (k + 1) (c + 1) tk' n' lv' us' own' S' (by omega) (by rw [hf _ _ (by decide)]; exact h11) (by rw [hf _ _ (by decide)]) (fun q hq => by rw [hf _ _ (by decide)]; exact h12 q hq) (by omega) hj hS' (fun z S2 hf2 => h0 z S2 (fun f j hfj => by rw [hf2 f j hfj, hf f j hfj])) (fun a1 a2 a3 a4 a5 S2 z hf2 z2 => nx a1 a2 a3 a4 a5 S2 z (fun f j hfj => by rw [hf2 f j hfj, hf f j hfj]) z2)
theorem sX10_alone_26 {p : Nat} {r mo : Int} {P : Int → aS → Prop} (hp : p < 6) (hm : mo ≤ 4096) {cp : Int} {len ro : Nat} {act : Nat → Int} (hl : len ≤ 60) (hro : ro ≤ 40) (hact : ∀ q, q < len → actOK (act q)) : ∀ (N i c : Nat) (tk : Int) (n : Nat) (lv us : Int) (own : Nat → Int) (S : aS), i + N = ro → S 14 p = (ro : Int) → S 11 p = (len : Int) → S 13 p = cp → (∀ q, q < len → S 12 (60 * p + q) = act q) → c + N * len ≤ 2400 → alI c tk n lv us own → (∀ q, q < n → S 16 q = own q) →
    (alQ cp mo act len N (tk, n, lv, us, own) = none → ∀ S' : aS, (∀ f j, f ≠ 16 → S' f j = S f j) → P (-1) S') →
    (∀ (s' : alS) (S' : aS), alQ cp mo act len N (tk, n, lv, us, own) = some s' → (∀ f j, f ≠ 16 → S' f j = S f j) → P s'.1 S') →
    rRunI w mX10_alone 26 [some (aO 40 0), some (aI (p : Int)), some (aI r), some (aI mo), some (aI tk), some (aI (n : Int)), some (aI lv), some (aI us), some (aI (i : Int)), none, none] [] C S (rf mm) P
  | 0, i, c, tk, n, lv, us, own, S, e, h14, h11, h13, h12, hc, hI, hS, h0, nx => gX10_alone_26 ⟨hp, fun _ => nx (tk, n, lv, us, own) S rfl (fun _ _ _ => rfl), fun q => absurd (by omega) q⟩
  | N + 1, i, c, tk, n, lv, us, own, S, e, h14, h11, h13, h12, hc, hI, hS, h0, nx => by
    rw [Nat.succ_mul] at hc
    unfold alQ at h0 nx
    refine gX10_alone_26 ⟨hp, fun q => absurd q (by omega), fun _ => ?_⟩
    refine sX10_alone_40 hp (by omega) hm hl hact len 0 c tk n lv us own S (by omega) h11 h13 h12 (by omega) hI hS (fun hn S' hf => ?_) (fun tk' n' lv' us' own' S' hs hf hS' => ?_)
    · rw [hn] at h0
      exact h0 rfl S' hf
    · rw [hs] at h0 nx
      have hj : alJ (c + len) (tk', n', lv', us', own') := alR_ok hm len 0 c (tk, n, lv, us, own) _ (fun q hq => hact q (by omega)) hI hs
      refine sX10_alone_26 hp hm hl hro hact N (i + 1) (c + len) tk' n' lv' us' own' S' (by omega) (by rw [hf _ _ (by decide)]; exact h14) (by rw [hf _ _ (by decide)]; exact h11) (by rw [hf _ _ (by decide)]; exact h13) (fun q hq => by rw [hf _ _ (by decide)]; exact h12 q hq) (by omega) hj hS' (fun z S2 hf2 => h0 z S2 (fun f j hfj => by rw [hf2 f j hfj, hf f j hfj])) (fun s2 S2 z hf2 => nx s2 S2 z (fun f j hfj => by rw [hf2 f j hfj, hf f j hfj]))
/-- what alone answers -/
theorem sX10_alone {p : Nat} {r : Int} {P : Int → aS → Prop} (hp : p < 6) (hr : 0 ≤ r) (hr2 : r ≤ 4096) (h : pOK S p) (hP : ∀ S' : aS, (∀ f j, f ≠ 16 → S' f j = S f j) → P (alone S p r) S') : rMetI w mX10_alone [aO 40 0, aI (p : Int), aI r] C S (rf mm) P := by
  have hm : holdF (S 13 p) r ≤ 4096 := by
    unfold holdF
    split <;> omega
  obtain ⟨h1, h2, h3⟩ := h
  have hb : (S 14 p).toNat * (S 11 p).toNat ≤ 40 * 60 := Nat.mul_le_mul (by omega) (by omega)
  unfold alone aloneF at hP
  refine gX10_alone ⟨hp, sX10_holds hr ?_⟩
  refine sX10_alone_26 hp hm (cp := S 13 p) (len := (S 11 p).toNat) (ro := (S 14 p).toNat) (act := fun k => S 12 (60 * p + k)) (by omega) (by omega) (fun q hq => h3 q (by omega) (by omega)) (S 14 p).toNat 0 0 0 0 0 0 (fun _ => 0) S (by omega) (by omega) (by omega) rfl (fun _ _ => rfl) (by omega) alJ_0 (fun q hq => absurd hq (Nat.not_lt_zero q)) (fun hn S' hf => ?_) (fun s' S' hs hf => ?_)
  · have := hP S' hf
    rw [show alQ (S 13 p) (holdF (S 13 p) r) (fun k => S 12 (60 * p + k)) (S 11 p).toNat (S 14 p).toNat al0 = none from hn] at this
    exact this
  · have := hP S' hf
    rw [show alQ (S 13 p) (holdF (S 13 p) r) (fun k => S 12 (60 * p + k)) (S 11 p).toNat (S 14 p).toNat al0 = some s' from hs] at this
    exact this
end AL
