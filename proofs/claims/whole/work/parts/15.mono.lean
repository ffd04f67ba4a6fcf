/-! more room never fails where less did not -/
def alE (s s2 : alS) : Prop := s.2.1 = s2.2.1 ∧ s.2.2.1 = s2.2.2.1 ∧ s.2.2.2.2 = s2.2.2.2.2
theorem alA_mono {cp mo mo' a : Int} {c : Nat} {s s2 s' : alS} (hm : mo ≤ mo') (h1 : alJ c s) (h2 : alJ c s2) (r : alE s s2) (e : alA cp mo a s = some s') : ∃ s2', alA cp mo' a s2 = some s2' ∧ alE s' s2' := by
  obtain ⟨t, n, lv, us, own⟩ := s
  obtain ⟨t2, n2, lv2, us2, own2⟩ := s2
  obtain ⟨r1, r2, r3⟩ := r
  dsimp only at r1 r2 r3
  subst r1 r2 r3
  have b1 := h1.2.2.1
  have b2 := h2.2.2.1
  dsimp only at b1 b2
  unfold alA at e ⊢
  dsimp only at e ⊢
  by_cases a1 : 1000 < a
  · rw [if_pos a1] at e ⊢
    cases e
    exact ⟨_, rfl, rfl, rfl, rfl⟩
  rw [if_neg a1] at e ⊢
  by_cases a2 : a = 0
  · rw [if_pos a2] at e ⊢
    cases e
    exact ⟨_, rfl, rfl, rfl, rfl⟩
  rw [if_neg a2] at e ⊢
  by_cases a3 : a < 0
  · rw [if_pos a3] at e ⊢
    by_cases a4 : (n : Int) + a < 0
    · rw [if_pos a4] at e ⊢
      cases e
      exact ⟨_, rfl, rfl, rfl, rfl⟩
    · rw [if_neg a4] at e ⊢
      cases e
      exact ⟨_, rfl, rfl, rfl, rfl⟩
  rw [if_neg a3] at e ⊢
  have fits : Unit → lv + a ≤ mo' → ∃ s2', (if mo' < us2 + a ∧ lv < us2 then (if mo' < lv + a then none else some (t2 + 1 + costF cp lv us2, n + 1, lv + a, lv + a, uN own n a)) else if mo' < us2 + a then none else some (t2 + 1, n + 1, lv + a, us2 + a, uN own n a)) = some s2' ∧ s2'.2.1 = n + 1 ∧ s2'.2.2.1 = lv + a ∧ s2'.2.2.2.2 = uN own n a := fun _ z => by
    by_cases q : mo' < us2 + a ∧ lv < us2
    · rw [if_pos q, if_neg (by omega)]
      exact ⟨_, rfl, rfl, rfl, rfl⟩
    · rw [if_neg q, if_neg (by omega)]
      exact ⟨_, rfl, rfl, rfl, rfl⟩
  by_cases a5 : mo < us + a ∧ lv < us
  · rw [if_pos a5] at e
    by_cases a6 : mo < lv + a
    · rw [if_pos a6] at e
      cases e
    · rw [if_neg a6] at e
      cases e
      obtain ⟨s2', g1, g2, g3, g4⟩ := fits () (by omega)
      exact ⟨s2', g1, g2.symm, g3.symm, g4.symm⟩
  · rw [if_neg a5] at e
    by_cases a6 : mo < us + a
    · rw [if_pos a6] at e
      cases e
    · rw [if_neg a6] at e
      cases e
      obtain ⟨s2', g1, g2, g3, g4⟩ := fits () (by omega)
      exact ⟨s2', g1, g2.symm, g3.symm, g4.symm⟩
theorem alR_mono {cp mo mo' : Int} {act : Nat → Int} (hm : mo ≤ mo') (hm4 : mo' ≤ 4096) : ∀ (m k c : Nat) (s s2 s' : alS), (∀ q, q < k + m → actOK (act q)) → alJ c s → alJ c s2 → alE s s2 → alR cp mo act k m s = some s' → ∃ s2', alR cp mo' act k m s2 = some s2' ∧ alE s' s2'
  | 0, k, c, s, s2, s', _, _, _, r, e => by
    cases e
    exact ⟨s2, rfl, r⟩
  | m + 1, k, c, s, s2, s', ha, h1, h2, r, e => by
    unfold alR at e
    cases e1 : alA cp mo (act k) s with
    | none =>
      rw [e1] at e
      cases e
    | some s3 =>
      rw [e1] at e
      obtain ⟨s4, g1, g2⟩ := alA_mono hm h1 h2 r e1
      obtain ⟨s5, g3, g4⟩ := alR_mono hm hm4 m (k + 1) (c + 1) s3 s4 s' (fun q hq => ha q (by omega)) (alA_ok (by omega) (ha k (by omega)) h1 e1) (alA_ok hm4 (ha k (by omega)) h2 g1) g2 e
      refine ⟨s5, ?_, g4⟩
      unfold alR
      rw [g1]
      exact g3
theorem alQ_mono {cp mo mo' : Int} {act : Nat → Int} {ma : Nat} (hm : mo ≤ mo') (hm4 : mo' ≤ 4096) (ha : ∀ q, q < ma → actOK (act q)) : ∀ (n c : Nat) (s s2 s' : alS), alJ c s → alJ c s2 → alE s s2 → alQ cp mo act ma n s = some s' → ∃ s2', alQ cp mo' act ma n s2 = some s2' ∧ alE s' s2'
  | 0, c, s, s2, s', _, _, r, e => by
    cases e
    exact ⟨s2, rfl, r⟩
  | n + 1, c, s, s2, s', h1, h2, r, e => by
    unfold alQ at e
    cases e1 : alR cp mo act 0 ma s with
    | none =>
      rw [e1] at e
      cases e
    | some s3 =>
      rw [e1] at e
      obtain ⟨s4, g1, g2⟩ := alR_mono hm hm4 ma 0 c s s2 s3 (fun q hq => ha q (by omega)) h1 h2 r e1
      obtain ⟨s5, g3, g4⟩ := alQ_mono hm hm4 ha n (c + ma) s3 s4 s' (alR_ok (by omega) ma 0 c s s3 (fun q hq => ha q (by omega)) h1 e1) (alR_ok hm4 ma 0 c s2 s4 (fun q hq => ha q (by omega)) h2 g1) g2 e
      refine ⟨s5, ?_, g4⟩
      unfold alQ
      rw [g1]
      exact g3
theorem alone_mono {S : aS} {p : Nat} {r r' : Int} (h : pOK S p) (h0 : 0 ≤ r) (hr : r ≤ r') (hr' : r' ≤ 4096) (e : alone S p r ≠ -1) : 0 ≤ alone S p r' := by
  have hb := alone_bd (r := r') h (by omega) hr'
  obtain ⟨h1, h2, h3⟩ := h
  have hm : holdF (S 13 p) r ≤ holdF (S 13 p) r' := by
    unfold holdF
    split <;> omega
  have hm4 : holdF (S 13 p) r' ≤ 4096 := by
    unfold holdF
    split <;> omega
  cases e1 : alQ (S 13 p) (holdF (S 13 p) r) (fun k => S 12 (60 * p + k)) (S 11 p).toNat (S 14 p).toNat al0 with
  | none =>
    unfold alone aloneF at e
    rw [e1] at e
    exact absurd rfl e
  | some s =>
    obtain ⟨s2, g1, g2⟩ := alQ_mono hm hm4 (fun q hq => h3 q (by omega) (by omega)) _ 0 _ al0 _ alJ_0 alJ_0 ⟨rfl, rfl, rfl⟩ e1
    have hj := alQ_ok hm4 (fun q hq => h3 q (by omega) (by omega)) _ 0 _ _ alJ_0 g1
    unfold alone aloneF
    rw [g1]
    exact hj.1.1
