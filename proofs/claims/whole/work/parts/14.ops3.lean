/-! write, paste, terms -/
section OP3
variable {w : aW} {mm t : Nat} {C : aIF} {S : aS}
theorem sU_ne {f j a b : Nat} {v : Int} (h : ¬ (a = f ∧ b = j)) : sU S f j v a b = S a b := if_neg h
theorem uI_no {k i j a b c : Nat} {v : Int} (h : ¬ (a = k ∧ b = i ∧ c = j)) : uI C k i j v a b c = C a b c := if_neg h
theorem uC_in {k i k2 i2 sp dp m c : Nat} : uC C k i k2 i2 sp dp m k2 i2 c = if dp ≤ c ∧ c < dp + m then C k i (sp + (c - dp)) else C k2 i2 c := if_pos ⟨rfl, rfl⟩
theorem uC_ne {k i k2 i2 sp dp m a b c : Nat} (h : ¬ (a = k2 ∧ b = i2)) : uC C k i k2 i2 sp dp m a b c = C a b c := if_neg h
def cutF (wd v : Int) : Int := if wd = 0 then (Int32.ofInt ((Int64.ofInt v).toInt32.toInt)).toInt8.toInt32.toInt else if wd = 1 then (Int32.ofInt ((Int64.ofInt v).toInt32.toInt)).toInt16.toInt32.toInt else if wd = 2 then (Int64.ofInt v).toInt32.toInt else v
theorem sX3_cut {i : Nat} (hi : i < 4) {v : Int} {P : Int → aIF → Prop} (h : P (cutF (C 3 i 1) v) C) : kMetL w mX3_cut [aO 3 i, aL v] C S (rf mm) P := by
  refine gX3_cut hi ⟨fun e => ?_, fun e => ?_, fun e => ?_, fun e => ?_⟩
  · simpa [cutF, e] using h
  · simpa [cutF, e] using h
  · simpa [cutF, e] using h
  · have : cutF (C 3 i 1) v = v := by
      unfold cutF
      rw [if_neg (by omega), if_neg (by omega), if_neg (by omega)]
    rwa [this] at h
theorem sX10_cut {wd v : Int} {P : Int → aS → Prop} (h : P (cutF wd v) S) : rMetL w mX10_cut [aI wd, aL v] C S (rf mm) P := by
  refine gX10_cut ⟨fun e => ⟨fun e1 => ⟨fun e2 => ?_, fun e2 => ?_⟩, fun e1 => ?_⟩, fun e => ?_⟩
  · have : cutF wd v = v := by
      unfold cutF
      rw [if_neg e, if_neg e1, if_neg e2]
    rwa [this] at h
  · simpa [cutF, e2] using h
  · simpa [cutF, e1] using h
  · simpa [cutF, e] using h
theorem opWrite {a b v : Int} (h : Inv C S mm t) : opOK w mX9_write mX10_write [aI a, aI b, aL v] C S mm t := by
  have h9 := Inv_0 (Inv_t (Nat.le_succ t) h)
  have hs := h.2.2.1
  refine gX9_write (sX9_isSlot (fun g1 g2 => ⟨fun _ => ⟨by omega, sX3_isBare (by omega) (fun e => ⟨fun q => absurd q (by decide), fun _ => ?_⟩) (fun e => ⟨fun _ => ?_, fun q => absurd rfl q⟩)⟩, fun q => absurd q (by decide)⟩) (fun g => ⟨fun q => absurd rfl q, fun _ => ?_⟩))
  · obtain ⟨s1, s2, s3, s4⟩ := hs a.toNat (by omega)
    refine gX10_write (sX10_isSlot (fun _ _ => ⟨fun _ => ⟨by omega, fun q => absurd q (by simp [sU]; omega), fun _ => ⟨rfl, h9⟩⟩, fun q => absurd q (by decide)⟩) (fun q => absurd ⟨g1, g2⟩ q))
  · obtain ⟨s1, s2, s3, s4⟩ := hs a.toNat (by omega)
    obtain ⟨c1, c2, c3, c4⟩ := s4 (by omega)
    have q1 : sU S 0 0 0 1 a.toNat = S 1 a.toNat := by simp [sU]
    have q2 : sU S 0 0 0 2 a.toNat = S 2 a.toNat := by simp [sU]
    have out : ∀ {x : Int}, ¬ (0 ≤ b ∧ b < S 2 a.toNat) → x = -6 → rMetI w mX10_write (aO 40 0 :: [aI a, aI b, aL v]) C S (rf mm) (fun y S' => y = x ∧ Inv C S' mm (t + 1)) := by
      intro x g hx
      subst hx
      exact gX10_write (sX10_isSlot (fun _ _ => ⟨fun _ => ⟨by omega, fun _ => ⟨by rw [q2]; omega, sX10_in (fun z1 z2 => absurd ⟨z1, by rw [q2] at z2; omega⟩ g) (fun _ => ⟨fun q => absurd rfl q, fun _ => ⟨rfl, h9⟩⟩)⟩, fun q => absurd (by rw [q1]; omega) q⟩, fun q => absurd q (by decide)⟩) (fun q => absurd ⟨g1, g2⟩ q))
    refine ⟨fun z => out (by omega) rfl, fun z => ⟨fun z2 => sX3_cut (by omega) ⟨by omega, ?_⟩, fun z2 => out (by omega) rfl⟩⟩
    refine gX10_write (sX10_isSlot (fun _ _ => ⟨fun _ => ⟨by omega, fun _ => ⟨by rw [q2]; omega, sX10_in (fun _ _ => ⟨fun _ => ⟨by omega, by omega, sX10_cut ⟨by omega, rfl, ?_⟩⟩, fun q => absurd q (by decide)⟩) (fun q => absurd ⟨by omega, by rw [q2]; omega⟩ q)⟩, fun q => absurd (by rw [q1]; omega) q⟩, fun q => absurd q (by decide)⟩) (fun q => absurd ⟨g1, g2⟩ q))
    rw [q1, s1]
    refine Inv_sl (fun k i j h3 h4 => ?_) (fun f j hf => ?_) (fun q hq => ?_) (Inv_t (Nat.le_succ t) h)
    · simp [uI, h4]
    · simp [sU, show f ≠ 3 by omega, show f ≠ 0 by omega]
    · have hq9 := hs q hq
      have e1 : ∀ j, uI C 4 a.toNat b.toNat (cutF (S 1 a.toNat) v) 3 q j = C 3 q j := fun j => by simp [uI]
      have e3 : ∀ f j, f = 1 ∨ f = 2 → sU (sU S 0 0 0) 3 (60 * a + b).toNat (cutF (S 1 a.toNat) v) f j = S f j := fun f j hf => by
        rcases hf with rfl | rfl <;> simp [sU]
      simp only [e1]
      rw [e3 1 q (Or.inl rfl), e3 2 q (Or.inr rfl)]
      refine ⟨hq9.1, hq9.2.1, hq9.2.2.1, fun z => ⟨(hq9.2.2.2 z).1, (hq9.2.2.2 z).2.1, (hq9.2.2.2 z).2.2.1, fun j hj => ?_⟩⟩
      have h4 := (hq9.2.2.2 z).2.2.2 j hj
      by_cases e2 : q = a.toNat ∧ j = b.toNat
      · obtain ⟨rfl, rfl⟩ := e2
        rw [show 60 * a.toNat + b.toNat = (60 * a + b).toNat by omega]
        simp [uI, sU]
      · simp only [uI, sU]
        rw [if_neg (by omega), if_neg (by omega), if_neg (by omega)]
        exact h4
  · exact gX10_write (sX10_isSlot (fun z1 z2 => absurd ⟨z1, z2⟩ g) (fun _ => ⟨fun q => absurd rfl q, fun _ => ⟨rfl, h9⟩⟩))
theorem sX10_paste_153 {s i t k m : Nat} (ht : t < 4) (hm : k + m ≤ 60) {P : Int → aS → Prop} : ∀ (n l : Nat) (S : aS), l + n = m → (∀ S' : aS, (∀ f j, f ≠ 3 → S' f j = S f j) → (∀ j, S' 3 j = if 60 * t + k + l ≤ j ∧ j < 60 * t + k + m then S 4 (j - (60 * t + k)) else S 3 j) → P 0 S') → rRunI w mX10_paste 153 [some (aO 40 0), some (aI (s : Int)), some (aI (i : Int)), some (aI (t : Int)), some (aI (k : Int)), some (aI (m : Int)), some (aI (l : Int))] [] C S (rf mm) P
  | 0, l, S, e, hP => by
    refine gX10_paste_153 ⟨fun _ => hP S (fun _ _ _ => rfl) (fun j => by rw [if_neg (by omega)]), fun q => absurd q (by omega)⟩
  | n + 1, l, S, e, hP => by
    refine gX10_paste_153 ⟨fun q => absurd q (by omega), fun _ => ⟨by omega, by omega, by omega, by omega, by omega, by omega, sX10_paste_153 ht hm n (l + 1) _ (by omega) (fun S' h1 h2 => hP S' (fun f j hf => by rw [h1 f j hf]; simp [sU, hf]) (fun j => ?_))⟩⟩
    rw [h2]
    by_cases c1 : 60 * t + k + (l + 1) ≤ j ∧ j < 60 * t + k + m
    · rw [if_pos c1, if_pos (by omega)]
      exact sU_f rfl
    · rw [if_neg c1]
      by_cases c2 : j = 60 * t + k + l
      · rw [c2, sU_s, if_pos (by omega)]
        congr 1
        omega
      · rw [sU_ne (by omega), if_neg (by omega)]
theorem sX10_paste_116 {s i t k m : Nat} (hs : s < 4) (ht : t < 4) (hi : i + m ≤ 60) (hm : k + m ≤ 60) {P : Int → aS → Prop} : ∀ (n l : Nat) (S : aS), l + n = m → (∀ j, j < l → S 4 j = S 3 (60 * s + i + j)) → (∀ S' : aS, (∀ f j, f ≠ 3 → f ≠ 4 → S' f j = S f j) → (∀ j, S' 3 j = if 60 * t + k ≤ j ∧ j < 60 * t + k + m then S 3 (60 * s + i + (j - (60 * t + k))) else S 3 j) → P 0 S') → rRunI w mX10_paste 116 [some (aO 40 0), some (aI (s : Int)), some (aI (i : Int)), some (aI (t : Int)), some (aI (k : Int)), some (aI (m : Int)), some (aI (l : Int))] [] C S (rf mm) P
  | 0, l, S, e, hc, hP => by
    refine gX10_paste_116 ⟨fun _ => sX10_paste_153 ht hm m 0 S (by omega) (fun S' h1 h2 => hP S' (fun f j h3 h4 => h1 f j h3) (fun j => ?_)), fun q => absurd q (by omega)⟩
    rw [h2]
    by_cases c1 : 60 * t + k ≤ j ∧ j < 60 * t + k + m
    · rw [if_pos (by omega), if_pos c1, hc _ (by omega)]
    · rw [if_neg (by omega), if_neg c1]
  | n + 1, l, S, e, hc, hP => by
    refine gX10_paste_116 ⟨fun q => absurd q (by omega), fun _ => ⟨by omega, by omega, by omega, by omega, by omega, by omega, sX10_paste_116 hs ht hi hm n (l + 1) _ (by omega) (fun j hj => ?_) (fun S' h1 h2 => hP S' (fun f j h3 h4 => by rw [h1 f j h3 h4]; simp [sU, h4]) (fun j => ?_))⟩⟩
    · rw [sU_f (f2 := 3) rfl]
      by_cases c1 : j = l
      · subst c1
        exact sU_s
      · rw [sU_ne (by omega)]
        exact hc j (by omega)
    · rw [h2]
      simp [sU]
theorem sX3_hasPlaces {i : Nat} (hi : i < 4) {a b : Int} (hb : 0 ≤ C 3 i 2 ∧ C 3 i 2 ≤ 60) {P : Int → aIF → Prop} (h1 : 0 ≤ a → 0 ≤ b → a + b ≤ C 3 i 2 → P 1 C) (h0 : ¬ (0 ≤ a ∧ 0 ≤ b ∧ a + b ≤ C 3 i 2) → P 0 C) : kMetI w mX3_hasPlaces [aO 3 i, aI a, aI b] C S (rf mm) P := by
  refine gX3_hasPlaces hi ⟨fun e => h0 (by omega), fun e => ⟨fun e => h0 (by omega), fun e => ⟨fun e => h0 (by omega), fun e => ⟨by omega, fun e => h0 (by omega), fun e => h1 (by omega) (by omega) (by omega)⟩⟩⟩⟩
theorem opPaste {a b c d e : Int} (h : Inv C S mm t) (hb : i32 b) (hd : i32 d) (he : i32 e) : opOK w mX9_paste mX10_paste [aI a, aI b, aI c, aI d, aI e] C S mm t := by
  have h9 := Inv_0 (Inv_t (Nat.le_succ t) h)
  have hs := h.2.2.1
  have qS : ∀ f j, f ≠ 0 → sU S 0 0 0 f j = S f j := fun f j hf => by simp [sU, hf]
  obtain ⟨hb1, hb2⟩ := hb
  obtain ⟨hd1, hd2⟩ := hd
  obtain ⟨he1, he2⟩ := he
  -- the reference's end by what it finds
  have two : ∀ {x : Int}, ¬ ((0 ≤ a ∧ a ≤ 3) ∧ 0 ≤ c ∧ c ≤ 3) → x = -2 → rMetI w mX10_paste (aO 40 0 :: [aI a, aI b, aI c, aI d, aI e]) C S (rf mm) (fun y S' => y = x ∧ Inv C S' mm (t + 1)) := by
    intro x g hx
    subst hx
    exact gX10_paste (sX10_isSlot (fun z1 z2 => ⟨fun q => absurd q (by decide), fun _ => sX10_isSlot (fun y1 y2 => absurd ⟨⟨z1, z2⟩, y1, y2⟩ g) (fun _ => ⟨fun q => absurd rfl q, fun _ => ⟨rfl, h9⟩⟩)⟩) (fun _ => ⟨fun _ => ⟨rfl, h9⟩, fun q => absurd rfl q⟩))
  have five : ∀ {x : Int}, (0 ≤ a ∧ a ≤ 3) → (0 ≤ c ∧ c ≤ 3) → (S 1 a.toNat < 0 ∨ S 1 c.toNat < 0) → x = -5 → rMetI w mX10_paste (aO 40 0 :: [aI a, aI b, aI c, aI d, aI e]) C S (rf mm) (fun y S' => y = x ∧ Inv C S' mm (t + 1)) := by
    intro x g1 g2 g hx
    subst hx
    refine gX10_paste (sX10_isSlot (fun z1 z2 => ⟨fun q => absurd q (by decide), fun _ => sX10_isSlot (fun y1 y2 => ⟨fun _ => ⟨by omega, fun _ => ⟨rfl, h9⟩, fun q => ⟨by omega, fun q2 => ?_, fun _ => ⟨rfl, h9⟩⟩⟩, fun q => absurd q (by decide)⟩) (fun q => absurd g2 q)⟩) (fun q => absurd g1 q))
    rw [qS 1 _ (by decide)] at q q2
    omega
  refine gX9_paste (sX9_isSlot (fun g1 g2 => ⟨fun q => absurd q (by decide), fun _ => sX9_isSlot (fun g3 g4 => ⟨fun _ => ⟨by omega, by omega, ?_⟩, fun q => absurd q (by decide)⟩) (fun g => ⟨fun q => absurd rfl q, fun _ => two (by omega) rfl⟩)⟩) (fun g => ⟨fun _ => two (by omega) rfl, fun q => absurd rfl q⟩))
  obtain ⟨s1, s2, s3, s4⟩ := hs a.toNat (by omega)
  obtain ⟨u1, u2, u3, u4⟩ := hs c.toNat (by omega)
  refine sX3_isBare (by omega) (fun z => ⟨fun _ => five ⟨g1, g2⟩ ⟨g3, g4⟩ (by omega) rfl, fun q => absurd q (by decide)⟩) (fun z => ⟨fun q => absurd rfl q, fun _ => sX3_isBare (by omega) (fun z => ⟨fun q => absurd q (by decide), fun _ => five ⟨g1, g2⟩ ⟨g3, g4⟩ (by omega) rfl⟩) (fun z2 => ⟨fun _ => ⟨fun ew => ?_, fun ew => ?_⟩, fun q => absurd rfl q⟩)⟩)
  · obtain ⟨v1, v2, v3, v4⟩ := s4 (by omega)
    obtain ⟨x1, x2, x3, x4⟩ := u4 (by omega)
    rw [s1, u1] at ew
    have six : ∀ {x : Int}, ¬ (0 ≤ b ∧ 0 ≤ d ∧ 0 ≤ e ∧ b + e ≤ S 2 a.toNat ∧ d + e ≤ S 2 c.toNat) → x = -6 → rMetI w mX10_paste (aO 40 0 :: [aI a, aI b, aI c, aI d, aI e]) C S (rf mm) (fun y S' => y = x ∧ Inv C S' mm (t + 1)) := by
      intro x g hx
      subst hx
      refine gX10_paste (sX10_isSlot (fun z1 z2 => ⟨fun q => absurd q (by decide), fun _ => sX10_isSlot (fun y1 y2 => ⟨fun _ => ⟨by omega, fun q => absurd q (by rw [qS 1 _ (by decide)]; omega), fun q => ⟨by omega, fun q2 => ⟨fun q3 => ⟨fun _ => ⟨rfl, h9⟩, fun r1 => ⟨fun _ => ⟨rfl, h9⟩, fun r2 => ⟨fun _ => ⟨rfl, h9⟩, fun r3 => ⟨by omega, fun _ => ⟨rfl, h9⟩, fun r4 => ⟨by omega, fun r5 => ?_, fun _ => ⟨rfl, h9⟩⟩⟩⟩⟩⟩, fun q3 => absurd (by rw [qS 1 _ (by decide), qS 1 _ (by decide)]; exact ew) q3⟩, fun q2 => absurd (by rw [qS 1 _ (by decide)]; omega) q2⟩⟩, fun q => absurd q (by decide)⟩) (fun q => absurd ⟨g3, g4⟩ q)⟩) (fun q => absurd ⟨g1, g2⟩ q))
      rw [qS 2 _ (by decide)] at r4 r5
      omega
    refine sX3_hasPlaces (by omega) (by rw [v1]; omega) (fun r1 r2 r3 => ⟨fun q => absurd q (by decide), fun _ => sX3_hasPlaces (by omega) (by rw [x1]; omega) (fun r4 r5 r6 => ⟨fun _ => ⟨by omega, ?_⟩, fun q => absurd q (by decide)⟩) (fun r => ⟨fun q => absurd rfl q, fun _ => six (by rw [x1] at r; omega) rfl⟩)⟩) (fun r => ⟨fun _ => six (by rw [v1] at r; omega) rfl, fun q => absurd rfl q⟩)
    rw [v1] at r3
    rw [x1] at r6
    refine gX10_paste (sX10_isSlot (fun z1 z2 => ⟨fun q => absurd q (by decide), fun _ => sX10_isSlot (fun y1 y2 => ⟨fun _ => ⟨by omega, fun q => absurd q (by rw [qS 1 _ (by decide)]; omega), fun q => ⟨by omega, fun q2 => ⟨fun q3 => ⟨fun q => absurd q (by omega), fun _ => ⟨fun q => absurd q (by omega), fun _ => ⟨fun q => absurd q (by omega), fun _ => ⟨by omega, fun q => absurd q (by rw [qS 2 _ (by decide)]; omega), fun _ => ⟨by omega, fun _ => ?_, fun q => absurd (by rw [qS 2 _ (by decide)]; omega) q⟩⟩⟩⟩⟩, fun q3 => absurd (by rw [qS 1 _ (by decide), qS 1 _ (by decide)]; exact ew) q3⟩, fun q2 => absurd (by rw [qS 1 _ (by decide)]; omega) q2⟩⟩, fun q => absurd q (by decide)⟩) (fun q => absurd ⟨g3, g4⟩ q)⟩) (fun q => absurd ⟨g1, g2⟩ q))
    obtain ⟨s, hs4, rfl⟩ : ∃ s : Nat, s < 4 ∧ a = (s : Int) := ⟨a.toNat, by omega, by omega⟩
    obtain ⟨u, hu4, rfl⟩ : ∃ s : Nat, s < 4 ∧ c = (s : Int) := ⟨c.toNat, by omega, by omega⟩
    obtain ⟨i, rfl⟩ : ∃ s : Nat, b = (s : Int) := ⟨b.toNat, by omega⟩
    obtain ⟨k, rfl⟩ : ∃ s : Nat, d = (s : Int) := ⟨d.toNat, by omega⟩
    obtain ⟨m, rfl⟩ : ∃ s : Nat, e = (s : Int) := ⟨e.toNat, by omega⟩
    simp only [Int.toNat_natCast] at *
    refine sX10_paste_116 hs4 hu4 (by omega) (by omega) m 0 _ (by omega) (fun j hj => absurd hj (by omega)) (fun S' k1 k2 => ⟨rfl, Inv_sl (fun kk ii jj h3 h4 => ?_) (fun f j hf => ?_) (fun q hq => ?_) (Inv_t (Nat.le_succ t) h)⟩)
    · exact uC_ne (fun z => h4 z.1)
    · rw [k1 f j (by omega) (by omega), qS f j (by omega)]
    · have hq9 := hs q hq
      have e1 : ∀ j, uC C 4 s 4 u i k m 3 q j = C 3 q j := fun j => by simp [uC]
      simp only [e1]
      rw [k1 1 q (by omega) (by omega), k1 2 q (by omega) (by omega), qS 1 _ (by decide), qS 2 _ (by decide)]
      refine ⟨hq9.1, hq9.2.1, hq9.2.2.1, fun z => ⟨(hq9.2.2.2 z).1, (hq9.2.2.2 z).2.1, (hq9.2.2.2 z).2.2.1, fun j hj => ?_⟩⟩
      have h4 := (hq9.2.2.2 z).2.2.2 j hj
      rw [k2]
      by_cases e2 : q = u
      · subst e2
        rw [uC_in]
        by_cases e3 : k ≤ j ∧ j < k + m
        · rw [if_pos e3, if_pos (by omega), qS 3 _ (by decide), v4 _ (by omega)]
          congr 1
          omega
        · rw [if_neg e3, if_neg (by omega), qS 3 _ (by decide)]
          exact h4
      · rw [uC_ne (fun z => e2 z.2), if_neg (by omega), qS 3 _ (by decide)]
        exact h4
  · rw [s1, u1] at ew
    refine gX10_paste (sX10_isSlot (fun z1 z2 => ⟨fun q => absurd q (by decide), fun _ => sX10_isSlot (fun y1 y2 => ⟨fun _ => ⟨by omega, fun q => absurd q (by rw [qS 1 _ (by decide)]; omega), fun q => ⟨by omega, fun q2 => ⟨fun q3 => absurd (by rw [qS 1 _ (by decide), qS 1 _ (by decide)] at q3; exact q3) ew, fun _ => ⟨rfl, h9⟩⟩, fun q2 => absurd (by rw [qS 1 _ (by decide)]; omega) q2⟩⟩, fun q => absurd q (by decide)⟩) (fun q => absurd ⟨g3, g4⟩ q)⟩) (fun q => absurd ⟨g1, g2⟩ q))
end OP3
