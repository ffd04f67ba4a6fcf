/-! WHAT HOLDS BETWEEN TWO CALLS: the component's memory C beside the reference's S -/
def sumN (f : Nat → Int) : Nat → Int
  | 0 => 0
  | n + 1 => sumN f n + f n
def costF (cp lv us : Int) : Int := if cp = 0 then 1 + 2 * lv else 1 + lv + us / 2
def holdF (cp r : Int) : Int := if cp = 0 then r / 2 else r
/-! TIME of a program by itself -/
abbrev alS : Type := Int × Nat × Int × Int × (Nat → Int)
def uN (f : Nat → Int) (i : Nat) (v : Int) : Nat → Int := fun q => if q = i then v else f q
def alA (cp mo a : Int) (s : alS) : Option alS :=
  if 1000 < a then some (s.1 + (a - 1000), s.2)
  else if a = 0 then some (s.1 + 1, s.2)
  else if a < 0 then
    (if (s.2.1 : Int) + a < 0 then some (s.1 + 1, s.2)
     else some (s.1 + 1, s.2.1, s.2.2.1 - s.2.2.2.2 ((s.2.1 : Int) + a).toNat, s.2.2.2.1, uN s.2.2.2.2 ((s.2.1 : Int) + a).toNat 0))
  else if mo < s.2.2.2.1 + a ∧ s.2.2.1 < s.2.2.2.1 then
    (if mo < s.2.2.1 + a then none else some (s.1 + 1 + costF cp s.2.2.1 s.2.2.2.1, s.2.1 + 1, s.2.2.1 + a, s.2.2.1 + a, uN s.2.2.2.2 s.2.1 a))
  else if mo < s.2.2.2.1 + a then none
  else some (s.1 + 1, s.2.1 + 1, s.2.2.1 + a, s.2.2.2.1 + a, uN s.2.2.2.2 s.2.1 a)
def alR (cp mo : Int) (act : Nat → Int) : Nat → Nat → alS → Option alS
  | _, 0, s => some s
  | k, m + 1, s => match alA cp mo (act k) s with
    | none => none
    | some s' => alR cp mo act (k + 1) m s'
def alQ (cp mo : Int) (act : Nat → Int) (ma : Nat) : Nat → alS → Option alS
  | 0, s => some s
  | n + 1, s => match alR cp mo act 0 ma s with
    | none => none
    | some s' => alQ cp mo act ma n s'
def al0 : alS := (0, 0, 0, 0, fun _ => 0)
def aloneF (cp : Int) (ro ma : Nat) (act : Nat → Int) (r : Int) : Int := match alQ cp (holdF cp r) act ma ro al0 with
  | none => -1
  | some s => s.1
def alone (S : aS) (p : Nat) (r : Int) : Int := aloneF (S 13 p) (S 14 p).toNat (S 11 p).toNat (fun k => S 12 (60 * p + k)) r
def actOK (a : Int) : Prop := (-59 ≤ a ∧ a ≤ 99) ∨ (1001 ≤ a ∧ a ≤ 1200)
/-! the pieces -/
def tOK (S : aS) : Prop := (1 ≤ S 5 0 ∧ S 5 0 ≤ 64) ∧ (S 5 0 ≤ S 6 0 ∧ S 6 0 ≤ 4096) ∧ S 6 0 % S 5 0 = 0 ∧ S 6 0 / S 5 0 ≤ 64 ∧ (0 ≤ S 7 0 ∧ S 7 0 ≤ S 6 0) ∧ S 7 0 % S 5 0 = 0 ∧ (1 ≤ S 8 0 ∧ S 8 0 ≤ 1000) ∧ (0 ≤ S 9 0 ∧ S 9 0 ≤ 9)
def tR (C : aIF) (S : aS) : Prop := C 9 0 0 = S 5 0 ∧ C 9 0 1 = S 6 0 ∧ C 9 0 2 = S 7 0 ∧ C 9 0 3 = S 8 0 ∧ C 9 0 4 = S 9 0
def slR (C : aIF) (S : aS) : Prop := ∀ s, s < 4 → C 3 s 1 = S 1 s ∧ -1 ≤ S 1 s ∧ S 1 s ≤ 3 ∧ (0 ≤ S 1 s → C 3 s 2 = S 2 s ∧ 0 ≤ S 2 s ∧ S 2 s ≤ 60 ∧ ∀ j, j < 60 → C 4 s j = S 3 (60 * s + j))
def pR (C : aIF) (S : aS) (p : Nat) : Prop := (C 6 p 1 = S 11 p ∧ 1 ≤ S 11 p ∧ S 11 p ≤ 60) ∧ ((S 13 p = 0 ∧ C 6 p 2 = 1) ∨ (S 13 p = 1 ∧ C 6 p 2 = 0)) ∧ (C 6 p 3 = S 14 p ∧ 1 ≤ S 14 p ∧ S 14 p ≤ 40) ∧ (C 6 p 4 = S 15 p ∧ 0 ≤ S 15 p ∧ S 15 p ≤ 1000) ∧
  ∀ k : Nat, k < 60 → (k : Int) < S 11 p → C 7 p k = S 12 (60 * p + k) ∧ actOK (S 12 (60 * p + k))
def prR (C : aIF) (S : aS) : Prop := (C 1 0 5 = S 10 0 ∧ 0 ≤ S 10 0 ∧ S 10 0 ≤ 6) ∧ ∀ p : Nat, p < 6 → (p : Int) < S 10 0 → pR C S p
def tmR (C : aIF) (S : aS) : Prop := ∀ p : Nat, p < 6 → (p : Int) < S 10 0 → C 6 p 6 = 0 ∨ (C 6 p 6 = 1 ∧ ∀ k : Nat, k < 65 → (k : Int) * S 5 0 ≤ S 6 0 → C 8 p k = alone S p ((k : Int) * S 5 0))
def dlR (C : aIF) (S : aS) : Prop := (C 10 0 4 = S 17 0 ∧ (S 17 0 = 0 ∨ S 17 0 = 1)) ∧ (S 17 0 = 1 → ∀ p : Nat, p < 6 → (p : Int) < S 10 0 → C 17 0 p * S 5 0 = S 18 p ∧ 0 ≤ C 17 0 p ∧ C 17 0 p ≤ 64)
def pru (C : aIF) (S : aS) (p : Nat) : Prop :=
  (C 28 p 3 = S 28 p ∧ C 28 p 4 = S 29 p ∧ C 28 p 5 = S 30 p ∧ C 29 p 2 = S 31 p ∧ C 28 p 6 = S 32 p ∧ C 28 p 7 = S 33 p ∧ C 29 p 1 = S 34 p ∧ C 28 p 8 = S 35 p) ∧
  (C 28 p 9 = S 36 p ∧ C 28 p 11 = S 37 p ∧ C 28 p 10 = S 38 p ∧ C 28 p 16 = S 40 p ∧ C 28 p 15 = S 41 p ∧ C 28 p 12 = S 42 p ∧ C 28 p 13 = S 43 p) ∧
  (S 43 p = 1 → C 28 p 14 = S 39 p) ∧ (S 42 p = 0 ∨ S 42 p = 1) ∧ (S 43 p = 0 ∨ S 43 p = 1) ∧
  ∀ a : Nat, 1 ≤ a → a ≤ 59 → (a : Int) ≤ S 34 p → C 30 p (((S 34 p - a) % 60).toNat) = S 44 ((2400 * p + (S 34 p - a)).toNat)
def ruR (C : aIF) (S : aS) : Prop := (C 21 0 4 = S 22 0 ∧ (S 22 0 = 0 ∨ S 22 0 = 1)) ∧ (C 21 0 3 = S 23 0 ∧ 0 ≤ S 23 0 ∧ S 23 0 ≤ 6) ∧ (∀ p : Nat, p < 6 → C 28 p 1 = (p : Int)) ∧ ∀ p : Nat, p < 6 → (p : Int) < S 23 0 → pru C S p
def lgE (C : aIF) (S : aS) (E : Nat → Nat → Int) (n : Nat) : Prop := S 27 0 = (n : Int) ∧ S 26 0 = min (n : Int) 60 ∧ C 22 0 4 = (n : Int) ∧ (∀ i c : Nat, c < 4 → i < 60 → i < n → S 45 (4 * i + c) = E (n - min n 60 + i) c) ∧ ∀ a c : Nat, c < 4 → a < n → n ≤ a + 60 → C (23 + c) 0 (a % 60) = E a c
def lgR (C : aIF) (S : aS) (t : Nat) : Prop := (C 21 0 5 = S 24 0 ∧ 0 ≤ S 24 0 ∧ S 24 0 ≤ 2000 * (t : Int)) ∧ C 21 0 6 = S 25 0 ∧ ∃ (E : Nat → Nat → Int) (n : Nat), n ≤ 2000000 * t ∧ lgE C S E n
/-- a program that runs -/
def RP (S : aS) (p : Nat) : Prop :=
  (0 ≤ S 29 p ∧ S 5 0 ∣ S 29 p) ∧ (0 ≤ S 31 p ∧ S 31 p ≤ S 30 p ∧ S 30 p ≤ holdF (S 13 p) (S 29 p)) ∧ (0 ≤ S 28 p ∧ S 28 p ≤ 4) ∧
  (0 ≤ S 32 p ∧ 0 ≤ S 33 p ∧ 0 ≤ S 34 p ∧ S 34 p ≤ S 32 p * S 11 p + S 33 p ∧ S 32 p * S 11 p + S 33 p ≤ 2400 ∧ S 32 p ≤ 40) ∧
  (S 28 p ≤ 2 → S 33 p < S 11 p ∧ S 32 p < S 14 p) ∧
  (S 28 p = 0 → S 37 p = 0 ∧ S 43 p = 0) ∧ (S 28 p = 1 → S 31 p = S 30 p ∧ 1 ≤ S 37 p ∧ S 37 p ≤ 10000 ∧ S 43 p = 0) ∧ (S 28 p = 2 → 1 ≤ S 37 p ∧ S 37 p ≤ 199) ∧
  (3 ≤ S 28 p → S 29 p = 0 ∧ S 30 p = 0 ∧ S 31 p = 0 ∧ S 43 p = 0) ∧
  (S 43 p = 1 → S 29 p ≤ S 39 p ∧ S 5 0 ∣ S 39 p ∧ S 39 p ≤ S 6 0) ∧
  (0 ≤ S 36 p ∧ S 36 p ≤ 8300 * (S 32 p * S 11 p + S 33 p + 1) ∧ (S 31 p < S 30 p → S 36 p ≤ 8300 * (S 32 p * S 11 p + S 33 p)) ∧ 0 ≤ S 40 p ∧ S 40 p ≤ S 32 p) ∧
  (S 28 p ≤ 2 → S 31 p = sumN (fun j => S 44 (2400 * p + j)) (S 34 p).toNat ∧ ∀ j : Nat, (j : Int) < S 34 p → 0 ≤ S 44 (2400 * p + j) ∧ S 44 (2400 * p + j) ≤ 99)
def RG (S : aS) (mm : Nat) : Prop := (S 23 0 = S 10 0 ∧ 1 ≤ S 23 0 ∧ S 23 0 ≤ (mm : Int)) ∧ (0 ≤ S 25 0 ∧ S 5 0 ∣ S 25 0) ∧ sumN (fun p => S 29 p) (S 23 0).toNat + S 25 0 = S 6 0 ∧ ∀ p : Nat, (p : Int) < S 23 0 → RP S p
def rgR (S : aS) (mm : Nat) : Prop := S 22 0 = 1 → RG S mm
def Inv (C : aIF) (S : aS) (mm t : Nat) : Prop := tOK S ∧ tR C S ∧ slR C S ∧ prR C S ∧ tmR C S ∧ dlR C S ∧ ruR C S ∧ lgR C S t ∧ rgR S mm ∧ mm = 6
/-! each piece looks at some fields alone -/
theorem tOK_cg {S S' : aS} (h : ∀ f, 5 ≤ f → f ≤ 9 → S' f 0 = S f 0) (k : tOK S) : tOK S' := by
  unfold tOK at *
  rw [h 5 (by omega) (by omega), h 6 (by omega) (by omega), h 7 (by omega) (by omega), h 8 (by omega) (by omega), h 9 (by omega) (by omega)]
  exact k
theorem tR_cg {C C' : aIF} {S S' : aS} (hC : ∀ j, C' 9 0 j = C 9 0 j) (h : ∀ f, 5 ≤ f → f ≤ 9 → S' f 0 = S f 0) (k : tR C S) : tR C' S' := by
  unfold tR at *
  rw [hC, hC, hC, hC, hC, h 5 (by omega) (by omega), h 6 (by omega) (by omega), h 7 (by omega) (by omega), h 8 (by omega) (by omega), h 9 (by omega) (by omega)]
  exact k
theorem slR_cg {C C' : aIF} {S S' : aS} (h3 : ∀ i j, C' 3 i j = C 3 i j) (h4 : ∀ i j, C' 4 i j = C 4 i j) (h : ∀ f j, 1 ≤ f → f ≤ 3 → S' f j = S f j) (k : slR C S) : slR C' S' := by
  intro s hs
  have := k s hs
  simp only [h3, h4, h _ _ (show 1 ≤ 1 by omega) (by omega), h _ _ (show 1 ≤ 2 by omega) (by omega), h _ _ (show 1 ≤ 3 by omega) (by omega)]
  exact this
theorem pR_cg {C C' : aIF} {S S' : aS} {p : Nat} (h6 : ∀ j, j ≤ 4 → C' 6 p j = C 6 p j) (h7 : ∀ j, C' 7 p j = C 7 p j) (h : ∀ f j, 11 ≤ f → f ≤ 15 → S' f j = S f j) (k : pR C S p) : pR C' S' p := by
  unfold pR at *
  simp only [h6 1 (by omega), h6 2 (by omega), h6 3 (by omega), h6 4 (by omega), h7, h _ _ (show 11 ≤ 11 by omega) (by omega), h _ _ (show 11 ≤ 12 by omega) (by omega), h _ _ (show 11 ≤ 13 by omega) (by omega), h _ _ (show 11 ≤ 14 by omega) (by omega), h _ _ (show 11 ≤ 15 by omega) (by omega)]
  exact k
theorem prR_cg {C C' : aIF} {S S' : aS} (h1 : C' 1 0 5 = C 1 0 5) (h6 : ∀ i j, j ≤ 4 → C' 6 i j = C 6 i j) (h7 : ∀ i j, C' 7 i j = C 7 i j) (h10 : S' 10 0 = S 10 0) (h : ∀ f j, 11 ≤ f → f ≤ 15 → S' f j = S f j) (k : prR C S) : prR C' S' := by
  refine ⟨by rw [h1, h10]; exact k.1, fun p hp hq => ?_⟩
  rw [h10] at hq
  exact pR_cg (h6 p) (h7 p) h (k.2 p hp hq)
theorem alone_cg {S S' : aS} (h : ∀ f j, 11 ≤ f → f ≤ 15 → S' f j = S f j) (p : Nat) (r : Int) : alone S' p r = alone S p r := by
  unfold alone
  simp only [h _ _ (show 11 ≤ 11 by omega) (by omega), h _ _ (show 11 ≤ 12 by omega) (by omega), h _ _ (show 11 ≤ 13 by omega) (by omega), h _ _ (show 11 ≤ 14 by omega) (by omega)]
theorem tmR_cg {C C' : aIF} {S S' : aS} (h6 : ∀ i, C' 6 i 6 = C 6 i 6) (h8 : ∀ i j, C' 8 i j = C 8 i j) (h5 : S' 5 0 = S 5 0) (h60 : S' 6 0 = S 6 0) (h10 : S' 10 0 = S 10 0) (h : ∀ f j, 11 ≤ f → f ≤ 15 → S' f j = S f j) (k : tmR C S) : tmR C' S' := by
  intro p hp hq
  rw [h10] at hq
  simp only [h6, h8, h5, h60, alone_cg h]
  exact k p hp hq
theorem dlR_cg {C C' : aIF} {S S' : aS} (h10 : C' 10 0 4 = C 10 0 4) (h17 : ∀ j, C' 17 0 j = C 17 0 j) (s5 : S' 5 0 = S 5 0) (s10 : S' 10 0 = S 10 0) (s17 : S' 17 0 = S 17 0) (s18 : ∀ j, S' 18 j = S 18 j) (k : dlR C S) : dlR C' S' := by
  unfold dlR at *
  simp only [h10, h17, s5, s10, s17, s18]
  exact k
theorem pru_cg {C C' : aIF} {S S' : aS} {p : Nat} (h28 : ∀ j, C' 28 p j = C 28 p j) (h29 : ∀ j, C' 29 p j = C 29 p j) (h30 : ∀ j, C' 30 p j = C 30 p j) (h : ∀ f j, 28 ≤ f → f ≤ 44 → S' f j = S f j) (k : pru C S p) : pru C' S' p := by
  unfold pru at *
  simp only [h28, h29, h30, h _ _ (show 28 ≤ 28 by omega) (by omega), h _ _ (show 28 ≤ 29 by omega) (by omega), h _ _ (show 28 ≤ 30 by omega) (by omega), h _ _ (show 28 ≤ 31 by omega) (by omega), h _ _ (show 28 ≤ 32 by omega) (by omega), h _ _ (show 28 ≤ 33 by omega) (by omega), h _ _ (show 28 ≤ 34 by omega) (by omega), h _ _ (show 28 ≤ 35 by omega) (by omega), h _ _ (show 28 ≤ 36 by omega) (by omega), h _ _ (show 28 ≤ 37 by omega) (by omega), h _ _ (show 28 ≤ 38 by omega) (by omega), h _ _ (show 28 ≤ 39 by omega) (by omega), h _ _ (show 28 ≤ 40 by omega) (by omega), h _ _ (show 28 ≤ 41 by omega) (by omega), h _ _ (show 28 ≤ 42 by omega) (by omega), h _ _ (show 28 ≤ 43 by omega) (by omega), h _ _ (show 28 ≤ 44 by omega) (by omega)]
  exact k
theorem ruR_cg {C C' : aIF} {S S' : aS} (h21 : C' 21 0 4 = C 21 0 4) (h21b : C' 21 0 3 = C 21 0 3) (h28 : ∀ i j, C' 28 i j = C 28 i j) (h29 : ∀ i j, C' 29 i j = C 29 i j) (h30 : ∀ i j, C' 30 i j = C 30 i j) (s22 : S' 22 0 = S 22 0) (s23 : S' 23 0 = S 23 0) (h : ∀ f j, 28 ≤ f → f ≤ 44 → S' f j = S f j) (k : ruR C S) : ruR C' S' := by
  refine ⟨by rw [h21, s22]; exact k.1, by rw [h21b, s23]; exact k.2.1, fun p hp => by rw [h28]; exact k.2.2.1 p hp, fun p hp hq => ?_⟩
  rw [s23] at hq
  exact pru_cg (h28 p) (h29 p) (h30 p) h (k.2.2.2 p hp hq)
theorem lgE_cg {C C' : aIF} {S S' : aS} {E : Nat → Nat → Int} {n : Nat} (h22 : C' 22 0 4 = C 22 0 4) (hc : ∀ k j, 23 ≤ k → k ≤ 26 → C' k 0 j = C k 0 j) (s26 : S' 26 0 = S 26 0) (s27 : S' 27 0 = S 27 0) (s45 : ∀ j, S' 45 j = S 45 j) (k : lgE C S E n) : lgE C' S' E n := by
  obtain ⟨a, b, c, d, e⟩ := k
  exact ⟨by rw [s27]; exact a, by rw [s26]; exact b, by rw [h22]; exact c, fun i q h1 h2 h3 => by rw [s45]; exact d i q h1 h2 h3, fun q r h1 h2 h3 => by rw [hc _ _ (by omega) (by omega)]; exact e q r h1 h2 h3⟩
theorem lgR_cg {C C' : aIF} {S S' : aS} {t t' : Nat} (ht : t ≤ t') (h5 : C' 21 0 5 = C 21 0 5) (h6 : C' 21 0 6 = C 21 0 6) (h22 : C' 22 0 4 = C 22 0 4) (hc : ∀ k j, 23 ≤ k → k ≤ 26 → C' k 0 j = C k 0 j) (s24 : S' 24 0 = S 24 0) (s25 : S' 25 0 = S 25 0) (s26 : S' 26 0 = S 26 0) (s27 : S' 27 0 = S 27 0) (s45 : ∀ j, S' 45 j = S 45 j) (k : lgR C S t) : lgR C' S' t' := by
  obtain ⟨⟨a1, a2, a3⟩, b, E, n, c, d⟩ := k
  refine ⟨⟨by rw [h5, s24]; exact a1, by rw [s24]; exact a2, by rw [s24]; omega⟩, by rw [h6, s25]; exact b, E, n, ?_, lgE_cg h22 hc s26 s27 s45 d⟩
  have := Nat.mul_le_mul_left 2000000 ht
  omega
theorem RP_cg {S S' : aS} {p : Nat} (h5 : S' 5 0 = S 5 0) (h6 : S' 6 0 = S 6 0) (h1 : ∀ f j, 11 ≤ f → f ≤ 15 → S' f j = S f j) (h : ∀ f j, 28 ≤ f → f ≤ 44 → S' f j = S f j) (k : RP S p) : RP S' p := by
  unfold RP at *
  simp only [h5, h6, h1 _ _ (show 11 ≤ 11 by omega) (by omega), h1 _ _ (show 11 ≤ 13 by omega) (by omega), h1 _ _ (show 11 ≤ 14 by omega) (by omega), h1 _ _ (show 11 ≤ 15 by omega) (by omega), h _ _ (show 28 ≤ 28 by omega) (by omega), h _ _ (show 28 ≤ 29 by omega) (by omega), h _ _ (show 28 ≤ 30 by omega) (by omega), h _ _ (show 28 ≤ 31 by omega) (by omega), h _ _ (show 28 ≤ 32 by omega) (by omega), h _ _ (show 28 ≤ 33 by omega) (by omega), h _ _ (show 28 ≤ 34 by omega) (by omega), h _ _ (show 28 ≤ 36 by omega) (by omega), h _ _ (show 28 ≤ 37 by omega) (by omega), h _ _ (show 28 ≤ 39 by omega) (by omega), h _ _ (show 28 ≤ 40 by omega) (by omega), h _ _ (show 28 ≤ 41 by omega) (by omega), h _ _ (show 28 ≤ 43 by omega) (by omega), h _ _ (show 28 ≤ 44 by omega) (by omega)]
  exact k
theorem rgR_cg {S S' : aS} {mm : Nat} (h5 : S' 5 0 = S 5 0) (h6 : S' 6 0 = S 6 0) (h10 : S' 10 0 = S 10 0) (h22 : S' 22 0 = S 22 0) (h23 : S' 23 0 = S 23 0) (h25 : S' 25 0 = S 25 0) (h1 : ∀ f j, 11 ≤ f → f ≤ 15 → S' f j = S f j) (h : ∀ f j, 28 ≤ f → f ≤ 44 → S' f j = S f j) (k : rgR S mm) : rgR S' mm := by
  intro h0
  rw [h22] at h0
  obtain ⟨a, b, c, d⟩ := k h0
  refine ⟨by rw [h23, h10]; exact a, by rw [h25, h5]; exact b, ?_, fun p hp => ?_⟩
  · rw [h23, h25, h6, show (fun p => S' 29 p) = (fun p => S 29 p) from funext (fun p => h 29 p (by omega) (by omega))]
    exact c
  · rw [h23] at hp
    exact RP_cg h5 h6 h1 h (d p hp)
/-- fields that no piece looks at -/
theorem Inv_t {C : aIF} {S : aS} {mm t t' : Nat} (ht : t ≤ t') (k : Inv C S mm t) : Inv C S mm t' := by
  obtain ⟨a, b, c, d, e, f, g, h, i⟩ := k
  exact ⟨a, b, c, d, e, f, g, lgR_cg ht rfl rfl rfl (fun _ _ _ _ => rfl) rfl rfl rfl rfl (fun _ => rfl) h, i⟩
theorem Inv_S {C : aIF} {S S' : aS} {mm t : Nat} (h : ∀ f j, f ≠ 0 → f ≠ 4 → f ≠ 16 → f ≠ 19 → f ≠ 20 → f ≠ 21 → S' f j = S f j) (k : Inv C S mm t) : Inv C S' mm t := by
  obtain ⟨a, b, c, d, e, f, g, h9, i, i2⟩ := k
  have q : ∀ f j, f ≠ 0 → f ≠ 4 → (f < 16 ∨ 21 < f) → S' f j = S f j := fun f j h1 h2 h3 => h f j h1 h2 (by omega) (by omega) (by omega) (by omega)
  exact ⟨tOK_cg (fun f h1 h2 => q f 0 (by omega) (by omega) (by omega)) a, tR_cg (fun _ => rfl) (fun f h1 h2 => q f 0 (by omega) (by omega) (by omega)) b, slR_cg (fun _ _ => rfl) (fun _ _ => rfl) (fun f j h1 h2 => q f j (by omega) (by omega) (by omega)) c, prR_cg rfl (fun _ _ _ => rfl) (fun _ _ => rfl) (q 10 0 (by omega) (by omega) (by omega)) (fun f j h1 h2 => q f j (by omega) (by omega) (by omega)) d,
    tmR_cg (fun _ => rfl) (fun _ _ => rfl) (q 5 0 (by omega) (by omega) (by omega)) (q 6 0 (by omega) (by omega) (by omega)) (q 10 0 (by omega) (by omega) (by omega)) (fun f j h1 h2 => q f j (by omega) (by omega) (by omega)) e,
    dlR_cg rfl (fun _ => rfl) (q 5 0 (by omega) (by omega) (by omega)) (q 10 0 (by omega) (by omega) (by omega)) (h 17 0 (by omega) (by omega) (by omega) (by omega) (by omega) (by omega)) (fun j => h 18 j (by omega) (by omega) (by omega) (by omega) (by omega) (by omega)) f,
    ruR_cg rfl rfl (fun _ _ => rfl) (fun _ _ => rfl) (fun _ _ => rfl) (q 22 0 (by omega) (by omega) (by omega)) (q 23 0 (by omega) (by omega) (by omega)) (fun f j h1 h2 => q f j (by omega) (by omega) (by omega)) g,
    lgR_cg (Nat.le_refl _) rfl rfl rfl (fun _ _ _ _ => rfl) (q 24 0 (by omega) (by omega) (by omega)) (q 25 0 (by omega) (by omega) (by omega)) (q 26 0 (by omega) (by omega) (by omega)) (q 27 0 (by omega) (by omega) (by omega)) (fun j => q 45 j (by omega) (by omega) (by omega)) h9,
    rgR_cg (q 5 0 (by omega) (by omega) (by omega)) (q 6 0 (by omega) (by omega) (by omega)) (q 10 0 (by omega) (by omega) (by omega)) (q 22 0 (by omega) (by omega) (by omega)) (q 23 0 (by omega) (by omega) (by omega)) (q 25 0 (by omega) (by omega) (by omega)) (fun f j h1 h2 => q f j (by omega) (by omega) (by omega)) (fun f j h1 h2 => q f j (by omega) (by omega) (by omega)) i, i2⟩
theorem Inv_0 {C : aIF} {S : aS} {mm t : Nat} (k : Inv C S mm t) : Inv C (sU S 0 0 0) mm t := Inv_S (fun f j h _ _ _ _ _ => by simp [sU, h]) k
/-- what a call must do: the reference answers as the component did, and all holds again -/
abbrev opOK (w : aW) (M M2 : aM) (As : List aV) (C : aIF) (S : aS) (mm t : Nat) : Prop :=
  kMetI w M (aO 1 0 :: As) C S (rf mm) (fun x C' => rMetI w M2 (aO 40 0 :: As) C' S (rf mm) (fun y S' => y = x ∧ Inv C' S' mm (t + 1)))
