/-! the calls' phase: all cells are there -/
abbrev cQ : Type := Option aV → aIF → aRF → Prop
abbrev cRun (w : aW) (M : aM) (pc : Nat) (L : List (Option aV)) (st : List aV) (I : aIF) (R : aRF) (Q : cQ) : Prop := aRun w M pc L st 105 105 I R (fun r n I R => n = 105 ∧ Q r I R)
abbrev cMet (w : aW) (M : aM) (As : List aV) (I : aIF) (R : aRF) (Q : cQ) : Prop := aMet w M As 105 I R (fun r n I R => n = 105 ∧ Q r I R)
theorem lv {k i : Nat} (h : i < kCnt k) : aLv 105 k i := ⟨h, by
  have := (List.getElem?_eq_some_iff.mp (aPos_at h)).1
  exact this⟩
theorem aMet_mono {w : aW} {M : aM} {As : List aV} {n : Nat} {I : aIF} {R : aRF} {Q Q2 : aQ} (h : aMet w M As n I R Q) (hq : ∀ r n I R, Q r n I R → Q2 r n I R) : aMet w M As n I R Q2 := by
  intro p e ha hc hk s m args below hf hfit hP hK
  obtain ⟨k, o, h1, h2, h3, ⟨r, n', I', R', g1, g2, g3, g4, g5, g6⟩, h5⟩ := h p e ha hc hk s m args below hf hfit hP hK
  exact ⟨k, o, h1, h2, h3, ⟨r, n', I', R', g1, g2, g3, g4, g5, hq _ _ _ _ g6⟩, h5⟩
section CM
variable {w : aW} {M : aM} {pc pc' : Nat} {L : List (Option aV)} {st : List aV} {I : aIF} {R : aRF} {Q : cQ}
theorem cMet_of {As : List aV} (ho : mOk M) (hl : (aE0 As).length ≤ M.2.2.1) (h : aOkS As → cRun w M 0 (aEnt As M.2.2.1) [] I R Q) : cMet w M As I R Q := aMet_of ho.1 ho.2.1 hl h
theorem cIret {x : Int} (hd : decode M.2.1 pc = .ok (.ireturn, 1)) (ho : mOk M) (hr : M.2.2.2.1 = some .int) (hq : Q (some (aI x)) I R) : cRun w M pc L [aI x] I R Q := aIret hd ho.2.1 hr (by rw [ho.2.2.1]) (by rw [ho.2.2.2]; rfl) ⟨rfl, hq⟩
theorem cZret {x : Int} (hd : decode M.2.1 pc = .ok (.ireturn, 1)) (ho : mOk M) (hr : M.2.2.2.1 = some .boolean) (hx : x = 0 ∨ x = 1) (hq : Q (some (aI x)) I R) : cRun w M pc L [aI x] I R Q := aZret hd ho.2.1 hr hx (by rw [ho.2.2.1]) (by rw [ho.2.2.2]; rfl) ⟨rfl, hq⟩
theorem cLret {x : Int} (hd : decode M.2.1 pc = .ok (.lreturn, 1)) (ho : mOk M) (hr : M.2.2.2.1 = some .long) (hq : Q (some (aL x)) I R) : cRun w M pc L [aL x] I R Q := aLret hd ho.2.1 hr (by rw [ho.2.2.1]) (by rw [ho.2.2.2]; rfl) ⟨rfl, hq⟩
theorem cVret (hd : decode M.2.1 pc = .ok (.return_, 1)) (ho : mOk M) (hr : M.2.2.2.1 = none) (hq : Q none I R) : cRun w M pc L [] I R Q := aVret hd ho.2.1 hr (by rw [ho.2.2.1]) (by rw [ho.2.2.2]; rfl) ⟨rfl, hq⟩
theorem cCallV {M2 : aM} (As : List aV) {rest : List aV} {k i c idx : Nat} (hd : decode M.2.1 pc = .ok (.invokevirtual idx, 3)) (hf : aVk M.1.cls idx M2) (ho : mOk M2) (hrm : aRm M M2) (hnp : (parseMethodDescriptor M2.1.desc).map (fun d => d.parameters.length) = some As.length) (hk : kObj k c = true) (hc11 : Nat.ble c 10 = true) (hcn : aNm c = M2.1.cls) (h8 : Nat.ble (rest.map aCat).sum 8 = true) (hst : st = As.reverse ++ aO k i :: rest) (hl : i < kCnt k) (hp : pc + 3 = pc')
    (kk : cMet w M2 (aO k i :: As) I R (fun r I' R' => cRun w M pc' L (r.toList ++ rest) I' R' Q)) : cRun w M pc L st I R Q := by
  subst hst
  exact aCallV hd hf hrm hnp hk (by have := Nat.le_of_ble_eq_true hc11; omega) hcn (Nat.le_of_ble_eq_true h8) (lv hl) (by rw [ho.2.2.1]; omega) (by rw [ho.2.2.2]; omega) hp (aMet_mono kk (fun r n I R h => by obtain ⟨rfl, h⟩ := h; exact h))
theorem cCallS {M2 : aM} (As : List aV) {rest : List aV} {idx : Nat} (hd : decode M.2.1 pc = .ok (.invokestatic idx, 3)) (hf : aSk M.1.cls idx M2) (ho : mOk M2) (hrm : aRm M M2) (hnp : (parseMethodDescriptor M2.1.desc).map (fun d => d.parameters.length) = some As.length) (h8 : Nat.ble (rest.map aCat).sum 8 = true) (hst : st = As.reverse ++ rest) (hp : pc + 3 = pc')
    (kk : cMet w M2 As I R (fun r I' R' => cRun w M pc' L (r.toList ++ rest) I' R' Q)) : cRun w M pc L st I R Q := by
  subst hst
  exact aCallS hd hf hrm hnp (Nat.le_of_ble_eq_true h8) (by rw [ho.2.2.1]; omega) (by rw [ho.2.2.2]; omega) hp (aMet_mono kk (fun r n I R h => by obtain ⟨rfl, h⟩ := h; exact h))
end CM
/-! the references, once all is made; m runners have had a program -/
def rf (m : Nat) : aRF := fun k i j => match k with
  | 1 => (match j with
    | 0 => some (2, 0)
    | 1 => some (9, 0)
    | 2 => some (5, 0)
    | 3 => some (10, 0)
    | 4 => some (21, 0)
    | _ => none)
  | 2 => some (3, j)
  | 3 => (match j with
    | 0 => some (4, i)
    | _ => none)
  | 5 => some (6, j)
  | 6 => (match j with
    | 0 => some (7, i)
    | 5 => some (8, i)
    | _ => none)
  | 10 => (match j with
    | 0 => some (9, 0)
    | 1 => some (11, 0)
    | 2 => some (17, 0)
    | 3 => some (18, 0)
    | 5 => some (19, 0)
    | _ => none)
  | 11 => (match j with
    | 0 => some (12, 0)
    | 1 => some (14, 0)
    | 2 => some (15, 0)
    | 3 => some (16, 0)
    | _ => none)
  | 12 => (match j with
    | 0 => some (13, 0)
    | _ => none)
  | 19 => some (20, j)
  | 21 => (match j with
    | 0 => some (9, 0)
    | 1 => some (22, 0)
    | 2 => some (27, 0)
    | _ => none)
  | 22 => (match j with
    | 0 => some (23, 0)
    | 1 => some (24, 0)
    | 2 => some (25, 0)
    | 3 => some (26, 0)
    | _ => none)
  | 27 => some (28, j)
  | 28 => (match j with
    | 0 => some (29, i)
    | 2 => if i < m then some (6, i) else none
    | _ => none)
  | 29 => (match j with
    | 0 => some (30, i)
    | _ => none)
  | 40 => some (40 + j, 0)
  | _ => none
theorem rf_p {m i : Nat} (h : i < m) : rf m 28 i 2 = some (6, i) := if_pos h
/-! ends of calls -/
def cqI (R : aRF) (P : Int → aIF → Prop) : cQ := fun r I' R' => R' = R ∧ ∃ x, r = some (aI x) ∧ P x I'
def cqL (R : aRF) (P : Int → aIF → Prop) : cQ := fun r I' R' => R' = R ∧ ∃ x, r = some (aL x) ∧ P x I'
def cqV (R : aRF) (P : aIF → Prop) : cQ := fun r I' R' => R' = R ∧ r = none ∧ P I'
abbrev cMetI (w : aW) (M : aM) (As : List aV) (I : aIF) (R : aRF) (P : Int → aIF → Prop) : Prop := cMet w M As I R (cqI R P)
abbrev cMetL (w : aW) (M : aM) (As : List aV) (I : aIF) (R : aRF) (P : Int → aIF → Prop) : Prop := cMet w M As I R (cqL R P)
abbrev cMetV (w : aW) (M : aM) (As : List aV) (I : aIF) (R : aRF) (P : aIF → Prop) : Prop := cMet w M As I R (cqV R P)
theorem cMetI_mono {w : aW} {M : aM} {As : List aV} {I : aIF} {R : aRF} {P P2 : Int → aIF → Prop} (h : cMetI w M As I R P) (hq : ∀ x I', P x I' → P2 x I') : cMetI w M As I R P2 :=
  aMet_mono h (fun r n I R q => ⟨q.1, q.2.1, by obtain ⟨-, -, x, h1, h2⟩ := q; exact ⟨x, h1, hq _ _ h2⟩⟩)
theorem cMetL_mono {w : aW} {M : aM} {As : List aV} {I : aIF} {R : aRF} {P P2 : Int → aIF → Prop} (h : cMetL w M As I R P) (hq : ∀ x I', P x I' → P2 x I') : cMetL w M As I R P2 :=
  aMet_mono h (fun r n I R q => ⟨q.1, q.2.1, by obtain ⟨-, -, x, h1, h2⟩ := q; exact ⟨x, h1, hq _ _ h2⟩⟩)
theorem cMetV_mono {w : aW} {M : aM} {As : List aV} {I : aIF} {R : aRF} {P P2 : aIF → Prop} (h : cMetV w M As I R P) (hq : ∀ I', P I' → P2 I') : cMetV w M As I R P2 :=
  aMet_mono h (fun r n I R q => ⟨q.1, q.2.1, q.2.2.1, hq _ q.2.2.2⟩)
section CN
variable {w : aW} {M : aM} {pc pc' : Nat} {L : List (Option aV)} {st : List aV} {I : aIF} {R : aRF} {Q : cQ}
theorem cVI {M2 : aM} (As : List aV) {rest : List aV} {k i c idx : Nat} (hd : decode M.2.1 pc = .ok (.invokevirtual idx, 3)) (hf : aVk M.1.cls idx M2) (ho : mOk M2) (hrm : aRm M M2) (hnp : (parseMethodDescriptor M2.1.desc).map (fun d => d.parameters.length) = some As.length) (hk : kObj k c = true) (hc11 : Nat.ble c 10 = true) (hcn : aNm c = M2.1.cls) (h8 : Nat.ble (rest.map aCat).sum 8 = true) (hst : st = As.reverse ++ aO k i :: rest) (hl : i < kCnt k) (hp : pc + 3 = pc')
    (kk : cMetI w M2 (aO k i :: As) I R (fun x I' => cRun w M pc' L (aI x :: rest) I' R Q)) : cRun w M pc L st I R Q :=
  cCallV As hd hf ho hrm hnp hk hc11 hcn h8 hst hl hp (aMet_mono kk (fun r n I R q => ⟨q.1, by obtain ⟨-, rfl, x, rfl, h2⟩ := q; exact h2⟩))
theorem cVL {M2 : aM} (As : List aV) {rest : List aV} {k i c idx : Nat} (hd : decode M.2.1 pc = .ok (.invokevirtual idx, 3)) (hf : aVk M.1.cls idx M2) (ho : mOk M2) (hrm : aRm M M2) (hnp : (parseMethodDescriptor M2.1.desc).map (fun d => d.parameters.length) = some As.length) (hk : kObj k c = true) (hc11 : Nat.ble c 10 = true) (hcn : aNm c = M2.1.cls) (h8 : Nat.ble (rest.map aCat).sum 8 = true) (hst : st = As.reverse ++ aO k i :: rest) (hl : i < kCnt k) (hp : pc + 3 = pc')
    (kk : cMetL w M2 (aO k i :: As) I R (fun x I' => cRun w M pc' L (aL x :: rest) I' R Q)) : cRun w M pc L st I R Q :=
  cCallV As hd hf ho hrm hnp hk hc11 hcn h8 hst hl hp (aMet_mono kk (fun r n I R q => ⟨q.1, by obtain ⟨-, rfl, x, rfl, h2⟩ := q; exact h2⟩))
theorem cVV {M2 : aM} (As : List aV) {rest : List aV} {k i c idx : Nat} (hd : decode M.2.1 pc = .ok (.invokevirtual idx, 3)) (hf : aVk M.1.cls idx M2) (ho : mOk M2) (hrm : aRm M M2) (hnp : (parseMethodDescriptor M2.1.desc).map (fun d => d.parameters.length) = some As.length) (hk : kObj k c = true) (hc11 : Nat.ble c 10 = true) (hcn : aNm c = M2.1.cls) (h8 : Nat.ble (rest.map aCat).sum 8 = true) (hst : st = As.reverse ++ aO k i :: rest) (hl : i < kCnt k) (hp : pc + 3 = pc')
    (kk : cMetV w M2 (aO k i :: As) I R (fun I' => cRun w M pc' L rest I' R Q)) : cRun w M pc L st I R Q :=
  cCallV As hd hf ho hrm hnp hk hc11 hcn h8 hst hl hp (aMet_mono kk (fun r n I R q => ⟨q.1, by obtain ⟨-, rfl, rfl, h2⟩ := q; exact h2⟩))
theorem cSI {M2 : aM} (As : List aV) {rest : List aV} {idx : Nat} (hd : decode M.2.1 pc = .ok (.invokestatic idx, 3)) (hf : aSk M.1.cls idx M2) (ho : mOk M2) (hrm : aRm M M2) (hnp : (parseMethodDescriptor M2.1.desc).map (fun d => d.parameters.length) = some As.length) (h8 : Nat.ble (rest.map aCat).sum 8 = true) (hst : st = As.reverse ++ rest) (hp : pc + 3 = pc')
    (kk : cMetI w M2 As I R (fun x I' => cRun w M pc' L (aI x :: rest) I' R Q)) : cRun w M pc L st I R Q :=
  cCallS As hd hf ho hrm hnp h8 hst hp (aMet_mono kk (fun r n I R q => ⟨q.1, by obtain ⟨-, rfl, x, rfl, h2⟩ := q; exact h2⟩))
theorem cSL {M2 : aM} (As : List aV) {rest : List aV} {idx : Nat} (hd : decode M.2.1 pc = .ok (.invokestatic idx, 3)) (hf : aSk M.1.cls idx M2) (ho : mOk M2) (hrm : aRm M M2) (hnp : (parseMethodDescriptor M2.1.desc).map (fun d => d.parameters.length) = some As.length) (h8 : Nat.ble (rest.map aCat).sum 8 = true) (hst : st = As.reverse ++ rest) (hp : pc + 3 = pc')
    (kk : cMetL w M2 As I R (fun x I' => cRun w M pc' L (aL x :: rest) I' R Q)) : cRun w M pc L st I R Q :=
  cCallS As hd hf ho hrm hnp h8 hst hp (aMet_mono kk (fun r n I R q => ⟨q.1, by obtain ⟨-, rfl, x, rfl, h2⟩ := q; exact h2⟩))
/-! reads of what was written -/
theorem aTopEq {x y : Int} (h : x = y) (k : cRun w M pc L (aI y :: st) I R Q) : cRun w M pc L (aI x :: st) I R Q := h ▸ k
theorem aTopEqL {x y : Int} (h : x = y) (k : cRun w M pc L (aL y :: st) I R Q) : cRun w M pc L (aL x :: st) I R Q := h ▸ k
theorem uI_s {k i j : Nat} {v : Int} : uI I k i j v k i j = v := if_pos ⟨rfl, rfl, rfl⟩
theorem uI_k {k i j k2 i2 j2 : Nat} {v : Int} (h : Nat.beq k2 k = false) : uI I k i j v k2 i2 j2 = I k2 i2 j2 := if_neg (fun z => by have := z.1; subst this; rw [Nat.beq_refl] at h; cases h)
theorem uI_j {k i j k2 i2 j2 : Nat} {v : Int} (h : Nat.beq j2 j = false) : uI I k i j v k2 i2 j2 = I k2 i2 j2 := if_neg (fun z => by have := z.2.2; subst this; rw [Nat.beq_refl] at h; cases h)
theorem tnIx {x : Int} {N : Nat} (h : 0 ≤ x ∧ x < (N : Int)) : x = (x.toNat : Int) ∧ x.toNat < N := by omega
/-! compares of longs -/
theorem aLc_eq {x y off : Int} {tgt p1 : Nat} (h1 : decode M.2.1 pc = .ok (.lcmp, 1)) (hp1 : pc + 1 = p1) (hd : decode M.2.1 p1 = .ok (.ifCond .eq off, 3)) (ht : (p1 : Int) + off = (tgt : Int)) (hp : p1 + 3 = pc') (kt : x = y → cRun w M tgt L st I R Q) (kf : ¬ x = y → cRun w M pc' L st I R Q) : cRun w M pc L (aL y :: aL x :: st) I R Q :=
  aLcmp h1 hp1 (aIf_eq hd ht hp (fun h => kt (by split at h; omega; split at h; assumption; omega)) (fun h => kf (fun e => h (by rw [if_neg (by omega), if_pos e]))))
theorem aLc_ne {x y off : Int} {tgt p1 : Nat} (h1 : decode M.2.1 pc = .ok (.lcmp, 1)) (hp1 : pc + 1 = p1) (hd : decode M.2.1 p1 = .ok (.ifCond .ne off, 3)) (ht : (p1 : Int) + off = (tgt : Int)) (hp : p1 + 3 = pc') (kt : x ≠ y → cRun w M tgt L st I R Q) (kf : x = y → cRun w M pc' L st I R Q) : cRun w M pc L (aL y :: aL x :: st) I R Q :=
  aLcmp h1 hp1 (aIf_ne hd ht hp (fun h => kt (fun e => h (by rw [if_neg (by omega), if_pos e]))) (fun h => kf (by split at h; omega; split at h; assumption; omega)))
theorem aLc_lt {x y off : Int} {tgt p1 : Nat} (h1 : decode M.2.1 pc = .ok (.lcmp, 1)) (hp1 : pc + 1 = p1) (hd : decode M.2.1 p1 = .ok (.ifCond .lt off, 3)) (ht : (p1 : Int) + off = (tgt : Int)) (hp : p1 + 3 = pc') (kt : x < y → cRun w M tgt L st I R Q) (kf : ¬ x < y → cRun w M pc' L st I R Q) : cRun w M pc L (aL y :: aL x :: st) I R Q :=
  aLcmp h1 hp1 (aIf_lt hd ht hp (fun h => kt (by split at h; omega; split at h <;> omega)) (fun h => kf (by split at h; omega; split at h <;> omega)))
theorem aLc_ge {x y off : Int} {tgt p1 : Nat} (h1 : decode M.2.1 pc = .ok (.lcmp, 1)) (hp1 : pc + 1 = p1) (hd : decode M.2.1 p1 = .ok (.ifCond .ge off, 3)) (ht : (p1 : Int) + off = (tgt : Int)) (hp : p1 + 3 = pc') (kt : y ≤ x → cRun w M tgt L st I R Q) (kf : ¬ (y ≤ x) → cRun w M pc' L st I R Q) : cRun w M pc L (aL y :: aL x :: st) I R Q :=
  aLcmp h1 hp1 (aIf_ge hd ht hp (fun h => kt (by split at h; omega; split at h <;> omega)) (fun h => kf (by split at h; omega; split at h <;> omega)))
theorem aLc_gt {x y off : Int} {tgt p1 : Nat} (h1 : decode M.2.1 pc = .ok (.lcmp, 1)) (hp1 : pc + 1 = p1) (hd : decode M.2.1 p1 = .ok (.ifCond .gt off, 3)) (ht : (p1 : Int) + off = (tgt : Int)) (hp : p1 + 3 = pc') (kt : y < x → cRun w M tgt L st I R Q) (kf : ¬ (y < x) → cRun w M pc' L st I R Q) : cRun w M pc L (aL y :: aL x :: st) I R Q :=
  aLcmp h1 hp1 (aIf_gt hd ht hp (fun h => kt (by split at h; omega; split at h <;> omega)) (fun h => kf (by split at h; omega; split at h <;> omega)))
theorem aLc_le {x y off : Int} {tgt p1 : Nat} (h1 : decode M.2.1 pc = .ok (.lcmp, 1)) (hp1 : pc + 1 = p1) (hd : decode M.2.1 p1 = .ok (.ifCond .le off, 3)) (ht : (p1 : Int) + off = (tgt : Int)) (hp : p1 + 3 = pc') (kt : x ≤ y → cRun w M tgt L st I R Q) (kf : ¬ (x ≤ y) → cRun w M pc' L st I R Q) : cRun w M pc L (aL y :: aL x :: st) I R Q :=
  aLcmp h1 hp1 (aIf_le hd ht hp (fun h => kt (by split at h; omega; split at h <;> omega)) (fun h => kf (by split at h; omega; split at h <;> omega)))
end CN
theorem aIinc1 {w : aW} {M : aM} {pc pc' : Nat} {L : List (Option aV)} {st : List aV} {n0 n : Nat} {I : aIF} {R : aRF} {Q : aQ} {i j : Nat} (hd : decode M.2.1 pc = .ok (.iinc i 1, 3)) (hl : L[i]? = some (some (aI (j : Int)))) (hn1 : i < M.2.2.1) (h2 : j + 1 < 2147483648) (hp : pc + 3 = pc') {L' : List (Option aV)} (hL : aSet1 L i (aI ((j + 1 : Nat) : Int)) = L') (k : aRun w M pc' L' st n0 n I R Q) : aRun w M pc L st n0 n I R Q :=
  aIinc hd hl hn1 ⟨by decide, by decide⟩ (by omega) (by omega) hp (by rw [← hL, Int.natCast_add]; rfl) k
