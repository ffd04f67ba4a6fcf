/-! the start: what the constructors leave is what holds between calls -/
theorem arrV_cg {cI : ClassId} {N : Nat} {f g : Nat → Value} (h : ∀ j, j < N → f j = g j) : arrV cI N f = arrV cI N g := by
  have e : (fun j : Fin N => f j.val) = (fun j : Fin N => g j.val) := funext (fun j => h j.val j.isLt)
  unfold arrV
  rw [e]
def aSame (I I' : aIF) (R R' : aRF) : Prop := ∀ k i, i < kCnt k → (kA k = 0 → ∀ j, j < aNf (kC k) → (aTc (kC k) j ≠ 2 → I' k i j = I k i j) ∧ (aTc (kC k) j = 2 → R' k i j = R k i j)) ∧ (kA k ≠ 0 → (kC k < 3 → ∀ j, I' k i j = I k i j) ∧ (3 ≤ kC k → ∀ j, j < kLen k → R' k i j = R k i j))
theorem aRep_ext {w : aW} {n : Nat} {I I' : aIF} {R R' : aRF} {H : Heap} (h : aRep w n I R H) (ho : aOkI I') (hc : aSame I I' R R') : aRep w n I' R' H := by
  obtain ⟨h1, h2, h3, h4, h5⟩ := h
  refine ⟨h1, fun k i hl => ?_, ho, h4, h5⟩
  have a := h2 k i hl
  obtain ⟨c1, c2⟩ := hc k i hl.1
  unfold aCell at a ⊢
  by_cases e : kA k = 0
  · rw [if_pos e] at a ⊢
    have q : aFs w I' R' (kC k) k i = aFs w I R (kC k) k i := by
      unfold aFs
      refine List.map_congr_left (fun j hj => ?_)
      obtain ⟨q1, q2⟩ := c1 e j (List.mem_range.mp hj)
      unfold aTc at q1 q2
      unfold aFv
      cases hty : aTy (kC k) j <;> rw [hty] at q1 q2 <;> first | (rw [q1 (by decide)]; done) | (simp only []; rw [q2 rfl])
    rw [q]
    exact a
  · rw [if_neg e] at a ⊢
    obtain ⟨d1, d2⟩ := c2 e
    have q : vp_cell (aw_C w (kC k)) (kLen k, aAr w I' R' (kC k) k i) = vp_cell (aw_C w (kC k)) (kLen k, aAr w I R (kC k) k i) := by
      generalize kC k = t at *
      unfold aAr
      match t with
      | 0 => exact arrV_cg (cI := aw_C w 0) (N := kLen k) (f := fun j => .int (Int32.ofInt (I' k i j))) (g := fun j => .int (Int32.ofInt (I k i j))) (fun j hj => by rw [d1 (by decide) j])
      | 1 => exact arrV_cg (cI := aw_C w 1) (N := kLen k) (f := fun j => .long (Int64.ofInt (I' k i j))) (g := fun j => .long (Int64.ofInt (I k i j))) (fun j hj => by rw [d1 (by decide) j])
      | 2 => exact arrV_cg (cI := aw_C w 2) (N := kLen k) (f := fun j => .int (Int32.ofInt (I' k i j))) (g := fun j => .int (Int32.ofInt (I k i j))) (fun j hj => by rw [d1 (by decide) j])
      | t + 3 => exact arrV_cg (cI := aw_C w (t + 3)) (N := kLen k) (f := fun j => va_rf ((R' k i j).map (aAd w))) (g := fun j => va_rf ((R k i j).map (aAd w))) (fun j hj => by rw [d2 (by omega) j hj])
    show _ = some _
    rw [q]
    exact a
theorem aRun_ext {w : aW} {M : aM} {pc : Nat} {L : List (Option aV)} {st : List aV} {n0 n : Nat} {I I' : aIF} {R R' : aRF} {Q : aQ} (ho : aOkI I → aOkI I') (hc : aSame I I' R R') (k : aRun w M pc L st n0 n I' R' Q) : aRun w M pc L st n0 n I R Q := fun p e s m args below meth c H locs ls C hR hlo hls hoL hos hn hsz => k p e s m args below meth c H locs ls C (aRep_ext hR (ho hR.2.2.1) hc) hlo hls hoL hos hn hsz
def zI : aIF := fun _ _ _ => 0
def zR : aRF := fun _ _ _ => none
theorem aFr_0 : aFr 0 zI zR := fun _ _ _ _ => ⟨rfl, rfl⟩
def I1 : aIF := I_iX10_init_40_0 (I_iX9_init_1_0 zI)
def R1 : aRF := R_iX10_init_40_0 (R_iX9_init_1_0 zR)
def S1 : aS := fun f j => if scal f = true then I1 40 0 f else I1 (40 + f) 0 j
def R1p (k i j : Nat) : Bool := !(kA k == 0 && aTc (kC k) j == 2) || decide (rf 6 k i j = R1 k i j)
theorem R1_a0 : ∀ k, k < 86 → ∀ i, i < kCnt k → ∀ j, j < aNf (kC k) → R1p k i j = true := by decide +kernel
theorem R1_a (k : Nat) (hk : k < 86) (i : Nat) (hi : i < kCnt k) (j : Nat) (hj : j < aNf (kC k)) (h : kA k = 0 ∧ aTc (kC k) j = 2) : rf 6 k i j = R1 k i j := by
  have := R1_a0 k hk i hi j hj
  unfold R1p at this
  rw [h.1, h.2] at this
  simpa using this
theorem R1_b : ∀ k, k < 86 → ∀ i, i < kCnt k → ∀ j, j < kLen k * min 1 (kC k / 3) → rf 6 k i j = R1 k i j := by decide +kernel
theorem R1_ok (k : Nat) (hk : k < 86) (i : Nat) (hi : i < kCnt k) : (kA k = 0 → ∀ j, j < aNf (kC k) → aTc (kC k) j = 2 → rf 6 k i j = R1 k i j) ∧ (kA k ≠ 0 → 3 ≤ kC k → ∀ j, j < kLen k → rf 6 k i j = R1 k i j) := by
  refine ⟨fun a j hj ht => R1_a k hk i hi j hj ⟨a, ht⟩, fun _ h3 j hj => R1_b k hk i hi j ?_⟩
  rw [show min 1 (kC k / 3) = 1 by omega, Nat.mul_one]
  exact hj
theorem k_40a : ∀ k, k < 86 → ∀ i, i < kCnt k → (40 ≤ k → i = 0) := by decide +kernel
theorem k_40b : ∀ k, k < 86 → ∀ i, i < kCnt k → (41 ≤ k → kA k = 1 ∧ scal (k - 40) = false) := by decide +kernel
theorem k_40 (k : Nat) (hk : k < 86) (h40 : 40 ≤ k) (i : Nat) (hi : i < kCnt k) : i = 0 ∧ (k ≠ 40 → kA k ≠ 0 ∧ scal (k - 40) = false) := ⟨k_40a k hk i hi h40, fun e => by
  have := k_40b k hk i hi (by omega)
  exact ⟨by omega, this.2⟩⟩
theorem t_40 : ∀ j, j < aNf (kC 40) → aTc (kC 40) j ≠ 2 → scal j = true := by decide +kernel
theorem same1 : aSame I1 (mem I1 S1) R1 (rf 6) := fun k i hi => by
  have hk : k < 86 := by
    by_cases e : k < 86
    · exact e
    · rw [kCnt_big (by omega)] at hi
      omega
  obtain ⟨r1, r2⟩ := R1_ok k hk i hi
  by_cases h40 : k < 40
  · have e : ∀ j, mem I1 S1 k i j = I1 k i j := fun j => if_pos h40
    exact ⟨fun a j hj => ⟨fun _ => e j, r1 a j hj⟩, fun a => ⟨fun _ j => e j, fun b j hj => r2 a b j hj⟩⟩
  · obtain ⟨rfl, q⟩ := k_40 k hk (by omega) i hi
    by_cases e40 : k = 40
    · subst e40
      refine ⟨fun a j hj => ⟨fun ht => ?_, r1 a j hj⟩, fun a => absurd (by decide) a⟩
      have hs := t_40 j hj ht
      unfold mem
      rw [if_neg (by decide), if_pos rfl, if_pos rfl, if_pos hs]
      exact if_pos hs
    · obtain ⟨q1, q2⟩ := q e40
      refine ⟨fun a => absurd a q1, fun a => ⟨fun _ j => ?_, fun b j hj => r2 a b j hj⟩⟩
      unfold mem
      rw [if_neg h40, if_pos rfl, if_neg e40, if_neg (by rw [q2]; decide)]
      unfold S1
      rw [if_neg (by rw [q2]; decide), show 40 + (k - 40) = k by omega]
theorem ok0 (k : Nat) : if kA k = 1 ∧ kC k = 1 then i64 0 else i32 0 := by
  split
  · exact ⟨by decide, by decide⟩
  · exact ⟨by decide, by decide⟩
theorem okI1 (h : aOkI I1) : aOkI (mem I1 S1) := fun k i j => by
  unfold mem
  by_cases h40 : k < 40
  · rw [if_pos h40]
    exact h k i j
  · rw [if_neg h40]
    by_cases hi : i = 0
    · rw [if_pos hi]
      by_cases e40 : k = 40
      · rw [if_pos e40]
        by_cases hs : scal j = true
        · rw [if_pos hs, show S1 j 0 = I1 40 0 j from if_pos hs, e40]
          exact h 40 0 j
        · rw [if_neg hs]
          exact ok0 k
      · rw [if_neg e40]
        by_cases hs : scal (k - 40) = true
        · rw [if_pos hs]
          exact ok0 k
        · rw [if_neg hs, show S1 (k - 40) j = I1 (40 + (k - 40)) 0 j from if_neg hs, show 40 + (k - 40) = k by omega]
          exact h k 0 j
    · rw [if_neg hi]
      exact ok0 k
theorem inv1 : Inv I1 S1 6 0 := by
  have s10 : S1 10 0 = 0 := by decide +kernel
  have s17 : S1 17 0 = 0 := by decide +kernel
  have s22 : S1 22 0 = 0 := by decide +kernel
  have s23 : S1 23 0 = 0 := by decide +kernel
  have s24 : S1 24 0 = 0 := by decide +kernel
  have s26 : S1 26 0 = 0 := by decide +kernel
  have s27 : S1 27 0 = 0 := by decide +kernel
  refine ⟨?_, ?_, ?_, ⟨⟨?_, by omega, by omega⟩, fun p hp hq => absurd hq (by omega)⟩, fun p hp hq => absurd hq (by omega), ⟨⟨?_, Or.inl s17⟩, fun h => absurd h (by omega)⟩, ⟨⟨?_, Or.inl s22⟩, ⟨?_, by omega, by omega⟩, ?_, fun p hp hq => absurd hq (by omega)⟩, ⟨⟨?_, by omega, by omega⟩, ?_, fun _ _ => 0, 0, by omega, ⟨by omega, by omega, ?_, fun i c h1 h2 h3 => absurd h3 (by omega), fun a c h1 h2 => absurd h2 (by omega)⟩⟩, fun h => absurd h (by omega), by omega⟩
  · unfold tOK
    decide +kernel
  · unfold tR
    decide +kernel
  · unfold slR
    decide +kernel
  · decide +kernel
  · decide +kernel
  · decide +kernel
  · decide +kernel
  · decide +kernel
  · decide +kernel
  · decide +kernel
  · decide +kernel
/-! what the machine knows at the law's entry -/
theorem aIns : ∀ c, c < 11 → Cond.instantiable (aNm c) (aNf c) ∈ aTb := a11 newX0 newX1 newX2 newX3 newX4 newX5 newX6 newX7 newX8 newX9 newX10
theorem vw_len {c : Nat} {q : vw_C} (h : vwCl[c]? = some q) : c < 11 ∧ q = (aNm c, aTT c, aNf c) := by
  have hc : c < 11 := (List.getElem?_eq_some_iff.mp h).1
  have := (aCl c hc).symm.trans h
  exact ⟨hc, (Option.some.inj this).symm⟩
theorem arr_at {s : State} {A : Array Value} {ty : FieldType} (h : (Cond.arrayClass ty).before A s = true) : ∃ cA : ClassId, ArrOfT s cA ty ∧ s.vm.findClass ("[" ++ ty.toString) = some cA := by
  obtain ⟨c, k, comp, h1, h2, h3⟩ := Cond.arrayClass_spec h
  exact ⟨c, fun n z => ⟨fun k h => (by cases h), k, h2, comp, h3⟩, h1⟩
theorem obj_at {s : State} {A : Array Value} {C : String} (h : (Cond.arrayOver (.object C)).before A s = true) : ∃ cA : ClassId, ArrOfT s cA (.object C) ∧ va_RA s cA (.object C) := by
  obtain ⟨comp, c, k, h1, h2, h3, h4, h5⟩ := Cond.arrayOver_spec h
  exact ⟨c, fun n z => ⟨fun k h => (by cases h), k, h3, comp, h4⟩, k, comp, h3, h4, h1, h5⟩
theorem aai_at {s : State} {A : Array Value} (h : (Cond.arrayOver (.array .int)).before A s = true) : ∃ cA : ClassId, ArrOfT s cA (.array .int) ∧ s.vm.findClass ("[" ++ (FieldType.array .int).toString) = some cA := by
  obtain ⟨comp, c, k, h1, h2, h3, h4, h5⟩ := arrayOverA_spec h
  exact ⟨c, fun n z => ⟨fun k h => (by cases h), k, h3, comp, h4⟩, h5⟩
theorem ovrA : Cond.arrayOver (.array .int) ∈ lw_tbl := List.mem_append_right _ (List.mem_of_getElem? (i := 177) (by decide +kernel))
theorem know {p : Program} {s : State} {m : MethodId} {meth : Method} {c : Code} (l : Launch) {b L : Nat} {xs : Nat → Int32} (hL : L ≤ 3072) (C0 : lw_At p s m meth c b L xs) : ∃ w : aW, aw_l w = l ∧ aw_B w = s.heap.size ∧ aw_b w = b ∧ aw_L w = L ∧ aKn w s ∧ s.heap[aw_b w]? = some (aw_sc w) := by
  obtain ⟨hx, hb, hr, hml, hown, hts, hX, hbl, hlocks, hgv⟩ := id C0
  obtain ⟨scr, hcb, hof, hkn, hsz, hval⟩ := hX
  have hta : ∀ x ∈ aTb, x.before #[Value.ref b] s = true := fun x hx => hts x (aTb_of hx)
  have hk : ∀ c, ∃ (x : ClassId) (iS : Nat → Nat), c < 11 → u_Kn s (aNm c) (aTT c) (aNf c) x iS := fun c => by
    by_cases hc : c < 11
    · obtain ⟨x, iS, h⟩ := u_known (C := aNm c) (T := aTT c) (N := aNf c) (n := aNf c) hta (aIn c hc) (hta _ (aIns c hc))
      exact ⟨x, iS, fun _ => h⟩
    · exact ⟨0, fun _ => 0, fun h => absurd h hc⟩
  obtain ⟨dC, dI, hk⟩ : ∃ (dC : Nat → ClassId) (dI : Nat → Nat → Nat), ∀ c, c < 11 → u_Kn s (aNm c) (aTT c) (aNf c) (dC c) (dI c) := ⟨fun c => Classical.choose (hk c), fun c => Classical.choose (Classical.choose_spec (hk c)), fun c => Classical.choose_spec (Classical.choose_spec (hk c))⟩
  obtain ⟨c0, i0, n0⟩ := arr_at (hta _ arr_int)
  obtain ⟨c1, i1, n1⟩ := arr_at (hta _ arr_long)
  obtain ⟨c2, i2, n2⟩ := arr_at (hta _ arr_boolean)
  obtain ⟨c3, i3, n3⟩ := obj_at (hts _ ovrX3)
  obtain ⟨c4, i4, n4⟩ := obj_at (hts _ ovrX1)
  obtain ⟨c5, i5, n5⟩ := obj_at (hts _ ovrX2)
  obtain ⟨c6, i6, n6⟩ := aai_at (hts _ ovrA)
  refine ⟨(l, (dC, dI), (fun t => match t with | 0 => c0 | 1 => c1 | 2 => c2 | 3 => c3 | 4 => c4 | 5 => c5 | _ => c6), s.heap.size, b, scr, L, fun j => (xs j).toInt), rfl, rfl, rfl, rfl, ⟨⟨fun c q hq => ?_, fun k q hq => ?_⟩, fun a i y h q => va_Nw.of rfl (hts _ q), fun C q => va_AO.of (hts _ q), hts _ ovrA, hof, hkn, hsz, hL, fun j hj => ?_, fun j => i32_of _⟩, hcb⟩
  · obtain ⟨hc, rfl⟩ := vw_len hq
    exact hk c hc
  · match k, hq with
    | 0, hq => cases hq; exact ⟨i0, n0⟩
    | 1, hq => cases hq; exact ⟨i1, n1⟩
    | 2, hq => cases hq; exact ⟨i2, n2⟩
    | 3, hq => cases hq; exact ⟨i3, n3⟩
    | 4, hq => cases hq; exact ⟨i4, n4⟩
    | 5, hq => cases hq; exact ⟨i5, n5⟩
    | 6, hq => cases hq; exact ⟨i6, n6⟩
    | k + 7, hq => simp [aTys] at hq
  · show scr.slots[j]? = some (.int (Int32.ofInt (xs j).toInt))
    rw [Int32.ofInt_toInt]
    exact hval j hj
