/-! arraycopy between rows of longs; new int[7][65] -/
def uC (I : aIF) (k i k2 i2 sp dp m : Nat) : aIF := fun a b c => if a = k2 ∧ b = i2 then (if dp ≤ c ∧ c < dp + m then I k i (sp + (c - dp)) else I a b c) else I a b c
section AMC
variable {w : aW} {M : aM} {pc pc' : Nat} {L : List (Option aV)} {st : List aV} {n0 n : Nat} {I : aIF} {R : aRF} {Q : aQ}
theorem aCopyL {k i k2 i2 idx sp dp m9 : Nat} {x y z : Int} (hd : decode M.2.1 pc = .ok (.invokestatic idx, 3)) (h1 : Cond.methodLink M.1.cls idx arraycopyName ∈ aTb) (h2 : Cond.native arraycopyName ∈ aTb) (h3 : Cond.static arraycopyName ∈ aTb) (h4 : Cond.initialized "java/lang/System" ∈ aTb)
    (hk : kArr k 1 = true) (hk2 : kArr k2 1 = true) (hl : aLv n k i) (hl2 : aLv n k2 i2) (hx : x = (sp : Int)) (hy : y = (dp : Int)) (hz : z = (m9 : Int)) (b1 : sp + m9 ≤ kLen k) (b2 : dp + m9 ≤ kLen k2) (hfr : 1 ≤ M.2.2.2.2.frames) (h8 : (st.map aCat).sum + (nativeFrameWords "java/lang/System" "arraycopy" 5 + 11) ≤ M.2.2.2.2.locals) (hp : pc + 3 = pc') (kk : aRun w M pc' L st n0 n (uC I k i k2 i2 sp dp m9) R Q) : aRun w M pc L (aI z :: aI y :: aO k2 i2 :: aI x :: aO k i :: st) n0 n I R Q := by
  subst hp
  intro p e s m args below meth c9 H locs ls C hR hlo hls hoL hos hn hsz
  obtain ⟨hx9, hb9, hr, hml, hown, hts, hlk, hin, hK, -⟩ := id C
  have oz : i32 z := aOkS_hd hos
  have oy : i32 y := aOkS_hd (aOkS_tl hos)
  have ox : i32 x := aOkS_hd (aOkS_tl (aOkS_tl (aOkS_tl hos)))
  have nz : (Int32.ofInt z).toNatClampNeg = m9 := by rw [of32_tn oz, hz]; rfl
  have ny : (Int32.ofInt y).toNatClampNeg = dp := by rw [of32_tn oy, hy]; rfl
  have nx : (Int32.ofInt x).toNatClampNeg = sp := by rw [of32_tn ox, hx]; rfl
  have pos : ∀ q : Int, i32 q → 0 ≤ q → ¬ Int32.ofInt q < 0 := fun q hq h0 => by
    rw [show (0 : Int32) = Int32.ofInt 0 from rfl, of32_lt hq i32_0]
    omega
  have hc0 : H[aAd w (k, i)]? = some (vp_cell (aw_C w 1) (kLen k, .inr (.inl (fun j => Int64.ofInt (I k i j))))) := aAtA hR hl hk
  have hc1 : H[aAd w (k2, i2)]? = some (vp_cell (aw_C w 1) (kLen k2, .inr (.inl (fun j => Int64.ofInt (I k2 i2 j))))) := aAtA hR hl2 hk2
  intro T hT X
  obtain ⟨-, k0, hk0, cm0, hkk0⟩ := (hK.1.2 1 _ rfl).1 (kLen k) (fun j => .long (Int64.ofInt (I k i j)))
  obtain ⟨vm', X', step⟩ := X.arraycopy hx9 hown (hts _ h1) (hts _ h2) (hts _ h3) (hts _ h4) (src := aAd w (k, i)) (dst := aAd w (k2, i2)) (cs := vp_cell (aw_C w 1) (kLen k, .inr (.inl (fun j => Int64.ofInt (I k i j))))) (cd := vp_cell (aw_C w 1) (kLen k2, .inr (.inl (fun j => Int64.ofInt (I k2 i2 j))))) (srcPos := Int32.ofInt x) (destPos := Int32.ofInt y) (n := Int32.ofInt z) (by rw [hT]; exact hc0) (by rw [hT]; exact hc1)
    (fun _ h => by cases h) (fun _ h => by cases h) (fun h => by cases h) (fun h => by cases h) hk0 hk0 hkk0 hkk0 (by simp [refKind]) (pos x ox (by omega)) (pos y oy (by omega)) (pos z oz (by omega))
    (by rw [i32_ti ox, i32_ti oz]; show ¬ _ > ((arrV (aw_C w 1) (kLen k) (fun j => .long (Int64.ofInt (I k i j)))).slots.size : Int); rw [arrV_size]; omega)
    (by rw [i32_ti oy, i32_ti oz]; show ¬ _ > ((arrV (aw_C w 1) (kLen k2) (fun j => .long (Int64.ofInt (I k2 i2 j)))).slots.size : Int); rw [arrV_size]; omega)
    (fun vm₁ _ q hq => by
      have e : (vp_cell (aw_C w 1) (kLen k, .inr (.inl (fun j => Int64.ofInt (I k i j))))).slots.getD ((Int32.ofInt x).toNatClampNeg + q) .null = .long (Int64.ofInt (I k i ((Int32.ofInt x).toNatClampNeg + q))) := by
        show (arrV (aw_C w 1) (kLen k) (fun j => .long (Int64.ofInt (I k i j)))).slots.getD _ _ = _
        rw [Array.getD_eq_getD_getElem?, arrV_read _ _ (by rw [nx]; rw [nz] at hq; omega)]
        rfl
      refine ⟨?_, ?_⟩
      · rw [e]
        rfl
      · rw [e]
        exact trivial)
    (g := F0 m pc ls (.int (Int32.ofInt z) :: .int (Int32.ofInt y) :: .ref (aAd w (k2, i2)) :: .int (Int32.ofInt x) :: .ref (aAd w (k, i)) :: st.map (aDen w))) rfl (by rw [hml]; exact hls.1) (rest := st.map (aDen w)) rfl (by rw [hb9]; exact hd) hfr (by show 2 * 0 + _ + _ ≤ _; rw [List.map_map, show ((fun v => Value.category v) ∘ aDen w) = aCat from funext (aDen_cat w)]; omega)
  have e1 : copied (vp_cell (aw_C w 1) (kLen k, .inr (.inl (fun j => Int64.ofInt (I k i j))))) (vp_cell (aw_C w 1) (kLen k2, .inr (.inl (fun j => Int64.ofInt (I k2 i2 j))))) (Int32.ofInt x) (Int32.ofInt y) (Int32.ofInt z) = vp_cell (aw_C w 1) (kLen k2, .inr (.inl (va_cpy (fun j => Int64.ofInt (I k i j)) (fun j => Int64.ofInt (I k2 i2 j)) (Int32.ofInt x).toNatClampNeg (Int32.ofInt y).toNatClampNeg (Int32.ofInt z).toNatClampNeg))) := va_copied (n0 := kLen k) (n1 := kLen k2) (sp := (Int32.ofInt x).toNatClampNeg) (dp := (Int32.ofInt y).toNatClampNeg) (n := (Int32.ofInt z).toNatClampNeg) (fun z => .long z) (aw_C w 1) (aw_C w 1) (fun j => Int64.ofInt (I k i j)) (fun j => Int64.ofInt (I k2 i2 j)) (by rw [nx, nz]; exact b1)
  rw [e1] at X' step
  have hl9 : aAd w (k2, i2) < H.size := (Array.getElem?_eq_some_iff.mp hc1).1
  rw [nx, ny, nz] at X' step
  have hcell : aCell w (uC I k i k2 i2 sp dp m9) R k2 i2 = .inl (aw_C w 1, kLen k2, .inr (.inl (va_cpy (fun j => Int64.ofInt (I k i j)) (fun j => Int64.ofInt (I k2 i2 j)) sp dp m9))) := by
    rw [aCell, if_neg (by rw [(kArr_of hk2).1]; omega), (kArr_of hk2).2]
    have : (fun j => Int64.ofInt (uC I k i k2 i2 sp dp m9 k2 i2 j)) = va_cpy (fun j => Int64.ofInt (I k i j)) (fun j => Int64.ofInt (I k2 i2 j)) sp dp m9 := by
      funext q
      simp only [uC, va_cpy, and_self, if_true]
      split <;> rfl
    show Sum.inl (aw_C w 1, kLen k2, Sum.inr (Sum.inl (fun j => Int64.ofInt (uC I k i k2 i2 sp dp m9 k2 i2 j)))) = _
    rw [this]
  have hok : aOkI (uC I k i k2 i2 sp dp m9) := fun a b c => by
    simp only [uC]
    by_cases e : a = k2 ∧ b = i2
    · rw [if_pos e]
      obtain ⟨rfl, rfl⟩ := e
      rw [if_pos (kArr_of hk2)]
      split
      · exact aOk_lng hR.2.2.1 hk
      · exact aOk_lng hR.2.2.1 hk2
    · rw [if_neg e]
      exact hR.2.2.1 a b c
  have hR1 : aRep w n (uC I k i k2 i2 sp dp m9) R ((T.setVm vm').setCell (aAd w (k2, i2)) (vp_cell (aw_C w 1) (kLen k2, .inr (.inl (va_cpy (fun j => Int64.ofInt (I k i j)) (fun j => Int64.ofInt (I k2 i2 j)) sp dp m9))))).heap := by
    have hheap : ((T.setVm vm').setCell (aAd w (k2, i2)) (vp_cell (aw_C w 1) (kLen k2, .inr (.inl (va_cpy (fun j => Int64.ofInt (I k i j)) (fun j => Int64.ofInt (I k2 i2 j)) sp dp m9))))).heap = H.setIfInBounds (aAd w (k2, i2)) (vp_cell (aw_C w 1) (kLen k2, .inr (.inl (va_cpy (fun j => Int64.ofInt (I k i j)) (fun j => Int64.ofInt (I k2 i2 j)) sp dp m9)))) := by rw [← hT]; rfl
    rw [hheap]
    refine aRep_put hR hl2 (by simp) (fun q hq => by simp [Array.getElem?_setIfInBounds, Ne.symm hq]) ?_ (fun a b h j => by simp only [uC]; rw [if_neg h]) (fun _ _ _ _ => rfl) hok
    rw [hcell]
    show (H.setIfInBounds _ _)[_]? = some _
    simp [Array.getElem?_setIfInBounds, hl9]
  obtain ⟨t, a1, b9⟩ := kk p e s m args below meth c9 _ _ ls C hR1 (fun q hq => by
    rcases List.mem_append.mp hq with h | h
    · exact hlo q h
    · obtain ⟨z, -, hz⟩ := List.mem_map.mp h
      rw [← hz, aAd_at hl2]
      exact Nat.le_add_right _ _) hls hoL (aOkS_tl (aOkS_tl (aOkS_tl (aOkS_tl (aOkS_tl hos))))) hn hsz _ rfl X'
  exact ⟨t, step t a1, b9⟩
end AMC
/-- the rows of the dealer's table -/
def uG (R : aRF) : aRF := fun a b c => if a = 19 ∧ b = 0 ∧ c < 7 then some (20, c) else R a b c
theorem aOut (c : ClassId) (N h0 : Nat) : ∀ i : Nat, Jvm.Free.Multi.outerC c N h0 i = arrV c N (fun j => va_rf (if j < i then some (h0 + 1 + j) else none))
  | 0 => by
    show ({ cls := c, slots := Array.replicate N .null, vm := .none } : Cell) = _
    rw [arrV_new]
    refine congrArg (arrV c N) (funext fun j => ?_)
    simp [va_rf]
  | i + 1 => by
    show (Jvm.Free.Multi.outerC c N h0 i).setSlot i (.ref (h0 + 1 + i)) = _
    rw [aOut c N h0 i, arrV_store]
    refine congrArg (arrV c N) (funext fun j => ?_)
    by_cases e : j = i
    · subst e
      simp [updV, va_rf]
    · by_cases h : j < i
      · simp [updV, e, h, Nat.lt_succ_of_lt h]
      · simp [updV, e, h, show ¬ j < i + 1 by omega]
theorem aPos7 : ∀ j, j < 7 → aPos[40 + j]? = some (20, j) := by decide +kernel
theorem aPl7 : ∀ j, j < 7 → aPl 20 j = 40 + j ∧ j < kCnt 20 := by decide +kernel
theorem aMna {w : aW} {M : aM} {pc pc' : Nat} {L : List (Option aV)} {st : List aV} {n0 : Nat} {I : aIF} {R : aRF} {Q : aQ} {idx : Nat} (hd : decode M.2.1 pc = .ok (.multianewarray idx 2, 4)) (hcl : Cond.classLink M.1.cls idx "[[I" ∈ aTb) (har : Cond.arrayClass .int ∈ aTb) (hI : ∀ i j, I 20 i j = 0) (hR0 : ∀ j, R 19 0 j = none) (hc1 : 39 + 8 ≤ n0 + M.2.2.2.2.cells) (hs2 : aSz 39 + 462 ≤ aSz n0 + M.2.2.2.2.slots) (hp : pc + 4 = pc') (kk : aRun w M pc' L (aO 19 0 :: st) n0 47 I (uG R) Q) : aRun w M pc L (aI 65 :: aI 7 :: st) n0 39 I R Q := by
  subst hp
  intro p e s m args below meth c9 H locs ls C hR hlo hls hoL hos hn hsz
  obtain ⟨hx9, hb9, hr, hml, hown, hts, hlk, hin, hK, -⟩ := id C
  have hs1 : aSz 47 = aSz 39 + 462 := by decide +kernel
  have n7 : (Int32.ofInt 7).toNatClampNeg = 7 := by decide +kernel
  have n65 : (Int32.ofInt 65).toNatClampNeg = 65 := by decide +kernel
  have p7 : ¬ Int32.ofInt 7 < 0 := by decide +kernel
  have p65 : ¬ Int32.ofInt 65 < 0 := by decide +kernel
  intro T hT X
  have hov : (Cond.arrayOver (.array .int)).before args s = true := hK.2.2.2.1
  obtain ⟨vm₁, cA, comp, -, fA, fC, hO, -, X', step⟩ := X.multianewarray2F hx9 hown (ty := .int) (index := idx) (hts _ hcl) hov (hts _ har) (g := F0 m pc ls (.int (Int32.ofInt 65) :: .int (Int32.ofInt 7) :: st.map (aDen w))) rfl (by rw [hb9]; exact hd) rfl p7 p65 (by rw [n7]; omega) (by rw [n65]; decide) (by rw [n65]; omega) rfl rfl (by rw [n7]; omega) (by rw [n7, n65]; omega)
  rw [n7, n65] at X' step
  have eA : cA = aw_C w 6 := Option.some.inj (fA.symm.trans (hK.1.2 6 _ rfl).2)
  have eC : comp = aw_C w 0 := Option.some.inj (fC.symm.trans (hK.1.2 0 _ rfl).2)
  subst eA
  subst eC
  generalize hF : Jvm.Free.Multi.fill (T.setVm vm₁) (aw_C w 6) (aw_C w 0) 7 65 (defaultValue .int) 7 = F at X' step
  have hTh : (T.setVm vm₁).heap = H := hT
  obtain ⟨f1, f2, -, -⟩ := Jvm.Free.Multi.fill_facts (T.setVm vm₁) (aw_C w 6) (aw_C w 0) 7 65 (defaultValue .int) 7
  rw [hF, hTh] at f1 f2
  have hold : ∀ x : Nat, x < H.size → F.heap[x]? = H[x]? := fun x hx => by
    have := Jvm.Free.Multi.fill_old (T.setVm vm₁) (aw_C w 6) (aw_C w 0) 7 65 (defaultValue .int) (a := x) (by rw [hTh]; exact hx) 7
    rw [hF, hTh] at this
    exact this
  have hrow : ∀ j : Nat, j < 7 → F.heap[H.size + 1 + j]? = some (arrV (aw_C w 0) 65 (fun _ => .int 0)) := fun j hj => by
    have := Jvm.Free.Multi.fill_inner (T.setVm vm₁) (aw_C w 6) (aw_C w 0) 7 65 (defaultValue .int) 7 j hj
    rw [hF, hTh] at this
    rw [this]
    show some ({ cls := _, slots := Array.replicate 65 (defaultValue .int), vm := .none } : Cell) = _
    rw [arrV_new]
    rfl
  rw [aOut] at f2
  obtain ⟨a1, a2, a3, a4, a5⟩ := id hR
  have hR1 : aRep w 47 I (uG R) F.heap := by
    refine ⟨by rw [f1, a1], fun k2 i2 hl2 => ?_, a3, by rw [hold _ (by omega)]; exact a4, a5⟩
    have hp2 := hl2.2
    have hq := aPos_at hl2.1
    have had : aAd w (k2, i2) = aw_B w + aPl k2 i2 := aAd_at hl2
    by_cases h39 : aPl k2 i2 < 39
    · have hl : aLv 39 k2 i2 := ⟨hl2.1, h39⟩
      have hne : ∀ j, uG R k2 i2 j = R k2 i2 j := fun j => by
        unfold uG
        rw [if_neg]
        rintro ⟨rfl, rfl, -⟩
        exact absurd h39 (by decide)
      rw [aCell_congr (fun _ => rfl) hne]
      refine (a2 k2 i2 hl).kept (hold _ ?_)
      show aAd w (k2, i2) < H.size
      omega
    · by_cases e39 : aPl k2 i2 = 39
      · rw [e39] at hq
        cases hq
        rw [show aCell w I (uG R) 19 0 = .inl (aw_C w 6, 7, .inr (.inr (.inr (.inr (fun j => (uG R 19 0 j).map (aAd w)))))) from rfl]
        show F.heap[aAd w (19, 0)]? = some (arrV (aw_C w 6) 7 (fun j => va_rf ((uG R 19 0 j).map (aAd w))))
        rw [had, e39, ← a1, f2]
        congr 2
        funext j
        by_cases hj : j < 7
        · simp only [uG, hj, and_self, if_true, Option.map_some]
          congr 2
          have hz : aPl 20 j = 40 + j := (aPl7 j hj).1
          rw [show aAd w (20, j) = aw_B w + aPl 20 j from if_neg (show ¬ (20 = 0) by decide), hz, a1]
          omega
        · simp only [uG, hj, and_false, if_false, hR0]
          rfl
      · obtain ⟨j, hj, ej⟩ : ∃ j, j < 7 ∧ aPl k2 i2 = 40 + j := ⟨aPl k2 i2 - 40, by omega, by omega⟩
        rw [ej, aPos7 j hj] at hq
        have hq2 := Option.some.inj hq
        have q1 : k2 = 20 := (congrArg Prod.fst hq2).symm
        have q2 : i2 = j := (congrArg Prod.snd hq2).symm
        subst q1
        subst q2
        rw [show aCell w I (uG R) 20 i2 = .inl (aw_C w 0, 65, .inl (fun q => Int32.ofInt (I 20 i2 q))) from rfl]
        show F.heap[aAd w (20, i2)]? = some (arrV (aw_C w 0) 65 (fun q => .int (Int32.ofInt (I 20 i2 q))))
        rw [had, ej, show aw_B w + (40 + i2) = H.size + 1 + i2 by omega, hrow i2 hj]
        simp only [hI]
        rfl
  obtain ⟨t, b1, b2⟩ := kk p e s m args below meth c9 F.heap locs ls C hR1 hlo hls hoL (aOkS_cons trivial (aOkS_tl (aOkS_tl hos))) (by omega) (by omega) F rfl (by
    rw [show 47 - n0 = 39 - n0 + 1 + 7 by omega, show aSz 47 - aSz n0 = aSz 39 - aSz n0 + 7 + 7 * 65 by omega]
    exact X')
  refine ⟨t, step t ?_, b2⟩
  have e9 : (aO 19 0 :: st).map (aDen w) = Value.ref T.heap.size :: st.map (aDen w) := by
    show Value.ref (aAd w (19, 0)) :: _ = _
    rw [show aAd w (19, 0) = aw_B w + 39 from rfl, hT, a1]
  rw [e9] at b1
  exact b1
