/-! what the constructors need: new cells, arrays, calls of <init>; arraycopy; the script -/
section AMN
variable {w : aW} {M : aM} {pc pc' : Nat} {L : List (Option aV)} {st : List aV} {n0 n : Nat} {I : aIF} {R : aRF} {Q : aQ}
theorem aObjInit {k i idx : Nat} (hd : decode M.2.1 pc = .ok (.invokespecial idx, 3)) (h1 : Cond.methodLink M.1.cls idx Lib.objectInit ∈ aTb) (h2 : Cond.instanceMethod Lib.objectInit ∈ aTb) (h3 : Cond.code Lib.objectInit ⟨#[0xb1]⟩ 1 none ∈ aTb) (hfr : 1 ≤ M.2.2.2.2.frames) (h8 : (st.map aCat).sum + 12 ≤ M.2.2.2.2.locals) (hp : pc + 3 = pc') (kk : aRun w M pc' L st n0 n I R Q) : aRun w M pc L (aO k i :: st) n0 n I R Q := by
  subst hp
  intro p e s m args below meth c9 H locs ls C hR hlo hls hoL hos hn hsz
  obtain ⟨hx, hb, hr, hml, hown, hts, hlk, hin, hK, -⟩ := id C
  refine W.objInit hx hb hown (hts _ h1) (hts _ h2) (hts _ h3) rfl (by rw [hml]; exact hls.1) rfl hd hfr ?_ (kk p e s m args below meth c9 H locs ls C hR hlo hls hoL (aOkS_tl hos) hn hsz)
  show 2 * 0 + _ + 12 ≤ _
  rw [List.map_map, show ((fun v => Value.category v) ∘ aDen w) = aCat from funext (aDen_cat w)]
  omega
theorem aRep_push {k i : Nat} {H H' : Heap} (h : aRep w n I R H) (hk : i < kCnt k) (hpl : aPl k i = n) (hz : H'.size = H.size + 1) (ho : ∀ q, q < H.size → H'[q]? = H[q]?) (hc : va_at (aw_D w) vwCl (aAd w (k, i), aCell w I R k i) H') : aRep w (n + 1) I R H' := by
  obtain ⟨a1, a2, a3, a4, a5⟩ := h
  refine ⟨by omega, fun k2 i2 hl2 => ?_, a3, by rw [ho _ (by omega)]; exact a4, a5⟩
  by_cases e : aPl k2 i2 = n
  · obtain ⟨rfl, rfl⟩ := aPl_inj hl2.1 hk (e.trans hpl.symm)
    exact hc
  · have hl : aLv n k2 i2 := ⟨hl2.1, by have := hl2.2; omega⟩
    refine (a2 k2 i2 hl).kept (ho _ ?_)
    show aAd w (k2, i2) < H.size
    rw [aAd_at hl, a1]
    have := hl.2
    omega
theorem aAd_new {k i : Nat} {H : Heap} (h : aRep w n I R H) (hk : i < kCnt k) (hpl : aPl k i = n) : aAd w (k, i) = H.size := by
  rw [aAd_at (n := n + 1) ⟨hk, by omega⟩, hpl, h.1]
theorem aNew {k i c idx : Nat} (hd : decode M.2.1 pc = .ok (.new idx, 3)) (hc : c < 11) (hk : kObj k c = true) (hcl : Cond.classLink M.1.cls idx (aNm c) ∈ aTb) (hins : Cond.instantiable (aNm c) (aNf c) ∈ aTb) (hini : Cond.initialized (aNm c) ∈ aTb) (hi : i < kCnt k) (hpl : aPl k i = n) (hI : ∀ j, I k i j = 0) (hRn : ∀ j, R k i j = none) (hc1 : n + 1 ≤ n0 + M.2.2.2.2.cells) (hs1 : aSz (n + 1) = aSz n + aNf c) (hs2 : aSz n + aNf c ≤ aSz n0 + M.2.2.2.2.slots) (hp : pc + 3 = pc') (kk : aRun w M pc' L (aO k i :: st) n0 (n + 1) I R Q) : aRun w M pc L st n0 n I R Q := by
  subst hp
  intro p e s m args below meth c9 H locs ls C hR hlo hls hoL hos hn hsz
  obtain ⟨hx, hb, hr, hml, hown, hts, hlk, hin, hK, -⟩ := id C
  have hcl2 := aCl c hc
  have hKn := hK.1.1 c _ hcl2
  refine W.newcK hx hb hown (hts _ hcl) (hts _ hins) (hts _ hini) rfl hd (by omega) (by omega) hKn.2.1 rfl fun H1 kC hkC e1 z1 o1 => ?_
  have hR1 : aRep w (n + 1) I R H1 := by
    refine aRep_push hR hi hpl z1 o1 ?_
    rw [aAd_new hR hi hpl, show aCell w I R k i = .inr (c, aFs w I R c k i) by rw [aCell, if_pos (kObj_of hk).1, (kObj_of hk).2]]
    refine ⟨_, hcl2, (u_born (aTy c) hts (aIn c hc) hKn hkC e1 (aTy_ok c hc)).to (fun j hj => ?_)⟩
    have hj : j < aNf c := hj
    show defaultValue (aTy c j) = (aFs w I R c k i).getD j .null
    rw [List.getD_eq_getElem?_getD, aFs_get hj]
    show defaultValue (aTy c j) = aFv w I R (aTy c j) k i j
    have hd3 : ∀ c, c < 11 → ∀ j, j < aNf c → aTy c j = .int ∨ aTy c j = .boolean ∨ (defaultValue (aTy c j) = .null ∧ aTc c j = 2) := by decide +kernel
    rcases hd3 c hc j hj with h | h | ⟨h, h2⟩
    · rw [h]; show _ = Value.int (Int32.ofInt (I k i j)); rw [hI]; rfl
    · rw [h]; show _ = Value.int (Int32.ofInt (I k i j)); rw [hI]; rfl
    · rw [h, aFv_r h2, hRn]; rfl
  have k9 := kk p e s m args below meth c9 H1 locs ls C hR1 hlo hls hoL (aOkS_cons trivial hos) (by omega) (by omega)
  rw [show n + 1 - n0 = n - n0 + 1 by omega, show aSz (n + 1) - aSz n0 = aSz n - aSz n0 + aNf c by omega] at k9
  rw [show (aO k i :: st).map (aDen w) = Value.ref H.size :: st.map (aDen w) by rw [← aAd_new hR hi hpl]; rfl] at k9
  exact k9
theorem aNewa {k i t : Nat} {x : Int} {at9 : ArrayType} (hd : decode M.2.1 pc = .ok (.newarray at9, 2)) (ht : (at9 = .int ∧ t = 0) ∨ (at9 = .long ∧ t = 1) ∨ (at9 = .boolean ∧ t = 2)) (harr : Cond.arrayClass (newarray.typeOf at9) ∈ aTb) (hk : kArr k t = true) (hx : x = (kLen k : Int)) (hi : i < kCnt k) (hpl : aPl k i = n) (hI : ∀ j, I k i j = 0) (hc1 : n + 1 ≤ n0 + M.2.2.2.2.cells) (hs1 : aSz (n + 1) = aSz n + kLen k) (hs2 : aSz n + kLen k ≤ aSz n0 + M.2.2.2.2.slots) (hb : kLen k ≤ 100000) (hp : pc + 2 = pc') (kk : aRun w M pc' L (aO k i :: st) n0 (n + 1) I R Q) : aRun w M pc L (aI x :: st) n0 n I R Q := by
  subst hp
  intro p e s m args below meth c9 H locs ls C hR hlo hls hoL hos hn hsz
  obtain ⟨hx9, hb9, hr, hml, hown, hts, hlk, hin, hK, -⟩ := id C
  have hx32 : i32 x := aOkS_hd hos
  have hN : (Int32.ofInt x).toNatClampNeg = kLen k := by rw [of32_tn hx32, hx]; rfl
  have h0 : ¬ Int32.ofInt x < 0 := by
    rw [show (0 : Int32) = Int32.ofInt 0 from rfl, of32_lt hx32 i32_0]
    omega
  have hcb : componentBytes (newarray.typeOf at9) ≤ 8 := by
    rcases ht with ⟨rfl, -⟩ | ⟨rfl, -⟩ | ⟨rfl, -⟩ <;> decide
  have hbb : kLen k * componentBytes (newarray.typeOf at9) ≤ 536870912 := by
    have := Nat.mul_le_mul hb hcb
    omega
  refine va_newaK hx9 hb9 (hts _ harr) rfl hd rfl h0 hN hbb (by omega) (by omega) rfl fun H1 cA e1 z1 o1 hAr hNm => ?_
  have hR1 : aRep w (n + 1) I R H1 := by
    refine aRep_push hR hi hpl z1 o1 ?_
    rw [aAd_new hR hi hpl, show aCell w I R k i = .inl (aw_C w t, kLen k, aAr w I R t k i) by rw [aCell, if_neg (by rw [(kArr_of hk).1]; omega), (kArr_of hk).2]]
    show H1[H.size]? = some (vp_cell (aw_C w t) (kLen k, aAr w I R t k i))
    rw [e1]
    rcases ht with ⟨rfl, rfl⟩ | ⟨rfl, rfl⟩ | ⟨rfl, rfl⟩
    · have hC : cA = aw_C w 0 := Option.some.inj (hNm.symm.trans (hK.1.2 0 _ rfl).2)
      rw [hC]
      show _ = some (arrV (aw_C w 0) (kLen k) (fun j => .int (Int32.ofInt (I k i j))))
      simp only [hI]
      rfl
    · have hC : cA = aw_C w 1 := Option.some.inj (hNm.symm.trans (hK.1.2 1 _ rfl).2)
      rw [hC]
      show _ = some (arrV (aw_C w 1) (kLen k) (fun j => .long (Int64.ofInt (I k i j))))
      simp only [hI]
      rfl
    · have hC : cA = aw_C w 2 := Option.some.inj (hNm.symm.trans (hK.1.2 2 _ rfl).2)
      rw [hC]
      show _ = some (arrV (aw_C w 2) (kLen k) (fun j => .int (Int32.ofInt (I k i j))))
      simp only [hI]
      rfl
  have k9 := kk p e s m args below meth c9 H1 locs ls C hR1 hlo hls hoL (aOkS_cons trivial (aOkS_tl hos)) (by omega) (by omega)
  rw [show n + 1 - n0 = n - n0 + 1 by omega, show aSz (n + 1) - aSz n0 = aSz n - aSz n0 + kLen k by omega] at k9
  rw [show (aO k i :: st).map (aDen w) = Value.ref H.size :: st.map (aDen w) by rw [← aAd_new hR hi hpl]; rfl] at k9
  exact k9
theorem aAnew {k i t idx : Nat} {x : Int} {C9 : String} (hd : decode M.2.1 pc = .ok (.anewarray idx, 3)) (ht : 3 ≤ t ∧ t ≤ 5) (hC9 : aRt t = .object C9) (hcl : Cond.classLink M.1.cls idx C9 ∈ aTb) (hover : Cond.arrayOver (.object C9) ∈ lw_tbl) (hk : kArr k t = true) (hx : x = (kLen k : Int)) (hi : i < kCnt k) (hpl : aPl k i = n) (hRn : ∀ j, R k i j = none) (hc1 : n + 1 ≤ n0 + M.2.2.2.2.cells) (hs1 : aSz (n + 1) = aSz n + kLen k) (hs2 : aSz n + kLen k ≤ aSz n0 + M.2.2.2.2.slots) (hb : kLen k ≤ 100000) (hp : pc + 3 = pc') (kk : aRun w M pc' L (aO k i :: st) n0 (n + 1) I R Q) : aRun w M pc L (aI x :: st) n0 n I R Q := by
  subst hp
  intro p e s m args below meth c9 H locs ls C hR hlo hls hoL hos hn hsz
  obtain ⟨hx9, hb9, hr, hml, hown, hts, hlk, hin, hK, -⟩ := id C
  have hx32 : i32 x := aOkS_hd hos
  have hN : (Int32.ofInt x).toNatClampNeg = kLen k := by rw [of32_tn hx32, hx]; rfl
  have h0 : ¬ Int32.ofInt x < 0 := by
    rw [show (0 : Int32) = Int32.ofInt 0 from rfl, of32_lt hx32 i32_0]
    omega
  refine W.anew hx9 hb9 hown (hts _ hcl) (va_AO.use (hK.2.2.1 _ hover)) rfl hd rfl h0 (by rw [hN]; omega) (by omega) (by rw [hN]; omega) fun cA kA comp f1 f2 f3 f4 => ?_
  rw [hN]
  generalize hH1 : H.push ({ cls := cA, slots := Array.replicate (kLen k) .null, vm := .none } : Cell) = H1
  have z1 : H1.size = H.size + 1 := by rw [← hH1, Array.size_push]
  have e1 : H1[H.size]? = some (arrV cA (kLen k) (fun _ => .null)) := by rw [← hH1, Array.getElem?_push_size, ← arrV_new]
  have o1 : ∀ q : Nat, q < H.size → H1[q]? = H[q]? := fun q hq => by rw [← hH1, Array.getElem?_push, if_neg (Nat.ne_of_lt hq)]
  have hR1 : aRep w (n + 1) I R H1 := by
    refine aRep_push hR hi hpl z1 o1 ?_
    rw [aAd_new hR hi hpl, show aCell w I R k i = .inl (aw_C w t, kLen k, aAr w I R t k i) by rw [aCell, if_neg (by rw [(kArr_of hk).1]; omega), (kArr_of hk).2]]
    show H1[H.size]? = some (vp_cell (aw_C w t) (kLen k, aAr w I R t k i))
    rw [e1]
    obtain ⟨t1, t2⟩ := ht
    have fin : ∀ t, 3 ≤ t → t ≤ 5 → aRt t = .object C9 → some (arrV cA (kLen k) (fun _ => .null)) = some (vp_cell (aw_C w t) (kLen k, aAr w I R t k i)) := by
      intro t t1 t2 hC9
      match t, t1, t2, hC9 with
      | 3, _, _, hC9 =>
        cases hC9
        obtain ⟨_, _, _, _, _, g⟩ := (hK.1.2 3 _ rfl).2
        rw [show cA = aw_C w 3 from Option.some.inj (f1.symm.trans g)]
        show _ = some (arrV (aw_C w 3) (kLen k) (fun j => va_rf ((R k i j).map (aAd w))))
        simp only [hRn]
        rfl
      | 4, _, _, hC9 =>
        cases hC9
        obtain ⟨_, _, _, _, _, g⟩ := (hK.1.2 4 _ rfl).2
        rw [show cA = aw_C w 4 from Option.some.inj (f1.symm.trans g)]
        show _ = some (arrV (aw_C w 4) (kLen k) (fun j => va_rf ((R k i j).map (aAd w))))
        simp only [hRn]
        rfl
      | 5, _, _, hC9 =>
        cases hC9
        obtain ⟨_, _, _, _, _, g⟩ := (hK.1.2 5 _ rfl).2
        rw [show cA = aw_C w 5 from Option.some.inj (f1.symm.trans g)]
        show _ = some (arrV (aw_C w 5) (kLen k) (fun j => va_rf ((R k i j).map (aAd w))))
        simp only [hRn]
        rfl
    exact fin t t1 t2 hC9
  have k9 := kk p e s m args below meth c9 H1 locs ls C hR1 hlo hls hoL (aOkS_cons trivial (aOkS_tl hos)) (by omega) (by omega)
  rw [show n + 1 - n0 = n - n0 + 1 by omega, show aSz (n + 1) - aSz n0 = aSz n - aSz n0 + kLen k by omega] at k9
  rw [show (aO k i :: st).map (aDen w) = Value.ref H.size :: st.map (aDen w) by rw [← aAd_new hR hi hpl]; rfl] at k9
  exact k9
theorem aAastore {k i t j k2 i2 c : Nat} {x : Int} (hd : decode M.2.1 pc = .ok (.aastore, 1)) (hk : kArr k t = true) (ht : 3 ≤ t ∧ t ≤ 5) (hc : c < 11) (hC9 : aRt t = .object (aNm c)) (hk2 : kObj k2 c = true) (hl : aLv n k i) (hl2 : aLv n k2 i2) (hx : x = (j : Int)) (hj : j < kLen k) (hp : pc + 1 = pc') (kk : aRun w M pc' L st n0 n I (uR R k i j (some (k2, i2))) Q) : aRun w M pc L (aO k2 i2 :: aI x :: aO k i :: st) n0 n I R Q := by
  subst hp
  intro p e s m args below meth c9 H locs ls C hR hlo hls hoL hos hn hsz
  obtain ⟨hx9, hb9, hr, hml, hown, hts, hlk, hin, hK, -⟩ := id C
  obtain ⟨i1, i3⟩ := aIx hx hj (aOkS_hd (aOkS_tl hos))
  have hcell := aAtA hR hl hk
  have e1 : vp_cell (aw_C w t) (kLen k, aAr w I R t k i) = arrV (aw_C w t) (kLen k) (fun j => va_rf ((R k i j).map (aAd w))) := by
    obtain ⟨t1, t2⟩ := ht
    match t, t1, t2 with
    | 3, _, _ => rfl
    | 4, _, _ => rfl
    | 5, _, _ => rfl
  have e9 : ∃ kA comp, s.vm.classes[aw_C w t]? = some kA ∧ kA.kind = .array comp (.object (aNm c)) ∧ s.vm.findClass (aNm c) = some comp := by
    obtain ⟨t1, t2⟩ := ht
    have fin : ∀ t, 3 ≤ t → t ≤ 5 → aRt t = .object (aNm c) → (aTys w)[t]? = some (aw_C w t, .object (aNm c)) := by
      intro t t1 t2 hC9
      match t, t1, t2, hC9 with
      | 3, _, _, hC9 => rw [← hC9]; rfl
      | 4, _, _, hC9 => rw [← hC9]; rfl
      | 5, _, _, hC9 => rw [← hC9]; rfl
    obtain ⟨kA, comp, g1, g2, g3, g4⟩ := (hK.1.2 t _ (fin t t1 t2 hC9)).2
    exact ⟨kA, comp, g1, g2, g3⟩
  obtain ⟨kA, comp, g1, g2, g3⟩ := e9
  have hcl := aCl c hc
  obtain ⟨-, hfc, kC, hkC, hkind⟩ := hK.1.1 c _ hcl
  have ecomp : comp = (aw_D w).1 c := Option.some.inj (g3.symm.trans hfc)
  subst ecomp
  have hcell2 := hR.2.1 k2 i2 hl2
  rw [show aCell w I R k2 i2 = .inr (c, aFs w I R c k2 i2) by rw [aCell, if_pos (kObj_of hk2).1, (kObj_of hk2).2]] at hcell2
  obtain ⟨r, g5, cell, q1, q2, q3, q4⟩ := hcell2
  rw [e1] at hcell
  refine W.aast (v := aAd w (k2, i2)) (cv := cell) (k := kA) (kv := kC) (kcomp := kC) (t := .object (aNm c)) (comp := (aw_D w).1 c) hx9 hb9 hcell (fun q h => by cases h) (fun h => by cases h) g1 g2 rfl hkC ⟨fun h => i1 (Or.inl h), by rw [show (arrV _ _ _).slots.size = kLen k from arrV_size _ _ _]; rw [i3]; exact hj⟩ q1 (fun q h => by rw [q3] at h; cases h) (by rw [q2]; exact hkC) (by rw [q2]; exact va_assign ⟨hfc, kC, hkC, hkind⟩) rfl rfl hd fun H1 f1 f2 f3 => ?_
  rw [i3] at f1 ⊢
  refine kk p e s m args below meth c9 H1 _ ls C (aRep_put (I' := I) hR hl f2 f3 ?_ (fun _ _ _ _ => rfl) (fun _ _ h => uR_ne h) hR.2.2.1) (fun q hq => ?_) hls hoL (aOkS_tl (aOkS_tl (aOkS_tl hos))) hn hsz
  · rw [show aCell w I (uR R k i j (some (k2, i2))) k i = .inl (aw_C w t, kLen k, aAr w I (uR R k i j (some (k2, i2))) t k i) by rw [aCell, if_neg (by rw [(kArr_of hk).1]; omega), (kArr_of hk).2]]
    show H1[_]? = some (vp_cell _ _)
    rw [f1]
    have e2 : vp_cell (aw_C w t) (kLen k, aAr w I (uR R k i j (some (k2, i2))) t k i) = arrV (aw_C w t) (kLen k) (fun q => va_rf ((uR R k i j (some (k2, i2)) k i q).map (aAd w))) := by
      obtain ⟨t1, t2⟩ := ht
      match t, t1, t2 with
      | 3, _, _ => rfl
      | 4, _, _ => rfl
      | 5, _, _ => rfl
    rw [e2, arrV_store]
    congr 2
    funext q
    by_cases h : q = j
    · subst h; simp [uR, updV, va_rf]
    · simp [uR, updV, h]
  · rcases List.mem_append.mp hq with h | h
    · exact hlo q h
    · rw [List.mem_singleton.mp h, aAd_at hl]
      exact Nat.le_add_right _ _
/-- a call of <init> -/
def aIk (own : String) (idx : Nat) (M2 : aM) : Prop := (Cond.methodLink own idx M2.1 ∈ aTb ∧ Cond.instanceMethod M2.1 ∈ aTb ∧ Cond.initialized M2.1.cls ∈ aTb ∧ Cond.code M2.1 M2.2.1 M2.2.2.1 none ∈ aTb) ∧ M2.1.cls ≠ "java/lang/invoke/MethodHandle" ∧ M2.1.cls ≠ "java/lang/invoke/VarHandle"
def aNk (own : String) (idx : Nat) (host : String) (M2 : aM) : Prop := (Cond.methodLinkNest own idx M2.1 host ∈ lw_tbl ∧ Cond.instanceMethod M2.1 ∈ aTb ∧ Cond.initialized M2.1.cls ∈ aTb ∧ Cond.code M2.1 M2.2.1 M2.2.2.1 none ∈ aTb) ∧ M2.1.cls ≠ "java/lang/invoke/MethodHandle" ∧ M2.1.cls ≠ "java/lang/invoke/VarHandle"
theorem aCallI {M2 : aM} {As rest : List aV} {k i idx : Nat} (hd : decode M.2.1 pc = .ok (.invokespecial idx, 3)) (hf : aIk M.1.cls idx M2) (hM2 : M2.1.name = "<init>" ∧ M2.2.2.2.1 = none) (hrm : aRm M M2) (hnp : (parseMethodDescriptor M2.1.desc).map (fun d => d.parameters.length) = some As.length) (h8 : (rest.map aCat).sum ≤ 8) (hc : n + M2.2.2.2.2.cells ≤ n0 + M.2.2.2.2.cells) (hs : aSz n + M2.2.2.2.2.slots ≤ aSz n0 + M.2.2.2.2.slots) (hp : pc + 3 = pc')
    (kk : aMet w M2 (aO k i :: As) n I R (fun r n' I' R' => aRun w M pc' L (r.toList ++ rest) n0 n' I' R' Q)) : aRun w M pc L (As.reverse ++ aO k i :: rest) n0 n I R Q := by
  subst hp
  intro p e s m args below meth c9 H locs ls C hR hlo hls hoL hos hn hsz
  have hor : aOkS rest := fun u hu => hos u (List.mem_append_right _ (List.mem_cons_of_mem _ hu))
  have hoA : aOkS (aO k i :: As) := aOkS_cons trivial (fun u hu => hos u (List.mem_append_left _ (List.mem_reverse.mpr hu)))
  obtain ⟨hx, hb, hr, hml, hown, hts, hlk, hin, hK, -⟩ := id C
  obtain ⟨⟨f1, f2, f4, f5⟩, f6, f7⟩ := hf
  refine aRun_after (M2 := M2) (av := (Value.ref (aAd w (k, i)) :: As.map (aDen w)).toArray) C hlo hls hoL hor hn hsz ?_
  refine va_runI (As := As.map (aDen w)) (b := aAd w (k, i)) (n := As.length) (ws := aWs M2) (Ts := aTb) ⟨hx, hb, hml, hown, hts⟩ kk ⟨callB_of (ws' := aTb) (ret := none) As.length hts (aWs_good (by rw [hM2.2]; exact f5)) (by unfold aWs; rw [hM2.2]) rfl rfl (hts _ f4) (hts _ f1) ⟨f6, f7, hnp⟩ hrm, hM2.1, hts _ f2⟩ ⟨aPc_blind, fun U hU hW => ⟨rfl, hoA, by rw [hU]; exact hR, aKn_warm hW hK⟩⟩ rfl (by rw [List.length_map]) hls.1 (by show (As.reverse ++ aO k i :: rest).map (aDen w) = _; rw [List.map_append, List.map_reverse]; rfl) ?_ hd ⟨by omega, by omega⟩
  show 2 * 0 + _ ≤ 8
  rw [List.map_map, show ((fun v => Value.category v) ∘ aDen w) = aCat from funext (aDen_cat w)]
  omega
theorem aCallN {M2 : aM} {As rest : List aV} {k i idx : Nat} {host : String} (hd : decode M.2.1 pc = .ok (.invokespecial idx, 3)) (hf : aNk M.1.cls idx host M2) (hM2 : M2.1.name = "<init>" ∧ M2.2.2.2.1 = none) (hrm : aRm M M2) (hnp : (parseMethodDescriptor M2.1.desc).map (fun d => d.parameters.length) = some As.length) (h8 : (rest.map aCat).sum ≤ 8) (hc : n + M2.2.2.2.2.cells ≤ n0 + M.2.2.2.2.cells) (hs : aSz n + M2.2.2.2.2.slots ≤ aSz n0 + M.2.2.2.2.slots) (hp : pc + 3 = pc')
    (kk : aMet w M2 (aO k i :: As) n I R (fun r n' I' R' => aRun w M pc' L (r.toList ++ rest) n0 n' I' R' Q)) : aRun w M pc L (As.reverse ++ aO k i :: rest) n0 n I R Q := by
  subst hp
  intro p e s m args below meth c9 H locs ls C hR hlo hls hoL hos hn hsz
  have hor : aOkS rest := fun u hu => hos u (List.mem_append_right _ (List.mem_cons_of_mem _ hu))
  have hoA : aOkS (aO k i :: As) := aOkS_cons trivial (fun u hu => hos u (List.mem_append_left _ (List.mem_reverse.mpr hu)))
  obtain ⟨hx, hb, hr, hml, hown, hts, hlk, hin, hK, -⟩ := id C
  obtain ⟨⟨f1, f2, f4, f5⟩, f6, f7⟩ := hf
  refine aRun_after (M2 := M2) (av := (Value.ref (aAd w (k, i)) :: As.map (aDen w)).toArray) C hlo hls hoL hor hn hsz ?_
  refine va_runIN (host := host) (As := As.map (aDen w)) (b := aAd w (k, i)) (n := As.length) (ws := aWs M2) (Ts := aTb) ⟨hx, hb, hml, hown, hts⟩ kk ⟨va_cnB (ws' := aTb) (ret := none) As.length hts (aWs_good (by rw [hM2.2]; exact f5)) (by unfold aWs; rw [hM2.2]) rfl rfl (hK.2.1 _ _ _ _ f1) (hts _ f4) ⟨f6, f7, hnp⟩ hrm, hM2.1, hts _ f2⟩ ⟨aPc_blind, fun U hU hW => ⟨rfl, hoA, by rw [hU]; exact hR, aKn_warm hW hK⟩⟩ rfl (by rw [List.length_map]) hls.1 (by show (As.reverse ++ aO k i :: rest).map (aDen w) = _; rw [List.map_append, List.map_reverse]; rfl) ?_ hd ⟨by omega, by omega⟩
  show 2 * 0 + _ ≤ 8
  rw [List.map_map, show ((fun v => Value.category v) ∘ aDen w) = aCat from funext (aDen_cat w)]
  omega
/-- the script -/
theorem aSld {j : Nat} {x : Int} (hd : decode M.2.1 pc = .ok (.iaload, 1)) (hx : x = (j : Int)) (hj : j < aw_L w) (hp : pc + 1 = pc') (kk : aRun w M pc' L (aI (aw_xs w j) :: st) n0 n I R Q) : aRun w M pc L (aI x :: aO 0 0 :: st) n0 n I R Q := by
  subst hp
  intro p e s m args below meth c9 H locs ls C hR hlo hls hoL hos hn hsz
  obtain ⟨i1, i2⟩ := aIx hx hj (aOkS_hd hos)
  obtain ⟨-, -, -, -, h5, h6, h7, h8, h9, h10⟩ := C.2.2.2.2.2.2.2.2.1
  refine W.iald (v := .int (Int32.ofInt (aw_xs w j))) C.1 C.2.1 hR.2.2.2.1 h5 h6 (by rw [h7]; exact i1) (by rw [i2]; exact h9 j hj) rfl rfl hd ?_
  exact kk p e s m args below meth c9 H locs ls C hR hlo hls hoL (aOkS_cons (h10 j) (aOkS_tl (aOkS_tl hos))) hn hsz
theorem aSlen (hd : decode M.2.1 pc = .ok (.arraylength, 1)) (hp : pc + 1 = pc') (kk : aRun w M pc' L (aI (aw_L w : Int) :: st) n0 n I R Q) : aRun w M pc L (aO 0 0 :: st) n0 n I R Q := by
  subst hp
  intro p e s m args below meth c9 H locs ls C hR hlo hls hoL hos hn hsz
  obtain ⟨-, -, -, -, h5, h6, h7, h8, h9, h10⟩ := C.2.2.2.2.2.2.2.2.1
  have h32 : i32 (aw_L w : Int) := by unfold i32; omega
  refine W.alen (n := Int32.ofInt (aw_L w : Int)) C.1 C.2.1 hR.2.2.2.1 h5 (by rw [h7]; rfl) rfl rfl hd ?_
  exact kk p e s m args below meth c9 H locs ls C hR hlo hls hoL (aOkS_cons h32 (aOkS_tl hos)) hn hsz
end AMN
