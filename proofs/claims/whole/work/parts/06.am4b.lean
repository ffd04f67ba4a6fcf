/-! fields and arrays -/
def uI (I : aIF) (k i j : Nat) (v : Int) : aIF := fun a b c => if a = k ∧ b = i ∧ c = j then v else I a b c
def uR (R : aRF) (k i j : Nat) (v : Option (Nat × Nat)) : aRF := fun a b c => if a = k ∧ b = i ∧ c = j then v else R a b c
def aTc (c j : Nat) : Nat := match aTy c j with
  | .int => 0
  | .boolean => 1
  | _ => 2
def aFk (own : String) (idx c j : Nat) : Prop := (c < 11 ∧ j < aNf c) ∧ Cond.fieldLink own idx (aTT c j).1 (aTT c j).2.1 (aTT c j).2.2.1 ∈ aTb
/-- an object of class c -/
def kObj (k c : Nat) : Bool := kA k == 0 && kC k == c
/-- an array of type t -/
def kArr (k t : Nat) : Bool := kA k == 1 && kC k == t
theorem kObj_of {k c : Nat} (h : kObj k c = true) : kA k = 0 ∧ kC k = c := by simpa [kObj] using h
theorem kArr_of {k t : Nat} (h : kArr k t = true) : kA k = 1 ∧ kC k = t := by simpa [kArr] using h
theorem aLv_0 {n k i : Nat} (h : aLv n k i) : k ≠ 0 := fun e => by
  subst e
  have h1 := h.1
  rw [kCnt_0] at h1
  omega
theorem aAd_at {w : aW} {n k i : Nat} (h : aLv n k i) : aAd w (k, i) = aw_B w + aPl k i := if_neg (aLv_0 h)
theorem aCell_congr {w : aW} {I I' : aIF} {R R' : aRF} {k i : Nat} (h1 : ∀ j, I' k i j = I k i j) (h2 : ∀ j, R' k i j = R k i j) : aCell w I' R' k i = aCell w I R k i := by
  have e1 : I' k i = I k i := funext h1
  have e2 : R' k i = R k i := funext h2
  simp only [aCell, aFs, aFv, aAr, e1, e2]
theorem uI_ne {I : aIF} {k i j k2 i2 : Nat} {v : Int} (h : ¬ (k2 = k ∧ i2 = i)) (q : Nat) : uI I k i j v k2 i2 q = I k2 i2 q := if_neg (fun z => h ⟨z.1, z.2.1⟩)
theorem uR_ne {R : aRF} {k i j k2 i2 : Nat} {v : Option (Nat × Nat)} (h : ¬ (k2 = k ∧ i2 = i)) (q : Nat) : uR R k i j v k2 i2 q = R k2 i2 q := if_neg (fun z => h ⟨z.1, z.2.1⟩)
theorem aRep_put {w : aW} {n k i : Nat} {I I' : aIF} {R R' : aRF} {H H' : Heap} (h : aRep w n I R H) (hl : aLv n k i) (hz : H'.size = H.size) (ho : ∀ q, q ≠ aAd w (k, i) → H'[q]? = H[q]?) (hc : va_at (aw_D w) vwCl (aAd w (k, i), aCell w I' R' k i) H')
    (h1 : ∀ k2 i2, ¬ (k2 = k ∧ i2 = i) → ∀ j, I' k2 i2 j = I k2 i2 j) (h2 : ∀ k2 i2, ¬ (k2 = k ∧ i2 = i) → ∀ j, R' k2 i2 j = R k2 i2 j) (hok : aOkI I') : aRep w n I' R' H' := by
  obtain ⟨a1, a2, a3, a4, a5⟩ := h
  refine ⟨hz.trans a1, fun k2 i2 hl2 => ?_, hok, ?_, a5⟩
  · by_cases e : k2 = k ∧ i2 = i
    · obtain ⟨rfl, rfl⟩ := e
      exact hc
    · rw [aCell_congr (h1 k2 i2 e) (h2 k2 i2 e)]
      refine (a2 k2 i2 hl2).kept (ho _ (fun q => e ?_))
      have q : aAd w (k2, i2) = aAd w (k, i) := q
      rw [aAd_at hl, aAd_at hl2] at q
      exact aPl_inj hl2.1 hl.1 (by omega)
  · rw [ho _ (fun q => ?_)]
    · exact a4
    · rw [aAd_at hl] at q
      omega
theorem aOkI_put {I : aIF} {k i j : Nat} {v : Int} (h : aOkI I) (hv : if kA k = 1 ∧ kC k = 1 then i64 v else i32 v) : aOkI (uI I k i j v) := fun a b c => by
  by_cases e : a = k ∧ b = i ∧ c = j
  · obtain ⟨rfl, rfl, rfl⟩ := e
    simp only [uI, and_self, if_true]
    exact hv
  · simp only [uI, if_neg e]
    exact h a b c
theorem aFs_get {w : aW} {I : aIF} {R : aRF} {c k i j : Nat} (hj : j < aNf c) : (aFs w I R c k i)[j]? = some (aFv w I R (aTy c j) k i j) := by
  unfold aFs
  rw [List.getElem?_map, List.getElem?_range hj]
  rfl
theorem aFs_set {w : aW} {I I' : aIF} {R R' : aRF} {c k i j : Nat} {v : Value} (hj : j < aNf c) (hv : aFv w I' R' (aTy c j) k i j = v) (h1 : ∀ q, q ≠ j → I' k i q = I k i q) (h2 : ∀ q, q ≠ j → R' k i q = R k i q) : aFs w I' R' c k i = (aFs w I R c k i).set j v := by
  apply List.ext_getElem?
  intro q
  rw [List.getElem?_set]
  by_cases e : j = q
  · subst e
    rw [if_pos rfl, aFs_get hj, hv, if_pos (by unfold aFs; simp [hj])]
  · rw [if_neg e]
    unfold aFs
    rw [List.getElem?_map, List.getElem?_map]
    by_cases hq : q < aNf c
    · rw [List.getElem?_range hq]
      simp only [Option.map_some]
      simp only [aFv, h1 q (Ne.symm e), h2 q (Ne.symm e)]
    · rw [List.getElem?_eq_none (by rw [List.length_range]; omega)]
      rfl
section AMH
variable {w : aW} {M : aM} {pc pc' : Nat} {L : List (Option aV)} {st : List aV} {n0 n : Nat} {I : aIF} {R : aRF} {Q : aQ}
variable {p : Program} {e : Env} {s : State} {m : MethodId} {args : Array Value} {below : List Frame} {meth : Method} {c0 : Code} {H : Heap} {locs : List Loc} {cells slots : Nat} {Z : State → Prop} {ls : Array Slot} {rest : List Value}
theorem aW_get {k i c j idx : Nat} (C : aCtx w M p s m args meth c0) (hR : aRep w n I R H) (hl : aLv n k i) (hk : kObj k c = true) (hf : aFk M.1.cls idx c j) (hd : decode M.2.1 pc = .ok (.getfield idx, 3))
    (kk : W p (aw_l w) e M.2.2.2.2 s m args below meth c0 H locs cells slots Z (F0 m (pc + 3) ls (aFv w I R (aTy c j) k i j :: rest))) : W p (aw_l w) e M.2.2.2.2 s m args below meth c0 H locs cells slots Z (F0 m pc ls (.ref (aAd w (k, i)) :: rest)) := by
  obtain ⟨hx, hb, hr, hml, hown, hts, hlk, hin, hK, -⟩ := C
  obtain ⟨k1, k2⟩ := kObj_of hk
  have hcell := hR.2.1 k i hl
  have e1 : aCell w I R k i = .inr (c, aFs w I R c k i) := by rw [aCell, if_pos k1, k2]
  rw [e1] at hcell
  exact va_get (Ts := aTb) hx hb hts (aIn c hf.1.1) hown hK.1 (ws := [(aAd w (k, i), .inr (c, aFs w I R c k i))]) (fun q x hq => by
    have h0 : q < 1 := (List.getElem?_eq_some_iff.mp hq).1
    rw [show q = 0 by omega] at hq
    cases hq
    exact hcell) 0 rfl (aCl c hf.1.1) j hf.1.2 (hts _ hf.2) (fun _ h => h) (aFs_get hf.1.2) hd kk
theorem aW_put {k i c j idx : Nat} {v : Value} {I' : aIF} {R' : aRF} (C : aCtx w M p s m args meth c0) (hR : aRep w n I R H) (hlo : ∀ q ∈ locs, aw_B w ≤ q.base) (hl : aLv n k i) (hk : kObj k c = true) (hf : aFk M.1.cls idx c j) (hfin : (aTT c j).2.2.2 = false ∨ (M.1.name = "<init>" ∧ (aTT c j).1 = M.1.cls))
    (hnr : narrow (aTy c j) v = v) (hft : fits (aTy c j) v = true) (hfs : aFs w I' R' c k i = (aFs w I R c k i).set j v)
    (h1 : ∀ k2 i2, ¬ (k2 = k ∧ i2 = i) → ∀ j, I' k2 i2 j = I k2 i2 j) (h2 : ∀ k2 i2, ¬ (k2 = k ∧ i2 = i) → ∀ j, R' k2 i2 j = R k2 i2 j) (hok : aOkI I') (hd : decode M.2.1 pc = .ok (.putfield idx, 3))
    (kk : ∀ (H' : Heap) (locs' : List Loc), aRep w n I' R' H' → (∀ q ∈ locs', aw_B w ≤ q.base) → W p (aw_l w) e M.2.2.2.2 s m args below meth c0 H' locs' cells slots Z (F0 m (pc + 3) ls rest)) : W p (aw_l w) e M.2.2.2.2 s m args below meth c0 H locs cells slots Z (F0 m pc ls (v :: .ref (aAd w (k, i)) :: rest)) := by
  obtain ⟨hx, hb, hr, hml, hown, hts, hlk, hin, hK, -⟩ := C
  obtain ⟨k1, k2⟩ := kObj_of hk
  obtain ⟨⟨hc, hj⟩, hlink⟩ := hf
  have hcl := aCl c hc
  have hty := aTy_ok c hc
  have hap := va_apart (own := M.1.cls) hts (aIn c hc) (aTy c) hty (aNn c hc) hK.1 hcl
  have hcell := hR.2.1 k i hl
  have e1 : aCell w I R k i = .inr (c, aFs w I R c k i) := by rw [aCell, if_pos k1, k2]
  have e2 : aCell w I' R' k i = .inr (c, (aFs w I R c k i).set j v) := by rw [aCell, if_pos k1, k2, hfs]
  rw [e1] at hcell
  obtain ⟨r, g1, cell, q1, q2, q3, q4⟩ := hcell
  have hr2 : r = (aNm c, aTT c, aNf c) := Option.some.inj (g1.symm.trans hcl)
  subst hr2
  obtain ⟨hS, hfc, kC, hkC, hkind⟩ := hK.1.1 c _ hcl
  obtain ⟨cf, kf, fi, f, hi, hsl⟩ := hS j hj
  have hst := (u_facts hfc hkC (u_lays hts (aIn c hc) hj) hi).1
  have hB : aw_B w ≤ aAd w (k, i) := by rw [aAd_at hl]; omega
  have fin : ∀ H' : Heap, H'[aAd w (k, i)]? = some (cell.setSlot f.slot v) → H'.size = H.size → (∀ q, q ≠ aAd w (k, i) → H'[q]? = H[q]?) → W p (aw_l w) e M.2.2.2.2 s m args below meth c0 H' (locs ++ [⟨aAd w (k, i), f.slot⟩]) cells slots Z (F0 m (pc + 3) ls rest) := by
    intro H' g3 g4 g5
    rw [hsl] at g3
    refine kk H' _ (aRep_put hR hl g4 g5 ?_ h1 h2 hok) (fun q hq => ?_)
    · rw [e2]
      exact ⟨_, hcl, t_OB.to (V := updV (vp_V (aFs w I R c k i)) j v) ⟨_, g3, q2, q3, t_set q4 hap hj v⟩ (fun q _ => vp_updV_set (by unfold aFs; simp [hj]) v q)⟩
    · rcases List.mem_append.mp hq with h | h
      · exact hlo q h
      · rw [List.mem_singleton.mp h]
        exact hB
  have hlay := hts _ (aIn c hc _ (u_in_lay hj))
  unfold u_lay at hlay
  by_cases hff : (aTT c j).2.2.2 = true
  · rw [if_pos hff] at hlay
    have hin2 : M.1.name = "<init>" ∧ (aTT c j).1 = M.1.cls := by
      rcases hfin with h | h
      · rw [hff] at h; cases h
      · exact h
    have hcf : m.cls = cf := by
      obtain ⟨_, _, c', _, _, _, -, -, hf', -, -, -, hown2, -⟩ := Cond.laysFinal_spec hlay
      have e1 : c' = cf := by have := hi.symm.trans hf'; simp at this; exact this.1.symm
      rw [hin2.2] at hown2
      rw [← e1]; exact Option.some.inj (hown.symm.trans hown2)
    have h6 := u_fits hfc hkC hkind (Or.inr hlay) hi (hty j hj) hnr hft
    exact W.putFinK hx hb hown (hts _ hlink) hi hst hcf (hin hin2.1) (by rw [q2]; exact h6) q1 q3 (by rw [hsl]; exact k2_hasslot (q4 j hj)) rfl rfl hd fin
  · rw [if_neg hff] at hlay
    have h6 := u_store hfc hkC hkind hlay hi (hty j hj) hnr hft
    exact W.putK hx hb (f := f) ⟨hown, hts _ hlink, ⟨_, _, _, hi⟩, hst⟩ (by rw [q2]; exact h6) q1 q3 (by rw [hsl]; exact k2_hasslot (q4 j hj)) rfl rfl hd fin
theorem aTc_i {c j : Nat} (ht : Nat.ble (aTc c j) 1 = true) : aTy c j = .int ∨ aTy c j = .boolean := by
  unfold aTc at ht
  split at ht
  · rename_i h; exact Or.inl h
  · rename_i h; exact Or.inr h
  · exact absurd ht (by decide)
theorem aTc_0 {c j : Nat} (ht : aTc c j = 0) : aTy c j = .int := by
  unfold aTc at ht
  split at ht
  · rename_i h; exact h
  · cases ht
  · cases ht
theorem aTc_1 {c j : Nat} (ht : aTc c j = 1) : aTy c j = .boolean := by
  unfold aTc at ht
  split at ht
  · cases ht
  · rename_i h; exact h
  · cases ht
theorem aFv_i {k i c j : Nat} (ht : Nat.ble (aTc c j) 1 = true) : aFv w I R (aTy c j) k i j = .int (Int32.ofInt (I k i j)) := by
  rcases aTc_i ht with h | h <;> rw [h] <;> rfl
theorem aFv_r {k i c j : Nat} (ht : aTc c j = 2) : aFv w I R (aTy c j) k i j = va_rf ((R k i j).map (aAd w)) := by
  unfold aTc at ht
  unfold aFv
  split at ht
  · cases ht
  · cases ht
  · rename_i h1 h2
    split
    · rename_i h; exact absurd h h1
    · rename_i h; exact absurd h h2
    · rfl
theorem aOk_obj {k i j c : Nat} (h : aOkI I) (hk : kObj k c = true) : i32 (I k i j) := by
  have := h k i j
  rw [if_neg (fun z => by rw [(kObj_of hk).1] at z; omega)] at this
  exact this
theorem aOk_arr {k i j t : Nat} (h : aOkI I) (hk : kArr k t = true) (ht : t ≠ 1) : i32 (I k i j) := by
  have := h k i j
  rw [if_neg (fun z => by rw [(kArr_of hk).2] at z; omega)] at this
  exact this
theorem aOk_lng {k i j : Nat} (h : aOkI I) (hk : kArr k 1 = true) : i64 (I k i j) := by
  have := h k i j
  rw [if_pos (kArr_of hk)] at this
  exact this
theorem aGetI {k i c j idx : Nat} (hd : decode M.2.1 pc = .ok (.getfield idx, 3)) (hf : aFk M.1.cls idx c j) (ht : Nat.ble (aTc c j) 1 = true) (hk : kObj k c = true) (hl : aLv n k i) (hp : pc + 3 = pc') (kk : aRun w M pc' L (aI (I k i j) :: st) n0 n I R Q) : aRun w M pc L (aO k i :: st) n0 n I R Q := by
  subst hp
  intro p e s m args below meth c9 H locs ls C hR hlo hls hoL hos hn hsz
  refine aW_get C hR hl hk hf hd ?_
  rw [aFv_i ht]
  exact kk p e s m args below meth c9 H locs ls C hR hlo hls hoL (aOkS_cons (aOk_obj hR.2.2.1 hk) (aOkS_tl hos)) hn hsz
theorem aGetR {k i c j idx : Nat} {q : Nat × Nat} (hd : decode M.2.1 pc = .ok (.getfield idx, 3)) (hf : aFk M.1.cls idx c j) (ht : aTc c j = 2) (hk : kObj k c = true) (hl : aLv n k i) (hr : R k i j = some q) (hp : pc + 3 = pc') (kk : aRun w M pc' L (aR (some q) :: st) n0 n I R Q) : aRun w M pc L (aO k i :: st) n0 n I R Q := by
  subst hp
  intro p e s m args below meth c9 H locs ls C hR hlo hls hoL hos hn hsz
  refine aW_get C hR hl hk hf hd ?_
  rw [aFv_r ht, hr]
  exact kk p e s m args below meth c9 H locs ls C hR hlo hls hoL (aOkS_cons trivial (aOkS_tl hos)) hn hsz
theorem nar_b {x : Int} (h : x = 0 ∨ x = 1) : narrow .boolean (.int (Int32.ofInt x)) = .int (Int32.ofInt x) ∧ fits .boolean (.int (Int32.ofInt x)) = true := by
  rcases h with rfl | rfl
  · exact ⟨by decide +kernel, by decide +kernel⟩
  · exact ⟨by decide +kernel, by decide +kernel⟩
theorem aPutI {k i c j idx : Nat} {x : Int} (hd : decode M.2.1 pc = .ok (.putfield idx, 3)) (hf : aFk M.1.cls idx c j) (ht : aTc c j = 0) (hk : kObj k c = true) (hfin : (aTT c j).2.2.2 = false ∨ (M.1.name = "<init>" ∧ (aTT c j).1 = M.1.cls)) (hl : aLv n k i) (hp : pc + 3 = pc') (kk : aRun w M pc' L st n0 n (uI I k i j x) R Q) : aRun w M pc L (aI x :: aO k i :: st) n0 n I R Q := by
  subst hp
  intro p e s m args below meth c9 H locs ls C hR hlo hls hoL hos hn hsz
  have hx : i32 x := aOkS_hd hos
  exact aW_put (I' := uI I k i j x) (R' := R) (v := .int (Int32.ofInt x)) C hR hlo hl hk hf hfin (by rw [aTc_0 ht]; rfl) (by rw [aTc_0 ht]; rfl) (aFs_set hf.1.2 (by rw [aFv_i (by rw [ht]; rfl)]; simp [uI]) (fun q hq => by simp [uI, hq]) (fun _ _ => rfl)) (fun _ _ h => uI_ne h) (fun _ _ _ _ => rfl) (aOkI_put hR.2.2.1 (by rw [if_neg (fun z => by rw [(kObj_of hk).1] at z; omega)]; exact hx)) hd
    (fun H' locs' hR' hlo' => kk p e s m args below meth c9 H' locs' ls C hR' hlo' hls hoL (aOkS_tl (aOkS_tl hos)) hn hsz)
theorem aPutZ {k i c j idx : Nat} {x : Int} (hd : decode M.2.1 pc = .ok (.putfield idx, 3)) (hf : aFk M.1.cls idx c j) (ht : aTc c j = 1) (hk : kObj k c = true) (hfin : (aTT c j).2.2.2 = false ∨ (M.1.name = "<init>" ∧ (aTT c j).1 = M.1.cls)) (hl : aLv n k i) (hx : x = 0 ∨ x = 1) (hp : pc + 3 = pc') (kk : aRun w M pc' L st n0 n (uI I k i j x) R Q) : aRun w M pc L (aI x :: aO k i :: st) n0 n I R Q := by
  subst hp
  intro p e s m args below meth c9 H locs ls C hR hlo hls hoL hos hn hsz
  have hx2 : i32 x := aOkS_hd hos
  exact aW_put (I' := uI I k i j x) (R' := R) (v := .int (Int32.ofInt x)) C hR hlo hl hk hf hfin (by rw [aTc_1 ht]; exact (nar_b hx).1) (by rw [aTc_1 ht]; exact (nar_b hx).2) (aFs_set hf.1.2 (by rw [aFv_i (by rw [ht]; rfl)]; simp [uI]) (fun q hq => by simp [uI, hq]) (fun _ _ => rfl)) (fun _ _ h => uI_ne h) (fun _ _ _ _ => rfl) (aOkI_put hR.2.2.1 (by rw [if_neg (fun z => by rw [(kObj_of hk).1] at z; omega)]; exact hx2)) hd
    (fun H' locs' hR' hlo' => kk p e s m args below meth c9 H' locs' ls C hR' hlo' hls hoL (aOkS_tl (aOkS_tl hos)) hn hsz)
theorem fits_r {ty : FieldType} {a : Option Nat} (h : ty ≠ .int ∧ ty ≠ .boolean ∧ ty ≠ .byte ∧ ty ≠ .char ∧ ty ≠ .short ∧ ty ≠ .long ∧ ty ≠ .float ∧ ty ≠ .double) : narrow ty (va_rf a) = va_rf a ∧ fits ty (va_rf a) = true := by
  cases a <;> cases ty <;> simp at h <;> exact ⟨rfl, rfl⟩
theorem aPutR {k i c j idx : Nat} {q : Nat × Nat} (hd : decode M.2.1 pc = .ok (.putfield idx, 3)) (hf : aFk M.1.cls idx c j) (ht : aTc c j = 2) (ht2 : aTy c j ≠ .int ∧ aTy c j ≠ .boolean ∧ aTy c j ≠ .byte ∧ aTy c j ≠ .char ∧ aTy c j ≠ .short ∧ aTy c j ≠ .long ∧ aTy c j ≠ .float ∧ aTy c j ≠ .double) (hk : kObj k c = true) (hfin : (aTT c j).2.2.2 = false ∨ (M.1.name = "<init>" ∧ (aTT c j).1 = M.1.cls)) (hl : aLv n k i) (hp : pc + 3 = pc') (kk : aRun w M pc' L st n0 n I (uR R k i j (some q)) Q) : aRun w M pc L (aR (some q) :: aO k i :: st) n0 n I R Q := by
  subst hp
  intro p e s m args below meth c9 H locs ls C hR hlo hls hoL hos hn hsz
  exact aW_put (I' := I) (R' := uR R k i j (some q)) (v := va_rf ((some q).map (aAd w))) C hR hlo hl hk hf hfin (fits_r ht2).1 (fits_r ht2).2 (aFs_set hf.1.2 (by rw [aFv_r ht]; simp [uR]) (fun _ _ => rfl) (fun z hz => by simp [uR, hz])) (fun _ _ _ _ => rfl) (fun _ _ h => uR_ne h) hR.2.2.1 hd
    (fun H' locs' hR' hlo' => kk p e s m args below meth c9 H' locs' ls C hR' hlo' hls hoL (aOkS_tl (aOkS_tl hos)) hn hsz)
/-! arrays -/
theorem aAtA {k i t : Nat} {H : Heap} (hR : aRep w n I R H) (hl : aLv n k i) (hk : kArr k t = true) : H[aAd w (k, i)]? = some (vp_cell (aw_C w t) (kLen k, aAr w I R t k i)) := by
  have h := hR.2.1 k i hl
  obtain ⟨k1, k2⟩ := kArr_of hk
  rw [show aCell w I R k i = .inl (aw_C w t, kLen k, aAr w I R t k i) by rw [aCell, if_neg (by omega), k2]] at h
  exact h
theorem aIx {x : Int} {j N : Nat} (hx : x = (j : Int)) (hj : j < N) (h : i32 x) : vp_in (Int32.ofInt x) N ∧ (Int32.ofInt x).toNatClampNeg = j := by
  subst hx
  exact ⟨of32_in h (by omega) (by omega), by rw [of32_tn h]; rfl⟩
theorem aIald {k i j : Nat} {x : Int} (hd : decode M.2.1 pc = .ok (.iaload, 1)) (hk : kArr k 0 = true) (hl : aLv n k i) (hx : x = (j : Int)) (hj : j < kLen k) (hp : pc + 1 = pc') (kk : aRun w M pc' L (aI (I k i j) :: st) n0 n I R Q) : aRun w M pc L (aI x :: aO k i :: st) n0 n I R Q := by
  subst hp
  intro p e s m args below meth c9 H locs ls C hR hlo hls hoL hos hn hsz
  obtain ⟨i1, i2⟩ := aIx hx hj (aOkS_hd hos)
  have k9 := kk p e s m args below meth c9 H locs ls C hR hlo hls hoL (aOkS_cons (aOk_arr (i := i) (j := j) hR.2.2.1 hk (by decide)) (aOkS_tl (aOkS_tl hos))) hn hsz
  refine va_iald (tys := aTys w) (ws := [(aAd w (k, i), .inl (aw_C w 0, kLen k, .inl (fun j => Int32.ofInt (I k i j))))]) C.1 C.2.1 C.2.2.2.2.2.2.2.2.1.1 (fun q y hq => ?_) 0 0 rfl rfl i1 hd ?_
  · have h0 : q < 1 := (List.getElem?_eq_some_iff.mp hq).1
    rw [show q = 0 by omega] at hq
    cases hq
    exact aAtA hR hl hk
  · rw [i2]
    exact k9
theorem aZald {k i j : Nat} {x : Int} (hd : decode M.2.1 pc = .ok (.baload, 1)) (hk : kArr k 2 = true) (hl : aLv n k i) (hx : x = (j : Int)) (hj : j < kLen k) (hp : pc + 1 = pc') (kk : aRun w M pc' L (aI (I k i j) :: st) n0 n I R Q) : aRun w M pc L (aI x :: aO k i :: st) n0 n I R Q := by
  subst hp
  intro p e s m args below meth c9 H locs ls C hR hlo hls hoL hos hn hsz
  obtain ⟨i1, i2⟩ := aIx hx hj (aOkS_hd hos)
  have k9 := kk p e s m args below meth c9 H locs ls C hR hlo hls hoL (aOkS_cons (aOk_arr (i := i) (j := j) hR.2.2.1 hk (by decide)) (aOkS_tl (aOkS_tl hos))) hn hsz
  refine va_zald (tys := aTys w) (ws := [(aAd w (k, i), .inl (aw_C w 2, kLen k, .inl (fun j => Int32.ofInt (I k i j))))]) C.1 C.2.1 C.2.2.2.2.2.2.2.2.1.1 (fun q y hq => ?_) 0 2 rfl rfl i1 hd ?_
  · have h0 : q < 1 := (List.getElem?_eq_some_iff.mp hq).1
    rw [show q = 0 by omega] at hq
    cases hq
    exact aAtA hR hl hk
  · rw [i2]
    exact k9
theorem aLald {k i j : Nat} {x : Int} (hd : decode M.2.1 pc = .ok (.laload, 1)) (hk : kArr k 1 = true) (hl : aLv n k i) (hx : x = (j : Int)) (hj : j < kLen k) (hp : pc + 1 = pc') (kk : aRun w M pc' L (aL (I k i j) :: st) n0 n I R Q) : aRun w M pc L (aI x :: aO k i :: st) n0 n I R Q := by
  subst hp
  intro p e s m args below meth c9 H locs ls C hR hlo hls hoL hos hn hsz
  obtain ⟨i1, i2⟩ := aIx hx hj (aOkS_hd hos)
  have k9 := kk p e s m args below meth c9 H locs ls C hR hlo hls hoL (aOkS_cons (aOk_lng (i := i) (j := j) hR.2.2.1 hk) (aOkS_tl (aOkS_tl hos))) hn hsz
  refine va_lald (tys := aTys w) (ws := [(aAd w (k, i), .inl (aw_C w 1, kLen k, .inr (.inl (fun j => Int64.ofInt (I k i j)))))]) C.1 C.2.1 C.2.2.2.2.2.2.2.2.1.1 (fun q y hq => ?_) 0 1 rfl rfl i1 hd ?_
  · have h0 : q < 1 := (List.getElem?_eq_some_iff.mp hq).1
    rw [show q = 0 by omega] at hq
    cases hq
    exact aAtA hR hl hk
  · rw [i2]
    exact k9
/-- the element type of an array of references -/
def aRt (t : Nat) : FieldType := match t with
  | 3 => .object RX3
  | 4 => .object RX1
  | 5 => .object RX2
  | _ => .array .int
theorem aAald {k i j t : Nat} {x : Int} {q : Nat × Nat} (hd : decode M.2.1 pc = .ok (.aaload, 1)) (hk : kArr k t = true) (ht : 3 ≤ t ∧ t ≤ 6) (hl : aLv n k i) (hx : x = (j : Int)) (hj : j < kLen k) (hr : R k i j = some q) (hp : pc + 1 = pc') (kk : aRun w M pc' L (aR (some q) :: st) n0 n I R Q) : aRun w M pc L (aI x :: aO k i :: st) n0 n I R Q := by
  subst hp
  intro p e s m args below meth c9 H locs ls C hR hlo hls hoL hos hn hsz
  obtain ⟨i1, i2⟩ := aIx hx hj (aOkS_hd hos)
  have k9 := kk p e s m args below meth c9 H locs ls C hR hlo hls hoL (aOkS_cons trivial (aOkS_tl (aOkS_tl hos))) hn hsz
  have hcell := aAtA hR hl hk
  have hK := C.2.2.2.2.2.2.2.2.1.1
  have e1 : vp_cell (aw_C w t) (kLen k, aAr w I R t k i) = arrV (aw_C w t) (kLen k) (fun j => va_rf ((R k i j).map (aAd w))) := by
    obtain ⟨t1, t2⟩ := ht
    match t, t1, t2 with
    | 3, _, _ => rfl
    | 4, _, _ => rfl
    | 5, _, _ => rfl
    | 6, _, _ => rfl
  have e2 : ∃ ty, (aTys w)[t]? = some (aw_C w t, ty) ∧ ty.isReference = true := by
    obtain ⟨t1, t2⟩ := ht
    match t, t1, t2 with
    | 3, _, _ => exact ⟨_, rfl, rfl⟩
    | 4, _, _ => exact ⟨_, rfl, rfl⟩
    | 5, _, _ => exact ⟨_, rfl, rfl⟩
    | 6, _, _ => exact ⟨_, rfl, rfl⟩
  obtain ⟨ty, e3, e4⟩ := e2
  rw [e1] at hcell
  have hlt : (Int32.ofInt x).toNatClampNeg < kLen k := by rw [i2]; exact hj
  refine W.aald (v := va_rf ((some q).map (aAd w))) (ty := ty) C.1 C.2.1 hcell ((hK.2 t _ e3).1 _ _) e4 (fun q => by cases q) (by show ¬ (_ ∨ (arrV _ _ _).slots.size ≤ _); rw [arrV_size]; exact i1) (by show (arrV _ _ _).slots[_]? = _; rw [arrV_read _ _ hlt, i2, hr]) rfl rfl hd ?_
  exact k9
theorem aArr_u {w : aW} {I : aIF} {R : aRF} {k i j : Nat} {v : Int} : (fun q => Int32.ofInt (uI I k i j v k i q)) = upd (fun q => Int32.ofInt (I k i q)) j (Int32.ofInt v) := by
  funext q
  by_cases h : q = j
  · subst h; simp [uI, upd]
  · simp [uI, upd, h]
theorem aIast {k i j : Nat} {x v : Int} (hd : decode M.2.1 pc = .ok (.iastore, 1)) (hk : kArr k 0 = true) (hl : aLv n k i) (hx : x = (j : Int)) (hj : j < kLen k) (hp : pc + 1 = pc') (kk : aRun w M pc' L st n0 n (uI I k i j v) R Q) : aRun w M pc L (aI v :: aI x :: aO k i :: st) n0 n I R Q := by
  subst hp
  intro p e s m args below meth c9 H locs ls C hR hlo hls hoL hos hn hsz
  obtain ⟨i1, i2⟩ := aIx hx hj (aOkS_hd (aOkS_tl hos))
  have hv : i32 v := aOkS_hd hos
  refine W.iast C.1 C.2.1 (aAtA hR hl hk) ((C.2.2.2.2.2.2.2.2.1.1.2 0 _ rfl).1 (kLen k) (fun j => .int (Int32.ofInt (I k i j)))) (fun q => by cases q) (by show ¬ (_ ∨ (arrV _ _ _).slots.size ≤ _); rw [arrV_size]; exact i1) rfl rfl hd fun H1 g1 g2 g3 => ?_
  rw [i2] at g1 ⊢
  refine kk p e s m args below meth c9 H1 _ ls C (aRep_put (R' := R) hR hl g2 g3 ?_ (fun _ _ h => uI_ne h) (fun _ _ _ _ => rfl) (aOkI_put hR.2.2.1 (by rw [if_neg (fun z => by rw [(kArr_of hk).2] at z; omega)]; exact hv))) (fun q hq => ?_) hls hoL (aOkS_tl (aOkS_tl (aOkS_tl hos))) hn hsz
  · rw [show aCell w (uI I k i j v) R k i = .inl (aw_C w 0, kLen k, .inl (fun q => Int32.ofInt (uI I k i j v k i q))) by rw [aCell, if_neg (by rw [(kArr_of hk).1]; omega), (kArr_of hk).2]; rfl]
    show H1[_]? = some (vp_cell _ _)
    rw [g1, vp_cell_i]
    show some ((vp_cell (aw_C w 0) (kLen k, .inl (fun j => Int32.ofInt (I k i j)))).setSlot j _) = _
    rw [vp_cell_i, arrV_store]
    congr 2
    funext q
    by_cases h : q = j
    · subst h; simp [uI, updV]
    · simp [uI, updV, h]
  · rcases List.mem_append.mp hq with h | h
    · exact hlo q h
    · rw [List.mem_singleton.mp h, aAd_at hl]
      exact Nat.le_add_right _ _
theorem aZast {k i j : Nat} {x v : Int} (hd : decode M.2.1 pc = .ok (.bastore, 1)) (hk : kArr k 2 = true) (hl : aLv n k i) (hx : x = (j : Int)) (hj : j < kLen k) (hv01 : v = 0 ∨ v = 1) (hp : pc + 1 = pc') (kk : aRun w M pc' L st n0 n (uI I k i j v) R Q) : aRun w M pc L (aI v :: aI x :: aO k i :: st) n0 n I R Q := by
  subst hp
  intro p e s m args below meth c9 H locs ls C hR hlo hls hoL hos hn hsz
  obtain ⟨i1, i2⟩ := aIx hx hj (aOkS_hd (aOkS_tl hos))
  have hv : i32 v := aOkS_hd hos
  refine W.zast C.1 C.2.1 (aAtA hR hl hk) ((C.2.2.2.2.2.2.2.2.1.1.2 2 _ rfl).1 (kLen k) (fun j => .int (Int32.ofInt (I k i j)))) (fun q => by cases q) (by show ¬ (_ ∨ (arrV _ _ _).slots.size ≤ _); rw [arrV_size]; exact i1) rfl rfl hd fun H1 g1 g2 g3 => ?_
  rw [i2] at g1 ⊢
  rw [(nar_b hv01).1] at g1
  refine kk p e s m args below meth c9 H1 _ ls C (aRep_put (R' := R) hR hl g2 g3 ?_ (fun _ _ h => uI_ne h) (fun _ _ _ _ => rfl) (aOkI_put hR.2.2.1 (by rw [if_neg (fun z => by rw [(kArr_of hk).2] at z; omega)]; exact hv))) (fun q hq => ?_) hls hoL (aOkS_tl (aOkS_tl (aOkS_tl hos))) hn hsz
  · rw [show aCell w (uI I k i j v) R k i = .inl (aw_C w 2, kLen k, .inl (fun q => Int32.ofInt (uI I k i j v k i q))) by rw [aCell, if_neg (by rw [(kArr_of hk).1]; omega), (kArr_of hk).2]; rfl]
    show H1[_]? = some (vp_cell _ _)
    rw [g1, vp_cell_i]
    show some ((vp_cell (aw_C w 2) (kLen k, .inl (fun j => Int32.ofInt (I k i j)))).setSlot j _) = _
    rw [vp_cell_i, arrV_store]
    congr 2
    funext q
    by_cases h : q = j
    · subst h; simp [uI, updV]
    · simp [uI, updV, h]
  · rcases List.mem_append.mp hq with h | h
    · exact hlo q h
    · rw [List.mem_singleton.mp h, aAd_at hl]
      exact Nat.le_add_right _ _
theorem aLast {k i j : Nat} {x v : Int} (hd : decode M.2.1 pc = .ok (.lastore, 1)) (hk : kArr k 1 = true) (hl : aLv n k i) (hx : x = (j : Int)) (hj : j < kLen k) (hp : pc + 1 = pc') (kk : aRun w M pc' L st n0 n (uI I k i j v) R Q) : aRun w M pc L (aL v :: aI x :: aO k i :: st) n0 n I R Q := by
  subst hp
  intro p e s m args below meth c9 H locs ls C hR hlo hls hoL hos hn hsz
  obtain ⟨i1, i2⟩ := aIx hx hj (aOkS_hd (aOkS_tl hos))
  have hv : i64 v := aOkS_hd hos
  refine W.last C.1 C.2.1 (aAtA hR hl hk) ((C.2.2.2.2.2.2.2.2.1.1.2 1 _ rfl).1 (kLen k) (fun j => .long (Int64.ofInt (I k i j)))) (fun q => by cases q) (by show ¬ (_ ∨ (arrV _ _ _).slots.size ≤ _); rw [arrV_size]; exact i1) rfl rfl hd fun H1 g1 g2 g3 => ?_
  rw [i2] at g1 ⊢
  refine kk p e s m args below meth c9 H1 _ ls C (aRep_put (R' := R) hR hl g2 g3 ?_ (fun _ _ h => uI_ne h) (fun _ _ _ _ => rfl) (aOkI_put hR.2.2.1 (by rw [if_pos (kArr_of hk)]; exact hv))) (fun q hq => ?_) hls hoL (aOkS_tl (aOkS_tl (aOkS_tl hos))) hn hsz
  · rw [show aCell w (uI I k i j v) R k i = .inl (aw_C w 1, kLen k, .inr (.inl (fun q => Int64.ofInt (uI I k i j v k i q)))) by rw [aCell, if_neg (by rw [(kArr_of hk).1]; omega), (kArr_of hk).2]; rfl]
    show H1[_]? = some (vp_cell _ _)
    rw [g1, vp_cell_l]
    show some ((vp_cell (aw_C w 1) (kLen k, .inr (.inl (fun j => Int64.ofInt (I k i j))))).setSlot j _) = _
    rw [vp_cell_l, arrV_store]
    congr 2
    funext q
    by_cases h : q = j
    · subst h; simp [uI, updV]
    · simp [uI, updV, h]
  · rcases List.mem_append.mp hq with h | h
    · exact hlo q h
    · rw [List.mem_singleton.mp h, aAd_at hl]
      exact Nat.le_add_right _ _
end AMH
