/-! returns and calls -/
section AMR
variable {w : aW} {M : aM} {pc pc' : Nat} {L : List (Option aV)} {st : List aV} {n0 n : Nat} {I : aIF} {R : aRF} {Q : aQ}
theorem aIret {x : Int} (hd : decode M.2.1 pc = .ok (.ireturn, 1)) (hM : M.1 ≠ yL_law) (hr : M.2.2.2.1 = some .int) (hn1 : n = n0 + M.2.2.2.2.cells) (hs1 : aSz n = aSz n0 + M.2.2.2.2.slots) (hq : Q (some (aI x)) n I R) : aRun w M pc L [aI x] n0 n I R Q := by
  intro p e s m args below meth c9 H locs ls C hR hlo hls hoL hos hn hsz
  have hlocks : meth.locks = false := C.2.2.2.2.2.2.1
  have e1 : n - n0 = M.2.2.2.2.cells := by omega
  have e2 : aSz n - aSz n0 = M.2.2.2.2.slots := by omega
  unfold aFin
  rw [if_neg hM, e1, e2]
  exact W.iret (v := Int32.ofInt x) C.1 C.2.1 (C.2.2.1.trans hr) (fun t ht hW => ⟨some (aI x), n, I, R, rfl, fun v hv => by cases hv; exact aOkS_hd hos, by rw [ht]; exact hR, hn1, hs1, hq⟩) hlo hd
theorem aZret {x : Int} (hd : decode M.2.1 pc = .ok (.ireturn, 1)) (hM : M.1 ≠ yL_law) (hr : M.2.2.2.1 = some .boolean) (hx : x = 0 ∨ x = 1) (hn1 : n = n0 + M.2.2.2.2.cells) (hs1 : aSz n = aSz n0 + M.2.2.2.2.slots) (hq : Q (some (aI x)) n I R) : aRun w M pc L [aI x] n0 n I R Q := by
  intro p e s m args below meth c9 H locs ls C hR hlo hls hoL hos hn hsz
  have hlocks : meth.locks = false := C.2.2.2.2.2.2.1
  have e1 : n - n0 = M.2.2.2.2.cells := by omega
  have e2 : aSz n - aSz n0 = M.2.2.2.2.slots := by omega
  unfold aFin
  rw [if_neg hM, e1, e2]
  exact W.zret (v := Int32.ofInt x) (ty := .boolean) C.1 C.2.1 (C.2.2.1.trans hr) (nar_b hx).1 (fun t ht hW => ⟨some (aI x), n, I, R, rfl, fun v hv => by cases hv; exact aOkS_hd hos, by rw [ht]; exact hR, hn1, hs1, hq⟩) hlo hd
theorem aLret {x : Int} (hd : decode M.2.1 pc = .ok (.lreturn, 1)) (hM : M.1 ≠ yL_law) (hr : M.2.2.2.1 = some .long) (hn1 : n = n0 + M.2.2.2.2.cells) (hs1 : aSz n = aSz n0 + M.2.2.2.2.slots) (hq : Q (some (aL x)) n I R) : aRun w M pc L [aL x] n0 n I R Q := by
  intro p e s m args below meth c9 H locs ls C hR hlo hls hoL hos hn hsz
  have hlocks : meth.locks = false := C.2.2.2.2.2.2.1
  have e1 : n - n0 = M.2.2.2.2.cells := by omega
  have e2 : aSz n - aSz n0 = M.2.2.2.2.slots := by omega
  unfold aFin
  rw [if_neg hM, e1, e2]
  exact W.lret (v := Int64.ofInt x) C.1 C.2.1 (C.2.2.1.trans hr) (fun t ht hW => ⟨some (aL x), n, I, R, rfl, fun v hv => by cases hv; exact aOkS_hd hos, by rw [ht]; exact hR, hn1, hs1, hq⟩) hlo hd
theorem aVret (hd : decode M.2.1 pc = .ok (.return_, 1)) (hM : M.1 ≠ yL_law) (hr : M.2.2.2.1 = none) (hn1 : n = n0 + M.2.2.2.2.cells) (hs1 : aSz n = aSz n0 + M.2.2.2.2.slots) (hq : Q none n I R) : aRun w M pc L [] n0 n I R Q := by
  intro p e s m args below meth c9 H locs ls C hR hlo hls hoL hos hn hsz
  have hlocks : meth.locks = false := C.2.2.2.2.2.2.1
  have e1 : n - n0 = M.2.2.2.2.cells := by omega
  have e2 : aSz n - aSz n0 = M.2.2.2.2.slots := by omega
  unfold aFin
  rw [if_neg hM, e1, e2]
  exact W.vret C.1 C.2.1 (C.2.2.1.trans hr) (fun t ht hW => ⟨none, n, I, R, rfl, (fun v hv => by cases hv), by rw [ht]; exact hR, hn1, hs1, hq⟩) hlo hd
/-- the law's end -/
theorem aLawRet (hd : decode M.2.1 pc = .ok (.ireturn, 1)) (hM : M.1 = yL_law) (hc : M.2.1 = code) (hr : M.2.2.2.1 = ret) (hm : M.2.2.2.2 = room_1) (hn1 : n ≤ n0 + 600000) (hs1 : aSz n ≤ aSz n0 + 7302249) : aRun w M pc L [aI 1] n0 n I R Q := by
  intro p e s m args below meth c9 H locs ls C hR hlo hls hoL hos hn hsz
  obtain ⟨hz, ha⟩ := C.2.2.2.2.2.2.2.2.2 hM
  unfold aFin
  rw [if_pos hM, hm, ha]
  refine va_forget (fun q hq => by rw [hz]; exact hlo q hq) ?_
  refine W.widen (k := 600000) (n := 7302249) (by omega) (by omega) ?_
  exact lw_ret C.1 (C.2.1.trans hc) (C.2.2.1.trans hr) C.2.2.2.2.2.2.1 (by rw [← hc]; exact hd)
theorem aPc_blind {As : List aV} : FrameBlind (aPc w As n I R) := fun a U g mk h => ⟨h.1, h.2.1, h.2.2.1, aKn_same rfl h.2.2.2⟩
/-- what a call needs of the tables -/
def aVk (own : String) (idx : Nat) (M2 : aM) : Prop := (Cond.methodLink own idx M2.1 ∈ aTb ∧ Cond.instanceMethod M2.1 ∈ aTb ∧ Cond.selects M2.1.cls M2.1 M2.1 ∈ aTb ∧ Cond.initialized M2.1.cls ∈ aTb ∧ Cond.code M2.1 M2.2.1 M2.2.2.1 M2.2.2.2.1 ∈ aTb) ∧ M2.1.cls ≠ "java/lang/invoke/MethodHandle" ∧ M2.1.cls ≠ "java/lang/invoke/VarHandle"
def aSk (own : String) (idx : Nat) (M2 : aM) : Prop := (Cond.methodLink own idx M2.1 ∈ aTb ∧ Cond.static M2.1 ∈ aTb ∧ Cond.initialized M2.1.cls ∈ aTb ∧ Cond.code M2.1 M2.2.1 M2.2.2.1 M2.2.2.2.1 ∈ aTb) ∧ M2.1.cls ≠ "java/lang/invoke/MethodHandle" ∧ M2.1.cls ≠ "java/lang/invoke/VarHandle"
abbrev aRm (M M2 : aM) : Prop := M2.2.2.2.2.frames + 1 ≤ M.2.2.2.2.frames ∧ 8 + (M2.2.2.1 + 11) + M2.2.2.2.2.locals ≤ M.2.2.2.2.locals
theorem aWs_good {M2 : aM} (h : Cond.code M2.1 M2.2.1 M2.2.2.1 M2.2.2.2.1 ∈ aTb) : GoodIn aTb (aWs M2) := fun x hx => by
  rcases List.mem_cons.mp hx with rfl | q
  · exact ⟨h, aTb_good h⟩
  · exact ⟨q, aTb_good q⟩
theorem aRun_after {M2 : aM} {p : Program} {e : Env} {s : State} {m : MethodId} {args : Array Value} {below : List Frame} {meth : Method} {c : Code} {H : Heap} {locs : List Loc} {ls : Array Slot} {rest : List aV} {st0 : List Value} {av : Array Value}
    (C : aCtx w M p s m args meth c) (hlo : ∀ q ∈ locs, aw_B w ≤ q.base) (hls : aLs w ls M.2.2.1 L) (hoL : aOkL L) (hos : aOkS rest) (hn : n0 ≤ n) (hsz : aSz n0 ≤ aSz n)
    (hr : va_Run p (aw_l w) e M.2.2.2.2 s m args below meth c H locs (n - n0) (aSz n - aSz n0) M2.2.2.2.2.cells M2.2.2.2.2.slots (F0 m pc ls st0) (rest.map (aDen w)) (aQc w M2 n (fun r n' I' R' => aRun w M (pc + 3) L (r.toList ++ rest) n0 n' I' R' Q) av) (fun q => aw_B w ≤ q)) :
    W p (aw_l w) e M.2.2.2.2 s m args below meth c H locs (n - n0) (aSz n - aSz n0) (aFin w M n0 Q below args s) (F0 m pc ls st0) := by
  intro T hT X
  obtain ⟨v, st₀, t, T', Lc, h0, X', hL, e1, e2, ⟨r, n', I', R', hv, hok, hR', hn', hs', hk⟩, stp⟩ := hr T hT X
  have hv : v = r.map (aDen w) := Outcome.returned.inj hv
  have c1 : n - n0 + M2.2.2.2.2.cells = n' - n0 := by omega
  have c2 : aSz n - aSz n0 + M2.2.2.2.2.slots = aSz n' - aSz n0 := by omega
  rw [c1, c2] at X'
  obtain ⟨t2, a1, b1⟩ := hk p e s m args below meth c T'.heap (locs ++ Lc) ls C (by rw [e1]; exact hR') (fun q hq => by
    rcases List.mem_append.mp hq with h | h
    · exact hlo q h
    · exact hL q h) hls hoL (fun u hu => by
    rcases List.mem_append.mp hu with h | h
    · exact hok u (by cases r with | none => cases h | some x => rw [show u = x by simpa using h])
    · exact hos u h) (by omega) (by omega) T' rfl X'
  refine ⟨t2, stp t2 ?_, b1⟩
  have eg : ({ F0 m pc ls st0 with pc := pc + 3, stack := v.toList ++ rest.map (aDen w) } : JFrame) = F0 m (pc + 3) ls ((r.toList ++ rest).map (aDen w)) := by
    rw [hv]
    cases r <;> rfl
  show Steps p.tables e below (T'.setTop ({ F0 m pc ls st0 with pc := pc + 3, stack := v.toList ++ rest.map (aDen w) } : JFrame)) t2
  rw [eg]
  exact a1
theorem aCallV {M2 : aM} {As rest : List aV} {k i c idx : Nat} (hd : decode M.2.1 pc = .ok (.invokevirtual idx, 3)) (hf : aVk M.1.cls idx M2) (hrm : aRm M M2) (hnp : (parseMethodDescriptor M2.1.desc).map (fun d => d.parameters.length) = some As.length) (hk : kObj k c = true) (hc11 : c < 11) (hcn : aNm c = M2.1.cls) (h8 : (rest.map aCat).sum ≤ 8) (hl : aLv n k i) (hc : n + M2.2.2.2.2.cells ≤ n0 + M.2.2.2.2.cells) (hs : aSz n + M2.2.2.2.2.slots ≤ aSz n0 + M.2.2.2.2.slots) (hp : pc + 3 = pc')
    (kk : aMet w M2 (aO k i :: As) n I R (fun r n' I' R' => aRun w M pc' L (r.toList ++ rest) n0 n' I' R' Q)) : aRun w M pc L (As.reverse ++ aO k i :: rest) n0 n I R Q := by
  subst hp
  intro p e s m args below meth c9 H locs ls C hR hlo hls hoL hos hn hsz
  have hor : aOkS rest := fun u hu => hos u (List.mem_append_right _ (List.mem_cons_of_mem _ hu))
  have hoA : aOkS (aO k i :: As) := aOkS_cons trivial (fun u hu => hos u (List.mem_append_left _ (List.mem_reverse.mpr hu)))
  obtain ⟨hx, hb, hr, hml, hown, hts, hlk, hin, hK, -⟩ := id C
  obtain ⟨⟨f1, f2, f3, f4, f5⟩, f6, f7⟩ := hf
  have hcl := aCl c hc11
  have hcell := hR.2.1 k i hl
  rw [show aCell w I R k i = .inr (c, aFs w I R c k i) by rw [aCell, if_pos (kObj_of hk).1, (kObj_of hk).2]] at hcell
  have hrec := va_recv (q0 := 0) (ws := [(aAd w (k, i), .inr (c, aFs w I R c k i))]) hK.1 (fun q x hq => by
    have h0 : q < 1 := (List.getElem?_eq_some_iff.mp hq).1
    rw [show q = 0 by omega] at hq
    cases hq
    exact hcell) hcl rfl
  refine aRun_after (M2 := M2) (av := (Value.ref (aAd w (k, i)) :: As.map (aDen w)).toArray) C hlo hls hoL hor hn hsz ?_
  refine va_runV (C := M2.1.cls) (As := As.map (aDen w)) (n := As.length) (ws := aWs M2) (Ts := aTb) ⟨hx, hb, hml, hown, hts⟩ kk (cwV (ws' := aTb) As.length hts ?_ rfl rfl rfl ⟨rfl, f6, f7, hnp⟩ hrm) ⟨aPc_blind, by rw [← hcn]; exact hrec, fun U hU hW => ⟨rfl, hoA, by rw [hU]; exact hR, aKn_warm hW hK⟩⟩ rfl (by rw [List.length_map]) hls.1 (by show (As.reverse ++ aO k i :: rest).map (aDen w) = _; rw [List.map_append, List.map_reverse]; rfl) ?_ hd ⟨by omega, by omega⟩
  · intro x hx2
    rcases List.mem_append.mp hx2 with h | h
    · have : x ∈ aTb := by
        rcases List.mem_cons.mp h with rfl | h
        · exact f1
        rcases List.mem_cons.mp h with rfl | h
        · exact f2
        rcases List.mem_cons.mp h with rfl | h
        · exact f3
        rcases List.mem_cons.mp h with rfl | h
        · exact f4
        cases h
      exact ⟨this, aTb_good this⟩
    · exact aWs_good f5 x h
  · show 2 * 0 + _ ≤ 8
    rw [List.map_map, show ((fun v => Value.category v) ∘ aDen w) = aCat from funext (aDen_cat w)]
    omega
theorem aCallS {M2 : aM} {As rest : List aV} {idx : Nat} (hd : decode M.2.1 pc = .ok (.invokestatic idx, 3)) (hf : aSk M.1.cls idx M2) (hrm : aRm M M2) (hnp : (parseMethodDescriptor M2.1.desc).map (fun d => d.parameters.length) = some As.length) (h8 : (rest.map aCat).sum ≤ 8) (hc : n + M2.2.2.2.2.cells ≤ n0 + M.2.2.2.2.cells) (hs : aSz n + M2.2.2.2.2.slots ≤ aSz n0 + M.2.2.2.2.slots) (hp : pc + 3 = pc')
    (kk : aMet w M2 As n I R (fun r n' I' R' => aRun w M pc' L (r.toList ++ rest) n0 n' I' R' Q)) : aRun w M pc L (As.reverse ++ rest) n0 n I R Q := by
  subst hp
  intro p e s m args below meth c9 H locs ls C hR hlo hls hoL hos hn hsz
  have hor : aOkS rest := fun u hu => hos u (List.mem_append_right _ hu)
  have hoA : aOkS As := fun u hu => hos u (List.mem_append_left _ (List.mem_reverse.mpr hu))
  obtain ⟨hx, hb, hr, hml, hown, hts, hlk, hin, hK, -⟩ := id C
  obtain ⟨⟨f1, f2, f4, f5⟩, f6, f7⟩ := hf
  refine aRun_after (M2 := M2) (av := (As.map (aDen w)).toArray) C hlo hls hoL hor hn hsz ?_
  refine va_runS (As := As.map (aDen w)) (n := As.length) (ws := aWs M2) (Ts := aTb) ⟨hx, hb, hml, hown, hts⟩ kk ⟨callB_of (ws' := aTb) As.length hts (aWs_good f5) rfl rfl rfl (hts _ f4) (hts _ f1) ⟨f6, f7, hnp⟩ hrm, hts _ f2⟩ ⟨aPc_blind, fun U hU hW => ⟨rfl, hoA, by rw [hU]; exact hR, aKn_warm hW hK⟩⟩ rfl (by rw [List.length_map]) hls.1 (by show (As.reverse ++ rest).map (aDen w) = _; rw [List.map_append, List.map_reverse]) ?_ hd ⟨by omega, by omega⟩
  show 2 * 0 + _ ≤ 8
  rw [List.map_map, show ((fun v => Value.category v) ∘ aDen w) = aCat from funext (aDen_cat w)]
  omega
end AMR
