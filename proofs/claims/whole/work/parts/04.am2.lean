/-! what the tables say, at a method's start -/
theorem aOA_moved {u U : State} (hvm : u.vm.Alike U.vm) (h : (Cond.arrayOver (.array .int)).before #[] u = true) : (Cond.arrayOver (.array .int)).before #[] U = true := by
  obtain ⟨comp, c, k, h1, h2, h3, h4, h5⟩ := arrayOverA_spec h
  obtain ⟨k', hk', he⟩ := hvm.2.2 _ _ h3
  have hi : (U.vm.classes.findIdx? fun (x : Class) => match x.kind with | .array component _ => component == comp | _ => false) = some c := by
    rw [hvm.findIdx?_eq _ (fun _ => rfl)]
    exact h2
  have hkind : k'.kind = .array comp (.array .int) := by rw [he]; exact h4
  have f1 : U.vm.findClass (FieldType.array .int).toString = some comp := by rw [hvm.findClass]; exact h1
  have f2 : U.vm.findClass ("[" ++ (FieldType.array .int).toString) = some c := by rw [hvm.findClass]; exact h5
  unfold Cond.before Cond.holds
  simp only [Cond.value]
  rw [f1, Option.bind_some]
  refine (congrArg (fun o : Option Nat => (o.bind (fun c => (U.vm.classes[c]?).map fun (k : Class) => match k.kind with | .array _ ty => decide (ty = FieldType.array .int) && decide (U.vm.findClass ("[" ++ (FieldType.array .int).toString) = some c) | _ => false) == some true)) hi).trans ?_
  simp [hk', hkind, f2]
def aKn (w : aW) (U : State) : Prop :=
  va_K (aw_D w) vwCl (aTys w) U ∧ (∀ a i y h, Cond.methodLinkNest a i y h ∈ lw_tbl → va_Nw (.methodLinkNest a i y h) U) ∧ (∀ C, Cond.arrayOver (.object C) ∈ lw_tbl → va_AO C U) ∧ (Cond.arrayOver (.array .int)).before #[] U = true ∧
  U.isArrayOf (aw_sc w) .int ∧ (aw_sc w).vm ≠ .unknown ∧ (aw_sc w).slots.size = aw_L w ∧ aw_L w ≤ 3072 ∧ (∀ j, j < aw_L w → (aw_sc w).slots[j]? = some (.int (Int32.ofInt (aw_xs w j)))) ∧ ∀ j, i32 (aw_xs w j)
theorem aKn_warm {w : aW} {s U : State} (hW : s.WarmedH U.vm) (h : aKn w s) : aKn w U := by
  obtain ⟨h1, h2, h3, h4, h5, h6⟩ := h
  exact ⟨h1.moved hW.alike, fun a i y h q => (h2 a i y h q).warmM hW, fun C q => (h3 C q).moved hW.alike, aOA_moved hW.alike h4, State.isArrayOf_alike hW.alike h5, h6⟩
theorem aKn_same {w : aW} {s U : State} (hv : s.vm = U.vm) (h : aKn w s) : aKn w U := by
  obtain ⟨h1, h2, h3, h4, h5, h6⟩ := h
  have ha : s.vm.Alike U.vm := by rw [← hv]; exact Vm.Alike.refl _
  exact ⟨h1.moved ha, fun a i y h q => va_Nw.same rfl hv (h2 a i y h q), fun C q => (h3 C q).moved ha, aOA_moved ha h4, State.isArrayOf_alike ha h5, h6⟩
/-- a method: name, code, locals, what it returns, its room -/
abbrev aM : Type := MethodName × ByteArray × Nat × Option FieldType × Room
def aWs (M : aM) : List Cond := .code M.1 M.2.1 M.2.2.1 M.2.2.2.1 :: aTb
abbrev aQ : Type := Option aV → Nat → aIF → aRF → Prop
def aQc (w : aW) (M : aM) (n0 : Nat) (Q : aQ) : Array Value → State → Outcome → State → Prop := fun _ _ o t =>
  ∃ (r : Option aV) (n : Nat) (I : aIF) (R : aRF), o = .returned (r.map (aDen w)) ∧ (∀ v, r = some v → aOk v) ∧ aRep w n I R t.heap ∧ n = n0 + M.2.2.2.2.cells ∧ aSz n = aSz n0 + M.2.2.2.2.slots ∧ Q r n I R
def aOkS (st : List aV) : Prop := ∀ v ∈ st, aOk v
def aPc (w : aW) (As : List aV) (n : Nat) (I : aIF) (R : aRF) : Array Value → State → Prop := fun a U => a = (As.map (aDen w)).toArray ∧ aOkS As ∧ aRep w n I R U.heap ∧ aKn w U
def aMet (w : aW) (M : aM) (As : List aV) (n : Nat) (I : aIF) (R : aRF) (Q : aQ) : Prop :=
  Met (aw_l w) M.1 (aWs M) M.2.2.2.2 (aPc w As n I R) (aQc w M n Q) M.2.2.2.2.cells M.2.2.2.2.slots (fun q => aw_B w ≤ q)
def aFin (w : aW) (M : aM) (n0 : Nat) (Q : aQ) (below : List Frame) (args : Array Value) (s : State) : State → Prop :=
  if M.1 = yL_law then lw_Z below args s else MQ below (aQc w M n0 Q) args s M.2.2.2.2.cells M.2.2.2.2.slots (fun q => aw_B w ≤ q)
def aCtx (w : aW) (M : aM) (p : Program) (s : State) (m : MethodId) (args : Array Value) (meth : Method) (c : Code) : Prop :=
  p.tables.exec = Jvm.exec ∧ c.code = M.2.1 ∧ meth.sig.returnType = M.2.2.2.1 ∧ c.maxLocals = M.2.2.1 ∧ s.vm.findClass M.1.cls = some m.cls ∧ (∀ x ∈ aTb, x.before args s = true) ∧ meth.locks = false ∧ (M.1.name = "<init>" → meth.name = "<init>") ∧ aKn w s ∧ (M.1 = yL_law → s.heap.size = aw_B w ∧ args = #[Value.ref (aw_b w)])
def aLs (w : aW) (ls : Array Slot) (nL : Nat) (L : List (Option aV)) : Prop := ls.size = nL ∧ lv_wf ls ∧ ∀ (i : Nat) (v : aV), L[i]? = some (some v) → ls[i]? = some (Slot.val (aDen w v))
def aOkL (L : List (Option aV)) : Prop := ∀ (i : Nat) (v : aV), L[i]? = some (some v) → aOk v
/-- THE JUDGEMENT -/
def aRun (w : aW) (M : aM) (pc : Nat) (L : List (Option aV)) (st : List aV) (n0 n : Nat) (I : aIF) (R : aRF) (Q : aQ) : Prop :=
  ∀ (p : Program) (e : Env) (s : State) (m : MethodId) (args : Array Value) (below : List Frame) (meth : Method) (c : Code) (H : Heap) (locs : List Loc) (ls : Array Slot),
    aCtx w M p s m args meth c → aRep w n I R H → (∀ q ∈ locs, aw_B w ≤ q.base) → aLs w ls M.2.2.1 L → aOkL L → aOkS st → n0 ≤ n → aSz n0 ≤ aSz n →
    W p (aw_l w) e M.2.2.2.2 s m args below meth c H locs (n - n0) (aSz n - aSz n0) (aFin w M n0 Q below args s) (F0 m pc ls (st.map (aDen w)))
/-! locals -/
def aKill (L : List (Option aV)) (i : Nat) : List (Option aV) := match i with
  | 0 => L
  | j + 1 => match L[j]? with
    | some (some (.inr (.inl _))) => L.set j none
    | _ => L
def aSet1 (L : List (Option aV)) (i : Nat) (v : aV) : List (Option aV) := (aKill L i).set i (some v)
def aSet2 (L : List (Option aV)) (i : Nat) (v : aV) : List (Option aV) := ((aKill L i).set i (some v)).set (i + 1) none
theorem aKill_len (L : List (Option aV)) (i : Nat) : (aKill L i).length = L.length := by
  cases i with
  | zero => rfl
  | succ j =>
    simp only [aKill]
    split <;> simp
theorem aKill_get {L : List (Option aV)} {i j : Nat} {u : aV} (h : (aKill L i)[j]? = some (some u)) : L[j]? = some (some u) ∧ ¬ (j + 1 = i ∧ aCat u = 2) := by
  cases i with
  | zero => exact ⟨h, fun q => by omega⟩
  | succ q =>
    simp only [aKill] at h
    split at h
    · rename_i x hx
      rw [List.getElem?_set] at h
      by_cases e : q = j
      · subst e
        rw [if_pos rfl] at h
        split at h <;> cases h
      · rw [if_neg e] at h
        exact ⟨h, fun z => e (by omega)⟩
    · rename_i hx
      refine ⟨h, fun z => ?_⟩
      have e : j = q := by omega
      subst e
      rcases u with x | x | x
      · exact absurd z.2 (by simp [aCat])
      · exact hx x h
      · exact absurd z.2 (by simp [aCat])
theorem aSet1_get {L : List (Option aV)} {i j : Nat} {v u : aV} (h : (aSet1 L i v)[j]? = some (some u)) : (j = i ∧ u = v) ∨ (j ≠ i ∧ L[j]? = some (some u) ∧ ¬ (j + 1 = i ∧ aCat u = 2)) := by
  unfold aSet1 at h
  rw [List.getElem?_set] at h
  by_cases e : i = j
  · rw [if_pos e] at h
    split at h
    · cases h
      exact Or.inl ⟨e.symm, rfl⟩
    · cases h
  · rw [if_neg e] at h
    exact Or.inr ⟨Ne.symm e, aKill_get h⟩
theorem aSet2_get {L : List (Option aV)} {i j : Nat} {v u : aV} (h : (aSet2 L i v)[j]? = some (some u)) : (j = i ∧ u = v) ∨ (j ≠ i ∧ j ≠ i + 1 ∧ L[j]? = some (some u) ∧ ¬ (j + 1 = i ∧ aCat u = 2)) := by
  unfold aSet2 at h
  rw [List.getElem?_set] at h
  by_cases e : i + 1 = j
  · rw [if_pos e] at h
    split at h <;> cases h
  · rw [if_neg e] at h
    rcases aSet1_get (L := L) (i := i) (v := v) h with q | q
    · exact Or.inl q
    · exact Or.inr ⟨q.1, Ne.symm e, q.2⟩
def aPr (w : aW) (L : List (Option aV)) : List (Nat × Value) := (List.range L.length).filterMap (fun i => (L.getD i none).map (fun v => (i, aDen w v)))
theorem aPr_mem {w : aW} {L : List (Option aV)} {q : Nat × Value} (h : q ∈ aPr w L) : ∃ v, L[q.1]? = some (some v) ∧ q.2 = aDen w v := by
  obtain ⟨i, hi, h2⟩ := List.mem_filterMap.mp h
  cases hg : L.getD i none with
  | none => rw [hg] at h2; cases h2
  | some v =>
    rw [hg] at h2
    cases h2
    have hl : i < L.length := List.mem_range.mp hi
    refine ⟨v, ?_, rfl⟩
    show L[i]? = _
    rw [List.getElem?_eq_getElem hl]
    rw [List.getD_eq_getElem?_getD, List.getElem?_eq_getElem hl] at hg
    exact congrArg some hg
theorem aPr_of {w : aW} {L : List (Option aV)} {i : Nat} {v : aV} (h : L[i]? = some (some v)) : (i, aDen w v) ∈ aPr w L := by
  have hl : i < L.length := (List.getElem?_eq_some_iff.mp h).1
  refine List.mem_filterMap.mpr ⟨i, List.mem_range.mpr hl, ?_⟩
  rw [List.getD_eq_getElem?_getD, h]
  rfl
theorem aLs_has {w : aW} {ls : Array Slot} {nL : Nat} {L : List (Option aV)} (h : aLs w ls nL L) : lv_has ls nL (aPr w L) := by
  refine ⟨h.1, h.2.1, fun q hq => ?_⟩
  obtain ⟨v, h1, h2⟩ := aPr_mem hq
  rw [h2]
  exact h.2.2 _ _ h1
theorem aLs_set1 {w : aW} {ls : Array Slot} {nL i : Nat} {L : List (Option aV)} {v : aV} (h : lv_has ls nL ((i, aDen w v) :: (aPr w L).filter (fun q => !(q.1 == i) && !(q.1 + 1 == i && q.2.category == 2)))) : aLs w ls nL (aSet1 L i v) := by
  refine ⟨h.1, h.2.1, fun j u hj => ?_⟩
  rcases aSet1_get hj with ⟨rfl, rfl⟩ | ⟨h1, h2, h3⟩
  · exact h.2.2 (j, aDen w u) List.mem_cons_self
  · refine h.2.2 (j, aDen w u) (List.mem_cons_of_mem _ (List.mem_filter.mpr ⟨aPr_of h2, ?_⟩))
    simp only [aDen_cat, Bool.and_eq_true, Bool.not_eq_true', beq_eq_false_iff_ne, Bool.and_eq_false_iff]
    refine ⟨h1, ?_⟩
    by_cases e : j + 1 = i
    · exact Or.inr (fun z => h3 ⟨e, z⟩)
    · exact Or.inl e
theorem aLs_set2 {w : aW} {ls : Array Slot} {nL i : Nat} {L : List (Option aV)} {v : aV} (h : lv_has ls nL ((i, aDen w v) :: (aPr w L).filter (fun q => !(q.1 == i) && (!(q.1 == i + 1) && !(q.1 + 1 == i && q.2.category == 2))))) : aLs w ls nL (aSet2 L i v) := by
  refine ⟨h.1, h.2.1, fun j u hj => ?_⟩
  rcases aSet2_get hj with ⟨rfl, rfl⟩ | ⟨h1, h0, h2, h3⟩
  · exact h.2.2 (j, aDen w u) List.mem_cons_self
  · refine h.2.2 (j, aDen w u) (List.mem_cons_of_mem _ (List.mem_filter.mpr ⟨aPr_of h2, ?_⟩))
    simp only [aDen_cat, Bool.and_eq_true, Bool.not_eq_true', beq_eq_false_iff_ne, Bool.and_eq_false_iff]
    refine ⟨h1, h0, ?_⟩
    by_cases e : j + 1 = i
    · exact Or.inr (fun z => h3 ⟨e, z⟩)
    · exact Or.inl e
theorem aOkL_set1 {L : List (Option aV)} {i : Nat} {v : aV} (h : aOkL L) (hv : aOk v) : aOkL (aSet1 L i v) := fun j u hj => by
  rcases aSet1_get hj with ⟨-, rfl⟩ | ⟨-, h2, -⟩
  · exact hv
  · exact h j u h2
theorem aOkL_set2 {L : List (Option aV)} {i : Nat} {v : aV} (h : aOkL L) (hv : aOk v) : aOkL (aSet2 L i v) := fun j u hj => by
  rcases aSet2_get hj with ⟨-, rfl⟩ | ⟨-, -, h2, -⟩
  · exact hv
  · exact h j u h2
theorem aOkS_cons {v : aV} {st : List aV} (hv : aOk v) (h : aOkS st) : aOkS (v :: st) := fun u hu => by
  rcases List.mem_cons.mp hu with rfl | q
  · exact hv
  · exact h u q
theorem aOkS_hd {v : aV} {st : List aV} (h : aOkS (v :: st)) : aOk v := h v List.mem_cons_self
theorem aOkS_tl {v : aV} {st : List aV} (h : aOkS (v :: st)) : aOkS st := fun u hu => h u (List.mem_cons_of_mem _ hu)
/-! the entry -/
def aE0 (As : List aV) : List (Option aV) := As.flatMap (fun v => if aCat v = 2 then [some v, none] else [some v])
def aEnt (As : List aV) (nL : Nat) : List (Option aV) := aE0 As ++ List.replicate (nL - (aE0 As).length) none
theorem aE0_get (w : aW) : ∀ (As : List aV) (i j : Nat) (v : aV), (aE0 As)[j]? = some (some v) → (i + j, aDen w v) ∈ lv_args i (As.map (aDen w))
  | [], _, _, _, h => by simp [aE0] at h
  | a :: As, i, j, v, h => by
    show _ ∈ (i, aDen w a) :: lv_args (if (aDen w a).category = 2 then i + 2 else i + 1) (As.map (aDen w))
    rw [aDen_cat]
    have he : aE0 (a :: As) = (if aCat a = 2 then [some a, none] else [some a]) ++ aE0 As := by simp [aE0]
    rw [he] at h
    by_cases hc : aCat a = 2
    · rw [if_pos hc] at h ⊢
      match j, h with
      | 0, h => cases h; exact List.mem_cons_self
      | 1, h => cases h
      | j + 2, h =>
        have := aE0_get w As (i + 2) j v h
        rw [show i + (j + 2) = i + 2 + j by omega]
        exact List.mem_cons_of_mem _ this
    · rw [if_neg hc] at h ⊢
      match j, h with
      | 0, h => cases h; exact List.mem_cons_self
      | j + 1, h =>
        have := aE0_get w As (i + 1) j v h
        rw [show i + (j + 1) = i + 1 + j by omega]
        exact List.mem_cons_of_mem _ this
theorem aE0_len (w : aW) : ∀ As : List aV, (lg_sl (As.map (aDen w))).length = (aE0 As).length
  | [] => rfl
  | a :: As => by
    have ih := aE0_len w As
    have h1 : lg_sl ((a :: As).map (aDen w)) = (if (aDen w a).category = 2 then [.val (aDen w a), .second] else [.val (aDen w a)]) ++ lg_sl (As.map (aDen w)) := by simp [lg_sl]
    have h2 : aE0 (a :: As) = (if aCat a = 2 then [some a, none] else [some a]) ++ aE0 As := by simp [aE0]
    rw [h1, h2, List.length_append, List.length_append, ih, aDen_cat]
    by_cases hc : aCat a = 2 <;> simp [hc]
theorem aEnt_get {As : List aV} {nL j : Nat} {v : aV} (h : (aEnt As nL)[j]? = some (some v)) : (aE0 As)[j]? = some (some v) := by
  unfold aEnt at h
  by_cases hl : j < (aE0 As).length
  · rwa [List.getElem?_append_left hl] at h
  · rw [List.getElem?_append_right (by omega), List.getElem?_replicate] at h
    split at h <;> cases h
theorem aEnt_ok {As : List aV} {nL : Nat} (h : aOkS As) : aOkL (aEnt As nL) := fun j v hj => by
  have h1 := aEnt_get hj
  have h2 : some v ∈ aE0 As := List.mem_of_getElem? h1
  obtain ⟨a, ha, h3⟩ := List.mem_flatMap.mp h2
  have : v = a := by
    by_cases hc : aCat a = 2
    · rw [if_pos hc] at h3
      rcases List.mem_cons.mp h3 with q | q
      · exact Option.some.inj q
      · simp at q
    · rw [if_neg hc] at h3
      simpa using h3
  rw [this]
  exact h a ha
set_option maxHeartbeats 1000000 in
theorem aMet_of {w : aW} {M : aM} {As : List aV} {n : Nat} {I : aIF} {R : aRF} {Q : aQ} (hy : plainName M.1.cls = true) (hM : M.1 ≠ yL_law) (hl : (aE0 As).length ≤ M.2.2.1) (h : aOkS As → aRun w M 0 (aEnt As M.2.2.1) [] n n I R Q) : aMet w M As n I R Q := by
  refine Met.ofW (cc := M.2.1) (maxL := M.2.2.1) (ret := M.2.2.2.1) hy rfl ?_
  intro p e s m args below meth c s₁ B hml hv
  obtain ⟨rfl, hok, hR, hK⟩ := hv
  have hts := atoms_spec (ws := aWs M) B.pre
  have hl2 := lv_entry (As.map (aDen w)) (n := M.2.2.1) (by rw [aE0_len]; exact hl)
  rw [lg_entry_eq]
  generalize (lg_sl (As.map (aDen w)) ++ List.replicate (M.2.2.1 - (lg_sl (As.map (aDen w))).length) Slot.unset).toArray = ls at hl2 ⊢
  have hC : aCtx w M p s m (As.map (aDen w)).toArray meth c := ⟨B.exec, B.bytes, B.returns, hml, findClass_of_methodNamed B.named, fun x hx => hts x (List.mem_cons_of_mem _ hx), B.notSynchronized, fun hn => by rw [← hn]; exact (name_of_methodNamed B.named B.method).1, hK, fun q => absurd q hM⟩
  have h1 := h hok p e s m _ below meth c s.heap [] ls hC hR (fun _ q => by cases q) ⟨hl2.1, hl2.2.1, fun i v hi => by
    have := hl2.2.2 _ (by simpa using aE0_get w As 0 i v (aEnt_get hi))
    exact this⟩ (aEnt_ok hok) (fun _ q => by cases q) (Nat.le_refl _) (Nat.le_refl _)
  rw [Nat.sub_self, Nat.sub_self] at h1
  unfold aFin at h1
  rw [if_neg hM] at h1
  exact h1
