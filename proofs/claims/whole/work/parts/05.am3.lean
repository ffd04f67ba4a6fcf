section AMS
variable {w : aW} {M : aM} {pc pc' : Nat} {L : List (Option aV)} {st : List aV} {n0 n : Nat} {I : aIF} {R : aRF} {Q : aQ}
/-- a step that changes the place and the stack alone -/
theorem aStk {st st' : List aV} {pc pc' : Nat} (hok : aOkL L → aOkS st → aOkS st')
    (h : ∀ (p : Program) (e : Env) (s : State) (m : MethodId) (args : Array Value) (below : List Frame) (meth : Method) (c : Code) (H : Heap) (locs : List Loc) (cells slots : Nat) (Z : State → Prop) (ls : Array Slot), p.tables.exec = Jvm.exec → c.code = M.2.1 → aCtx w M p s m args meth c → aRep w n I R H → aLs w ls M.2.2.1 L → aOkL L → aOkS st →
      W p (aw_l w) e M.2.2.2.2 s m args below meth c H locs cells slots Z (F0 m pc' ls (st'.map (aDen w))) → W p (aw_l w) e M.2.2.2.2 s m args below meth c H locs cells slots Z (F0 m pc ls (st.map (aDen w))))
    (k : aRun w M pc' L st' n0 n I R Q) : aRun w M pc L st n0 n I R Q := by
  intro p e s m args below meth c H locs ls C hR hlo hls hoL hos hn hsz
  exact h p e s m args below meth c H locs _ _ _ ls C.1 C.2.1 C hR hls hoL hos (k p e s m args below meth c H locs ls C hR hlo hls hoL (hok hoL hos) hn hsz)
theorem aEqPc (h : pc' = pc) (k : aRun w M pc' L st n0 n I R Q) : aRun w M pc L st n0 n I R Q := h ▸ k
theorem aEqL {L' : List (Option aV)} (h : L' = L) (k : aRun w M pc L' st n0 n I R Q) : aRun w M pc L st n0 n I R Q := h ▸ k
theorem aEqS {st' : List aV} (h : st' = st) (k : aRun w M pc L st' n0 n I R Q) : aRun w M pc L st n0 n I R Q := h ▸ k
theorem aEqI {I' : aIF} (h : I' = I) (k : aRun w M pc L st n0 n I' R Q) : aRun w M pc L st n0 n I R Q := h ▸ k
/-- fewer locals are known -/
theorem aLess {L' : List (Option aV)} (h : ∀ (i : Nat) (v : aV), L'[i]? = some (some v) → L[i]? = some (some v)) (k : aRun w M pc L' st n0 n I R Q) : aRun w M pc L st n0 n I R Q := by
  intro p e s m args below meth c H locs ls C hR hlo hls hoL hos hn hsz
  exact k p e s m args below meth c H locs ls C hR hlo ⟨hls.1, hls.2.1, fun i v hi => hls.2.2 i v (h i v hi)⟩ (fun i v hi => hoL i v (h i v hi)) hos hn hsz
/-- what is on the stack is in range -/
theorem aTopI {x : Int} (k : i32 x → aRun w M pc L (aI x :: st) n0 n I R Q) : aRun w M pc L (aI x :: st) n0 n I R Q := by
  intro p e s m args below meth c H locs ls C hR hlo hls hoL hos hn hsz
  exact k (aOkS_hd hos) p e s m args below meth c H locs ls C hR hlo hls hoL hos hn hsz
/-- what is in the heap is in range -/
theorem aHeap (k : aOkI I → aRun w M pc L st n0 n I R Q) : aRun w M pc L st n0 n I R Q := by
  intro p e s m args below meth c H locs ls C hR hlo hls hoL hos hn hsz
  exact k hR.2.2.1 p e s m args below meth c H locs ls C hR hlo hls hoL hos hn hsz
/-- what is in the locals is in range -/
theorem aLocI {x : Int} (i : Nat) (hl : L[i]? = some (some (aI x))) (k : i32 x → aRun w M pc L st n0 n I R Q) : aRun w M pc L st n0 n I R Q := by
  intro p e s m args below meth c H locs ls C hR hlo hls hoL hos hn hsz
  exact k (hoL i _ hl) p e s m args below meth c H locs ls C hR hlo hls hoL hos hn hsz

theorem aIconst {x : Int} (hv : i32 x) (hd : decode M.2.1 pc = .ok (.iconst x, 1)) (hp : pc + 1 = pc') (k : aRun w M pc' L (aI x :: st) n0 n I R Q) : aRun w M pc L (st) n0 n I R Q := by
  subst hp
  exact aStk (st := st) (st' := aI x :: st) (fun hoL hos => aOkS_cons (by first | exact hv | exact hv) hos) (fun p e s m args below meth c H locs cells slots Z ls hx hb C hR hls hoL hos k => lv_iconst hx hb hd rfl k) k
theorem aBipush {x : Int} (hv : -128 ≤ x ∧ x < 128) (hd : decode M.2.1 pc = .ok (.bipush x, 2)) (hp : pc + 2 = pc') (k : aRun w M pc' L (aI x :: st) n0 n I R Q) : aRun w M pc L (st) n0 n I R Q := by
  subst hp
  exact aStk (st := st) (st' := aI x :: st) (fun hoL hos => aOkS_cons (show i32 x by unfold i32; omega) hos) (fun p e s m args below meth c H locs cells slots Z ls hx hb C hR hls hoL hos k => lv_bipush hx hb hd (of32_eq (by rw [Int8.toInt_toInt32, Int8.toInt_ofInt, Int.bmod_eq_of_le (by simp only [Int8.size]; omega) (by simp only [Int8.size]; omega)])) k) k
theorem aSipush {x : Int} (hv : -32768 ≤ x ∧ x < 32768) (hd : decode M.2.1 pc = .ok (.sipush x, 3)) (hp : pc + 3 = pc') (k : aRun w M pc' L (aI x :: st) n0 n I R Q) : aRun w M pc L (st) n0 n I R Q := by
  subst hp
  exact aStk (st := st) (st' := aI x :: st) (fun hoL hos => aOkS_cons (show i32 x by unfold i32; omega) hos) (fun p e s m args below meth c H locs cells slots Z ls hx hb C hR hls hoL hos k => lv_sipush hx hb hd (of32_eq (by rw [Int16.toInt_toInt32, Int16.toInt_ofInt, Int.bmod_eq_of_le (by simp only [Int16.size]; omega) (by simp only [Int16.size]; omega)])) k) k
theorem aLconst0 (hd : decode M.2.1 pc = .ok (.lconst 0, 1)) (hp : pc + 1 = pc') (k : aRun w M pc' L (aL 0 :: st) n0 n I R Q) : aRun w M pc L (st) n0 n I R Q := by
  subst hp
  exact aStk (st := st) (st' := aL 0 :: st) (fun hoL hos => aOkS_cons (show i64 0 by unfold i64; omega) hos) (fun p e s m args below meth c H locs cells slots Z ls hx hb C hR hls hoL hos k => lv_lconst hx hb hd rfl k) k
theorem aLconst1 (hd : decode M.2.1 pc = .ok (.lconst 1, 1)) (hp : pc + 1 = pc') (k : aRun w M pc' L (aL 1 :: st) n0 n I R Q) : aRun w M pc L (st) n0 n I R Q := by
  subst hp
  exact aStk (st := st) (st' := aL 1 :: st) (fun hoL hos => aOkS_cons (show i64 1 by unfold i64; omega) hos) (fun p e s m args below meth c H locs cells slots Z ls hx hb C hR hls hoL hos k => lv_lconst hx hb hd rfl k) k
theorem aLdc {x : Int} {idx : Nat} (hc : Cond.constant M.1.cls idx (Int32.ofInt x) ∈ aTb) (hv : i32 x) (hd : decode M.2.1 pc = .ok (.ldc idx, 2)) (hp : pc + 2 = pc') (k : aRun w M pc' L (aI x :: st) n0 n I R Q) : aRun w M pc L (st) n0 n I R Q := by
  subst hp
  exact aStk (st := st) (st' := aI x :: st) (fun hoL hos => aOkS_cons hv hos) (fun p e s m args below meth c H locs cells slots Z ls hx hb C hR hls hoL hos k => lv_ldc hx hb C.2.2.2.2.1 (C.2.2.2.2.2.1 _ hc) hd k) k
theorem aLdc2 {x : Int} {idx : Nat} (hc : Cond.constantLong M.1.cls idx (Int64.ofInt x) ∈ aTb) (hv : i64 x) (hd : decode M.2.1 pc = .ok (.ldc2_w idx, 3)) (hp : pc + 3 = pc') (k : aRun w M pc' L (aL x :: st) n0 n I R Q) : aRun w M pc L (st) n0 n I R Q := by
  subst hp
  exact aStk (st := st) (st' := aL x :: st) (fun hoL hos => aOkS_cons hv hos) (fun p e s m args below meth c H locs cells slots Z ls hx hb C hR hls hoL hos k => lv_ldc2 hx hb C.2.2.2.2.1 (C.2.2.2.2.2.1 _ hc) hd k) k
theorem aIload {x : Int} {i : Nat} (hd : decode M.2.1 pc = .ok (.iload i, 2)) (hl : L[i]? = some (some (aI x))) (hp : pc + 2 = pc') (k : aRun w M pc' L (aI x :: st) n0 n I R Q) : aRun w M pc L (st) n0 n I R Q := by
  subst hp
  exact aStk (st := st) (st' := aI x :: st) (fun hoL hos => aOkS_cons (hoL i _ hl) hos) (fun p e s m args below meth c H locs cells slots Z ls hx hb C hR hls hoL hos k => lv_iload hx hb hd (hls.2.2 i _ hl) k) k
theorem aIload_n {x : Int} {i : Fin 4} (hd : decode M.2.1 pc = .ok (.iload_n i, 1)) (hl : L[i.val]? = some (some (aI x))) (hp : pc + 1 = pc') (k : aRun w M pc' L (aI x :: st) n0 n I R Q) : aRun w M pc L (st) n0 n I R Q := by
  subst hp
  exact aStk (st := st) (st' := aI x :: st) (fun hoL hos => aOkS_cons (hoL i.val _ hl) hos) (fun p e s m args below meth c H locs cells slots Z ls hx hb C hR hls hoL hos k => lv_iload_n hx hb hd rfl (hls.2.2 i.val _ hl) k) k
theorem aLload {x : Int} {i : Nat} (hd : decode M.2.1 pc = .ok (.lload i, 2)) (hl : L[i]? = some (some (aL x))) (hp : pc + 2 = pc') (k : aRun w M pc' L (aL x :: st) n0 n I R Q) : aRun w M pc L (st) n0 n I R Q := by
  subst hp
  exact aStk (st := st) (st' := aL x :: st) (fun hoL hos => aOkS_cons (hoL i _ hl) hos) (fun p e s m args below meth c H locs cells slots Z ls hx hb C hR hls hoL hos k => lv_lload hx hb hd (hls.2.2 i _ hl) k) k
theorem aLload_n {x : Int} {i : Fin 4} (hd : decode M.2.1 pc = .ok (.lload_n i, 1)) (hl : L[i.val]? = some (some (aL x))) (hp : pc + 1 = pc') (k : aRun w M pc' L (aL x :: st) n0 n I R Q) : aRun w M pc L (st) n0 n I R Q := by
  subst hp
  exact aStk (st := st) (st' := aL x :: st) (fun hoL hos => aOkS_cons (hoL i.val _ hl) hos) (fun p e s m args below meth c H locs cells slots Z ls hx hb C hR hls hoL hos k => lv_lload_n hx hb hd rfl (hls.2.2 i.val _ hl) k) k
theorem aAload {q : Nat × Nat} {i : Nat} (hd : decode M.2.1 pc = .ok (.aload i, 2)) (hl : L[i]? = some (some (aR (some q)))) (hp : pc + 2 = pc') (k : aRun w M pc' L (aR (some q) :: st) n0 n I R Q) : aRun w M pc L (st) n0 n I R Q := by
  subst hp
  exact aStk (st := st) (st' := aR (some q) :: st) (fun hoL hos => aOkS_cons (hoL i _ hl) hos) (fun p e s m args below meth c H locs cells slots Z ls hx hb C hR hls hoL hos k => lv_aload hx hb hd (hls.2.2 i _ hl) k) k
theorem aAload_n {q : Nat × Nat} {i : Fin 4} (hd : decode M.2.1 pc = .ok (.aload_n i, 1)) (hl : L[i.val]? = some (some (aR (some q)))) (hp : pc + 1 = pc') (k : aRun w M pc' L (aR (some q) :: st) n0 n I R Q) : aRun w M pc L (st) n0 n I R Q := by
  subst hp
  exact aStk (st := st) (st' := aR (some q) :: st) (fun hoL hos => aOkS_cons (hoL i.val _ hl) hos) (fun p e s m args below meth c H locs cells slots Z ls hx hb C hR hls hoL hos k => lv_aload_n hx hb hd rfl (hls.2.2 i.val _ hl) k) k
theorem aIadd {x y : Int} (h1 : -2147483648 ≤ x + y) (h2 : x + y < 2147483648) (hd : decode M.2.1 pc = .ok (.iadd, 1)) (hp : pc + 1 = pc') (k : aRun w M pc' L (aI (x + y) :: st) n0 n I R Q) : aRun w M pc L (aI y :: aI x :: st) n0 n I R Q := by
  subst hp
  exact aStk (st := aI y :: aI x :: st) (st' := aI (x + y) :: st) (fun hoL hos => aOkS_cons (show i32 _ from ⟨h1, h2⟩) (aOkS_tl (aOkS_tl hos))) (fun p e s m args below meth c H locs cells slots Z ls hx hb C hR hls hoL hos k => lv_iadd hx hb hd (by rw [of32_add (aOkS_hd (aOkS_tl hos)) (aOkS_hd hos) ⟨h1, h2⟩]; exact k)) k
theorem aIsub {x y : Int} (h1 : -2147483648 ≤ x - y) (h2 : x - y < 2147483648) (hd : decode M.2.1 pc = .ok (.isub, 1)) (hp : pc + 1 = pc') (k : aRun w M pc' L (aI (x - y) :: st) n0 n I R Q) : aRun w M pc L (aI y :: aI x :: st) n0 n I R Q := by
  subst hp
  exact aStk (st := aI y :: aI x :: st) (st' := aI (x - y) :: st) (fun hoL hos => aOkS_cons (show i32 _ from ⟨h1, h2⟩) (aOkS_tl (aOkS_tl hos))) (fun p e s m args below meth c H locs cells slots Z ls hx hb C hR hls hoL hos k => lv_isub hx hb hd (by rw [of32_sub (aOkS_hd (aOkS_tl hos)) (aOkS_hd hos) ⟨h1, h2⟩]; exact k)) k
theorem aImul {x y : Int} (h1 : -2147483648 ≤ x * y) (h2 : x * y < 2147483648) (hd : decode M.2.1 pc = .ok (.imul, 1)) (hp : pc + 1 = pc') (k : aRun w M pc' L (aI (x * y) :: st) n0 n I R Q) : aRun w M pc L (aI y :: aI x :: st) n0 n I R Q := by
  subst hp
  exact aStk (st := aI y :: aI x :: st) (st' := aI (x * y) :: st) (fun hoL hos => aOkS_cons (show i32 _ from ⟨h1, h2⟩) (aOkS_tl (aOkS_tl hos))) (fun p e s m args below meth c H locs cells slots Z ls hx hb C hR hls hoL hos k => lv_imul hx hb hd (by rw [of32_mul (aOkS_hd (aOkS_tl hos)) (aOkS_hd hos) ⟨h1, h2⟩]; exact k)) k
theorem aIaddw {x y : Int} (hd : decode M.2.1 pc = .ok (.iadd, 1)) (hp : pc + 1 = pc') (k : aRun w M pc' L (aI (w32 (x + y)) :: st) n0 n I R Q) : aRun w M pc L (aI y :: aI x :: st) n0 n I R Q := by
  subst hp
  exact aStk (st := aI y :: aI x :: st) (st' := aI (w32 (x + y)) :: st) (fun hoL hos => aOkS_cons (show i32 _ from i32_w _) (aOkS_tl (aOkS_tl hos))) (fun p e s m args below meth c H locs cells slots Z ls hx hb C hR hls hoL hos k => lv_iadd hx hb hd (by rw [of32_addw]; exact k)) k
theorem aIdiv {x y : Int} (h0 : 0 ≤ x) (h1 : 0 < y) (hd : decode M.2.1 pc = .ok (.idiv, 1)) (hp : pc + 1 = pc') (k : aRun w M pc' L (aI (x / y) :: st) n0 n I R Q) : aRun w M pc L (aI y :: aI x :: st) n0 n I R Q := by
  subst hp
  exact aStk (st := aI y :: aI x :: st) (st' := aI (x / y) :: st) (fun hoL hos => aOkS_cons (show i32 _ from i32_div (aOkS_hd (aOkS_tl hos)) h0 h1) (aOkS_tl (aOkS_tl hos))) (fun p e s m args below meth c H locs cells slots Z ls hx hb C hR hls hoL hos k => lv_idiv hx hb hd (fun q => by have := (of32_inj (aOkS_hd hos) i32_0).mp q; omega) (by rw [of32_div (aOkS_hd (aOkS_tl hos)) (aOkS_hd hos) h0 h1]; exact k)) k
theorem aIrem {x y : Int} (h0 : 0 ≤ x) (h1 : 0 < y) (hd : decode M.2.1 pc = .ok (.irem, 1)) (hp : pc + 1 = pc') (k : aRun w M pc' L (aI (x % y) :: st) n0 n I R Q) : aRun w M pc L (aI y :: aI x :: st) n0 n I R Q := by
  subst hp
  exact aStk (st := aI y :: aI x :: st) (st' := aI (x % y) :: st) (fun hoL hos => aOkS_cons (show i32 _ from i32_mod (aOkS_hd hos) h1) (aOkS_tl (aOkS_tl hos))) (fun p e s m args below meth c H locs cells slots Z ls hx hb C hR hls hoL hos k => lv_irem hx hb hd (fun q => by have := (of32_inj (aOkS_hd hos) i32_0).mp q; omega) (by rw [of32_rem (aOkS_hd (aOkS_tl hos)) (aOkS_hd hos) h0 h1]; exact k)) k
theorem aIand {x y : Int} (hd : decode M.2.1 pc = .ok (.iand, 1)) (hp : pc + 1 = pc') (k : aRun w M pc' L (aI ((Int32.ofInt x &&& Int32.ofInt y).toInt) :: st) n0 n I R Q) : aRun w M pc L (aI y :: aI x :: st) n0 n I R Q := by
  subst hp
  exact aStk (st := aI y :: aI x :: st) (st' := aI ((Int32.ofInt x &&& Int32.ofInt y).toInt) :: st) (fun hoL hos => aOkS_cons (show i32 _ from i32_of _) (aOkS_tl (aOkS_tl hos))) (fun p e s m args below meth c H locs cells slots Z ls hx hb C hR hls hoL hos k => lv_iand hx hb hd (by rw [of32_eq (rfl : (Int32.ofInt x &&& Int32.ofInt y).toInt = _)]; exact k)) k
theorem aIneg {x : Int} (h1 : -2147483648 < x) (hd : decode M.2.1 pc = .ok (.ineg, 1)) (hp : pc + 1 = pc') (k : aRun w M pc' L (aI (-x) :: st) n0 n I R Q) : aRun w M pc L (aI x :: st) n0 n I R Q := by
  subst hp
  exact aStk (st := aI x :: st) (st' := aI (-x) :: st) (fun hoL hos => aOkS_cons (show i32 (-x) by have := aOkS_hd hos; unfold aOk i32 at *; omega) (aOkS_tl hos)) (fun p e s m args below meth c H locs cells slots Z ls hx hb C hR hls hoL hos k => lv_ineg hx hb hd (by rw [of32_neg (aOkS_hd hos) (by have := aOkS_hd hos; unfold aOk at this; unfold i32 at *; omega)]; exact k)) k
theorem aLadd {x y : Int} (h1 : -9223372036854775808 ≤ x + y) (h2 : x + y < 9223372036854775808) (hd : decode M.2.1 pc = .ok (.ladd, 1)) (hp : pc + 1 = pc') (k : aRun w M pc' L (aL (x + y) :: st) n0 n I R Q) : aRun w M pc L (aL y :: aL x :: st) n0 n I R Q := by
  subst hp
  exact aStk (st := aL y :: aL x :: st) (st' := aL (x + y) :: st) (fun hoL hos => aOkS_cons (show i64 _ from ⟨h1, h2⟩) (aOkS_tl (aOkS_tl hos))) (fun p e s m args below meth c H locs cells slots Z ls hx hb C hR hls hoL hos k => lv_ladd hx hb hd (by rw [of64_add (aOkS_hd (aOkS_tl hos)) (aOkS_hd hos) ⟨h1, h2⟩]; exact k)) k
theorem aLsub {x y : Int} (h1 : -9223372036854775808 ≤ x - y) (h2 : x - y < 9223372036854775808) (hd : decode M.2.1 pc = .ok (.lsub, 1)) (hp : pc + 1 = pc') (k : aRun w M pc' L (aL (x - y) :: st) n0 n I R Q) : aRun w M pc L (aL y :: aL x :: st) n0 n I R Q := by
  subst hp
  exact aStk (st := aL y :: aL x :: st) (st' := aL (x - y) :: st) (fun hoL hos => aOkS_cons (show i64 _ from ⟨h1, h2⟩) (aOkS_tl (aOkS_tl hos))) (fun p e s m args below meth c H locs cells slots Z ls hx hb C hR hls hoL hos k => lv_lsub hx hb hd (by rw [of64_sub (aOkS_hd (aOkS_tl hos)) (aOkS_hd hos) ⟨h1, h2⟩]; exact k)) k
theorem aLmul {x y : Int} (h1 : -9223372036854775808 ≤ x * y) (h2 : x * y < 9223372036854775808) (hd : decode M.2.1 pc = .ok (.lmul, 1)) (hp : pc + 1 = pc') (k : aRun w M pc' L (aL (x * y) :: st) n0 n I R Q) : aRun w M pc L (aL y :: aL x :: st) n0 n I R Q := by
  subst hp
  exact aStk (st := aL y :: aL x :: st) (st' := aL (x * y) :: st) (fun hoL hos => aOkS_cons (show i64 _ from ⟨h1, h2⟩) (aOkS_tl (aOkS_tl hos))) (fun p e s m args below meth c H locs cells slots Z ls hx hb C hR hls hoL hos k => lv_lmul hx hb hd (by rw [of64_mul (aOkS_hd (aOkS_tl hos)) (aOkS_hd hos) ⟨h1, h2⟩]; exact k)) k
theorem aLdiv {x y : Int} (h1 : 0 < y) (hd : decode M.2.1 pc = .ok (.ldiv, 1)) (hp : pc + 1 = pc') (k : aRun w M pc' L (aL (x.tdiv y) :: st) n0 n I R Q) : aRun w M pc L (aL y :: aL x :: st) n0 n I R Q := by
  subst hp
  exact aStk (st := aL y :: aL x :: st) (st' := aL (x.tdiv y) :: st) (fun hoL hos => aOkS_cons (show i64 _ from i64_tdiv (aOkS_hd (aOkS_tl hos)) h1) (aOkS_tl (aOkS_tl hos))) (fun p e s m args below meth c H locs cells slots Z ls hx hb C hR hls hoL hos k => lv_ldiv hx hb hd (fun q => by have := (of64_inj (aOkS_hd hos) (show i64 0 by unfold i64; omega)).mp q; omega) (by rw [of64_tdiv (aOkS_hd (aOkS_tl hos)) (aOkS_hd hos) h1]; exact k)) k
theorem aLand {x y : Int} (hd : decode M.2.1 pc = .ok (.land, 1)) (hp : pc + 1 = pc') (k : aRun w M pc' L (aL ((Int64.ofInt x &&& Int64.ofInt y).toInt) :: st) n0 n I R Q) : aRun w M pc L (aL y :: aL x :: st) n0 n I R Q := by
  subst hp
  exact aStk (st := aL y :: aL x :: st) (st' := aL ((Int64.ofInt x &&& Int64.ofInt y).toInt) :: st) (fun hoL hos => aOkS_cons (show i64 _ from i64_of _) (aOkS_tl (aOkS_tl hos))) (fun p e s m args below meth c H locs cells slots Z ls hx hb C hR hls hoL hos k => lv_land hx hb hd (by rw [of64_eq (rfl : (Int64.ofInt x &&& Int64.ofInt y).toInt = _)]; exact k)) k
theorem aLor {x y : Int} (hd : decode M.2.1 pc = .ok (.lor, 1)) (hp : pc + 1 = pc') (k : aRun w M pc' L (aL ((Int64.ofInt x ||| Int64.ofInt y).toInt) :: st) n0 n I R Q) : aRun w M pc L (aL y :: aL x :: st) n0 n I R Q := by
  subst hp
  exact aStk (st := aL y :: aL x :: st) (st' := aL ((Int64.ofInt x ||| Int64.ofInt y).toInt) :: st) (fun hoL hos => aOkS_cons (show i64 _ from i64_of _) (aOkS_tl (aOkS_tl hos))) (fun p e s m args below meth c H locs cells slots Z ls hx hb C hR hls hoL hos k => lv_lor hx hb hd (by rw [of64_eq (rfl : (Int64.ofInt x ||| Int64.ofInt y).toInt = _)]; exact k)) k
theorem aLshl {x y : Int} (hd : decode M.2.1 pc = .ok (.lshl, 1)) (hp : pc + 1 = pc') (k : aRun w M pc' L (aL ((Int64.ofInt x <<< ((Int32.ofInt y).toInt64 &&& 63)).toInt) :: st) n0 n I R Q) : aRun w M pc L (aI y :: aL x :: st) n0 n I R Q := by
  subst hp
  exact aStk (st := aI y :: aL x :: st) (st' := aL ((Int64.ofInt x <<< ((Int32.ofInt y).toInt64 &&& 63)).toInt) :: st) (fun hoL hos => aOkS_cons (show i64 _ from i64_of _) (aOkS_tl (aOkS_tl hos))) (fun p e s m args below meth c H locs cells slots Z ls hx hb C hR hls hoL hos k => lv_lshl hx hb hd (of64_eq rfl) k) k
theorem aLcmp {x y : Int} (hd : decode M.2.1 pc = .ok (.lcmp, 1)) (hp : pc + 1 = pc') (k : aRun w M pc' L (aI (if y < x then 1 else if x = y then 0 else -1) :: st) n0 n I R Q) : aRun w M pc L (aL y :: aL x :: st) n0 n I R Q := by
  subst hp
  exact aStk (st := aL y :: aL x :: st) (st' := aI (if y < x then 1 else if x = y then 0 else -1) :: st) (fun hoL hos => aOkS_cons (show i32 _ by unfold i32; split; omega; split <;> omega) (aOkS_tl (aOkS_tl hos))) (fun p e s m args below meth c H locs cells slots Z ls hx hb C hR hls hoL hos k => W.lcmp hx hb hd (by rw [show lg_cmp (Int64.ofInt x) (Int64.ofInt y) = Int32.ofInt (if y < x then 1 else if x = y then 0 else -1) from by unfold lg_cmp; simp only [gt_iff_lt, of64_lt (aOkS_hd hos) (aOkS_hd (aOkS_tl hos)), of64_inj (aOkS_hd (aOkS_tl hos)) (aOkS_hd hos)]; split; rfl; split <;> rfl]; exact k)) k
theorem aI2l {x : Int} (hd : decode M.2.1 pc = .ok (.i2l, 1)) (hp : pc + 1 = pc') (k : aRun w M pc' L (aL x :: st) n0 n I R Q) : aRun w M pc L (aI x :: st) n0 n I R Q := by
  subst hp
  exact aStk (st := aI x :: st) (st' := aL x :: st) (fun hoL hos => aOkS_cons (show i64 x from i32_64 (aOkS_hd hos)) (aOkS_tl hos)) (fun p e s m args below meth c H locs cells slots Z ls hx hb C hR hls hoL hos k => lv_i2l hx hb hd (of64_eq (by rw [Int32.toInt_toInt64, i32_ti (aOkS_hd hos)])) k) k
theorem aL2i {x : Int} (hd : decode M.2.1 pc = .ok (.l2i, 1)) (hp : pc + 1 = pc') (k : aRun w M pc' L (aI ((Int64.ofInt x).toInt32.toInt) :: st) n0 n I R Q) : aRun w M pc L (aL x :: st) n0 n I R Q := by
  subst hp
  exact aStk (st := aL x :: st) (st' := aI ((Int64.ofInt x).toInt32.toInt) :: st) (fun hoL hos => aOkS_cons (show i32 _ from i32_of _) (aOkS_tl hos)) (fun p e s m args below meth c H locs cells slots Z ls hx hb C hR hls hoL hos k => lv_l2i hx hb hd (of32_eq rfl) k) k
theorem aI2b {x : Int} (hd : decode M.2.1 pc = .ok (.i2b, 1)) (hp : pc + 1 = pc') (k : aRun w M pc' L (aI ((Int32.ofInt x).toInt8.toInt32.toInt) :: st) n0 n I R Q) : aRun w M pc L (aI x :: st) n0 n I R Q := by
  subst hp
  exact aStk (st := aI x :: st) (st' := aI ((Int32.ofInt x).toInt8.toInt32.toInt) :: st) (fun hoL hos => aOkS_cons (show i32 _ from i32_of _) (aOkS_tl hos)) (fun p e s m args below meth c H locs cells slots Z ls hx hb C hR hls hoL hos k => lv_i2b hx hb hd (of32_eq rfl) k) k
theorem aI2s {x : Int} (hd : decode M.2.1 pc = .ok (.i2s, 1)) (hp : pc + 1 = pc') (k : aRun w M pc' L (aI ((Int32.ofInt x).toInt16.toInt32.toInt) :: st) n0 n I R Q) : aRun w M pc L (aI x :: st) n0 n I R Q := by
  subst hp
  exact aStk (st := aI x :: st) (st' := aI ((Int32.ofInt x).toInt16.toInt32.toInt) :: st) (fun hoL hos => aOkS_cons (show i32 _ from i32_of _) (aOkS_tl hos)) (fun p e s m args below meth c H locs cells slots Z ls hx hb C hR hls hoL hos k => lv_i2s hx hb hd (of32_eq rfl) k) k
theorem aDup {v : aV} (hc : aCat v = 1) (hd : decode M.2.1 pc = .ok (.dup, 1)) (hp : pc + 1 = pc') (k : aRun w M pc' L (v :: v :: st) n0 n I R Q) : aRun w M pc L (v :: st) n0 n I R Q := by
  subst hp
  exact aStk (st := v :: st) (st' := v :: v :: st) (fun hoL hos => aOkS_cons (aOkS_hd hos) hos) (fun p e s m args below meth c H locs cells slots Z ls hx hb C hR hls hoL hos k => lv_dup hx hb hd ((aDen_cat w v).trans hc) k) k
theorem aPop {v : aV} (hc : aCat v = 1) (hd : decode M.2.1 pc = .ok (.pop, 1)) (hp : pc + 1 = pc') (k : aRun w M pc' L (st) n0 n I R Q) : aRun w M pc L (v :: st) n0 n I R Q := by
  subst hp
  exact aStk (st := v :: st) (st' := st) (fun hoL hos => aOkS_tl hos) (fun p e s m args below meth c H locs cells slots Z ls hx hb C hR hls hoL hos k => lv_pop hx hb hd ((aDen_cat w v).trans hc) k) k
theorem aDup2 {v u : aV} (hc : aCat v = 1) (hc2 : aCat u = 1) (hd : decode M.2.1 pc = .ok (.dup2, 1)) (hp : pc + 1 = pc') (k : aRun w M pc' L (v :: u :: v :: u :: st) n0 n I R Q) : aRun w M pc L (v :: u :: st) n0 n I R Q := by
  subst hp
  exact aStk (st := v :: u :: st) (st' := v :: u :: v :: u :: st) (fun hoL hos => aOkS_cons (aOkS_hd hos) (aOkS_cons (aOkS_hd (aOkS_tl hos)) hos)) (fun p e s m args below meth c H locs cells slots Z ls hx hb C hR hls hoL hos k => lv_dup2_11 hx hb hd ((aDen_cat w v).trans hc) ((aDen_cat w u).trans hc2) k) k
theorem aGoto {off : Int} (hd : decode M.2.1 pc = .ok (.goto off, 3)) (hp : (pc : Int) + off = (pc' : Int)) (k : aRun w M pc' L st n0 n I R Q) : aRun w M pc L st n0 n I R Q :=
  aStk (fun hoL hos => hos) (fun p e s m args below meth c H locs cells slots Z ls hx hb C hR hls hoL hos k => lv_goto hx hb hd hp k) k
theorem aIcmp_eq {x y off : Int} {tgt : Nat} (hd : decode M.2.1 pc = .ok (.if_icmp .eq off, 3)) (ht : (pc : Int) + off = (tgt : Int)) (hp : pc + 3 = pc') (kt : x = y → aRun w M tgt L st n0 n I R Q) (kf : ¬ (x = y) → aRun w M pc' L st n0 n I R Q) : aRun w M pc L (aI y :: aI x :: st) n0 n I R Q := by
  subst hp
  intro p e s m args below meth c H locs ls C hR hlo hls hoL hos hn hsz
  exact lv_icmp_eq C.1 C.2.1 hd ht (fun q => kt ((of32_inj (aOkS_hd (aOkS_tl hos)) (aOkS_hd hos)).mp q) p e s m args below meth c H locs ls C hR hlo hls hoL (aOkS_tl (aOkS_tl hos)) hn hsz) (fun q => kf (fun z => q ((of32_inj (aOkS_hd (aOkS_tl hos)) (aOkS_hd hos)).mpr z)) p e s m args below meth c H locs ls C hR hlo hls hoL (aOkS_tl (aOkS_tl hos)) hn hsz)
theorem aIcmp_ne {x y off : Int} {tgt : Nat} (hd : decode M.2.1 pc = .ok (.if_icmp .ne off, 3)) (ht : (pc : Int) + off = (tgt : Int)) (hp : pc + 3 = pc') (kt : x ≠ y → aRun w M tgt L st n0 n I R Q) (kf : x = y → aRun w M pc' L st n0 n I R Q) : aRun w M pc L (aI y :: aI x :: st) n0 n I R Q := by
  subst hp
  intro p e s m args below meth c H locs ls C hR hlo hls hoL hos hn hsz
  exact lv_icmp_ne C.1 C.2.1 hd ht (fun q => kt (fun z => q ((of32_inj (aOkS_hd (aOkS_tl hos)) (aOkS_hd hos)).mpr z)) p e s m args below meth c H locs ls C hR hlo hls hoL (aOkS_tl (aOkS_tl hos)) hn hsz) (fun q => kf ((of32_inj (aOkS_hd (aOkS_tl hos)) (aOkS_hd hos)).mp q) p e s m args below meth c H locs ls C hR hlo hls hoL (aOkS_tl (aOkS_tl hos)) hn hsz)
theorem aIcmp_lt {x y off : Int} {tgt : Nat} (hd : decode M.2.1 pc = .ok (.if_icmp .lt off, 3)) (ht : (pc : Int) + off = (tgt : Int)) (hp : pc + 3 = pc') (kt : x < y → aRun w M tgt L st n0 n I R Q) (kf : ¬ (x < y) → aRun w M pc' L st n0 n I R Q) : aRun w M pc L (aI y :: aI x :: st) n0 n I R Q := by
  subst hp
  intro p e s m args below meth c H locs ls C hR hlo hls hoL hos hn hsz
  exact lv_icmp_lt C.1 C.2.1 hd ht (fun q => kt ((of32_lt (aOkS_hd (aOkS_tl hos)) (aOkS_hd hos)).mp q) p e s m args below meth c H locs ls C hR hlo hls hoL (aOkS_tl (aOkS_tl hos)) hn hsz) (fun q => kf (fun z => q ((of32_lt (aOkS_hd (aOkS_tl hos)) (aOkS_hd hos)).mpr z)) p e s m args below meth c H locs ls C hR hlo hls hoL (aOkS_tl (aOkS_tl hos)) hn hsz)
theorem aIcmp_ge {x y off : Int} {tgt : Nat} (hd : decode M.2.1 pc = .ok (.if_icmp .ge off, 3)) (ht : (pc : Int) + off = (tgt : Int)) (hp : pc + 3 = pc') (kt : y ≤ x → aRun w M tgt L st n0 n I R Q) (kf : ¬ (y ≤ x) → aRun w M pc' L st n0 n I R Q) : aRun w M pc L (aI y :: aI x :: st) n0 n I R Q := by
  subst hp
  intro p e s m args below meth c H locs ls C hR hlo hls hoL hos hn hsz
  exact lv_icmp_ge C.1 C.2.1 hd ht (fun q => kt ((of32_le (aOkS_hd hos) (aOkS_hd (aOkS_tl hos))).mp q) p e s m args below meth c H locs ls C hR hlo hls hoL (aOkS_tl (aOkS_tl hos)) hn hsz) (fun q => kf (fun z => q ((of32_le (aOkS_hd hos) (aOkS_hd (aOkS_tl hos))).mpr z)) p e s m args below meth c H locs ls C hR hlo hls hoL (aOkS_tl (aOkS_tl hos)) hn hsz)
theorem aIcmp_gt {x y off : Int} {tgt : Nat} (hd : decode M.2.1 pc = .ok (.if_icmp .gt off, 3)) (ht : (pc : Int) + off = (tgt : Int)) (hp : pc + 3 = pc') (kt : y < x → aRun w M tgt L st n0 n I R Q) (kf : ¬ (y < x) → aRun w M pc' L st n0 n I R Q) : aRun w M pc L (aI y :: aI x :: st) n0 n I R Q := by
  subst hp
  intro p e s m args below meth c H locs ls C hR hlo hls hoL hos hn hsz
  exact lv_icmp_gt C.1 C.2.1 hd ht (fun q => kt ((of32_lt (aOkS_hd hos) (aOkS_hd (aOkS_tl hos))).mp q) p e s m args below meth c H locs ls C hR hlo hls hoL (aOkS_tl (aOkS_tl hos)) hn hsz) (fun q => kf (fun z => q ((of32_lt (aOkS_hd hos) (aOkS_hd (aOkS_tl hos))).mpr z)) p e s m args below meth c H locs ls C hR hlo hls hoL (aOkS_tl (aOkS_tl hos)) hn hsz)
theorem aIcmp_le {x y off : Int} {tgt : Nat} (hd : decode M.2.1 pc = .ok (.if_icmp .le off, 3)) (ht : (pc : Int) + off = (tgt : Int)) (hp : pc + 3 = pc') (kt : x ≤ y → aRun w M tgt L st n0 n I R Q) (kf : ¬ (x ≤ y) → aRun w M pc' L st n0 n I R Q) : aRun w M pc L (aI y :: aI x :: st) n0 n I R Q := by
  subst hp
  intro p e s m args below meth c H locs ls C hR hlo hls hoL hos hn hsz
  exact lv_icmp_le C.1 C.2.1 hd ht (fun q => kt ((of32_le (aOkS_hd (aOkS_tl hos)) (aOkS_hd hos)).mp q) p e s m args below meth c H locs ls C hR hlo hls hoL (aOkS_tl (aOkS_tl hos)) hn hsz) (fun q => kf (fun z => q ((of32_le (aOkS_hd (aOkS_tl hos)) (aOkS_hd hos)).mpr z)) p e s m args below meth c H locs ls C hR hlo hls hoL (aOkS_tl (aOkS_tl hos)) hn hsz)
theorem aIf_eq {x off : Int} {tgt : Nat} (hd : decode M.2.1 pc = .ok (.ifCond .eq off, 3)) (ht : (pc : Int) + off = (tgt : Int)) (hp : pc + 3 = pc') (kt : x = 0 → aRun w M tgt L st n0 n I R Q) (kf : ¬ (x = 0) → aRun w M pc' L st n0 n I R Q) : aRun w M pc L (aI x :: st) n0 n I R Q := by
  subst hp
  intro p e s m args below meth c H locs ls C hR hlo hls hoL hos hn hsz
  exact lv_if_eq C.1 C.2.1 hd ht (fun q => kt ((of32_inj (y := 0) (x := x) (aOkS_hd hos) i32_0).mp q) p e s m args below meth c H locs ls C hR hlo hls hoL (aOkS_tl hos) hn hsz) (fun q => kf (fun z => q ((of32_inj (y := 0) (x := x) (aOkS_hd hos) i32_0).mpr z)) p e s m args below meth c H locs ls C hR hlo hls hoL (aOkS_tl hos) hn hsz)
theorem aIf_ne {x off : Int} {tgt : Nat} (hd : decode M.2.1 pc = .ok (.ifCond .ne off, 3)) (ht : (pc : Int) + off = (tgt : Int)) (hp : pc + 3 = pc') (kt : x ≠ 0 → aRun w M tgt L st n0 n I R Q) (kf : x = 0 → aRun w M pc' L st n0 n I R Q) : aRun w M pc L (aI x :: st) n0 n I R Q := by
  subst hp
  intro p e s m args below meth c H locs ls C hR hlo hls hoL hos hn hsz
  exact lv_if_ne C.1 C.2.1 hd ht (fun q => kt (fun z => q ((of32_inj (y := 0) (x := x) (aOkS_hd hos) i32_0).mpr z)) p e s m args below meth c H locs ls C hR hlo hls hoL (aOkS_tl hos) hn hsz) (fun q => kf ((of32_inj (y := 0) (x := x) (aOkS_hd hos) i32_0).mp q) p e s m args below meth c H locs ls C hR hlo hls hoL (aOkS_tl hos) hn hsz)
theorem aIf_lt {x off : Int} {tgt : Nat} (hd : decode M.2.1 pc = .ok (.ifCond .lt off, 3)) (ht : (pc : Int) + off = (tgt : Int)) (hp : pc + 3 = pc') (kt : x < 0 → aRun w M tgt L st n0 n I R Q) (kf : ¬ (x < 0) → aRun w M pc' L st n0 n I R Q) : aRun w M pc L (aI x :: st) n0 n I R Q := by
  subst hp
  intro p e s m args below meth c H locs ls C hR hlo hls hoL hos hn hsz
  exact lv_if_lt C.1 C.2.1 hd ht (fun q => kt ((of32_lt (y := 0) (x := x) (aOkS_hd hos) i32_0).mp q) p e s m args below meth c H locs ls C hR hlo hls hoL (aOkS_tl hos) hn hsz) (fun q => kf (fun z => q ((of32_lt (y := 0) (x := x) (aOkS_hd hos) i32_0).mpr z)) p e s m args below meth c H locs ls C hR hlo hls hoL (aOkS_tl hos) hn hsz)
theorem aIf_ge {x off : Int} {tgt : Nat} (hd : decode M.2.1 pc = .ok (.ifCond .ge off, 3)) (ht : (pc : Int) + off = (tgt : Int)) (hp : pc + 3 = pc') (kt : 0 ≤ x → aRun w M tgt L st n0 n I R Q) (kf : ¬ (0 ≤ x) → aRun w M pc' L st n0 n I R Q) : aRun w M pc L (aI x :: st) n0 n I R Q := by
  subst hp
  intro p e s m args below meth c H locs ls C hR hlo hls hoL hos hn hsz
  exact lv_if_ge C.1 C.2.1 hd ht (fun q => kt ((of32_le (y := x) (x := 0) i32_0 (aOkS_hd hos)).mp q) p e s m args below meth c H locs ls C hR hlo hls hoL (aOkS_tl hos) hn hsz) (fun q => kf (fun z => q ((of32_le (y := x) (x := 0) i32_0 (aOkS_hd hos)).mpr z)) p e s m args below meth c H locs ls C hR hlo hls hoL (aOkS_tl hos) hn hsz)
theorem aIf_gt {x off : Int} {tgt : Nat} (hd : decode M.2.1 pc = .ok (.ifCond .gt off, 3)) (ht : (pc : Int) + off = (tgt : Int)) (hp : pc + 3 = pc') (kt : 0 < x → aRun w M tgt L st n0 n I R Q) (kf : ¬ (0 < x) → aRun w M pc' L st n0 n I R Q) : aRun w M pc L (aI x :: st) n0 n I R Q := by
  subst hp
  intro p e s m args below meth c H locs ls C hR hlo hls hoL hos hn hsz
  exact lv_if_gt C.1 C.2.1 hd ht (fun q => kt ((of32_lt (y := x) (x := 0) i32_0 (aOkS_hd hos)).mp q) p e s m args below meth c H locs ls C hR hlo hls hoL (aOkS_tl hos) hn hsz) (fun q => kf (fun z => q ((of32_lt (y := x) (x := 0) i32_0 (aOkS_hd hos)).mpr z)) p e s m args below meth c H locs ls C hR hlo hls hoL (aOkS_tl hos) hn hsz)
theorem aIf_le {x off : Int} {tgt : Nat} (hd : decode M.2.1 pc = .ok (.ifCond .le off, 3)) (ht : (pc : Int) + off = (tgt : Int)) (hp : pc + 3 = pc') (kt : x ≤ 0 → aRun w M tgt L st n0 n I R Q) (kf : ¬ (x ≤ 0) → aRun w M pc' L st n0 n I R Q) : aRun w M pc L (aI x :: st) n0 n I R Q := by
  subst hp
  intro p e s m args below meth c H locs ls C hR hlo hls hoL hos hn hsz
  exact lv_if_le C.1 C.2.1 hd ht (fun q => kt ((of32_le (y := 0) (x := x) (aOkS_hd hos) i32_0).mp q) p e s m args below meth c H locs ls C hR hlo hls hoL (aOkS_tl hos) hn hsz) (fun q => kf (fun z => q ((of32_le (y := 0) (x := x) (aOkS_hd hos) i32_0).mpr z)) p e s m args below meth c H locs ls C hR hlo hls hoL (aOkS_tl hos) hn hsz)
theorem aTswOut {x dflt lo hi : Int} {offs : Array Int} {len tgt : Nat} (hd : decode M.2.1 pc = .ok (.tableswitch dflt lo hi offs, len)) (h : x < lo ∨ hi < x) (ht : (pc : Int) + dflt = (tgt : Int)) (k : aRun w M tgt L st n0 n I R Q) : aRun w M pc L (aI x :: st) n0 n I R Q :=
  aStk (fun hoL hos => aOkS_tl hos) (fun p e s m args below meth c H locs cells slots Z ls hx hb C hR hls hoL hos k => lv_tableOut hx hb hd (by rw [i32_ti (aOkS_hd hos)]; exact h) ht k) k
theorem aTswIn {x dflt lo hi off : Int} {offs : Array Int} {len tgt : Nat} (hd : decode M.2.1 pc = .ok (.tableswitch dflt lo hi offs, len)) (h1 : ¬ x < lo) (h2 : ¬ hi < x) (ho : offs[(x - lo).toNat]? = some off) (ht : (pc : Int) + off = (tgt : Int)) (k : aRun w M tgt L st n0 n I R Q) : aRun w M pc L (aI x :: st) n0 n I R Q :=
  aStk (fun hoL hos => aOkS_tl hos) (fun p e s m args below meth c H locs cells slots Z ls hx hb C hR hls hoL hos k => lv_tableIn hx hb hd (by rw [i32_ti (aOkS_hd hos)]; exact h1) (by rw [i32_ti (aOkS_hd hos)]; exact h2) (by rw [i32_ti (aOkS_hd hos)]; exact ho) ht k) k
theorem aIstore_n {i : Fin 4} {x : Int} (hd : decode M.2.1 pc = .ok (.istore_n i, 1)) (hn1 : i.val < M.2.2.1) (hp : pc + 1 = pc') {L' : List (Option aV)} (hL : aSet1 L i.val (aI x) = L') (k : aRun w M pc' L' st n0 n I R Q) : aRun w M pc L (aI x :: st) n0 n I R Q := by
  subst hp
  subst hL
  intro p e s m args below meth c H locs ls C hR hlo hls hoL hos hn hsz
  exact lv_istore_n C.1 C.2.1 hd rfl (aLs_has hls) hn1 rfl (fun ls' h' => k p e s m args below meth c H locs ls' C hR hlo (aLs_set1 h') (aOkL_set1 hoL (aOkS_hd hos)) (aOkS_tl hos) hn hsz)
theorem aLstore_n {i : Fin 4} {x : Int} (hd : decode M.2.1 pc = .ok (.lstore_n i, 1)) (hn1 : i.val + 1 < M.2.2.1) (hp : pc + 1 = pc') {L' : List (Option aV)} (hL : aSet2 L i.val (aL x) = L') (k : aRun w M pc' L' st n0 n I R Q) : aRun w M pc L (aL x :: st) n0 n I R Q := by
  subst hp
  subst hL
  intro p e s m args below meth c H locs ls C hR hlo hls hoL hos hn hsz
  exact lv_lstore_n C.1 C.2.1 hd rfl (aLs_has hls) hn1 rfl (fun ls' h' => k p e s m args below meth c H locs ls' C hR hlo (aLs_set2 h') (aOkL_set2 hoL (aOkS_hd hos)) (aOkS_tl hos) hn hsz)
theorem aAstore_n {i : Fin 4} {q : Nat × Nat} (hd : decode M.2.1 pc = .ok (.astore_n i, 1)) (hn1 : i.val < M.2.2.1) (hp : pc + 1 = pc') {L' : List (Option aV)} (hL : aSet1 L i.val (aR (some q)) = L') (k : aRun w M pc' L' st n0 n I R Q) : aRun w M pc L (aR (some q) :: st) n0 n I R Q := by
  subst hp
  subst hL
  intro p e s m args below meth c H locs ls C hR hlo hls hoL hos hn hsz
  exact lv_astore_n C.1 C.2.1 hd rfl (aLs_has hls) hn1 rfl (fun ls' h' => k p e s m args below meth c H locs ls' C hR hlo (aLs_set1 h') (aOkL_set1 hoL (aOkS_hd hos)) (aOkS_tl hos) hn hsz)
theorem aIstore {i : Nat} {x : Int} (hd : decode M.2.1 pc = .ok (.istore i, 2)) (hn1 : i < M.2.2.1) (hp : pc + 2 = pc') {L' : List (Option aV)} (hL : aSet1 L i (aI x) = L') (k : aRun w M pc' L' st n0 n I R Q) : aRun w M pc L (aI x :: st) n0 n I R Q := by
  subst hp
  subst hL
  intro p e s m args below meth c H locs ls C hR hlo hls hoL hos hn hsz
  exact lv_istore C.1 C.2.1 hd (aLs_has hls) hn1 rfl (fun ls' h' => k p e s m args below meth c H locs ls' C hR hlo (aLs_set1 h') (aOkL_set1 hoL (aOkS_hd hos)) (aOkS_tl hos) hn hsz)
theorem aLstore {i : Nat} {x : Int} (hd : decode M.2.1 pc = .ok (.lstore i, 2)) (hn1 : i + 1 < M.2.2.1) (hp : pc + 2 = pc') {L' : List (Option aV)} (hL : aSet2 L i (aL x) = L') (k : aRun w M pc' L' st n0 n I R Q) : aRun w M pc L (aL x :: st) n0 n I R Q := by
  subst hp
  subst hL
  intro p e s m args below meth c H locs ls C hR hlo hls hoL hos hn hsz
  exact lv_lstore C.1 C.2.1 hd (aLs_has hls) hn1 rfl (fun ls' h' => k p e s m args below meth c H locs ls' C hR hlo (aLs_set2 h') (aOkL_set2 hoL (aOkS_hd hos)) (aOkS_tl hos) hn hsz)
theorem aAstore {i : Nat} {q : Nat × Nat} (hd : decode M.2.1 pc = .ok (.astore i, 2)) (hn1 : i < M.2.2.1) (hp : pc + 2 = pc') {L' : List (Option aV)} (hL : aSet1 L i (aR (some q)) = L') (k : aRun w M pc' L' st n0 n I R Q) : aRun w M pc L (aR (some q) :: st) n0 n I R Q := by
  subst hp
  subst hL
  intro p e s m args below meth c H locs ls C hR hlo hls hoL hos hn hsz
  exact lv_astore C.1 C.2.1 hd (aLs_has hls) hn1 rfl (fun ls' h' => k p e s m args below meth c H locs ls' C hR hlo (aLs_set1 h') (aOkL_set1 hoL (aOkS_hd hos)) (aOkS_tl hos) hn hsz)
theorem aIinc {i : Nat} {x d : Int} (hd : decode M.2.1 pc = .ok (.iinc i d, 3)) (hl : L[i]? = some (some (aI x))) (hn1 : i < M.2.2.1) (hv : i32 d) (h1 : -2147483648 ≤ x + d) (h2 : x + d < 2147483648) (hp : pc + 3 = pc') {L' : List (Option aV)} (hL : aSet1 L i (aI (x + d)) = L') (k : aRun w M pc' L' st n0 n I R Q) : aRun w M pc L st n0 n I R Q := by
  subst hp
  subst hL
  intro p e s m args below meth c H locs ls C hR hlo hls hoL hos hn hsz
  obtain ⟨q, hq⟩ := List.getElem?_of_mem (aPr_of (w := w) hl)
  exact lv_iinc C.1 C.2.1 hd (aLs_has hls) hq (of32_add (hoL i _ hl) hv ⟨h1, h2⟩) hn1 rfl (fun ls' h' => k p e s m args below meth c H locs ls' C hR hlo (aLs_set1 (v := aI (x + d)) h') (aOkL_set1 hoL (show i32 _ from ⟨h1, h2⟩)) hos hn hsz)
end AMS
