/-! Math.max, Math.min -/
theorem cod_max : Cond.code Lib.Math.max.name Lib.Math.max.code 2 (some .int) ∈ aTb := aTb_at 550 (by decide +kernel) (by decide +kernel)
theorem cod_min : Cond.code Lib.Math.min.name Lib.Math.min.code 2 (some .int) ∈ aTb := aTb_at 441 (by decide +kernel) (by decide +kernel)
theorem cod_minL : Cond.code Lib.MathLoose.min_long.x Lib.MathLoose.min_long.code 4 (some .long) ∈ aTb := aTb_at 1015 (by decide +kernel) (by decide +kernel)
section AMM
variable {w : aW} {M : aM} {pc pc' : Nat} {L : List (Option aV)} {st : List aV} {n0 n : Nat} {I : aIF} {R : aRF} {Q : aQ}
theorem aMax {x y : Int} {idx : Nat} (hd : decode M.2.1 pc = .ok (.invokestatic idx, 3)) (hf : aSk M.1.cls idx mJ9_max_7cf53) (hfr : Nat.ble 1 M.2.2.2.2.frames = true) (h8 : Nat.ble ((st.map aCat).sum + 13) M.2.2.2.2.locals = true) (hc : n ≤ n0 + M.2.2.2.2.cells) (hs : aSz n ≤ aSz n0 + M.2.2.2.2.slots) (hp : pc + 3 = pc') (kk : aRun w M pc' L (aI (max x y) :: st) n0 n I R Q) : aRun w M pc L (aI y :: aI x :: st) n0 n I R Q := by
  subst hp
  intro p e s m args below meth c9 H locs ls C hR hlo hls hoL hos hn hsz
  obtain ⟨hx, hb, hr, hml, hown, hts, hlk, hin, hK, -⟩ := id C
  have ox : i32 x := aOkS_hd (aOkS_tl hos)
  have oy : i32 y := aOkS_hd hos
  have h8 := Nat.le_of_ble_eq_true h8
  have k9 := kk p e s m args below meth c9 H locs ls C hR hlo hls hoL (aOkS_cons (show i32 (max x y) by rw [Int.max_def]; split <;> assumption) (aOkS_tl (aOkS_tl hos))) hn hsz
  refine va_mmax hx hb (hml.trans hls.1.symm) hown (hts _ hf.1.1) (hts _ hf.1.2.1) (hts _ iniJ9) (hts _ cod_max) (Nat.le_of_ble_eq_true hfr) ?_ (by omega) (by omega) hd ?_
  · rw [List.map_map, show ((fun v => Value.category v) ∘ aDen w) = aCat from funext (aDen_cat w)]
    exact h8
  · rw [show (if Int32.ofInt x < Int32.ofInt y then Int32.ofInt y else Int32.ofInt x) = Int32.ofInt (max x y) from by
      simp only [of32_lt ox oy]
      rw [Int.max_def]
      by_cases h : x < y
      · rw [if_pos h, if_pos (by omega)]
      · rw [if_neg h]
        by_cases h2 : x ≤ y
        · rw [if_pos h2, show x = y by omega]
        · rw [if_neg h2]]
    exact k9
theorem aMin {x y : Int} {idx : Nat} (hd : decode M.2.1 pc = .ok (.invokestatic idx, 3)) (hf : aSk M.1.cls idx mJ9_min_7cf53) (hfr : Nat.ble 1 M.2.2.2.2.frames = true) (h8 : Nat.ble ((st.map aCat).sum + 13) M.2.2.2.2.locals = true) (hc : n ≤ n0 + M.2.2.2.2.cells) (hs : aSz n ≤ aSz n0 + M.2.2.2.2.slots) (hp : pc + 3 = pc') (kk : aRun w M pc' L (aI (min x y) :: st) n0 n I R Q) : aRun w M pc L (aI y :: aI x :: st) n0 n I R Q := by
  subst hp
  intro p e s m args below meth c9 H locs ls C hR hlo hls hoL hos hn hsz
  obtain ⟨hx, hb, hr, hml, hown, hts, hlk, hin, hK, -⟩ := id C
  have ox : i32 x := aOkS_hd (aOkS_tl hos)
  have oy : i32 y := aOkS_hd hos
  have h8 := Nat.le_of_ble_eq_true h8
  have k9 := kk p e s m args below meth c9 H locs ls C hR hlo hls hoL (aOkS_cons (show i32 (min x y) by rw [Int.min_def]; split <;> assumption) (aOkS_tl (aOkS_tl hos))) hn hsz
  refine va_mmin hx hb (hml.trans hls.1.symm) hown (hts _ hf.1.1) (hts _ hf.1.2.1) (hts _ iniJ9) (hts _ cod_min) (Nat.le_of_ble_eq_true hfr) ?_ (by omega) (by omega) hd ?_
  · rw [List.map_map, show ((fun v => Value.category v) ∘ aDen w) = aCat from funext (aDen_cat w)]
    exact h8
  · rw [show (if Int32.ofInt y < Int32.ofInt x then Int32.ofInt y else Int32.ofInt x) = Int32.ofInt (min x y) from by
      simp only [of32_lt oy ox]
      rw [Int.min_def]
      by_cases h : y < x
      · rw [if_pos h, if_neg (by omega)]
      · rw [if_neg h, if_pos (by omega)]]
    exact k9
theorem aMinL {x y : Int} {idx : Nat} (hd : decode M.2.1 pc = .ok (.invokestatic idx, 3)) (hf : aSk M.1.cls idx mJ9_min_f86c9) (hfr : Nat.ble 1 M.2.2.2.2.frames = true) (h8 : Nat.ble ((st.map aCat).sum + 15) M.2.2.2.2.locals = true) (hc : n ≤ n0 + M.2.2.2.2.cells) (hs : aSz n ≤ aSz n0 + M.2.2.2.2.slots) (hp : pc + 3 = pc') (kk : aRun w M pc' L (aL (min x y) :: st) n0 n I R Q) : aRun w M pc L (aL y :: aL x :: st) n0 n I R Q := by
  subst hp
  intro p e s m args below meth c9 H locs ls C hR hlo hls hoL hos hn hsz
  obtain ⟨hx, hb, hr, hml, hown, hts, hlk, hin, hK, -⟩ := id C
  have ox : i64 x := aOkS_hd (aOkS_tl hos)
  have oy : i64 y := aOkS_hd hos
  have h8 := Nat.le_of_ble_eq_true h8
  have k9 := kk p e s m args below meth c9 H locs ls C hR hlo hls hoL (aOkS_cons (show i64 (min x y) by rw [Int.min_def]; split <;> assumption) (aOkS_tl (aOkS_tl hos))) hn hsz
  refine va_mmin_long hx hb (hml.trans hls.1.symm) hown (hts _ hf.1.1) (hts _ hf.1.2.1) (hts _ iniJ9) (hts _ cod_minL) (Nat.le_of_ble_eq_true hfr) ?_ (by omega) (by omega) hd ?_
  · rw [List.map_map, show ((fun v => Value.category v) ∘ aDen w) = aCat from funext (aDen_cat w)]
    exact h8
  · rw [show (if Int64.ofInt y < Int64.ofInt x then Int64.ofInt y else Int64.ofInt x) = Int64.ofInt (min x y) from by
      simp only [of64_lt oy ox]
      rw [Int.min_def]
      by_cases h : y < x
      · rw [if_pos h, if_neg (by omega)]
      · rw [if_neg h, if_pos (by omega)]]
    exact k9
end AMM
