/-! THE ABSTRACT MACHINE: ints and longs as Int, cells by kind and number; 'aRun' says that the machine, at such a point, comes to the method's end with Q -/
abbrev aV : Type := Int ⊕ Int ⊕ Option (Nat × Nat)
abbrev aI (x : Int) : aV := .inl x
abbrev aL (x : Int) : aV := .inr (.inl x)
abbrev aR (r : Option (Nat × Nat)) : aV := .inr (.inr r)
abbrev aO (k i : Nat) : aV := .inr (.inr (some (k, i)))
abbrev aIF : Type := Nat → Nat → Nat → Int
abbrev aRF : Type := Nat → Nat → Nat → Option (Nat × Nat)
def i32 (x : Int) : Prop := -2147483648 ≤ x ∧ x < 2147483648
def i64 (x : Int) : Prop := -9223372036854775808 ≤ x ∧ x < 9223372036854775808
def w32 (x : Int) : Int := (Int32.ofInt x).toInt
def w64 (x : Int) : Int := (Int64.ofInt x).toInt
theorem i32_of (x : Int32) : i32 x.toInt := by
  have h1 := Int32.le_toInt x
  have h2 := Int32.toInt_lt x
  unfold i32
  omega
theorem i64_of (x : Int64) : i64 x.toInt := by
  have h1 := Int64.le_toInt x
  have h2 := Int64.toInt_lt x
  unfold i64
  omega
theorem i32_w (x : Int) : i32 (w32 x) := i32_of _
theorem i64_w (x : Int) : i64 (w64 x) := i64_of _
theorem i32_bm {z : Int} (h : i32 z) : z.bmod (2 ^ 32) = z := by
  obtain ⟨h1, h2⟩ := h
  rw [Int.bmod_eq_of_le (by omega) (by omega)]
theorem i64_bm {z : Int} (h : i64 z) : z.bmod (2 ^ 64) = z := by
  obtain ⟨h1, h2⟩ := h
  rw [Int.bmod_eq_of_le (by omega) (by omega)]
theorem i32_ti {z : Int} (h : i32 z) : (Int32.ofInt z).toInt = z := by
  rw [Int32.toInt_ofInt, i32_bm h]
theorem i64_ti {z : Int} (h : i64 z) : (Int64.ofInt z).toInt = z := by
  rw [Int64.toInt_ofInt, i64_bm h]
theorem w32_eq {z : Int} (h : i32 z) : w32 z = z := i32_ti h
theorem w64_eq {z : Int} (h : i64 z) : w64 z = z := i64_ti h
theorem i32_64 {z : Int} (h : i32 z) : i64 z := by
  obtain ⟨h1, h2⟩ := h
  constructor <;> omega
theorem of32_eq {x : Int32} {z : Int} (h : x.toInt = z) : x = Int32.ofInt z := by
  rw [← h, Int32.ofInt_toInt]
theorem of64_eq {x : Int64} {z : Int} (h : x.toInt = z) : x = Int64.ofInt z := by
  rw [← h, Int64.ofInt_toInt]
theorem of32_w (z : Int) : Int32.ofInt (w32 z) = Int32.ofInt z := Int32.ofInt_toInt _
theorem of64_w (z : Int) : Int64.ofInt (w64 z) = Int64.ofInt z := Int64.ofInt_toInt _
theorem of32_add {x y : Int} (hx : i32 x) (hy : i32 y) (h : i32 (x + y)) : Int32.ofInt x + Int32.ofInt y = Int32.ofInt (x + y) := of32_eq (by rw [Int32.toInt_add, i32_ti hx, i32_ti hy, i32_bm h])
theorem of32_sub {x y : Int} (hx : i32 x) (hy : i32 y) (h : i32 (x - y)) : Int32.ofInt x - Int32.ofInt y = Int32.ofInt (x - y) := of32_eq (by rw [Int32.toInt_sub, i32_ti hx, i32_ti hy, i32_bm h])
theorem of32_mul {x y : Int} (hx : i32 x) (hy : i32 y) (h : i32 (x * y)) : Int32.ofInt x * Int32.ofInt y = Int32.ofInt (x * y) := of32_eq (by rw [Int32.toInt_mul, i32_ti hx, i32_ti hy, i32_bm h])
theorem of32_neg {x : Int} (hx : i32 x) (h : i32 (-x)) : -Int32.ofInt x = Int32.ofInt (-x) := of32_eq (by rw [Int32.toInt_neg, i32_ti hx, i32_bm h])
theorem of32_addw {x y : Int} : Int32.ofInt x + Int32.ofInt y = Int32.ofInt (w32 (x + y)) := by
  rw [of32_w, Int32.ofInt_add]
theorem of64_add {x y : Int} (hx : i64 x) (hy : i64 y) (h : i64 (x + y)) : Int64.ofInt x + Int64.ofInt y = Int64.ofInt (x + y) := of64_eq (by rw [Int64.toInt_add, i64_ti hx, i64_ti hy, i64_bm h])
theorem of64_sub {x y : Int} (hx : i64 x) (hy : i64 y) (h : i64 (x - y)) : Int64.ofInt x - Int64.ofInt y = Int64.ofInt (x - y) := of64_eq (by rw [Int64.toInt_sub, i64_ti hx, i64_ti hy, i64_bm h])
theorem of64_mul {x y : Int} (hx : i64 x) (hy : i64 y) (h : i64 (x * y)) : Int64.ofInt x * Int64.ofInt y = Int64.ofInt (x * y) := of64_eq (by rw [Int64.toInt_mul, i64_ti hx, i64_ti hy, i64_bm h])
theorem of32_lt {x y : Int} (hx : i32 x) (hy : i32 y) : Int32.ofInt x < Int32.ofInt y ↔ x < y := by
  rw [Int32.lt_iff_toInt_lt, i32_ti hx, i32_ti hy]
theorem of32_le {x y : Int} (hx : i32 x) (hy : i32 y) : Int32.ofInt x ≤ Int32.ofInt y ↔ x ≤ y := by
  rw [Int32.le_iff_toInt_le, i32_ti hx, i32_ti hy]
theorem of32_inj {x y : Int} (hx : i32 x) (hy : i32 y) : Int32.ofInt x = Int32.ofInt y ↔ x = y := by
  rw [← Int32.toInt_inj, i32_ti hx, i32_ti hy]
theorem of64_lt {x y : Int} (hx : i64 x) (hy : i64 y) : Int64.ofInt x < Int64.ofInt y ↔ x < y := by
  rw [Int64.lt_iff_toInt_lt, i64_ti hx, i64_ti hy]
theorem of64_inj {x y : Int} (hx : i64 x) (hy : i64 y) : Int64.ofInt x = Int64.ofInt y ↔ x = y := by
  rw [← Int64.toInt_inj, i64_ti hx, i64_ti hy]
theorem i32_0 : i32 0 := by unfold i32; omega
theorem of32_0 : Int32.ofInt 0 = 0 := rfl
theorem tdiv_rng {x y : Int} (h0 : 0 < y) : (0 ≤ x → 0 ≤ x.tdiv y ∧ x.tdiv y ≤ x) ∧ (x ≤ 0 → x ≤ x.tdiv y ∧ x.tdiv y ≤ 0) := by
  have pos : ∀ z : Int, 0 ≤ z → 0 ≤ z.tdiv y ∧ z.tdiv y ≤ z := fun z hz => by
    rw [Int.tdiv_eq_ediv_of_nonneg hz]
    exact ⟨Int.ediv_nonneg hz (Int.le_of_lt h0), Int.ediv_le_self y hz⟩
  refine ⟨pos x, fun h => ?_⟩
  have h1 := pos (-x) (by omega)
  rw [Int.neg_tdiv] at h1
  omega
theorem of32_tdiv {x y : Int} (hx : i32 x) (hy : i32 y) (h0 : 0 < y) : Int32.ofInt x / Int32.ofInt y = Int32.ofInt (x.tdiv y) := of32_eq (by
  rw [Int32.toInt_div, i32_ti hx, i32_ti hy, i32_bm]
  have h1 := tdiv_rng (x := x) h0
  unfold i32 at *
  omega)
theorem of32_div {x y : Int} (hx : i32 x) (hy : i32 y) (h1 : 0 ≤ x) (h0 : 0 < y) : Int32.ofInt x / Int32.ofInt y = Int32.ofInt (x / y) := by
  rw [of32_tdiv hx hy h0, Int.tdiv_eq_ediv_of_nonneg h1]
theorem i64_tdiv {x y : Int} (hx : i64 x) (h0 : 0 < y) : i64 (x.tdiv y) := by
  have h1 := tdiv_rng (x := x) h0
  unfold i64 at *
  omega
theorem of64_tdiv {x y : Int} (hx : i64 x) (hy : i64 y) (h0 : 0 < y) : Int64.ofInt x / Int64.ofInt y = Int64.ofInt (x.tdiv y) := of64_eq (by
  rw [Int64.toInt_div, i64_ti hx, i64_ti hy, i64_bm (i64_tdiv hx h0)])
theorem i32_div {x y : Int} (hx : i32 x) (h1 : 0 ≤ x) (h0 : 0 < y) : i32 (x / y) := by
  have h2 := Int.ediv_le_self y h1
  have h3 := Int.ediv_nonneg h1 (Int.le_of_lt h0)
  unfold i32 at *
  omega
theorem i32_mod {x y : Int} (hy : i32 y) (h0 : 0 < y) : i32 (x % y) := by
  have h2 := Int.emod_lt_of_pos x h0
  have h3 := Int.emod_nonneg x (by omega : y ≠ 0)
  unfold i32 at *
  omega
theorem emod_le_self {x y : Int} (h1 : 0 ≤ x) (h0 : 0 < y) : x % y ≤ x := by
  have h2 := Int.ediv_nonneg h1 (Int.le_of_lt h0)
  have h3 := Int.ediv_mul_add_emod x y
  have h4 := Int.mul_nonneg h2 (Int.le_of_lt h0)
  omega
theorem of32_rem {x y : Int} (hx : i32 x) (hy : i32 y) (h1 : 0 ≤ x) (h0 : 0 < y) : Int32.ofInt x - Int32.ofInt x / Int32.ofInt y * Int32.ofInt y = Int32.ofInt (x % y) := by
  have hm : x / y * y = x - x % y := by
    have := Int.ediv_mul_add_emod x y
    omega
  have hd := i32_div hx h1 h0
  have h3 := Int.emod_nonneg x (by omega : y ≠ 0)
  have hr : i32 (x % y) := i32_mod hy h0
  have hle : x % y ≤ x := emod_le_self h1 h0
  have hp : i32 (x / y * y) := by
    rw [hm]
    unfold i32 at *
    omega
  rw [of32_div hx hy h1 h0, of32_mul hd hy hp, of32_sub hx hp (by rw [hm]; unfold i32 at *; omega), hm]
  congr 1
  omega
theorem of32_tn {x : Int} (hx : i32 x) : (Int32.ofInt x).toNatClampNeg = x.toNat := by
  rw [show (Int32.ofInt x).toNatClampNeg = (Int32.ofInt x).toInt.toNat from rfl, i32_ti hx]
theorem of32_in {x : Int} {n : Nat} (hx : i32 x) (h0 : 0 ≤ x) (h1 : x < n) : vp_in (Int32.ofInt x) n := vp_in_iff.mpr (by rw [i32_ti hx]; exact ⟨h0, h1⟩)
def aOk : aV → Prop
  | .inl x => i32 x
  | .inr (.inl x) => i64 x
  | .inr (.inr _) => True
def aCat : aV → Nat
  | .inr (.inl _) => 2
  | _ => 1
/-- the kinds of cells: array or not, class or element, length, how many, the first place, the stride -/
def aKT : List (Nat × Nat × Nat × Nat × Nat × Nat) := [(0, 0, 0, 0, 0, 0), (0, 9, 0, 1, 0, 1), (1, 3, 4, 1, 1, 1), (0, 3, 0, 4, 2, 2), (1, 1, 60, 4, 3, 2), (1, 4, 6, 1, 10, 1), (0, 1, 0, 6, 11, 3), (1, 0, 60, 6, 12, 3), (1, 0, 65, 6, 13, 3), (0, 5, 0, 1, 29, 1), (0, 0, 0, 1, 30, 1), (0, 8, 0, 1, 31, 1), (0, 6, 0, 1, 32, 1), (1, 0, 60, 1, 33, 1), (1, 0, 65, 1, 34, 1), (1, 0, 65, 1, 35, 1), (1, 0, 65, 1, 36, 1), (1, 0, 6, 1, 37, 1), (1, 0, 6, 1, 38, 1), (1, 6, 7, 1, 39, 1), (1, 0, 65, 7, 40, 1), (0, 7, 0, 1, 47, 1), (0, 4, 0, 1, 48, 1), (1, 0, 60, 1, 49, 1), (1, 0, 60, 1, 50, 1), (1, 0, 60, 1, 51, 1), (1, 0, 60, 1, 52, 1), (1, 5, 6, 1, 53, 1), (0, 2, 0, 6, 54, 3), (0, 6, 0, 6, 55, 3), (1, 0, 60, 6, 56, 3), (0, 0, 0, 0, 0, 0), (0, 0, 0, 0, 0, 0), (0, 0, 0, 0, 0, 0), (0, 0, 0, 0, 0, 0), (0, 0, 0, 0, 0, 0), (0, 0, 0, 0, 0, 0), (0, 0, 0, 0, 0, 0), (0, 0, 0, 0, 0, 0), (0, 0, 0, 0, 0, 0), (0, 10, 0, 1, 72, 1), (1, 0, 4, 1, 73, 1), (1, 0, 4, 1, 74, 1), (1, 1, 240, 1, 75, 1), (1, 1, 60, 1, 76, 1), (0, 0, 0, 0, 0, 0), (0, 0, 0, 0, 0, 0), (0, 0, 0, 0, 0, 0), (0, 0, 0, 0, 0, 0), (0, 0, 0, 0, 0, 0), (0, 0, 0, 0, 0, 0), (1, 0, 6, 1, 77, 1), (1, 0, 360, 1, 78, 1), (1, 0, 6, 1, 79, 1), (1, 0, 6, 1, 80, 1), (1, 0, 6, 1, 81, 1), (1, 0, 2400, 1, 82, 1), (0, 0, 0, 0, 0, 0), (1, 0, 6, 1, 83, 1), (1, 0, 6, 1, 84, 1), (1, 0, 390, 1, 85, 1), (1, 1, 455, 1, 86, 1), (0, 0, 0, 0, 0, 0), (0, 0, 0, 0, 0, 0), (0, 0, 0, 0, 0, 0), (0, 0, 0, 0, 0, 0), (0, 0, 0, 0, 0, 0), (0, 0, 0, 0, 0, 0), (1, 0, 6, 1, 87, 1), (1, 0, 6, 1, 88, 1), (1, 0, 6, 1, 89, 1), (1, 0, 6, 1, 90, 1), (1, 0, 6, 1, 91, 1), (1, 0, 6, 1, 92, 1), (1, 0, 6, 1, 93, 1), (1, 0, 6, 1, 94, 1), (1, 0, 6, 1, 95, 1), (1, 0, 6, 1, 96, 1), (1, 0, 6, 1, 97, 1), (1, 0, 6, 1, 98, 1), (1, 0, 6, 1, 99, 1), (1, 0, 6, 1, 100, 1), (1, 2, 6, 1, 101, 1), (1, 2, 6, 1, 102, 1), (1, 0, 14400, 1, 103, 1), (1, 0, 240, 1, 104, 1)]
/-- which kind and number lies at each place -/
def aPos : List (Nat × Nat) := [(1, 0), (2, 0), (3, 0), (4, 0), (3, 1), (4, 1), (3, 2), (4, 2), (3, 3), (4, 3), (5, 0), (6, 0), (7, 0), (8, 0), (6, 1), (7, 1), (8, 1), (6, 2), (7, 2), (8, 2), (6, 3), (7, 3), (8, 3), (6, 4), (7, 4), (8, 4), (6, 5), (7, 5), (8, 5), (9, 0), (10, 0), (11, 0), (12, 0), (13, 0), (14, 0), (15, 0), (16, 0), (17, 0), (18, 0), (19, 0), (20, 0), (20, 1), (20, 2), (20, 3), (20, 4), (20, 5), (20, 6), (21, 0), (22, 0), (23, 0), (24, 0), (25, 0), (26, 0), (27, 0), (28, 0), (29, 0), (30, 0), (28, 1), (29, 1), (30, 1), (28, 2), (29, 2), (30, 2), (28, 3), (29, 3), (30, 3), (28, 4), (29, 4), (30, 4), (28, 5), (29, 5), (30, 5), (40, 0), (41, 0), (42, 0), (43, 0), (44, 0), (51, 0), (52, 0), (53, 0), (54, 0), (55, 0), (56, 0), (58, 0), (59, 0), (60, 0), (61, 0), (68, 0), (69, 0), (70, 0), (71, 0), (72, 0), (73, 0), (74, 0), (75, 0), (76, 0), (77, 0), (78, 0), (79, 0), (80, 0), (81, 0), (82, 0), (83, 0), (84, 0), (85, 0)]
def aSzs : List Nat := [6, 4, 3, 60, 3, 60, 3, 60, 3, 60, 6, 7, 60, 65, 7, 60, 65, 7, 60, 65, 7, 60, 65, 7, 60, 65, 7, 60, 65, 5, 6, 7, 3, 60, 65, 65, 65, 6, 6, 7, 65, 65, 65, 65, 65, 65, 65, 7, 5, 60, 60, 60, 60, 6, 17, 3, 60, 17, 3, 60, 17, 3, 60, 17, 3, 60, 17, 3, 60, 17, 3, 60, 46, 4, 4, 240, 60, 6, 360, 6, 6, 6, 2400, 6, 6, 390, 455, 6, 6, 6, 6, 6, 6, 6, 6, 6, 6, 6, 6, 6, 6, 6, 6, 14400, 240]
-- NT = 105, slots 21279
def kA (k : Nat) : Nat := (aKT.getD k (0, 0, 0, 0, 0, 0)).1
def kC (k : Nat) : Nat := (aKT.getD k (0, 0, 0, 0, 0, 0)).2.1
def kLen (k : Nat) : Nat := (aKT.getD k (0, 0, 0, 0, 0, 0)).2.2.1
def kCnt (k : Nat) : Nat := (aKT.getD k (0, 0, 0, 0, 0, 0)).2.2.2.1
def kOf (k : Nat) : Nat := (aKT.getD k (0, 0, 0, 0, 0, 0)).2.2.2.2.1
def kSt (k : Nat) : Nat := (aKT.getD k (0, 0, 0, 0, 0, 0)).2.2.2.2.2
/-- the place of a cell among all -/
def aPl (k i : Nat) : Nat := kOf k + kSt k * i
def aSz (n : Nat) : Nat := (aSzs.take n).sum
def aLv (n k i : Nat) : Prop := i < kCnt k ∧ aPl k i < n
theorem kCnt_big {k : Nat} (h : 86 ≤ k) : kCnt k = 0 := by
  unfold kCnt
  rw [List.getD_eq_getElem?_getD, List.getElem?_eq_none (by rw [show aKT.length = 86 from rfl]; exact h)]
  rfl
theorem aPos_dec : ∀ k, k < 86 → ∀ i, i < kCnt k → aPos[aPl k i]? = some (k, i) := by decide +kernel
theorem aPos_at {k i : Nat} (h : i < kCnt k) : aPos[aPl k i]? = some (k, i) := by
  by_cases hk : k < 86
  · exact aPos_dec k hk i h
  · rw [kCnt_big (by omega)] at h
    omega
theorem aPl_inj {k i k2 i2 : Nat} (h : i < kCnt k) (h2 : i2 < kCnt k2) (e : aPl k i = aPl k2 i2) : k = k2 ∧ i = i2 := by
  have a := aPos_at h
  have b := aPos_at h2
  rw [e] at a
  have c := a.symm.trans b
  cases c
  exact ⟨rfl, rfl⟩
theorem kCnt_0 : kCnt 0 = 0 := rfl
theorem kArr_dec : ∀ k, k < 86 → kA k ≤ 1 := by decide +kernel
/-! the world: launch, class numbers and slots, array classes, the first place, the script's place, its cell, its length, its ints -/
abbrev aW : Type := Launch × va_G × (Nat → ClassId) × Nat × Nat × Cell × Nat × (Nat → Int)
def aw_l (w : aW) : Launch := w.1
def aw_D (w : aW) : va_G := w.2.1
def aw_C (w : aW) : Nat → ClassId := w.2.2.1
def aw_B (w : aW) : Nat := w.2.2.2.1
def aw_b (w : aW) : Nat := w.2.2.2.2.1
def aw_sc (w : aW) : Cell := w.2.2.2.2.2.1
def aw_L (w : aW) : Nat := w.2.2.2.2.2.2.1
def aw_xs (w : aW) : Nat → Int := w.2.2.2.2.2.2.2
def aAd (w : aW) (q : Nat × Nat) : Nat := if q.1 = 0 then aw_b w else aw_B w + aPl q.1 q.2
def aDen (w : aW) : aV → Value
  | .inl x => .int (Int32.ofInt x)
  | .inr (.inl x) => .long (Int64.ofInt x)
  | .inr (.inr r) => va_rf (r.map (aAd w))
theorem aDen_cat (w : aW) (v : aV) : (aDen w v).category = aCat v := by
  rcases v with x | x | r
  · rfl
  · rfl
  · cases r <;> rfl
def aNm (c : Nat) : String := [RX0, RX1, RX2, RX3, RX4, RX5, RX6, RX7, RX8, RX9, RX10].getD c ""
def aNf (c : Nat) : Nat := [6, 7, 17, 3, 5, 5, 3, 7, 7, 6, 46].getD c 0
def aTT (c : Nat) : u_T := match c with
  | 0 => TX0
  | 1 => TX1
  | 2 => TX2
  | 3 => TX3
  | 4 => TX4
  | 5 => TX5
  | 6 => TX6
  | 7 => TX7
  | 8 => TX8
  | 9 => TX9
  | _ => TX10
def aTy (c : Nat) : Nat → FieldType := match c with
  | 0 => tyX0
  | 1 => tyX1
  | 2 => tyX2
  | 3 => tyX3
  | 4 => tyX4
  | 5 => tyX5
  | 6 => tyX6
  | 7 => tyX7
  | 8 => tyX8
  | 9 => tyX9
  | _ => tyX10
theorem a11 {P : Nat → Prop} (h0 : P 0) (h1 : P 1) (h2 : P 2) (h3 : P 3) (h4 : P 4) (h5 : P 5) (h6 : P 6) (h7 : P 7) (h8 : P 8) (h9 : P 9) (h10 : P 10) : ∀ c, c < 11 → P c
  | 0, _ => h0
  | 1, _ => h1
  | 2, _ => h2
  | 3, _ => h3
  | 4, _ => h4
  | 5, _ => h5
  | 6, _ => h6
  | 7, _ => h7
  | 8, _ => h8
  | 9, _ => h9
  | 10, _ => h10
  | c + 11, h => absurd h (by omega)
theorem aCl : ∀ c, c < 11 → vwCl[c]? = some (aNm c, aTT c, aNf c) := a11 rfl rfl rfl rfl rfl rfl rfl rfl rfl rfl rfl
theorem aTy_ok : ∀ c, c < 11 → ∀ k, k < aNf c → parseFieldDescriptor (aTT c k).2.2.1 = some (aTy c k) := a11 tyX0_ok tyX1_ok tyX2_ok tyX3_ok tyX4_ok tyX5_ok tyX6_ok tyX7_ok tyX8_ok tyX9_ok tyX10_ok
theorem aNn : ∀ c, c < 11 → ∀ a, a < aNf c → ∀ b, b < aNf c → a ≠ b → (aTT c a).2.1 ≠ (aTT c b).2.1 := a11 nmX0 nmX1 nmX2 nmX3 nmX4 nmX5 nmX6 nmX7 nmX8 nmX9 nmX10
/-- what a field holds -/
def aFv (w : aW) (I : aIF) (R : aRF) (ty : FieldType) (k i j : Nat) : Value := match ty with
  | .int => .int (Int32.ofInt (I k i j))
  | .boolean => .int (Int32.ofInt (I k i j))
  | _ => va_rf ((R k i j).map (aAd w))
def aAr (w : aW) (I : aIF) (R : aRF) (t k i : Nat) : (Nat → Int32) ⊕ (Nat → Int64) ⊕ (Nat → UInt32) ⊕ (Nat → UInt64) ⊕ (Nat → Option Nat) := match t with
  | 0 => .inl (fun j => Int32.ofInt (I k i j))
  | 1 => .inr (.inl (fun j => Int64.ofInt (I k i j)))
  | 2 => .inl (fun j => Int32.ofInt (I k i j))
  | _ => .inr (.inr (.inr (.inr (fun j => (R k i j).map (aAd w)))))
def aFs (w : aW) (I : aIF) (R : aRF) (c k i : Nat) : List Value := (List.range (aNf c)).map (fun j => aFv w I R (aTy c j) k i j)
def aCell (w : aW) (I : aIF) (R : aRF) (k i : Nat) : va_E :=
  if kA k = 0 then .inr (kC k, aFs w I R (kC k) k i) else .inl (aw_C w (kC k), kLen k, aAr w I R (kC k) k i)
def aOkI (I : aIF) : Prop := ∀ k i j, if kA k = 1 ∧ kC k = 1 then i64 (I k i j) else i32 (I k i j)
def aRep (w : aW) (n : Nat) (I : aIF) (R : aRF) (H : Heap) : Prop :=
  H.size = aw_B w + n ∧ (∀ k i, aLv n k i → va_at (aw_D w) vwCl (aAd w (k, i), aCell w I R k i) H) ∧ aOkI I ∧ H[aw_b w]? = some (aw_sc w) ∧ aw_b w < aw_B w
def aTys (w : aW) : List (ClassId × FieldType) := [(aw_C w 0, .int), (aw_C w 1, .long), (aw_C w 2, .boolean), (aw_C w 3, .object RX3), (aw_C w 4, .object RX1), (aw_C w 5, .object RX2), (aw_C w 6, .array .int)]
def aTb : List Cond := lw_tbl.filter goodWord
def aBad : List Cond := lw_tbl.filter (fun x => !goodWord x)
theorem aTb_in {x : Cond} (h : x ∈ lw_tbl) (hg : goodWord x = true) : x ∈ aTb := List.mem_filter.mpr ⟨h, hg⟩
theorem aTb_at {x : Cond} (i : Nat) (h : tables_1[i]? = some x) (hg : goodWord x = true) : x ∈ aTb := aTb_in (List.mem_append_right _ (List.mem_of_getElem? h)) hg
theorem aTb_of {x : Cond} (h : x ∈ aTb) : x ∈ lw_tbl := (List.mem_filter.mp h).1
theorem aTb_good {x : Cond} (h : x ∈ aTb) : (x.onTables && x.keeps) = true ∨ ∃ ty, x = .arrayClass ty := good_of_word (List.mem_filter.mp h).2
theorem aTb_self : GoodIn aTb aTb := fun _ h => ⟨h, aTb_good h⟩
