/-! RUN: a step moves from where it saves least to where it saves most -/
def stF (S : aS) (p : Nat) : Int := if S 13 p = 0 then max 1 (S 5 0 / 2) else S 5 0
def gnF (S : aS) (p : Nat) : Int := if (S 28 p = 0 ∨ S 28 p = 1) ∧ S 42 p = 0 then (S 36 p * stF S p).tdiv (holdF (S 13 p) (S 29 p) - S 31 p + stF S p) else 0
def lsF (S : aS) (p : Nat) : Int := if (S 28 p = 0 ∨ S 28 p = 1) ∧ S 5 0 ≤ spF S p ∧ stF S p < holdF (S 13 p) (S 29 p) - S 31 p then (S 36 p * stF S p).tdiv (holdF (S 13 p) (S 29 p) - S 31 p - stF S p) else -1
def whoM (sv : Nat → Int) : Nat → Nat → Int → Int
  | 0, _, most => most
  | m + 1, k, most => if most < sv k then whoM sv m (k + 1) (sv k) else whoM sv m (k + 1) most
theorem whoM_is {sv : Nat → Int} : ∀ (m k : Nat) (who most : Int), (who = -1 ∨ ∃ r : Nat, who = (r : Int) ∧ most = sv r) → ∀ q : Nat, whoF sv m k who most = (q : Int) → whoM sv m k most = sv q
  | 0, _, who, most, h, q, e => by
    have e : who = (q : Int) := e
    rcases h with h | ⟨r, h1, h2⟩
    · omega
    · have : r = q := by omega
      rw [← this]
      exact h2
  | m + 1, k, who, most, h, q, e => by
    unfold whoF at e
    unfold whoM
    split at e
    · rename_i z
      rw [if_pos z]
      exact whoM_is m (k + 1) _ _ (Or.inr ⟨k, rfl, rfl⟩) q e
    · rename_i z
      rw [if_neg z]
      exact whoM_is m (k + 1) _ _ h q e
def llR (f : Nat → Int) : Nat → Nat → Int → Int → Int × Int
  | 0, _, fr, ls => (fr, ls)
  | m + 1, k, fr, ls => if f k ≠ -1 ∧ f k < ls then llR f m (k + 1) (k : Int) (f k) else llR f m (k + 1) fr ls
theorem ll_rel {f : Nat → Int} {g : Int} : ∀ (m k : Nat) (sh sum fr ls : Int), ((sh = -1 ∧ fr = -1 ∧ ls = g) ∨ (sh ≠ -1 ∧ sum < g ∧ fr = sh ∧ ls = sum) ∨ (sh ≠ -1 ∧ g ≤ sum ∧ fr = -1 ∧ ls = g)) →
    (llR f m k fr ls).1 = if (bs f m k sh sum).1 ≠ -1 ∧ (bs f m k sh sum).2 < g then (bs f m k sh sum).1 else -1
  | 0, k, sh, sum, fr, ls, h => by
    show fr = if sh ≠ -1 ∧ sum < g then sh else -1
    split <;> omega
  | m + 1, k, sh, sum, fr, ls, h => by
    unfold llR bs
    by_cases z1 : f k ≠ -1 ∧ (sh = -1 ∨ f k < sum)
    · rw [if_pos z1]
      by_cases z2 : f k < g
      · rw [if_pos ⟨z1.1, by omega⟩]
        exact ll_rel m (k + 1) _ _ _ _ (Or.inr (Or.inl ⟨by omega, z2, rfl, rfl⟩))
      · rw [if_neg (by omega)]
        exact ll_rel m (k + 1) _ _ _ _ (Or.inr (Or.inr ⟨by omega, by omega, by omega, by omega⟩))
    · rw [if_neg z1, if_neg (by omega)]
      exact ll_rel m (k + 1) _ _ _ _ h
section MV
variable {w : aW} {S0 : aS} {C : aIF} {S : aS} {mm n c p : Nat} {d : Int}
theorem st_bd (h : XR C S mm n c d) : 1 ≤ stF S p ∧ stF S p ≤ 64 := by
  have := h.1.1.1
  unfold stF
  split <;> omega
theorem since_bd (h : XR C S mm n c d) (hp : p < n) : 0 ≤ S 36 p ∧ S 36 p ≤ 20000000 ∧ 0 ≤ S 36 p * stF S p ∧ S 36 p * stF S p ≤ 1280000000 := by
  have a3 := (h.2.2.2.1.2 p hp).2
  have r4 := a3.2.2.2.1
  have r11 := a3.2.2.2.2.2.2.2.2.2.2.1
  have st := st_bd (p := p) h
  have h2 : S 36 p ≤ 20000000 := by omega
  refine ⟨r11.1, h2, Int.mul_nonneg r11.1 (by omega), ?_⟩
  have : S 36 p * stF S p ≤ 20000000 * 64 := Int.mul_le_mul h2 st.2 (by omega) (by omega)
  omega
theorem hl_bd (h : XR C S mm n c d) (hp : p < n) : 0 ≤ holdF (S 13 p) (S 29 p) - S 31 p ∧ holdF (S 13 p) (S 29 p) ≤ 4096 ∧ 0 ≤ S 31 p := by
  have hr := XR_rm h hp
  have r2 := (h.2.2.2.1.2 p hp).2.2.1
  have := hold_le (cp := S 13 p) (r := S 29 p) hr.1
  omega
theorem gn_0 (h : XR C S mm n c d) (hp : p < n) : 0 ≤ gnF S p := by
  have h1 := hl_bd h hp
  have h2 := since_bd h hp
  have h3 := st_bd (p := p) h
  unfold gnF
  split
  · exact ((tdiv_rng (x := S 36 p * stF S p) (y := holdF (S 13 p) (S 29 p) - S 31 p + stF S p) (by omega)).1 h2.2.2.1).1
  · exact Int.le_refl 0
theorem ls_0 (h : XR C S mm n c d) (hp : p < n) : lsF S p = -1 ∨ 0 ≤ lsF S p := by
  have h2 := since_bd h hp
  unfold lsF
  split
  · rename_i z
    exact Or.inr ((tdiv_rng (x := S 36 p * stF S p) (y := holdF (S 13 p) (S 29 p) - S 31 p - stF S p) (by omega)).1 h2.2.2.1).1
  · exact Or.inl rfl
theorem sX2_cells {P : Int → aIF → Prop} (h : XR C S mm n c d) (hp : p < n) (hP : P (stF S p) C) : kMetI w mX2_cellsOfStep [aO 28 p, aI (S 5 0)] C S0 (rf mm) P := by
  obtain ⟨a1, a2, a3, a4, a5, a6, a7⟩ := XR_at h hp
  have hcp := a4.2.1
  unfold stF at hP
  refine gX2_cellsOfStep a1.1 a1.2 ⟨fun z => ?_, fun z => ⟨by omega, ?_⟩⟩
  · rw [if_neg (by omega)] at hP
    exact hP
  · rw [if_pos (by omega)] at hP
    rw [Int.max_comm]
    exact hP
theorem sX10_s {C0 : aIF} {P : Int → aS → Prop} (h : XR C S mm n c d) (hp : p < n) (hP : P (stF S p) S) : rMetI w mX10_s [aO 40 0, aI (p : Int)] C0 S (rf mm) P := by
  have h6 := h.2.1
  have hs := h.1.1.1
  unfold stF at hP
  refine gX10_s ⟨by omega, fun z => ?_, fun z => ⟨by omega, ?_⟩⟩
  · rw [if_neg z] at hP
    exact hP
  · rw [if_pos z] at hP
    exact hP
theorem sX2_gain {P : Int → aIF → Prop} (h : XR C S mm n c d) (hp : p < n) (hP : P (gnF S p) C) : kMetL w mX2_gain [aO 28 p, aO 9 0] C S0 (rf mm) P := by
  obtain ⟨a1, a2, a3, a4, a5, a6, a7⟩ := XR_at h hp
  have hr := XR_rm h hp
  have c3 := a2.1.1
  have c4 := a2.1.2.1
  have c2 := a2.1.2.2.2.1
  have c9 := a2.2.1.1
  have c12 := a2.2.1.2.2.2.2.2.1
  have h1 := hl_bd h hp
  have h2 := since_bd h hp
  have h3 := st_bd (p := p) h
  unfold gnF at hP
  have up : (S 28 p = 0 ∨ S 28 p = 1) → ((C 28 p 12 = 0 → kMetI w mX2_cellsOfStep [aO 28 p, aI (C 9 0 0)] C S0 (rf mm) (fun x4 C5 => kMetI w mX1_holds [aO 6 p, aI (C5 28 p 4)] C5 S0 (rf mm) (fun x7 C8 => (-2147483648 ≤ (x7 - (C8 29 p 2)) ∧ (x7 - (C8 29 p 2)) < 2147483648) ∧ ((-2147483648 ≤ ((x7 - (C8 29 p 2)) + x4) ∧ ((x7 - (C8 29 p 2)) + x4) < 2147483648) ∧ (((((x7 - (C8 29 p 2)) + x4) ≤ 0) → P 0 C8) ∧ ((¬ (((x7 - (C8 29 p 2)) + x4) ≤ 0)) → (-9223372036854775808 ≤ ((C8 28 p 9) * x4) ∧ ((C8 28 p 9) * x4) < 9223372036854775808) ∧ ((0 < ((x7 - (C8 29 p 2)) + x4)) ∧ (P ((((C8 28 p 9) * x4)).tdiv ((x7 - (C8 29 p 2)) + x4)) C8)))))))) ∧ (¬ (C 28 p 12 = 0) → P 0 C)) := fun zu => by
    refine ⟨fun z => ?_, fun z => ?_⟩
    · rw [if_pos ⟨zu, by omega⟩] at hP
      rw [a5.1]
      refine sX2_cells h hp ?_
      rw [c4]
      refine sX1_holds a1.1 a4.2.1 (by omega) ?_
      rw [c2, c9]
      exact ⟨by omega, by omega, fun y => absurd y (by omega), fun _ => ⟨by omega, by omega, hP⟩⟩
    · rw [if_neg (by omega)] at hP
      exact hP
  refine gX2_gain a1.1 a1.2 (gX2_isAwake a1.1 ⟨fun z => ⟨fun y => absurd y (by decide), fun _ => up (by omega)⟩, fun z => ⟨fun z2 => ⟨fun _ => ?_, fun y => absurd rfl y⟩, fun z2 => ⟨fun y => absurd y (by decide), fun _ => up (by omega)⟩⟩⟩)
  rw [if_neg (by omega)] at hP
  exact hP
theorem sX2_loss {P : Int → aIF → Prop} (h : XR C S mm n c d) (hp : p < n) (hP : P (lsF S p) C) : kMetL w mX2_loss [aO 28 p, aO 9 0] C S0 (rf mm) P := by
  obtain ⟨a1, a2, a3, a4, a5, a6, a7⟩ := XR_at h hp
  have hr := XR_rm h hp
  have hk := kp_bd h hp
  have c3 := a2.1.1
  have c4 := a2.1.2.1
  have c2 := a2.1.2.2.2.1
  have c9 := a2.2.1.1
  have h1 := hl_bd h hp
  have h2 := since_bd h hp
  have h3 := st_bd (p := p) h
  have hsp : (S 28 p = 0 ∨ S 28 p = 1) → spF S p = max 0 (S 29 p - kpF S p) := fun z => if_neg (by omega)
  unfold lsF at hP
  have up : (S 28 p = 0 ∨ S 28 p = 1) → kMetI w mX2_keep [aO 28 p, aO 9 0] C S0 (rf mm) (fun x4 C5 => (-2147483648 ≤ ((C 28 p 4) - x4) ∧ ((C 28 p 4) - x4) < 2147483648) ∧ ((((C5 9 0 0) ≤ ((C 28 p 4) - x4)) → kMetI w mX2_cellsOfStep [aO 28 p, aI ((C5 9 0 0))] C5 S0 (rf mm) (fun x8 C9 => kMetI w mX1_holds [aO 6 p, aI ((C9 28 p 4))] C9 S0 (rf mm) (fun x11 C12 => (-2147483648 ≤ (x11 - (C12 29 p 2)) ∧ (x11 - (C12 29 p 2)) < 2147483648) ∧ ((-2147483648 ≤ ((x11 - (C12 29 p 2)) - x8) ∧ ((x11 - (C12 29 p 2)) - x8) < 2147483648) ∧ (((((x11 - (C12 29 p 2)) - x8) ≤ 0) → P (-1) C12) ∧ ((¬ (((x11 - (C12 29 p 2)) - x8) ≤ 0)) → (-9223372036854775808 ≤ ((C12 28 p 9) * x8) ∧ ((C12 28 p 9) * x8) < 9223372036854775808) ∧ ((0 < ((x11 - (C12 29 p 2)) - x8)) ∧ (P ((((C12 28 p 9) * x8)).tdiv ((x11 - (C12 29 p 2)) - x8)) C12)))))))) ∧ ((¬ ((C5 9 0 0) ≤ ((C 28 p 4) - x4))) → P (-1) C5))) := fun zu => by
    have hs := hsp zu
    refine sX2_keep h hp ?_
    rw [c4, a5.1]
    refine ⟨by omega, fun z => ?_, fun z => ?_⟩
    · refine sX2_cells h hp ?_
      rw [c4]
      refine sX1_holds a1.1 a4.2.1 (by omega) ?_
      rw [c2, c9]
      refine ⟨by omega, by omega, fun y => ?_, fun y => ⟨by omega, by omega, ?_⟩⟩
      · rw [if_neg (fun q => by omega)] at hP
        exact hP
      · rw [if_pos ⟨zu, by omega, by omega⟩] at hP
        exact hP
    · rw [if_neg (fun q => by omega)] at hP
      exact hP
  refine gX2_loss a1.1 a1.2 (gX2_isAwake a1.1 ⟨fun z => ⟨fun y => absurd y (by decide), fun _ => up (by omega)⟩, fun z => ⟨fun z2 => ⟨fun _ => ?_, fun y => absurd rfl y⟩, fun z2 => ⟨fun y => absurd y (by decide), fun _ => up (by omega)⟩⟩⟩)
  rw [if_neg (fun q => by omega)] at hP
  exact hP
theorem sX7_wg_7 {P : Int → aIF → Prop} (h : XR C S mm n c d) : ∀ (m q : Nat) (who most : Int), q + m = n → P (whoF (gnF S) m q who most) C → kRunI w mX7_whoGainsMost 7 [some (aO 21 0), some (aI who), some (aL most), none, some (aI (q : Int)), none, none] [] C S0 (rf mm) P
  | 0, q, who, most, e, hP => by
    have hn := h.2.2.1.2
    exact gX7_whoGainsMost_7 ⟨fun _ => hP, fun z => absurd (by omega) z⟩
  | m + 1, q, who, most, e, hP => by
    have hn := h.2.2.1.2
    have hn6 := h.2.1
    unfold whoF at hP
    refine gX7_whoGainsMost_7 ⟨fun z => absurd z (by omega), fun _ => ⟨by omega, sX2_gain h (by omega) ⟨fun z => ⟨by omega, ?_⟩, fun z => ⟨by omega, ?_⟩⟩⟩⟩
    · rw [if_neg (by omega)] at hP
      exact sX7_wg_7 h m (q + 1) _ _ (by omega) hP
    · rw [if_pos (by omega)] at hP
      exact sX7_wg_7 h m (q + 1) _ _ (by omega) hP
def lsT (S : aS) (t q : Nat) : Int := if q = t then -1 else lsF S q
theorem sX7_wl_7 {t : Nat} {P : Int → aIF → Prop} (h : XR C S mm n c d) : ∀ (m q : Nat) (who least : Int), q + m = n → P (bs (lsT S t) m q who least).1 C → kRunI w mX7_whoLosesLeast 7 [some (aO 21 0), some (aI (t : Int)), some (aI who), some (aL least), none, some (aI (q : Int)), none, none] [] C S0 (rf mm) P
  | 0, q, who, least, e, hP => by
    have hn := h.2.2.1.2
    exact gX7_whoLosesLeast_7 ⟨fun _ => hP, fun z => absurd (by omega) z⟩
  | m + 1, q, who, least, e, hP => by
    have hn := h.2.2.1.2
    have hn6 := h.2.1
    unfold bs at hP
    refine gX7_whoLosesLeast_7 ⟨fun z => absurd z (by omega), fun _ => ⟨fun z => ⟨by omega, sX2_loss h (by omega) ?_⟩, fun z => ⟨fun _ => ⟨by omega, ?_⟩, fun y => absurd rfl y⟩⟩⟩
    · have el : lsT S t q = lsF S q := if_neg (by omega)
      rw [el] at hP
      refine ⟨fun z1 => ⟨by omega, ?_⟩, fun z1 => ⟨fun z2 => ⟨by omega, ?_⟩, fun z2 => ⟨fun z3 => ⟨by omega, ?_⟩, fun z3 => ⟨by omega, ?_⟩⟩⟩⟩
      · rw [if_neg (by omega)] at hP
        exact sX7_wl_7 h m (q + 1) _ _ (by omega) hP
      · rw [if_pos (by omega)] at hP
        exact sX7_wl_7 h m (q + 1) _ _ (by omega) hP
      · rw [if_neg (by omega)] at hP
        exact sX7_wl_7 h m (q + 1) _ _ (by omega) hP
      · rw [if_pos (by omega)] at hP
        exact sX7_wl_7 h m (q + 1) _ _ (by omega) hP
    · have el : lsT S t q = -1 := if_pos (by omega)
      rw [el, if_neg (by omega)] at hP
      exact sX7_wl_7 h m (q + 1) _ _ (by omega) hP
theorem sX10_sw_7 {C0 : aIF} {P : Int → aS → Prop} (h : XR C S mm n c d) : ∀ (m q : Nat) (who most : Int), q + m = n → 0 ≤ most → rRunI w mX10_swung 7 [some (aO 40 0), some (aI (whoF (gnF S) m q who most)), some (aL (whoM (gnF S) m q most)), none, some (aI (n : Int)), none, none, none, none, none, none] [] C0 S (rf mm) P → rRunI w mX10_swung 7 [some (aO 40 0), some (aI who), some (aL most), none, some (aI (q : Int)), none, none, none, none, none, none] [] C0 S (rf mm) P
  | 0, q, who, most, e, h0, hP => by
    have : q = n := by omega
    subst this
    exact hP
  | m + 1, q, who, most, e, h0, hP => by
    have hn := h.2.2.1.1
    have hn6 := h.2.1
    have hq : q < n := by omega
    have hr := XR_rm h hq
    have h1 := hl_bd h hq
    have h2 := since_bd h hq
    have h3 := st_bd (p := q) h
    unfold whoF whoM at hP
    have no : gnF S q = 0 → rRunI w mX10_swung 7 [some (aO 40 0), some (aI who), some (aL most), none, some (aI ((q + 1 : Nat) : Int)), none, none, none, none, none, none] [] C0 S (rf mm) P := fun z => by
      rw [if_neg (by omega), if_neg (by omega)] at hP
      exact sX10_sw_7 h m (q + 1) _ _ (by omega) h0 hP
    have g0 := gn_0 h hq
    have up : (S 28 q = 0 ∨ S 28 q = 1) → ((S 42 q = 0 → rMetI w mX10_s [aO 40 0, aI ((q : Int))] C0 S (rf mm) (fun x13 S14 => (-9223372036854775808 ≤ ((S 36 q) * x13) ∧ ((S 36 q) * x13) < 9223372036854775808) ∧ (rMetI w mX10_holds [aI ((S14 13 q)), aI ((S14 29 q))] C0 S14 (rf mm) (fun x17 S18 => (-2147483648 ≤ (x17 - (S18 31 q)) ∧ (x17 - (S18 31 q)) < 2147483648) ∧ (rMetI w mX10_s [aO 40 0, aI ((q : Int))] C0 S18 (rf mm) (fun x21 S22 => (-2147483648 ≤ ((x17 - (S18 31 q)) + x21) ∧ ((x17 - (S18 31 q)) + x21) < 2147483648) ∧ ((0 < ((x17 - (S18 31 q)) + x21)) ∧ (((most < ((((S 36 q) * x13)).tdiv ((x17 - (S18 31 q)) + x21))) → (q + 1 < 2147483648) ∧ (rRunI w mX10_swung 7 [some (aO 40 0), some (aI ((q : Int))), some (aL (((((S 36 q) * x13)).tdiv ((x17 - (S18 31 q)) + x21)))), none, some (aI ((((q + 1) : Nat) : Int))), none, none, none, none, none, none] [] C0 S22 (rf mm) P)) ∧ ((¬ (most < ((((S 36 q) * x13)).tdiv ((x17 - (S18 31 q)) + x21)))) → (q + 1 < 2147483648) ∧ (rRunI w mX10_swung 7 [some (aO 40 0), some (aI who), some (aL most), none, some (aI ((((q + 1) : Nat) : Int))), none, none, none, none, none, none] [] C0 S22 (rf mm) P)))))))))) ∧ ((¬ (S 42 q = 0)) → (q + 1 < 2147483648) ∧ (rRunI w mX10_swung 7 [some (aO 40 0), some (aI who), some (aL most), none, some (aI ((((q + 1) : Nat) : Int))), none, none, none, none, none, none] [] C0 S (rf mm) P))) := fun zu => by
      refine ⟨fun z => sX10_s h hq ⟨by omega, sX10_holds hr.1 ⟨by omega, sX10_s h hq ⟨by omega, by omega, fun y => ⟨by omega, ?_⟩, fun y => ⟨by omega, ?_⟩⟩⟩⟩, fun z => ⟨by omega, no ?_⟩⟩
      · have eg : gnF S q = (S 36 q * stF S q).tdiv (holdF (S 13 q) (S 29 q) - S 31 q + stF S q) := if_pos ⟨zu, z⟩
        rw [← eg] at y ⊢
        rw [if_pos y, if_pos y] at hP
        exact sX10_sw_7 h m (q + 1) _ _ (by omega) g0 hP
      · have eg : gnF S q = (S 36 q * stF S q).tdiv (holdF (S 13 q) (S 29 q) - S 31 q + stF S q) := if_pos ⟨zu, z⟩
        rw [← eg] at y
        rw [if_neg y, if_neg y] at hP
        exact sX10_sw_7 h m (q + 1) _ _ (by omega) h0 hP
      · exact if_neg (fun y => z y.2)
    refine gX10_swung_7 ⟨fun z => absurd z (by omega), fun _ => gX10_isUp ⟨by omega, fun z => ⟨fun y => absurd y (by decide), fun _ => ⟨by omega, up (Or.inl z)⟩⟩, fun z => ⟨fun z2 => ⟨fun _ => ⟨by omega, no ?_⟩, fun y => absurd rfl y⟩, fun z2 => ⟨fun y => absurd y (by decide), fun _ => ⟨by omega, up (Or.inr z2)⟩⟩⟩⟩⟩
    exact if_neg (fun y => by omega)
theorem sX10_sw_160 {C0 : aIF} {t : Nat} {l2 : Int} {P : Int → aS → Prop} (h : XR C S mm n c d) : ∀ (m q : Nat) (fr ls : Int), q + m = n → rRunI w mX10_swung 160 [some (aO 40 0), some (aI (t : Int)), some (aL l2), none, some (aI (llR (lsT S t) m q fr ls).1), some (aL (llR (lsT S t) m q fr ls).2), none, some (aI (n : Int)), none, none, none] [] C0 S (rf mm) P → rRunI w mX10_swung 160 [some (aO 40 0), some (aI (t : Int)), some (aL l2), none, some (aI fr), some (aL ls), none, some (aI (q : Int)), none, none, none] [] C0 S (rf mm) P
  | 0, q, fr, ls, e, hP => by
    have : q = n := by omega
    subst this
    exact hP
  | m + 1, q, fr, ls, e, hP => by
    have hn := h.2.2.1.1
    have hn6 := h.2.1
    have hq : q < n := by omega
    have hr := XR_rm h hq
    have h1 := hl_bd h hq
    have h2 := since_bd h hq
    have h3 := st_bd (p := q) h
    have l0 := ls_0 h hq
    unfold llR at hP
    have no : lsT S t q = -1 → (q + 1 < 2147483648) ∧ rRunI w mX10_swung 160 [some (aO 40 0), some (aI (t : Int)), some (aL l2), none, some (aI fr), some (aL ls), none, some (aI ((q + 1 : Nat) : Int)), none, none, none] [] C0 S (rf mm) P := fun z => by
      rw [if_neg (fun y => y.1 z)] at hP
      exact ⟨by omega, sX10_sw_160 h m (q + 1) _ _ (by omega) hP⟩
    refine gX10_swung_160 ⟨fun z => absurd z (by omega), fun _ => ⟨by omega, sX10_holds hr.1 ⟨by omega, fun z => no (if_pos (by omega)), fun z => ?_⟩⟩⟩
    have el : lsT S t q = lsF S q := if_neg (by omega)
    have up : (S 28 q = 0 ∨ S 28 q = 1) → rMetI w mX10_spare [aO 40 0, aI ((q : Int))] C0 S (rf mm) (fun x19 S20 => ((x19 < (S20 5 0)) → (q + 1 < 2147483648) ∧ (rRunI w mX10_swung 160 [some (aO 40 0), some (aI (t : Int)), some (aL l2), none, some (aI fr), some (aL ls), none, some (aI ((((q + 1) : Nat) : Int))), none, none, none] [] C0 S20 (rf mm) P)) ∧ ((¬ (x19 < (S20 5 0))) → rMetI w mX10_s [aO 40 0, aI ((q : Int))] C0 S20 (rf mm) (fun x23 S24 => ((x23 < (holdF (S 13 q) (S 29 q) - (S 31 q))) → rMetI w mX10_s [aO 40 0, aI ((q : Int))] C0 S24 (rf mm) (fun x26 S27 => (-9223372036854775808 ≤ ((S24 36 q) * x26) ∧ ((S24 36 q) * x26) < 9223372036854775808) ∧ (rMetI w mX10_s [aO 40 0, aI ((q : Int))] C0 S27 (rf mm) (fun x30 S31 => (-2147483648 ≤ ((holdF (S 13 q) (S 29 q) - (S 31 q)) - x30) ∧ ((holdF (S 13 q) (S 29 q) - (S 31 q)) - x30) < 2147483648) ∧ ((0 < ((holdF (S 13 q) (S 29 q) - (S 31 q)) - x30)) ∧ (((((((S24 36 q) * x26)).tdiv ((holdF (S 13 q) (S 29 q) - (S 31 q)) - x30)) < ls) → (q + 1 < 2147483648) ∧ (rRunI w mX10_swung 160 [some (aO 40 0), some (aI (t : Int)), some (aL l2), none, some (aI ((q : Int))), some (aL (((((S24 36 q) * x26)).tdiv ((holdF (S 13 q) (S 29 q) - (S 31 q)) - x30)))), none, some (aI ((((q + 1) : Nat) : Int))), none, none, none] [] C0 S31 (rf mm) P)) ∧ ((¬ (((((S24 36 q) * x26)).tdiv ((holdF (S 13 q) (S 29 q) - (S 31 q)) - x30)) < ls)) → (q + 1 < 2147483648) ∧ (rRunI w mX10_swung 160 [some (aO 40 0), some (aI (t : Int)), some (aL l2), none, some (aI fr), some (aL ls), none, some (aI ((((q + 1) : Nat) : Int))), none, none, none] [] C0 S31 (rf mm) P)))))))) ∧ ((¬ (x23 < (holdF (S 13 q) (S 29 q) - (S 31 q)))) → (q + 1 < 2147483648) ∧ (rRunI w mX10_swung 160 [some (aO 40 0), some (aI (t : Int)), some (aL l2), none, some (aI fr), some (aL ls), none, some (aI ((((q + 1) : Nat) : Int))), none, none, none] [] C0 S24 (rf mm) P))))) := fun zu => by
      refine sX10_spare h hq ⟨fun z1 => no (el.trans (if_neg (fun y => by omega))), fun z1 => sX10_s h hq ⟨fun z2 => ?_, fun z2 => no (el.trans (if_neg (fun y => by omega)))⟩⟩
      have eg : lsF S q = (S 36 q * stF S q).tdiv (holdF (S 13 q) (S 29 q) - S 31 q - stF S q) := if_pos ⟨zu, by omega, z2⟩
      have eg0 := ((tdiv_rng (x := S 36 q * stF S q) (y := holdF (S 13 q) (S 29 q) - S 31 q - stF S q) (by omega)).1 h2.2.2.1).1
      rw [← eg] at eg0
      rw [el] at hP
      refine sX10_s h hq ⟨by omega, sX10_s h hq ⟨by omega, by omega, fun z3 => ⟨by omega, ?_⟩, fun z3 => ⟨by omega, ?_⟩⟩⟩
      · rw [← eg] at z3 ⊢
        rw [if_pos ⟨by omega, z3⟩] at hP
        exact sX10_sw_160 h m (q + 1) _ _ (by omega) hP
      · rw [← eg] at z3
        rw [if_neg (fun y => z3 y.2)] at hP
        exact sX10_sw_160 h m (q + 1) _ _ (by omega) hP
    exact gX10_isUp ⟨by omega, fun z2 => ⟨fun y => absurd y (by decide), fun _ => up (Or.inl z2)⟩, fun z2 => ⟨fun z3 => ⟨fun _ => no (el.trans (if_neg (fun y => by omega))), fun y => absurd rfl y⟩, fun z3 => ⟨fun y => absurd y (by decide), fun _ => up (Or.inr z3)⟩⟩⟩
end MV
