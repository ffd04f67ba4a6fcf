/-! the component's walk: an act, a round, all -/
section TR3
variable {w : aW} {mm t : Nat} {S : aS}
theorem sX8_act {C : aIF} {i L c fa n k len ro : Nat} {cp : Int} {act h own : Nat → Int} {st : Nat → Option alS} {P : aIF → Prop} (hi : i < 6) (hL : L ≤ 65) (hc : c < 2400) (hk : k < len) (hl : len ≤ 60) (hm : ∀ q, q < L → h q ≤ 4096) (hmo : ∀ p q, p ≤ q → q < L → h p ≤ h q) (ha : actOK (act k)) (hp : pC C i cp len ro act) (hR : lnR C L c h fa n own st)
    (nx : ∀ (C' : aIF) (fa' n' : Nat) (own' : Nat → Int), (∀ k i j, k < 11 ∨ 16 < k → C' k i j = C k i j) → lnR C' L (c + 1) h fa' n' own' (fun q => (st q).bind (alA cp (h q) (act k))) → kRunV w mX8_passRound 2 [some (aO 11 0), some (aO 6 i), some (aI ((k + 1 : Nat) : Int)), none] [] C' S (rf mm) P) :
    kRunV w mX8_passRound 2 [some (aO 11 0), some (aO 6 i), some (aI (k : Int)), none] [] C S (rf mm) P := by
  have hR' := hR
  obtain ⟨⟨k1, k2, k3, k4, k5⟩, ⟨k6, k7⟩, ⟨k8, k9⟩, k10, k11, k12, k13⟩ := hR'
  have hlen := hp.1
  have hact := hp.2.2.2 k hk
  have hlv0 := sumN_0 n (fun q hq => (k9 q hq).1)
  have hlv1 := sumN_le n (fun q hq => (k9 q hq).2)
  have ha2 := ha
  unfold actOK at ha2
  have fr : Unit → ∀ {v : Int}, ∀ k i j, ¬ (k = 11 ∧ j = 6) → uI C 11 0 6 v k i j = C k i j := fun _ v k i j z => uI_no (fun y => z ⟨y.1, y.2.2⟩)
  have tick : Unit → ∀ δ : Int, 0 ≤ δ ∧ δ ≤ 200 → (∀ q s, s.2.1 = n → alA cp (h q) (act k) s = some (s.1 + δ, s.2)) → kRunV w mX8_passRound 2 [some (aO 11 0), some (aO 6 i), some (aI ((k + 1 : Nat) : Int)), none] [] (uI C 11 0 6 (C 11 0 6 + δ)) S (rf mm) P := fun _ δ z1 z2 =>
    nx _ fa n own (fun k i j y => fr () k i j (by omega)) (lnR_tick hR ha hm z1 (fr ()) uI_s z2)
  refine gX8_passRound_2 hi ⟨fun q => absurd q (by omega), fun _ => ⟨by omega, ?_, ?_⟩⟩
  · rw [hact]
    refine fun g1 => ⟨by omega, fun g2 => sX1_isMake (fun g3 => ⟨fun q => absurd q (by decide), fun _ => ?_⟩) (fun g3 => ⟨fun _ => ⟨by omega, tick () 1 (by omega) (fun q s _ => ?_)⟩, fun q => absurd rfl q⟩), fun g2 => ⟨by omega, ?_⟩⟩
    · refine sX8_makeInAll (n := n) (cp := cp) (len := len) (ro := ro) (act := act) (fa := fa) (L := L) hi hL (by omega) (pC_cg (fun k i j z => fr () k i j (by omega)) hp) (by rw [uI_j rfl]; exact k1) (by rw [uI_j rfl]; exact k2) k3 (by rw [uI_k rfl]; exact k4) (by omega) (by rw [uI_k rfl]; omega) (fun q z1 z2 => ?_) (fun fb C' e1 e2 e3 e4 e5 e6 e7 e8 e9 e10 e11 e12 => ⟨by omega, nx C' fb (n + 1) (uN own n (act k)) (fun k i j z => ?_) (lnR_make hR hm hmo (by omega) e1 ?_ ?_ ?_ ?_ e6 ?_ ?_ ?_ e10 ?_ ?_)⟩)
      · obtain ⟨j1, j2, j3⟩ := k13 q z1 z2
        obtain ⟨⟨i1, i2⟩, i3, ⟨i4, i5, i6⟩, i7, i8⟩ := j3
        dsimp only at i1 i2 i3 i4 i5 i6
        rw [uI_k rfl, uI_k rfl, uI_k rfl]
        omega
      · rw [e4 k i j (by omega)]
        exact fr () k i j (by omega)
      · intro q z1 z2
        have := e2 q z1 z2
        rw [uI_k rfl, uI_k rfl] at this
        exact this
      · intro z
        have := e3 z
        rw [uI_k rfl, uI_k rfl] at this
        exact this
      · intro k i j z
        rw [e4 k i j z]
        exact fr () k i j (by omega)
      · rw [e5]
        exact uI_j rfl
      · rw [e7]
        exact uI_s
      · rw [e8, uI_k rfl]
      · rw [e9, uI_k rfl]
      · intro j z
        rw [e11 j z]
        exact uI_k rfl
      · intro q z1 z2
        have := e12 q z1 z2
        rw [uI_k rfl, uI_k rfl, uI_k rfl, uI_k rfl] at this
        exact this
    · unfold alA
      rw [if_neg (by omega), if_pos (by omega)]
    · have e1 : uI C 11 0 6 (C 11 0 6 + 1) 12 0 1 = (n : Int) := by rw [uI_k rfl]; exact k4
      have e2 : uI C 11 0 6 (C 11 0 6 + 1) 12 0 2 = C 12 0 2 := uI_k rfl
      refine gX6_die_t ⟨fun q => absurd q (by omega), fun _ => ⟨fun q => absurd q (by omega), fun _ => ⟨fun g3 => ?_, fun g3 => ⟨by omega, tick () 1 (by omega) (fun q s hs => ?_)⟩⟩⟩⟩
      · obtain ⟨b, hb⟩ : ∃ b : Nat, (b : Int) = -act k := ⟨(-act k).toNat, by omega⟩
        have hb2 : 1 ≤ b ∧ b ≤ 59 ∧ b ≤ n ∧ act k = -(b : Int) := by omega
        have en : ((uI C 11 0 6 (C 11 0 6 + 1) 12 0 1 - -act k) % 60).toNat = (n - b) % 60 := by rw [e1]; omega
        have er : uI C 11 0 6 (C 11 0 6 + 1) 13 0 ((n - b) % 60) = own (n - b) := by rw [uI_k rfl]; exact k10 b hb2.1 hb2.2.1 hb2.2.2.1
        have eo := k9 (n - b) (by omega)
        refine ⟨by omega, by omega, by omega, ?_, ?_⟩
        · rw [en, er, e2]
          omega
        · rw [en, er, e2]
          refine ⟨by omega, nx _ fa n (uN own (n - b) 0) (fun k i j z => ?_) (lnR_die hR hm hb2 (fun k i j z1 z2 z3 => ?_) ?_ ?_ ?_ ?_ ?_ uI_s (fun j hj => ?_))⟩
          · rw [uI_no (fun y => absurd y.1 (by omega)), uI_no (fun y => absurd y.1 (by omega))]
            exact fr () k i j (by omega)
          · rw [uI_no (fun y => z3 y.1), uI_no (fun y => z2 y.1)]
            exact fr () k i j (by omega)
          · rw [uI_k rfl, uI_k rfl, uI_j rfl]
          · rw [uI_k rfl, uI_k rfl, uI_j rfl]
          · rw [uI_k rfl, uI_k rfl, uI_s]
          · rw [uI_k rfl, uI_j rfl, uI_k rfl]
          · rw [uI_k rfl, uI_s, k10 b hb2.1 hb2.2.1 hb2.2.2.1]
          · rw [uI_no (fun y => hj y.2.2), uI_k rfl, uI_k rfl]
      · unfold alA
        rw [if_neg (by omega), if_neg (by omega), if_pos (by omega), hs, if_pos (by omega)]
  · rw [hact]
    refine fun g1 => ⟨by omega, by omega, fun g2 => sX1_isMake (fun g3 => absurd g3 (by omega)) (fun g3 => ⟨fun _ => ⟨by omega, tick () _ (by omega) (fun q s _ => ?_)⟩, fun q => absurd rfl q⟩), fun q => absurd q (by omega)⟩
    unfold alA
    rw [if_pos (by omega)]
theorem sX8_round {i L len ro : Nat} {cp : Int} {act h : Nat → Int} {P : aIF → Prop} (hi : i < 6) (hL : L ≤ 65) (hl : len ≤ 60) (hm : ∀ q, q < L → h q ≤ 4096) (hmo : ∀ p q, p ≤ q → q < L → h p ≤ h q) (ha : ∀ q, q < len → actOK (act q)) : ∀ (m k c fa n : Nat) (own : Nat → Int) (st : Nat → Option alS) (C : aIF), k + m = len → c + m ≤ 2400 → pC C i cp len ro act → lnR C L c h fa n own st →
    (∀ (C' : aIF) (fa' n' : Nat) (own' : Nat → Int), (∀ k i j, k < 11 ∨ 16 < k → C' k i j = C k i j) → lnR C' L (c + m) h fa' n' own' (fun q => (st q).bind (alR cp (h q) act k m)) → P C') →
    kRunV w mX8_passRound 2 [some (aO 11 0), some (aO 6 i), some (aI (k : Int)), none] [] C S (rf mm) P
  | 0, k, c, fa, n, own, st, C, e, hc, hp, hR, hP => gX8_passRound_2 hi ⟨fun _ => hP C fa n own (fun _ _ _ _ => rfl) (by
      have : (fun q => (st q).bind (alR cp (h q) act k 0)) = st := funext (fun q => by cases st q <;> rfl)
      rw [this]
      exact hR), fun q => absurd (by rw [hp.1]; omega) q⟩
  | m + 1, k, c, fa, n, own, st, C, e, hc, hp, hR, hP => by
    refine sX8_act hi hL (by omega) (by omega) hl hm hmo (ha k (by omega)) hp hR (fun C1 fa1 n1 own1 hf1 hR1 => ?_)
    refine sX8_round hi hL hl hm hmo ha m (k + 1) (c + 1) fa1 n1 own1 _ C1 (by omega) (by omega) (pC_cg (fun k i j z => hf1 k i j (by omega)) hp) hR1 (fun C2 fa2 n2 own2 hf2 hR2 => hP C2 fa2 n2 own2 (fun k i j z => by rw [hf2 k i j z, hf1 k i j z]) ?_)
    have : (fun q => (st q).bind (alR cp (h q) act k (m + 1))) = (fun q => ((st q).bind (alA cp (h q) (act k))).bind (alR cp (h q) act (k + 1) m)) := funext (fun q => by
      rw [bind_bind]
      cases st q with
      | none => rfl
      | some s => exact alR_succ)
    rw [this, show c + (m + 1) = c + 1 + m by omega]
    exact hR2
theorem sX8_rounds {i L len ro : Nat} {cp lr sp hm' : Int} {act h : Nat → Int} {P : aIF → Prop} (hi : i < 6) (hL : L ≤ 65) (hl : len ≤ 60) (hro : ro ≤ 40) (hm : ∀ q, q < L → h q ≤ 4096) (hmo : ∀ p q, p ≤ q → q < L → h p ≤ h q) (ha : ∀ q, q < len → actOK (act q)) : ∀ (N r c fa n : Nat) (own : Nat → Int) (st : Nat → Option alS) (C : aIF), r + N = ro → c + N * len ≤ 2400 → pC C i cp len ro act → lnR C L c h fa n own st →
    (∀ (C' : aIF) (c' fa' n' : Nat) (own' : Nat → Int), (∀ k i j, k < 11 ∨ 16 < k → C' k i j = C k i j) → c' ≤ 2400 → lnR C' L c' h fa' n' own' (fun q => if q < L then (st q).bind (alQ cp (h q) act len N) else none) → P C') →
    kRunV w mX8_pass 82 [some (aO 11 0), some (aO 6 i), some (aI lr), some (aI sp), some (aI hm'), some (aI (r : Int))] [] C S (rf mm) P
  | 0, r, c, fa, n, own, st, C, e, hc, hp, hR, hP => gX8_pass_82 hi ⟨fun _ => hP C c fa n own (fun _ _ _ _ => rfl) (by omega) (by
      obtain ⟨k1, k2, k3, k4, k5, k6, k7⟩ := hR
      refine ⟨k1, k2, k3, k4, k5, fun q z => ?_, fun q z1 z2 => ?_⟩
      · show (if q < L then (st q).bind _ else none) = none
        rw [k6 q z, if_pos (by omega)]
        rfl
      · have := k7 q z1 z2
        refine ⟨?_, this.2⟩
        show (if q < L then (st q).bind _ else none) = _
        rw [this.1, if_pos z2]
        rfl), fun q => absurd (by rw [hp.2.2.1]; omega) q⟩
  | N + 1, r, c, fa, n, own, st, C, e, hc, hp, hR, hP => by
    rw [Nat.succ_mul] at hc
    refine gX8_pass_82 hi ⟨fun q => absurd q (by rw [hp.2.2.1]; omega), fun _ => ⟨fun q => ?_, fun q => gX8_passRound hi ?_⟩⟩
    · refine hP C c fa n own (fun _ _ _ _ => rfl) (by omega) ?_
      obtain ⟨k1, k2, k3, k4, k5, k6, k7⟩ := hR
      refine ⟨k1, k2, k3, k4, k5, fun q z => ?_, fun q z1 z2 => absurd z2 (by omega)⟩
      show (if q < L then (st q).bind _ else none) = none
      rw [k6 q z, if_pos (by omega)]
      rfl
    · refine sX8_round hi hL hl hm hmo ha len 0 c fa n own st C (by omega) (by omega) hp hR (fun C1 fa1 n1 own1 hf1 hR1 => ⟨by omega, ?_⟩)
      refine sX8_rounds hi hL hl hro hm hmo ha N (r + 1) (c + len) fa1 n1 own1 _ C1 (by omega) (by omega) (pC_cg (fun k i j z => hf1 k i j (by omega)) hp) hR1 (fun C2 c2 fa2 n2 own2 hf2 hc2 hR2 => hP C2 c2 fa2 n2 own2 (fun k i j z => by rw [hf2 k i j z, hf1 k i j z]) hc2 ?_)
      have : (fun q => if q < L then (st q).bind (alQ cp (h q) act len (N + 1)) else none) = (fun q => if q < L then ((st q).bind (alR cp (h q) act 0 len)).bind (alQ cp (h q) act len N) else none) := funext (fun q => by
        by_cases z : q < L
        · rw [if_pos z, if_pos z, bind_bind]
          cases st q with
          | none => rfl
          | some s => exact alQ_succ
        · rw [if_neg z, if_neg z])
      rw [this]
      exact hR2
theorem sX8_lanes {i L : Nat} {cp lr sp hm' : Int} {len ro : Nat} {act : Nat → Int} {P : aIF → Prop} (hi : i < 6) (hL : L ≤ 65) (hr : ∀ q : Nat, q < L → 0 ≤ (q : Int) * sp ∧ (q : Int) * sp ≤ 4096 ∧ 0 ≤ lr + (q : Int) * sp ∧ lr + (q : Int) * sp ≤ 4096) : ∀ (m k : Nat) (C : aIF), k + m = L → C 11 0 4 = (L : Int) → pC C i cp len ro act →
    (∀ C' : aIF, (∀ k i j, k < 14 ∨ 16 < k → C' k i j = C k i j) → (∀ q, k ≤ q → q < L → C' 14 0 q = holdF cp (lr + (q : Int) * sp) ∧ C' 15 0 q = 0 ∧ C' 16 0 q = 0) → (∀ q, q < k → C' 14 0 q = C 14 0 q ∧ C' 15 0 q = C 15 0 q ∧ C' 16 0 q = C 16 0 q) → kRunV w mX8_pass 82 [some (aO 11 0), some (aO 6 i), some (aI lr), some (aI sp), some (aI hm'), some (aI 0)] [] C' S (rf mm) P) →
    kRunV w mX8_pass 31 [some (aO 11 0), some (aO 6 i), some (aI lr), some (aI sp), some (aI hm'), some (aI (k : Int))] [] C S (rf mm) P
  | 0, k, C, e, h4, hp, hP => gX8_pass_31 hi ⟨fun _ => hP C (fun _ _ _ _ => rfl) (fun q z1 z2 => absurd z2 (by omega)) (fun _ _ => ⟨rfl, rfl, rfl⟩), fun q => absurd q (by omega)⟩
  | m + 1, k, C, e, h4, hp, hP => by
    obtain ⟨r1, r2, r3, r4⟩ := hr k (by omega)
    refine gX8_pass_31 hi ⟨fun q => absurd q (by omega), fun _ => ⟨by omega, by omega, sX1_holds hi hp.2.1 r3 ⟨by omega, by omega, ?_⟩⟩⟩
    have g : ∀ {x y z : Int}, ∀ k' i j, k' < 14 ∨ 16 < k' → uI (uI (uI C 14 0 k x) 15 0 k y) 16 0 k z k' i j = C k' i j := fun {x y z} k' i j hk => by
      rw [uI_no (by omega), uI_no (by omega), uI_no (by omega)]
    refine sX8_lanes hi hL hr m (k + 1) _ (by omega) (by rw [g _ _ _ (by omega)]; exact h4) (pC_cg (fun k i j z => g k i j (by omega)) hp) (fun C' k1 k2 k3 => hP C' (fun k' i j z => by rw [k1 k' i j z, g k' i j z]) (fun q z1 z2 => ?_) (fun q z => ?_))
    · by_cases eq : q = k
      · subst eq
        have := k3 q (by omega)
        rw [this.1, this.2.1, this.2.2, uI_k rfl, uI_k rfl, uI_s, uI_k rfl, uI_s, uI_s]
        exact ⟨rfl, rfl, rfl⟩
      · exact k2 q (by omega) z2
    · have := k3 q (by omega)
      rw [this.1, this.2.1, this.2.2, uI_k rfl, uI_k rfl, uI_no (by omega), uI_k rfl, uI_no (by omega), uI_k rfl, uI_no (by omega), uI_k rfl, uI_k rfl]
      exact ⟨rfl, rfl, rfl⟩
/-- what a walk leaves -/
theorem sX8_pass {C : aIF} {i L len ro : Nat} {cp lr sp : Int} {act : Nat → Int} {P : aIF → Prop} (hi : i < 6) (hL : L ≤ 65) (hsp : 0 ≤ sp) (hr : ∀ q : Nat, q < L → 0 ≤ (q : Int) * sp ∧ (q : Int) * sp ≤ 4096 ∧ 0 ≤ lr + (q : Int) * sp ∧ lr + (q : Int) * sp ≤ 4096) (hp : pC C i cp len ro act) (hl : len ≤ 60) (hro : ro ≤ 40) (ha : ∀ q, q < len → actOK (act q))
    (hP : ∀ C' : aIF, (∀ k i j, k < 11 ∨ 16 < k → C' k i j = C k i j) → C' 11 0 4 = (L : Int) → (∀ q : Nat, q < L → ((q : Int) < C' 11 0 5 → aloneF cp ro len act (lr + (q : Int) * sp) = -1) ∧ (¬ (q : Int) < C' 11 0 5 → (0 ≤ C' 11 0 6 + C' 16 0 q ∧ C' 11 0 6 + C' 16 0 q ≤ 40000000) ∧ aloneF cp ro len act (lr + (q : Int) * sp) = C' 11 0 6 + C' 16 0 q)) → P C') :
    kMetV w mX8_pass [aO 11 0, aO 6 i, aI lr, aI sp, aI (L : Int)] C S (rf mm) P := by
  refine gX8_pass hi (gX6_forget_t ?_)
  rw [Int.min_eq_left (show (L : Int) ≤ 65 by omega)]
  have g : ∀ {x y z u v : Int}, ∀ k i j, k < 11 ∨ 12 < k → uI (uI (uI (uI (uI C 11 0 4 x) 11 0 5 y) 11 0 6 z) 12 0 1 u) 12 0 2 v k i j = C k i j := fun {x y z u v} k i j hk => by
    rw [uI_no (by omega), uI_no (by omega), uI_no (by omega), uI_no (by omega), uI_no (by omega)]
  have hmo : ∀ p q, p ≤ q → q < L → holdF cp (lr + (p : Int) * sp) ≤ holdF cp (lr + (q : Int) * sp) := fun p q h1 h2 => by
    have : (p : Int) * sp ≤ (q : Int) * sp := Int.mul_le_mul_of_nonneg_right (by omega) hsp
    unfold holdF
    split <;> omega
  have hm : ∀ q, q < L → holdF cp (lr + (q : Int) * sp) ≤ 4096 := fun q h => by
    have := hr q h
    unfold holdF
    split <;> omega
  have hb : ro * len ≤ 40 * 60 := Nat.mul_le_mul hro hl
  refine sX8_lanes (cp := cp) (len := len) (ro := ro) (act := act) (L := L) hi hL hr L 0 _ (by omega) (by rw [uI_k rfl, uI_k rfl, uI_j rfl, uI_j rfl, uI_s]) (pC_cg (fun k i j z => g k i j (by omega)) hp) (fun C1 k1 k2 k3 => ?_)
  have e : ∀ k i j, k < 11 ∨ 16 < k → C1 k i j = C k i j := fun k i j hk => by rw [k1 k i j (by omega), g k i j (by omega)]
  refine sX8_rounds (h := fun q => holdF cp (lr + (q : Int) * sp)) hi hL hl hro hm hmo ha ro 0 0 0 0 (fun _ => 0) (fun _ => some al0) C1 (by omega) (by omega) (pC_cg (fun k i j z => e k i j (by omega)) hp) ?_ (fun C2 c2 fa2 n2 own2 hf2 hc2 hR2 => hP C2 (fun k i j z => by rw [hf2 k i j z, e k i j z]) hR2.1.1 (fun q hq => ?_))
  · refine ⟨⟨?_, ?_, by omega, ?_, by omega⟩, ⟨?_, ?_⟩, ⟨?_, fun q hq => absurd hq (by omega)⟩, fun b z1 z2 z3 => absurd z3 (by omega), fun q hq => (k2 q (by omega) hq).1, fun q hq => absurd hq (by omega), fun q z1 z2 => ?_⟩
    · rw [k1 _ _ _ (by omega), uI_k rfl, uI_k rfl, uI_j rfl, uI_j rfl, uI_s]
    · rw [k1 _ _ _ (by omega), uI_k rfl, uI_k rfl, uI_j rfl, uI_s]
      rfl
    · rw [k1 _ _ _ (by omega), uI_j rfl, uI_s]
      rfl
    · rw [k1 _ _ _ (by omega), uI_k rfl, uI_k rfl, uI_s]
      exact Int.le_refl 0
    · rw [k1 _ _ _ (by omega), uI_k rfl, uI_k rfl, uI_s]
      exact Int.le_refl 0
    · rw [k1 _ _ _ (by omega), uI_s]
      rfl
    · have := k2 q (by omega) z2
      rw [this.2.1, this.2.2, k1 11 _ _ (by omega), k1 12 _ _ (by omega), uI_s, uI_k rfl, uI_k rfl, uI_s]
      exact ⟨rfl, Int.le_refl 0, alJ_0⟩
  · obtain ⟨⟨j1, j2, j3, j4, j5⟩, ⟨j6, j7⟩, ⟨j8, j9⟩, j10, j11, j12, j13⟩ := hR2
    unfold aloneF
    refine ⟨fun z => ?_, fun z => ?_⟩
    · have := j12 q (by omega)
      dsimp only at this
      rw [if_pos hq] at this
      rw [show alQ cp (holdF cp (lr + (q : Int) * sp)) act len ro al0 = none from this]
    · have := j13 q (by omega) hq
      dsimp only at this
      rw [if_pos hq] at this
      rw [show alQ cp (holdF cp (lr + (q : Int) * sp)) act len ro al0 = some _ from this.1]
      have b := this.2.2.1
      dsimp only at b
      exact ⟨by omega, rfl⟩
end TR3
