/-! deal -/
def uM (f : Nat → Nat) (i v : Nat) : Nat → Nat := fun q => if q = i then v else f q
theorem uM_s {f : Nat → Nat} {i v : Nat} : uM f i v i = v := if_pos rfl
theorem uM_n {f : Nat → Nat} {i v q : Nat} (h : q ≠ i) : uM f i v q = f q := if_neg h
def whoF (sv : Nat → Int) : Nat → Nat → Int → Int → Int
  | 0, _, who, _ => who
  | m + 1, k, who, most => if most < sv k then whoF sv m (k + 1) (k : Int) (sv k) else whoF sv m (k + 1) who most
theorem whoF_is {sv : Nat → Int} : ∀ (m k : Nat) (who most : Int), whoF sv m k who most = who ∨ ∃ q : Nat, k ≤ q ∧ q < k + m ∧ whoF sv m k who most = (q : Int)
  | 0, _, _, _ => Or.inl rfl
  | m + 1, k, who, most => by
    unfold whoF
    split
    · rcases whoF_is (sv := sv) m (k + 1) (k : Int) (sv k) with h | ⟨q, h1, h2, h3⟩
      · exact Or.inr ⟨k, by omega, by omega, h⟩
      · exact Or.inr ⟨q, by omega, by omega, h3⟩
    · rcases whoF_is (sv := sv) m (k + 1) who most with h | ⟨q, h1, h2, h3⟩
      · exact Or.inl h
      · exact Or.inr ⟨q, by omega, by omega, h3⟩
def svF (g : Nat → Nat → Int) (sh : Nat → Nat) (p : Nat) : Int := g p (sh p) - g p (sh p + 1)
def grF (g : Nat → Nat → Int) (n : Nat) : Nat → (Nat → Nat) → Nat → Nat
  | 0, sh => sh
  | l + 1, sh => if whoF (svF g sh) n 0 (-1) 0 = -1 then sh else grF g n l (uM sh (whoF (svF g sh) n 0 (-1) 0).toNat (sh (whoF (svF g sh) n 0 (-1) 0).toNat + 1))
def smF (g : Nat → Nat → Int) (sh : Nat → Nat) : Nat → Nat → Int → Int
  | 0, _, acc => acc
  | m + 1, k, acc => smF g sh m (k + 1) (acc + g k (sh k))
theorem grF_le {g : Nat → Nat → Int} {n N : Nat} : ∀ (l : Nat) (sh : Nat → Nat), (∀ p, p < n → sh p + l ≤ N) → ∀ p, p < n → sh p ≤ grF g n l sh p ∧ grF g n l sh p ≤ N
  | 0, sh, h, p, hp => by
    have := h p hp
    exact ⟨Nat.le_refl _, by show sh p ≤ N; omega⟩
  | l + 1, sh, h, p, hp => by
    unfold grF
    split
    · have := h p hp
      exact ⟨Nat.le_refl _, by omega⟩
    · generalize (whoF (svF g sh) n 0 (-1) 0).toNat = i
      have := grF_le (g := g) (n := n) (N := N) l (uM sh i (sh i + 1)) (fun q hq => by
        have := h q hq
        by_cases e : q = i
        · rw [e, uM_s]
          rw [e] at this
          omega
        · rw [uM_n e]
          omega) p hp
      refine ⟨?_, this.2⟩
      have h2 := this.1
      by_cases e : p = i
      · rw [e, uM_s] at h2
        rw [e]
        omega
      · rw [uM_n e] at h2
        exact h2
section DL
variable {w : aW} {mm t : Nat}
theorem sX0_who_8 {C : aIF} {S : aS} {n N : Nat} {g : Nat → Nat → Int} {sh : Nat → Nat} {P : Int → aIF → Prop} (hn : n ≤ 6) (hN : N ≤ 64) (h90 : 0 < C 9 0 0) (h91 : 0 ≤ C 9 0 1) (hd : C 9 0 1 / C 9 0 0 = (N : Int)) (hsh : ∀ p, p < n → C 17 0 p = (sh p : Int) ∧ sh p < N) (hg : ∀ p, p < n → ∀ k, k ≤ N → C 8 p k = g p k ∧ -1 ≤ g p k ∧ g p k ≤ 20160000) : ∀ (m k : Nat) (who most : Int), k + m = n → P (whoF (svF g sh) m k who most) C → kRunI w mX0_whoSavesMost 8 [some (aO 10 0), some (aO 5 0), some (aI (n : Int)), some (aI who), some (aI most), some (aI (k : Int)), none, none] [] C S (rf mm) P
  | 0, k, who, most, e, hP => gX0_whoSavesMost_8 ⟨fun _ => hP, fun q => absurd (by omega) q⟩
  | m + 1, k, who, most, e, hP => by
    obtain ⟨s1, s2⟩ := hsh k (by omega)
    obtain ⟨a1, a2, a3⟩ := hg k (by omega) (sh k) (by omega)
    obtain ⟨b1, b2, b3⟩ := hg k (by omega) (sh k + 1) (by omega)
    have e1 : (C 17 0 k).toNat = sh k := by omega
    have e2 : (C 17 0 k + 1).toNat = sh k + 1 := by omega
    have e3 : svF g sh k = g k (sh k) - g k (sh k + 1) := rfl
    unfold whoF at hP
    refine gX0_whoSavesMost_8 ⟨fun q => absurd q (by omega), fun _ => ⟨by omega, gX5_allSteps ⟨⟨h91, h90⟩, ?_⟩⟩⟩
    rw [hd, e1, e2, a1, b1]
    refine ⟨fun q => absurd q (by omega), fun _ => ⟨by omega, by omega, by omega, by omega, fun q => ⟨by omega, ?_⟩, fun q => ⟨by omega, ?_⟩⟩⟩
    · rw [if_neg (by omega)] at hP
      exact sX0_who_8 hn hN h90 h91 hd hsh hg m (k + 1) _ _ (by omega) hP
    · rw [if_pos (by omega)] at hP
      exact sX0_who_8 hn hN h90 h91 hd hsh hg m (k + 1) _ _ (by omega) hP
theorem sX0_sum_5 {C : aIF} {S : aS} {n N : Nat} {g : Nat → Nat → Int} {sh : Nat → Nat} {P : Int → aIF → Prop} (hn : n ≤ 6) (hN : N ≤ 64) (hsh : ∀ p, p < n → C 17 0 p = (sh p : Int) ∧ sh p ≤ N) (hg : ∀ p, p < n → ∀ k, k ≤ N → C 8 p k = g p k ∧ -1 ≤ g p k ∧ g p k ≤ 20160000) : ∀ (m k : Nat) (acc : Int), k + m = n → -(k : Int) ≤ acc → acc ≤ 20160000 * (k : Int) → P (smF g sh m k acc) C → kRunI w mX0_sumOfTimes 5 [some (aO 10 0), some (aO 5 0), some (aI (n : Int)), some (aI acc), some (aI (k : Int))] [] C S (rf mm) P
  | 0, k, acc, e, _, _, hP => gX0_sumOfTimes_5 ⟨fun _ => hP, fun q => absurd (by omega) q⟩
  | m + 1, k, acc, e, i1, i2, hP => by
    obtain ⟨s1, s2⟩ := hsh k (by omega)
    obtain ⟨a1, a2, a3⟩ := hg k (by omega) (sh k) (by omega)
    have e1 : (C 17 0 k).toNat = sh k := by omega
    refine gX0_sumOfTimes_5 ⟨fun q => absurd q (by omega), fun _ => ⟨by omega, by omega, ?_⟩⟩
    rw [e1, a1]
    exact ⟨by omega, by omega, sX0_sum_5 hn hN hsh hg m (k + 1) _ (by omega) (by omega) (by omega) hP⟩
theorem sX0_by_66 {S : aS} {n N : Nat} {g : Nat → Nat → Int} {P : Int → aIF → Prop} (hn : n ≤ 6) (hN : N ≤ 64) : ∀ (l : Nat) (sh : Nat → Nat) (C : aIF) (l4 : Nat), 0 < C 9 0 0 → 0 ≤ C 9 0 1 → C 9 0 1 / C 9 0 0 = (N : Int) → (∀ p, p < n → C 17 0 p = (sh p : Int) ∧ sh p + l ≤ N) → (∀ p, p < n → ∀ k, k ≤ N → C 8 p k = g p k ∧ -1 ≤ g p k ∧ g p k ≤ 20160000) →
    (∀ C' : aIF, (∀ k i j, ¬ (k = 10 ∧ j = 4) → k ≠ 17 → C' k i j = C k i j) → C' 10 0 4 = 1 → (∀ p, p < n → C' 17 0 p = (grF g n l sh p : Int)) → P (smF g (grF g n l sh) n 0 0) C') →
    kRunI w mX0_bySavings 66 [some (aO 10 0), some (aO 5 0), some (aI (n : Int)), some (aI (l : Int)), some (aI (l4 : Int)), none] [] C S (rf mm) P
  | 0, sh, C, l4, h90, h91, hd, hsh, hg, hP => gX0_bySavings_66 ⟨fun _ => gX0_sumOfTimes (sX0_sum_5 (g := g) (sh := sh) hn hN (fun p hp => by rw [uI_k rfl]; exact ⟨(hsh p hp).1, by have := (hsh p hp).2; omega⟩) (fun p hp k hk => by rw [uI_k rfl]; exact hg p hp k hk) n 0 0 (by omega) (by omega) (by omega) (hP _ (fun k i j z1 z2 => uI_no (fun z => z1 ⟨z.1, z.2.2⟩)) uI_s (fun p hp => by rw [uI_k rfl]; exact (hsh p hp).1))), fun q => absurd (by omega) q⟩
  | l + 1, sh, C, l4, h90, h91, hd, hsh, hg, hP => by
    refine gX0_bySavings_66 ⟨fun q => absurd q (by omega), fun _ => gX0_whoSavesMost (sX0_who_8 (g := g) (sh := sh) hn hN h90 h91 hd (fun p hp => ⟨(hsh p hp).1, by have := (hsh p hp).2; omega⟩) hg n 0 _ _ (by omega) ?_)⟩
    unfold grF at hP
    generalize hw : whoF (svF g sh) n 0 (-1) 0 = i at *
    refine ⟨fun q => ?_, fun q => ?_⟩
    · rw [if_neg q] at hP
      have hi : 0 ≤ i ∧ i.toNat < n ∧ (i.toNat : Int) = i := by
        rcases whoF_is (sv := svF g sh) n 0 (-1) 0 with h | ⟨z, h1, h2, h3⟩ <;> omega
      obtain ⟨s1, s2⟩ := hsh i.toNat hi.2.1
      refine ⟨by omega, by omega, by omega, ?_⟩
      have := sX0_by_66 (S := S) (g := g) (P := P) hn hN l (uM sh i.toNat (sh i.toNat + 1)) (uI C 17 0 i.toNat (C 17 0 i.toNat + 1)) i.toNat (by rw [uI_k rfl]; exact h90) (by rw [uI_k rfl]; exact h91) (by rw [uI_k rfl, uI_k rfl]; exact hd) (fun p hp => by
        have := hsh p hp
        by_cases e : p = i.toNat
        · rw [e, uM_s, uI_s]
          omega
        · rw [uM_n e, uI_no (fun z => e z.2.2)]
          omega) (fun p hp k hk => by rw [uI_k rfl]; exact hg p hp k hk) (fun C' k1 k2 k3 => hP C' (fun k i j z1 z2 => by rw [k1 k i j z1 z2]; exact uI_no (fun z => z2 z.1)) k2 k3)
      rw [show ((l + 1 : Nat) : Int) + -1 = (l : Int) by omega, ← hi.2.2]
      exact this
    · rw [if_pos q] at hP
      exact gX0_sumOfTimes (sX0_sum_5 (g := g) (sh := sh) hn hN (fun p hp => by rw [uI_k rfl]; exact ⟨(hsh p hp).1, by have := (hsh p hp).2; omega⟩) (fun p hp k hk => by rw [uI_k rfl]; exact hg p hp k hk) n 0 0 (by omega) (by omega) (by omega) (hP _ (fun k i j z1 z2 => uI_no (fun z => z1 ⟨z.1, z.2.2⟩)) uI_s (fun p hp => by rw [uI_k rfl]; exact (hsh p hp).1)))
end DL
