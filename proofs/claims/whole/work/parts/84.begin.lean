/-! the picture behind the constructors -/
theorem σd_r : ∀ p, p < 82 → ∀ k, k < (RB.getD p []).length → Rk p k = true → gR σd p k = RV p k := by decide +kernel
theorem Rk_lt {p k : Nat} (h : Rk p k = true) : p < 82 ∧ k < (RB.getD p []).length := by
  have hk : k < (RB.getD p []).length := by
    rcases Nat.lt_or_ge k (RB.getD p []).length with y | y
    · exact y
    · unfold Rk at h
      rw [List.getD_eq_getElem?_getD, List.getElem?_eq_none y] at h
      cases h
  refine ⟨?_, hk⟩
  rcases Nat.lt_or_ge p 82 with y | y
  · exact y
  · rw [List.getD_eq_getElem?_getD (l := RB), List.getElem?_eq_none (show RB.length ≤ p from Nat.le_trans (by decide +kernel) y)] at hk
    cases hk
theorem σd_p : gR σd 12 3 = 13 ∧ gR σd 12 4 = 18 ∧ gR σd 12 5 = 23 := by decide +kernel
theorem σd_ref : RefI σd := ⟨fun p k h => σd_r p (Rk_lt h).1 k (Rk_lt h).2 h, Or.inl σd_p⟩
def oD (k : Nat) : Nat := [20, 15, 11, 6, 0].getD k 0
def gD (k : Nat) : Nat := [7, 3, 2, 1, 1].getD k 0
theorem σd_1 : gI σd 1 0 = nI 5 ∧ gI σd 55 0 = nI 5 ∧ (∀ k, k < 5 → gI σd 2 k = nI (oD k) ∧ gI σd 56 k = nI (oD k)) ∧ (∀ k, k < 5 → gI σd 3 k = nI (gD k) ∧ gI σd 55 (k + 2) = nI (gD k)) := by decide +kernel
theorem σd_2 : gI σd 4 6 = nI 0 ∧ gI σd 55 10 = nI 0 ∧ gI σd 4 7 = nI 0 ∧ gI σd 9 0 = nI 0 ∧ gI σd 31 1 = nI 0 ∧ gI σd 55 39 = nI 0 ∧ gI σd 0 11 = nI 0 ∧ gI σd 55 12 = nI 0 := by decide +kernel
theorem σd_3 : (∀ s, s < 4 → gI σd (47 + 2 * s) 0 = nI 1 ∧ gI σd 78 s = -1) ∧ gI σd 0 12 = gI σd 55 48 ∧ gI σd 55 20 = nI 0 := by decide +kernel
theorem σd_4 : (∀ s, s < 4 → gI σd 45 s = nI 0 ∧ gI σd 62 s = nI 0) ∧ ∀ k, k < 30 → gI σd 30 k = nI 0 := by decide +kernel
theorem σd_Rel : Rel σd := by
  obtain ⟨a1, a2, a3, a4, a5, a6, a7, a8⟩ := σd_2
  refine Rel.anew (c := 5) (n := 0) (nk := 0) (t := 0) (o := oD) (g := gD) (tm := fun _ => 0) (pt := fun _ => 0) (ls := fun _ => 0) (fs := fun _ => 0) (tb := fun _ => 0) σd_ref ⟨by decide, by decide, by decide, by decide, by decide, by decide, by decide, by decide, by decide⟩ ⟨by decide, fun i hi => absurd hi (Nat.not_lt_zero i), fun i hi => absurd hi (Nat.not_lt_zero _), fun t => Nat.zero_le _⟩ σd_1 ⟨a1, a2, fun i hi => absurd hi (Nat.not_lt_zero i)⟩ ⟨⟨rfl, rfl, fun k hk => absurd hk (Nat.not_lt_zero k), fun k hk => absurd hk (Nat.not_lt_zero k), fun k hk => absurd hk (Nat.not_lt_zero _)⟩, a3, fun k hk => ?_, fun k hk => absurd hk (Nat.not_lt_zero k), fun k hk => absurd hk (Nat.not_lt_zero k)⟩ ⟨by decide, a5, a6, fun i hi => absurd hi (Nat.not_lt_zero i)⟩ (fun s hs => Or.inl (σd_3.1 s hs)) σd_3.2 a7 a8 (fun s hs => (σd_4.1 s hs).1) (fun s hs => (σd_4.1 s hs).2) σd_4.2
  have e : k = 0 := Nat.le_zero.mp hk
  subst e
  exact a4
