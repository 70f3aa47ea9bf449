/-! what a hand does: the steps -/
theorem any_suc (p : Nat → Bool) (m : Nat) : (List.range (m + 1)).any p = ((List.range m).any p || p m) := by
  rw [List.range_succ, List.any_append]
  simp
theorem any_iff (p : Nat → Bool) (m : Nat) : (List.range m).any p = true ↔ ∃ i, i < m ∧ p i = true := by
  rw [List.any_eq_true]
  constructor
  · rintro ⟨i, h1, h2⟩; exact ⟨i, List.mem_range.mp h1, h2⟩
  · rintro ⟨i, h1, h2⟩; exact ⟨i, List.mem_range.mpr h1, h2⟩
section HD
variable {S : Nat → Bool} {F : Nat → Int} {d : Nat → Nat}
theorem lowF_nn : ∀ m, 0 ≤ lowF S F m
  | 0 => Int.le_refl _
  | m + 1 => by
    have := lowF_nn m
    unfold lowF
    split
    · next h => omega
    · exact this
theorem lowF_le : ∀ {m i : Nat}, i < m → S i = true → 0 < F i → 0 < lowF S F m ∧ lowF S F m ≤ F i
  | 0, i, h, _, _ => by omega
  | m + 1, i, h, hs, hf => by
    have nn := lowF_nn (S := S) (F := F) m
    unfold lowF
    by_cases e : i = m
    · subst e
      split
      · next h => omega
      · next h =>
        have : ¬ (lowF S F i = 0 ∨ F i < lowF S F i) := fun z => h ⟨hs, hf, z⟩
        omega
    · have ih := lowF_le (m := m) (i := i) (by omega) hs hf
      split
      · next h => omega
      · exact ih
theorem lowF_at : ∀ {m : Nat}, 0 < lowF S F m → ∃ i, i < m ∧ S i = true ∧ F i = lowF S F m
  | 0, h => by unfold lowF at h; omega
  | m + 1, h => by
    unfold lowF at h ⊢
    by_cases c : S m = true ∧ 0 < F m ∧ (lowF S F m = 0 ∨ F m < lowF S F m)
    · rw [if_pos c]; exact ⟨m, by omega, c.1, rfl⟩
    · rw [if_neg c] at h ⊢
      obtain ⟨i, h1, h2, h3⟩ := lowF_at h
      exact ⟨i, by omega, h2, h3⟩
def hiF (S : Nat → Bool) (F : Nat → Int) : Nat → Int
  | 0 => 0
  | m + 1 => if S m = true ∧ hiF S F m < F m then F m else hiF S F m
theorem hiF_nn : ∀ m, 0 ≤ hiF S F m
  | 0 => Int.le_refl _
  | m + 1 => by
    have := hiF_nn m
    unfold hiF
    split
    · next h => omega
    · exact this
theorem hiF_gt {b : Int} (hb : 0 ≤ b) : ∀ m, b < hiF S F m ↔ ∃ i, i < m ∧ S i = true ∧ b < F i
  | 0 => by
    constructor
    · intro h; unfold hiF at h; omega
    · rintro ⟨i, h, _⟩; omega
  | m + 1 => by
    have ih := hiF_gt hb m
    unfold hiF
    by_cases c : S m = true ∧ hiF S F m < F m
    · rw [if_pos c]
      constructor
      · intro h; exact ⟨m, by omega, c.1, h⟩
      · rintro ⟨i, h1, h2, h3⟩
        by_cases e : i = m
        · subst e; exact h3
        · have := ih.mpr ⟨i, by omega, h2, h3⟩; omega
    · rw [if_neg c]
      constructor
      · intro h
        obtain ⟨i, h1, h2, h3⟩ := ih.mp h
        exact ⟨i, by omega, h2, h3⟩
      · rintro ⟨i, h1, h2, h3⟩
        by_cases e : i = m
        · subst e
          have : ¬ hiF S F i < F i := fun z => c ⟨h2, z⟩
          omega
        · exact ih.mpr ⟨i, by omega, h2, h3⟩
theorem wd_hi {lim : Int} (hl : 0 ≤ lim) (m : Nat) : wdB S F lim m = decide (lim < hiF S F m) := by
  have h := hiF_gt (S := S) (F := F) hl m
  unfold wdB
  by_cases c : lim < hiF S F m
  · rw [decide_eq_true c, any_iff]
    obtain ⟨i, h1, h2, h3⟩ := h.mp c
    exact ⟨i, h1, by rw [h2, decide_eq_true h3]; rfl⟩
  · rw [decide_eq_false c, Bool.eq_false_iff]
    intro z
    rw [any_iff] at z
    obtain ⟨i, h1, h2⟩ := z
    rw [Bool.and_eq_true] at h2
    exact c (h.mpr ⟨i, h1, h2.1, of_decide_eq_true h2.2⟩)
theorem atl_no {m : Nat} {v : Int} (h : ∀ i, i < m → S i = true → ¬ (0 < v ∧ F i = v)) : cntB (fun i => S i && decide (0 < v ∧ F i = v)) m = 0 := by
  induction m with
  | zero => rfl
  | succ m ih =>
    rw [cntB_f (by
      intro z
      rw [Bool.and_eq_true] at z
      exact h m (by omega) z.1 (of_decide_eq_true z.2)), ih (fun i hi => h i (by omega))]
/-- the count at the lowest fret goes on -/
theorem atl_0 {m : Nat} (h : ¬ (S m = true ∧ 0 < F m)) : lowF S F (m + 1) = lowF S F m ∧ atlC S F (m + 1) = atlC S F m := by
  have e : lowF S F (m + 1) = lowF S F m := by
    show (if _ then _ else _) = _
    exact if_neg (fun z => h ⟨z.1, z.2.1⟩)
  refine ⟨e, ?_⟩
  unfold atlC
  rw [e]
  exact cntB_f (fun z => by
    rw [Bool.and_eq_true] at z
    have := of_decide_eq_true z.2
    exact h ⟨z.1, by omega⟩)
theorem atl_new {m : Nat} (h1 : S m = true) (h2 : 0 < F m) (h3 : lowF S F m = 0 ∨ F m < lowF S F m) : lowF S F (m + 1) = F m ∧ atlC S F (m + 1) = 1 := by
  have e : lowF S F (m + 1) = F m := if_pos ⟨h1, h2, h3⟩
  refine ⟨e, ?_⟩
  unfold atlC
  rw [e, cntB_t (by rw [h1, decide_eq_true ⟨h2, rfl⟩]; rfl), atl_no (fun i hi hs z => by
    have := lowF_le (F := F) hi hs (by omega)
    omega)]
theorem atl_eq {m : Nat} (h1 : S m = true) (h2 : 0 < F m) (h3 : F m = lowF S F m) : lowF S F (m + 1) = lowF S F m ∧ atlC S F (m + 1) = atlC S F m + 1 := by
  have e : lowF S F (m + 1) = lowF S F m := if_neg (fun z => by omega)
  refine ⟨e, ?_⟩
  unfold atlC
  rw [e]
  exact cntB_t (by rw [h1, decide_eq_true ⟨by omega, h3⟩]; rfl)
theorem atl_gt {m : Nat} (h3 : 0 < lowF S F m) (h4 : lowF S F m < F m) : lowF S F (m + 1) = lowF S F m ∧ atlC S F (m + 1) = atlC S F m := by
  have e : lowF S F (m + 1) = lowF S F m := if_neg (fun z => by omega)
  refine ⟨e, ?_⟩
  unfold atlC
  rw [e]
  exact cntB_f (fun z => by
    rw [Bool.and_eq_true] at z
    have := of_decide_eq_true z.2
    omega)
theorem atl_pos {m : Nat} (h : 0 < atlC S F m) : 0 < lowF S F m := by
  rcases Int.lt_or_le 0 (lowF S F m) with q | q
  · exact q
  · unfold atlC at h
    rw [atl_no (fun i hi hs z => by omega)] at h
    omega
theorem atl_le (m : Nat) : atlC S F m ≤ posC S F m := by
  unfold atlC posC
  have : ∀ v : Int, ∀ j, cntB (fun i => S i && decide (0 < v ∧ F i = v)) j ≤ cntB (fun i => S i && decide (0 < F i)) j := by
    intro v j
    induction j with
    | zero => exact Nat.le_refl _
    | succ j ih =>
      by_cases c : (S j && decide (0 < v ∧ F j = v)) = true
      · rw [cntB_t (P := fun i => S i && decide (0 < v ∧ F i = v)) c]
        rw [Bool.and_eq_true] at c
        have c2 := of_decide_eq_true c.2
        rw [cntB_t (P := fun i => S i && decide (0 < F i)) (by rw [c.1, decide_eq_true (show 0 < F j by omega)]; rfl)]
        omega
      · rw [cntB_f (P := fun i => S i && decide (0 < v ∧ F i = v)) c]
        exact Nat.le_trans ih (Nat.le_add_right _ _)
  exact this _ m
end HD
