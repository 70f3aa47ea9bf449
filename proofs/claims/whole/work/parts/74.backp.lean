/-! back: the notes of a right text -/
theorem psS_L {c F : Nat} {s s' : PS} {b : Nat} (hs : PSo c s) (h : psS c F s b = some s') : isL c F s b = true ↔ 97 ≤ b := by
  obtain ⟨ah, ti, col, le⟩ := s
  obtain ⟨h1, h2, h3, h4, h5, h6, h7⟩ := hs
  dsimp only at h1 h2 h3 h4 h5 h6 h7
  unfold isL
  rw [decide_eq_true_eq]
  dsimp only
  refine ⟨fun y => y.2.2.1, fun y => ?_⟩
  unfold psS at h
  dsimp only at h
  by_cases c0 : col = -1
  · rw [if_pos c0, if_neg (by omega), if_neg (by omega)] at h; cases h
  · rw [if_neg c0] at h
    by_cases c1 : col < (c : Int)
    · rw [if_pos c1, if_neg (by omega)] at h
      by_cases c3 : 97 ≤ b ∧ b ≤ 97 + F ∧ le < 3
      · exact ⟨by omega, c1, c3⟩
      · rw [if_neg c3] at h; cases h
    · rw [if_neg c1, if_neg (by omega)] at h; cases h
def tmN (N : Nat → Nat × Nat × Nat) (j : Nat) : Nat := (N j).1
/-- what holds of the notes told so far -/
def VP (c F : Nat) (x : PS × Nat × (Nat → Nat × Nat × Nat)) : Prop := PSo c x.1 ∧ (∀ m, m < x.2.1 → (x.2.2 m).1 ≤ 199 ∧ (x.2.2 m).2.1 < c ∧ (x.2.2 m).2.2 ≤ F ∧ cntT m (tmN x.2.2) (x.2.2 m).1 < 3) ∧ (∀ m, m < x.2.1 → ((x.2.2 m).1 : Int) ≤ x.1.1 ∨ (0 ≤ x.1.2.2.1 ∧ ((x.2.2 m).1 : Int) = x.1.2.1)) ∧ (0 ≤ x.1.2.2.1 → cntT x.2.1 (tmN x.2.2) x.1.2.1.toNat = x.1.2.2.2)
theorem cntT_cg {tm tm' : Nat → Nat} {a : Nat} : ∀ {m : Nat}, (∀ j, j < m → tm j = tm' j) → cntT m tm a = cntT m tm' a
  | 0, _ => rfl
  | m + 1, h => by
    show cntT m tm a + _ = cntT m tm' a + _
    rw [cntT_cg (fun j hj => h j (by omega)), h m (by omega)]
theorem cntT_no {tm : Nat → Nat} {a : Nat} : ∀ {m : Nat}, (∀ j, j < m → tm j ≠ a) → cntT m tm a = 0
  | 0, _ => rfl
  | m + 1, h => by
    show cntT m tm a + _ = 0
    rw [cntT_no (fun j hj => h j (by omega)), if_neg (h m (by omega))]
theorem VP.step {c F : Nat} {x : PS × Nat × (Nat → Nat × Nat × Nat)} {s' : PS} {b : Nat} (h : VP c F x) (hp : psS c F x.1 b = some s') : VP c F (if isL c F x.1 b = true then (s', x.2.1 + 1, upT x.2.2 x.2.1 (x.1.2.1.toNat, x.1.2.2.1.toNat, b - 97)) else (s', x.2.1, x.2.2)) := by
  obtain ⟨⟨ah, ti, col, le⟩, q, N⟩ := x
  obtain ⟨hs, v1, v2, v3⟩ := h
  have hs' := psS_ok hs hp
  have hL := psS_L hs hp
  obtain ⟨h1, h2, h3, h4, h5, h6, h7⟩ := hs
  dsimp only at h1 h2 h3 h4 h5 h6 h7 v1 v2 v3 hp ⊢
  have e97 := hp
  unfold psS at hp
  dsimp only at hp
  by_cases c0 : col = -1
  · have nl : ¬ isL c F (ah, ti, col, le) b = true := fun y => by have := (of_decide_eq_true y).1; dsimp only at this; omega
    rw [if_neg nl]
    rw [if_pos c0] at hp
    have v2' : ∀ m, m < q → ((N m).1 : Int) ≤ ah := fun m hm => by
      rcases v2 m hm with y | ⟨y, _⟩
      · exact y
      · omega
    by_cases c1 : b = 58
    · rw [if_pos c1] at hp
      by_cases c2 : ah < ti
      · rw [if_pos c2] at hp
        injection hp with hp
        subst hp
        refine ⟨hs', v1, fun m hm => Or.inl (v2' m hm), fun _ => ?_⟩
        dsimp only
        exact cntT_no (fun j hj y => by have := v2' j hj; unfold tmN at y; omega)
      · rw [if_neg c2] at hp; cases hp
    · rw [if_neg c1] at hp
      by_cases c2 : 48 ≤ b ∧ b ≤ 57 ∧ ti ≠ 0 ∧ mayT ah ((if ti = -1 then 0 else 10 * ti) + (b : Int) - 48) = true
      · rw [if_pos c2] at hp
        injection hp with hp
        subst hp
        exact ⟨hs', v1, fun m hm => Or.inl (v2' m hm), fun y => absurd y (by dsimp only; omega)⟩
      · rw [if_neg c2] at hp; cases hp
  · rw [if_neg c0] at hp
    have hti : 0 ≤ ti := by have := h6 (by omega); omega
    by_cases c1 : col < (c : Int)
    · rw [if_pos c1] at hp
      by_cases c2 : b = 45
      · have nl : ¬ isL c F (ah, ti, col, le) b = true := fun y => by have := hL.1 y; omega
        rw [if_neg nl]
        rw [if_pos c2] at hp
        by_cases c3 : col = (c : Int) - 1 ∧ le = 0
        · rw [if_pos c3] at hp; cases hp
        · rw [if_neg c3] at hp
          injection hp with hp
          subst hp
          refine ⟨hs', v1, fun m hm => ?_, fun _ => v3 (by omega)⟩
          rcases v2 m hm with y | ⟨_, y⟩
          · exact Or.inl y
          · exact Or.inr ⟨by dsimp only; omega, y⟩
      · rw [if_neg c2] at hp
        by_cases c3 : 97 ≤ b ∧ b ≤ 97 + F ∧ le < 3
        · have yl := hL.2 c3.1
          rw [if_pos yl]
          rw [if_pos c3] at hp
          injection hp with hp
          subst hp
          have old : ∀ m, m < q → upT N q (ti.toNat, col.toNat, b - 97) m = N m := fun m hm => if_neg (by omega)
          have new : upT N q (ti.toNat, col.toNat, b - 97) q = (ti.toNat, col.toNat, b - 97) := if_pos rfl
          have hcg : ∀ m a, m ≤ q → cntT m (tmN (upT N q (ti.toNat, col.toNat, b - 97))) a = cntT m (tmN N) a := fun m a hm => cntT_cg (fun j hj => by unfold tmN; rw [old j (by omega)])
          refine ⟨hs', fun m hm => ?_, fun m hm => ?_, fun _ => ?_⟩
          · dsimp only at hm ⊢
            by_cases e : m = q
            · subst e
              rw [new, hcg m _ (Nat.le_refl _)]
              refine ⟨by dsimp only; omega, by dsimp only; omega, by dsimp only; omega, ?_⟩
              have := v3 (by omega)
              dsimp only
              omega
            · rw [old m (by omega), hcg m _ (by omega)]; exact v1 m (by omega)
          · dsimp only at hm ⊢
            by_cases e : m = q
            · subst e
              rw [new]
              exact Or.inr ⟨by omega, by dsimp only; omega⟩
            · rw [old m (by omega)]
              rcases v2 m (by omega) with y | ⟨_, y⟩
              · exact Or.inl y
              · exact Or.inr ⟨by omega, y⟩
          · dsimp only
            show cntT q (tmN (upT N q (ti.toNat, col.toNat, b - 97))) ti.toNat + (if tmN (upT N q (ti.toNat, col.toNat, b - 97)) q = ti.toNat then 1 else 0) = le + 1
            rw [hcg q _ (Nat.le_refl _), v3 (by omega), if_pos (by unfold tmN; rw [new])]
        · rw [if_neg c3] at hp; cases hp
    · rw [if_neg c1] at hp
      by_cases c2 : b = 59
      · have nl : ¬ isL c F (ah, ti, col, le) b = true := fun y => by have := hL.1 y; omega
        rw [if_neg nl]
        rw [if_pos c2] at hp
        injection hp with hp
        subst hp
        refine ⟨hs', v1, fun m hm => Or.inl ?_, fun y => absurd y (by dsimp only; omega)⟩
        dsimp only
        have := h6 (by omega)
        rcases v2 m hm with y | ⟨_, y⟩ <;> omega
      · rw [if_neg c2] at hp; cases hp
theorem prs_VP {c F : Nat} {tb : Nat → Nat} (hc : 2 ≤ c ∧ c ≤ 5) : ∀ {i : Nat} {x : PS × Nat × (Nat → Nat × Nat × Nat)}, prs c F tb i = some x → VP c F x
  | 0, x, h => by
    injection h with h
    subst h
    exact ⟨PSo0 hc, fun m hm => absurd hm (by dsimp only; omega), fun m hm => absurd hm (by dsimp only; omega), fun y => absurd y (by dsimp only; omega)⟩
  | i + 1, x, h => by
    cases h0 : prs c F tb i with
    | none => rw [prs_mono h0 (i + 1) (by omega)] at h; cases h
    | some y =>
      have ih := prs_VP hc h0
      cases h1 : psS c F y.1 (tb i) with
      | none => rw [prs_none h0 h1] at h; cases h
      | some s' =>
        rw [prs_some h0 h1] at h
        injection h with h
        rw [← h]
        exact ih.step h1
/-- what the state behind i + 1 signs comes from -/
theorem prs_inv {c F : Nat} {tb : Nat → Nat} {i : Nat} {x : PS × Nat × (Nat → Nat × Nat × Nat)} (h : prs c F tb (i + 1) = some x) : ∃ y s', prs c F tb i = some y ∧ psS c F y.1 (tb i) = some s' ∧ x = if isL c F y.1 (tb i) = true then (s', y.2.1 + 1, upT y.2.2 y.2.1 (y.1.2.1.toNat, y.1.2.2.1.toNat, tb i - 97)) else (s', y.2.1, y.2.2) := by
  cases h0 : prs c F tb i with
  | none => rw [prs_mono h0 (i + 1) (by omega)] at h; cases h
  | some y =>
    cases h1 : psS c F y.1 (tb i) with
    | none => rw [prs_none h0 h1] at h; cases h
    | some s' =>
      rw [prs_some h0 h1] at h
      injection h with h
      exact ⟨y, s', rfl, h1, h.symm⟩
/-- as many as there are letters; later signs leave them -/
theorem prs_cnt {c F : Nat} {tb : Nat → Nat} (hc : 2 ≤ c ∧ c ≤ 5) : ∀ {i : Nat} {x : PS × Nat × (Nat → Nat × Nat × Nat)}, prs c F tb i = some x → x.2.1 = cntB (fun j => decide (97 ≤ tb j)) i
  | 0, x, h => by
    injection h with h
    subst h
    rfl
  | i + 1, x, h => by
    obtain ⟨y, s', h0, h1, rfl⟩ := prs_inv h
    have ih := prs_cnt hc h0
    have hL := psS_L (prs_VP hc h0).1 h1
    by_cases q : isL c F y.1 (tb i) = true
    · rw [if_pos q, cntB_t (decide_eq_true (hL.1 q)), ← ih]
    · rw [if_neg q, cntB_f (fun w => q (hL.2 (of_decide_eq_true w))), ← ih]; rfl
/-- the notes, one after the other, come where they belong -/
def bkS (o : Nat → Nat) (N : Nat → Nat × Nat × Nat) : Nat → (Nat → Nat) × (Nat → Nat) × (Nat → Nat) × (Nat → Nat)
  | 0 => (fun _ => 0, fun _ => 0, fun _ => 0, fun _ => 0)
  | m + 1 => (insA (bkS o N m).1 (ipos (bkS o N m).1 (bkS o N m).2.1 (N m).1 (o (N m).2.1 + (N m).2.2) m) (N m).1, insA (bkS o N m).2.1 (ipos (bkS o N m).1 (bkS o N m).2.1 (N m).1 (o (N m).2.1 + (N m).2.2) m) (o (N m).2.1 + (N m).2.2), insA (bkS o N m).2.2.1 (ipos (bkS o N m).1 (bkS o N m).2.1 (N m).1 (o (N m).2.1 + (N m).2.2) m) 1, insA (bkS o N m).2.2.2 (ipos (bkS o N m).1 (bkS o N m).2.1 (N m).1 (o (N m).2.1 + (N m).2.2) m) (N m).2.1)
theorem bkS_cg {o : Nat → Nat} {N N' : Nat → Nat × Nat × Nat} : ∀ {m : Nat}, (∀ j, j < m → N j = N' j) → bkS o N m = bkS o N' m
  | 0, _ => rfl
  | m + 1, h => by
    unfold bkS
    rw [bkS_cg (m := m) (fun j hj => h j (by omega)), h m (by omega)]
theorem bkS_cnt {o : Nat → Nat} {N : Nat → Nat × Nat × Nat} {a : Nat} : ∀ m, cntT m (bkS o N m).1 a = cntT m (tmN N) a
  | 0 => rfl
  | m + 1 => by
    show cntT (m + 1) (insA _ _ _) a = cntT m (tmN N) a + (if tmN N m = a then 1 else 0)
    rw [cntT_ins _ _ _ _ m (ipos_le _ _ _ _ m), bkS_cnt m]
    rfl
theorem bkS_ok {c : Nat} {o g : Nat → Nat} {N : Nat → Nat × Nat × Nat} {q : Nat} (b1 : Bl c o g) (hq : q ≤ 14) (hN : ∀ m, m < q → (N m).1 ≤ 199 ∧ (N m).2.1 < c ∧ (N m).2.2 ≤ g 0 ∧ cntT m (tmN N) (N m).1 < 3) : ∀ m, m ≤ q → Bn m (bkS o N m).1 (bkS o N m).2.1 (bkS o N m).2.2.1 ∧ ∀ i, i < m → (bkS o N m).2.2.2 i < c
  | 0, _ => ⟨Bn.nil, fun i hi => by omega⟩
  | m + 1, h => by
    obtain ⟨ih1, ih2⟩ := bkS_ok b1 hq hN m (by omega)
    obtain ⟨n1, n2, n3, n4⟩ := hN m (by omega)
    have hc5 := b1.2.1
    have ho := b1.2.2.1 (N m).2.1 (by omega)
    have g9 := b1.2.2.2.2.1
    refine ⟨ih1.ins (by omega) n1 (by omega) (by omega) (by rw [bkS_cnt]; exact n4), fun i hi => ?_⟩
    have hp := ipos_le (bkS o N m).1 (bkS o N m).2.1 (N m).1 (o (N m).2.1 + (N m).2.2) m
    show insA (bkS o N m).2.2.2 _ _ i < c
    rcases Nat.lt_trichotomy i (ipos (bkS o N m).1 (bkS o N m).2.1 (N m).1 (o (N m).2.1 + (N m).2.2) m) with y | y | y
    · rw [insA_lt y]; exact ih2 i (by omega)
    · rw [y, insA_eq]; exact n2
    · rw [insA_gt y]; exact ih2 (i - 1) (by omega)
