/-! flaw: the reference's reader; all signs -/
def R55 (p k : Nat) : Prop := p = 55 ∧ 40 ≤ k ∧ k ≤ 43
theorem s_reads {σ : Sg} {c b : Nat} {g : Nat → Nat} {s : PS} (hc : 2 ≤ c ∧ c ≤ 5) (c0 : gI σ 55 0 = nI c) (hg : gI σ 55 2 = nI (g 0)) (hg9 : g 0 ≤ 9) (hb : b < 256) (hs : PSo c s) (hR : RdM σ s) : ∃ σ', (if gI σ 55 42 = (-1 : Int32) then f_X9_readsTime 55 (nI b) σ else f_X9_readsLetter 55 (nI b) σ) = some (bI (psS c (g 0) s b).isSome, σ') ∧ Ag R55 (fun _ _ => False) σ σ' ∧ ∀ s', psS c (g 0) s b = some s' → RdM σ' s' := by
  obtain ⟨ah, ti, col, le⟩ := s
  obtain ⟨h1, h2, h3, h4, h5, h6, h7⟩ := hs
  obtain ⟨r1, r2, r3, r4⟩ := hR
  dsimp only at h1 h2 h3 h4 h5 h6 h7 r1 r2 r3 r4
  have em1 : (-1 : Int32).toInt = -1 := rfl
  have z0 : (0 : Int32).toInt = 0 := rfl
  have bt : (nI b).toInt = (b : Int) := nI_toInt (by omega)
  by_cases k0 : col = -1
  · rw [if_pos (by rw [i32_eq, r3, em1]; exact k0)]
    unfold f_X9_readsTime f_X9_readsTime_L22 f_X9_readsTime_L53
    by_cases k1 : b = 58
    · rw [if_pos (by rw [k1]; rfl)]
      by_cases k2 : ah < ti
      · have ep : psS c (g 0) (ah, ti, col, le) b = some (ah, ti, 0, 0) := by unfold psS; rw [if_pos k0, if_pos k1, if_pos k2]
        rw [if_neg (by rw [Int32.le_iff_toInt_le, r1, r2]; omega), lB_eq, lB_eq, ck_of b01_1, ep]
        refine ⟨_, rfl, Ag.pI (Ag.pI Ag.rf (by unfold R55; omega)) (by unfold R55; omega), fun s' hs' => ?_⟩
        injection hs' with hs'
        subst hs'
        refine ⟨?_, ?_, ?_, fun _ => ?_⟩
        · rw [gI_pI, if_neg (by omega), gI_pI, if_neg (by omega)]; exact r1
        · rw [gI_pI, if_neg (by omega), gI_pI, if_neg (by omega)]; exact r2
        · rw [gI_pI, if_neg (by omega), gI_pI, if_pos ⟨rfl, rfl⟩]; rfl
        · rw [gI_pI, if_pos ⟨rfl, rfl⟩]; rfl
      · have ep : psS c (g 0) (ah, ti, col, le) b = none := by unfold psS; rw [if_pos k0, if_pos k1, if_neg k2]
        rw [if_pos (by rw [Int32.le_iff_toInt_le, r1, r2]; omega), lB_eq, lB_eq, ck_of b01_0, ep]
        exact ⟨_, rfl, Ag.pI (Ag.pI Ag.rf (by unfold R55; omega)) (by unfold R55; omega), fun s' hs' => by cases hs'⟩
    · rw [if_neg (show ¬ nI b = (58 : Int32) from fun y => k1 ((nI_eq (b := 58) (by omega) (by omega)).1 y)), s_X9_in, bd_eq, bt, show (48 : Int32).toInt = 48 from rfl, show (57 : Int32).toInt = 57 from rfl]
      by_cases k2 : 48 ≤ b ∧ b ≤ 57
      · rw [decide_eq_true (by omega), if_neg (by decide)]
        by_cases k4 : ti = 0
        · have ep : psS c (g 0) (ah, ti, col, le) b = none := by unfold psS; rw [if_pos k0, if_neg k1, if_neg (fun y => y.2.2.1 k4)]
          rw [if_pos (by rw [i32_eq, r2, z0]; exact k4), ck_of b01_0, ep]
          exact ⟨σ, rfl, Ag.rf, fun s' hs' => by cases hs'⟩
        · rw [if_neg (by rw [i32_eq, r2, z0]; exact k4)]
          obtain ⟨w, hw⟩ : ∃ w : Int, w = (if ti = -1 then 0 else 10 * ti) := ⟨_, rfl⟩
          have hwb : 0 ≤ w ∧ w ≤ 1990 := by rw [hw]; split <;> omega
          have br : ∀ y : Int32, y.toInt = w + (b : Int) - 48 → ∃ σ', f_X9_readsTime_L83 55 55 y σ = some (bI (psS c (g 0) (ah, ti, col, le) b).isSome, σ') ∧ Ag R55 (fun _ _ => False) σ σ' ∧ ∀ s', psS c (g 0) (ah, ti, col, le) b = some s' → RdM σ' s' := by
            intro y hy
            have e40 : gI (pI σ 55 41 y) 55 40 = gI σ 55 40 := by rw [gI_pI, if_neg (by omega)]
            have e41 : gI (pI σ 55 41 y) 55 41 = y := by rw [gI_pI, if_pos ⟨rfl, rfl⟩]
            have em := s_mayBegin (σ := pI σ 55 41 y) (x := y) (by rw [hy]; omega) (by rw [e40, r1]; exact h1)
            rw [e40, r1, hy] at em
            unfold f_X9_readsTime_L83
            rw [lB_eq, e41, em, bd_eq, ck_of (bI_b01 _)]
            by_cases k5 : mayT ah (w + (b : Int) - 48) = true
            · have ep : psS c (g 0) (ah, ti, col, le) b = some (ah, w + (b : Int) - 48, -1, 0) := by unfold psS; rw [if_pos k0, if_neg k1, if_pos ⟨by omega, by omega, k4, by rw [← hw]; exact k5⟩, ← hw]
              rw [ep, k5]
              refine ⟨_, rfl, Ag.rf.pI (by unfold R55; omega), fun s' hs' => ?_⟩
              injection hs' with hs'
              subst hs'
              refine ⟨?_, ?_, ?_, fun y => ?_⟩
              · rw [e40]; exact r1
              · rw [e41]; exact hy
              · rw [gI_pI, if_neg (by omega), r3]; exact k0
              · exact absurd y (by dsimp only; omega)
            · have ep : psS c (g 0) (ah, ti, col, le) b = none := by unfold psS; rw [if_pos k0, if_neg k1, if_neg (fun y => k5 (by rw [hw]; exact y.2.2.2))]
              rw [Bool.not_eq_true] at k5
              rw [ep, k5]
              exact ⟨_, rfl, Ag.rf.pI (by unfold R55; omega), fun s' hs' => by cases hs'⟩
          have e48 : (48 : Int32).toInt = 48 := rfl
          by_cases k5 : ti = -1
          · rw [if_pos (by rw [i32_eq, r2, em1]; exact k5)]
            exact br _ (by rw [i32_subB (by omega) (by omega), bt, e48, hw, if_pos k5]; omega)
          · rw [if_neg (by rw [i32_eq, r2, em1]; exact k5)]
            have m1 : ((10 : Int32) * gI σ 55 41).toInt = 10 * ti := by rw [i32_mul (by rw [r2, show (10 : Int32).toInt = 10 from rfl]; omega), r2]; rfl
            exact br _ (by rw [i32_subB (by rw [i32_addB (by omega) (by omega), m1, bt]; omega) (by omega), i32_addB (by omega) (by omega), m1, bt, e48, hw, if_neg k5])
      · have ep : psS c (g 0) (ah, ti, col, le) b = none := by unfold psS; rw [if_pos k0, if_neg k1, if_neg (fun y => k2 ⟨y.1, y.2.1⟩)]
        rw [decide_eq_false (by omega), if_pos (by decide), ck_of b01_0, ep]
        exact ⟨σ, rfl, Ag.rf, fun s' hs' => by cases hs'⟩
  · rw [if_neg (by rw [i32_eq, r3, em1]; exact k0)]
    unfold f_X9_readsLetter f_X9_readsLetter_L40
    have r43 := r4 (by omega)
    have ec := toI r3 (by omega)
    by_cases k1 : col < (c : Int)
    · rw [if_neg (by rw [i32_eq, r3, c0, nI_toInt (by omega)]; omega), s_X9_in, bd_eq, bt, hg, show (97 : Int32).toInt = 97 from rfl, show (97 : Int32) + nI (g 0) = nI (97 + g 0) from nI_add 97 (g 0), nI_toInt (by omega)]
      have tail : ∀ L : Bool, (L = true ↔ 97 ≤ b ∧ b ≤ 97 + g 0 ∧ le < 3) → ∃ σ', f_X9_readsLetter_L70 55 (nI b) (bI L) σ = some (bI (psS c (g 0) (ah, ti, col, le) b).isSome, σ') ∧ Ag R55 (fun _ _ => False) σ σ' ∧ ∀ s', psS c (g 0) (ah, ti, col, le) b = some s' → RdM σ' s' := by
        intro L hL
        have hAg : ∀ v w, Ag R55 (fun _ _ => False) σ (pI (pI σ 55 43 v) 55 42 w) := fun v w => Ag.pI (Ag.pI Ag.rf (by unfold R55; omega)) (by unfold R55; omega)
        have c42 : ∀ v w, gI (pI (pI σ 55 43 v) 55 42 w) 55 43 = v := fun v w => by rw [gI_pI, if_neg (by omega), gI_pI, if_pos ⟨rfl, rfl⟩]
        have c00 : ∀ v w, gI (pI (pI σ 55 43 v) 55 42 w) 55 0 = nI c := fun v w => by rw [gI_pI, if_neg (by omega), gI_pI, if_neg (by omega)]; exact c0
        have c43 : ∀ v w, gI (pI (pI σ 55 43 v) 55 42 w) 55 42 = w := fun v w => by rw [gI_pI, if_pos ⟨rfl, rfl⟩]
        have rd : ∀ l : Nat, RdM (pI (pI σ 55 43 (nI l)) 55 42 (nI (col.toNat + 1))) (ah, ti, col + 1, l) := fun l => ⟨by rw [gI_pI, if_neg (by omega), gI_pI, if_neg (by omega)]; exact r1, by rw [gI_pI, if_neg (by omega), gI_pI, if_neg (by omega)]; exact r2, by rw [c43, nI_toInt (by omega)]; dsimp only; omega, fun _ => c42 _ _⟩
        have o42 : gI (pI σ 55 43 (nI le + 0)) 55 42 + (1 : Int32) = nI (col.toNat + 1) := by rw [gI_pI, if_neg (by omega), ec, nI_1]
        have o42' : gI (pI σ 55 43 (nI le + 1)) 55 42 + (1 : Int32) = nI (col.toNat + 1) := by rw [gI_pI, if_neg (by omega), ec, nI_1]
        have p0 : nI le + (0 : Int32) = nI le := nI_add le 0
        unfold f_X9_readsLetter_L70 f_X9_readsLetter_L85 f_X9_readsLetter_L127 f_X9_readsLetter_L131 f_X9_readsLetter_L132
        cases L with
        | true =>
          have hl := hL.1 rfl
          have ep : psS c (g 0) (ah, ti, col, le) b = some (ah, ti, col + 1, le + 1) := by unfold psS; rw [if_neg k0, if_pos k1, if_neg (by omega), if_pos hl]
          rw [if_neg (by decide), lB_eq, lB_eq, if_neg (by decide), ck_of b01_1, r43, o42', nI_1, ep]
          refine ⟨_, rfl, hAg _ _, fun s' hs' => ?_⟩
          injection hs' with hs'
          subst hs'
          exact rd (le + 1)
        | false =>
          have hnl : ¬ (97 ≤ b ∧ b ≤ 97 + g 0 ∧ le < 3) := fun y => by have := hL.2 y; cases this
          rw [if_pos (by decide), lB_eq, lB_eq, if_pos (by decide), r43, o42, p0]
          by_cases k2 : b = 45
          · rw [if_pos (by rw [k2]; rfl), c42, c00, c43]
            by_cases k3 : col = (c : Int) - 1 ∧ le = 0
            · have ep : psS c (g 0) (ah, ti, col, le) b = none := by unfold psS; rw [if_neg k0, if_pos k1, if_pos k2, if_pos k3]
              rw [if_neg (by rw [Int32.lt_iff_toInt_lt, nI_toInt (by omega), z0]; omega), if_pos (by rw [Int32.le_iff_toInt_le, nI_toInt (by omega), nI_toInt (by omega)]; omega), ck_of b01_0, ep]
              exact ⟨_, rfl, hAg _ _, fun s' hs' => by cases hs'⟩
            · have ep : psS c (g 0) (ah, ti, col, le) b = some (ah, ti, col + 1, le) := by unfold psS; rw [if_neg k0, if_pos k1, if_pos k2, if_neg k3]
              rw [ep]
              by_cases k4 : 0 < le
              · rw [if_pos (by rw [Int32.lt_iff_toInt_lt, nI_toInt (by omega), z0]; omega), ck_of b01_1]
                refine ⟨_, rfl, hAg _ _, fun s' hs' => ?_⟩
                injection hs' with hs'
                subst hs'
                exact rd le
              · rw [if_neg (by rw [Int32.lt_iff_toInt_lt, nI_toInt (by omega), z0]; omega), if_neg (by rw [Int32.le_iff_toInt_le, nI_toInt (by omega), nI_toInt (by omega)]; omega), ck_of b01_1]
                refine ⟨_, rfl, hAg _ _, fun s' hs' => ?_⟩
                injection hs' with hs'
                subst hs'
                exact rd le
          · have ep : psS c (g 0) (ah, ti, col, le) b = none := by unfold psS; rw [if_neg k0, if_pos k1, if_neg k2, if_neg hnl]
            rw [if_neg (show ¬ nI b = (45 : Int32) from fun y => k2 ((nI_eq (b := 45) (by omega) (by omega)).1 y)), ck_of b01_0, ep]
            exact ⟨_, rfl, hAg _ _, fun s' hs' => by cases hs'⟩
      unfold f_X9_readsLetter_L69
      by_cases k2 : 97 ≤ b ∧ b ≤ 97 + g 0
      · rw [decide_eq_true (by omega), if_neg (by decide), r43]
        by_cases k3 : le < 3
        · rw [if_neg (by rw [Int32.le_iff_toInt_le, nI_toInt (by omega), show (3 : Int32).toInt = 3 from rfl]; omega)]
          exact tail true ⟨fun _ => ⟨k2.1, k2.2, k3⟩, fun _ => rfl⟩
        · rw [if_pos (by rw [Int32.le_iff_toInt_le, nI_toInt (by omega), show (3 : Int32).toInt = 3 from rfl]; omega)]
          exact tail false ⟨fun y => (by cases y), fun y => absurd y.2.2 k3⟩
      · rw [decide_eq_false (by omega), if_pos (by decide)]
        exact tail false ⟨fun y => (by cases y), fun y => absurd ⟨y.1, y.2.1⟩ k2⟩
    · rw [if_pos (by rw [i32_eq, r3, c0, nI_toInt (by omega)]; omega), lB_eq, lB_eq, lB_eq]
      have hAg : Ag R55 (fun _ _ => False) σ (pI (pI (pI σ 55 40 (gI σ 55 41)) 55 41 (-1)) 55 42 (-1)) := Ag.pI (Ag.pI (Ag.pI Ag.rf (by unfold R55; omega)) (by unfold R55; omega)) (by unfold R55; omega)
      by_cases k2 : b = 59
      · have ep : psS c (g 0) (ah, ti, col, le) b = some (ti, -1, -1, 0) := by unfold psS; rw [if_neg k0, if_neg k1, if_pos k2]
        rw [if_pos (by rw [k2]; rfl), ck_of b01_1, ep]
        refine ⟨_, rfl, hAg, fun s' hs' => ?_⟩
        injection hs' with hs'
        subst hs'
        refine ⟨?_, ?_, ?_, fun y => absurd y (by dsimp only; omega)⟩
        · rw [gI_pI, if_neg (by omega), gI_pI, if_neg (by omega), gI_pI, if_pos ⟨rfl, rfl⟩]; exact r2
        · rw [gI_pI, if_neg (by omega), gI_pI, if_pos ⟨rfl, rfl⟩]; rfl
        · rw [gI_pI, if_pos ⟨rfl, rfl⟩]; rfl
      · have ep : psS c (g 0) (ah, ti, col, le) b = none := by unfold psS; rw [if_neg k0, if_neg k1, if_neg k2]
        rw [if_neg (show ¬ nI b = (59 : Int32) from fun y => k2 ((nI_eq (b := 59) (by omega) (by omega)).1 y)), ck_of b01_0, ep]
        exact ⟨_, rfl, hAg, fun s' hs' => by cases hs'⟩
/-- the state behind i signs, and the notes told so far -/
def prs (c F : Nat) (tb : Nat → Nat) : Nat → Option (PS × Nat × (Nat → Nat × Nat × Nat))
  | 0 => some ((-1, -1, -1, 0), 0, fun _ => (0, 0, 0))
  | i + 1 => match prs c F tb i with
    | none => none
    | some x => match psS c F x.1 (tb i) with
      | none => none
      | some s' => some (if isL c F x.1 (tb i) = true then (s', x.2.1 + 1, upT x.2.2 x.2.1 (x.1.2.1.toNat, x.1.2.2.1.toNat, tb i - 97)) else (s', x.2.1, x.2.2))
theorem prs_some {c F : Nat} {tb : Nat → Nat} {i : Nat} {x : PS × Nat × (Nat → Nat × Nat × Nat)} {s' : PS} (h : prs c F tb i = some x) (q : psS c F x.1 (tb i) = some s') : prs c F tb (i + 1) = some (if isL c F x.1 (tb i) = true then (s', x.2.1 + 1, upT x.2.2 x.2.1 (x.1.2.1.toNat, x.1.2.2.1.toNat, tb i - 97)) else (s', x.2.1, x.2.2)) := by
  show (match prs c F tb i with | none => none | some x => _) = _
  rw [h]
  dsimp only
  rw [q]
theorem prs_none {c F : Nat} {tb : Nat → Nat} {i : Nat} {x : PS × Nat × (Nat → Nat × Nat × Nat)} (h : prs c F tb i = some x) (q : psS c F x.1 (tb i) = none) : prs c F tb (i + 1) = none := by
  show (match prs c F tb i with | none => none | some x => _) = _
  rw [h]
  dsimp only
  rw [q]
theorem prs_mono {c F : Nat} {tb : Nat → Nat} {i : Nat} (h : prs c F tb i = none) : ∀ j, i ≤ j → prs c F tb j = none
  | 0, hj => by rw [show i = 0 by omega] at h; exact h
  | j + 1, hj => by
    by_cases e : i = j + 1
    · rw [← e]; exact h
    · have ih := prs_mono h j (by omega)
      show (match prs c F tb j with | none => none | some x => _) = _
      rw [ih]
def FlP (c F t : Nat) (tb : Nat → Nat) (r : Int32) : Prop := (∃ i, i < t ∧ (∃ x, prs c F tb i = some x) ∧ prs c F tb (i + 1) = none ∧ r = nI i) ∨ ∃ x, prs c F tb t = some x ∧ r = if x.1.2.2.1 = -1 ∧ x.1.2.1 = -1 ∧ 0 < t then -1 else nI t
theorem FlP.uni {c F t : Nat} {tb : Nat → Nat} {r s : Int32} (h : FlP c F t tb r) (q : FlP c F t tb s) : r = s := by
  rcases h with ⟨i, h1, ⟨x, h2⟩, h3, rfl⟩ | ⟨x, h1, rfl⟩
  · rcases q with ⟨j, q1, ⟨y, q2⟩, q3, rfl⟩ | ⟨y, q1, rfl⟩
    · have a1 : ¬ i + 1 ≤ j := fun z => by have := prs_mono h3 j z; rw [q2] at this; cases this
      have a2 : ¬ j + 1 ≤ i := fun z => by have := prs_mono q3 i z; rw [h2] at this; cases this
      rw [show i = j by omega]
    · have := prs_mono h3 t (by omega); rw [q1] at this; cases this
  · rcases q with ⟨j, q1, ⟨y, q2⟩, q3, rfl⟩ | ⟨y, q1, rfl⟩
    · have := prs_mono q3 t (by omega); rw [h1] at this; cases this
    · rw [h1] at q1; injection q1 with q1; rw [q1]
noncomputable def flV (c F t : Nat) (tb : Nat → Nat) : Int32 := Classical.epsilon (FlP c F t tb)
theorem FlP.v {c F t : Nat} {tb : Nat → Nat} {r : Int32} (h : FlP c F t tb r) : r = flV c F t tb := h.uni (Classical.epsilon_spec ⟨r, h⟩)
