/-! flaw: both read a text sign by sign -/
/-- ahead, time, column, letters -/
abbrev PS : Type := Int × Int × Int × Nat
def mayT (ah t : Int) : Bool := decide (t ≤ 199 ∧ (ah < t ∨ (0 < t ∧ ((10 * t ≤ 199 ∧ ah < 10 * t + 9 ∧ ah < 199) ∨ (100 * t ≤ 199 ∧ ah < 100 * t + 99 ∧ ah < 199)))))
/-- one sign: none, if the text is no longer the beginning of a right one -/
def psS (c F : Nat) (s : PS) (b : Nat) : Option PS :=
  if s.2.2.1 = -1 then
    (if b = 58 then (if s.1 < s.2.1 then some (s.1, s.2.1, 0, 0) else none)
    else if 48 ≤ b ∧ b ≤ 57 ∧ s.2.1 ≠ 0 ∧ mayT s.1 ((if s.2.1 = -1 then 0 else 10 * s.2.1) + (b : Int) - 48) = true then some (s.1, (if s.2.1 = -1 then 0 else 10 * s.2.1) + (b : Int) - 48, -1, 0) else none)
  else if s.2.2.1 < (c : Int) then
    (if b = 45 then (if s.2.2.1 = (c : Int) - 1 ∧ s.2.2.2 = 0 then none else some (s.1, s.2.1, s.2.2.1 + 1, s.2.2.2))
    else if 97 ≤ b ∧ b ≤ 97 + F ∧ s.2.2.2 < 3 then some (s.1, s.2.1, s.2.2.1 + 1, s.2.2.2 + 1) else none)
  else if b = 59 then some (s.2.1, -1, -1, 0) else none
/-- what holds of the reader's state -/
def PSo (c : Nat) (s : PS) : Prop := (-1 ≤ s.1 ∧ s.1 ≤ 199) ∧ (-1 ≤ s.2.1 ∧ s.2.1 ≤ 199) ∧ (-1 ≤ s.2.2.1 ∧ s.2.2.1 ≤ (c : Int)) ∧ s.2.2.2 ≤ 3 ∧ (s.2.2.1 = -1 → s.2.2.2 = 0) ∧ (0 ≤ s.2.2.1 → s.1 < s.2.1) ∧ (0 < s.2.1 → 0 < s.2.1)
theorem psS_ok {c F : Nat} {s s' : PS} {b : Nat} (hs : PSo c s) (h : psS c F s b = some s') : PSo c s' := by
  obtain ⟨ah, ti, col, le⟩ := s
  obtain ⟨h1, h2, h3, h4, h5, h6, h7⟩ := hs
  dsimp only at h1 h2 h3 h4 h5 h6 h7
  unfold psS at h
  dsimp only at h
  by_cases c0 : col = -1
  · rw [if_pos c0] at h
    by_cases c1 : b = 58
    · rw [if_pos c1] at h
      by_cases c2 : ah < ti
      · rw [if_pos c2] at h
        injection h with h
        subst h
        unfold PSo
        dsimp only
        omega
      · rw [if_neg c2] at h; cases h
    · rw [if_neg c1] at h
      by_cases c2 : 48 ≤ b ∧ b ≤ 57 ∧ ti ≠ 0 ∧ mayT ah ((if ti = -1 then 0 else 10 * ti) + (b : Int) - 48) = true
      · rw [if_pos c2] at h
        injection h with h
        subst h
        have hm := of_decide_eq_true c2.2.2.2
        unfold PSo
        dsimp only
        split at hm <;> split <;> omega
      · rw [if_neg c2] at h; cases h
  · rw [if_neg c0] at h
    by_cases c1 : col < (c : Int)
    · rw [if_pos c1] at h
      by_cases c2 : b = 45
      · rw [if_pos c2] at h
        by_cases c3 : col = (c : Int) - 1 ∧ le = 0
        · rw [if_pos c3] at h; cases h
        · rw [if_neg c3] at h
          injection h with h
          subst h
          unfold PSo
          dsimp only
          omega
      · rw [if_neg c2] at h
        by_cases c3 : 97 ≤ b ∧ b ≤ 97 + F ∧ le < 3
        · rw [if_pos c3] at h
          injection h with h
          subst h
          unfold PSo
          dsimp only
          omega
        · rw [if_neg c3] at h; cases h
    · rw [if_neg c1] at h
      by_cases c2 : b = 59
      · rw [if_pos c2] at h
        injection h with h
        subst h
        unfold PSo
        dsimp only
        omega
      · rw [if_neg c2] at h; cases h
/-- the class's reader, the reference's -/
def RdC (σ : Sg) (s : PS) : Prop := (gI σ 33 5).toInt = s.1 ∧ (gI σ 33 6).toInt = s.2.1 ∧ (gI σ 33 7).toInt = s.2.2.1 ∧ gI σ 33 8 = nI s.2.2.2
def RdM (σ : Sg) (s : PS) : Prop := (gI σ 55 40).toInt = s.1 ∧ (gI σ 55 41).toInt = s.2.1 ∧ (gI σ 55 42).toInt = s.2.2.1 ∧ (0 ≤ s.2.2.1 → gI σ 55 43 = nI s.2.2.2)
theorem i32_mul {x y : Int32} (h : -1000000 ≤ x.toInt * y.toInt ∧ x.toInt * y.toInt ≤ 1000000) : (x * y).toInt = x.toInt * y.toInt := by
  rw [Int32.toInt_mul]
  exact Int.bmod_eq_of_le (by omega) (by omega)
theorem i32_addB {x y : Int32} (hx : -1000000 ≤ x.toInt ∧ x.toInt ≤ 1000000) (hy : -1000000 ≤ y.toInt ∧ y.toInt ≤ 1000000) : (x + y).toInt = x.toInt + y.toInt := by
  rw [Int32.toInt_add]
  exact Int.bmod_eq_of_le (by omega) (by omega)
theorem i32_subB {x y : Int32} (hx : -1000000 ≤ x.toInt ∧ x.toInt ≤ 1000000) (hy : -1000000 ≤ y.toInt ∧ y.toInt ≤ 1000000) : (x - y).toInt = x.toInt - y.toInt := by
  rw [Int32.toInt_sub]
  exact Int.bmod_eq_of_le (by omega) (by omega)
theorem s_reaches {σ : Sg} {x y : Int32} (hx : 0 ≤ x.toInt ∧ x.toInt ≤ 20000) (hy : 0 ≤ y.toInt ∧ y.toInt ≤ 99) (hr : y.toInt = 9 ∨ y.toInt = 99) : f_X3_reachesPast 33 x y σ = some (bI (decide (x.toInt ≤ 199 ∧ (gI σ 33 5).toInt < x.toInt + y.toInt ∧ (gI σ 33 5).toInt < 199)), σ) := by
  have ea := i32_addB (x := x) (y := y) (by omega) (by omega)
  have e9 : (199 : Int32).toInt = 199 := rfl
  unfold f_X3_reachesPast f_X3_reachesPast_L27 f_X3_reachesPast_L28
  by_cases h1 : x.toInt ≤ 199
  · rw [if_neg (by rw [Int32.lt_iff_toInt_lt, e9]; omega)]
    have em : (mnI (x + y) 199).toInt = if 199 < x.toInt + y.toInt then 199 else x.toInt + y.toInt := by
      unfold mnI
      by_cases q : (199 : Int32) < x + y
      · rw [if_pos q]
        rw [Int32.lt_iff_toInt_lt, e9, ea] at q
        rw [if_pos q, e9]
      · rw [if_neg q]
        rw [Int32.lt_iff_toInt_lt, e9, ea] at q
        rw [if_neg q, ea]
    by_cases h2 : (gI σ 33 5).toInt < x.toInt + y.toInt ∧ (gI σ 33 5).toInt < 199
    · rw [if_neg (by rw [Int32.le_iff_toInt_le, em]; split <;> omega), decide_eq_true ⟨h1, h2⟩]; rfl
    · rw [if_pos (by rw [Int32.le_iff_toInt_le, em]; split <;> omega), decide_eq_false (fun q => h2 q.2)]; rfl
  · rw [if_pos (by rw [Int32.lt_iff_toInt_lt, e9]; omega), decide_eq_false (fun q => h1 q.1)]; rfl
theorem s_mayBecome {σ : Sg} {x : Int32} (hx : 0 ≤ x.toInt ∧ x.toInt ≤ 2000) (ha : -1 ≤ (gI σ 33 5).toInt ∧ (gI σ 33 5).toInt ≤ 199) : f_X3_mayBecomeTime 33 x σ = some (bI (mayT (gI σ 33 5).toInt x.toInt), σ) := by
  have e9 : (199 : Int32).toInt = 199 := rfl
  have e0 : (0 : Int32).toInt = 0 := rfl
  have e10 : (10 : Int32).toInt = 10 := rfl
  have e100 : (100 : Int32).toInt = 100 := rfl
  unfold f_X3_mayBecomeTime f_X3_mayBecomeTime_L21 f_X3_mayBecomeTime_L34 f_X3_mayBecomeTime_L61 f_X3_mayBecomeTime_L66 mayT
  by_cases h1 : x.toInt ≤ 199
  · rw [if_pos (by rw [Int32.le_iff_toInt_le, e9]; exact h1)]
    by_cases h2 : x.toInt ≤ (gI σ 33 5).toInt
    · by_cases h3 : x.toInt = 0
      · rw [if_pos (by rw [i32_eq, e0]; exact h3), if_pos (by rw [Int32.le_iff_toInt_le]; exact h2), decide_eq_false (by omega)]; rfl
      · rw [if_neg (by rw [i32_eq, e0]; exact h3), if_pos (by rw [Int32.le_iff_toInt_le]; exact h2)]
        have m1 : ((10 : Int32) * x).toInt = 10 * x.toInt := by rw [i32_mul (by rw [e10]; omega), e10]
        have m2 : ((100 : Int32) * x).toInt = 100 * x.toInt := by rw [i32_mul (by rw [e100]; omega), e100]
        have r1 := s_reaches (σ := σ) (x := (10 : Int32) * x) (y := 9) (by rw [m1]; omega) (by decide) (Or.inl rfl)
        have r2 := s_reaches (σ := σ) (x := (100 : Int32) * x) (y := 99) (by rw [m2]; omega) (by decide) (Or.inr rfl)
        rw [m1, show (9 : Int32).toInt = 9 from rfl] at r1
        rw [m2, show (99 : Int32).toInt = 99 from rfl] at r2
        rw [r1, bd_eq]
        by_cases c1 : 10 * x.toInt ≤ 199 ∧ (gI σ 33 5).toInt < 10 * x.toInt + 9 ∧ (gI σ 33 5).toInt < 199
        · rw [decide_eq_true c1, if_neg (by decide), decide_eq_true (by omega)]; rfl
        · rw [decide_eq_false c1, if_pos (by decide), r2, bd_eq]
          by_cases c2 : 100 * x.toInt ≤ 199 ∧ (gI σ 33 5).toInt < 100 * x.toInt + 99 ∧ (gI σ 33 5).toInt < 199
          · rw [decide_eq_true c2, if_neg (by decide), decide_eq_true (by omega)]; rfl
          · rw [decide_eq_false c2, if_pos (by decide), decide_eq_false (by omega)]; rfl
    · have h4 : ¬ x ≤ gI σ 33 5 := by rw [Int32.le_iff_toInt_le]; exact h2
      rw [if_neg h4, if_neg h4, decide_eq_true (by omega)]
      split <;> rfl
  · rw [if_neg (by rw [Int32.le_iff_toInt_le, e9]; exact h1), decide_eq_false (by omega)]; rfl
theorem s_mayBegin {σ : Sg} {x : Int32} (hx : 0 ≤ x.toInt ∧ x.toInt ≤ 2000) (ha : -1 ≤ (gI σ 55 40).toInt ∧ (gI σ 55 40).toInt ≤ 199) : f_X9_mayBegin 55 x σ = some (bI (mayT (gI σ 55 40).toInt x.toInt), σ) := by
  have e9 : (199 : Int32).toInt = 199 := rfl
  have e0 : (0 : Int32).toInt = 0 := rfl
  have e10 : (10 : Int32).toInt = 10 := rfl
  have e100 : (100 : Int32).toInt = 100 := rfl
  generalize hah : (gI σ 55 40).toInt = ah at ha
  have hahc : gI σ 55 40 = gI σ 55 40 := rfl
  have m1 : ((10 : Int32) * x).toInt = 10 * x.toInt := by rw [i32_mul (by rw [e10]; omega), e10]
  have m2 : ((100 : Int32) * x).toInt = 100 * x.toInt := by rw [i32_mul (by rw [e100]; omega), e100]
  have hitN : ∀ t : Int, 0 < t → t ≤ 2000 → ((∃ m : Nat, m < 100 ∧ ((ah < 10 * t + ((m % 10 : Nat) : Int) ∧ 10 * t + ((m % 10 : Nat) : Int) ≤ 199) ∨ (ah < 100 * t + (m : Int) ∧ 100 * t + (m : Int) ≤ 199))) ↔ ((10 * t ≤ 199 ∧ ah < 10 * t + 9 ∧ ah < 199) ∨ (100 * t ≤ 199 ∧ ah < 100 * t + 99 ∧ ah < 199))) := by
    intro t h0 h1
    constructor
    · rintro ⟨m, hm, h⟩
      omega
    · rintro (⟨a1, a2, a3⟩ | ⟨a1, a2, a3⟩)
      · by_cases q : 10 * t + 9 ≤ 199
        · exact ⟨9, by omega, Or.inl (by omega)⟩
        · exact ⟨(199 - 10 * t).toNat, by omega, Or.inl (by omega)⟩
      · by_cases q : 100 * t + 99 ≤ 199
        · exact ⟨99, by omega, Or.inr (by omega)⟩
        · exact ⟨(199 - 100 * t).toNat, by omega, Or.inr (by omega)⟩
  have loop : ∀ b0 : Bool, ∃ b : Bool, fx (f_X9_mayBegin_L23 55 x σ) FU (bI b0, nI 0) = some (bI b, σ) ∧ (b = true ↔ b0 = true ∨ (0 < x.toInt ∧ ((10 * x.toInt ≤ 199 ∧ ah < 10 * x.toInt + 9 ∧ ah < 199) ∨ (100 * x.toInt ≤ 199 ∧ ah < 100 * x.toInt + 99 ∧ ah < 199)))) := by
    intro b0
    by_cases hx0 : 0 < x.toInt
    · have hi := hitN x.toInt hx0 hx.2
      have key : ∃ b : Bool, fx (f_X9_mayBegin_L23 55 x σ) FU (bI b0, nI 0) = some (bI b, σ) ∧ (b = true ↔ b0 = true ∨ ∃ m : Nat, m < 100 ∧ ((ah < 10 * x.toInt + ((m % 10 : Nat) : Int) ∧ 10 * x.toInt + ((m % 10 : Nat) : Int) ≤ 199) ∨ (ah < 100 * x.toInt + (m : Int) ∧ 100 * x.toInt + (m : Int) ≤ 199))) := by
        refine fx_inv2 (I := fun i s => ∃ b : Bool, s = (bI b, nI i) ∧ (b = true ↔ b0 = true ∨ ∃ m : Nat, m < i ∧ ((ah < 10 * x.toInt + ((m % 10 : Nat) : Int) ∧ 10 * x.toInt + ((m % 10 : Nat) : Int) ≤ 199) ∨ (ah < 100 * x.toInt + (m : Int) ∧ 100 * x.toInt + (m : Int) ≤ 199)))) (Q := fun e => ∃ b : Bool, e = some (bI b, σ) ∧ (b = true ↔ b0 = true ∨ ∃ m : Nat, m < 100 ∧ ((ah < 10 * x.toInt + ((m % 10 : Nat) : Int) ∧ 10 * x.toInt + ((m % 10 : Nat) : Int) ≤ 199) ∨ (ah < 100 * x.toInt + (m : Int) ∧ 100 * x.toInt + (m : Int) ≤ 199)))) (n := 100) ?_ ?_ 100 0 FU _ (by omega) (by unfold FU; omega) ⟨b0, rfl, ⟨fun y => Or.inl y, fun y => by rcases y with y | ⟨m, y, _⟩; exact y; omega⟩⟩
        · rintro i s hi ⟨b, rfl, hb⟩ rec
          have v1 : ((10 : Int32) * x + (nI i - nI i / (10 : Int32) * (10 : Int32))).toInt = 10 * x.toInt + ((i % 10 : Nat) : Int) := by
            rw [show (10 : Int32) = nI 10 from rfl, pk_rem (by omega) (by omega) (by omega), i32_addB (by rw [show nI 10 = (10 : Int32) from rfl, m1]; omega) (by rw [nI_toInt (by omega)]; omega), show nI 10 = (10 : Int32) from rfl, m1, nI_toInt (by omega)]
          have v2 : ((100 : Int32) * x + nI i).toInt = 100 * x.toInt + (i : Int) := by
            rw [i32_addB (by rw [m2]; omega) (by rw [nI_toInt (by omega)]; omega), m2, nI_toInt (by omega)]
          have up : ∀ b' : Bool, (b' = true ↔ b = true ∨ ((ah < 10 * x.toInt + ((i % 10 : Nat) : Int) ∧ 10 * x.toInt + ((i % 10 : Nat) : Int) ≤ 199) ∨ (ah < 100 * x.toInt + (i : Int) ∧ 100 * x.toInt + (i : Int) ≤ 199))) → (b' = true ↔ b0 = true ∨ ∃ m : Nat, m < i + 1 ∧ ((ah < 10 * x.toInt + ((m % 10 : Nat) : Int) ∧ 10 * x.toInt + ((m % 10 : Nat) : Int) ≤ 199) ∨ (ah < 100 * x.toInt + (m : Int) ∧ 100 * x.toInt + (m : Int) ≤ 199))) := by
            intro b' h
            rw [h, hb]
            constructor
            · rintro ((y | ⟨m, y1, y2⟩) | y)
              · exact Or.inl y
              · exact Or.inr ⟨m, by omega, y2⟩
              · exact Or.inr ⟨i, by omega, y⟩
            · rintro (y | ⟨m, y1, y2⟩)
              · exact Or.inl (Or.inl y)
              · by_cases e : m = i
                · subst e; exact Or.inr y2
                · exact Or.inl (Or.inr ⟨m, by omega, y2⟩)
          have hd : f_X9_mayBegin_L23 55 x σ rec (bI b, nI i) = (if bI b = 0 then (if (10 : Int32) * x + (nI i - nI i / (10 : Int32) * (10 : Int32)) ≤ (gI σ 55 40) then f_X9_mayBegin_L73 rec 55 x (nI i) ((100 : Int32) * x + nI i) σ else (if (10 : Int32) * x + (nI i - nI i / (10 : Int32) * (10 : Int32)) ≤ (199 : Int32) then f_X9_mayBegin_L90 rec 55 x (nI i) σ else f_X9_mayBegin_L73 rec 55 x (nI i) ((100 : Int32) * x + nI i) σ)) else f_X9_mayBegin_L90 rec 55 x (nI i) σ) := by
            unfold f_X9_mayBegin_L23
            dsimp only
            rw [if_neg (by rw [Int32.le_iff_toInt_le, nI_toInt (by omega), e100]; omega), if_neg (by rw [Int32.le_iff_toInt_le, e0]; omega), show decide (¬ (10 : Int32) = 0) = true by decide, ck_tt, lB_eq, lB_eq]
          have L90 : f_X9_mayBegin_L90 rec 55 x (nI i) σ = rec (bI true, nI (i + 1)) := by
            unfold f_X9_mayBegin_L90 f_X9_mayBegin_L95
            rw [lB_eq, nI_1]; rfl
          have L73 : f_X9_mayBegin_L73 rec 55 x (nI i) ((100 : Int32) * x + nI i) σ = rec (bI (decide (ah < 100 * x.toInt + (i : Int) ∧ 100 * x.toInt + (i : Int) ≤ 199)), nI (i + 1)) := by
            unfold f_X9_mayBegin_L73 f_X9_mayBegin_L94
            by_cases q1 : 100 * x.toInt + (i : Int) ≤ ah
            · rw [if_pos (by rw [Int32.le_iff_toInt_le, v2, hah]; exact q1), decide_eq_false (by omega)]
              unfold f_X9_mayBegin_L95
              rw [lB_eq, nI_1]; rfl
            · rw [if_neg (by rw [Int32.le_iff_toInt_le, v2, hah]; exact q1)]
              by_cases q2 : 199 < 100 * x.toInt + (i : Int)
              · rw [if_pos (by rw [Int32.lt_iff_toInt_lt, v2, e9]; exact q2), decide_eq_false (by omega)]
                unfold f_X9_mayBegin_L95
                rw [lB_eq, nI_1]; rfl
              · rw [if_neg (by rw [Int32.lt_iff_toInt_lt, v2, e9]; exact q2), decide_eq_true (by omega)]
                exact L90
          left
          cases b with
          | true =>
            refine ⟨(bI true, nI (i + 1)), ⟨true, rfl, up true ⟨fun _ => Or.inl rfl, fun _ => rfl⟩⟩, ?_⟩
            rw [hd, if_neg (by decide)]; exact L90
          | false =>
            by_cases c1 : ah < 10 * x.toInt + ((i % 10 : Nat) : Int) ∧ 10 * x.toInt + ((i % 10 : Nat) : Int) ≤ 199
            · refine ⟨(bI true, nI (i + 1)), ⟨true, rfl, up true ⟨fun _ => Or.inr (Or.inl c1), fun _ => rfl⟩⟩, ?_⟩
              rw [hd, if_pos (by decide), if_neg (by rw [Int32.le_iff_toInt_le, v1, hah]; omega), if_pos (by rw [Int32.le_iff_toInt_le, v1, e9]; omega)]; exact L90
            · refine ⟨(bI (decide (ah < 100 * x.toInt + (i : Int) ∧ 100 * x.toInt + (i : Int) ≤ 199)), nI (i + 1)), ⟨_, rfl, up _ ?_⟩, ?_⟩
              · rw [decide_eq_true_eq]
                exact ⟨fun y => Or.inr (Or.inr y), fun y => by rcases y with y | y | y; cases y; exact absurd y c1; exact y⟩
              · rw [hd, if_pos (by decide)]
                by_cases c2 : 10 * x.toInt + ((i % 10 : Nat) : Int) ≤ ah
                · rw [if_pos (by rw [Int32.le_iff_toInt_le, v1, hah]; exact c2)]; exact L73
                · rw [if_neg (by rw [Int32.le_iff_toInt_le, v1, hah]; exact c2), if_neg (by rw [Int32.le_iff_toInt_le, v1, e9]; omega)]; exact L73
        · rintro s ⟨b, rfl, hb⟩ rec
          refine ⟨some (bI b, σ), ⟨b, rfl, hb⟩, ?_⟩
          unfold f_X9_mayBegin_L23 f_X9_mayBegin_L102
          dsimp only
          rw [if_pos (show (100 : Int32) ≤ nI 100 by decide), ck_of (bI_b01 b)]
      obtain ⟨b, k1, k2⟩ := key
      refine ⟨b, k1, ?_⟩
      rw [k2, hi]
      exact ⟨fun y => by rcases y with y | y; exact Or.inl y; exact Or.inr ⟨hx0, y⟩, fun y => by rcases y with y | ⟨_, y⟩; exact Or.inl y; exact Or.inr y⟩
    · refine ⟨b0, ?_, ⟨fun y => Or.inl y, fun y => by rcases y with y | ⟨y, _⟩; exact y; omega⟩⟩
      refine fx_for0 (fun _ => (bI b0, nI 0)) rfl (n := 0) (fun i hi rec => by omega) (fun rec => ?_) (by unfold FU; omega)
      unfold f_X9_mayBegin_L23 f_X9_mayBegin_L102
      dsimp only
      rw [if_neg (by decide), if_pos (by rw [Int32.le_iff_toInt_le, e0]; omega), ck_of (bI_b01 b0)]
  have fin : ∀ b0 : Bool, (b0 = true ↔ ah < x.toInt ∧ x.toInt ≤ 199) → f_X9_mayBegin_L20 55 x (bI b0) σ = some (bI (mayT ah x.toInt), σ) := by
    intro b0 hb0
    obtain ⟨b, k1, k2⟩ := loop b0
    have e : b = mayT ah x.toInt := by
      rw [Bool.eq_iff_iff, k2, hb0]
      unfold mayT
      rw [decide_eq_true_eq]
      omega
    rw [← e]
    exact k1
  unfold f_X9_mayBegin f_X9_mayBegin_L19
  by_cases h1 : x.toInt ≤ ah
  · rw [if_pos (by rw [Int32.le_iff_toInt_le, hah]; exact h1)]
    exact fin false ⟨fun y => (by cases y), fun y => by omega⟩
  · rw [if_neg (by rw [Int32.le_iff_toInt_le, hah]; exact h1)]
    by_cases h2 : 199 < x.toInt
    · rw [if_pos (by rw [Int32.lt_iff_toInt_lt, e9]; exact h2)]
      exact fin false ⟨fun y => (by cases y), fun y => by omega⟩
    · rw [if_neg (by rw [Int32.lt_iff_toInt_lt, e9]; exact h2)]
      exact fin true ⟨fun _ => by omega, fun _ => rfl⟩
