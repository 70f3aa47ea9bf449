/-! what the two objects hold alike -/
/-- bounds of the told numbers: c courses, their pitches o, settings g, n notes with times tm, pitches pt, lasts ls -/
def cntT (n : Nat) (tm : Nat → Nat) (t : Nat) : Nat := match n with
  | 0 => 0
  | n + 1 => cntT n tm t + if tm n = t then 1 else 0
def Bl (c : Nat) (o g : Nat → Nat) : Prop := 2 ≤ c ∧ c ≤ 5 ∧ (∀ k, k < 5 → o k ≤ 60) ∧ 1 ≤ g 0 ∧ g 0 ≤ 9 ∧ g 1 ≤ 6 ∧ g 2 ≤ 9 ∧ g 3 ≤ 9 ∧ g 4 ≤ 9
def Bn (n : Nat) (tm pt ls : Nat → Nat) : Prop := n ≤ 14 ∧ (∀ i, i < n → tm i ≤ 199 ∧ pt i ≤ 70 ∧ 1 ≤ ls i ∧ ls i ≤ 40) ∧ (∀ i, i + 1 < n → tm i ≤ tm (i + 1)) ∧ ∀ t, cntT n tm t ≤ 3
/-- the lute -/
def P1 (σ : Sg) (c : Nat) (o g : Nat → Nat) : Prop := gI σ 1 0 = nI c ∧ gI σ 55 0 = nI c ∧ (∀ k, k < 5 → gI σ 2 k = nI (o k) ∧ gI σ 56 k = nI (o k)) ∧ (∀ k, k < 5 → gI σ 3 k = nI (g k) ∧ gI σ 55 (k + 2) = nI (g k))
/-- the notes -/
def P2 (σ : Sg) (n : Nat) (tm pt ls : Nat → Nat) : Prop := gI σ 4 6 = nI n ∧ gI σ 55 10 = nI n ∧ ∀ i, i < n → gI σ 5 i = nI (tm i) ∧ gI σ 6 i = nI (pt i) ∧ gI σ 7 i = nI (ls i) ∧ gI σ 57 i = nI (tm i) ∧ gI σ 58 i = nI (pt i) ∧ gI σ 59 i = nI (ls i)
/-- chords: how many, the first note of each -/
def Ch (n : Nat) (tm : Nat → Nat) (nk : Nat) (fs : Nat → Nat) : Prop := fs 0 = 0 ∧ fs nk = n ∧ (∀ k, k < nk → fs k < fs (k + 1)) ∧ (∀ k, k < nk → ∀ i, fs k ≤ i → i < fs (k + 1) → tm i = tm (fs k)) ∧ ∀ k, k + 1 < nk → tm (fs k) < tm (fs (k + 1))
def sndB (tm ls fs : Nat → Nat) (k i : Nat) : Bool := decide (i < fs (k + 1) ∧ (fs k ≤ i ∨ tm (fs k) < tm i + ls i))
def P3 (σ : Sg) (n : Nat) (tm ls : Nat → Nat) (nk : Nat) (fs : Nat → Nat) : Prop := Ch n tm nk fs ∧ gI σ 4 7 = nI nk ∧ (∀ k, k ≤ nk → gI σ 9 k = nI (fs k)) ∧ (∀ k, k < nk → ∀ i, fs k ≤ i → i < fs (k + 1) → gI σ 8 i = nI k) ∧ ∀ k, k < nk → ∃ b, b < 2 ^ 14 ∧ gI σ 10 k = nI b ∧ ∀ i, b.testBit i = sndB tm ls fs k i
/-- what is laid -/
def P4 (σ : Sg) (c n : Nat) (il : Bool) (d : Nat → Nat) : Prop := gI σ 0 11 = bI il ∧ gI σ 55 12 = bI il ∧ (il = true → ∀ i, i < n → gI σ 46 i = nI (d i) ∧ gI σ 60 i = nI (d i) ∧ d i < c)
/-- what the slots keep -/
def P5 (σ : Sg) (c n : Nat) : Prop := ∀ s, s < 4 → ∃ b : Bool, gI σ 45 s = bI b ∧ gI σ 62 s = bI b ∧ (b = true → ∀ i, i < n → ∃ v, v < c ∧ gI σ (41 + s) i = nI v ∧ gI σ 61 (14 * s + i) = nI v)
/-- the text -/
def P6 (σ : Sg) (t : Nat) (tb : Nat → Nat) : Prop := t ≤ 80 ∧ gI σ 31 1 = nI t ∧ gI σ 55 39 = nI t ∧ ∀ i, i < t → tb i < 256 ∧ gI σ 32 i = nI (tb i) ∧ gI σ 77 i = nI (tb i)
/-- the sheets -/
def P7 (σ : Sg) : Prop := ∀ s, s < 4 → (gI σ (47 + 2 * s) 0 = nI 1 ∧ gI σ 78 s = -1) ∨ (gI σ (47 + 2 * s) 0 = nI 0 ∧ ∃ f z, f < 3 ∧ z ≤ 48 ∧ gI σ (47 + 2 * s) 1 = nI f ∧ gI σ 78 s = nI f ∧ gI σ (47 + 2 * s) 2 = nI z ∧ gI σ 79 s = nI z ∧ ∀ k, k < 48 → gL σ (48 + 2 * s) k = gL σ 80 (48 * s + k))
/-- the latest finding; the key of the reference -/
def P8 (σ : Sg) : Prop := gI σ 0 12 = gI σ 55 48 ∧ gI σ 55 20 = nI 0
def S1 (p k : Nat) : Prop := p = 1 ∨ p = 2 ∨ p = 3 ∨ p = 56 ∨ (p = 55 ∧ k ≤ 6)
def S2 (p k : Nat) : Prop := (p = 4 ∧ k = 6) ∨ p = 5 ∨ p = 6 ∨ p = 7 ∨ p = 57 ∨ p = 58 ∨ p = 59 ∨ (p = 55 ∧ k = 10)
def S3 (p k : Nat) : Prop := (p = 4 ∧ k = 7) ∨ p = 8 ∨ p = 9 ∨ p = 10
def S4 (p k : Nat) : Prop := (p = 0 ∧ k = 11) ∨ p = 46 ∨ (p = 55 ∧ k = 12) ∨ p = 60
def S5 (p k : Nat) : Prop := p = 45 ∨ (41 ≤ p ∧ p ≤ 44) ∨ p = 61 ∨ p = 62
def S6 (p k : Nat) : Prop := (p = 31 ∧ k = 1) ∨ p = 32 ∨ (p = 55 ∧ k = 39) ∨ p = 77
def S7 (p k : Nat) : Prop := p = 47 ∨ p = 49 ∨ p = 51 ∨ p = 53 ∨ p = 78 ∨ p = 79
def S7L (p k : Nat) : Prop := p = 48 ∨ p = 50 ∨ p = 52 ∨ p = 54 ∨ p = 80
def S8 (p k : Nat) : Prop := (p = 0 ∧ k = 12) ∨ (p = 55 ∧ (k = 20 ∨ k = 48))
def eqI (S : Nat → Nat → Prop) (σ τ : Sg) : Prop := ∀ p k, S p k → gI τ p k = gI σ p k
def eqL (S : Nat → Nat → Prop) (σ τ : Sg) : Prop := ∀ p k, S p k → gL τ p k = gL σ p k
theorem P1.fr {σ τ : Sg} {c : Nat} {o g : Nat → Nat} (h : P1 σ c o g) (e : eqI S1 σ τ) : P1 τ c o g := by
  obtain ⟨h1, h2, h3, h4⟩ := h
  refine ⟨(e 1 0 (Or.inl rfl)).trans h1, (e 55 0 (by unfold S1; omega)).trans h2, fun k hk => ⟨(e 2 k (by unfold S1; omega)).trans (h3 k hk).1, (e 56 k (by unfold S1; omega)).trans (h3 k hk).2⟩, fun k hk => ⟨(e 3 k (by unfold S1; omega)).trans (h4 k hk).1, (e 55 (k + 2) (by unfold S1; omega)).trans (h4 k hk).2⟩⟩
theorem P2.fr {σ τ : Sg} {n : Nat} {tm pt ls : Nat → Nat} (h : P2 σ n tm pt ls) (e : eqI S2 σ τ) : P2 τ n tm pt ls := by
  obtain ⟨h1, h2, h3⟩ := h
  refine ⟨(e 4 6 (by unfold S2; omega)).trans h1, (e 55 10 (by unfold S2; omega)).trans h2, fun i hi => ?_⟩
  obtain ⟨a, b, c, d, f, g⟩ := h3 i hi
  exact ⟨(e 5 i (by unfold S2; omega)).trans a, (e 6 i (by unfold S2; omega)).trans b, (e 7 i (by unfold S2; omega)).trans c, (e 57 i (by unfold S2; omega)).trans d, (e 58 i (by unfold S2; omega)).trans f, (e 59 i (by unfold S2; omega)).trans g⟩
theorem P3.fr {σ τ : Sg} {n nk : Nat} {tm ls fs : Nat → Nat} (h : P3 σ n tm ls nk fs) (e : eqI S3 σ τ) : P3 τ n tm ls nk fs := by
  obtain ⟨h1, h2, h3, h4, h5⟩ := h
  refine ⟨h1, (e 4 7 (by unfold S3; omega)).trans h2, fun k hk => (e 9 k (by unfold S3; omega)).trans (h3 k hk), fun k hk i a b => (e 8 i (by unfold S3; omega)).trans (h4 k hk i a b), fun k hk => ?_⟩
  obtain ⟨b, b1, b2, b3⟩ := h5 k hk
  exact ⟨b, b1, (e 10 k (by unfold S3; omega)).trans b2, b3⟩
theorem P4.fr {σ τ : Sg} {c n : Nat} {il : Bool} {d : Nat → Nat} (h : P4 σ c n il d) (e : eqI S4 σ τ) : P4 τ c n il d := by
  obtain ⟨h1, h2, h3⟩ := h
  refine ⟨(e 0 11 (by unfold S4; omega)).trans h1, (e 55 12 (by unfold S4; omega)).trans h2, fun hl i hi => ?_⟩
  obtain ⟨a, b, c⟩ := h3 hl i hi
  exact ⟨(e 46 i (by unfold S4; omega)).trans a, (e 60 i (by unfold S4; omega)).trans b, c⟩
theorem P5.fr {σ τ : Sg} {c n : Nat} (h : P5 σ c n) (e : eqI S5 σ τ) : P5 τ c n := by
  intro s hs
  obtain ⟨b, h1, h2, h3⟩ := h s hs
  refine ⟨b, (e 45 s (by unfold S5; omega)).trans h1, (e 62 s (by unfold S5; omega)).trans h2, fun hb i hi => ?_⟩
  obtain ⟨v, v1, v2, v3⟩ := h3 hb i hi
  exact ⟨v, v1, (e (41 + s) i (by unfold S5; omega)).trans v2, (e 61 (14 * s + i) (by unfold S5; omega)).trans v3⟩
theorem P6.fr {σ τ : Sg} {t : Nat} {tb : Nat → Nat} (h : P6 σ t tb) (e : eqI S6 σ τ) : P6 τ t tb := by
  obtain ⟨h0, h1, h2, h3⟩ := h
  refine ⟨h0, (e 31 1 (by unfold S6; omega)).trans h1, (e 55 39 (by unfold S6; omega)).trans h2, fun i hi => ?_⟩
  obtain ⟨a, b, c⟩ := h3 i hi
  exact ⟨a, (e 32 i (by unfold S6; omega)).trans b, (e 77 i (by unfold S6; omega)).trans c⟩
theorem P7.fr {σ τ : Sg} (h : P7 σ) (e : eqI S7 σ τ) (eL : eqL S7L σ τ) : P7 τ := by
  intro s hs
  rcases h s hs with ⟨a, b⟩ | ⟨a, f, z, hf, hz, b, c, d, e1, e2⟩
  · exact Or.inl ⟨(e (47 + 2 * s) 0 (by unfold S7; omega)).trans a, (e 78 s (by unfold S7; omega)).trans b⟩
  · refine Or.inr ⟨(e (47 + 2 * s) 0 (by unfold S7; omega)).trans a, f, z, hf, hz, (e (47 + 2 * s) 1 (by unfold S7; omega)).trans b, (e 78 s (by unfold S7; omega)).trans c, (e (47 + 2 * s) 2 (by unfold S7; omega)).trans d, (e 79 s (by unfold S7; omega)).trans e1, fun k hk => ?_⟩
    rw [eL (48 + 2 * s) k (by unfold S7L; omega), eL 80 (48 * s + k) (by unfold S7L; omega)]
    exact e2 k hk
theorem P8.fr {σ τ : Sg} (h : P8 σ) (e : eqI S8 σ τ) : P8 τ := by
  refine ⟨?_, (e 55 20 (by unfold S8; omega)).trans h.2⟩
  rw [e 0 12 (by unfold S8; omega), e 55 48 (by unfold S8; omega)]
  exact h.1
