/-! layings, their costs, the answers: the mathematics of the document -/
def cntB (P : Nat → Bool) : Nat → Nat
  | 0 => 0
  | m + 1 => cntB P m + if P m = true then 1 else 0
/-- the least fret above 0 of those that sound among the first m; 0: there is none -/
def lowF (S : Nat → Bool) (F : Nat → Int) : Nat → Int
  | 0 => 0
  | m + 1 => if S m = true ∧ 0 < F m ∧ (lowF S F m = 0 ∨ F m < lowF S F m) then F m else lowF S F m
def nutB (S : Nat → Bool) (F : Nat → Int) (d : Nat → Nat) (low : Int) (M : Nat) : Bool := (List.range M).any (fun i => S i && decide (F i ≤ 0) && (List.range M).any (fun a => S a && decide (F a = low) && decide (d a < d i)) && (List.range M).any (fun b => S b && decide (F b = low) && decide (d i < d b)))
def twB (S : Nat → Bool) (d : Nat → Nat) (M : Nat) : Bool := (List.range M).any (fun i => S i && (List.range i).any (fun j => S j && decide (d j = d i)))
def wdB (S : Nat → Bool) (F : Nat → Int) (lim : Int) (M : Nat) : Bool := (List.range M).any (fun i => S i && decide (lim < F i))
def posC (S : Nat → Bool) (F : Nat → Int) (M : Nat) : Nat := cntB (fun i => S i && decide (0 < F i)) M
def atlC (S : Nat → Bool) (F : Nat → Int) (M : Nat) : Nat := cntB (fun i => S i && decide (0 < lowF S F M ∧ F i = lowF S F M)) M
def barB (S : Nat → Bool) (F : Nat → Int) (d : Nat → Nat) (M : Nat) : Bool := decide (2 ≤ atlC S F M) && !nutB S F d (lowF S F M) M
def finC (S : Nat → Bool) (F : Nat → Int) (d : Nat → Nat) (M : Nat) : Nat := posC S F M - if barB S F d M = true then atlC S F M - 1 else 0
def prsC (S : Nat → Bool) (F : Nat → Int) (b M : Nat) : Nat := cntB (fun i => decide (b ≤ i) && S i && decide (0 < F i)) M
/-- the fret of a note, were all z higher -/
def fret (o pt : Nat → Nat) (z : Int) (d : Nat → Nat) (i : Nat) : Int := (pt i : Int) + z - (o (d i) : Int)
section DP
variable (c : Nat) (o g tm pt ls fs : Nat → Nat) (z : Int) (ban : Nat)
def lowK (k : Nat) (d : Nat → Nat) : Int := lowF (sndB tm ls fs k) (fret o pt z d) (fs (k + 1))
def barK (k : Nat) (d : Nat → Nat) : Bool := barB (sndB tm ls fs k) (fret o pt z d) d (fs (k + 1))
def finK (k : Nat) (d : Nat → Nat) : Nat := finC (sndB tm ls fs k) (fret o pt z d) d (fs (k + 1))
def ownK (k : Nat) (d : Nat → Nat) : Nat := g 3 * prsC (sndB tm ls fs k) (fret o pt z d) (fs k) (fs (k + 1)) + if barK o tm pt ls fs z k d = true then g 4 else 0
def shK (a b : Int) : Nat := if 0 < a ∧ 0 < b then g 2 * (b - a).natAbs else 0
/-- good at a chord -/
def Gd (k : Nat) (d : Nat → Nat) : Prop := (∀ i, sndB tm ls fs k i = true → d i < c ∧ d i ≠ ban ∧ 0 ≤ fret o pt z d i ∧ fret o pt z d i ≤ (g 0 : Int)) ∧ twB (sndB tm ls fs k) d (fs (k + 1)) = false ∧ finK o tm pt ls fs z k d ≤ 4 ∧ wdB (sndB tm ls fs k) (fret o pt z d) (lowK o tm pt ls fs z k d + g 1) (fs (k + 1)) = false
def GoodTo (k : Nat) (d : Nat → Nat) : Prop := ∀ j, j < k → Gd c o g tm pt ls fs z ban j d
def stepK (k : Nat) (d : Nat → Nat) : Nat := ownK o g tm pt ls fs z k d + match k with
  | 0 => 0
  | j + 1 => shK g (lowK o tm pt ls fs z j d) (lowK o tm pt ls fs z (j + 1) d)
def costTo : Nat → (Nat → Nat) → Nat
  | 0, _ => 0
  | k + 1, d => costTo k d + stepK o g tm pt ls fs z k d
def bitsD (d : Nat → Nat) : Nat → Nat
  | 0 => 0
  | i + 1 => bitsD d i + d i * 8 ^ (13 - i)
def keyD (k : Nat) (d : Nat → Nat) : Nat := costTo o g tm pt ls fs z k d * 2 ^ 42 + bitsD d (fs k)
/-- the class's own answer: the least key of a good laying, or the first chord that has none -/
def AnsP (nk : Nat) (v : Int64) : Prop :=
  (∃ d, GoodTo c o g tm pt ls fs z ban nk d ∧ v.toInt = (keyD o g tm pt ls fs z nk d : Int) ∧ ∀ d', GoodTo c o g tm pt ls fs z ban nk d' → keyD o g tm pt ls fs z nk d ≤ keyD o g tm pt ls fs z nk d') ∨
  (∃ k, k < nk ∧ v.toInt = -1 - (k : Int) ∧ (∀ d, ¬ GoodTo c o g tm pt ls fs z ban (k + 1) d) ∧ ∃ d, GoodTo c o g tm pt ls fs z ban k d)
end DP
def zOf (i : Nat) : Int := if i < 25 then (i : Int) - 12 else 0
def banOf (i : Nat) : Nat := if i < 25 then 99 else i - 25
/-- the class's cache -/
def P9 (σ : Sg) (c : Nat) (o g tm pt ls : Nat → Nat) (nk : Nat) (fs : Nat → Nat) : Prop := ∀ i, i < 30 → ∃ b : Bool, gI σ 30 i = bI b ∧ (b = true → AnsP c o g tm pt ls fs (zOf i) (banOf i) nk (gL σ 29 i))
theorem P9.fr {σ τ : Sg} {c nk : Nat} {o g tm pt ls fs : Nat → Nat} (h : P9 σ c o g tm pt ls nk fs) (e : ∀ k, gI τ 30 k = gI σ 30 k) (eL : ∀ k, gL τ 29 k = gL σ 29 k) : P9 τ c o g tm pt ls nk fs := by
  intro i hi
  obtain ⟨b, h1, h2⟩ := h i hi
  exact ⟨b, (e i).trans h1, fun hb => by rw [eL]; exact h2 hb⟩
theorem P9.zero {σ : Sg} {c nk : Nat} {o g tm pt ls fs : Nat → Nat} (h : ∀ k, k < 30 → gI σ 30 k = nI 0) : P9 σ c o g tm pt ls nk fs := fun i hi => ⟨false, h i hi, fun hb => by cases hb⟩
/-- all that stands between two calls -/
def Rel (σ : Sg) : Prop := RefI σ ∧ ∃ (c n nk t : Nat) (o g tm pt ls fs d tb : Nat → Nat) (il : Bool), Bl c o g ∧ Bn n tm pt ls ∧ P1 σ c o g ∧ P2 σ n tm pt ls ∧ P3 σ n tm ls nk fs ∧ P4 σ c n il d ∧ P5 σ c n ∧ P6 σ t tb ∧ P7 σ ∧ P8 σ ∧ P9 σ c o g tm pt ls nk fs
/-- cells that no call reads before it writes them -/
def Sc (p k : Nat) : Prop := p = 11 ∨ (13 ≤ p ∧ p ≤ 28) ∨ (33 ≤ p ∧ p ≤ 38) ∨ (63 ≤ p ∧ p ≤ 76) ∨ (p = 55 ∧ (k = 16 ∨ (21 ≤ k ∧ k ≤ 26) ∨ k = 37 ∨ (40 ≤ k ∧ k ≤ 43)))
def ScL (p k : Nat) : Prop := p = 14 ∨ p = 17 ∨ p = 19 ∨ p = 22 ∨ p = 24 ∨ p = 27 ∨ p = 81
/-- alike but for such cells -/
def Lk (σ τ : Sg) : Prop := (∀ p k, ¬ Sc p k → gI τ p k = gI σ p k) ∧ (∀ p k, ¬ ScL p k → gL τ p k = gL σ p k) ∧ (RefI σ → RefI τ)
theorem Lk.rf {σ : Sg} : Lk σ σ := ⟨fun _ _ _ => rfl, fun _ _ _ => rfl, id⟩
theorem Lk.tr {σ τ υ : Sg} (h : Lk σ τ) (q : Lk τ υ) : Lk σ υ := ⟨fun p k z => (q.1 p k z).trans (h.1 p k z), fun p k z => (q.2.1 p k z).trans (h.2.1 p k z), fun z => q.2.2 (h.2.2 z)⟩
theorem Lk.pI {σ τ : Sg} (h : Lk σ τ) {p k : Nat} {v : Int32} (hp : Sc p k) : Lk σ (pI τ p k v) := ⟨fun a b z => by rw [gI_pI, if_neg (fun e => z (by rw [e.1, e.2]; exact hp))]; exact h.1 a b z, h.2.1, h.2.2⟩
theorem Lk.pL {σ τ : Sg} (h : Lk σ τ) {p k : Nat} {v : Int64} (hp : ScL p k) : Lk σ (pL τ p k v) := ⟨h.1, fun a b z => by rw [gL_pL, if_neg (fun e => z (by rw [e.1, e.2]; exact hp))]; exact h.2.1 a b z, h.2.2⟩
theorem Lk.ag {P PL : Nat → Nat → Prop} {σ τ : Sg} (h : Ag P PL σ τ) (h1 : ∀ p k, P p k → Sc p k) (h2 : ∀ p k, PL p k → ScL p k) : Lk σ τ := ⟨fun p k z => h.2.1 p k (fun y => z (h1 p k y)), fun p k z => h.2.2.1 p k (fun y => z (h2 p k y)), fun q => h.ref q⟩
theorem Rel.lk {σ τ : Sg} (h : Rel σ) (q : Lk σ τ) : Rel τ := by
  obtain ⟨hr, c, n, nk, t, o, g, tm, pt, ls, fs, d, tb, il, b1, b2, p1, p2, p3, p4, p5, p6, p7, p8, p9⟩ := h
  refine ⟨q.2.2 hr, c, n, nk, t, o, g, tm, pt, ls, fs, d, tb, il, b1, b2, p1.fr ?_, p2.fr ?_, p3.fr ?_, p4.fr ?_, p5.fr ?_, p6.fr ?_, p7.fr ?_ ?_, p8.fr ?_, p9.fr ?_ ?_⟩
  · intro p k z; exact q.1 p k (by unfold Sc; unfold S1 at z; omega)
  · intro p k z; exact q.1 p k (by unfold Sc; unfold S2 at z; omega)
  · intro p k z; exact q.1 p k (by unfold Sc; unfold S3 at z; omega)
  · intro p k z; exact q.1 p k (by unfold Sc; unfold S4 at z; omega)
  · intro p k z; exact q.1 p k (by unfold Sc; unfold S5 at z; omega)
  · intro p k z; exact q.1 p k (by unfold Sc; unfold S6 at z; omega)
  · intro p k z; exact q.1 p k (by unfold Sc; unfold S7 at z; omega)
  · intro p k z; exact q.2.1 p k (by unfold ScL; unfold S7L at z; omega)
  · intro p k z; exact q.1 p k (by unfold Sc; unfold S8 at z; omega)
  · intro k; exact q.1 30 k (by unfold Sc; omega)
  · intro k; exact q.2.1 29 k (by unfold ScL; omega)
