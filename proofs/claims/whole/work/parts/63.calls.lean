/-! calls that change nothing that is told: least, key, without, easiest, count -/
/-- from every state that tells the same as σ0, the call answers r, and tells the same behind it -/
def CV (σ0 : Sg) (c n nk t : Nat) (o g tm pt ls fs d tb : Nat → Nat) (il : Bool) {α : Type} (f : Sg → Option (α × Sg)) (r : α) : Prop := ∀ σ, EnvS σ c n nk t o g tm pt ls fs d tb il → FrD σ0 σ → ∃ τ, f σ = some (r, τ) ∧ FrD σ τ ∧ P9 τ c o g tm pt ls nk fs
theorem Rel.cv {σ : Sg} (h : Rel σ) {α : Type} {fC fM : Sg → Option (α × Sg)} (hq : ∀ {c n nk t : Nat} {o g tm pt ls fs d tb : Nat → Nat} {il : Bool}, EnvS σ c n nk t o g tm pt ls fs d tb il → P5 σ c n → ∃ r, CV σ c n nk t o g tm pt ls fs d tb il fC r ∧ CV σ c n nk t o g tm pt ls fs d tb il fM r) : ∃ r σ1 σ2, fC σ = some (r, σ1) ∧ fM σ1 = some (r, σ2) ∧ Rel σ2 := by
  obtain ⟨hr, c, n, nk, t, o, g, tm, pt, ls, fs, d, tb, il, b1, b2, p1, p2, p3, p4, p5, p6, p7, p8, p9⟩ := h
  have hE : EnvS σ c n nk t o g tm pt ls fs d tb il := ⟨hr, b1, b2, p1, p2, p3, p4, p6, p8, p9⟩
  obtain ⟨r, h1, h2⟩ := hq hE p5
  obtain ⟨τ, e1, f1, q1⟩ := h1 σ hE (FrD.rf hr)
  obtain ⟨υ, e2, f2, q2⟩ := h2 τ (hE.fr f1 q1) f1
  exact ⟨r, τ, υ, e1, e2, Rel.back hE p5 p7 (f1.tr f2) q2⟩
section
variable {c n nk t : Nat} {o g tm pt ls fs d tb : Nat → Nat} {il : Bool} {σ0 : Sg}
theorem CV.ag {α : Type} {f : Sg → Option (α × Sg)} {r : α} {P PL : Nat → Nat → Prop} (h1 : ∀ p k, P p k → Sc p k) (h2 : ∀ p k, PL p k → ScL p k) (h : ∀ σ, EnvS σ c n nk t o g tm pt ls fs d tb il → FrD σ0 σ → ∃ τ, f σ = some (r, τ) ∧ Ag P PL σ τ) : CV σ0 c n nk t o g tm pt ls fs d tb il f r := fun σ hE hF => by
  obtain ⟨τ, e, q⟩ := h σ hE hF
  exact ⟨τ, e, FrD.ag hE.1 q h1 h2, (hE.ag q h1 h2).2.2.2.2.2.2.2.2.2⟩
theorem CV.pure {α : Type} {f : Sg → Option (α × Sg)} {r : α} (h : ∀ σ, EnvS σ c n nk t o g tm pt ls fs d tb il → FrD σ0 σ → f σ = some (r, σ)) : CV σ0 c n nk t o g tm pt ls fs d tb il f r := fun σ hE hF => ⟨σ, h σ hE hF, FrD.rf hE.1, hE.2.2.2.2.2.2.2.2.2⟩
theorem CV.bd {α β : Type} {f : Sg → Option (α × Sg)} {r : α} {k : α → Sg → Option (β × Sg)} {s : β} (h : CV σ0 c n nk t o g tm pt ls fs d tb il f r) (q : CV σ0 c n nk t o g tm pt ls fs d tb il (k r) s) : CV σ0 c n nk t o g tm pt ls fs d tb il (fun σ => bd (f σ) k) s := fun σ hE hF => by
  obtain ⟨τ, e1, f1, q1⟩ := h σ hE hF
  obtain ⟨υ, e2, f2, q2⟩ := q τ (hE.fr f1 q1) (hF.tr f1)
  exact ⟨υ, by dsimp only; rw [e1, bd_eq]; exact e2, f1.tr f2, q2⟩
theorem CV.eq {α : Type} {f f' : Sg → Option (α × Sg)} {r : α} (h : CV σ0 c n nk t o g tm pt ls fs d tb il f r) (e : ∀ σ, EnvS σ c n nk t o g tm pt ls fs d tb il → FrD σ0 σ → f' σ = f σ) : CV σ0 c n nk t o g tm pt ls fs d tb il f' r := fun σ hE hF => by
  rw [e σ hE hF]; exact h σ hE hF
theorem SRFM {p k : Nat} (h : SR p k ∨ FM p k) : Sc p k := by unfold SR FM SL at h; unfold Sc; omega
theorem v_leastBy {z : Int} {ban : Nat} {x1 x2 : Int32} (hz : -12 ≤ z ∧ z ≤ 12) (hx2 : x2.toInt = z) (hx1 : ∀ j : Nat, j < 5 → ((j : Int) = x1.toInt ↔ j = ban)) : CV σ0 c n nk t o g tm pt ls fs d tb il (f_X9_leastBy 55 x1 x2) (lbV c nk o g tm pt ls fs z ban) := CV.ag (P := fun p k => SR p k ∨ FM p k) (PL := fun _ _ => False) (fun p k y => SRFM y) (fun _ _ y => False.elim y) (fun σ hE _ => by
  obtain ⟨hr, b1, b2, p1, p2, p3, p4, p6, p8, p9⟩ := hE
  obtain ⟨v, τ, M, DD, e, a, hv, _⟩ := s_X9_leastBy (x1 := x1) (x2 := x2) hr b1 b2 p1 p2 p3.1 p8.2 hz hx2 hx1
  rw [← hv.v]
  exact ⟨τ, e, a⟩)
theorem m1_ban (j : Nat) (hj : j < 5) : ((j : Int) = (-1 : Int32).toInt ↔ j = 99) := by have : (-1 : Int32).toInt = -1 := rfl; omega
theorem c_inKey {σ : Sg} {x : Int32} (hE : EnvS σ c n nk t o g tm pt ls fs d tb il) (hx : -12 ≤ x.toInt ∧ x.toInt ≤ 12) : ∃ v τ, f_X5_inKey 12 x σ = some (v, τ) ∧ FrD σ τ ∧ P9 τ c o g tm pt ls nk fs ∧ ((0 ≤ v.toInt ∧ ∃ V, V < 1000000 ∧ lbV c nk o g tm pt ls fs x.toInt 99 = nI V ∧ ∀ σ, f_X5_costOf v σ = some (nI V, σ)) ∨ (v.toInt < 0 ∧ lbV c nk o g tm pt ls fs x.toInt 99 = -1)) := by
  obtain ⟨v, τ, e, f, q, ha⟩ := s_X5_inKey hE hx
  exact ⟨v, τ, e, f, q, ha.lb hE.2.1 hE.2.2.1 hE.2.2.2.2.2.1.1 hx⟩
theorem z64 : (0 : Int64).toInt = 0 := rfl
theorem lg0p {v : Int64} (h : 0 ≤ v.toInt) : 0 ≤ lg_cmp v 0 := by
  rw [Int32.le_iff_toInt_le]
  exact (lgc_ge v 0).2 (by rw [z64]; exact h)
theorem lg0n {v : Int64} (h : v.toInt < 0) : ¬ 0 ≤ lg_cmp v 0 := by
  rw [Int32.le_iff_toInt_le]
  intro y
  have := (lgc_ge v 0).1 y
  rw [z64] at this
  omega
theorem v_X8_key {x : Int32} (hx : -12 ≤ x.toInt ∧ x.toInt ≤ 12) : CV σ0 c n nk t o g tm pt ls fs d tb il (f_X8_key 0 x) (lbV c nk o g tm pt ls fs x.toInt 99) := fun σ hE _ => by
  obtain ⟨v, τ, e, f, q, h⟩ := c_inKey hE hx
  refine ⟨τ, ?_, f, q⟩
  unfold f_X8_key f_X8_key_L38
  have a1 : (-12 : Int32).toInt = -12 := rfl
  have a2 : (12 : Int32).toInt = 12 := rfl
  rw [if_neg (by rw [Int32.lt_iff_toInt_lt]; omega), if_pos (by rw [Int32.le_iff_toInt_le]; omega), rf_0_3 hE.1, e, bd_eq]
  rcases h with ⟨h1, V, _, h2, h3⟩ | ⟨h1, h2⟩
  · rw [if_pos (lg0p h1), h3, bd_eq, h2]
  · rw [if_neg (lg0n h1), h2]
noncomputable def lsV (c nk : Nat) (o g tm pt ls fs : Nat → Nat) : Int32 := if lbV c nk o g tm pt ls fs 0 99 = -1 then -3 else lbV c nk o g tm pt ls fs 0 99
theorem nI_m1 {V : Nat} (h : V < 1000000) : ¬ nI V = -1 := fun y => by
  have h1 := (i32_eq _ _).1 y
  rw [nI_toInt (by omega), show (-1 : Int32).toInt = -1 from rfl] at h1
  omega
theorem v_X8_least : CV σ0 c n nk t o g tm pt ls fs d tb il (f_X8_least 0) (lsV c nk o g tm pt ls fs) := fun σ hE _ => by
  obtain ⟨v, τ, e, f, q, h⟩ := c_inKey (x := 0) hE (by decide)
  refine ⟨τ, ?_, f, q⟩
  unfold f_X8_least f_X8_least_L24 lsV
  rw [show (0 : Int32).toInt = 0 from rfl] at h
  rw [rf_0_3 hE.1, e, bd_eq]
  rcases h with ⟨h1, V, hV, h2, h3⟩ | ⟨h1, h2⟩
  · rw [if_pos (lg0p h1), h3, bd_eq, h2, if_neg (nI_m1 hV)]
  · rw [if_neg (lg0n h1), h2, if_pos rfl]
theorem v_leastNow : CV σ0 c n nk t o g tm pt ls fs d tb il (f_X9_leastNow 55) (lbV c nk o g tm pt ls fs 0 99) :=
  (CV.bd (k := fun r2 s1 => some (r2, s1)) (v_leastBy (z := 0) (x1 := -1) (x2 := 0) (by omega) rfl m1_ban) (CV.pure (fun _ _ _ => rfl))).eq (fun _ _ _ => rfl)
theorem v_X9_least : CV σ0 c n nk t o g tm pt ls fs d tb il (f_X9_least 55) (lsV c nk o g tm pt ls fs) := by
  refine (CV.bd (k := fun r2 s1 => (if r2 = (-1 : Int32) then f_X9_least_L16 (-3 : Int32) s1 else f_X9_least_L16 r2 s1)) v_leastNow (CV.pure (fun σ _ _ => ?_))).eq (fun _ _ _ => rfl)
  unfold lsV f_X9_least_L16
  by_cases h : lbV c nk o g tm pt ls fs 0 99 = -1
  · rw [if_pos h, if_pos h]
  · rw [if_neg h, if_neg h]
theorem v_X8_without {j : Nat} (hj : j < c) : CV σ0 c n nk t o g tm pt ls fs d tb il (f_X8_without 0 (nI j)) (lbV c nk o g tm pt ls fs 0 j) := fun σ hE _ => by
  have hc5 := hE.2.1.2.1
  obtain ⟨v, τ, e, f, q, ha⟩ := s_X5_without (j := j) hE (by omega)
  have h := ha.lb hE.2.1 hE.2.2.1 hE.2.2.2.2.2.1.1 (by omega)
  have hh := s_X1_has (σ := σ) (nI j)
  rw [hE.2.2.2.1.1, nI_toInt (by omega), nI_toInt (by omega), decide_eq_true (by omega)] at hh
  refine ⟨τ, ?_, f, q⟩
  unfold f_X8_without f_X8_without_L37
  rw [rf_0_0 hE.1, hh, bd_eq, if_neg (by decide), rf_0_3 hE.1, e, bd_eq]
  rcases h with ⟨h1, V, _, h2, h3⟩ | ⟨h1, h2⟩
  · rw [if_pos (lg0p h1), h3, bd_eq, h2]
  · rw [if_neg (lg0n h1), h2]
theorem v_without {j : Nat} (hj : j < 5) : CV σ0 c n nk t o g tm pt ls fs d tb il (f_X9_leastBy 55 (nI j) 0) (lbV c nk o g tm pt ls fs 0 j) := v_leastBy (by omega) rfl (fun i hi => by rw [nI_toInt (by omega)]; omega)
/-! easiest -/
def kI (i : Nat) : Int32 := if i % 2 = 1 then -nI ((i + 1) / 2) else nI ((i + 1) / 2)
theorem neg_nI {m : Nat} (h : m < 1000) : (-nI m).toInt = -(m : Int) := by
  have : -nI m = nI 0 - nI m := by rw [show nI 0 = (0 : Int32) from rfl, Int32.zero_sub]
  rw [this, sub_toInt (by omega) (by omega)]; omega
theorem kI_bd {i : Nat} (h : i < 25) : -12 ≤ (kI i).toInt ∧ (kI i).toInt ≤ 12 := by
  unfold kI
  split
  · rw [neg_nI (by omega)]; omega
  · rw [nI_toInt (by omega)]; omega
theorem s_nth {σ : Sg} {i : Nat} (h : i < 25) : f_X8_nthNearestKey (nI i) σ = some (kI i, σ) := by
  unfold f_X8_nthNearestKey f_X8_nthNearestKey_L19 kI
  rw [show (2 : Int32) = nI 2 from rfl, show nI i + (1 : Int32) = nI (i + 1) from nI_add _ _, pk_rem (by omega) (by omega) (by omega), pk_div (by omega) (by omega) (by omega), show decide (¬ nI 2 = 0) = true by decide, ck_tt, lB_eq, ck_tt]
  by_cases q : i % 2 = 1
  · rw [if_pos (by rw [q]; rfl), if_pos q]
  · rw [if_neg (show ¬ nI (i % 2) = (1 : Int32) from fun y => q ((nI_eq (b := 1) (by omega) (by omega)).1 y)), if_neg q]
noncomputable def ezS (c nk : Nat) (o g tm pt ls fs : Nat → Nat) : Nat → Int32 × Int32
  | 0 => (-1, 0)
  | i + 1 => if lbV c nk o g tm pt ls fs (kI i).toInt 99 = -1 then ezS c nk o g tm pt ls fs i else if (ezS c nk o g tm pt ls fs i).1 = -1 then (lbV c nk o g tm pt ls fs (kI i).toInt 99, kI i) else if (ezS c nk o g tm pt ls fs i).1 ≤ lbV c nk o g tm pt ls fs (kI i).toInt 99 then ezS c nk o g tm pt ls fs i else (lbV c nk o g tm pt ls fs (kI i).toInt 99, kI i)
noncomputable def ezV (c nk : Nat) (o g tm pt ls fs : Nat → Nat) (x : Int32) : Int32 := if (ezS c nk o g tm pt ls fs 25).1 = -1 then -2147483648 else if x = 0 then (ezS c nk o g tm pt ls fs 25).2 else (ezS c nk o g tm pt ls fs 25).1
theorem v_X8_ez {x : Int32} : CV σ0 c n nk t o g tm pt ls fs d tb il (f_X8_easiest_L12 0 x) (ezV c nk o g tm pt ls fs x) := fun σ hE hF => by
  unfold f_X8_easiest_L12
  refine fx_inv2 (I := fun i s => ∃ τ, s = ((ezS c nk o g tm pt ls fs i).1, (ezS c nk o g tm pt ls fs i).2, nI i, τ) ∧ FrD σ τ ∧ P9 τ c o g tm pt ls nk fs) (Q := fun e => ∃ τ, e = some (ezV c nk o g tm pt ls fs x, τ) ∧ FrD σ τ ∧ P9 τ c o g tm pt ls nk fs) (n := 25) ?_ ?_ 25 0 FU _ (by omega) (by unfold FU; omega) ⟨σ, rfl, FrD.rf hE.1, hE.2.2.2.2.2.2.2.2.2⟩
  · rintro i s hi ⟨τ, rfl, hf, hq⟩ rec
    have hE1 := hE.fr hf hq
    obtain ⟨v, υ, e, f, q, h⟩ := c_inKey hE1 (kI_bd hi)
    left
    refine ⟨((ezS c nk o g tm pt ls fs (i + 1)).1, (ezS c nk o g tm pt ls fs (i + 1)).2, nI (i + 1), υ), ⟨υ, rfl, hf.tr f, q⟩, ?_⟩
    unfold f_X8_easiest_L19 f_X8_easiest_L65 f_X8_easiest_L74
    dsimp only
    rw [if_neg (by rw [Int32.lt_iff_toInt_lt, nI_toInt (by omega)]; have : (24 : Int32).toInt = 24 := rfl; omega), s_nth hi, bd_eq, rf_0_3 hE1.1, e, bd_eq]
    show _ = rec ((if _ then _ else _ : Int32 × Int32).1, (if _ then _ else _ : Int32 × Int32).2, _, _)
    rcases h with ⟨h1, V, hV, h2, h3⟩ | ⟨h1, h2⟩
    · rw [if_neg (show ¬ lg_cmp v 0 < 0 by rw [Int32.lt_iff_toInt_lt]; intro y; have := (lgc_lt v 0).1 y; rw [z64] at this; omega), h2, if_neg (nI_m1 hV)]
      simp only [h3, bd_eq, lB_eq, nI_1]
      by_cases c1 : (ezS c nk o g tm pt ls fs i).1 = -1
      · rw [if_pos c1, if_pos c1]
      · rw [if_neg c1, if_neg c1]
        by_cases c2 : (ezS c nk o g tm pt ls fs i).1 ≤ nI V
        · rw [if_pos c2, if_pos c2]
        · rw [if_neg c2, if_neg c2]
    · rw [if_pos (show lg_cmp v 0 < 0 by rw [Int32.lt_iff_toInt_lt]; exact (lgc_lt v 0).2 (by rw [z64]; exact h1)), if_pos h2, lB_eq, show nI i + (1 : Int32) = nI (i + 1) from nI_add _ _]
  · rintro s ⟨τ, rfl, hf, hq⟩ rec
    refine ⟨some (ezV c nk o g tm pt ls fs x, τ), ⟨τ, rfl, hf, hq⟩, ?_⟩
    unfold f_X8_easiest_L19 f_X8_easiest_L97 ezV
    dsimp only
    rw [if_pos (show (24 : Int32) < nI 25 by decide)]
    by_cases c1 : (ezS c nk o g tm pt ls fs 25).1 = -1
    · rw [if_pos c1, if_pos c1]
    · rw [if_neg c1, if_neg c1]
      by_cases c2 : x = 0
      · rw [if_pos c2, if_pos c2]
      · rw [if_neg c2, if_neg c2]
end
