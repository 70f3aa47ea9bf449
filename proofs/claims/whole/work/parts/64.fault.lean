/-! easiest of the reference; fault; count -/
section
variable {c n nk t : Nat} {o g tm pt ls fs d tb : Nat → Nat} {il : Bool} {σ0 : Sg}
theorem ezS_suc (i : Nat) : ezS c nk o g tm pt ls fs (i + 1) = if lbV c nk o g tm pt ls fs (kI i).toInt 99 = -1 then ezS c nk o g tm pt ls fs i else if (ezS c nk o g tm pt ls fs i).1 = -1 then (lbV c nk o g tm pt ls fs (kI i).toInt 99, kI i) else if (ezS c nk o g tm pt ls fs i).1 ≤ lbV c nk o g tm pt ls fs (kI i).toInt 99 then ezS c nk o g tm pt ls fs i else (lbV c nk o g tm pt ls fs (kI i).toInt 99, kI i) := rfl
theorem kI_idx {far : Nat} (h : far ≤ 12) : kI (2 * far - 1) = -nI far ∧ (1 ≤ far → kI (2 * far - 1 + 1) = nI far) := by
  constructor
  · by_cases e : far = 0
    · subst e; decide
    · unfold kI
      rw [if_pos (by omega), show (2 * far - 1 + 1) / 2 = far by omega]
  · intro h1
    unfold kI
    rw [if_neg (by omega), show (2 * far - 1 + 1 + 1) / 2 = far by omega]
theorem s_ezIn {σ τ : Sg} {x : Int32} {far : Nat} {rec7 : Int32 × Int32 × Int32 × Sg → Option (Int32 × Sg)} (hfar : far ≤ 12) (hE : EnvS σ c n nk t o g tm pt ls fs d tb il) (hf0 : FrD σ τ) (hq0 : P9 τ c o g tm pt ls nk fs) : ∃ τ', fx (f_X9_easiestOf_L17 rec7 55 x (nI far)) FU ((ezS c nk o g tm pt ls fs (2 * far - 1)).1, (ezS c nk o g tm pt ls fs (2 * far - 1)).2, nI 0, τ) = rec7 ((ezS c nk o g tm pt ls fs (2 * (far + 1) - 1)).1, (ezS c nk o g tm pt ls fs (2 * (far + 1) - 1)).2, nI (far + 1), τ') ∧ FrD σ τ' ∧ P9 τ' c o g tm pt ls nk fs := by
  obtain ⟨N, hN⟩ : ∃ N, N = if far = 0 then 1 else 2 := ⟨_, rfl⟩
  have hNi : 2 * far - 1 + N = 2 * (far + 1) - 1 := by rw [hN]; split <;> omega
  have hN2 : N ≤ 2 := by rw [hN]; split <;> omega
  have hL17 : ∀ rec17 b a y υ, f_X9_easiestOf_L17 rec7 55 x (nI far) rec17 (b, a, y, υ) = f_X9_easiestOf_L29 rec7 rec17 55 x b a (nI far) y y (nI N) υ := fun rec17 b a y υ => by
    unfold f_X9_easiestOf_L17
    dsimp only
    by_cases e : far = 0
    · rw [if_pos (by rw [e]; rfl), hN, if_pos e]; rfl
    · rw [if_neg (show ¬ nI far = (0 : Int32) from fun w => e ((nI_eq (b := 0) (by omega) (by omega)).1 w)), hN, if_neg e]; rfl
  refine fx_inv2 (I := fun sd s => ∃ υ, s = ((ezS c nk o g tm pt ls fs (2 * far - 1 + sd)).1, (ezS c nk o g tm pt ls fs (2 * far - 1 + sd)).2, nI sd, υ) ∧ FrD σ υ ∧ P9 υ c o g tm pt ls nk fs) (Q := fun e => ∃ τ', e = rec7 ((ezS c nk o g tm pt ls fs (2 * (far + 1) - 1)).1, (ezS c nk o g tm pt ls fs (2 * (far + 1) - 1)).2, nI (far + 1), τ') ∧ FrD σ τ' ∧ P9 τ' c o g tm pt ls nk fs) (n := N) ?_ ?_ N 0 FU _ (by omega) (by unfold FU; omega) ⟨τ, rfl, hf0, hq0⟩
  · rintro sd s hsd ⟨υ, rfl, hf, hq⟩ rec
    have hE1 := hE.fr hf hq
    have hi : 2 * far - 1 + sd < 25 := by omega
    have hkey : ∀ b a, f_X9_easiestOf_L29 rec7 rec 55 x b a (nI far) (nI sd) (nI sd) (nI N) υ = f_X9_easiestOf_L45 rec7 rec 55 x b a (nI far) (nI sd) (kI (2 * far - 1 + sd)) υ := fun b a => by
      obtain ⟨k1, k2⟩ := kI_idx hfar
      unfold f_X9_easiestOf_L29
      rw [if_neg (by rw [Int32.le_iff_toInt_le, nI_toInt (by omega), nI_toInt (by omega)]; omega)]
      by_cases e : sd = 0
      · subst e
        rw [if_pos (show nI 0 = (0 : Int32) from rfl), Nat.add_zero, k1]
      · have e1 : sd = 1 := by omega
        subst e1
        have hf1 : far ≠ 0 := fun y => by rw [if_pos y] at hN; omega
        rw [if_neg (show ¬ nI 1 = (0 : Int32) by decide), k2 (by omega)]
    obtain ⟨υ', e, f, q⟩ := v_leastBy (σ0 := υ) (x1 := -1) (x2 := kI (2 * far - 1 + sd)) (kI_bd hi) rfl m1_ban υ hE1 (FrD.rf hE1.1)
    left
    refine ⟨((ezS c nk o g tm pt ls fs (2 * far - 1 + (sd + 1))).1, (ezS c nk o g tm pt ls fs (2 * far - 1 + (sd + 1))).2, nI (sd + 1), υ'), ⟨υ', rfl, hf.tr f, q⟩, ?_⟩
    rw [hL17, hkey]
    unfold f_X9_easiestOf_L45 f_X9_easiestOf_L73 f_X9_easiestOf_L77 f_X9_easiestOf_L78 f_X9_easiestOf_L91 f_X9_easiestOf_L103
    rw [e, bd_eq]
    rw [show 2 * far - 1 + (sd + 1) = (2 * far - 1 + sd) + 1 by omega, ezS_suc]
    by_cases c0 : lbV c nk o g tm pt ls fs (kI (2 * far - 1 + sd)).toInt 99 = -1
    · rw [if_pos c0, if_pos c0]
      simp only [if_pos, lB_eq, nI_1]
    · rw [if_neg c0, if_neg c0]
      by_cases c1 : (ezS c nk o g tm pt ls fs (2 * far - 1 + sd)).1 = -1
      · rw [if_pos c1, if_pos c1, if_neg (show ¬ (1 : Int32) = 0 by decide), if_neg (show ¬ (1 : Int32) = 0 by decide), lB_eq, nI_1]
      · rw [if_neg c1, if_neg c1]
        by_cases c2 : (ezS c nk o g tm pt ls fs (2 * far - 1 + sd)).1 ≤ lbV c nk o g tm pt ls fs (kI (2 * far - 1 + sd)).toInt 99
        · rw [if_pos c2, if_pos c2]
          simp only [if_pos, lB_eq, nI_1]
        · rw [if_neg c2, if_neg c2, if_neg (show ¬ (1 : Int32) = 0 by decide), if_neg (show ¬ (1 : Int32) = 0 by decide), lB_eq, nI_1]
  · rintro s ⟨υ, rfl, hf, hq⟩ rec
    refine ⟨_, ⟨υ, rfl, hf, hq⟩, ?_⟩
    rw [hL17, hNi]
    unfold f_X9_easiestOf_L29
    rw [if_pos (by rw [Int32.le_iff_toInt_le]; exact Int.le_refl _), lB_eq, nI_1]
theorem v_X9_ez {x : Int32} : CV σ0 c n nk t o g tm pt ls fs d tb il (f_X9_easiestOf 55 x) (ezV c nk o g tm pt ls fs x) := fun σ hE hF => by
  unfold f_X9_easiestOf
  refine fx_inv2 (I := fun far s => ∃ τ, s = ((ezS c nk o g tm pt ls fs (2 * far - 1)).1, (ezS c nk o g tm pt ls fs (2 * far - 1)).2, nI far, τ) ∧ FrD σ τ ∧ P9 τ c o g tm pt ls nk fs) (Q := fun e => ∃ τ, e = some (ezV c nk o g tm pt ls fs x, τ) ∧ FrD σ τ ∧ P9 τ c o g tm pt ls nk fs) (n := 13) ?_ ?_ 13 0 FU _ (by omega) (by unfold FU; omega) ⟨σ, rfl, FrD.rf hE.1, hE.2.2.2.2.2.2.2.2.2⟩
  · rintro far s hfar ⟨τ, rfl, hf, hq⟩ rec
    obtain ⟨τ', e, f, q⟩ := s_ezIn (x := x) (rec7 := rec) (show far ≤ 12 by omega) hE hf hq
    left
    refine ⟨_, ⟨τ', rfl, f, q⟩, ?_⟩
    rw [← e]
    unfold f_X9_easiestOf_L7
    dsimp only
    rw [if_neg (by rw [Int32.lt_iff_toInt_lt, nI_toInt (by omega)]; have : (12 : Int32).toInt = 12 := rfl; omega)]
    rfl
  · rintro s ⟨τ, rfl, hf, hq⟩ rec
    refine ⟨some (ezV c nk o g tm pt ls fs x, τ), ⟨τ, rfl, hf, hq⟩, ?_⟩
    unfold f_X9_easiestOf_L7 f_X9_easiestOf_L136 ezV
    dsimp only
    rw [if_pos (show (12 : Int32) < nI 13 by decide)]
    show (if (ezS c nk o g tm pt ls fs 25).1 = -1 then _ else _) = _
    by_cases c1 : (ezS c nk o g tm pt ls fs 25).1 = -1
    · rw [if_pos c1, if_pos c1]
    · rw [if_neg c1, if_neg c1]
      by_cases c2 : x = 0
      · rw [if_pos c2, if_pos c2]
      · rw [if_neg c2, if_neg c2]
/-! fault -/
/-- the first chord at which it fails; none -/
def FP (c nk : Nat) (o g tm pt ls fs : Nat → Nat) (r : Int32) : Prop := (r = -1 ∧ ∃ d, GoodTo c o g tm pt ls fs 0 99 nk d) ∨ ∃ k, k < nk ∧ r = nI k ∧ (∀ d, ¬ GoodTo c o g tm pt ls fs 0 99 (k + 1) d) ∧ ∃ d, GoodTo c o g tm pt ls fs 0 99 k d
theorem FP.uni {r s : Int32} (h : FP c nk o g tm pt ls fs r) (q : FP c nk o g tm pt ls fs s) : r = s := by
  rcases h with ⟨rfl, d, hd⟩ | ⟨k, hk, rfl, h1, d, h2⟩
  · rcases q with ⟨rfl, _⟩ | ⟨j, hj, rfl, q1, _⟩
    · rfl
    · exact absurd (fun i hi => hd i (by omega)) (q1 d)
  · rcases q with ⟨rfl, e, he⟩ | ⟨j, hj, rfl, q1, e, q2⟩
    · exact absurd (fun i hi => he i (by omega)) (h1 e)
    · have a1 : ¬ k + 1 ≤ j := fun y => h1 e (fun i hi => q2 i (by omega))
      have a2 : ¬ j + 1 ≤ k := fun y => q1 d (fun i hi => h2 i (by omega))
      rw [show k = j by omega]
noncomputable def fpV (c nk : Nat) (o g tm pt ls fs : Nat → Nat) : Int32 := Classical.epsilon (FP c nk o g tm pt ls fs)
theorem FP.v {r : Int32} (h : FP c nk o g tm pt ls fs r) : r = fpV c nk o g tm pt ls fs := h.uni (Classical.epsilon_spec ⟨r, h⟩)
theorem v_X8_fault : CV σ0 c n nk t o g tm pt ls fs d tb il (f_X8_fault 0) (fpV c nk o g tm pt ls fs) := fun σ hE _ => by
  obtain ⟨v, τ, e, f, q, ha⟩ := s_X5_inKey (x := 0) hE (by decide)
  have hn := hE.2.2.1.1
  have hnk := hE.2.2.2.2.2.1.1.nk_le
  refine ⟨τ, ?_, f, q⟩
  unfold f_X8_fault f_X8_fault_L23
  rw [rf_0_3 hE.1, e, bd_eq]
  rcases ha with ⟨d, h1, h2, h3⟩ | ⟨k, h1, h2, h3, h4⟩
  · rw [if_pos (lg0p (by rw [h2]; exact Int.natCast_nonneg _)), FP.v (Or.inl ⟨rfl, d, h1⟩)]
  · rw [if_neg (lg0n (by omega))]
    have hk : f_X5_faultOf v τ = some (nI k, τ) := by
      unfold f_X5_faultOf
      have e1 : ((-1 : Int64) - v).toInt = (k : Int) := by
        rw [Int64.toInt_sub, h2, show (-1 : Int64).toInt = -1 from rfl, show (-1 : Int) - (-1 - (k : Int)) = k by omega]
        exact Int.bmod_eq_of_le (by omega) (by omega)
      rw [i64_nI e1 (by omega)]
    rw [hk, bd_eq, FP.v (Or.inr ⟨k, h1, rfl, h3, h4⟩)]
/-- a way that a laying good so far comes to -/
def Rch (c : Nat) (o g tm pt ls fs : Nat → Nat) (k : Nat) (e : Nat → Nat) : Prop := ∃ d, GoodTo c o g tm pt ls fs 0 99 (k + 1) d ∧ ∀ i, sndB tm ls fs k i = true → d i = e i
theorem Rch.suc {k m : Nat} {D : Nat → Nat → Nat} {e : Nat → Nat} (hC : Ch n tm nk fs) (hk : k + 1 < nk) (hP : RWP c o g tm pt ls fs 0 99 k m D) (hG : Gd c o g tm pt ls fs 0 99 (k + 1) e) : Rch c o g tm pt ls fs (k + 1) e ↔ ∃ a, a < m ∧ Rch c o g tm pt ls fs k (D a) ∧ ∀ x, x < n → sndB tm ls fs k x = true → sndB tm ls fs (k + 1) x = true → D a x = e x := by
  have hM := hC.le (k := k + 1) (by omega)
  constructor
  · rintro ⟨d, h1, h2⟩
    obtain ⟨a, ha, hl⟩ := hP.2.1 d (h1 k (by omega))
    exact ⟨a, ha, ⟨d, h1.pre, fun i hs => (hl i hs).symm⟩, fun x _ s1 s2 => by rw [hl x s1]; exact h2 x s2⟩
  · rintro ⟨a, ha, ⟨d, h1, h2⟩, h3⟩
    have ag : ∀ i, i < fs (k + 1) → sndB tm ls fs (k + 1) i = true → d i = e i := fun i hi hs => by
      have s1 := hC.held hk hi hs
      rw [h2 i s1]; exact h3 i (by omega) s1 hs
    exact ⟨pas (fs (k + 1)) d e, pas_good hC hk h1 hG ag, pas_snd ag⟩
end
