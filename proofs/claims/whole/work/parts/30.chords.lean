/-! the reference's chords -/
theorem fx_inv2 {S R : Type} {B : (S → Option R) → S → Option R} (I : Nat → S → Prop) (Q : Option R → Prop) {n : Nat} (hs : ∀ i s, i < n → I i s → ∀ rec, (∃ s', I (i + 1) s' ∧ B rec s = rec s') ∨ (∃ e, Q e ∧ B rec s = e)) (he : ∀ s, I n s → ∀ rec, ∃ e, Q e ∧ B rec s = e) : ∀ (d m N : Nat) (s : S), n = m + d → d < N → I m s → Q (fx B N s)
  | 0, m, N + 1, s, h, _, hI => by
    have : m = n := by omega
    subst this
    obtain ⟨e, hq, hb⟩ := he s hI (fx B N)
    show Q (B (fx B N) s)
    rw [hb]; exact hq
  | d + 1, m, N + 1, s, h, hN, hI => by
    show Q (B (fx B N) s)
    rcases hs m s (by omega) hI (fx B N) with ⟨s', hI', hb⟩ | ⟨e, hq, hb⟩
    · rw [hb]; exact fx_inv2 I Q hs he d (m + 1) N s' (by omega) (by omega) hI'
    · rw [hb]; exact hq
theorem Ch.find {n nk : Nat} {tm fs : Nat → Nat} (h : Ch n tm nk fs) {i : Nat} (hi : i < n) : ∃ j, j < nk ∧ fs j ≤ i ∧ i < fs (j + 1) := by
  have : ∀ m, m ≤ nk → i < fs m → ∃ j, j < m ∧ fs j ≤ i ∧ i < fs (j + 1) := by
    intro m
    induction m with
    | zero => intro _ h0; rw [h.1] at h0; omega
    | succ m ih =>
      intro hm hlt
      by_cases e : i < fs m
      · obtain ⟨j, h1, h2, h3⟩ := ih (by omega) e
        exact ⟨j, by omega, h2, h3⟩
      · exact ⟨m, by omega, by omega, hlt⟩
  obtain ⟨j, h1, h2, h3⟩ := this nk (Nat.le_refl _) (by rw [h.2.1]; exact hi)
  exact ⟨j, h1, h2, h3⟩
theorem Ch.tlt {n nk : Nat} {tm fs : Nat → Nat} (h : Ch n tm nk fs) : ∀ {a b : Nat}, a < b → b < nk → tm (fs a) < tm (fs b) := by
  intro a b hab
  induction b with
  | zero => omega
  | succ b ih =>
    intro hb
    have h1 := h.2.2.2.2 b hb
    by_cases e : a = b
    · subst e; exact h1
    · have := ih (by omega) (by omega); omega
theorem Ch.at {n nk : Nat} {tm fs : Nat → Nat} (h : Ch n tm nk fs) {i j k : Nat} (hj : j < nk) (h1 : fs j ≤ i) (h2 : i < fs (j + 1)) (hk : k < nk) : (tm i < tm (fs k) ↔ j < k) ∧ (tm i = tm (fs k) ↔ j = k) := by
  have e := h.2.2.2.1 j hj i h1 h2
  rcases Nat.lt_trichotomy j k with q | q | q
  · have := h.tlt q hk; omega
  · subst q; omega
  · have := h.tlt q hj; omega
theorem Ch.mono {n nk : Nat} {tm fs : Nat → Nat} (h : Ch n tm nk fs) {a b : Nat} (hab : a ≤ b) (hb : b ≤ nk) : fs a ≤ fs b := by
  rcases Nat.lt_or_ge a b with q | q
  · exact Nat.le_of_lt (h.lt a b q hb)
  · rw [show a = b by omega]; exact Nat.le_refl _
theorem Ch.snd {n nk : Nat} {tm fs : Nat → Nat} (ls : Nat → Nat) (h : Ch n tm nk fs) {i k : Nat} (hi : i < n) (hk : k < nk) : sndB tm ls fs k i = true ↔ (tm i ≤ tm (fs k) ∧ (tm i = tm (fs k) ∨ tm (fs k) < tm i + ls i)) := by
  obtain ⟨j, h1, h2, h3⟩ := h.find hi
  have hat := h.at h1 h2 h3 hk
  unfold sndB
  rw [decide_eq_true_iff]
  have m1 : j < k → fs (j + 1) ≤ fs k := fun q => h.mono (by omega) (by omega)
  have m2 : k < j → fs (k + 1) ≤ fs j := fun q => h.mono (by omega) (by omega)
  have m3 := h.2.2.1 k hk
  rcases Nat.lt_trichotomy j k with q | q | q
  · have := m1 q; omega
  · subst q; omega
  · have := m2 q; omega
/-- what the reference knows of its chords -/
def RC (σ : Sg) (n : Nat) (tm ls : Nat → Nat) (nk : Nat) (fs : Nat → Nat) : Prop := gI σ 55 16 = nI nk ∧ (∀ k, k < nk → gI σ 63 k = nI (tm (fs k))) ∧ (∀ k, k < nk → gI σ 65 k = nI (cntB (sndB tm ls fs k) n)) ∧ ∀ k, k < nk → ∀ i, i < n → sndB tm ls fs k i = true → gI σ 64 (14 * k + cntB (sndB tm ls fs k) i) = nI i
def SR (p k : Nat) : Prop := (p = 55 ∧ k = 16) ∨ (63 ≤ p ∧ p ≤ 65)
theorem RC.ag {P PL : Nat → Nat → Prop} {σ τ : Sg} {n nk : Nat} {tm ls fs : Nat → Nat} (h : RC σ n tm ls nk fs) (q : Ag P PL σ τ) (h1 : ∀ p k, SR p k → ¬ P p k) : RC τ n tm ls nk fs :=
  ⟨(q.2.1 55 16 (h1 _ _ (by unfold SR; omega))).trans h.1, fun k hk => (q.2.1 63 k (h1 _ _ (by unfold SR; omega))).trans (h.2.1 k hk), fun k hk => (q.2.1 65 k (h1 _ _ (by unfold SR; omega))).trans (h.2.2.1 k hk), fun k hk i hi hs => (q.2.1 64 _ (h1 _ _ (by unfold SR; omega))).trans (h.2.2.2 k hk i hi hs)⟩
theorem s_X9_findsChords {σ : Sg} {n nk : Nat} {tm pt ls fs : Nat → Nat} (hr : RefI σ) (hN : NM σ n tm pt ls) (hB : Bn n tm pt ls) (hC : Ch n tm nk fs) : ∃ σ', f_X9_findsChords 55 σ = some ((), σ') ∧ Ag SR (fun _ _ => False) σ σ' ∧ RC σ' n tm ls nk fs := by
  unfold f_X9_findsChords
  rw [lB_eq]
  have hn := hB.1
  have hnk := hC.nk_le
  have h10 : ¬ SR 55 10 := by unfold SR; omega
  have hnot : ∀ p k, 57 ≤ p → p ≤ 59 → ¬ SR p k := fun p k h1 h2 z => by unfold SR at z; omega
  refine fx_inv2 (I := fun i s => s.1 = nI i ∧ Ag SR (fun _ _ => False) σ s.2 ∧ ∃ k, k ≤ nk ∧ ((i = 0 ∧ k = 0) ∨ (0 < k ∧ fs (k - 1) < i ∧ i ≤ fs k)) ∧ gI s.2 55 16 = nI k ∧ ∀ j, j < k → gI s.2 63 j = nI (tm (fs j))) (Q := fun e => ∃ σ', e = some ((), σ') ∧ Ag SR (fun _ _ => False) σ σ' ∧ RC σ' n tm ls nk fs) (n := n) ?_ ?_ n 0 FU _ (by omega) (by unfold FU; omega) ⟨rfl, Ag.rf.pI (by unfold SR; omega), 0, by omega, Or.inl ⟨rfl, rfl⟩, rfl, fun j hj => by omega⟩
  · rintro i ⟨x, τ⟩ hi ⟨rfl, hA, k, hk, hpos, h16, h63⟩ rec
    dsimp only at hA h16 h63
    have hr2 : RefI τ := hA.ref hr
    have hN2 : NM τ n tm pt ls := hN.ag hA h10 hnot
    obtain ⟨c5, c6, c7⟩ := hN2.2 i hi
    have c46 := hN2.1
    have b1 := hB.2.1 i hi
    left
    by_cases hnew : i = fs k
    · have hkn : k < nk := by
        rcases Nat.lt_or_ge k nk with q | q
        · exact q
        · have : k = nk := by omega
          subst this; have := hC.2.1; omega
      refine ⟨(nI (i + 1), pI (pI τ 63 k (nI (tm i))) 55 16 (nI (k + 1))), ⟨rfl, (hA.pI (by unfold SR; omega)).pI (by unfold SR; omega), k + 1, hkn, Or.inr ⟨by omega, by rw [Nat.add_sub_cancel]; omega, by have := hC.2.2.1 k hkn; omega⟩, rfl, fun j hj => ?_⟩, ?_⟩
      · rw [gI_pI, if_neg (by omega), gI_pI]
        by_cases e : j = k
        · subst e; rw [if_pos ⟨rfl, rfl⟩, hnew]
        · rw [if_neg (by omega)]; exact h63 j (by omega)
      · unfold f_X9_findsChords_L7 f_X9_findsChords_L36 f_X9_findsChords_L61
        dsimp only
        by_cases h0 : i = 0
        · subst h0
          simp (disch := first | assumption | omega) only [↓lB_eq, ↓bd_m, ck_tt, gI_pI, gI_pL, gI_pR, gL_pI, gL_pL, gL_pR, gR_pI, gR_pL, rf_0_0, rf_0_1, rf_0_2, rf_0_3, rf_0_4, rf_0_5, rf_0_6, rf_0_7, rf_0_8, rf_0_9, rf_0_10, rf_1_1, rf_1_2, rf_4_0, rf_4_1, rf_4_2, rf_4_3, rf_4_4, rf_4_5, rf_11_0, rf_11_1, rf_12_0, rf_12_1, rf_12_2, rf_12_6, rf_12_7, rf_12_8, rf_13_0, rf_13_1, rf_13_2, rf_13_3, rf_18_0, rf_18_1, rf_18_2, rf_18_3, rf_23_0, rf_23_1, rf_23_2, rf_23_3, rf_31_0, rf_33_0, rf_33_2, rf_33_3, rf_33_4, rf_37_0, rf_39_0, rf_39_1, rf_39_2, rf_39_3, rf_40_0, rf_40_1, rf_40_2, rf_40_3, rf_47_3, rf_49_3, rf_51_3, rf_53_3, rf_55_1, rf_55_7, rf_55_8, rf_55_9, rf_55_11, rf_55_13, rf_55_14, rf_55_15, rf_55_17, rf_55_18, rf_55_19, rf_55_27, rf_55_28, rf_55_29, rf_55_30, rf_55_31, rf_55_32, rf_55_33, rf_55_34, rf_55_35, rf_55_36, rf_55_38, rf_55_44, rf_55_45, rf_55_46, rf_55_47, aL_2, aL_3, aL_5, aL_6, aL_7, aL_8, aL_9, aL_10, aL_14, aL_15, aL_16, aL_17, aL_19, aL_20, aL_21, aL_22, aL_24, aL_25, aL_26, aL_27, aL_28, aL_29, aL_30, aL_32, aL_34, aL_35, aL_36, aL_38, aL_39, aL_40, aL_41, aL_42, aL_43, aL_44, aL_45, aL_46, aL_48, aL_50, aL_52, aL_54, aL_56, aL_57, aL_58, aL_59, aL_60, aL_61, aL_62, aL_63, aL_64, aL_65, aL_66, aL_67, aL_68, aL_69, aL_70, aL_71, aL_72, aL_73, aL_74, aL_75, aL_76, aL_77, aL_78, aL_79, aL_80, aL_81, inb_nI, lit32, nI_clamp, nI_1, nI_add, if_pos, if_neg, b01_0, b01_1, Nat.add_sub_cancel, if_true, if_false, not_true_eq_false, not_false_eq_true, true_and, and_true, false_and, and_false, pk_sub, b01_n0, b01_n1, bI_t, bI_f, ofNat_nI, ck_d, Int32.lt_iff_toInt_lt, Int32.le_iff_toInt_le, i32_eq, nI_toInt, bI_b01, bI_0, decide_eq_true_eq, bI_tt, bI_ff, nI_prd, ↓reduceIte, iltT, iltF, ileT, ileF, ieqT, ieqF, dcT, dcF, or_true, or_false, true_or, false_or, c46, c5, h16]
        · obtain ⟨d5, d6, d7⟩ := hN2.2 (i - 1) (by omega)
          have b2 := hB.2.1 (i - 1) (by omega)
          have hk0 : 0 < k := by
            rcases Nat.eq_zero_or_pos k with q | q
            · subst q; have := hC.1; omega
            · exact q
          have t1 := (hC.at (i := i - 1) (j := k - 1) (k := k) (by omega) (by omega) (by rw [show k - 1 + 1 = k by omega]; omega) hkn).1.mpr (by omega)
          rw [← hnew] at t1
          simp (disch := first | assumption | omega) only [↓lB_eq, ↓bd_m, ck_tt, gI_pI, gI_pL, gI_pR, gL_pI, gL_pL, gL_pR, gR_pI, gR_pL, rf_0_0, rf_0_1, rf_0_2, rf_0_3, rf_0_4, rf_0_5, rf_0_6, rf_0_7, rf_0_8, rf_0_9, rf_0_10, rf_1_1, rf_1_2, rf_4_0, rf_4_1, rf_4_2, rf_4_3, rf_4_4, rf_4_5, rf_11_0, rf_11_1, rf_12_0, rf_12_1, rf_12_2, rf_12_6, rf_12_7, rf_12_8, rf_13_0, rf_13_1, rf_13_2, rf_13_3, rf_18_0, rf_18_1, rf_18_2, rf_18_3, rf_23_0, rf_23_1, rf_23_2, rf_23_3, rf_31_0, rf_33_0, rf_33_2, rf_33_3, rf_33_4, rf_37_0, rf_39_0, rf_39_1, rf_39_2, rf_39_3, rf_40_0, rf_40_1, rf_40_2, rf_40_3, rf_47_3, rf_49_3, rf_51_3, rf_53_3, rf_55_1, rf_55_7, rf_55_8, rf_55_9, rf_55_11, rf_55_13, rf_55_14, rf_55_15, rf_55_17, rf_55_18, rf_55_19, rf_55_27, rf_55_28, rf_55_29, rf_55_30, rf_55_31, rf_55_32, rf_55_33, rf_55_34, rf_55_35, rf_55_36, rf_55_38, rf_55_44, rf_55_45, rf_55_46, rf_55_47, aL_2, aL_3, aL_5, aL_6, aL_7, aL_8, aL_9, aL_10, aL_14, aL_15, aL_16, aL_17, aL_19, aL_20, aL_21, aL_22, aL_24, aL_25, aL_26, aL_27, aL_28, aL_29, aL_30, aL_32, aL_34, aL_35, aL_36, aL_38, aL_39, aL_40, aL_41, aL_42, aL_43, aL_44, aL_45, aL_46, aL_48, aL_50, aL_52, aL_54, aL_56, aL_57, aL_58, aL_59, aL_60, aL_61, aL_62, aL_63, aL_64, aL_65, aL_66, aL_67, aL_68, aL_69, aL_70, aL_71, aL_72, aL_73, aL_74, aL_75, aL_76, aL_77, aL_78, aL_79, aL_80, aL_81, inb_nI, lit32, nI_clamp, nI_1, nI_add, if_pos, if_neg, b01_0, b01_1, Nat.add_sub_cancel, if_true, if_false, not_true_eq_false, not_false_eq_true, true_and, and_true, false_and, and_false, pk_sub, b01_n0, b01_n1, bI_t, bI_f, ofNat_nI, ck_d, Int32.lt_iff_toInt_lt, Int32.le_iff_toInt_le, i32_eq, nI_toInt, bI_b01, bI_0, decide_eq_true_eq, bI_tt, bI_ff, nI_prd, ↓reduceIte, iltT, iltF, ileT, ileF, ieqT, ieqF, dcT, dcF, or_true, or_false, true_or, false_or, c46, c5, d5, h16]
    · have hk0 : 0 < k := by
        rcases hpos with q | q
        · rw [q.2, hC.1] at hnew; exact absurd q.1 hnew
        · exact q.1
      obtain ⟨d5, d6, d7⟩ := hN2.2 (i - 1) (by omega)
      have b2 := hB.2.1 (i - 1) (by omega)
      have hlt : fs (k - 1) < i ∧ i < fs (k - 1 + 1) := by
        rw [show k - 1 + 1 = k by omega]; omega
      have t1 := hC.2.2.2.1 (k - 1) (by omega) i (by omega) hlt.2
      have t2 := hC.2.2.2.1 (k - 1) (by omega) (i - 1) (by omega) (by omega)
      refine ⟨(nI (i + 1), τ), ⟨rfl, hA, k, hk, Or.inr ⟨hk0, by omega, by omega⟩, h16, h63⟩, ?_⟩
      unfold f_X9_findsChords_L7 f_X9_findsChords_L61
      dsimp only
      simp (disch := first | assumption | omega) only [↓lB_eq, ↓bd_m, ck_tt, gI_pI, gI_pL, gI_pR, gL_pI, gL_pL, gL_pR, gR_pI, gR_pL, rf_0_0, rf_0_1, rf_0_2, rf_0_3, rf_0_4, rf_0_5, rf_0_6, rf_0_7, rf_0_8, rf_0_9, rf_0_10, rf_1_1, rf_1_2, rf_4_0, rf_4_1, rf_4_2, rf_4_3, rf_4_4, rf_4_5, rf_11_0, rf_11_1, rf_12_0, rf_12_1, rf_12_2, rf_12_6, rf_12_7, rf_12_8, rf_13_0, rf_13_1, rf_13_2, rf_13_3, rf_18_0, rf_18_1, rf_18_2, rf_18_3, rf_23_0, rf_23_1, rf_23_2, rf_23_3, rf_31_0, rf_33_0, rf_33_2, rf_33_3, rf_33_4, rf_37_0, rf_39_0, rf_39_1, rf_39_2, rf_39_3, rf_40_0, rf_40_1, rf_40_2, rf_40_3, rf_47_3, rf_49_3, rf_51_3, rf_53_3, rf_55_1, rf_55_7, rf_55_8, rf_55_9, rf_55_11, rf_55_13, rf_55_14, rf_55_15, rf_55_17, rf_55_18, rf_55_19, rf_55_27, rf_55_28, rf_55_29, rf_55_30, rf_55_31, rf_55_32, rf_55_33, rf_55_34, rf_55_35, rf_55_36, rf_55_38, rf_55_44, rf_55_45, rf_55_46, rf_55_47, aL_2, aL_3, aL_5, aL_6, aL_7, aL_8, aL_9, aL_10, aL_14, aL_15, aL_16, aL_17, aL_19, aL_20, aL_21, aL_22, aL_24, aL_25, aL_26, aL_27, aL_28, aL_29, aL_30, aL_32, aL_34, aL_35, aL_36, aL_38, aL_39, aL_40, aL_41, aL_42, aL_43, aL_44, aL_45, aL_46, aL_48, aL_50, aL_52, aL_54, aL_56, aL_57, aL_58, aL_59, aL_60, aL_61, aL_62, aL_63, aL_64, aL_65, aL_66, aL_67, aL_68, aL_69, aL_70, aL_71, aL_72, aL_73, aL_74, aL_75, aL_76, aL_77, aL_78, aL_79, aL_80, aL_81, inb_nI, lit32, nI_clamp, nI_1, nI_add, if_pos, if_neg, b01_0, b01_1, Nat.add_sub_cancel, if_true, if_false, not_true_eq_false, not_false_eq_true, true_and, and_true, false_and, and_false, pk_sub, b01_n0, b01_n1, bI_t, bI_f, ofNat_nI, ck_d, Int32.lt_iff_toInt_lt, Int32.le_iff_toInt_le, i32_eq, nI_toInt, bI_b01, bI_0, decide_eq_true_eq, bI_tt, bI_ff, nI_prd, ↓reduceIte, iltT, iltF, ileT, ileF, ieqT, ieqF, dcT, dcF, or_true, or_false, true_or, false_or, c46, c5, d5, h16]
  · rintro ⟨x, τ⟩ ⟨rfl, hA, k, hk, hpos, h16, h63⟩ rec
    dsimp only at hA h16 h63
    have hkn : k = nk := by
      rcases hpos with ⟨q1, q2⟩ | ⟨q1, q2, q3⟩
      · subst q1; omega
      · rcases Nat.lt_or_ge k nk with q | q
        · have := hC.lt k nk q (Nat.le_refl _); have := hC.2.1; omega
        · omega
    subst hkn
    have c46 := (hN.ag hA h10 hnot).1
    refine ⟨fx (f_X9_findsChords_L69 55) FU (nI 0, τ), ?_, by
      unfold f_X9_findsChords_L7
      dsimp only
      simp (disch := first | assumption | omega) only [↓lB_eq, ↓bd_m, ck_tt, gI_pI, gI_pL, gI_pR, gL_pI, gL_pL, gL_pR, gR_pI, gR_pL, rf_0_0, rf_0_1, rf_0_2, rf_0_3, rf_0_4, rf_0_5, rf_0_6, rf_0_7, rf_0_8, rf_0_9, rf_0_10, rf_1_1, rf_1_2, rf_4_0, rf_4_1, rf_4_2, rf_4_3, rf_4_4, rf_4_5, rf_11_0, rf_11_1, rf_12_0, rf_12_1, rf_12_2, rf_12_6, rf_12_7, rf_12_8, rf_13_0, rf_13_1, rf_13_2, rf_13_3, rf_18_0, rf_18_1, rf_18_2, rf_18_3, rf_23_0, rf_23_1, rf_23_2, rf_23_3, rf_31_0, rf_33_0, rf_33_2, rf_33_3, rf_33_4, rf_37_0, rf_39_0, rf_39_1, rf_39_2, rf_39_3, rf_40_0, rf_40_1, rf_40_2, rf_40_3, rf_47_3, rf_49_3, rf_51_3, rf_53_3, rf_55_1, rf_55_7, rf_55_8, rf_55_9, rf_55_11, rf_55_13, rf_55_14, rf_55_15, rf_55_17, rf_55_18, rf_55_19, rf_55_27, rf_55_28, rf_55_29, rf_55_30, rf_55_31, rf_55_32, rf_55_33, rf_55_34, rf_55_35, rf_55_36, rf_55_38, rf_55_44, rf_55_45, rf_55_46, rf_55_47, aL_2, aL_3, aL_5, aL_6, aL_7, aL_8, aL_9, aL_10, aL_14, aL_15, aL_16, aL_17, aL_19, aL_20, aL_21, aL_22, aL_24, aL_25, aL_26, aL_27, aL_28, aL_29, aL_30, aL_32, aL_34, aL_35, aL_36, aL_38, aL_39, aL_40, aL_41, aL_42, aL_43, aL_44, aL_45, aL_46, aL_48, aL_50, aL_52, aL_54, aL_56, aL_57, aL_58, aL_59, aL_60, aL_61, aL_62, aL_63, aL_64, aL_65, aL_66, aL_67, aL_68, aL_69, aL_70, aL_71, aL_72, aL_73, aL_74, aL_75, aL_76, aL_77, aL_78, aL_79, aL_80, aL_81, inb_nI, lit32, nI_clamp, nI_1, nI_add, if_pos, if_neg, b01_0, b01_1, Nat.add_sub_cancel, if_true, if_false, not_true_eq_false, not_false_eq_true, true_and, and_true, false_and, and_false, pk_sub, b01_n0, b01_n1, bI_t, bI_f, ofNat_nI, ck_d, Int32.lt_iff_toInt_lt, Int32.le_iff_toInt_le, i32_eq, nI_toInt, bI_b01, bI_0, decide_eq_true_eq, bI_tt, bI_ff, nI_prd, ↓reduceIte, iltT, iltF, ileT, ileF, ieqT, ieqF, dcT, dcF, or_true, or_false, true_or, false_or, c46]⟩
    refine fx_inv2 (I := fun m s => s.1 = nI m ∧ Ag SR (fun _ _ => False) σ s.2 ∧ gI s.2 55 16 = nI k ∧ (∀ j, j < k → gI s.2 63 j = nI (tm (fs j))) ∧ (∀ j, j < m → gI s.2 65 j = nI (cntB (sndB tm ls fs j) n)) ∧ ∀ j, j < m → ∀ i, i < n → sndB tm ls fs j i = true → gI s.2 64 (14 * j + cntB (sndB tm ls fs j) i) = nI i) (Q := fun e => ∃ σ', e = some ((), σ') ∧ Ag SR (fun _ _ => False) σ σ' ∧ RC σ' n tm ls k fs) (n := k) ?_ ?_ k 0 FU _ (by omega) (by unfold FU; omega) ⟨rfl, hA, h16, h63, fun j hj => by omega, fun j hj => by omega⟩
    · rintro m ⟨x, υ⟩ hm ⟨rfl, hU, u16, u63, u65, u64⟩ rec
      dsimp only at hU u16 u63 u65 u64
      have hr3 : RefI υ := hU.ref hr
      left
      have inner : ∃ σ', fx (f_X9_findsChords_L86 rec 55 (nI m)) FU (nI 0, pI υ 65 m (nI 0)) = rec (nI (m + 1), σ') ∧ Ag SR (fun _ _ => False) σ σ' ∧ gI σ' 55 16 = nI k ∧ (∀ j, j < k → gI σ' 63 j = nI (tm (fs j))) ∧ (∀ j, j < m + 1 → gI σ' 65 j = nI (cntB (sndB tm ls fs j) n)) ∧ ∀ j, j < m + 1 → ∀ i, i < n → sndB tm ls fs j i = true → gI σ' 64 (14 * j + cntB (sndB tm ls fs j) i) = nI i := by
        refine fx_inv2 (I := fun i s => s.1 = nI i ∧ Ag SR (fun _ _ => False) σ s.2 ∧ gI s.2 55 16 = nI k ∧ (∀ j, j < k → gI s.2 63 j = nI (tm (fs j))) ∧ (∀ j, j < m → gI s.2 65 j = nI (cntB (sndB tm ls fs j) n)) ∧ gI s.2 65 m = nI (cntB (sndB tm ls fs m) i) ∧ (∀ j, j < m → ∀ i, i < n → sndB tm ls fs j i = true → gI s.2 64 (14 * j + cntB (sndB tm ls fs j) i) = nI i) ∧ ∀ q, q < i → sndB tm ls fs m q = true → gI s.2 64 (14 * m + cntB (sndB tm ls fs m) q) = nI q) (Q := fun e => ∃ σ', e = rec (nI (m + 1), σ') ∧ Ag SR (fun _ _ => False) σ σ' ∧ gI σ' 55 16 = nI k ∧ (∀ j, j < k → gI σ' 63 j = nI (tm (fs j))) ∧ (∀ j, j < m + 1 → gI σ' 65 j = nI (cntB (sndB tm ls fs j) n)) ∧ ∀ j, j < m + 1 → ∀ i, i < n → sndB tm ls fs j i = true → gI σ' 64 (14 * j + cntB (sndB tm ls fs j) i) = nI i) (n := n) ?_ ?_ n 0 FU _ (by omega) (by unfold FU; omega) ⟨rfl, hU.pI (by unfold SR; omega), ?_, fun j hj => ?_, fun j hj => ?_, ?_, fun j hj i hi hs => ?_, fun q hq => by omega⟩
        · rintro i ⟨x, ρ⟩ hi ⟨rfl, hV, v16, v63, v65, v65m, v64, v64m⟩ rec2
          dsimp only at hV v16 v63 v65 v65m v64 v64m
          have hr4 : RefI ρ := hV.ref hr
          have hN4 : NM ρ n tm pt ls := hN.ag hV h10 hnot
          obtain ⟨c5, c6, c7⟩ := hN4.2 i hi
          have w10 := hN4.1
          have b1 := hB.2.1 i hi
          have v63m := v63 m hm
          have bm := hB.2.1 (fs m) (by have := hC.lt m k hm (Nat.le_refl _); have := hC.2.1; omega)
          have hsn := hC.snd ls hi hm
          have hle := cntB_le (sndB tm ls fs m) i
          left
          by_cases hs : sndB tm ls fs m i = true
          · have hs2 := hsn.mp hs
            have e2 := cntB_t hs
            refine ⟨(nI (i + 1), pI (pI ρ 64 (14 * m + cntB (sndB tm ls fs m) i) (nI i)) 65 m (nI (cntB (sndB tm ls fs m) i + 1))), ⟨rfl, (hV.pI (by unfold SR; omega)).pI (by unfold SR; omega), v16, v63, fun j hj => ?_, ?_, fun j hj q hq hs' => ?_, fun q hq hs' => ?_⟩, ?_⟩
            · rw [gI_pI, if_neg (by omega), gI_pI, if_neg (by omega)]; exact v65 j hj
            · rw [gI_pI, if_pos ⟨rfl, rfl⟩, e2]
            · have := cntB_le (sndB tm ls fs j) q
              rw [gI_pI, if_neg (by omega), gI_pI, if_neg (by omega)]; exact v64 j hj q hq hs'
            · rw [gI_pI, if_neg (by omega), gI_pI]
              by_cases e : q = i
              · subst e; rw [if_pos ⟨rfl, rfl⟩]
              · have hlt : cntB (sndB tm ls fs m) q < cntB (sndB tm ls fs m) i := by
                  have h1 := cntB_t hs'
                  have h2 : ∀ a b, a ≤ b → cntB (sndB tm ls fs m) a ≤ cntB (sndB tm ls fs m) b := by
                    intro a b hab
                    induction b with
                    | zero => rw [show a = 0 by omega]; exact Nat.le_refl _
                    | succ b ih =>
                      by_cases e : a = b + 1
                      · rw [e]; exact Nat.le_refl _
                      · exact Nat.le_trans (ih (by omega)) (Nat.le_add_right _ _)
                  have := h2 (q + 1) i (by omega)
                  omega
                rw [if_neg (by omega)]; exact v64m q (by omega) hs'
            · unfold f_X9_findsChords_L86 f_X9_findsChords_L146 f_X9_findsChords_L173
              dsimp only
              by_cases e : tm i = tm (fs m)
              · simp (disch := first | assumption | omega) only [↓lB_eq, ↓bd_m, ck_tt, gI_pI, gI_pL, gI_pR, gL_pI, gL_pL, gL_pR, gR_pI, gR_pL, rf_0_0, rf_0_1, rf_0_2, rf_0_3, rf_0_4, rf_0_5, rf_0_6, rf_0_7, rf_0_8, rf_0_9, rf_0_10, rf_1_1, rf_1_2, rf_4_0, rf_4_1, rf_4_2, rf_4_3, rf_4_4, rf_4_5, rf_11_0, rf_11_1, rf_12_0, rf_12_1, rf_12_2, rf_12_6, rf_12_7, rf_12_8, rf_13_0, rf_13_1, rf_13_2, rf_13_3, rf_18_0, rf_18_1, rf_18_2, rf_18_3, rf_23_0, rf_23_1, rf_23_2, rf_23_3, rf_31_0, rf_33_0, rf_33_2, rf_33_3, rf_33_4, rf_37_0, rf_39_0, rf_39_1, rf_39_2, rf_39_3, rf_40_0, rf_40_1, rf_40_2, rf_40_3, rf_47_3, rf_49_3, rf_51_3, rf_53_3, rf_55_1, rf_55_7, rf_55_8, rf_55_9, rf_55_11, rf_55_13, rf_55_14, rf_55_15, rf_55_17, rf_55_18, rf_55_19, rf_55_27, rf_55_28, rf_55_29, rf_55_30, rf_55_31, rf_55_32, rf_55_33, rf_55_34, rf_55_35, rf_55_36, rf_55_38, rf_55_44, rf_55_45, rf_55_46, rf_55_47, aL_2, aL_3, aL_5, aL_6, aL_7, aL_8, aL_9, aL_10, aL_14, aL_15, aL_16, aL_17, aL_19, aL_20, aL_21, aL_22, aL_24, aL_25, aL_26, aL_27, aL_28, aL_29, aL_30, aL_32, aL_34, aL_35, aL_36, aL_38, aL_39, aL_40, aL_41, aL_42, aL_43, aL_44, aL_45, aL_46, aL_48, aL_50, aL_52, aL_54, aL_56, aL_57, aL_58, aL_59, aL_60, aL_61, aL_62, aL_63, aL_64, aL_65, aL_66, aL_67, aL_68, aL_69, aL_70, aL_71, aL_72, aL_73, aL_74, aL_75, aL_76, aL_77, aL_78, aL_79, aL_80, aL_81, inb_nI, lit32, nI_clamp, nI_1, nI_add, if_pos, if_neg, b01_0, b01_1, Nat.add_sub_cancel, if_true, if_false, not_true_eq_false, not_false_eq_true, true_and, and_true, false_and, and_false, pk_sub, b01_n0, b01_n1, bI_t, bI_f, ofNat_nI, ck_d, Int32.lt_iff_toInt_lt, Int32.le_iff_toInt_le, i32_eq, nI_toInt, bI_b01, bI_0, decide_eq_true_eq, bI_tt, bI_ff, nI_prd, ↓reduceIte, iltT, iltF, ileT, ileF, ieqT, ieqF, dcT, dcF, or_true, or_false, true_or, false_or, w10, c5, v63m, v65m, nI_mul]
              · simp (disch := first | assumption | omega) only [↓lB_eq, ↓bd_m, ck_tt, gI_pI, gI_pL, gI_pR, gL_pI, gL_pL, gL_pR, gR_pI, gR_pL, rf_0_0, rf_0_1, rf_0_2, rf_0_3, rf_0_4, rf_0_5, rf_0_6, rf_0_7, rf_0_8, rf_0_9, rf_0_10, rf_1_1, rf_1_2, rf_4_0, rf_4_1, rf_4_2, rf_4_3, rf_4_4, rf_4_5, rf_11_0, rf_11_1, rf_12_0, rf_12_1, rf_12_2, rf_12_6, rf_12_7, rf_12_8, rf_13_0, rf_13_1, rf_13_2, rf_13_3, rf_18_0, rf_18_1, rf_18_2, rf_18_3, rf_23_0, rf_23_1, rf_23_2, rf_23_3, rf_31_0, rf_33_0, rf_33_2, rf_33_3, rf_33_4, rf_37_0, rf_39_0, rf_39_1, rf_39_2, rf_39_3, rf_40_0, rf_40_1, rf_40_2, rf_40_3, rf_47_3, rf_49_3, rf_51_3, rf_53_3, rf_55_1, rf_55_7, rf_55_8, rf_55_9, rf_55_11, rf_55_13, rf_55_14, rf_55_15, rf_55_17, rf_55_18, rf_55_19, rf_55_27, rf_55_28, rf_55_29, rf_55_30, rf_55_31, rf_55_32, rf_55_33, rf_55_34, rf_55_35, rf_55_36, rf_55_38, rf_55_44, rf_55_45, rf_55_46, rf_55_47, aL_2, aL_3, aL_5, aL_6, aL_7, aL_8, aL_9, aL_10, aL_14, aL_15, aL_16, aL_17, aL_19, aL_20, aL_21, aL_22, aL_24, aL_25, aL_26, aL_27, aL_28, aL_29, aL_30, aL_32, aL_34, aL_35, aL_36, aL_38, aL_39, aL_40, aL_41, aL_42, aL_43, aL_44, aL_45, aL_46, aL_48, aL_50, aL_52, aL_54, aL_56, aL_57, aL_58, aL_59, aL_60, aL_61, aL_62, aL_63, aL_64, aL_65, aL_66, aL_67, aL_68, aL_69, aL_70, aL_71, aL_72, aL_73, aL_74, aL_75, aL_76, aL_77, aL_78, aL_79, aL_80, aL_81, inb_nI, lit32, nI_clamp, nI_1, nI_add, if_pos, if_neg, b01_0, b01_1, Nat.add_sub_cancel, if_true, if_false, not_true_eq_false, not_false_eq_true, true_and, and_true, false_and, and_false, pk_sub, b01_n0, b01_n1, bI_t, bI_f, ofNat_nI, ck_d, Int32.lt_iff_toInt_lt, Int32.le_iff_toInt_le, i32_eq, nI_toInt, bI_b01, bI_0, decide_eq_true_eq, bI_tt, bI_ff, nI_prd, ↓reduceIte, iltT, iltF, ileT, ileF, ieqT, ieqF, dcT, dcF, or_true, or_false, true_or, false_or, w10, c5, c7, v63m, v65m, nI_mul]
          · have hs2 : ¬ (tm i ≤ tm (fs m) ∧ (tm i = tm (fs m) ∨ tm (fs m) < tm i + ls i)) := fun z => hs (hsn.mpr z)
            have e2 := cntB_f hs
            refine ⟨(nI (i + 1), ρ), ⟨rfl, hV, v16, v63, v65, by rw [e2]; exact v65m, v64, fun q hq hs' => ?_⟩, ?_⟩
            · by_cases e : q = i
              · subst e; exact absurd hs' hs
              · exact v64m q (by omega) hs'
            · unfold f_X9_findsChords_L86 f_X9_findsChords_L146 f_X9_findsChords_L173
              dsimp only
              by_cases e : tm (fs m) < tm i
              · simp (disch := first | assumption | omega) only [↓lB_eq, ↓bd_m, ck_tt, gI_pI, gI_pL, gI_pR, gL_pI, gL_pL, gL_pR, gR_pI, gR_pL, rf_0_0, rf_0_1, rf_0_2, rf_0_3, rf_0_4, rf_0_5, rf_0_6, rf_0_7, rf_0_8, rf_0_9, rf_0_10, rf_1_1, rf_1_2, rf_4_0, rf_4_1, rf_4_2, rf_4_3, rf_4_4, rf_4_5, rf_11_0, rf_11_1, rf_12_0, rf_12_1, rf_12_2, rf_12_6, rf_12_7, rf_12_8, rf_13_0, rf_13_1, rf_13_2, rf_13_3, rf_18_0, rf_18_1, rf_18_2, rf_18_3, rf_23_0, rf_23_1, rf_23_2, rf_23_3, rf_31_0, rf_33_0, rf_33_2, rf_33_3, rf_33_4, rf_37_0, rf_39_0, rf_39_1, rf_39_2, rf_39_3, rf_40_0, rf_40_1, rf_40_2, rf_40_3, rf_47_3, rf_49_3, rf_51_3, rf_53_3, rf_55_1, rf_55_7, rf_55_8, rf_55_9, rf_55_11, rf_55_13, rf_55_14, rf_55_15, rf_55_17, rf_55_18, rf_55_19, rf_55_27, rf_55_28, rf_55_29, rf_55_30, rf_55_31, rf_55_32, rf_55_33, rf_55_34, rf_55_35, rf_55_36, rf_55_38, rf_55_44, rf_55_45, rf_55_46, rf_55_47, aL_2, aL_3, aL_5, aL_6, aL_7, aL_8, aL_9, aL_10, aL_14, aL_15, aL_16, aL_17, aL_19, aL_20, aL_21, aL_22, aL_24, aL_25, aL_26, aL_27, aL_28, aL_29, aL_30, aL_32, aL_34, aL_35, aL_36, aL_38, aL_39, aL_40, aL_41, aL_42, aL_43, aL_44, aL_45, aL_46, aL_48, aL_50, aL_52, aL_54, aL_56, aL_57, aL_58, aL_59, aL_60, aL_61, aL_62, aL_63, aL_64, aL_65, aL_66, aL_67, aL_68, aL_69, aL_70, aL_71, aL_72, aL_73, aL_74, aL_75, aL_76, aL_77, aL_78, aL_79, aL_80, aL_81, inb_nI, lit32, nI_clamp, nI_1, nI_add, if_pos, if_neg, b01_0, b01_1, Nat.add_sub_cancel, if_true, if_false, not_true_eq_false, not_false_eq_true, true_and, and_true, false_and, and_false, pk_sub, b01_n0, b01_n1, bI_t, bI_f, ofNat_nI, ck_d, Int32.lt_iff_toInt_lt, Int32.le_iff_toInt_le, i32_eq, nI_toInt, bI_b01, bI_0, decide_eq_true_eq, bI_tt, bI_ff, nI_prd, ↓reduceIte, iltT, iltF, ileT, ileF, ieqT, ieqF, dcT, dcF, or_true, or_false, true_or, false_or, w10, c5, v63m]
              · simp (disch := first | assumption | omega) only [↓lB_eq, ↓bd_m, ck_tt, gI_pI, gI_pL, gI_pR, gL_pI, gL_pL, gL_pR, gR_pI, gR_pL, rf_0_0, rf_0_1, rf_0_2, rf_0_3, rf_0_4, rf_0_5, rf_0_6, rf_0_7, rf_0_8, rf_0_9, rf_0_10, rf_1_1, rf_1_2, rf_4_0, rf_4_1, rf_4_2, rf_4_3, rf_4_4, rf_4_5, rf_11_0, rf_11_1, rf_12_0, rf_12_1, rf_12_2, rf_12_6, rf_12_7, rf_12_8, rf_13_0, rf_13_1, rf_13_2, rf_13_3, rf_18_0, rf_18_1, rf_18_2, rf_18_3, rf_23_0, rf_23_1, rf_23_2, rf_23_3, rf_31_0, rf_33_0, rf_33_2, rf_33_3, rf_33_4, rf_37_0, rf_39_0, rf_39_1, rf_39_2, rf_39_3, rf_40_0, rf_40_1, rf_40_2, rf_40_3, rf_47_3, rf_49_3, rf_51_3, rf_53_3, rf_55_1, rf_55_7, rf_55_8, rf_55_9, rf_55_11, rf_55_13, rf_55_14, rf_55_15, rf_55_17, rf_55_18, rf_55_19, rf_55_27, rf_55_28, rf_55_29, rf_55_30, rf_55_31, rf_55_32, rf_55_33, rf_55_34, rf_55_35, rf_55_36, rf_55_38, rf_55_44, rf_55_45, rf_55_46, rf_55_47, aL_2, aL_3, aL_5, aL_6, aL_7, aL_8, aL_9, aL_10, aL_14, aL_15, aL_16, aL_17, aL_19, aL_20, aL_21, aL_22, aL_24, aL_25, aL_26, aL_27, aL_28, aL_29, aL_30, aL_32, aL_34, aL_35, aL_36, aL_38, aL_39, aL_40, aL_41, aL_42, aL_43, aL_44, aL_45, aL_46, aL_48, aL_50, aL_52, aL_54, aL_56, aL_57, aL_58, aL_59, aL_60, aL_61, aL_62, aL_63, aL_64, aL_65, aL_66, aL_67, aL_68, aL_69, aL_70, aL_71, aL_72, aL_73, aL_74, aL_75, aL_76, aL_77, aL_78, aL_79, aL_80, aL_81, inb_nI, lit32, nI_clamp, nI_1, nI_add, if_pos, if_neg, b01_0, b01_1, Nat.add_sub_cancel, if_true, if_false, not_true_eq_false, not_false_eq_true, true_and, and_true, false_and, and_false, pk_sub, b01_n0, b01_n1, bI_t, bI_f, ofNat_nI, ck_d, Int32.lt_iff_toInt_lt, Int32.le_iff_toInt_le, i32_eq, nI_toInt, bI_b01, bI_0, decide_eq_true_eq, bI_tt, bI_ff, nI_prd, ↓reduceIte, iltT, iltF, ileT, ileF, ieqT, ieqF, dcT, dcF, or_true, or_false, true_or, false_or, w10, c5, c7, v63m]
        · rintro ⟨x, ρ⟩ ⟨rfl, hV, v16, v63, v65, v65m, v64, v64m⟩ rec2
          dsimp only at hV v16 v63 v65 v65m v64 v64m
          have w10 := (hN.ag hV h10 hnot).1
          refine ⟨rec (nI (m + 1), ρ), ⟨ρ, rfl, hV, v16, v63, fun j hj => ?_, fun j hj i hi hs => ?_⟩, ?_⟩
          · by_cases e : j = m
            · subst e; exact v65m
            · exact v65 j (by omega)
          · by_cases e : j = m
            · subst e; exact v64m i hi hs
            · exact v64 j (by omega) i hi hs
          · unfold f_X9_findsChords_L86
            dsimp only
            simp (disch := first | assumption | omega) only [↓lB_eq, ↓bd_m, ck_tt, gI_pI, gI_pL, gI_pR, gL_pI, gL_pL, gL_pR, gR_pI, gR_pL, rf_0_0, rf_0_1, rf_0_2, rf_0_3, rf_0_4, rf_0_5, rf_0_6, rf_0_7, rf_0_8, rf_0_9, rf_0_10, rf_1_1, rf_1_2, rf_4_0, rf_4_1, rf_4_2, rf_4_3, rf_4_4, rf_4_5, rf_11_0, rf_11_1, rf_12_0, rf_12_1, rf_12_2, rf_12_6, rf_12_7, rf_12_8, rf_13_0, rf_13_1, rf_13_2, rf_13_3, rf_18_0, rf_18_1, rf_18_2, rf_18_3, rf_23_0, rf_23_1, rf_23_2, rf_23_3, rf_31_0, rf_33_0, rf_33_2, rf_33_3, rf_33_4, rf_37_0, rf_39_0, rf_39_1, rf_39_2, rf_39_3, rf_40_0, rf_40_1, rf_40_2, rf_40_3, rf_47_3, rf_49_3, rf_51_3, rf_53_3, rf_55_1, rf_55_7, rf_55_8, rf_55_9, rf_55_11, rf_55_13, rf_55_14, rf_55_15, rf_55_17, rf_55_18, rf_55_19, rf_55_27, rf_55_28, rf_55_29, rf_55_30, rf_55_31, rf_55_32, rf_55_33, rf_55_34, rf_55_35, rf_55_36, rf_55_38, rf_55_44, rf_55_45, rf_55_46, rf_55_47, aL_2, aL_3, aL_5, aL_6, aL_7, aL_8, aL_9, aL_10, aL_14, aL_15, aL_16, aL_17, aL_19, aL_20, aL_21, aL_22, aL_24, aL_25, aL_26, aL_27, aL_28, aL_29, aL_30, aL_32, aL_34, aL_35, aL_36, aL_38, aL_39, aL_40, aL_41, aL_42, aL_43, aL_44, aL_45, aL_46, aL_48, aL_50, aL_52, aL_54, aL_56, aL_57, aL_58, aL_59, aL_60, aL_61, aL_62, aL_63, aL_64, aL_65, aL_66, aL_67, aL_68, aL_69, aL_70, aL_71, aL_72, aL_73, aL_74, aL_75, aL_76, aL_77, aL_78, aL_79, aL_80, aL_81, inb_nI, lit32, nI_clamp, nI_1, nI_add, if_pos, if_neg, b01_0, b01_1, Nat.add_sub_cancel, if_true, if_false, not_true_eq_false, not_false_eq_true, true_and, and_true, false_and, and_false, pk_sub, b01_n0, b01_n1, bI_t, bI_f, ofNat_nI, ck_d, Int32.lt_iff_toInt_lt, Int32.le_iff_toInt_le, i32_eq, nI_toInt, bI_b01, bI_0, decide_eq_true_eq, bI_tt, bI_ff, nI_prd, ↓reduceIte, iltT, iltF, ileT, ileF, ieqT, ieqF, dcT, dcF, or_true, or_false, true_or, false_or, w10]
        · rw [gI_pI, if_neg (by omega)]; exact u16
        · rw [gI_pI, if_neg (by omega)]; exact u63 j hj
        · rw [gI_pI, if_neg (by omega)]; exact u65 j hj
        · rw [gI_pI, if_pos ⟨rfl, rfl⟩]; rfl
        · rw [gI_pI, if_neg (by omega)]; exact u64 j hj i hi hs
      obtain ⟨σ', e1, e2, e3, e4, e5, e6⟩ := inner
      refine ⟨(nI (m + 1), σ'), ⟨rfl, e2, e3, e4, e5, e6⟩, ?_⟩
      unfold f_X9_findsChords_L69
      dsimp only
      simp (disch := first | assumption | omega) only [↓lB_eq, ↓bd_m, ck_tt, gI_pI, gI_pL, gI_pR, gL_pI, gL_pL, gL_pR, gR_pI, gR_pL, rf_0_0, rf_0_1, rf_0_2, rf_0_3, rf_0_4, rf_0_5, rf_0_6, rf_0_7, rf_0_8, rf_0_9, rf_0_10, rf_1_1, rf_1_2, rf_4_0, rf_4_1, rf_4_2, rf_4_3, rf_4_4, rf_4_5, rf_11_0, rf_11_1, rf_12_0, rf_12_1, rf_12_2, rf_12_6, rf_12_7, rf_12_8, rf_13_0, rf_13_1, rf_13_2, rf_13_3, rf_18_0, rf_18_1, rf_18_2, rf_18_3, rf_23_0, rf_23_1, rf_23_2, rf_23_3, rf_31_0, rf_33_0, rf_33_2, rf_33_3, rf_33_4, rf_37_0, rf_39_0, rf_39_1, rf_39_2, rf_39_3, rf_40_0, rf_40_1, rf_40_2, rf_40_3, rf_47_3, rf_49_3, rf_51_3, rf_53_3, rf_55_1, rf_55_7, rf_55_8, rf_55_9, rf_55_11, rf_55_13, rf_55_14, rf_55_15, rf_55_17, rf_55_18, rf_55_19, rf_55_27, rf_55_28, rf_55_29, rf_55_30, rf_55_31, rf_55_32, rf_55_33, rf_55_34, rf_55_35, rf_55_36, rf_55_38, rf_55_44, rf_55_45, rf_55_46, rf_55_47, aL_2, aL_3, aL_5, aL_6, aL_7, aL_8, aL_9, aL_10, aL_14, aL_15, aL_16, aL_17, aL_19, aL_20, aL_21, aL_22, aL_24, aL_25, aL_26, aL_27, aL_28, aL_29, aL_30, aL_32, aL_34, aL_35, aL_36, aL_38, aL_39, aL_40, aL_41, aL_42, aL_43, aL_44, aL_45, aL_46, aL_48, aL_50, aL_52, aL_54, aL_56, aL_57, aL_58, aL_59, aL_60, aL_61, aL_62, aL_63, aL_64, aL_65, aL_66, aL_67, aL_68, aL_69, aL_70, aL_71, aL_72, aL_73, aL_74, aL_75, aL_76, aL_77, aL_78, aL_79, aL_80, aL_81, inb_nI, lit32, nI_clamp, nI_1, nI_add, if_pos, if_neg, b01_0, b01_1, Nat.add_sub_cancel, if_true, if_false, not_true_eq_false, not_false_eq_true, true_and, and_true, false_and, and_false, pk_sub, b01_n0, b01_n1, bI_t, bI_f, ofNat_nI, ck_d, Int32.lt_iff_toInt_lt, Int32.le_iff_toInt_le, i32_eq, nI_toInt, bI_b01, bI_0, decide_eq_true_eq, bI_tt, bI_ff, nI_prd, ↓reduceIte, iltT, iltF, ileT, ileF, ieqT, ieqF, dcT, dcF, or_true, or_false, true_or, false_or, u16, e1]
    · rintro ⟨x, υ⟩ ⟨rfl, hU, u16, u63, u65, u64⟩ rec
      dsimp only at hU u16 u63 u65 u64
      refine ⟨some ((), υ), ⟨υ, rfl, hU, u16, u63, u65, u64⟩, ?_⟩
      unfold f_X9_findsChords_L69
      dsimp only
      simp (disch := first | assumption | omega) only [↓lB_eq, ↓bd_m, ck_tt, gI_pI, gI_pL, gI_pR, gL_pI, gL_pL, gL_pR, gR_pI, gR_pL, rf_0_0, rf_0_1, rf_0_2, rf_0_3, rf_0_4, rf_0_5, rf_0_6, rf_0_7, rf_0_8, rf_0_9, rf_0_10, rf_1_1, rf_1_2, rf_4_0, rf_4_1, rf_4_2, rf_4_3, rf_4_4, rf_4_5, rf_11_0, rf_11_1, rf_12_0, rf_12_1, rf_12_2, rf_12_6, rf_12_7, rf_12_8, rf_13_0, rf_13_1, rf_13_2, rf_13_3, rf_18_0, rf_18_1, rf_18_2, rf_18_3, rf_23_0, rf_23_1, rf_23_2, rf_23_3, rf_31_0, rf_33_0, rf_33_2, rf_33_3, rf_33_4, rf_37_0, rf_39_0, rf_39_1, rf_39_2, rf_39_3, rf_40_0, rf_40_1, rf_40_2, rf_40_3, rf_47_3, rf_49_3, rf_51_3, rf_53_3, rf_55_1, rf_55_7, rf_55_8, rf_55_9, rf_55_11, rf_55_13, rf_55_14, rf_55_15, rf_55_17, rf_55_18, rf_55_19, rf_55_27, rf_55_28, rf_55_29, rf_55_30, rf_55_31, rf_55_32, rf_55_33, rf_55_34, rf_55_35, rf_55_36, rf_55_38, rf_55_44, rf_55_45, rf_55_46, rf_55_47, aL_2, aL_3, aL_5, aL_6, aL_7, aL_8, aL_9, aL_10, aL_14, aL_15, aL_16, aL_17, aL_19, aL_20, aL_21, aL_22, aL_24, aL_25, aL_26, aL_27, aL_28, aL_29, aL_30, aL_32, aL_34, aL_35, aL_36, aL_38, aL_39, aL_40, aL_41, aL_42, aL_43, aL_44, aL_45, aL_46, aL_48, aL_50, aL_52, aL_54, aL_56, aL_57, aL_58, aL_59, aL_60, aL_61, aL_62, aL_63, aL_64, aL_65, aL_66, aL_67, aL_68, aL_69, aL_70, aL_71, aL_72, aL_73, aL_74, aL_75, aL_76, aL_77, aL_78, aL_79, aL_80, aL_81, inb_nI, lit32, nI_clamp, nI_1, nI_add, if_pos, if_neg, b01_0, b01_1, Nat.add_sub_cancel, if_true, if_false, not_true_eq_false, not_false_eq_true, true_and, and_true, false_and, and_false, pk_sub, b01_n0, b01_n1, bI_t, bI_f, ofNat_nI, ck_d, Int32.lt_iff_toInt_lt, Int32.le_iff_toInt_le, i32_eq, nI_toInt, bI_b01, bI_0, decide_eq_true_eq, bI_tt, bI_ff, nI_prd, ↓reduceIte, iltT, iltF, ileT, ileF, ieqT, ieqF, dcT, dcF, or_true, or_false, true_or, false_or, u16]
theorem s_X9_chordOf {σ : Sg} {n nk i k : Nat} {tm pt ls fs : Nat → Nat} (hr : RefI σ) (hN : NM σ n tm pt ls) (hB : Bn n tm pt ls) (hC : Ch n tm nk fs) (hk : k < nk) (h1 : fs k ≤ i) (h2 : i < fs (k + 1)) : ∃ σ', f_X9_chordOf 55 (nI i) σ = some (nI k, σ') ∧ Ag SR (fun _ _ => False) σ σ' := by
  obtain ⟨σ', e1, a1, rc⟩ := s_X9_findsChords hr hN hB hC
  refine ⟨σ', ?_, a1⟩
  have hr2 : RefI σ' := a1.ref hr
  have hn := hB.1
  have hnk := hC.nk_le
  have hin : i < n := by have := hC.le (k := k + 1) (by omega); omega
  have hN2 : NM σ' n tm pt ls := hN.ag a1 (by unfold SR; omega) (fun p k h1 h2 z => by unfold SR at z; omega)
  obtain ⟨c5, c6, c7⟩ := hN2.2 i hin
  have b1 := hB.2.1 i hin
  have r16 := rc.1
  have hL : fx (f_X9_chordOf_L8 55 (nI i) σ') FU (-nI 1, nI 0) = some (nI k, σ') := by
    refine fx_for0 (fun j => ((if j ≤ k then -nI 1 else nI k), nI j)) (by rw [if_pos (by omega)]) (n := nk) (fun j hj rec => ?_) (fun rec => ?_) (by unfold FU; omega)
    · have r63 := rc.2.1 j hj
      have bj := hB.2.1 (fs j) (by have := hC.lt j nk hj (Nat.le_refl _); have := hC.2.1; omega)
      have hat := hC.at hk h1 h2 hj
      unfold f_X9_chordOf_L8 f_X9_chordOf_L36
      dsimp only
      rcases Nat.lt_trichotomy j k with q | q | q
      · have e1 : (if j ≤ k then -nI 1 else nI k) = -nI 1 := if_pos (by omega)
        have e2 : (if j + 1 ≤ k then -nI 1 else nI k) = -nI 1 := if_pos (by omega)
        rw [e1, e2]
        simp (disch := first | assumption | omega) only [↓lB_eq, ↓bd_m, ck_tt, gI_pI, gI_pL, gI_pR, gL_pI, gL_pL, gL_pR, gR_pI, gR_pL, rf_0_0, rf_0_1, rf_0_2, rf_0_3, rf_0_4, rf_0_5, rf_0_6, rf_0_7, rf_0_8, rf_0_9, rf_0_10, rf_1_1, rf_1_2, rf_4_0, rf_4_1, rf_4_2, rf_4_3, rf_4_4, rf_4_5, rf_11_0, rf_11_1, rf_12_0, rf_12_1, rf_12_2, rf_12_6, rf_12_7, rf_12_8, rf_13_0, rf_13_1, rf_13_2, rf_13_3, rf_18_0, rf_18_1, rf_18_2, rf_18_3, rf_23_0, rf_23_1, rf_23_2, rf_23_3, rf_31_0, rf_33_0, rf_33_2, rf_33_3, rf_33_4, rf_37_0, rf_39_0, rf_39_1, rf_39_2, rf_39_3, rf_40_0, rf_40_1, rf_40_2, rf_40_3, rf_47_3, rf_49_3, rf_51_3, rf_53_3, rf_55_1, rf_55_7, rf_55_8, rf_55_9, rf_55_11, rf_55_13, rf_55_14, rf_55_15, rf_55_17, rf_55_18, rf_55_19, rf_55_27, rf_55_28, rf_55_29, rf_55_30, rf_55_31, rf_55_32, rf_55_33, rf_55_34, rf_55_35, rf_55_36, rf_55_38, rf_55_44, rf_55_45, rf_55_46, rf_55_47, aL_2, aL_3, aL_5, aL_6, aL_7, aL_8, aL_9, aL_10, aL_14, aL_15, aL_16, aL_17, aL_19, aL_20, aL_21, aL_22, aL_24, aL_25, aL_26, aL_27, aL_28, aL_29, aL_30, aL_32, aL_34, aL_35, aL_36, aL_38, aL_39, aL_40, aL_41, aL_42, aL_43, aL_44, aL_45, aL_46, aL_48, aL_50, aL_52, aL_54, aL_56, aL_57, aL_58, aL_59, aL_60, aL_61, aL_62, aL_63, aL_64, aL_65, aL_66, aL_67, aL_68, aL_69, aL_70, aL_71, aL_72, aL_73, aL_74, aL_75, aL_76, aL_77, aL_78, aL_79, aL_80, aL_81, inb_nI, lit32, nI_clamp, nI_1, nI_add, if_pos, if_neg, b01_0, b01_1, Nat.add_sub_cancel, if_true, if_false, not_true_eq_false, not_false_eq_true, true_and, and_true, false_and, and_false, pk_sub, b01_n0, b01_n1, bI_t, bI_f, ofNat_nI, ck_d, Int32.lt_iff_toInt_lt, Int32.le_iff_toInt_le, i32_eq, nI_toInt, bI_b01, bI_0, decide_eq_true_eq, bI_tt, bI_ff, nI_prd, ↓reduceIte, iltT, iltF, ileT, ileF, ieqT, ieqF, dcT, dcF, or_true, or_false, true_or, false_or, r16, r63, c5]
      · subst q
        have e1 : (if j ≤ j then -nI 1 else nI j) = -nI 1 := if_pos (by omega)
        have e2 : (if j + 1 ≤ j then -nI 1 else nI j) = nI j := if_neg (by omega)
        rw [e1, e2]
        simp (disch := first | assumption | omega) only [↓lB_eq, ↓bd_m, ck_tt, gI_pI, gI_pL, gI_pR, gL_pI, gL_pL, gL_pR, gR_pI, gR_pL, rf_0_0, rf_0_1, rf_0_2, rf_0_3, rf_0_4, rf_0_5, rf_0_6, rf_0_7, rf_0_8, rf_0_9, rf_0_10, rf_1_1, rf_1_2, rf_4_0, rf_4_1, rf_4_2, rf_4_3, rf_4_4, rf_4_5, rf_11_0, rf_11_1, rf_12_0, rf_12_1, rf_12_2, rf_12_6, rf_12_7, rf_12_8, rf_13_0, rf_13_1, rf_13_2, rf_13_3, rf_18_0, rf_18_1, rf_18_2, rf_18_3, rf_23_0, rf_23_1, rf_23_2, rf_23_3, rf_31_0, rf_33_0, rf_33_2, rf_33_3, rf_33_4, rf_37_0, rf_39_0, rf_39_1, rf_39_2, rf_39_3, rf_40_0, rf_40_1, rf_40_2, rf_40_3, rf_47_3, rf_49_3, rf_51_3, rf_53_3, rf_55_1, rf_55_7, rf_55_8, rf_55_9, rf_55_11, rf_55_13, rf_55_14, rf_55_15, rf_55_17, rf_55_18, rf_55_19, rf_55_27, rf_55_28, rf_55_29, rf_55_30, rf_55_31, rf_55_32, rf_55_33, rf_55_34, rf_55_35, rf_55_36, rf_55_38, rf_55_44, rf_55_45, rf_55_46, rf_55_47, aL_2, aL_3, aL_5, aL_6, aL_7, aL_8, aL_9, aL_10, aL_14, aL_15, aL_16, aL_17, aL_19, aL_20, aL_21, aL_22, aL_24, aL_25, aL_26, aL_27, aL_28, aL_29, aL_30, aL_32, aL_34, aL_35, aL_36, aL_38, aL_39, aL_40, aL_41, aL_42, aL_43, aL_44, aL_45, aL_46, aL_48, aL_50, aL_52, aL_54, aL_56, aL_57, aL_58, aL_59, aL_60, aL_61, aL_62, aL_63, aL_64, aL_65, aL_66, aL_67, aL_68, aL_69, aL_70, aL_71, aL_72, aL_73, aL_74, aL_75, aL_76, aL_77, aL_78, aL_79, aL_80, aL_81, inb_nI, lit32, nI_clamp, nI_1, nI_add, if_pos, if_neg, b01_0, b01_1, Nat.add_sub_cancel, if_true, if_false, not_true_eq_false, not_false_eq_true, true_and, and_true, false_and, and_false, pk_sub, b01_n0, b01_n1, bI_t, bI_f, ofNat_nI, ck_d, Int32.lt_iff_toInt_lt, Int32.le_iff_toInt_le, i32_eq, nI_toInt, bI_b01, bI_0, decide_eq_true_eq, bI_tt, bI_ff, nI_prd, ↓reduceIte, iltT, iltF, ileT, ileF, ieqT, ieqF, dcT, dcF, or_true, or_false, true_or, false_or, r16, r63, c5]
      · have e1 : (if j ≤ k then -nI 1 else nI k) = nI k := if_neg (by omega)
        have e2 : (if j + 1 ≤ k then -nI 1 else nI k) = nI k := if_neg (by omega)
        rw [e1, e2]
        simp (disch := first | assumption | omega) only [↓lB_eq, ↓bd_m, ck_tt, gI_pI, gI_pL, gI_pR, gL_pI, gL_pL, gL_pR, gR_pI, gR_pL, rf_0_0, rf_0_1, rf_0_2, rf_0_3, rf_0_4, rf_0_5, rf_0_6, rf_0_7, rf_0_8, rf_0_9, rf_0_10, rf_1_1, rf_1_2, rf_4_0, rf_4_1, rf_4_2, rf_4_3, rf_4_4, rf_4_5, rf_11_0, rf_11_1, rf_12_0, rf_12_1, rf_12_2, rf_12_6, rf_12_7, rf_12_8, rf_13_0, rf_13_1, rf_13_2, rf_13_3, rf_18_0, rf_18_1, rf_18_2, rf_18_3, rf_23_0, rf_23_1, rf_23_2, rf_23_3, rf_31_0, rf_33_0, rf_33_2, rf_33_3, rf_33_4, rf_37_0, rf_39_0, rf_39_1, rf_39_2, rf_39_3, rf_40_0, rf_40_1, rf_40_2, rf_40_3, rf_47_3, rf_49_3, rf_51_3, rf_53_3, rf_55_1, rf_55_7, rf_55_8, rf_55_9, rf_55_11, rf_55_13, rf_55_14, rf_55_15, rf_55_17, rf_55_18, rf_55_19, rf_55_27, rf_55_28, rf_55_29, rf_55_30, rf_55_31, rf_55_32, rf_55_33, rf_55_34, rf_55_35, rf_55_36, rf_55_38, rf_55_44, rf_55_45, rf_55_46, rf_55_47, aL_2, aL_3, aL_5, aL_6, aL_7, aL_8, aL_9, aL_10, aL_14, aL_15, aL_16, aL_17, aL_19, aL_20, aL_21, aL_22, aL_24, aL_25, aL_26, aL_27, aL_28, aL_29, aL_30, aL_32, aL_34, aL_35, aL_36, aL_38, aL_39, aL_40, aL_41, aL_42, aL_43, aL_44, aL_45, aL_46, aL_48, aL_50, aL_52, aL_54, aL_56, aL_57, aL_58, aL_59, aL_60, aL_61, aL_62, aL_63, aL_64, aL_65, aL_66, aL_67, aL_68, aL_69, aL_70, aL_71, aL_72, aL_73, aL_74, aL_75, aL_76, aL_77, aL_78, aL_79, aL_80, aL_81, inb_nI, lit32, nI_clamp, nI_1, nI_add, if_pos, if_neg, b01_0, b01_1, Nat.add_sub_cancel, if_true, if_false, not_true_eq_false, not_false_eq_true, true_and, and_true, false_and, and_false, pk_sub, b01_n0, b01_n1, bI_t, bI_f, ofNat_nI, ck_d, Int32.lt_iff_toInt_lt, Int32.le_iff_toInt_le, i32_eq, nI_toInt, bI_b01, bI_0, decide_eq_true_eq, bI_tt, bI_ff, nI_prd, ↓reduceIte, iltT, iltF, ileT, ileF, ieqT, ieqF, dcT, dcF, or_true, or_false, true_or, false_or, r16, r63, c5]
    · unfold f_X9_chordOf_L8
      dsimp only
      have e1 : (if nk ≤ k then -nI 1 else nI k) = nI k := if_neg (by omega)
      rw [e1]
      simp (disch := first | assumption | omega) only [↓lB_eq, ↓bd_m, ck_tt, gI_pI, gI_pL, gI_pR, gL_pI, gL_pL, gL_pR, gR_pI, gR_pL, rf_0_0, rf_0_1, rf_0_2, rf_0_3, rf_0_4, rf_0_5, rf_0_6, rf_0_7, rf_0_8, rf_0_9, rf_0_10, rf_1_1, rf_1_2, rf_4_0, rf_4_1, rf_4_2, rf_4_3, rf_4_4, rf_4_5, rf_11_0, rf_11_1, rf_12_0, rf_12_1, rf_12_2, rf_12_6, rf_12_7, rf_12_8, rf_13_0, rf_13_1, rf_13_2, rf_13_3, rf_18_0, rf_18_1, rf_18_2, rf_18_3, rf_23_0, rf_23_1, rf_23_2, rf_23_3, rf_31_0, rf_33_0, rf_33_2, rf_33_3, rf_33_4, rf_37_0, rf_39_0, rf_39_1, rf_39_2, rf_39_3, rf_40_0, rf_40_1, rf_40_2, rf_40_3, rf_47_3, rf_49_3, rf_51_3, rf_53_3, rf_55_1, rf_55_7, rf_55_8, rf_55_9, rf_55_11, rf_55_13, rf_55_14, rf_55_15, rf_55_17, rf_55_18, rf_55_19, rf_55_27, rf_55_28, rf_55_29, rf_55_30, rf_55_31, rf_55_32, rf_55_33, rf_55_34, rf_55_35, rf_55_36, rf_55_38, rf_55_44, rf_55_45, rf_55_46, rf_55_47, aL_2, aL_3, aL_5, aL_6, aL_7, aL_8, aL_9, aL_10, aL_14, aL_15, aL_16, aL_17, aL_19, aL_20, aL_21, aL_22, aL_24, aL_25, aL_26, aL_27, aL_28, aL_29, aL_30, aL_32, aL_34, aL_35, aL_36, aL_38, aL_39, aL_40, aL_41, aL_42, aL_43, aL_44, aL_45, aL_46, aL_48, aL_50, aL_52, aL_54, aL_56, aL_57, aL_58, aL_59, aL_60, aL_61, aL_62, aL_63, aL_64, aL_65, aL_66, aL_67, aL_68, aL_69, aL_70, aL_71, aL_72, aL_73, aL_74, aL_75, aL_76, aL_77, aL_78, aL_79, aL_80, aL_81, inb_nI, lit32, nI_clamp, nI_1, nI_add, if_pos, if_neg, b01_0, b01_1, Nat.add_sub_cancel, if_true, if_false, not_true_eq_false, not_false_eq_true, true_and, and_true, false_and, and_false, pk_sub, b01_n0, b01_n1, bI_t, bI_f, ofNat_nI, ck_d, Int32.lt_iff_toInt_lt, Int32.le_iff_toInt_le, i32_eq, nI_toInt, bI_b01, bI_0, decide_eq_true_eq, bI_tt, bI_ff, nI_prd, ↓reduceIte, iltT, iltF, ileT, ileF, ieqT, ieqF, dcT, dcF, or_true, or_false, true_or, false_or, r16]
  unfold f_X9_chordOf
  simp (disch := first | assumption | omega) only [↓lB_eq, ↓bd_m, ck_tt, gI_pI, gI_pL, gI_pR, gL_pI, gL_pL, gL_pR, gR_pI, gR_pL, rf_0_0, rf_0_1, rf_0_2, rf_0_3, rf_0_4, rf_0_5, rf_0_6, rf_0_7, rf_0_8, rf_0_9, rf_0_10, rf_1_1, rf_1_2, rf_4_0, rf_4_1, rf_4_2, rf_4_3, rf_4_4, rf_4_5, rf_11_0, rf_11_1, rf_12_0, rf_12_1, rf_12_2, rf_12_6, rf_12_7, rf_12_8, rf_13_0, rf_13_1, rf_13_2, rf_13_3, rf_18_0, rf_18_1, rf_18_2, rf_18_3, rf_23_0, rf_23_1, rf_23_2, rf_23_3, rf_31_0, rf_33_0, rf_33_2, rf_33_3, rf_33_4, rf_37_0, rf_39_0, rf_39_1, rf_39_2, rf_39_3, rf_40_0, rf_40_1, rf_40_2, rf_40_3, rf_47_3, rf_49_3, rf_51_3, rf_53_3, rf_55_1, rf_55_7, rf_55_8, rf_55_9, rf_55_11, rf_55_13, rf_55_14, rf_55_15, rf_55_17, rf_55_18, rf_55_19, rf_55_27, rf_55_28, rf_55_29, rf_55_30, rf_55_31, rf_55_32, rf_55_33, rf_55_34, rf_55_35, rf_55_36, rf_55_38, rf_55_44, rf_55_45, rf_55_46, rf_55_47, aL_2, aL_3, aL_5, aL_6, aL_7, aL_8, aL_9, aL_10, aL_14, aL_15, aL_16, aL_17, aL_19, aL_20, aL_21, aL_22, aL_24, aL_25, aL_26, aL_27, aL_28, aL_29, aL_30, aL_32, aL_34, aL_35, aL_36, aL_38, aL_39, aL_40, aL_41, aL_42, aL_43, aL_44, aL_45, aL_46, aL_48, aL_50, aL_52, aL_54, aL_56, aL_57, aL_58, aL_59, aL_60, aL_61, aL_62, aL_63, aL_64, aL_65, aL_66, aL_67, aL_68, aL_69, aL_70, aL_71, aL_72, aL_73, aL_74, aL_75, aL_76, aL_77, aL_78, aL_79, aL_80, aL_81, inb_nI, lit32, nI_clamp, nI_1, nI_add, if_pos, if_neg, b01_0, b01_1, Nat.add_sub_cancel, if_true, if_false, not_true_eq_false, not_false_eq_true, true_and, and_true, false_and, and_false, pk_sub, b01_n0, b01_n1, bI_t, bI_f, ofNat_nI, ck_d, Int32.lt_iff_toInt_lt, Int32.le_iff_toInt_le, i32_eq, nI_toInt, bI_b01, bI_0, decide_eq_true_eq, bI_tt, bI_ff, nI_prd, ↓reduceIte, iltT, iltF, ileT, ileF, ieqT, ieqF, dcT, dcF, or_true, or_false, true_or, false_or, e1, hL]
