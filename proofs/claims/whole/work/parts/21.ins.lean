/-! a note more, a note less -/
def ipos (tm pt : Nat → Nat) (a b : Nat) : Nat → Nat
  | 0 => 0
  | m + 1 => if a < tm m ∨ (tm m = a ∧ b < pt m) then ipos tm pt a b m else m + 1
def insA (f : Nat → Nat) (p v : Nat) : Nat → Nat := fun i => if i < p then f i else if i = p then v else f (i - 1)
theorem insA_lt {f : Nat → Nat} {p v i : Nat} (h : i < p) : insA f p v i = f i := if_pos h
theorem insA_eq {f : Nat → Nat} {p v : Nat} : insA f p v p = v := by unfold insA; rw [if_neg (by omega), if_pos rfl]
theorem insA_gt {f : Nat → Nat} {p v i : Nat} (h : p < i) : insA f p v i = f (i - 1) := by unfold insA; rw [if_neg (by omega), if_neg (by omega)]
theorem ipos_le (tm pt : Nat → Nat) (a b : Nat) : ∀ n, ipos tm pt a b n ≤ n
  | 0 => Nat.le_refl _
  | m + 1 => by
    unfold ipos
    have := ipos_le tm pt a b m
    split <;> omega
theorem ipos_gt {tm pt : Nat → Nat} {a b : Nat} : ∀ {n i : Nat}, ipos tm pt a b n ≤ i → i < n → a < tm i ∨ (tm i = a ∧ b < pt i)
  | 0, i, _, h => by omega
  | m + 1, i, h, hi => by
    unfold ipos at h
    by_cases hc : a < tm m ∨ (tm m = a ∧ b < pt m)
    · rw [if_pos hc] at h
      by_cases e : i = m
      · subst e; exact hc
      · exact ipos_gt h (by omega)
    · rw [if_neg hc] at h; omega
theorem ipos_st {tm pt : Nat → Nat} {a b : Nat} : ∀ {n : Nat}, 0 < ipos tm pt a b n → ¬ (a < tm (ipos tm pt a b n - 1) ∨ (tm (ipos tm pt a b n - 1) = a ∧ b < pt (ipos tm pt a b n - 1)))
  | 0, h => by unfold ipos at h; omega
  | m + 1, h => by
    unfold ipos at h ⊢
    by_cases hc : a < tm m ∨ (tm m = a ∧ b < pt m)
    · rw [if_pos hc] at h ⊢; exact ipos_st h
    · rw [if_neg hc]; exact hc
theorem sorted_le {n : Nat} {tm : Nat → Nat} (h : ∀ i, i + 1 < n → tm i ≤ tm (i + 1)) : ∀ {i j : Nat}, i ≤ j → j < n → tm i ≤ tm j := by
  intro i j hij
  induction j with
  | zero => intro _; rw [show i = 0 by omega]; exact Nat.le_refl _
  | succ j ih =>
    intro hj
    by_cases e : i = j + 1
    · rw [e]; exact Nat.le_refl _
    · exact Nat.le_trans (ih (by omega) (by omega)) (h j hj)
theorem cntT_ins (tm : Nat → Nat) (p a t : Nat) : ∀ n, p ≤ n → cntT (n + 1) (insA tm p a) t = cntT n tm t + if a = t then 1 else 0 := by
  have lo : ∀ m, m ≤ p → cntT m (insA tm p a) t = cntT m tm t := by
    intro m
    induction m with
    | zero => intro _; rfl
    | succ m ih => intro hm; unfold cntT; rw [ih (by omega), insA_lt (by omega)]
  intro n
  induction n with
  | zero =>
    intro hp
    have : p = 0 := by omega
    subst this
    unfold cntT
    rw [insA_eq]
    rfl
  | succ n ih =>
    intro hp
    by_cases e : p = n + 1
    · subst e
      show cntT (n + 1) (insA tm (n + 1) a) t + _ = _
      rw [lo (n + 1) (Nat.le_refl _), insA_eq]
    · show cntT (n + 1) (insA tm p a) t + _ = _
      rw [ih (by omega), insA_gt (by omega), Nat.add_sub_cancel]
      show _ = cntT n tm t + (if tm n = t then 1 else 0) + _
      omega
theorem Bn.ins {n a b l : Nat} {tm pt ls : Nat → Nat} (h : Bn n tm pt ls) (hn : n < 14) (ha : a ≤ 199) (hb : b ≤ 70) (hl : 1 ≤ l ∧ l ≤ 40) (hc : cntT n tm a < 3) : Bn (n + 1) (insA tm (ipos tm pt a b n) a) (insA pt (ipos tm pt a b n) b) (insA ls (ipos tm pt a b n) l) := by
  have hp := ipos_le tm pt a b n
  have hg := fun i => ipos_gt (tm := tm) (pt := pt) (a := a) (b := b) (n := n) (i := i)
  have hs := ipos_st (tm := tm) (pt := pt) (a := a) (b := b) (n := n)
  generalize ipos tm pt a b n = p at hp hg hs
  obtain ⟨h1, h2, h3, h4⟩ := h
  refine ⟨by omega, fun i hi => ?_, fun i hi => ?_, fun t => ?_⟩
  · rcases Nat.lt_trichotomy i p with e | e | e
    · rw [insA_lt e, insA_lt e, insA_lt e]; exact h2 i (by omega)
    · subst e; rw [insA_eq, insA_eq, insA_eq]; omega
    · rw [insA_gt e, insA_gt e, insA_gt e]; exact h2 (i - 1) (by omega)
  · rcases Nat.lt_trichotomy (i + 1) p with e | e | e
    · rw [insA_lt (by omega), insA_lt e]; exact h3 i (by omega)
    · rw [insA_lt (by omega), e, insA_eq]
      have := hs (by omega)
      rw [show p - 1 = i by omega] at this
      omega
    · rw [insA_gt e, Nat.add_sub_cancel]
      by_cases e2 : i = p
      · subst e2; rw [insA_eq]
        have := hg i (Nat.le_refl _) (by omega)
        omega
      · rw [insA_gt (by omega)]
        have := h3 (i - 1) (by omega)
        rw [show i - 1 + 1 = i by omega] at this
        exact this
  · rw [cntT_ins tm p a t n hp]
    have := h4 t
    by_cases e : a = t
    · subst e; rw [if_pos rfl]; omega
    · rw [if_neg e]; omega
def SA (p k : Nat) : Prop := (p = 4 ∧ (k = 6 ∨ k = 7)) ∨ (5 ≤ p ∧ p ≤ 10)
theorem s_X2_move {σ : Sg} {i j : Nat} (hr : RefI σ) (hi : i < 14) (hj : j < 14) : f_X2_move 4 (nI i) (nI j) σ = some ((), pI (pI (pI σ 5 j (gI σ 5 i)) 6 j (gI σ 6 i)) 7 j (gI σ 7 i)) := by
  unfold f_X2_move
  simp (disch := first | assumption | omega) only [lB_eq, bd_eq, ck_tt, gI_pI, gI_pL, gI_pR, gL_pI, gL_pL, gL_pR, gR_pI, gR_pL, rf_0_0, rf_0_1, rf_0_2, rf_0_3, rf_0_4, rf_0_5, rf_0_6, rf_0_7, rf_0_8, rf_0_9, rf_0_10, rf_1_1, rf_1_2, rf_4_0, rf_4_1, rf_4_2, rf_4_3, rf_4_4, rf_4_5, rf_11_0, rf_11_1, rf_12_0, rf_12_1, rf_12_2, rf_12_6, rf_12_7, rf_12_8, rf_13_0, rf_13_1, rf_13_2, rf_13_3, rf_18_0, rf_18_1, rf_18_2, rf_18_3, rf_23_0, rf_23_1, rf_23_2, rf_23_3, rf_31_0, rf_33_0, rf_33_2, rf_33_3, rf_33_4, rf_37_0, rf_39_0, rf_39_1, rf_39_2, rf_39_3, rf_40_0, rf_40_1, rf_40_2, rf_40_3, rf_47_3, rf_49_3, rf_51_3, rf_53_3, rf_55_1, rf_55_7, rf_55_8, rf_55_9, rf_55_11, rf_55_13, rf_55_14, rf_55_15, rf_55_17, rf_55_18, rf_55_19, rf_55_27, rf_55_28, rf_55_29, rf_55_30, rf_55_31, rf_55_32, rf_55_33, rf_55_34, rf_55_35, rf_55_36, rf_55_38, rf_55_44, rf_55_45, rf_55_46, rf_55_47, aL_2, aL_3, aL_5, aL_6, aL_7, aL_8, aL_9, aL_10, aL_14, aL_15, aL_16, aL_17, aL_19, aL_20, aL_21, aL_22, aL_24, aL_25, aL_26, aL_27, aL_28, aL_29, aL_30, aL_32, aL_34, aL_35, aL_36, aL_38, aL_39, aL_40, aL_41, aL_42, aL_43, aL_44, aL_45, aL_46, aL_48, aL_50, aL_52, aL_54, aL_56, aL_57, aL_58, aL_59, aL_60, aL_61, aL_62, aL_63, aL_64, aL_65, aL_66, aL_67, aL_68, aL_69, aL_70, aL_71, aL_72, aL_73, aL_74, aL_75, aL_76, aL_77, aL_78, aL_79, aL_80, aL_81, inb_nI, lit32, nI_clamp, nI_1, nI_add, if_pos, if_neg, b01_0, b01_1, Nat.add_sub_cancel, if_true, if_false, not_true_eq_false, not_false_eq_true, true_and, and_true, false_and, and_false, pk_sub, b01_n0, b01_n1, bI_t, bI_f, ofNat_nI, ck_d, Int32.lt_iff_toInt_lt, Int32.le_iff_toInt_le, i32_eq, nI_toInt, bI_b01, bI_0, decide_eq_true_eq]
theorem s_X2_add {σ : Sg} {n a b l : Nat} {tm pt ls : Nat → Nat} (hr : RefI σ) (hN : N2 σ n tm pt ls) (hB : Bn n tm pt ls) (hn : n < 14) (ha : a ≤ 199) (hb : b ≤ 70) (hl : 1 ≤ l ∧ l ≤ 40) (hc : cntT n tm a < 3) : ∃ σ' nk fs, f_X2_add 4 (nI a) (nI b) (nI l) σ = some (nI (ipos tm pt a b n), σ') ∧ Ag SA (fun _ _ => False) σ σ' ∧ N2 σ' (n + 1) (insA tm (ipos tm pt a b n) a) (insA pt (ipos tm pt a b n) b) (insA ls (ipos tm pt a b n) l) ∧ P3 σ' (n + 1) (insA tm (ipos tm pt a b n) a) (insA ls (ipos tm pt a b n) l) nk fs := by
  have hBi := hB.ins hn ha hb hl hc
  have hp := ipos_le tm pt a b n
  have hg := fun i => ipos_gt (tm := tm) (pt := pt) (a := a) (b := b) (n := n) (i := i)
  have hst := ipos_st (tm := tm) (pt := pt) (a := a) (b := b) (n := n)
  generalize hpe : ipos tm pt a b n = p at hp hg hst hBi ⊢
  unfold f_X2_add
  rw [lB_eq, hN.1]
  refine fx_inv (I := fun t s => s.1 = nI (n - t) ∧ Ag SA (fun _ _ => False) σ s.2 ∧ gI s.2 4 6 = nI n ∧ (∀ i, i < n - t → gI s.2 5 i = nI (tm i) ∧ gI s.2 6 i = nI (pt i) ∧ gI s.2 7 i = nI (ls i)) ∧ (∀ i, n - t < i → i ≤ n → gI s.2 5 i = nI (tm (i - 1)) ∧ gI s.2 6 i = nI (pt (i - 1)) ∧ gI s.2 7 i = nI (ls (i - 1)))) (Q := fun e => ∃ σ' nk fs, e = some (nI p, σ') ∧ Ag SA (fun _ _ => False) σ σ' ∧ N2 σ' (n + 1) (insA tm p a) (insA pt p b) (insA ls p l) ∧ P3 σ' (n + 1) (insA tm p a) (insA ls p l) nk fs) (n := n - p) ?_ ?_ (n - p) 0 FU _ (by omega) (by unfold FU; omega) ⟨rfl, Ag.rf, hN.1, fun i hi => hN.2 i (by omega), fun i h1 h2 => by omega⟩
  · rintro t ⟨x, τ⟩ ht ⟨rfl, hA, h6, hlo, hhi⟩
    dsimp only at hA h6 hlo hhi
    have hr2 : RefI τ := hA.ref hr
    have hm : 0 < n - t := by omega
    have hcond := hg (n - t - 1) (by omega) (by omega)
    obtain ⟨c5, c6, c7⟩ := hlo (n - t - 1) (by omega)
    have b1 := hB.2.1 (n - t - 1) (by omega)
    left
    refine ⟨(nI (n - (t + 1)), pI (pI (pI τ 5 (n - t) (gI τ 5 (n - t - 1))) 6 (n - t) (gI τ 6 (n - t - 1))) 7 (n - t) (gI τ 7 (n - t - 1))), ⟨rfl, ((hA.pI (by unfold SA; omega)).pI (by unfold SA; omega)).pI (by unfold SA; omega), ?_, fun i hi => ?_, fun i hi1 hi2 => ?_⟩, fun rec => ?_⟩
    · simp only [gI_pI]; simp [h6]
    · have e : i ≠ n - t := by omega
      simp only [gI_pI]; simp [e]; exact hlo i (by omega)
    · simp only [gI_pI]
      by_cases e : i = n - t
      · subst e; simp; exact ⟨c5, c6, c7⟩
      · simp [e]; exact hhi i (by omega) hi2
    · have em : nI (n - t) - nI 1 = nI (n - t - 1) := pk_sub (by omega)
      have em2 : nI (n - t) + -nI 1 = nI (n - (t + 1)) := by rw [← Int32.sub_eq_add_neg, em]; rfl
      have hmv := s_X2_move (σ := τ) (i := n - t - 1) (j := n - t) hr2 (by omega) (by omega)
      unfold f_X2_add_L6 f_X2_add_L50
      dsimp only
      by_cases q1 : a < tm (n - t - 1)
      · simp (disch := first | assumption | omega) only [lB_eq, bd_eq, ck_tt, gI_pI, gI_pL, gI_pR, gL_pI, gL_pL, gL_pR, gR_pI, gR_pL, rf_0_0, rf_0_1, rf_0_2, rf_0_3, rf_0_4, rf_0_5, rf_0_6, rf_0_7, rf_0_8, rf_0_9, rf_0_10, rf_1_1, rf_1_2, rf_4_0, rf_4_1, rf_4_2, rf_4_3, rf_4_4, rf_4_5, rf_11_0, rf_11_1, rf_12_0, rf_12_1, rf_12_2, rf_12_6, rf_12_7, rf_12_8, rf_13_0, rf_13_1, rf_13_2, rf_13_3, rf_18_0, rf_18_1, rf_18_2, rf_18_3, rf_23_0, rf_23_1, rf_23_2, rf_23_3, rf_31_0, rf_33_0, rf_33_2, rf_33_3, rf_33_4, rf_37_0, rf_39_0, rf_39_1, rf_39_2, rf_39_3, rf_40_0, rf_40_1, rf_40_2, rf_40_3, rf_47_3, rf_49_3, rf_51_3, rf_53_3, rf_55_1, rf_55_7, rf_55_8, rf_55_9, rf_55_11, rf_55_13, rf_55_14, rf_55_15, rf_55_17, rf_55_18, rf_55_19, rf_55_27, rf_55_28, rf_55_29, rf_55_30, rf_55_31, rf_55_32, rf_55_33, rf_55_34, rf_55_35, rf_55_36, rf_55_38, rf_55_44, rf_55_45, rf_55_46, rf_55_47, aL_2, aL_3, aL_5, aL_6, aL_7, aL_8, aL_9, aL_10, aL_14, aL_15, aL_16, aL_17, aL_19, aL_20, aL_21, aL_22, aL_24, aL_25, aL_26, aL_27, aL_28, aL_29, aL_30, aL_32, aL_34, aL_35, aL_36, aL_38, aL_39, aL_40, aL_41, aL_42, aL_43, aL_44, aL_45, aL_46, aL_48, aL_50, aL_52, aL_54, aL_56, aL_57, aL_58, aL_59, aL_60, aL_61, aL_62, aL_63, aL_64, aL_65, aL_66, aL_67, aL_68, aL_69, aL_70, aL_71, aL_72, aL_73, aL_74, aL_75, aL_76, aL_77, aL_78, aL_79, aL_80, aL_81, inb_nI, lit32, nI_clamp, nI_1, nI_add, if_pos, if_neg, b01_0, b01_1, Nat.add_sub_cancel, if_true, if_false, not_true_eq_false, not_false_eq_true, true_and, and_true, false_and, and_false, pk_sub, b01_n0, b01_n1, bI_t, bI_f, ofNat_nI, ck_d, Int32.lt_iff_toInt_lt, Int32.le_iff_toInt_le, i32_eq, nI_toInt, bI_b01, bI_0, decide_eq_true_eq, em, em2, c5, c6, hmv]
      · simp (disch := first | assumption | omega) only [lB_eq, bd_eq, ck_tt, gI_pI, gI_pL, gI_pR, gL_pI, gL_pL, gL_pR, gR_pI, gR_pL, rf_0_0, rf_0_1, rf_0_2, rf_0_3, rf_0_4, rf_0_5, rf_0_6, rf_0_7, rf_0_8, rf_0_9, rf_0_10, rf_1_1, rf_1_2, rf_4_0, rf_4_1, rf_4_2, rf_4_3, rf_4_4, rf_4_5, rf_11_0, rf_11_1, rf_12_0, rf_12_1, rf_12_2, rf_12_6, rf_12_7, rf_12_8, rf_13_0, rf_13_1, rf_13_2, rf_13_3, rf_18_0, rf_18_1, rf_18_2, rf_18_3, rf_23_0, rf_23_1, rf_23_2, rf_23_3, rf_31_0, rf_33_0, rf_33_2, rf_33_3, rf_33_4, rf_37_0, rf_39_0, rf_39_1, rf_39_2, rf_39_3, rf_40_0, rf_40_1, rf_40_2, rf_40_3, rf_47_3, rf_49_3, rf_51_3, rf_53_3, rf_55_1, rf_55_7, rf_55_8, rf_55_9, rf_55_11, rf_55_13, rf_55_14, rf_55_15, rf_55_17, rf_55_18, rf_55_19, rf_55_27, rf_55_28, rf_55_29, rf_55_30, rf_55_31, rf_55_32, rf_55_33, rf_55_34, rf_55_35, rf_55_36, rf_55_38, rf_55_44, rf_55_45, rf_55_46, rf_55_47, aL_2, aL_3, aL_5, aL_6, aL_7, aL_8, aL_9, aL_10, aL_14, aL_15, aL_16, aL_17, aL_19, aL_20, aL_21, aL_22, aL_24, aL_25, aL_26, aL_27, aL_28, aL_29, aL_30, aL_32, aL_34, aL_35, aL_36, aL_38, aL_39, aL_40, aL_41, aL_42, aL_43, aL_44, aL_45, aL_46, aL_48, aL_50, aL_52, aL_54, aL_56, aL_57, aL_58, aL_59, aL_60, aL_61, aL_62, aL_63, aL_64, aL_65, aL_66, aL_67, aL_68, aL_69, aL_70, aL_71, aL_72, aL_73, aL_74, aL_75, aL_76, aL_77, aL_78, aL_79, aL_80, aL_81, inb_nI, lit32, nI_clamp, nI_1, nI_add, if_pos, if_neg, b01_0, b01_1, Nat.add_sub_cancel, if_true, if_false, not_true_eq_false, not_false_eq_true, true_and, and_true, false_and, and_false, pk_sub, b01_n0, b01_n1, bI_t, bI_f, ofNat_nI, ck_d, Int32.lt_iff_toInt_lt, Int32.le_iff_toInt_le, i32_eq, nI_toInt, bI_b01, bI_0, decide_eq_true_eq, em, em2, c5, c6, hmv]
  · rintro ⟨x, τ⟩ ⟨rfl, hA, h6, hlo, hhi⟩
    dsimp only at hA h6 hlo hhi
    rw [show n - (n - p) = p by omega] at hlo hhi ⊢
    have hr2 : RefI τ := hA.ref hr
    have hA2 : Ag SA (fun _ _ => False) σ (pI (pI (pI (pI τ 5 p (nI a)) 6 p (nI b)) 7 p (nI l)) 4 6 (nI (n + 1))) := (((hA.pI (by unfold SA; omega)).pI (by unfold SA; omega)).pI (by unfold SA; omega)).pI (by unfold SA; omega)
    have hN2 : N2 (pI (pI (pI (pI τ 5 p (nI a)) 6 p (nI b)) 7 p (nI l)) 4 6 (nI (n + 1))) (n + 1) (insA tm p a) (insA pt p b) (insA ls p l) := by
      refine ⟨by simp only [gI_pI]; simp, fun i hi => ?_⟩
      simp only [gI_pI]
      rcases Nat.lt_trichotomy i p with e | e | e
      · have : i ≠ p := by omega
        rw [insA_lt e, insA_lt e, insA_lt e]; simp [this]; exact hlo i e
      · subst e; rw [insA_eq, insA_eq, insA_eq]; simp
      · have : i ≠ p := by omega
        rw [insA_gt e, insA_gt e, insA_gt e]; simp [this]; exact hhi i e (by omega)
    obtain ⟨σ', nk, fs, e1, e2, e3⟩ := s_X2_findChords (hA2.ref hr) hN2 hBi
    refine ⟨some (nI p, σ'), ⟨σ', nk, fs, rfl, hA2.tr (e2.mono (fun p k z => by unfold S3 at z; unfold SA; omega) (fun _ _ z => z)), hN2.ag e2 (by unfold S3; omega) (fun p k h1 h2 z => by unfold S3 at z; omega), e3⟩, fun rec => ?_⟩
    unfold f_X2_add_L6 f_X2_add_L66
    dsimp only
    by_cases hp0 : p = 0
    · subst hp0
      simp (disch := first | assumption | omega) only [lB_eq, bd_eq, ck_tt, gI_pI, gI_pL, gI_pR, gL_pI, gL_pL, gL_pR, gR_pI, gR_pL, rf_0_0, rf_0_1, rf_0_2, rf_0_3, rf_0_4, rf_0_5, rf_0_6, rf_0_7, rf_0_8, rf_0_9, rf_0_10, rf_1_1, rf_1_2, rf_4_0, rf_4_1, rf_4_2, rf_4_3, rf_4_4, rf_4_5, rf_11_0, rf_11_1, rf_12_0, rf_12_1, rf_12_2, rf_12_6, rf_12_7, rf_12_8, rf_13_0, rf_13_1, rf_13_2, rf_13_3, rf_18_0, rf_18_1, rf_18_2, rf_18_3, rf_23_0, rf_23_1, rf_23_2, rf_23_3, rf_31_0, rf_33_0, rf_33_2, rf_33_3, rf_33_4, rf_37_0, rf_39_0, rf_39_1, rf_39_2, rf_39_3, rf_40_0, rf_40_1, rf_40_2, rf_40_3, rf_47_3, rf_49_3, rf_51_3, rf_53_3, rf_55_1, rf_55_7, rf_55_8, rf_55_9, rf_55_11, rf_55_13, rf_55_14, rf_55_15, rf_55_17, rf_55_18, rf_55_19, rf_55_27, rf_55_28, rf_55_29, rf_55_30, rf_55_31, rf_55_32, rf_55_33, rf_55_34, rf_55_35, rf_55_36, rf_55_38, rf_55_44, rf_55_45, rf_55_46, rf_55_47, aL_2, aL_3, aL_5, aL_6, aL_7, aL_8, aL_9, aL_10, aL_14, aL_15, aL_16, aL_17, aL_19, aL_20, aL_21, aL_22, aL_24, aL_25, aL_26, aL_27, aL_28, aL_29, aL_30, aL_32, aL_34, aL_35, aL_36, aL_38, aL_39, aL_40, aL_41, aL_42, aL_43, aL_44, aL_45, aL_46, aL_48, aL_50, aL_52, aL_54, aL_56, aL_57, aL_58, aL_59, aL_60, aL_61, aL_62, aL_63, aL_64, aL_65, aL_66, aL_67, aL_68, aL_69, aL_70, aL_71, aL_72, aL_73, aL_74, aL_75, aL_76, aL_77, aL_78, aL_79, aL_80, aL_81, inb_nI, lit32, nI_clamp, nI_1, nI_add, if_pos, if_neg, b01_0, b01_1, Nat.add_sub_cancel, if_true, if_false, not_true_eq_false, not_false_eq_true, true_and, and_true, false_and, and_false, pk_sub, b01_n0, b01_n1, bI_t, bI_f, ofNat_nI, ck_d, Int32.lt_iff_toInt_lt, Int32.le_iff_toInt_le, i32_eq, nI_toInt, bI_b01, bI_0, decide_eq_true_eq, h6, e1]
    · have hcond := hst (by omega)
      obtain ⟨c5, c6, c7⟩ := hlo (p - 1) (by omega)
      have b1 := hB.2.1 (p - 1) (by omega)
      by_cases q1 : tm (p - 1) = a
      · simp (disch := first | assumption | omega) only [lB_eq, bd_eq, ck_tt, gI_pI, gI_pL, gI_pR, gL_pI, gL_pL, gL_pR, gR_pI, gR_pL, rf_0_0, rf_0_1, rf_0_2, rf_0_3, rf_0_4, rf_0_5, rf_0_6, rf_0_7, rf_0_8, rf_0_9, rf_0_10, rf_1_1, rf_1_2, rf_4_0, rf_4_1, rf_4_2, rf_4_3, rf_4_4, rf_4_5, rf_11_0, rf_11_1, rf_12_0, rf_12_1, rf_12_2, rf_12_6, rf_12_7, rf_12_8, rf_13_0, rf_13_1, rf_13_2, rf_13_3, rf_18_0, rf_18_1, rf_18_2, rf_18_3, rf_23_0, rf_23_1, rf_23_2, rf_23_3, rf_31_0, rf_33_0, rf_33_2, rf_33_3, rf_33_4, rf_37_0, rf_39_0, rf_39_1, rf_39_2, rf_39_3, rf_40_0, rf_40_1, rf_40_2, rf_40_3, rf_47_3, rf_49_3, rf_51_3, rf_53_3, rf_55_1, rf_55_7, rf_55_8, rf_55_9, rf_55_11, rf_55_13, rf_55_14, rf_55_15, rf_55_17, rf_55_18, rf_55_19, rf_55_27, rf_55_28, rf_55_29, rf_55_30, rf_55_31, rf_55_32, rf_55_33, rf_55_34, rf_55_35, rf_55_36, rf_55_38, rf_55_44, rf_55_45, rf_55_46, rf_55_47, aL_2, aL_3, aL_5, aL_6, aL_7, aL_8, aL_9, aL_10, aL_14, aL_15, aL_16, aL_17, aL_19, aL_20, aL_21, aL_22, aL_24, aL_25, aL_26, aL_27, aL_28, aL_29, aL_30, aL_32, aL_34, aL_35, aL_36, aL_38, aL_39, aL_40, aL_41, aL_42, aL_43, aL_44, aL_45, aL_46, aL_48, aL_50, aL_52, aL_54, aL_56, aL_57, aL_58, aL_59, aL_60, aL_61, aL_62, aL_63, aL_64, aL_65, aL_66, aL_67, aL_68, aL_69, aL_70, aL_71, aL_72, aL_73, aL_74, aL_75, aL_76, aL_77, aL_78, aL_79, aL_80, aL_81, inb_nI, lit32, nI_clamp, nI_1, nI_add, if_pos, if_neg, b01_0, b01_1, Nat.add_sub_cancel, if_true, if_false, not_true_eq_false, not_false_eq_true, true_and, and_true, false_and, and_false, pk_sub, b01_n0, b01_n1, bI_t, bI_f, ofNat_nI, ck_d, Int32.lt_iff_toInt_lt, Int32.le_iff_toInt_le, i32_eq, nI_toInt, bI_b01, bI_0, decide_eq_true_eq, c5, c6, h6, e1]
      · simp (disch := first | assumption | omega) only [lB_eq, bd_eq, ck_tt, gI_pI, gI_pL, gI_pR, gL_pI, gL_pL, gL_pR, gR_pI, gR_pL, rf_0_0, rf_0_1, rf_0_2, rf_0_3, rf_0_4, rf_0_5, rf_0_6, rf_0_7, rf_0_8, rf_0_9, rf_0_10, rf_1_1, rf_1_2, rf_4_0, rf_4_1, rf_4_2, rf_4_3, rf_4_4, rf_4_5, rf_11_0, rf_11_1, rf_12_0, rf_12_1, rf_12_2, rf_12_6, rf_12_7, rf_12_8, rf_13_0, rf_13_1, rf_13_2, rf_13_3, rf_18_0, rf_18_1, rf_18_2, rf_18_3, rf_23_0, rf_23_1, rf_23_2, rf_23_3, rf_31_0, rf_33_0, rf_33_2, rf_33_3, rf_33_4, rf_37_0, rf_39_0, rf_39_1, rf_39_2, rf_39_3, rf_40_0, rf_40_1, rf_40_2, rf_40_3, rf_47_3, rf_49_3, rf_51_3, rf_53_3, rf_55_1, rf_55_7, rf_55_8, rf_55_9, rf_55_11, rf_55_13, rf_55_14, rf_55_15, rf_55_17, rf_55_18, rf_55_19, rf_55_27, rf_55_28, rf_55_29, rf_55_30, rf_55_31, rf_55_32, rf_55_33, rf_55_34, rf_55_35, rf_55_36, rf_55_38, rf_55_44, rf_55_45, rf_55_46, rf_55_47, aL_2, aL_3, aL_5, aL_6, aL_7, aL_8, aL_9, aL_10, aL_14, aL_15, aL_16, aL_17, aL_19, aL_20, aL_21, aL_22, aL_24, aL_25, aL_26, aL_27, aL_28, aL_29, aL_30, aL_32, aL_34, aL_35, aL_36, aL_38, aL_39, aL_40, aL_41, aL_42, aL_43, aL_44, aL_45, aL_46, aL_48, aL_50, aL_52, aL_54, aL_56, aL_57, aL_58, aL_59, aL_60, aL_61, aL_62, aL_63, aL_64, aL_65, aL_66, aL_67, aL_68, aL_69, aL_70, aL_71, aL_72, aL_73, aL_74, aL_75, aL_76, aL_77, aL_78, aL_79, aL_80, aL_81, inb_nI, lit32, nI_clamp, nI_1, nI_add, if_pos, if_neg, b01_0, b01_1, Nat.add_sub_cancel, if_true, if_false, not_true_eq_false, not_false_eq_true, true_and, and_true, false_and, and_false, pk_sub, b01_n0, b01_n1, bI_t, bI_f, ofNat_nI, ck_d, Int32.lt_iff_toInt_lt, Int32.le_iff_toInt_le, i32_eq, nI_toInt, bI_b01, bI_0, decide_eq_true_eq, c5, c6, h6, e1]
