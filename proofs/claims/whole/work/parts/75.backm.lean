/-! back: both -/
def SB (p k : Nat) : Prop := SA p k ∨ p = 46
theorem s_X8_addAsRead {σ : Sg} {c q m : Nat} {o g tm pt ls d : Nat → Nat} {N : Nat → Nat × Nat × Nat} (hr : RefI σ) (b1 : Bl c o g) (ho : ∀ j, j < 5 → gI σ 2 j = nI (o j)) (hF : FdC σ q N) (hm : m < q) (hm14 : m < 14) (hN2 : N2 σ m tm pt ls) (hB : Bn m tm pt ls) (h46 : ∀ j, j < m → gI σ 46 j = nI (d j)) (n1 : (N m).1 ≤ 199) (n2 : (N m).2.1 < c) (n3 : (N m).2.2 ≤ g 0) (n4 : cntT m tm (N m).1 < 3) : ∃ σ' nk fs, f_X8_addAsRead 0 (nI m) σ = some ((), σ') ∧ Ag SB (fun _ _ => False) σ σ' ∧ N2 σ' (m + 1) (insA tm (ipos tm pt (N m).1 (o (N m).2.1 + (N m).2.2) m) (N m).1) (insA pt (ipos tm pt (N m).1 (o (N m).2.1 + (N m).2.2) m) (o (N m).2.1 + (N m).2.2)) (insA ls (ipos tm pt (N m).1 (o (N m).2.1 + (N m).2.2) m) 1) ∧ P3 σ' (m + 1) (insA tm (ipos tm pt (N m).1 (o (N m).2.1 + (N m).2.2) m) (N m).1) (insA ls (ipos tm pt (N m).1 (o (N m).2.1 + (N m).2.2) m) 1) nk fs ∧ ∀ j, j < m + 1 → gI σ' 46 j = nI (insA d (ipos tm pt (N m).1 (o (N m).2.1 + (N m).2.2) m) (N m).2.1 j) := by
  have hc5 := b1.2.1
  have g9 := b1.2.2.2.2.1
  have bo := b1.2.2.1 (N m).2.1 (by omega)
  obtain ⟨e34, e35, e36⟩ := hF.2 m hm hm14
  have eo := ho (N m).2.1 (by omega)
  obtain ⟨σ1, nk, fs, e1, a1, w1, w2⟩ := s_X2_add (a := (N m).1) (b := o (N m).2.1 + (N m).2.2) (l := 1) hr hN2 hB hm14 n1 (by omega) (by omega) n4
  have hp := ipos_le tm pt (N m).1 (o (N m).2.1 + (N m).2.2) m
  generalize ipos tm pt (N m).1 (o (N m).2.1 + (N m).2.2) m = p at *
  have hr1 : RefI σ1 := a1.ref hr
  have loop : ∃ σ', fx (f_X8_addAsRead_L58 0 (nI (N m).2.1) (nI p)) FU (nI m, σ1) = some ((), σ') ∧ Ag (fun p _ => p = 46) (fun _ _ => False) σ1 σ' ∧ ∀ j, j < m + 1 → gI σ' 46 j = nI (insA d p (N m).2.1 j) := by
    refine fx_inv2 (I := fun e s => ∃ υ, s = (nI (m - e), υ) ∧ Ag (fun p _ => p = 46) (fun _ _ => False) σ1 υ ∧ (∀ j, m - e < j → j ≤ m → gI υ 46 j = nI (d (j - 1))) ∧ ∀ j, j ≤ m - e → j < m → gI υ 46 j = nI (d j)) (Q := fun e => ∃ σ', e = some ((), σ') ∧ Ag (fun p _ => p = 46) (fun _ _ => False) σ1 σ' ∧ ∀ j, j < m + 1 → gI σ' 46 j = nI (insA d p (N m).2.1 j)) (n := m - p) ?_ ?_ (m - p) 0 FU _ (by omega) (by unfold FU; omega) ⟨σ1, rfl, Ag.rf, fun j y1 y2 => by omega, fun j _ hj => (a1.2.1 46 j (by unfold SA; omega)).trans (h46 j hj)⟩
    · rintro e s he ⟨υ, rfl, hA, k1, k2⟩ rec
      have hr2 : RefI υ := hA.ref hr1
      obtain ⟨r, hr'⟩ : ∃ r, m - e = r + 1 := ⟨m - e - 1, by omega⟩
      have v := k2 r (by omega) (by omega)
      left
      refine ⟨(nI (m - (e + 1)), pI υ 46 (r + 1) (nI (d r))), ⟨_, rfl, hA.pI rfl, fun j y1 y2 => ?_, fun j y1 y2 => ?_⟩, ?_⟩
      · rw [gI_pI]
        by_cases ej : j = r + 1
        · subst ej; rw [if_pos ⟨rfl, rfl⟩, show r + 1 - 1 = r by omega]
        · rw [if_neg (by omega)]; exact k1 j (by omega) y2
      · rw [gI_pI, if_neg (by omega)]; exact k2 j (by omega) y2
      · unfold f_X8_addAsRead_L58
        dsimp only
        rw [hr', show m - (e + 1) = r by omega, if_neg (by rw [Int32.le_iff_toInt_le, nI_toInt (by omega), nI_toInt (by omega)]; omega), rf_0_10 hr2, aL_46, show nI (r + 1) - (1 : Int32) = nI r from pk_sub (a := r + 1) (b := 1) (by omega), inb_nI (by omega), ck_d (by omega), inb_nI (by omega), ck_d (by omega), lB_eq, nI_clamp (by omega), nI_clamp (by omega), v, lB_eq, show nI (r + 1) + (-1 : Int32) = nI r from ((Int32.sub_eq_add_neg ..).symm.trans (pk_sub (a := r + 1) (b := 1) (by omega)))]
    · rintro s ⟨υ, rfl, hA, k1, k2⟩ rec
      have hr2 : RefI υ := hA.ref hr1
      have ep : m - (m - p) = p := by omega
      rw [ep] at k1 k2
      refine ⟨some ((), pI υ 46 p (nI (N m).2.1)), ⟨_, rfl, hA.pI rfl, fun j hj => ?_⟩, ?_⟩
      · rw [gI_pI]
        rcases Nat.lt_trichotomy j p with y | y | y
        · rw [if_neg (by omega), insA_lt y]; exact k2 j (by omega) (by omega)
        · rw [if_pos ⟨rfl, y⟩, y, insA_eq]
        · rw [if_neg (by omega), insA_gt y]; exact k1 j y (by omega)
      · unfold f_X8_addAsRead_L58
        dsimp only
        rw [ep, if_pos (by rw [Int32.le_iff_toInt_le]; exact Int.le_refl _), rf_0_10 hr2, aL_46, inb_nI (by omega), ck_d (by omega), lB_eq, nI_clamp (by omega)]
  obtain ⟨σ', e2, a2, l2⟩ := loop
  refine ⟨σ', nk, fs, ?_, (a1.mono (fun p k y => Or.inl y) (fun _ _ y => y)).tr (a2.mono (fun p k y => Or.inr y) (fun _ _ y => y)), w1.ag a2 (by omega) (fun p k h1 h2 y => by omega), w2.fr (fun p k y => a2.2.1 p k (by unfold S3 at y; omega)), l2⟩
  unfold f_X8_addAsRead
  have e1' : f_X2_add 4 (nI (N m).1) (nI (o (N m).2.1) + nI (N m).2.2) 1 σ = some (nI p, σ1) := by rw [nI_add]; exact e1
  rw [rf_0_5 hr, rf_33_3 hr, aL_35, inb_nI (by omega), ck_d (by omega), lB_eq, nI_clamp (by omega), e35, rf_33_2 hr, aL_34, inb_nI (by omega), ck_d (by omega), rf_0_0 hr, rf_1_1 hr, aL_2, inb_nI (by omega), ck_d (by omega), rf_33_4 hr, aL_36, inb_nI (by omega), ck_d (by omega), rf_0_1 hr, e34, nI_clamp (by omega), eo, e36, e1', bd_eq, rf_0_1 hr1, w1.1, lB_eq, show nI (m + 1) - (1 : Int32) = nI m from pk_sub (a := m + 1) (b := 1) (by omega)]
  exact e2
/-- the class, from no notes on -/
theorem s_X8_backLoop {σ : Sg} {c q nk0 : Nat} {o g fs0 : Nat → Nat} {N : Nat → Nat × Nat × Nat} (hr : RefI σ) (b1 : Bl c o g) (ho : ∀ j, j < 5 → gI σ 2 j = nI (o j)) (hF : FdC σ q N) (hq : q ≤ 14) (hN : ∀ m, m < q → (N m).1 ≤ 199 ∧ (N m).2.1 < c ∧ (N m).2.2 ≤ g 0 ∧ cntT m (tmN N) (N m).1 < 3) (hN0 : N2 σ 0 (fun _ => 0) (fun _ => 0) (fun _ => 0)) (h30 : P3 σ 0 (fun _ => 0) (fun _ => 0) nk0 fs0) : ∃ σ' nk fs, fx (f_X8_back_L46 0) FU (nI 0, σ) = some (nI q, pI σ' 0 11 1) ∧ Ag SB (fun _ _ => False) σ σ' ∧ N2 σ' q (bkS o N q).1 (bkS o N q).2.1 (bkS o N q).2.2.1 ∧ P3 σ' q (bkS o N q).1 (bkS o N q).2.2.1 nk fs ∧ ∀ j, j < q → gI σ' 46 j = nI ((bkS o N q).2.2.2 j) := by
  refine fx_inv2 (I := fun m s => ∃ υ nk fs, s = (nI m, υ) ∧ Ag SB (fun _ _ => False) σ υ ∧ N2 υ m (bkS o N m).1 (bkS o N m).2.1 (bkS o N m).2.2.1 ∧ P3 υ m (bkS o N m).1 (bkS o N m).2.2.1 nk fs ∧ ∀ j, j < m → gI υ 46 j = nI ((bkS o N m).2.2.2 j)) (Q := fun e => ∃ σ' nk fs, e = some (nI q, pI σ' 0 11 1) ∧ Ag SB (fun _ _ => False) σ σ' ∧ N2 σ' q (bkS o N q).1 (bkS o N q).2.1 (bkS o N q).2.2.1 ∧ P3 σ' q (bkS o N q).1 (bkS o N q).2.2.1 nk fs ∧ ∀ j, j < q → gI σ' 46 j = nI ((bkS o N q).2.2.2 j)) (n := q) ?_ ?_ q 0 FU _ (by omega) (by unfold FU; omega) ⟨σ, nk0, fs0, rfl, Ag.rf, hN0, h30, fun j hj => by omega⟩
  · rintro m s hm ⟨υ, nk, fs, rfl, hA, w1, w2, w3⟩ rec
    have hr2 : RefI υ := hA.ref hr
    obtain ⟨n1, n2, n3, n4⟩ := hN m hm
    have hF2 : FdC υ q N := ⟨(hA.2.1 33 1 (by unfold SB SA; omega)).trans hF.1, fun i a1 a2 => by rw [hA.2.1 34 i (by unfold SB SA; omega), hA.2.1 35 i (by unfold SB SA; omega), hA.2.1 36 i (by unfold SB SA; omega)]; exact hF.2 i a1 a2⟩
    obtain ⟨υ', nk', fs', e1, a1, v1, v2, v3⟩ := s_X8_addAsRead hr2 b1 (fun j hj => (hA.2.1 2 j (by unfold SB SA; omega)).trans (ho j hj)) hF2 hm (by omega) w1 (bkS_ok b1 hq hN m (by omega)).1 w3 n1 n2 n3 (by rw [bkS_cnt]; exact n4)
    left
    refine ⟨(nI (m + 1), υ'), ⟨υ', nk', fs', rfl, hA.tr a1, v1, v2, v3⟩, ?_⟩
    unfold f_X8_back_L46
    dsimp only
    rw [rf_0_5 hr2, hF2.1, if_neg (by rw [Int32.le_iff_toInt_le, nI_toInt (by omega), nI_toInt (by omega)]; omega), e1, bd_eq, lB_eq, nI_1]
  · rintro s ⟨υ, nk, fs, rfl, hA, w1, w2, w3⟩ rec
    have hr2 : RefI υ := hA.ref hr
    have hr3 : RefI (pI υ 0 11 1) := hr2
    have h33 : gI υ 33 1 = nI q := (hA.2.1 33 1 (by unfold SB SA; omega)).trans hF.1
    have g46 : gI (pI υ 0 11 1) 4 6 = nI q := by rw [gI_pI, if_neg (by omega)]; exact w1.1
    refine ⟨some (nI q, pI υ 0 11 1), ⟨υ, nk, fs, rfl, hA, w1, w2, w3⟩, ?_⟩
    unfold f_X8_back_L46
    dsimp only
    rw [rf_0_5 hr2, h33, if_pos (by rw [Int32.le_iff_toInt_le]; exact Int.le_refl _), ck_of b01_1, lB_eq, rf_0_1 hr3, g46]
theorem s_lettersTyped {σ : Sg} {t : Nat} {tb : Nat → Nat} (hr : RefI σ) (p6 : P6 σ t tb) : f_X9_lettersTyped 55 σ = some (nI (cntB (fun j => decide (97 ≤ tb j)) t), σ) := by
  obtain ⟨ht, _, h39, htb⟩ := p6
  unfold f_X9_lettersTyped
  refine fx_for0 (fun i => (nI (cntB (fun j => decide (97 ≤ tb j)) i), nI i)) rfl (n := t) (fun i hi rec => ?_) (fun rec => ?_) (by unfold FU; omega)
  · obtain ⟨b1, _, b2⟩ := htb i hi
    unfold f_X9_lettersTyped_L4 f_X9_lettersTyped_L29
    dsimp only
    by_cases q : 97 ≤ tb i
    · have e2 := cntB_t (P := fun j => decide (97 ≤ tb j)) (m := i) (decide_eq_true q)
      simp (disch := first | assumption | omega) only [↓lB_eq, ↓bd_m, ck_tt, gI_pI, gI_pL, gI_pR, gL_pI, gL_pL, gL_pR, gR_pI, gR_pL, rf_0_0, rf_0_1, rf_0_2, rf_0_3, rf_0_4, rf_0_5, rf_0_6, rf_0_7, rf_0_8, rf_0_9, rf_0_10, rf_1_1, rf_1_2, rf_4_0, rf_4_1, rf_4_2, rf_4_3, rf_4_4, rf_4_5, rf_11_0, rf_11_1, rf_12_0, rf_12_1, rf_12_2, rf_12_6, rf_12_7, rf_12_8, rf_13_0, rf_13_1, rf_13_2, rf_13_3, rf_18_0, rf_18_1, rf_18_2, rf_18_3, rf_23_0, rf_23_1, rf_23_2, rf_23_3, rf_31_0, rf_33_0, rf_33_2, rf_33_3, rf_33_4, rf_37_0, rf_39_0, rf_39_1, rf_39_2, rf_39_3, rf_40_0, rf_40_1, rf_40_2, rf_40_3, rf_47_3, rf_49_3, rf_51_3, rf_53_3, rf_55_1, rf_55_7, rf_55_8, rf_55_9, rf_55_11, rf_55_13, rf_55_14, rf_55_15, rf_55_17, rf_55_18, rf_55_19, rf_55_27, rf_55_28, rf_55_29, rf_55_30, rf_55_31, rf_55_32, rf_55_33, rf_55_34, rf_55_35, rf_55_36, rf_55_38, rf_55_44, rf_55_45, rf_55_46, rf_55_47, aL_2, aL_3, aL_5, aL_6, aL_7, aL_8, aL_9, aL_10, aL_14, aL_15, aL_16, aL_17, aL_19, aL_20, aL_21, aL_22, aL_24, aL_25, aL_26, aL_27, aL_28, aL_29, aL_30, aL_32, aL_34, aL_35, aL_36, aL_38, aL_39, aL_40, aL_41, aL_42, aL_43, aL_44, aL_45, aL_46, aL_48, aL_50, aL_52, aL_54, aL_56, aL_57, aL_58, aL_59, aL_60, aL_61, aL_62, aL_63, aL_64, aL_65, aL_66, aL_67, aL_68, aL_69, aL_70, aL_71, aL_72, aL_73, aL_74, aL_75, aL_76, aL_77, aL_78, aL_79, aL_80, aL_81, inb_nI, lit32, nI_clamp, nI_1, nI_add, if_pos, if_neg, b01_0, b01_1, Nat.add_sub_cancel, if_true, if_false, not_true_eq_false, not_false_eq_true, true_and, and_true, false_and, and_false, pk_sub, b01_n0, b01_n1, bI_t, bI_f, ofNat_nI, ck_d, Int32.lt_iff_toInt_lt, Int32.le_iff_toInt_le, i32_eq, nI_toInt, bI_b01, bI_0, decide_eq_true_eq, bI_tt, bI_ff, nI_prd, ↓reduceIte, iltT, iltF, ileT, ileF, ieqT, ieqF, dcT, dcF, or_true, or_false, true_or, false_or, h39, b2, e2]
    · have e2 := cntB_f (P := fun j => decide (97 ≤ tb j)) (m := i) (by rw [decide_eq_false q]; decide)
      simp (disch := first | assumption | omega) only [↓lB_eq, ↓bd_m, ck_tt, gI_pI, gI_pL, gI_pR, gL_pI, gL_pL, gL_pR, gR_pI, gR_pL, rf_0_0, rf_0_1, rf_0_2, rf_0_3, rf_0_4, rf_0_5, rf_0_6, rf_0_7, rf_0_8, rf_0_9, rf_0_10, rf_1_1, rf_1_2, rf_4_0, rf_4_1, rf_4_2, rf_4_3, rf_4_4, rf_4_5, rf_11_0, rf_11_1, rf_12_0, rf_12_1, rf_12_2, rf_12_6, rf_12_7, rf_12_8, rf_13_0, rf_13_1, rf_13_2, rf_13_3, rf_18_0, rf_18_1, rf_18_2, rf_18_3, rf_23_0, rf_23_1, rf_23_2, rf_23_3, rf_31_0, rf_33_0, rf_33_2, rf_33_3, rf_33_4, rf_37_0, rf_39_0, rf_39_1, rf_39_2, rf_39_3, rf_40_0, rf_40_1, rf_40_2, rf_40_3, rf_47_3, rf_49_3, rf_51_3, rf_53_3, rf_55_1, rf_55_7, rf_55_8, rf_55_9, rf_55_11, rf_55_13, rf_55_14, rf_55_15, rf_55_17, rf_55_18, rf_55_19, rf_55_27, rf_55_28, rf_55_29, rf_55_30, rf_55_31, rf_55_32, rf_55_33, rf_55_34, rf_55_35, rf_55_36, rf_55_38, rf_55_44, rf_55_45, rf_55_46, rf_55_47, aL_2, aL_3, aL_5, aL_6, aL_7, aL_8, aL_9, aL_10, aL_14, aL_15, aL_16, aL_17, aL_19, aL_20, aL_21, aL_22, aL_24, aL_25, aL_26, aL_27, aL_28, aL_29, aL_30, aL_32, aL_34, aL_35, aL_36, aL_38, aL_39, aL_40, aL_41, aL_42, aL_43, aL_44, aL_45, aL_46, aL_48, aL_50, aL_52, aL_54, aL_56, aL_57, aL_58, aL_59, aL_60, aL_61, aL_62, aL_63, aL_64, aL_65, aL_66, aL_67, aL_68, aL_69, aL_70, aL_71, aL_72, aL_73, aL_74, aL_75, aL_76, aL_77, aL_78, aL_79, aL_80, aL_81, inb_nI, lit32, nI_clamp, nI_1, nI_add, if_pos, if_neg, b01_0, b01_1, Nat.add_sub_cancel, if_true, if_false, not_true_eq_false, not_false_eq_true, true_and, and_true, false_and, and_false, pk_sub, b01_n0, b01_n1, bI_t, bI_f, ofNat_nI, ck_d, Int32.lt_iff_toInt_lt, Int32.le_iff_toInt_le, i32_eq, nI_toInt, bI_b01, bI_0, decide_eq_true_eq, bI_tt, bI_ff, nI_prd, ↓reduceIte, iltT, iltF, ileT, ileF, ieqT, ieqF, dcT, dcF, or_true, or_false, true_or, false_or, h39, b2, e2]
  · unfold f_X9_lettersTyped_L4
    dsimp only
    simp (disch := first | assumption | omega) only [↓lB_eq, ↓bd_m, ck_tt, gI_pI, gI_pL, gI_pR, gL_pI, gL_pL, gL_pR, gR_pI, gR_pL, rf_0_0, rf_0_1, rf_0_2, rf_0_3, rf_0_4, rf_0_5, rf_0_6, rf_0_7, rf_0_8, rf_0_9, rf_0_10, rf_1_1, rf_1_2, rf_4_0, rf_4_1, rf_4_2, rf_4_3, rf_4_4, rf_4_5, rf_11_0, rf_11_1, rf_12_0, rf_12_1, rf_12_2, rf_12_6, rf_12_7, rf_12_8, rf_13_0, rf_13_1, rf_13_2, rf_13_3, rf_18_0, rf_18_1, rf_18_2, rf_18_3, rf_23_0, rf_23_1, rf_23_2, rf_23_3, rf_31_0, rf_33_0, rf_33_2, rf_33_3, rf_33_4, rf_37_0, rf_39_0, rf_39_1, rf_39_2, rf_39_3, rf_40_0, rf_40_1, rf_40_2, rf_40_3, rf_47_3, rf_49_3, rf_51_3, rf_53_3, rf_55_1, rf_55_7, rf_55_8, rf_55_9, rf_55_11, rf_55_13, rf_55_14, rf_55_15, rf_55_17, rf_55_18, rf_55_19, rf_55_27, rf_55_28, rf_55_29, rf_55_30, rf_55_31, rf_55_32, rf_55_33, rf_55_34, rf_55_35, rf_55_36, rf_55_38, rf_55_44, rf_55_45, rf_55_46, rf_55_47, aL_2, aL_3, aL_5, aL_6, aL_7, aL_8, aL_9, aL_10, aL_14, aL_15, aL_16, aL_17, aL_19, aL_20, aL_21, aL_22, aL_24, aL_25, aL_26, aL_27, aL_28, aL_29, aL_30, aL_32, aL_34, aL_35, aL_36, aL_38, aL_39, aL_40, aL_41, aL_42, aL_43, aL_44, aL_45, aL_46, aL_48, aL_50, aL_52, aL_54, aL_56, aL_57, aL_58, aL_59, aL_60, aL_61, aL_62, aL_63, aL_64, aL_65, aL_66, aL_67, aL_68, aL_69, aL_70, aL_71, aL_72, aL_73, aL_74, aL_75, aL_76, aL_77, aL_78, aL_79, aL_80, aL_81, inb_nI, lit32, nI_clamp, nI_1, nI_add, if_pos, if_neg, b01_0, b01_1, Nat.add_sub_cancel, if_true, if_false, not_true_eq_false, not_false_eq_true, true_and, and_true, false_and, and_false, pk_sub, b01_n0, b01_n1, bI_t, bI_f, ofNat_nI, ck_d, Int32.lt_iff_toInt_lt, Int32.le_iff_toInt_le, i32_eq, nI_toInt, bI_b01, bI_0, decide_eq_true_eq, bI_tt, bI_ff, nI_prd, ↓reduceIte, iltT, iltF, ileT, ileF, ieqT, ieqF, dcT, dcF, or_true, or_false, true_or, false_or, h39]
/-- the reference, from no notes on -/
theorem s_X9_backLoop {σ : Sg} {c t : Nat} {o g tb : Nat → Nat} {xf : PS × Nat × (Nat → Nat × Nat × Nat)} (hr : RefI σ) (b1 : Bl c o g) (ho : ∀ j, j < 5 → gI σ 56 j = nI (o j)) (p6 : P6 σ t tb) (hx : prs c (g 0) tb t = some xf) (hq : xf.2.1 ≤ 14) (hN0 : gI σ 55 10 = nI 0) : ∃ σ', fx (f_X9_back_L38 55) FU (nI 0, -1, nI 0, σ) = some (nI xf.2.1, pI σ' 55 12 1) ∧ Ag SPt (fun _ _ => False) σ σ' ∧ NM σ' xf.2.1 (bkS o xf.2.2 xf.2.1).1 (bkS o xf.2.2 xf.2.1).2.1 (bkS o xf.2.2 xf.2.1).2.2.1 ∧ ∀ j, j < xf.2.1 → gI σ' 60 j = nI ((bkS o xf.2.2 xf.2.1).2.2.2 j) := by
  obtain ⟨ht, _, h39, htb⟩ := p6
  have hc : 2 ≤ c ∧ c ≤ 5 := ⟨b1.1, b1.2.1⟩
  have g9 := b1.2.2.2.2.1
  have z0 : (0 : Int32).toInt = 0 := rfl
  have em1 : (-1 : Int32).toInt = -1 := rfl
  have e48 : (48 : Int32).toInt = 48 := rfl
  have smono : ∀ i, i ≤ t → ∃ y, prs c (g 0) tb i = some y ∧ y.2.1 ≤ 14 := fun i hi => by
    cases h0 : prs c (g 0) tb i with
    | none => rw [prs_mono h0 t hi] at hx; cases hx
    | some y =>
      refine ⟨y, rfl, ?_⟩
      rw [prs_cnt hc hx] at hq
      rw [prs_cnt hc h0]
      exact Nat.le_trans (cntB_mono _ hi) hq
  refine fx_inv2 (I := fun k s => ∃ (υ : Sg) (x1 x2 : Int32) (y : PS × Nat × (Nat → Nat × Nat × Nat)), s = (x1, x2, nI k, υ) ∧ prs c (g 0) tb k = some y ∧ x1.toInt = (if y.1.2.1 = -1 then 0 else y.1.2.1) ∧ x2.toInt = y.1.2.2.1 ∧ Ag SPt (fun _ _ => False) σ υ ∧ NM υ y.2.1 (bkS o y.2.2 y.2.1).1 (bkS o y.2.2 y.2.1).2.1 (bkS o y.2.2 y.2.1).2.2.1 ∧ ∀ j, j < y.2.1 → gI υ 60 j = nI ((bkS o y.2.2 y.2.1).2.2.2 j)) (Q := fun e => ∃ σ', e = some (nI xf.2.1, pI σ' 55 12 1) ∧ Ag SPt (fun _ _ => False) σ σ' ∧ NM σ' xf.2.1 (bkS o xf.2.2 xf.2.1).1 (bkS o xf.2.2 xf.2.1).2.1 (bkS o xf.2.2 xf.2.1).2.2.1 ∧ ∀ j, j < xf.2.1 → gI σ' 60 j = nI ((bkS o xf.2.2 xf.2.1).2.2.2 j)) (n := t) ?_ ?_ t 0 FU _ (by omega) (by unfold FU; omega) ⟨σ, nI 0, -1, _, rfl, rfl, rfl, rfl, Ag.rf, ⟨hN0, fun i hi => absurd hi (by dsimp only; omega)⟩, fun j hj => absurd hj (by dsimp only; omega)⟩
  · rintro k s hk ⟨υ, x1, x2, y, rfl, hp, hx1, hx2, hA, hNM, h60⟩ rec
    have hr2 : RefI υ := hA.ref hr
    obtain ⟨bb, _, b2⟩ := htb k hk
    have t39 : gI υ 55 39 = nI t := (hA.2.1 55 39 (by unfold SPt; omega)).trans h39
    have t77 : gI υ 77 k = nI (tb k) := (hA.2.1 77 k (by unfold SPt; omega)).trans b2
    obtain ⟨y', hp1, hq1⟩ := smono (k + 1) (by omega)
    obtain ⟨y0, s', g0', hps, hy'⟩ := prs_inv hp1
    rw [hp] at g0'
    injection g0' with g0'
    subst g0'
    have hV := prs_VP hc hp
    have hL := psS_L hV.1 hps
    obtain ⟨⟨ah, ti, col, le⟩, q, N⟩ := y
    obtain ⟨⟨h1, h2, h3, h4, h5, h6, h7⟩, v1, v2, v3⟩ := hV
    dsimp only at h1 h2 h3 h4 h5 h6 h7 v1 v2 v3 hx1 hx2 hNM h60 hps hy' hL
    have bt : (nI (tb k)).toInt = (tb k : Int) := nI_toInt (by omega)
    have head : f_X9_back_L38 55 rec (x1, x2, nI k, υ) = (if nI (tb k) = (58 : Int32) then f_X9_back_L137 rec 55 x1 (0 : Int32) (nI k) υ else (if nI (tb k) = (59 : Int32) then f_X9_back_L137 rec 55 (0 : Int32) (-1 : Int32) (nI k) υ else (if x2 = (-1 : Int32) then lB (((((10 : Int32) * x1) + nI (tb k)) - (48 : Int32))) fun v9 => f_X9_back_L137 rec 55 v9 x2 (nI k) υ else (if nI (tb k) = (45 : Int32) then f_X9_back_L134 rec 55 x1 x2 (nI k) υ else ck (inb x2 5) (bd (f_X9_puts 55 x1 (((gI υ 56 x2.toNatClampNeg) + nI (tb k)) - (97 : Int32)) (1 : Int32) υ) fun r6 s5 => ck (inb r6 (aL (gR s5 55 11))) (lB (pI s5 (gR s5 55 11) r6.toNatClampNeg x2) fun s8 => f_X9_back_L134 rec 55 x1 x2 (nI k) s8)))))) := by
      unfold f_X9_back_L38
      dsimp only
      rw [t39, if_neg (by rw [Int32.le_iff_toInt_le, nI_toInt (by omega), nI_toInt (by omega)]; omega), rf_55_38 hr2, aL_77, inb_nI (by omega), ck_d (by omega), lB_eq, nI_clamp (by omega), t77, rf_55_1 hr2, aL_56]
    have L137 : ∀ a b υ, f_X9_back_L137 rec 55 a b (nI k) υ = rec (a, b, nI (k + 1), υ) := fun a b υ => by unfold f_X9_back_L137; rw [lB_eq, nI_1]
    rw [head]
    unfold psS at hps
    dsimp only at hps
    left
    by_cases c0 : col = -1
    · rw [if_pos c0] at hps
      by_cases c1 : tb k = 58
      · have nl : ¬ isL c (g 0) (ah, ti, col, le) (tb k) = true := fun z => by have := hL.1 z; omega
        rw [if_neg nl] at hy'
        rw [if_pos c1] at hps
        by_cases c2 : ah < ti
        · rw [if_pos c2] at hps
          injection hps with hps
          subst hps
          refine ⟨(x1, 0, nI (k + 1), υ), ⟨υ, x1, 0, y', rfl, hp1, ?_, ?_, hA, ?_, ?_⟩, ?_⟩
          · rw [hy']; exact hx1
          · rw [hy']; rfl
          · rw [hy']; exact hNM
          · rw [hy']; exact h60
          · rw [if_pos (by rw [c1]; rfl)]; exact L137 _ _ _
        · rw [if_neg c2] at hps; cases hps
      · rw [if_neg c1] at hps
        by_cases c2 : 48 ≤ tb k ∧ tb k ≤ 57 ∧ ti ≠ 0 ∧ mayT ah ((if ti = -1 then 0 else 10 * ti) + (tb k : Int) - 48) = true
        · have nl : ¬ isL c (g 0) (ah, ti, col, le) (tb k) = true := fun z => by have := hL.1 z; omega
          rw [if_neg nl] at hy'
          rw [if_pos c2] at hps
          injection hps with hps
          subst hps
          have hw : (if ti = -1 then 0 else 10 * ti) = 10 * (if ti = -1 then 0 else ti) := by split <;> rfl
          have hb1 : 0 ≤ (if ti = -1 then 0 else ti) ∧ (if ti = -1 then 0 else ti) ≤ 199 := by split <;> omega
          have m1 : ((10 : Int32) * x1).toInt = 10 * (if ti = -1 then 0 else ti) := by rw [i32_mul (by rw [hx1, show (10 : Int32).toInt = 10 from rfl]; omega), hx1]; rfl
          have vt : ((10 : Int32) * x1 + nI (tb k) - 48).toInt = (if ti = -1 then 0 else 10 * ti) + (tb k : Int) - 48 := by
            rw [i32_subB (by rw [i32_addB (by rw [m1]; omega) (by omega), m1, bt]; omega) (by omega), i32_addB (by rw [m1]; omega) (by omega), m1, bt, e48, hw]
          refine ⟨((10 : Int32) * x1 + nI (tb k) - 48, x2, nI (k + 1), υ), ⟨υ, _, x2, y', rfl, hp1, ?_, ?_, hA, ?_, ?_⟩, ?_⟩
          · rw [hy', vt]
            have hw2 : ¬ (if ti = -1 then 0 else 10 * ti) + (tb k : Int) - 48 = -1 := by rw [hw]; omega
            dsimp only
            rw [if_neg hw2]
          · rw [hy', hx2]; exact c0
          · rw [hy']; exact hNM
          · rw [hy']; exact h60
          · rw [if_neg (show ¬ nI (tb k) = (58 : Int32) from fun z => c1 ((nI_eq (b := 58) (by omega) (by omega)).1 z)), if_neg (show ¬ nI (tb k) = (59 : Int32) from fun z => by have := (nI_eq (b := 59) (by omega) (by omega)).1 z; omega), if_pos (by rw [i32_eq, hx2, em1]; exact c0), lB_eq]
            exact L137 _ _ _
        · rw [if_neg c2] at hps; cases hps
    · rw [if_neg c0] at hps
      have hti : 0 ≤ ti := by have := h6 (by omega); omega
      rw [if_neg (show ¬ ti = -1 by omega)] at hx1
      by_cases c1 : col < (c : Int)
      · rw [if_pos c1] at hps
        have ec := toI hx2 (by omega)
        have et := toI hx1 hti
        by_cases c2 : tb k = 45
        · have nl : ¬ isL c (g 0) (ah, ti, col, le) (tb k) = true := fun z => by have := hL.1 z; omega
          rw [if_neg nl] at hy'
          rw [if_pos c2] at hps
          by_cases c3 : col = (c : Int) - 1 ∧ le = 0
          · rw [if_pos c3] at hps; cases hps
          · rw [if_neg c3] at hps
            injection hps with hps
            subst hps
            refine ⟨(x1, nI (col.toNat + 1), nI (k + 1), υ), ⟨υ, x1, _, y', rfl, hp1, ?_, ?_, hA, ?_, ?_⟩, ?_⟩
            · rw [hy']; dsimp only; rw [if_neg (by omega)]; exact hx1
            · rw [hy', nI_toInt (by omega)]; dsimp only; omega
            · rw [hy']; exact hNM
            · rw [hy']; exact h60
            · rw [c2, if_neg (by decide), if_neg (by decide), if_neg (by rw [i32_eq, hx2, em1]; exact c0), if_pos (by decide)]
              unfold f_X9_back_L134
              rw [lB_eq, L137, ec, nI_1]
        · rw [if_neg c2] at hps
          by_cases c3 : 97 ≤ tb k ∧ tb k ≤ 97 + g 0 ∧ le < 3
          · have yl := hL.2 c3.1
            rw [if_pos yl] at hy'
            rw [if_pos c3] at hps
            injection hps with hps
            subst hps
            have hq14 : q < 14 := by rw [hy'] at hq1; exact hq1
            have new : upT N q (ti.toNat, col.toNat, tb k - 97) q = (ti.toNat, col.toNat, tb k - 97) := if_pos rfl
            have eb : bkS o (upT N q (ti.toNat, col.toNat, tb k - 97)) q = bkS o N q := bkS_cg (fun j hj => if_neg (by omega))
            have bo := b1.2.2.1 col.toNat (by omega)
            have hBn := (bkS_ok b1 (by omega) v1 q (Nat.le_refl _)).1
            obtain ⟨υ1, e1, a1, w1, w2, w3⟩ := s_X9_puts (a := ti.toNat) (b := o col.toNat + (tb k - 97)) (l := 1) hr2 hNM hBn hq14 (by omega) (by omega) (by omega)
            have hp0 := ipos_le (bkS o N q).1 (bkS o N q).2.1 ti.toNat (o col.toNat + (tb k - 97)) q
            have ebk : bkS o (upT N q (ti.toNat, col.toNat, tb k - 97)) (q + 1) = (insA (bkS o N q).1 (ipos (bkS o N q).1 (bkS o N q).2.1 ti.toNat (o col.toNat + (tb k - 97)) q) ti.toNat, insA (bkS o N q).2.1 (ipos (bkS o N q).1 (bkS o N q).2.1 ti.toNat (o col.toNat + (tb k - 97)) q) (o col.toNat + (tb k - 97)), insA (bkS o N q).2.2.1 (ipos (bkS o N q).1 (bkS o N q).2.1 ti.toNat (o col.toNat + (tb k - 97)) q) 1, insA (bkS o N q).2.2.2 (ipos (bkS o N q).1 (bkS o N q).2.1 ti.toNat (o col.toNat + (tb k - 97)) q) col.toNat) := by
              show (insA (bkS o _ q).1 _ _, insA (bkS o _ q).2.1 _ _, insA (bkS o _ q).2.2.1 _ _, insA (bkS o _ q).2.2.2 _ _) = _
              rw [eb, new]
            generalize ipos (bkS o N q).1 (bkS o N q).2.1 ti.toNat (o col.toNat + (tb k - 97)) q = p at *
            have hr3 : RefI υ1 := a1.ref hr2
            have u56 : gI υ 56 col.toNat = nI (o col.toNat) := (hA.2.1 56 _ (by unfold SPt; omega)).trans (ho col.toNat (by omega))
            refine ⟨(x1, nI (col.toNat + 1), nI (k + 1), pI υ1 60 p (nI col.toNat)), ⟨_, x1, _, y', rfl, hp1, ?_, ?_, (hA.tr a1).pI (by unfold SPt; omega), ?_, ?_⟩, ?_⟩
            · rw [hy']; dsimp only; rw [if_neg (by omega)]; exact hx1
            · rw [hy', nI_toInt (by omega)]; dsimp only; omega
            · rw [hy']
              dsimp only
              rw [ebk]
              exact ⟨by rw [gI_pI, if_neg (by omega)]; exact w1.1, fun i hi => by rw [gI_pI, if_neg (by omega), gI_pI, if_neg (by omega), gI_pI, if_neg (by omega)]; exact w1.2 i hi⟩
            · rw [hy']
              dsimp only
              rw [ebk]
              intro j hj
              dsimp only
              rw [gI_pI]
              rcases Nat.lt_trichotomy j p with z | z | z
              · rw [if_neg (by omega), insA_lt z, w2 j z]; exact h60 j (by omega)
              · rw [if_pos ⟨rfl, z⟩, z, insA_eq]
              · rw [if_neg (by omega), insA_gt z, w3 j z (by omega)]; exact h60 (j - 1) (by omega)
            · have ev : (nI (o col.toNat) + nI (tb k)) - (97 : Int32) = nI (o col.toNat + (tb k - 97)) := by
                rw [nI_add, show (97 : Int32) = nI 97 from rfl, pk_sub (by omega)]
                congr 1
                omega
              have e1' : f_X9_puts 55 (nI ti.toNat) (nI (o col.toNat + (tb k - 97))) 1 υ = some (nI p, υ1) := e1
              rw [if_neg (show ¬ nI (tb k) = (58 : Int32) from fun z => by have := (nI_eq (b := 58) (by omega) (by omega)).1 z; omega), if_neg (show ¬ nI (tb k) = (59 : Int32) from fun z => by have := (nI_eq (b := 59) (by omega) (by omega)).1 z; omega), if_neg (by rw [i32_eq, hx2, em1]; exact c0), if_neg (show ¬ nI (tb k) = (45 : Int32) from fun z => c2 ((nI_eq (b := 45) (by omega) (by omega)).1 z)), ec, inb_nI (by omega), ck_d (by omega), nI_clamp (by omega), u56, ev, et, e1', bd_eq, rf_55_11 hr3, aL_60, inb_nI (by omega), ck_d (by omega), lB_eq, nI_clamp (by omega)]
              unfold f_X9_back_L134
              rw [lB_eq, L137, nI_1]
          · rw [if_neg c3] at hps; cases hps
      · rw [if_neg c1] at hps
        by_cases c2 : tb k = 59
        · have nl : ¬ isL c (g 0) (ah, ti, col, le) (tb k) = true := fun z => by have := hL.1 z; omega
          rw [if_neg nl] at hy'
          rw [if_pos c2] at hps
          injection hps with hps
          subst hps
          refine ⟨(0, -1, nI (k + 1), υ), ⟨υ, 0, -1, y', rfl, hp1, ?_, ?_, hA, ?_, ?_⟩, ?_⟩
          · rw [hy']; rfl
          · rw [hy']; rfl
          · rw [hy']; exact hNM
          · rw [hy']; exact h60
          · rw [c2, if_neg (by decide), if_pos (by decide)]; exact L137 _ _ _
        · rw [if_neg c2] at hps; cases hps
  · rintro s ⟨υ, x1, x2, y, rfl, hp, hx1, hx2, hA, hNM, h60⟩ rec
    have t39 : gI υ 55 39 = nI t := (hA.2.1 55 39 (by unfold SPt; omega)).trans h39
    rw [hx] at hp
    injection hp with hp
    subst hp
    have g10 : gI (pI υ 55 12 1) 55 10 = nI xf.2.1 := by rw [gI_pI, if_neg (by omega)]; exact hNM.1
    refine ⟨some (nI xf.2.1, pI υ 55 12 1), ⟨υ, rfl, hA, hNM, h60⟩, ?_⟩
    unfold f_X9_back_L38
    dsimp only
    rw [t39, if_pos (by rw [Int32.le_iff_toInt_le]; exact Int.le_refl _), ck_of b01_1, lB_eq, g10]
