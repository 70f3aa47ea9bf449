/-! the cost of what is laid -/
def prevL (o tm pt ls fs : Nat → Nat) (z : Int) (d : Nat → Nat) : Nat → Int
  | 0 => 0
  | j + 1 => lowK o tm pt ls fs z j d
theorem step_eq {o g tm pt ls fs d : Nat → Nat} {z : Int} (k : Nat) : stepK o g tm pt ls fs z k d = ownK o g tm pt ls fs z k d + shK g (prevL o tm pt ls fs z d k) (lowK o tm pt ls fs z k d) := by
  cases k with
  | zero =>
    show ownK o g tm pt ls fs z 0 d + 0 = _
    have : shK g (prevL o tm pt ls fs z d 0) (lowK o tm pt ls fs z 0 d) = 0 := if_neg (fun q => by have : (0 : Int) < 0 := q.1; omega)
    rw [this]
  | succ j => rfl
theorem cost_eq {o g tm pt ls fs d : Nat → Nat} {z : Int} (k : Nat) : costTo o g tm pt ls fs z (k + 1) d = costTo o g tm pt ls fs z k d + (ownK o g tm pt ls fs z k d + shK g (prevL o tm pt ls fs z d k) (lowK o tm pt ls fs z k d)) := by
  rw [← step_eq]; rfl
theorem lowK_bd {c n nk k : Nat} {o g tm pt ls fs d : Nat → Nat} {z : Int} (b1 : Bl c o g) (b2 : Bn n tm pt ls) (hC : Ch n tm nk fs) (hk : k < nk) (hz : -12 ≤ z ∧ z ≤ 12) (hd : ∀ i, i < n → d i < 5) : 0 ≤ lowK o tm pt ls fs z k d ∧ lowK o tm pt ls fs z k d ≤ 82 := by
  have hM := hC.le (k := k + 1) (by omega)
  refine ⟨lowF_nn _, (low_bd (by omega) (fun i hi hs => ?_)).1⟩
  exact (fret_bd hz (b2.2.1 i (by omega)).2.1 (b1.2.2.1 (d i) (hd i (by omega)))).2
theorem prevL_bd {c n nk k : Nat} {o g tm pt ls fs d : Nat → Nat} {z : Int} (b1 : Bl c o g) (b2 : Bn n tm pt ls) (hC : Ch n tm nk fs) (hk : k < nk) (hz : -12 ≤ z ∧ z ≤ 12) (hd : ∀ i, i < n → d i < 5) : 0 ≤ prevL o tm pt ls fs z d k ∧ prevL o tm pt ls fs z d k ≤ 82 := by
  cases k with
  | zero => exact ⟨Int.le_refl _, by show (0 : Int) ≤ 82; omega⟩
  | succ j => exact lowK_bd b1 b2 hC (by omega) hz hd
theorem s_lookLaid {σ τ : Sg} {c n nk k : Nat} {o g tm pt ls fs d : Nat → Nat} (hr : RefI σ) (b1 : Bl c o g) (b2 : Bn n tm pt ls) (p1 : P1 σ c o g) (p2 : P2 σ n tm pt ls) (p3 : P3 σ n tm ls nk fs) (hd : ∀ i, i < n → gI σ 46 i = nI (d i) ∧ d i < c) (hA : Ag S11 (fun _ _ => False) σ τ) (hk : k < nk) : ∃ υ, f_X0_look 11 (nI k) 46 (nI 0) τ = some ((), υ) ∧ Ag S11 (fun _ _ => False) σ υ ∧ HT υ o tm pt ls fs 0 k d := by
  have hc5 := b1.2.1
  have hM := p3.1.le (k := k + 1) (by omega)
  have hz : (0 : Int32).toInt = 0 := rfl
  obtain ⟨υ, e1, a1, hT⟩ := s_X0_look (x3 := 0) (q := 46) (d := d) (hA.ref hr) b1 b2 (fun j hj => (hA.2.1 2 j (by unfold S11; omega)).trans (p1.2.2.1 j hj).1) (p2.c.ag hA (by unfold S11; omega) (fun p k h1 h2 z => by unfold S11 at z; omega)) (p3.fr (fun p k z => hA.2.1 p k (by unfold S11; unfold S3 at z; omega))) hk rfl (by decide) (fun i hi hs => ⟨(hA.2.1 46 i (by unfold S11; omega)).trans (hd i (by omega)).1, by have := (hd i (by omega)).2; omega⟩) (by decide)
  rw [hz] at hT
  exact ⟨υ, e1, hA.tr a1, hT⟩
theorem s_X8_costOfLaid {σ : Sg} {c n nk : Nat} {o g tm pt ls fs d : Nat → Nat} (hr : RefI σ) (b1 : Bl c o g) (b2 : Bn n tm pt ls) (p1 : P1 σ c o g) (p2 : P2 σ n tm pt ls) (p3 : P3 σ n tm ls nk fs) (hd : ∀ i, i < n → gI σ 46 i = nI (d i) ∧ d i < c) : ∃ σ', f_X8_costOfLaid 0 σ = some (nI (costTo o g tm pt ls fs 0 nk d), σ') ∧ Ag S11 (fun _ _ => False) σ σ' := by
  have hc5 := b1.2.1
  have hC := p3.1
  have hnk := hC.nk_le
  have hn := b2.1
  have hd5 : ∀ i, i < n → d i < 5 := fun i hi => by have := (hd i hi).2; omega
  unfold f_X8_costOfLaid
  refine fx_inv2 (I := fun k s => ∃ x τ, s = (nI (costTo o g tm pt ls fs 0 k d), x, nI k, τ) ∧ x.toInt = prevL o tm pt ls fs 0 d k ∧ Ag S11 (fun _ _ => False) σ τ) (Q := fun e => ∃ σ', e = some (nI (costTo o g tm pt ls fs 0 nk d), σ') ∧ Ag S11 (fun _ _ => False) σ σ') (n := nk) ?_ ?_ nk 0 FU _ (by omega) (by unfold FU; omega) ⟨0, σ, rfl, rfl, Ag.rf⟩
  · rintro k s hk ⟨x, τ, rfl, hx, hA⟩ rec
    have hr2 : RefI τ := hA.ref hr
    have t7 : gI τ 4 7 = nI nk := (hA.2.1 4 7 (by unfold S11; omega)).trans p3.2.1
    obtain ⟨υ, e1, hA2, hT⟩ := s_lookLaid hr b1 b2 p1 p2 p3 hd hA hk
    have hr3 : RefI υ := hA2.ref hr
    have e2 := s_X0_charge (g := g) hr3 hT ((hA2.2.1 3 3 (by unfold S11; omega)).trans (p1.2.2.2 3 (by omega)).1) ((hA2.2.1 3 4 (by unfold S11; omega)).trans (p1.2.2.2 4 (by omega)).1)
    have lb := lowK_bd (z := 0) b1 b2 hC hk (by omega) hd5
    have pb := prevL_bd (z := 0) b1 b2 hC hk (by omega) hd5
    have e3 := s_X1_shift (g := g) (x := x) (y := gI υ 11 2) hr3 ((hA2.2.1 3 2 (by unfold S11; omega)).trans (p1.2.2.2 2 (by omega)).1) (by omega) (by rw [hT.1]; omega)
    rw [hx, hT.1] at e3
    left
    refine ⟨(nI (costTo o g tm pt ls fs 0 (k + 1) d), gI υ 11 2, nI (k + 1), υ), ⟨_, υ, rfl, hT.1, hA2⟩, ?_⟩
    rw [cost_eq]
    unfold f_X8_costOfLaid_L6
    dsimp only
    simp (disch := first | assumption | omega) only [↓lB_eq, ↓bd_m, ck_tt, gI_pI, gI_pL, gI_pR, gL_pI, gL_pL, gL_pR, gR_pI, gR_pL, rf_0_0, rf_0_1, rf_0_2, rf_0_3, rf_0_4, rf_0_5, rf_0_6, rf_0_7, rf_0_8, rf_0_9, rf_0_10, rf_1_1, rf_1_2, rf_4_0, rf_4_1, rf_4_2, rf_4_3, rf_4_4, rf_4_5, rf_11_0, rf_11_1, rf_12_0, rf_12_1, rf_12_2, rf_12_6, rf_12_7, rf_12_8, rf_13_0, rf_13_1, rf_13_2, rf_13_3, rf_18_0, rf_18_1, rf_18_2, rf_18_3, rf_23_0, rf_23_1, rf_23_2, rf_23_3, rf_31_0, rf_33_0, rf_33_2, rf_33_3, rf_33_4, rf_37_0, rf_39_0, rf_39_1, rf_39_2, rf_39_3, rf_40_0, rf_40_1, rf_40_2, rf_40_3, rf_47_3, rf_49_3, rf_51_3, rf_53_3, rf_55_1, rf_55_7, rf_55_8, rf_55_9, rf_55_11, rf_55_13, rf_55_14, rf_55_15, rf_55_17, rf_55_18, rf_55_19, rf_55_27, rf_55_28, rf_55_29, rf_55_30, rf_55_31, rf_55_32, rf_55_33, rf_55_34, rf_55_35, rf_55_36, rf_55_38, rf_55_44, rf_55_45, rf_55_46, rf_55_47, aL_2, aL_3, aL_5, aL_6, aL_7, aL_8, aL_9, aL_10, aL_14, aL_15, aL_16, aL_17, aL_19, aL_20, aL_21, aL_22, aL_24, aL_25, aL_26, aL_27, aL_28, aL_29, aL_30, aL_32, aL_34, aL_35, aL_36, aL_38, aL_39, aL_40, aL_41, aL_42, aL_43, aL_44, aL_45, aL_46, aL_48, aL_50, aL_52, aL_54, aL_56, aL_57, aL_58, aL_59, aL_60, aL_61, aL_62, aL_63, aL_64, aL_65, aL_66, aL_67, aL_68, aL_69, aL_70, aL_71, aL_72, aL_73, aL_74, aL_75, aL_76, aL_77, aL_78, aL_79, aL_80, aL_81, inb_nI, lit32, nI_clamp, nI_1, nI_add, if_pos, if_neg, b01_0, b01_1, Nat.add_sub_cancel, if_true, if_false, not_true_eq_false, not_false_eq_true, true_and, and_true, false_and, and_false, pk_sub, b01_n0, b01_n1, bI_t, bI_f, ofNat_nI, ck_d, Int32.lt_iff_toInt_lt, Int32.le_iff_toInt_le, i32_eq, nI_toInt, bI_b01, bI_0, decide_eq_true_eq, bI_tt, bI_ff, nI_prd, ↓reduceIte, iltT, iltF, ileT, ileF, ieqT, ieqF, dcT, dcF, or_true, or_false, true_or, false_or, t7, e1, e2, e3]
  · rintro s ⟨x, τ, rfl, hx, hA⟩ rec
    have hr2 : RefI τ := hA.ref hr
    have t7 : gI τ 4 7 = nI nk := (hA.2.1 4 7 (by unfold S11; omega)).trans p3.2.1
    refine ⟨some (nI (costTo o g tm pt ls fs 0 nk d), τ), ⟨τ, rfl, hA⟩, ?_⟩
    unfold f_X8_costOfLaid_L6
    dsimp only
    simp (disch := first | assumption | omega) only [↓lB_eq, ↓bd_m, ck_tt, gI_pI, gI_pL, gI_pR, gL_pI, gL_pL, gL_pR, gR_pI, gR_pL, rf_0_0, rf_0_1, rf_0_2, rf_0_3, rf_0_4, rf_0_5, rf_0_6, rf_0_7, rf_0_8, rf_0_9, rf_0_10, rf_1_1, rf_1_2, rf_4_0, rf_4_1, rf_4_2, rf_4_3, rf_4_4, rf_4_5, rf_11_0, rf_11_1, rf_12_0, rf_12_1, rf_12_2, rf_12_6, rf_12_7, rf_12_8, rf_13_0, rf_13_1, rf_13_2, rf_13_3, rf_18_0, rf_18_1, rf_18_2, rf_18_3, rf_23_0, rf_23_1, rf_23_2, rf_23_3, rf_31_0, rf_33_0, rf_33_2, rf_33_3, rf_33_4, rf_37_0, rf_39_0, rf_39_1, rf_39_2, rf_39_3, rf_40_0, rf_40_1, rf_40_2, rf_40_3, rf_47_3, rf_49_3, rf_51_3, rf_53_3, rf_55_1, rf_55_7, rf_55_8, rf_55_9, rf_55_11, rf_55_13, rf_55_14, rf_55_15, rf_55_17, rf_55_18, rf_55_19, rf_55_27, rf_55_28, rf_55_29, rf_55_30, rf_55_31, rf_55_32, rf_55_33, rf_55_34, rf_55_35, rf_55_36, rf_55_38, rf_55_44, rf_55_45, rf_55_46, rf_55_47, aL_2, aL_3, aL_5, aL_6, aL_7, aL_8, aL_9, aL_10, aL_14, aL_15, aL_16, aL_17, aL_19, aL_20, aL_21, aL_22, aL_24, aL_25, aL_26, aL_27, aL_28, aL_29, aL_30, aL_32, aL_34, aL_35, aL_36, aL_38, aL_39, aL_40, aL_41, aL_42, aL_43, aL_44, aL_45, aL_46, aL_48, aL_50, aL_52, aL_54, aL_56, aL_57, aL_58, aL_59, aL_60, aL_61, aL_62, aL_63, aL_64, aL_65, aL_66, aL_67, aL_68, aL_69, aL_70, aL_71, aL_72, aL_73, aL_74, aL_75, aL_76, aL_77, aL_78, aL_79, aL_80, aL_81, inb_nI, lit32, nI_clamp, nI_1, nI_add, if_pos, if_neg, b01_0, b01_1, Nat.add_sub_cancel, if_true, if_false, not_true_eq_false, not_false_eq_true, true_and, and_true, false_and, and_false, pk_sub, b01_n0, b01_n1, bI_t, bI_f, ofNat_nI, ck_d, Int32.lt_iff_toInt_lt, Int32.le_iff_toInt_le, i32_eq, nI_toInt, bI_b01, bI_0, decide_eq_true_eq, bI_tt, bI_ff, nI_prd, ↓reduceIte, iltT, iltF, ileT, ileF, ieqT, ieqF, dcT, dcF, or_true, or_false, true_or, false_or, t7]
