/-! the reference at a chord: is it good as it lies; a way is laid -/
/-- what the reference's search reads -/
def RE (σ : Sg) (c n nk : Nat) (o g tm pt ls fs : Nat → Nat) (z : Int) : Prop := RefI σ ∧ gI σ 55 0 = nI c ∧ (∀ j, j < 5 → gI σ 56 j = nI (o j)) ∧ (∀ j, j < 5 → gI σ 55 (j + 2) = nI (g j)) ∧ NM σ n tm pt ls ∧ RC σ n tm ls nk fs ∧ (gI σ 55 20).toInt = z
/-- what it writes -/
def FM (p k : Nat) : Prop := (66 ≤ p ∧ p ≤ 75) ∨ SL p k
def FLy (p k : Nat) : Prop := p = 66 ∨ SL p k
theorem RE.ag {P PL : Nat → Nat → Prop} {σ τ : Sg} {c n nk : Nat} {o g tm pt ls fs : Nat → Nat} {z : Int} (h : RE σ c n nk o g tm pt ls fs z) (q : Ag P PL σ τ) (h1 : ∀ p k, P p k → FM p k) : RE τ c n nk o g tm pt ls fs z := by
  obtain ⟨y0, y1, y2, y3, y4, y5, y6⟩ := h
  have no : ∀ p k, ¬ FM p k → gI τ p k = gI σ p k := fun p k y => q.2.1 p k (fun x => y (h1 p k x))
  refine ⟨q.ref y0, (no 55 0 (by unfold FM SL; omega)).trans y1, fun j hj => (no 56 j (by unfold FM SL; omega)).trans (y2 j hj), fun j hj => (no 55 (j + 2) (by unfold FM SL; omega)).trans (y3 j hj), y4.ag q (fun x => absurd (h1 _ _ x) (by unfold FM SL; omega)) (fun p k a b x => absurd (h1 _ _ x) (by unfold FM SL; omega)), y5.ag q (fun p k a x => absurd (h1 _ _ x) (by unfold FM SL; unfold SR at a; omega)), by rw [no 55 20 (by unfold FM SL; omega)]; exact y6⟩
theorem RE.ly {σ : Sg} {c n nk k : Nat} {o g tm pt ls fs d : Nat → Nat} {z : Int} (h : RE σ c n nk o g tm pt ls fs z) (b1 : Bl c o g) (hz : -12 ≤ z ∧ z ≤ 12) (hd : ∀ i, i < n → sndB tm ls fs k i = true → gI σ 66 i = nI (d i) ∧ d i < 5) : RLy σ o tm pt ls fs z n nk k d := ⟨fun j hj => ⟨h.2.2.1 j hj, b1.2.2.1 j hj⟩, h.2.2.2.2.1, h.2.2.2.2.2.1, h.2.2.2.2.2.2, hz, hd⟩
theorem Gd_iff2 {c : Nat} {o g tm pt ls fs : Nat → Nat} {z : Int} {ban k : Nat} {e : Nat → Nat} (h : ∀ i, sndB tm ls fs k i = true → e i < c ∧ e i ≠ ban ∧ 0 ≤ fret o pt z e i ∧ fret o pt z e i ≤ (g 0 : Int)) : wrK o g tm pt ls fs z k e = 0 ↔ Gd c o g tm pt ls fs z ban k e := by
  cases q : twB (sndB tm ls fs k) e (fs (k + 1)) with
  | false => exact Gd_iff ⟨fun i _ hs => h i hs, q⟩
  | true =>
    constructor
    · intro w
      unfold wrK at w
      rw [q, if_pos rfl] at w
      omega
    · rintro ⟨_, w, _⟩
      rw [q] at w; cases w
theorem s_X9_isGood {σ : Sg} {c n nk k : Nat} {o g tm pt ls fs d : Nat → Nat} {z : Int} (hE : RE σ c n nk o g tm pt ls fs z) (b1 : Bl c o g) (b2 : Bn n tm pt ls) (hC : Ch n tm nk fs) (hk : k < nk) (hz : -12 ≤ z ∧ z ≤ 12) (hd : ∀ i, i < n → sndB tm ls fs k i = true → gI σ 66 i = nI (d i) ∧ d i < 5) (hf : ∀ i, i < n → sndB tm ls fs k i = true → 0 ≤ fret o pt z d i ∧ fret o pt z d i ≤ (g 0 : Int)) : ∃ σ', f_X9_isGood 55 (nI k) σ = some (bI (decide (wrK o g tm pt ls fs z k d = 0)), σ') ∧ Ag SL (fun _ _ => False) σ σ' ∧ RT' σ' o g tm pt ls fs z k d := by
  have hn := b2.1
  have hnk := hC.nk_le
  have hr := hE.1
  have g0 := b1.2.2.2.2.1
  have hcl := cntB_le (sndB tm ls fs k) n
  have hL := hE.ly (k := k) (d := d) b1 hz hd
  obtain ⟨σ1, e1, a1, hT⟩ := s_X9_looks (g := g) hr b2 hC hk hL (hE.2.2.2.1 1 (by omega)) b1.2.2.2.2.2.1
  have hL1 := hL.ag a1
  have hr1 := a1.ref hr
  have t65 := hL1.2.2.1.2.2.1 k hk
  have t2 : gI σ1 55 2 = nI (g 0) := (a1.2.1 55 2 (by unfold SL; omega)).trans (hE.2.2.2.1 0 (by omega))
  have loop : ∀ b : Bool, fx (f_X9_isGood_L35 55 (nI k)) FU (bI b, nI 0, σ1) = some (bI b, σ1) := by
    intro b
    refine fx_for0 (fun t => (bI b, nI t, σ1)) rfl (n := cntB (sndB tm ls fs k) n) (fun t ht rec => ?_) (fun rec => ?_) (by unfold FU; omega)
    · obtain ⟨i, hi, hs, hit⟩ := nth_ex ht
      have e64 := hL1.2.2.1.2.2.2 k hk i hi hs
      rw [hit] at e64
      obtain ⟨x, ef, ex⟩ := s_X9_fretOf hr1 b2 hL1 hi hs
      have eo := s_X9_isOnCourse (σ := σ1) x
      rw [t2, nI_toInt (by omega), ex, decide_eq_true (hf i hi hs)] at eo
      unfold f_X9_isGood_L35 f_X9_isGood_L75 f_X9_isGood_L76
      dsimp only
      cases b with
      | true => simp (disch := first | assumption | omega) only [↓lB_eq, ↓bd_m, ck_tt, gI_pI, gI_pL, gI_pR, gL_pI, gL_pL, gL_pR, gR_pI, gR_pL, rf_0_0, rf_0_1, rf_0_2, rf_0_3, rf_0_4, rf_0_5, rf_0_6, rf_0_7, rf_0_8, rf_0_9, rf_0_10, rf_1_1, rf_1_2, rf_4_0, rf_4_1, rf_4_2, rf_4_3, rf_4_4, rf_4_5, rf_11_0, rf_11_1, rf_12_0, rf_12_1, rf_12_2, rf_12_6, rf_12_7, rf_12_8, rf_13_0, rf_13_1, rf_13_2, rf_13_3, rf_18_0, rf_18_1, rf_18_2, rf_18_3, rf_23_0, rf_23_1, rf_23_2, rf_23_3, rf_31_0, rf_33_0, rf_33_2, rf_33_3, rf_33_4, rf_37_0, rf_39_0, rf_39_1, rf_39_2, rf_39_3, rf_40_0, rf_40_1, rf_40_2, rf_40_3, rf_47_3, rf_49_3, rf_51_3, rf_53_3, rf_55_1, rf_55_7, rf_55_8, rf_55_9, rf_55_11, rf_55_13, rf_55_14, rf_55_15, rf_55_17, rf_55_18, rf_55_19, rf_55_27, rf_55_28, rf_55_29, rf_55_30, rf_55_31, rf_55_32, rf_55_33, rf_55_34, rf_55_35, rf_55_36, rf_55_38, rf_55_44, rf_55_45, rf_55_46, rf_55_47, aL_2, aL_3, aL_5, aL_6, aL_7, aL_8, aL_9, aL_10, aL_14, aL_15, aL_16, aL_17, aL_19, aL_20, aL_21, aL_22, aL_24, aL_25, aL_26, aL_27, aL_28, aL_29, aL_30, aL_32, aL_34, aL_35, aL_36, aL_38, aL_39, aL_40, aL_41, aL_42, aL_43, aL_44, aL_45, aL_46, aL_48, aL_50, aL_52, aL_54, aL_56, aL_57, aL_58, aL_59, aL_60, aL_61, aL_62, aL_63, aL_64, aL_65, aL_66, aL_67, aL_68, aL_69, aL_70, aL_71, aL_72, aL_73, aL_74, aL_75, aL_76, aL_77, aL_78, aL_79, aL_80, aL_81, inb_nI, lit32, nI_clamp, nI_1, nI_add, if_pos, if_neg, b01_0, b01_1, Nat.add_sub_cancel, if_true, if_false, not_true_eq_false, not_false_eq_true, true_and, and_true, false_and, and_false, pk_sub, b01_n0, b01_n1, bI_t, bI_f, ofNat_nI, ck_d, Int32.lt_iff_toInt_lt, Int32.le_iff_toInt_le, i32_eq, nI_toInt, bI_b01, bI_0, decide_eq_true_eq, bI_tt, bI_ff, nI_prd, ↓reduceIte, iltT, iltF, ileT, ileF, ieqT, ieqF, dcT, dcF, or_true, or_false, true_or, false_or, t65, nI_mul, e64, ef, eo]
      | false => simp (disch := first | assumption | omega) only [↓lB_eq, ↓bd_m, ck_tt, gI_pI, gI_pL, gI_pR, gL_pI, gL_pL, gL_pR, gR_pI, gR_pL, rf_0_0, rf_0_1, rf_0_2, rf_0_3, rf_0_4, rf_0_5, rf_0_6, rf_0_7, rf_0_8, rf_0_9, rf_0_10, rf_1_1, rf_1_2, rf_4_0, rf_4_1, rf_4_2, rf_4_3, rf_4_4, rf_4_5, rf_11_0, rf_11_1, rf_12_0, rf_12_1, rf_12_2, rf_12_6, rf_12_7, rf_12_8, rf_13_0, rf_13_1, rf_13_2, rf_13_3, rf_18_0, rf_18_1, rf_18_2, rf_18_3, rf_23_0, rf_23_1, rf_23_2, rf_23_3, rf_31_0, rf_33_0, rf_33_2, rf_33_3, rf_33_4, rf_37_0, rf_39_0, rf_39_1, rf_39_2, rf_39_3, rf_40_0, rf_40_1, rf_40_2, rf_40_3, rf_47_3, rf_49_3, rf_51_3, rf_53_3, rf_55_1, rf_55_7, rf_55_8, rf_55_9, rf_55_11, rf_55_13, rf_55_14, rf_55_15, rf_55_17, rf_55_18, rf_55_19, rf_55_27, rf_55_28, rf_55_29, rf_55_30, rf_55_31, rf_55_32, rf_55_33, rf_55_34, rf_55_35, rf_55_36, rf_55_38, rf_55_44, rf_55_45, rf_55_46, rf_55_47, aL_2, aL_3, aL_5, aL_6, aL_7, aL_8, aL_9, aL_10, aL_14, aL_15, aL_16, aL_17, aL_19, aL_20, aL_21, aL_22, aL_24, aL_25, aL_26, aL_27, aL_28, aL_29, aL_30, aL_32, aL_34, aL_35, aL_36, aL_38, aL_39, aL_40, aL_41, aL_42, aL_43, aL_44, aL_45, aL_46, aL_48, aL_50, aL_52, aL_54, aL_56, aL_57, aL_58, aL_59, aL_60, aL_61, aL_62, aL_63, aL_64, aL_65, aL_66, aL_67, aL_68, aL_69, aL_70, aL_71, aL_72, aL_73, aL_74, aL_75, aL_76, aL_77, aL_78, aL_79, aL_80, aL_81, inb_nI, lit32, nI_clamp, nI_1, nI_add, if_pos, if_neg, b01_0, b01_1, Nat.add_sub_cancel, if_true, if_false, not_true_eq_false, not_false_eq_true, true_and, and_true, false_and, and_false, pk_sub, b01_n0, b01_n1, bI_t, bI_f, ofNat_nI, ck_d, Int32.lt_iff_toInt_lt, Int32.le_iff_toInt_le, i32_eq, nI_toInt, bI_b01, bI_0, decide_eq_true_eq, bI_tt, bI_ff, nI_prd, ↓reduceIte, iltT, iltF, ileT, ileF, ieqT, ieqF, dcT, dcF, or_true, or_false, true_or, false_or, t65]
    · unfold f_X9_isGood_L35
      dsimp only
      simp (disch := first | assumption | omega) only [↓lB_eq, ↓bd_m, ck_tt, gI_pI, gI_pL, gI_pR, gL_pI, gL_pL, gL_pR, gR_pI, gR_pL, rf_0_0, rf_0_1, rf_0_2, rf_0_3, rf_0_4, rf_0_5, rf_0_6, rf_0_7, rf_0_8, rf_0_9, rf_0_10, rf_1_1, rf_1_2, rf_4_0, rf_4_1, rf_4_2, rf_4_3, rf_4_4, rf_4_5, rf_11_0, rf_11_1, rf_12_0, rf_12_1, rf_12_2, rf_12_6, rf_12_7, rf_12_8, rf_13_0, rf_13_1, rf_13_2, rf_13_3, rf_18_0, rf_18_1, rf_18_2, rf_18_3, rf_23_0, rf_23_1, rf_23_2, rf_23_3, rf_31_0, rf_33_0, rf_33_2, rf_33_3, rf_33_4, rf_37_0, rf_39_0, rf_39_1, rf_39_2, rf_39_3, rf_40_0, rf_40_1, rf_40_2, rf_40_3, rf_47_3, rf_49_3, rf_51_3, rf_53_3, rf_55_1, rf_55_7, rf_55_8, rf_55_9, rf_55_11, rf_55_13, rf_55_14, rf_55_15, rf_55_17, rf_55_18, rf_55_19, rf_55_27, rf_55_28, rf_55_29, rf_55_30, rf_55_31, rf_55_32, rf_55_33, rf_55_34, rf_55_35, rf_55_36, rf_55_38, rf_55_44, rf_55_45, rf_55_46, rf_55_47, aL_2, aL_3, aL_5, aL_6, aL_7, aL_8, aL_9, aL_10, aL_14, aL_15, aL_16, aL_17, aL_19, aL_20, aL_21, aL_22, aL_24, aL_25, aL_26, aL_27, aL_28, aL_29, aL_30, aL_32, aL_34, aL_35, aL_36, aL_38, aL_39, aL_40, aL_41, aL_42, aL_43, aL_44, aL_45, aL_46, aL_48, aL_50, aL_52, aL_54, aL_56, aL_57, aL_58, aL_59, aL_60, aL_61, aL_62, aL_63, aL_64, aL_65, aL_66, aL_67, aL_68, aL_69, aL_70, aL_71, aL_72, aL_73, aL_74, aL_75, aL_76, aL_77, aL_78, aL_79, aL_80, aL_81, inb_nI, lit32, nI_clamp, nI_1, nI_add, if_pos, if_neg, b01_0, b01_1, Nat.add_sub_cancel, if_true, if_false, not_true_eq_false, not_false_eq_true, true_and, and_true, false_and, and_false, pk_sub, b01_n0, b01_n1, bI_t, bI_f, ofNat_nI, ck_d, Int32.lt_iff_toInt_lt, Int32.le_iff_toInt_le, i32_eq, nI_toInt, bI_b01, bI_0, decide_eq_true_eq, bI_tt, bI_ff, nI_prd, ↓reduceIte, iltT, iltF, ileT, ileF, ieqT, ieqF, dcT, dcF, or_true, or_false, true_or, false_or, t65]
  refine ⟨σ1, ?_, a1, hT⟩
  obtain ⟨h21, h22, h23, h24, h25, h26⟩ := hT
  have fl := fin_le (o := o) (tm := tm) (pt := pt) (ls := ls) (fs := fs) (d := d) (z := z) (k := k)
  have hM := hC.le (k := k + 1) (by omega)
  have lt := loop true
  have lf := loop false
  unfold f_X9_isGood f_X9_isGood_L31 f_X9_isGood_L32 wrK
  rw [e1, bd_eq, h24, h25, h22]
  cases q1 : twB (sndB tm ls fs k) d (fs (k + 1)) with
  | true =>
    rw [if_neg (by decide), if_pos rfl, decide_eq_false (by omega)]
    exact lf
  | false =>
    rw [if_pos (by decide)]
    cases q2 : wdB (sndB tm ls fs k) (fret o pt z d) (lowK o tm pt ls fs z k d + g 1) (fs (k + 1)) with
    | true =>
      rw [if_neg (show ¬ bI true = (0 : Int32) by decide), if_neg (show ¬ false = true by decide), if_pos (show true = true from rfl), decide_eq_false (by omega)]
      exact lf
    | false =>
      rw [if_pos (show bI false = (0 : Int32) by decide), if_neg (show ¬ false = true by decide)]
      by_cases q3 : 4 < finK o tm pt ls fs z k d
      · rw [if_pos (show (4 : Int32) < nI (finK o tm pt ls fs z k d) by rw [Int32.lt_iff_toInt_lt, nI_toInt (by omega)]; have : (4 : Int32).toInt = 4 := rfl; omega), if_pos q3, decide_eq_false (by omega)]
        exact lf
      · rw [if_neg (show ¬ (4 : Int32) < nI (finK o tm pt ls fs z k d) by rw [Int32.lt_iff_toInt_lt, nI_toInt (by omega)]; have : (4 : Int32).toInt = 4 := rfl; omega), if_neg q3, decide_eq_true (by omega)]
        exact lt
theorem s_X9_layWay {σ : Sg} {c n nk k W : Nat} {o g tm pt ls fs d : Nat → Nat} {z : Int} (hE : RE σ c n nk o g tm pt ls fs z) (hn : n ≤ 14) (hnk : nk ≤ n) (hk : k < nk) (hT : cntB (sndB tm ls fs k) n ≤ 5) (hW : WY (sndB tm ls fs k) d n W) : ∃ σ', f_X9_layWay 55 (nI k) (nI W) σ = some ((), σ') ∧ Ag (fun p _ => p = 66) (fun _ _ => False) σ σ' ∧ ∀ i, i < n → sndB tm ls fs k i = true → gI σ' 66 i = nI (d i) := by
  unfold f_X9_layWay
  refine fx_inv2 (I := fun t s => s.1 = nI t ∧ Ag (fun p _ => p = 66) (fun _ _ => False) σ s.2 ∧ ∀ i, i < n → sndB tm ls fs k i = true → cntB (sndB tm ls fs k) i < t → gI s.2 66 i = nI (d i)) (Q := fun e => ∃ σ', e = some ((), σ') ∧ Ag (fun p _ => p = 66) (fun _ _ => False) σ σ' ∧ ∀ i, i < n → sndB tm ls fs k i = true → gI σ' 66 i = nI (d i)) (n := cntB (sndB tm ls fs k) n) ?_ ?_ (cntB (sndB tm ls fs k) n) 0 FU _ (by omega) (by unfold FU; omega) ⟨rfl, Ag.rf, fun i _ _ h => by omega⟩
  · rintro t ⟨x, τ⟩ ht ⟨rfl, hA, hz⟩ rec
    dsimp only at hA hz
    have hE2 := hE.ag hA (fun p k y => by unfold FM; omega)
    have hr2 := hE2.1
    obtain ⟨i, hi, hs, hit⟩ := nth_ex ht
    have e64 := hE2.2.2.2.2.2.1.2.2.2 k hk i hi hs
    rw [hit] at e64
    have t65 := hE2.2.2.2.2.2.1.2.2.1 k hk
    have ec := s_X9_courseIn (σ := τ) (t := t) hW.1 (by omega)
    have ed := hW.2 i hi hs
    rw [hit] at ed
    rw [ed] at ec
    left
    refine ⟨(nI (t + 1), pI τ 66 i (nI (d i))), ⟨rfl, hA.pI rfl, fun j hj hsj hc => ?_⟩, ?_⟩
    · rw [gI_pI]
      by_cases e : j = i
      · subst e; rw [if_pos ⟨rfl, rfl⟩]
      · rw [if_neg (by omega)]
        refine hz j hj hsj ?_
        have h1 := cnt_lt (S := sndB tm ls fs k) (j := j) (a := i) hsj
        have h2 := cnt_lt (S := sndB tm ls fs k) (j := i) (a := j) hs
        omega
    · unfold f_X9_layWay_L2
      dsimp only
      simp (disch := first | assumption | omega) only [↓lB_eq, ↓bd_m, ck_tt, gI_pI, gI_pL, gI_pR, gL_pI, gL_pL, gL_pR, gR_pI, gR_pL, rf_0_0, rf_0_1, rf_0_2, rf_0_3, rf_0_4, rf_0_5, rf_0_6, rf_0_7, rf_0_8, rf_0_9, rf_0_10, rf_1_1, rf_1_2, rf_4_0, rf_4_1, rf_4_2, rf_4_3, rf_4_4, rf_4_5, rf_11_0, rf_11_1, rf_12_0, rf_12_1, rf_12_2, rf_12_6, rf_12_7, rf_12_8, rf_13_0, rf_13_1, rf_13_2, rf_13_3, rf_18_0, rf_18_1, rf_18_2, rf_18_3, rf_23_0, rf_23_1, rf_23_2, rf_23_3, rf_31_0, rf_33_0, rf_33_2, rf_33_3, rf_33_4, rf_37_0, rf_39_0, rf_39_1, rf_39_2, rf_39_3, rf_40_0, rf_40_1, rf_40_2, rf_40_3, rf_47_3, rf_49_3, rf_51_3, rf_53_3, rf_55_1, rf_55_7, rf_55_8, rf_55_9, rf_55_11, rf_55_13, rf_55_14, rf_55_15, rf_55_17, rf_55_18, rf_55_19, rf_55_27, rf_55_28, rf_55_29, rf_55_30, rf_55_31, rf_55_32, rf_55_33, rf_55_34, rf_55_35, rf_55_36, rf_55_38, rf_55_44, rf_55_45, rf_55_46, rf_55_47, aL_2, aL_3, aL_5, aL_6, aL_7, aL_8, aL_9, aL_10, aL_14, aL_15, aL_16, aL_17, aL_19, aL_20, aL_21, aL_22, aL_24, aL_25, aL_26, aL_27, aL_28, aL_29, aL_30, aL_32, aL_34, aL_35, aL_36, aL_38, aL_39, aL_40, aL_41, aL_42, aL_43, aL_44, aL_45, aL_46, aL_48, aL_50, aL_52, aL_54, aL_56, aL_57, aL_58, aL_59, aL_60, aL_61, aL_62, aL_63, aL_64, aL_65, aL_66, aL_67, aL_68, aL_69, aL_70, aL_71, aL_72, aL_73, aL_74, aL_75, aL_76, aL_77, aL_78, aL_79, aL_80, aL_81, inb_nI, lit32, nI_clamp, nI_1, nI_add, if_pos, if_neg, b01_0, b01_1, Nat.add_sub_cancel, if_true, if_false, not_true_eq_false, not_false_eq_true, true_and, and_true, false_and, and_false, pk_sub, b01_n0, b01_n1, bI_t, bI_f, ofNat_nI, ck_d, Int32.lt_iff_toInt_lt, Int32.le_iff_toInt_le, i32_eq, nI_toInt, bI_b01, bI_0, decide_eq_true_eq, bI_tt, bI_ff, nI_prd, ↓reduceIte, iltT, iltF, ileT, ileF, ieqT, ieqF, dcT, dcF, or_true, or_false, true_or, false_or, t65, nI_mul, e64, ec]
  · rintro ⟨x, τ⟩ ⟨rfl, hA, hz⟩ rec
    dsimp only at hA hz
    have hE2 := hE.ag hA (fun p k y => by unfold FM; omega)
    have hr2 := hE2.1
    have t65 := hE2.2.2.2.2.2.1.2.2.1 k hk
    refine ⟨some ((), τ), ⟨τ, rfl, hA, fun i hi hs => hz i hi hs ((cnt_lt hs).2 hi)⟩, ?_⟩
    unfold f_X9_layWay_L2
    dsimp only
    simp (disch := first | assumption | omega) only [↓lB_eq, ↓bd_m, ck_tt, gI_pI, gI_pL, gI_pR, gL_pI, gL_pL, gL_pR, gR_pI, gR_pL, rf_0_0, rf_0_1, rf_0_2, rf_0_3, rf_0_4, rf_0_5, rf_0_6, rf_0_7, rf_0_8, rf_0_9, rf_0_10, rf_1_1, rf_1_2, rf_4_0, rf_4_1, rf_4_2, rf_4_3, rf_4_4, rf_4_5, rf_11_0, rf_11_1, rf_12_0, rf_12_1, rf_12_2, rf_12_6, rf_12_7, rf_12_8, rf_13_0, rf_13_1, rf_13_2, rf_13_3, rf_18_0, rf_18_1, rf_18_2, rf_18_3, rf_23_0, rf_23_1, rf_23_2, rf_23_3, rf_31_0, rf_33_0, rf_33_2, rf_33_3, rf_33_4, rf_37_0, rf_39_0, rf_39_1, rf_39_2, rf_39_3, rf_40_0, rf_40_1, rf_40_2, rf_40_3, rf_47_3, rf_49_3, rf_51_3, rf_53_3, rf_55_1, rf_55_7, rf_55_8, rf_55_9, rf_55_11, rf_55_13, rf_55_14, rf_55_15, rf_55_17, rf_55_18, rf_55_19, rf_55_27, rf_55_28, rf_55_29, rf_55_30, rf_55_31, rf_55_32, rf_55_33, rf_55_34, rf_55_35, rf_55_36, rf_55_38, rf_55_44, rf_55_45, rf_55_46, rf_55_47, aL_2, aL_3, aL_5, aL_6, aL_7, aL_8, aL_9, aL_10, aL_14, aL_15, aL_16, aL_17, aL_19, aL_20, aL_21, aL_22, aL_24, aL_25, aL_26, aL_27, aL_28, aL_29, aL_30, aL_32, aL_34, aL_35, aL_36, aL_38, aL_39, aL_40, aL_41, aL_42, aL_43, aL_44, aL_45, aL_46, aL_48, aL_50, aL_52, aL_54, aL_56, aL_57, aL_58, aL_59, aL_60, aL_61, aL_62, aL_63, aL_64, aL_65, aL_66, aL_67, aL_68, aL_69, aL_70, aL_71, aL_72, aL_73, aL_74, aL_75, aL_76, aL_77, aL_78, aL_79, aL_80, aL_81, inb_nI, lit32, nI_clamp, nI_1, nI_add, if_pos, if_neg, b01_0, b01_1, Nat.add_sub_cancel, if_true, if_false, not_true_eq_false, not_false_eq_true, true_and, and_true, false_and, and_false, pk_sub, b01_n0, b01_n1, bI_t, bI_f, ofNat_nI, ck_d, Int32.lt_iff_toInt_lt, Int32.le_iff_toInt_le, i32_eq, nI_toInt, bI_b01, bI_0, decide_eq_true_eq, bI_tt, bI_ff, nI_prd, ↓reduceIte, iltT, iltF, ileT, ileF, ieqT, ieqF, dcT, dcF, or_true, or_false, true_or, false_or, t65]
theorem RT'.eq {σ τ : Sg} {o g tm pt ls fs d : Nat → Nat} {z : Int} {k : Nat} (h : RT' σ o g tm pt ls fs z k d) (e : ∀ j, gI τ 55 j = gI σ 55 j) : RT' τ o g tm pt ls fs z k d := by
  unfold RT' at h ⊢
  rw [e, e, e, e, e, e]
  exact h
