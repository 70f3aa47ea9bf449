/-! the class's ways: keepGood -/
theorem HT.eq {σ τ : Sg} {o tm pt ls fs : Nat → Nat} {z : Int} {k : Nat} {d : Nat → Nat} (h : HT σ o tm pt ls fs z k d) (e : ∀ j, gI τ 11 j = gI σ 11 j) : HT τ o tm pt ls fs z k d := by
  unfold HT at h ⊢
  rw [e, e, e, e, e, e]
  exact h
theorem sP_suc (tm ls fs : Nat → Nat) (k : Nat) : sP tm ls fs (k + 1) = sndB tm ls fs k := funext fun _ => rfl
theorem s_kgStep {σ τ : Sg} {c n nk : Nat} {o g tm pt ls fs : Nat → Nat} {z : Int} {ban k u w m q a good : Nat} {D E : Nat → Nat → Nat} {x2 : Int32} {x3 x7 : Int64} {rec12 : Int32 × Int32 × Sg → Option (Unit × Sg)} (hr : RefI σ) (b1 : Bl c o g) (b2 : Bn n tm pt ls) (ho : ∀ j, j < 5 → gI σ 2 j = nI (o j)) (hst : ∀ j, j < 5 → gI σ 3 j = nI (g j)) (hN : N2 σ n tm pt ls) (p3 : P3 σ n tm ls nk fs) (hk : k < nk) (hz : -12 ≤ z ∧ z ≤ 12) (hx2 : x2.toInt = z) (r3 : gR σ 12 3 = u) (r4 : gR σ 12 4 = w) (hu : isW u) (hw : isW w) (hne : u ≠ w) (hM : AhM σ o g tm pt ls fs z u k m D) (hP : AhP c o g tm pt ls fs z ban k m D) (hx3 : x3 = lN (hg 0 (dg (sndB tm ls fs k) c7 (fs k)) 14)) (hq : q ≤ 120) (ha : a < q) (hx7 : x7 = lN (hg 0 (dg (sndB tm ls fs k) (E a) (fs (k + 1))) 14)) (hE : PLm c o g pt z ban (sndB tm ls fs k) (E a) (fs (k + 1))) (h : KgI c o g tm pt ls fs z ban k w q E σ a good τ) : ∃ good' τ', fx (f_X5_keepGood_L39 rec12 12 (nI k) x2 x3 (nI good) (nI a) x7) FU (nI 0, τ) = rec12 (nI good', nI (a + 1), τ') ∧ KgI c o g tm pt ls fs z ban k w q E σ (a + 1) good' τ' := by
  have hn := b2.1
  have hc5 := b1.2.1
  have hC := p3.1
  have hnk := hC.nk_le
  have hwb := hw.bd
  have hub := hu.bd
  have huw := hu.ne hw hne
  have hf1 := hC.2.2.1 k hk
  have hfn := hC.le (k := k + 1) (by omega)
  have hA := h.1
  have hga := h.2.1
  have hr0 : RefI τ := hA.ref hr
  have he5 : ∀ i, i < fs (k + 1) → sndB tm ls fs k i = true → E a i < 5 := fun i hi hs => by have := (hE.1 i hi hs).1; omega
  obtain ⟨υ1, e1, a1, f28⟩ := s_kgFill (rec12 := rec12) (x2 := x2) (x3 := x3) (x5 := nI good) (x6 := nI a) (k := k) (M := fs (k + 1)) (f := dg (sndB tm ls fs k) (E a) (fs (k + 1))) hr0 (by omega) ((hA.2.1 9 (k + 1) (by unfold Kp; omega)).trans (p3.2.2.1 (k + 1) (by omega))) (by omega) (fun i _ => dg_lt (fun i hi hs => by have := he5 i hi hs; omega) i) hx7
  have hr1 : RefI υ1 := a1.ref hr0
  have hA1 : Ag (Kp w) (KLp w) σ υ1 := hA.tr (a1.mono (fun p k y => by unfold Kp; omega) (fun _ _ y => y.elim))
  obtain ⟨υ2, e2, a2, hT⟩ := s_X0_look (x3 := x2) (q := 28) (d := E a) (k := k) hr1 b1 b2 (fun j hj => (hA1.2.1 2 j (by unfold Kp; omega)).trans (ho j hj)) (hN.ag hA1 (by unfold Kp; omega) (fun p k h1 h2 y => by unfold Kp at y; omega)) (p3.fr (fun p k y => hA1.2.1 p k (by unfold Kp; unfold S3 at y; omega))) hk rfl (by decide) (fun i hi hs => ⟨by rw [f28 i hi, dg_t hi hs], he5 i hi hs⟩) (by omega)
  rw [hx2] at hT
  have hA2 : Ag (Kp w) (KLp w) σ υ2 := hA1.tr (a2.mono (fun p k y => by unfold Kp; unfold S11 at y; omega) (fun _ _ y => y.elim))
  have hr2 : RefI υ2 := a2.ref hr1
  have haf : Ag (fun p _ => p = 11 ∨ p = 28) (fun _ _ => False) τ υ2 := (a1.mono (fun p k y => Or.inr y) (fun _ _ y => y)).tr (a2.mono (fun p k y => Or.inl y) (fun _ _ y => y))
  have fl := fin_le (o := o) (tm := tm) (pt := pt) (ls := ls) (fs := fs) (d := E a) (z := z) (k := k)
  have g1 : ∀ j, j < 5 → gI υ2 3 j = nI (g j) := fun j hj => (hA2.2.1 3 j (by unfold Kp; omega)).trans (hst j hj)
  have e3 := s_X0_wrongs (g := g) hr2 hT (g1 1 (by omega)) b1.2.2.2.2.2.1 (by omega) (fun i hi hs => (fret_bd hz (b2.2.1 i (by omega)).2.1 (b1.2.2.1 (E a i) (he5 i hi hs))).2)
  have hiff := Gd_iff hE
  rw [e1]
  unfold kgC
  rw [rf_12_2 hr1, rf_12_6 hr1, e2, bd_eq, rf_12_2 hr2, e3, bd_eq]
  by_cases hw0 : wrK o g tm pt ls fs z k (E a) = 0
  · have hGd := hiff.1 hw0
    rw [hw0, if_pos (show nI 0 = (0 : Int32) from rfl)]
    let e' : Nat → Nat := fun i => if sndB tm ls fs k i = true then E a i else 0
    have ee : ∀ i, sndB tm ls fs k i = true → E a i = e' i := fun i hs => (if_pos hs).symm
    have e5' : ∀ i, i < n → e' i < 5 := fun i _ => by
      show (if sndB tm ls fs k i = true then E a i else 0) < 5
      split
      · rename_i y; exact he5 i (snd_lt y) y
      · omega
    have lb := lowK_bd (z := z) (d := e') b1 b2 hC hk hz e5'
    rw [← lowK_cg (d := E a) ee] at lb
    have ob : ownK o g tm pt ls fs z k (E a) ≤ 135 := by
      have g3 := b1.2.2.2.2.2.2.2.1
      have g4 := b1.2.2.2.2.2.2.2.2
      have hp := prs_le (S := sndB tm ls fs k) (F := fret o pt z (E a)) (b := fs k) (m := fs (k + 1))
      unfold ownK
      have h1 : g 3 * prsC (sndB tm ls fs k) (fret o pt z (E a)) (fs k) (fs (k + 1)) ≤ 9 * 14 := Nat.mul_le_mul g3 (by omega)
      split <;> omega
    have hM2 : AhM υ2 o g tm pt ls fs z u k m D := by
      refine ⟨(hA2.2.1 u 4 (by unfold Kp; omega)).trans hM.1, fun b hb => ?_⟩
      obtain ⟨y1, y2, y3⟩ := hM.2 b hb
      exact ⟨(hA2.2.2.1 (u + 1) b (by unfold KLp; omega)).trans y1, by rw [hA2.2.1 (u + 3) b (by unfold Kp; omega)]; exact y2, (hA2.2.2.1 (u + 4) b (by unfold KLp; omega)).trans y3⟩
    obtain ⟨v, e4, hv⟩ := s_X5_bestAhead (e := E a) (x1 := x7) (x3 := x3) (x5 := gI υ2 11 2) hr2 b1 b2 hC hk hz ((hA2.2.2.2 12 3).trans r3) hu hM2 hP he5 hx7 hx3 hT.1 lb (g1 2 (by omega))
    rw [rf_12_2 hr2, e4, bd_eq]
    rcases hv with ⟨v1, v2⟩ | ⟨b, v1, v2, v3, v4⟩
    · refine ⟨good, υ2, ?_, h.skip haf hwb (fun d hd y => ?_)⟩
      · have l2 := (lgc_eq v (-1)).2 v1
        unfold f_X5_keepGood_L118 f_X5_keepGood_L188
        simp (disch := first | assumption | omega) only [↓lB_eq, ↓bd_m, ck_tt, gI_pI, gI_pL, gI_pR, gL_pI, gL_pL, gL_pR, gR_pI, gR_pL, rf_0_0, rf_0_1, rf_0_2, rf_0_3, rf_0_4, rf_0_5, rf_0_6, rf_0_7, rf_0_8, rf_0_9, rf_0_10, rf_1_1, rf_1_2, rf_4_0, rf_4_1, rf_4_2, rf_4_3, rf_4_4, rf_4_5, rf_11_0, rf_11_1, rf_12_0, rf_12_1, rf_12_2, rf_12_6, rf_12_7, rf_12_8, rf_13_0, rf_13_1, rf_13_2, rf_13_3, rf_18_0, rf_18_1, rf_18_2, rf_18_3, rf_23_0, rf_23_1, rf_23_2, rf_23_3, rf_31_0, rf_33_0, rf_33_2, rf_33_3, rf_33_4, rf_37_0, rf_39_0, rf_39_1, rf_39_2, rf_39_3, rf_40_0, rf_40_1, rf_40_2, rf_40_3, rf_47_3, rf_49_3, rf_51_3, rf_53_3, rf_55_1, rf_55_7, rf_55_8, rf_55_9, rf_55_11, rf_55_13, rf_55_14, rf_55_15, rf_55_17, rf_55_18, rf_55_19, rf_55_27, rf_55_28, rf_55_29, rf_55_30, rf_55_31, rf_55_32, rf_55_33, rf_55_34, rf_55_35, rf_55_36, rf_55_38, rf_55_44, rf_55_45, rf_55_46, rf_55_47, aL_2, aL_3, aL_5, aL_6, aL_7, aL_8, aL_9, aL_10, aL_14, aL_15, aL_16, aL_17, aL_19, aL_20, aL_21, aL_22, aL_24, aL_25, aL_26, aL_27, aL_28, aL_29, aL_30, aL_32, aL_34, aL_35, aL_36, aL_38, aL_39, aL_40, aL_41, aL_42, aL_43, aL_44, aL_45, aL_46, aL_48, aL_50, aL_52, aL_54, aL_56, aL_57, aL_58, aL_59, aL_60, aL_61, aL_62, aL_63, aL_64, aL_65, aL_66, aL_67, aL_68, aL_69, aL_70, aL_71, aL_72, aL_73, aL_74, aL_75, aL_76, aL_77, aL_78, aL_79, aL_80, aL_81, inb_nI, lit32, nI_clamp, nI_1, nI_add, if_pos, if_neg, b01_0, b01_1, Nat.add_sub_cancel, if_true, if_false, not_true_eq_false, not_false_eq_true, true_and, and_true, false_and, and_false, pk_sub, b01_n0, b01_n1, bI_t, bI_f, ofNat_nI, ck_d, Int32.lt_iff_toInt_lt, Int32.le_iff_toInt_le, i32_eq, nI_toInt, bI_b01, bI_0, decide_eq_true_eq, bI_tt, bI_ff, nI_prd, ↓reduceIte, iltT, iltF, ileT, ileF, ieqT, ieqF, dcT, dcF, or_true, or_false, true_or, false_or]
      · obtain ⟨b, hb, hbe⟩ := ah_some (e := E a) hC hk hP hd y
        exact v2 b hb hbe
    · have hGb := hP.2.1 b v1
      have kb := kvA_bd (e := E a) b1 b2 hC hk hz hGb lb
      have tv := pk_lT (n := kvA o g tm pt ls fs z k (E a) (D b)) (by omega)
      rw [← v3] at tv
      have l2 : ¬ (lg_cmp v (-1)).toInt = 0 := fun y => by
        have := (lgc_eq v (-1)).1 y
        rw [this, show (-1 : Int64).toInt = -1 from rfl] at tv
        omega
      have pv := pas_val (ban := ban) b1 b2 hC hz hk hGb he5 v2 (by omega)
      rw [← v3, ← hx7] at pv
      obtain ⟨h1, h2, h3, D', h4, h5⟩ := h
      let s7 : Sg := pI (pL υ2 (w + 1) good x7) (w + 3) good (gI υ2 11 2)
      have hT7 : HT s7 o tm pt ls fs z k (E a) := hT.eq (fun j => by
        show gI (pI (pL υ2 (w + 1) good x7) (w + 3) good (gI υ2 11 2)) 11 j = _
        rw [gI_pI, if_neg (by omega), gI_pL])
      have hr7 : RefI s7 := hr2
      have ech := s_X0_charge (g := g) hr7 hT7 (show gI (pI (pL υ2 (w + 1) good x7) (w + 3) good (gI υ2 11 2)) 3 3 = nI (g 3) by rw [gI_pI, if_neg (by omega), gI_pL]; exact g1 3 (by omega)) (show gI (pI (pL υ2 (w + 1) good x7) (w + 3) good (gI υ2 11 2)) 3 4 = nI (g 4) by rw [gI_pI, if_neg (by omega), gI_pL]; exact g1 4 (by omega))
      have ech' : f_X0_charge 11 (pI (pL υ2 (w + 1) good x7) (w + 3) good (gI υ2 11 2)) = some (nI (ownK o g tm pt ls fs z k (E a)), pI (pL υ2 (w + 1) good x7) (w + 3) good (gI υ2 11 2)) := ech
      have t4 : gR υ2 12 4 = w := (hA2.2.2.2 12 4).trans r4
      have q0 := wr0 hr2 hw
      have q2 := wr2 hr2 hw
      have q3 := wr3 hr2 hw
      have k1 := aw1 hw
      have k3 := aw3 hw
      have k4 := aw4 hw
      let υ3 : Sg := pL (pI (pL υ2 (w + 1) good x7) (w + 3) good (gI υ2 11 2)) (w + 4) good (lN (keyD o g tm pt ls fs z (k + 1) (pas (fs k) (D b) (E a))))
      refine ⟨good + 1, υ3, ?_, ?_, by omega, fun b' y1 y2 => ?_, upE D' good (pas (fs k) (D b) (E a)), fun b' hb' => ?_, fun d hd b' hb' hE' => ?_⟩
      · unfold f_X5_keepGood_L118 f_X5_keepGood_L188
        simp (disch := first | assumption | omega) only [↓lB_eq, ↓bd_m, ck_tt, gI_pI, gI_pL, gI_pR, gL_pI, gL_pL, gL_pR, gR_pI, gR_pL, rf_0_0, rf_0_1, rf_0_2, rf_0_3, rf_0_4, rf_0_5, rf_0_6, rf_0_7, rf_0_8, rf_0_9, rf_0_10, rf_1_1, rf_1_2, rf_4_0, rf_4_1, rf_4_2, rf_4_3, rf_4_4, rf_4_5, rf_11_0, rf_11_1, rf_12_0, rf_12_1, rf_12_2, rf_12_6, rf_12_7, rf_12_8, rf_13_0, rf_13_1, rf_13_2, rf_13_3, rf_18_0, rf_18_1, rf_18_2, rf_18_3, rf_23_0, rf_23_1, rf_23_2, rf_23_3, rf_31_0, rf_33_0, rf_33_2, rf_33_3, rf_33_4, rf_37_0, rf_39_0, rf_39_1, rf_39_2, rf_39_3, rf_40_0, rf_40_1, rf_40_2, rf_40_3, rf_47_3, rf_49_3, rf_51_3, rf_53_3, rf_55_1, rf_55_7, rf_55_8, rf_55_9, rf_55_11, rf_55_13, rf_55_14, rf_55_15, rf_55_17, rf_55_18, rf_55_19, rf_55_27, rf_55_28, rf_55_29, rf_55_30, rf_55_31, rf_55_32, rf_55_33, rf_55_34, rf_55_35, rf_55_36, rf_55_38, rf_55_44, rf_55_45, rf_55_46, rf_55_47, aL_2, aL_3, aL_5, aL_6, aL_7, aL_8, aL_9, aL_10, aL_14, aL_15, aL_16, aL_17, aL_19, aL_20, aL_21, aL_22, aL_24, aL_25, aL_26, aL_27, aL_28, aL_29, aL_30, aL_32, aL_34, aL_35, aL_36, aL_38, aL_39, aL_40, aL_41, aL_42, aL_43, aL_44, aL_45, aL_46, aL_48, aL_50, aL_52, aL_54, aL_56, aL_57, aL_58, aL_59, aL_60, aL_61, aL_62, aL_63, aL_64, aL_65, aL_66, aL_67, aL_68, aL_69, aL_70, aL_71, aL_72, aL_73, aL_74, aL_75, aL_76, aL_77, aL_78, aL_79, aL_80, aL_81, inb_nI, lit32, nI_clamp, nI_1, nI_add, if_pos, if_neg, b01_0, b01_1, Nat.add_sub_cancel, if_true, if_false, not_true_eq_false, not_false_eq_true, true_and, and_true, false_and, and_false, pk_sub, b01_n0, b01_n1, bI_t, bI_f, ofNat_nI, ck_d, Int32.lt_iff_toInt_lt, Int32.le_iff_toInt_le, i32_eq, nI_toInt, bI_b01, bI_0, decide_eq_true_eq, bI_tt, bI_ff, nI_prd, ↓reduceIte, iltT, iltF, ileT, ileF, ieqT, ieqF, dcT, dcF, or_true, or_false, true_or, false_or, t4, q0, q2, q3, k1, k3, k4, ech', pv]
        rfl
      · exact ((hA2.pL (Or.inl rfl)).pI (Or.inr (Or.inr rfl))).pL (Or.inr rfl)
      · show gL (pL (pI (pL υ2 (w + 1) good x7) (w + 3) good (gI υ2 11 2)) (w + 4) good _) (w + 1) b' = _
        rw [gL_pL, if_neg (by omega), gL_pI, gL_pL, if_neg (by omega), haf.2.2.1 _ _ id]
        exact h3 b' (by omega) y2
      · by_cases ey : b' = good
        · subst ey
          rw [upE_eq]
          refine ⟨⟨?_, ?_, ?_⟩, pas_good hC hk hGb hGd v2⟩
          · show gL (pL (pI (pL υ2 (w + 1) b' x7) (w + 3) b' (gI υ2 11 2)) (w + 4) b' _) (w + 1) b' = _
            rw [gL_pL, if_neg (by omega), gL_pI, gL_pL, if_pos ⟨rfl, rfl⟩, hx7]
            congr 1
            refine hg_cg (fun i _ => ?_)
            by_cases y : i < fs (k + 1) ∧ sndB tm ls fs k i = true
            · rw [dg_t y.1 y.2, dg_t y.1 y.2, pas_snd v2 i y.2]
            · rw [dg_n y, dg_n y]
          · show (gI (pL (pI (pL υ2 (w + 1) b' x7) (w + 3) b' (gI υ2 11 2)) (w + 4) b' _) (w + 3) b').toInt = _
            rw [gI_pL, gI_pI, if_pos ⟨rfl, rfl⟩, lowK_cg (pas_snd v2)]
            exact hT.1
          · show gL (pL (pI (pL υ2 (w + 1) b' x7) (w + 3) b' (gI υ2 11 2)) (w + 4) b' _) (w + 4) b' = _
            rw [gL_pL, if_pos ⟨rfl, rfl⟩]
        · rw [upE_ne ey]
          obtain ⟨⟨y1, y2, y3⟩, y4⟩ := h4 b' (by omega)
          refine ⟨⟨?_, ?_, ?_⟩, y4⟩
          · show gL (pL (pI (pL υ2 (w + 1) good x7) (w + 3) good (gI υ2 11 2)) (w + 4) good _) (w + 1) b' = _
            rw [gL_pL, if_neg (by omega), gL_pI, gL_pL, if_neg (by omega), haf.2.2.1 _ _ id]; exact y1
          · show (gI (pL (pI (pL υ2 (w + 1) good x7) (w + 3) good (gI υ2 11 2)) (w + 4) good _) (w + 3) b').toInt = _
            rw [gI_pL, gI_pI, if_neg (by omega), gI_pL, haf.2.1 (w + 3) b' (by omega)]; exact y2
          · show gL (pL (pI (pL υ2 (w + 1) good x7) (w + 3) good (gI υ2 11 2)) (w + 4) good _) (w + 4) b' = _
            rw [gL_pL, if_neg (by omega), gL_pI, gL_pL, if_neg (by omega), haf.2.2.1 _ _ id]; exact y3
      · by_cases ey : b' = a
        · subst ey
          refine ⟨good, by omega, ?_, ?_⟩
          · intro i hs
            rw [upE_eq, pas_snd v2 i hs]
            exact hE' i hs
          · rw [upE_eq]
            exact pas_min hC hk hP v2 v4 hd hE'
        · obtain ⟨b2', y1, y2, y3⟩ := h5 d hd b' (by omega) hE'
          refine ⟨b2', by omega, ?_, ?_⟩
          · rw [upE_ne (by omega)]; exact y2
          · rw [upE_ne (by omega)]; exact y3
  · have hwk : wrK o g tm pt ls fs z k (E a) < 2 ^ 31 := by
      unfold wrK
      split <;> split <;> split <;> omega
    rw [if_neg (show ¬ nI (wrK o g tm pt ls fs z k (E a)) = (0 : Int32) from fun y => hw0 ((nI_eq (b := 0) hwk (by omega)).1 y))]
    refine ⟨good, υ2, ?_, h.skip haf hwb (fun d hd y => hw0 (hiff.2 ((hd k (by omega)).cg (fun i hs => (y i hs).symm))))⟩
    have l2 := (lgc_eq (-1) (-1)).2 rfl
    unfold f_X5_keepGood_L118 f_X5_keepGood_L188
    simp (disch := first | assumption | omega) only [↓lB_eq, ↓bd_m, ck_tt, gI_pI, gI_pL, gI_pR, gL_pI, gL_pL, gL_pR, gR_pI, gR_pL, rf_0_0, rf_0_1, rf_0_2, rf_0_3, rf_0_4, rf_0_5, rf_0_6, rf_0_7, rf_0_8, rf_0_9, rf_0_10, rf_1_1, rf_1_2, rf_4_0, rf_4_1, rf_4_2, rf_4_3, rf_4_4, rf_4_5, rf_11_0, rf_11_1, rf_12_0, rf_12_1, rf_12_2, rf_12_6, rf_12_7, rf_12_8, rf_13_0, rf_13_1, rf_13_2, rf_13_3, rf_18_0, rf_18_1, rf_18_2, rf_18_3, rf_23_0, rf_23_1, rf_23_2, rf_23_3, rf_31_0, rf_33_0, rf_33_2, rf_33_3, rf_33_4, rf_37_0, rf_39_0, rf_39_1, rf_39_2, rf_39_3, rf_40_0, rf_40_1, rf_40_2, rf_40_3, rf_47_3, rf_49_3, rf_51_3, rf_53_3, rf_55_1, rf_55_7, rf_55_8, rf_55_9, rf_55_11, rf_55_13, rf_55_14, rf_55_15, rf_55_17, rf_55_18, rf_55_19, rf_55_27, rf_55_28, rf_55_29, rf_55_30, rf_55_31, rf_55_32, rf_55_33, rf_55_34, rf_55_35, rf_55_36, rf_55_38, rf_55_44, rf_55_45, rf_55_46, rf_55_47, aL_2, aL_3, aL_5, aL_6, aL_7, aL_8, aL_9, aL_10, aL_14, aL_15, aL_16, aL_17, aL_19, aL_20, aL_21, aL_22, aL_24, aL_25, aL_26, aL_27, aL_28, aL_29, aL_30, aL_32, aL_34, aL_35, aL_36, aL_38, aL_39, aL_40, aL_41, aL_42, aL_43, aL_44, aL_45, aL_46, aL_48, aL_50, aL_52, aL_54, aL_56, aL_57, aL_58, aL_59, aL_60, aL_61, aL_62, aL_63, aL_64, aL_65, aL_66, aL_67, aL_68, aL_69, aL_70, aL_71, aL_72, aL_73, aL_74, aL_75, aL_76, aL_77, aL_78, aL_79, aL_80, aL_81, inb_nI, lit32, nI_clamp, nI_1, nI_add, if_pos, if_neg, b01_0, b01_1, Nat.add_sub_cancel, if_true, if_false, not_true_eq_false, not_false_eq_true, true_and, and_true, false_and, and_false, pk_sub, b01_n0, b01_n1, bI_t, bI_f, ofNat_nI, ck_d, Int32.lt_iff_toInt_lt, Int32.le_iff_toInt_le, i32_eq, nI_toInt, bI_b01, bI_0, decide_eq_true_eq, bI_tt, bI_ff, nI_prd, ↓reduceIte, iltT, iltF, ileT, ileF, ieqT, ieqF, dcT, dcF, or_true, or_false, true_or, false_or]
theorem s_X5_keepGood {σ : Sg} {c n nk : Nat} {o g tm pt ls fs : Nat → Nat} {z : Int} {ban k u w m q : Nat} {D E : Nat → Nat → Nat} {x2 : Int32} (hr : RefI σ) (b1 : Bl c o g) (b2 : Bn n tm pt ls) (ho : ∀ j, j < 5 → gI σ 2 j = nI (o j)) (hst : ∀ j, j < 5 → gI σ 3 j = nI (g j)) (hN : N2 σ n tm pt ls) (p3 : P3 σ n tm ls nk fs) (hk : k < nk) (hz : -12 ≤ z ∧ z ≤ 12) (hx2 : x2.toInt = z) (r3 : gR σ 12 3 = u) (r4 : gR σ 12 4 = w) (hu : isW u) (hw : isW w) (hne : u ≠ w) (hM : AhM σ o g tm pt ls fs z u k m D) (hP : AhP c o g tm pt ls fs z ban k m D) (hq : q ≤ 120) (h4 : gI σ w 4 = nI q) (hE : ∀ a, a < q → gL σ (w + 1) a = lN (hg 0 (dg (sndB tm ls fs k) (E a) (fs (k + 1))) 14) ∧ PLm c o g pt z ban (sndB tm ls fs k) (E a) (fs (k + 1))) (hcm : ∀ d, PLm c o g pt z ban (sndB tm ls fs k) d (fs (k + 1)) → ∃ a, a < q ∧ ∀ i, i < fs (k + 1) → sndB tm ls fs k i = true → E a i = d i) : ∃ (τ : Sg) (m' : Nat) (D' : Nat → Nat → Nat), f_X5_keepGood 12 (nI k) x2 σ = some ((), τ) ∧ Ag (fun p k => Kp w p k ∨ (p = w ∧ k = 4)) (KLp w) σ τ ∧ AhM τ o g tm pt ls fs z w (k + 1) m' D' ∧ AhP c o g tm pt ls fs z ban (k + 1) m' D' := by
  have hn := b2.1
  have hC := p3.1
  have hnk := hC.nk_le
  have hwb := hw.bd
  have eh := s_X5_heldBits hr hn p3 hk
  have loop : ∃ τ good, fx (f_X5_keepGood_L12 12 (nI k) x2 (lN (hg 0 (dg (sndB tm ls fs k) c7 (fs k)) 14))) FU (nI 0, nI 0, σ) = some ((), pI τ w 4 (nI good)) ∧ KgI c o g tm pt ls fs z ban k w q E σ q good τ := by
    refine fx_inv2 (I := fun a s => ∃ good τ, s = (nI good, nI a, τ) ∧ KgI c o g tm pt ls fs z ban k w q E σ a good τ) (Q := fun e => ∃ τ good, e = some ((), pI τ w 4 (nI good)) ∧ KgI c o g tm pt ls fs z ban k w q E σ q good τ) (n := q) ?_ ?_ q 0 FU _ (by omega) (by unfold FU; omega) ⟨0, σ, rfl, Ag.rf, by omega, fun _ _ _ => rfl, fun _ _ => 0, fun b hb => by omega, fun d hd b hb => by omega⟩
    · rintro a s ha ⟨good, τ, rfl, hI⟩ rec
      have hr0 : RefI τ := hI.1.ref hr
      have t4 : gR τ 12 4 = w := (hI.1.2.2.2 12 4).trans r4
      have t44 : gI τ w 4 = nI q := (hI.1.2.1 w 4 (by unfold Kp; omega)).trans h4
      have q0 := wr0 hr0 hw
      have k1 := aw1 hw
      have eL : gL τ (w + 1) a = lN (hg 0 (dg (sndB tm ls fs k) (E a) (fs (k + 1))) 14) := (hI.2.2.1 a (Nat.le_refl _) ha).trans (hE a ha).1
      obtain ⟨good', τ', e1, hI'⟩ := s_kgStep (rec12 := rec) (x2 := x2) (x7 := gL τ (w + 1) a) hr b1 b2 ho hst hN p3 hk hz hx2 r3 r4 hu hw hne hM hP rfl hq ha eL (hE a ha).2 hI
      left
      refine ⟨(nI good', nI (a + 1), τ'), ⟨good', τ', rfl, hI'⟩, ?_⟩
      rw [← e1]
      unfold f_X5_keepGood_L12
      dsimp only
      rw [t4, t44, if_neg (by rw [Int32.le_iff_toInt_le, nI_toInt (by omega), nI_toInt (by omega)]; omega), q0, k1, inb_nI (by omega), ck_d (by omega), nI_clamp (by omega)]
      rfl
    · rintro s ⟨good, τ, rfl, hI⟩ rec
      have t4 : gR τ 12 4 = w := (hI.1.2.2.2 12 4).trans r4
      have t44 : gI τ w 4 = nI q := (hI.1.2.1 w 4 (by unfold Kp; omega)).trans h4
      refine ⟨some ((), pI τ w 4 (nI good)), ⟨τ, good, rfl, hI⟩, ?_⟩
      unfold f_X5_keepGood_L12
      dsimp only
      rw [t4, t44, if_pos (by rw [Int32.le_iff_toInt_le]; exact Int.le_refl _)]
      rfl
  obtain ⟨τ, good, e, hA, hga, _, D', i4, i5⟩ := loop
  refine ⟨pI τ w 4 (nI good), good, D', ?_, ?_, ⟨?_, fun b hb => ?_⟩, by omega, fun b hb => (i4 b hb).2, fun d hd => ?_⟩
  · unfold f_X5_keepGood
    rw [eh, bd_eq]
    exact e
  · exact (hA.mono (fun p k y => Or.inl y) (fun _ _ y => y)).pI (Or.inr ⟨rfl, rfl⟩)
  · rw [gI_pI, if_pos ⟨rfl, rfl⟩]
  · obtain ⟨⟨y1, y2, y3⟩, _⟩ := i4 b hb
    rw [sP_suc]
    exact ⟨y1, by rw [gI_pI, if_neg (by omega)]; exact y2, y3⟩
  · have hg1 := hd k (by omega)
    obtain ⟨a, ha, hl⟩ := hcm d ⟨fun i _ hs => hg1.1 i hs, hg1.2.1⟩
    exact i5 d hd a ha (fun i hs => hl i (snd_lt hs) hs)
