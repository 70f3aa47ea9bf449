/-! go -/
theorem s_X8_goT {σ σ1 : Sg} {s : Nat} {r : Int32} (hr : RefI σ) (hs : s < 4) (q1 : gI σ 45 s = nI 1) (e1 : f_X8_costOfLaid 0 (pI (cpyI σ (41 + s) 0 46 0 14) 0 11 1) = some (r, σ1)) : f_X8_go 0 (nI s) σ = some (r, σ1) := by
  have hcp := cpb_n (a := 0) (b := 0) (n := 14) (np := 14) (nq := 14) (by omega) (by omega) (by omega) (by omega)
  have e40 := rf40 hr hs
  have a41 := aL41 hs
  unfold f_X8_go
  rw [s_X8_isSlot, bd_eq, nI_toInt (by omega), decide_eq_true (by omega), if_neg (by decide), rf_0_9 hr, aL_45, inb_nI (by omega), ck_d (by omega), nI_clamp (by omega), q1, if_neg (by decide), rf_0_8 hr, aL_40, inb_nI (by omega), ck_d (by omega), e40, rf_0_10 hr, aL_46, a41]
  rw [show (0 : Int32) = nI 0 from rfl, show (14 : Int32) = nI 14 from rfl, hcp, ck_tt, lB_eq, nI_clamp (by omega), nI_clamp (by omega), ck_of b01_1, lB_eq, e1, bd_eq]
theorem s_X9_goT {σ : Sg} {c n nk s : Nat} {o g tm pt ls fs e : Nat → Nat} (hr : RefI σ) (b1 : Bl c o g) (b2 : Bn n tm pt ls) (p1 : P1 σ c o g) (p2 : P2 σ n tm pt ls) (hC : Ch n tm nk fs) (h20 : gI σ 55 20 = nI 0) (hs : s < 4) (q2 : gI σ 62 s = nI 1) (he : ∀ i, i < n → e i < c ∧ gI σ 61 (14 * s + i) = nI (e i)) : ∃ σ', f_X9_go 55 (nI s) σ = some (nI (costTo o g tm pt ls fs 0 nk e), σ') ∧ Ag (fun p k => p = 60 ∨ (p = 55 ∧ k = 12) ∨ SR p k ∨ p = 66 ∨ SL p k) (fun _ _ => False) σ σ' ∧ gI σ' 55 12 = nI 1 ∧ ∀ i, i < n → gI σ' 60 i = nI (e i) := by
  have hn := b2.1
  have loop : ∃ σ', fx (f_X9_go_L27 55 (nI s)) FU (nI 0, σ) = bd (f_X9_costNow 55 (pI σ' 55 12 1)) (fun r s => some (r, s)) ∧ Ag (fun p k => p = 60) (fun _ _ => False) σ σ' ∧ ∀ i, i < n → gI σ' 60 i = nI (e i) := by
    refine fx_inv2 (I := fun i s' => s'.1 = nI i ∧ Ag (fun p k => p = 60) (fun _ _ => False) σ s'.2 ∧ ∀ k, k < i → gI s'.2 60 k = nI (e k)) (Q := fun ee => ∃ σ', ee = bd (f_X9_costNow 55 (pI σ' 55 12 1)) (fun r s => some (r, s)) ∧ Ag (fun p k => p = 60) (fun _ _ => False) σ σ' ∧ ∀ i, i < n → gI σ' 60 i = nI (e i)) (n := n) ?_ ?_ n 0 FU _ (by omega) (by unfold FU; omega) ⟨rfl, Ag.rf, fun k hk => by omega⟩
    · rintro i ⟨x, υ⟩ hi ⟨rfl, hA, hl⟩ rec
      dsimp only at hA hl
      have hr3 : RefI υ := hA.ref hr
      have u10 : gI υ 55 10 = nI n := (hA.2.1 55 10 (by omega)).trans p2.2.1
      have u61 : gI υ 61 (14 * s + i) = nI (e i) := (hA.2.1 61 _ (by omega)).trans (he i hi).2
      left
      refine ⟨(nI (i + 1), pI υ 60 i (nI (e i))), ⟨rfl, hA.pI rfl, fun k hk => ?_⟩, ?_⟩
      · rw [gI_pI]
        by_cases ek : k = i
        · subst ek; rw [if_pos ⟨rfl, rfl⟩]
        · rw [if_neg (by omega)]; exact hl k (by omega)
      · unfold f_X9_go_L27
        dsimp only
        simp (disch := first | assumption | omega) only [↓lB_eq, ↓bd_m, ck_tt, gI_pI, gI_pL, gI_pR, gL_pI, gL_pL, gL_pR, gR_pI, gR_pL, rf_0_0, rf_0_1, rf_0_2, rf_0_3, rf_0_4, rf_0_5, rf_0_6, rf_0_7, rf_0_8, rf_0_9, rf_0_10, rf_1_1, rf_1_2, rf_4_0, rf_4_1, rf_4_2, rf_4_3, rf_4_4, rf_4_5, rf_11_0, rf_11_1, rf_12_0, rf_12_1, rf_12_2, rf_12_6, rf_12_7, rf_12_8, rf_13_0, rf_13_1, rf_13_2, rf_13_3, rf_18_0, rf_18_1, rf_18_2, rf_18_3, rf_23_0, rf_23_1, rf_23_2, rf_23_3, rf_31_0, rf_33_0, rf_33_2, rf_33_3, rf_33_4, rf_37_0, rf_39_0, rf_39_1, rf_39_2, rf_39_3, rf_40_0, rf_40_1, rf_40_2, rf_40_3, rf_47_3, rf_49_3, rf_51_3, rf_53_3, rf_55_1, rf_55_7, rf_55_8, rf_55_9, rf_55_11, rf_55_13, rf_55_14, rf_55_15, rf_55_17, rf_55_18, rf_55_19, rf_55_27, rf_55_28, rf_55_29, rf_55_30, rf_55_31, rf_55_32, rf_55_33, rf_55_34, rf_55_35, rf_55_36, rf_55_38, rf_55_44, rf_55_45, rf_55_46, rf_55_47, aL_2, aL_3, aL_5, aL_6, aL_7, aL_8, aL_9, aL_10, aL_14, aL_15, aL_16, aL_17, aL_19, aL_20, aL_21, aL_22, aL_24, aL_25, aL_26, aL_27, aL_28, aL_29, aL_30, aL_32, aL_34, aL_35, aL_36, aL_38, aL_39, aL_40, aL_41, aL_42, aL_43, aL_44, aL_45, aL_46, aL_48, aL_50, aL_52, aL_54, aL_56, aL_57, aL_58, aL_59, aL_60, aL_61, aL_62, aL_63, aL_64, aL_65, aL_66, aL_67, aL_68, aL_69, aL_70, aL_71, aL_72, aL_73, aL_74, aL_75, aL_76, aL_77, aL_78, aL_79, aL_80, aL_81, inb_nI, lit32, nI_clamp, nI_1, nI_add, if_pos, if_neg, b01_0, b01_1, Nat.add_sub_cancel, if_true, if_false, not_true_eq_false, not_false_eq_true, true_and, and_true, false_and, and_false, pk_sub, b01_n0, b01_n1, bI_t, bI_f, ofNat_nI, ck_d, Int32.lt_iff_toInt_lt, Int32.le_iff_toInt_le, i32_eq, nI_toInt, bI_b01, bI_0, decide_eq_true_eq, bI_tt, bI_ff, nI_prd, ↓reduceIte, iltT, iltF, ileT, ileF, ieqT, ieqF, dcT, dcF, or_true, or_false, true_or, false_or, u10, nI_mul, u61]
    · rintro ⟨x, υ⟩ ⟨rfl, hA, hl⟩ rec
      dsimp only at hA hl
      have u10 : gI υ 55 10 = nI n := (hA.2.1 55 10 (by omega)).trans p2.2.1
      refine ⟨bd (f_X9_costNow 55 (pI υ 55 12 1)) (fun r s => some (r, s)), ⟨υ, rfl, hA, hl⟩, ?_⟩
      unfold f_X9_go_L27
      dsimp only
      rw [u10, if_pos (by rw [Int32.le_iff_toInt_le]; exact Int.le_refl _), ck_of b01_1, lB_eq]
  obtain ⟨σ2, e2, c1, c2⟩ := loop
  have hr2 : RefI (pI σ2 55 12 1) := c1.ref hr
  have key2 : ∀ p k, ¬ (p = 60 ∨ (p = 55 ∧ k = 12)) → gI (pI σ2 55 12 1) p k = gI σ p k := fun p k z => by
    rw [gI_pI, if_neg (by omega), c1.2.1 p k (by omega)]
  obtain ⟨σ3, e3, a3⟩ := s_X9_costNow (d := e) hr2 b1 b2 (p1.fr fun p k z => key2 p k (by unfold S1 at z; omega)) (p2.fr fun p k z => key2 p k (by unfold S2 at z; omega)) hC (fun i hi => ⟨by rw [gI_pI, if_neg (by omega)]; exact c2 i hi, (he i hi).1⟩) (by rw [gI_pI, if_pos ⟨rfl, rfl⟩]; rfl) ((key2 55 20 (by omega)).trans h20)
  rw [e3, bd_eq] at e2
  have hB : Ag (fun p k => p = 60 ∨ (p = 55 ∧ k = 12) ∨ SR p k ∨ p = 66 ∨ SL p k) (fun _ _ => False) σ (pI σ2 55 12 1) := Ag.pI (c1.mono (fun p k z => Or.inl z) (fun _ _ z => z)) (Or.inr (Or.inl ⟨rfl, rfl⟩))
  refine ⟨σ3, ?_, hB.tr (a3.mono (fun p k z => Or.inr (Or.inr z)) (fun _ _ z => z)), ?_, fun i hi => ?_⟩
  · unfold f_X9_go
    rw [s_X9_isSlot, bd_eq, nI_toInt (by omega), decide_eq_true (by omega), if_neg (by decide), rf_55_14 hr, aL_62, inb_nI (by omega), ck_d (by omega), nI_clamp (by omega), q2, if_neg (by decide)]
    exact e2
  · rw [a3.2.1 55 12 (by unfold SR SL; omega), gI_pI, if_pos ⟨rfl, rfl⟩]; rfl
  · rw [a3.2.1 60 i (by unfold SR SL; omega), gI_pI, if_neg (by omega)]; exact c2 i hi
theorem m_go {σ : Sg} (h : Rel σ) (x : Int32) : Both σ (f_X8_go 0 x) (f_X9_go 55 x) := by
  obtain ⟨hr, c, n, nk, t, o, g, tm, pt, ls, fs, d, tb, il, b1, b2, p1, p2, p3, p4, p5, p6, p7, p8, p9⟩ := id h
  have hn := b2.1
  have hc5 := b1.2.1
  by_cases hx : 0 ≤ x.toInt ∧ x.toInt ≤ 3
  · obtain ⟨s, hs, rfl⟩ : ∃ a, a < 4 ∧ x = nI a := ⟨x.toInt.toNat, by omega, i32_nI (by omega)⟩
    obtain ⟨b, q1, q2, q3⟩ := p5 s hs
    cases b with
    | false =>
      refine ⟨-10 - 1, pI σ 0 12 1, pI (pI σ 0 12 1) 55 48 1, ?_, ?_, h.find 1⟩
      · unfold f_X8_go
        simp (disch := first | assumption | omega) only [↓lB_eq, ↓bd_m, ck_tt, gI_pI, gI_pL, gI_pR, gL_pI, gL_pL, gL_pR, gR_pI, gR_pL, rf_0_0, rf_0_1, rf_0_2, rf_0_3, rf_0_4, rf_0_5, rf_0_6, rf_0_7, rf_0_8, rf_0_9, rf_0_10, rf_1_1, rf_1_2, rf_4_0, rf_4_1, rf_4_2, rf_4_3, rf_4_4, rf_4_5, rf_11_0, rf_11_1, rf_12_0, rf_12_1, rf_12_2, rf_12_6, rf_12_7, rf_12_8, rf_13_0, rf_13_1, rf_13_2, rf_13_3, rf_18_0, rf_18_1, rf_18_2, rf_18_3, rf_23_0, rf_23_1, rf_23_2, rf_23_3, rf_31_0, rf_33_0, rf_33_2, rf_33_3, rf_33_4, rf_37_0, rf_39_0, rf_39_1, rf_39_2, rf_39_3, rf_40_0, rf_40_1, rf_40_2, rf_40_3, rf_47_3, rf_49_3, rf_51_3, rf_53_3, rf_55_1, rf_55_7, rf_55_8, rf_55_9, rf_55_11, rf_55_13, rf_55_14, rf_55_15, rf_55_17, rf_55_18, rf_55_19, rf_55_27, rf_55_28, rf_55_29, rf_55_30, rf_55_31, rf_55_32, rf_55_33, rf_55_34, rf_55_35, rf_55_36, rf_55_38, rf_55_44, rf_55_45, rf_55_46, rf_55_47, aL_2, aL_3, aL_5, aL_6, aL_7, aL_8, aL_9, aL_10, aL_14, aL_15, aL_16, aL_17, aL_19, aL_20, aL_21, aL_22, aL_24, aL_25, aL_26, aL_27, aL_28, aL_29, aL_30, aL_32, aL_34, aL_35, aL_36, aL_38, aL_39, aL_40, aL_41, aL_42, aL_43, aL_44, aL_45, aL_46, aL_48, aL_50, aL_52, aL_54, aL_56, aL_57, aL_58, aL_59, aL_60, aL_61, aL_62, aL_63, aL_64, aL_65, aL_66, aL_67, aL_68, aL_69, aL_70, aL_71, aL_72, aL_73, aL_74, aL_75, aL_76, aL_77, aL_78, aL_79, aL_80, aL_81, inb_nI, lit32, nI_clamp, nI_1, nI_add, if_pos, if_neg, b01_0, b01_1, Nat.add_sub_cancel, if_true, if_false, not_true_eq_false, not_false_eq_true, true_and, and_true, false_and, and_false, pk_sub, b01_n0, b01_n1, bI_t, bI_f, ofNat_nI, ck_d, Int32.lt_iff_toInt_lt, Int32.le_iff_toInt_le, i32_eq, nI_toInt, bI_b01, bI_0, decide_eq_true_eq, bI_tt, bI_ff, nI_prd, ↓reduceIte, iltT, iltF, ileT, ileF, ieqT, ieqF, dcT, dcF, or_true, or_false, true_or, false_or, s_X8_isSlot, q1, s_X8_finding]
      · unfold f_X9_go
        simp (disch := first | assumption | omega) only [↓lB_eq, ↓bd_m, ck_tt, gI_pI, gI_pL, gI_pR, gL_pI, gL_pL, gL_pR, gR_pI, gR_pL, rf_0_0, rf_0_1, rf_0_2, rf_0_3, rf_0_4, rf_0_5, rf_0_6, rf_0_7, rf_0_8, rf_0_9, rf_0_10, rf_1_1, rf_1_2, rf_4_0, rf_4_1, rf_4_2, rf_4_3, rf_4_4, rf_4_5, rf_11_0, rf_11_1, rf_12_0, rf_12_1, rf_12_2, rf_12_6, rf_12_7, rf_12_8, rf_13_0, rf_13_1, rf_13_2, rf_13_3, rf_18_0, rf_18_1, rf_18_2, rf_18_3, rf_23_0, rf_23_1, rf_23_2, rf_23_3, rf_31_0, rf_33_0, rf_33_2, rf_33_3, rf_33_4, rf_37_0, rf_39_0, rf_39_1, rf_39_2, rf_39_3, rf_40_0, rf_40_1, rf_40_2, rf_40_3, rf_47_3, rf_49_3, rf_51_3, rf_53_3, rf_55_1, rf_55_7, rf_55_8, rf_55_9, rf_55_11, rf_55_13, rf_55_14, rf_55_15, rf_55_17, rf_55_18, rf_55_19, rf_55_27, rf_55_28, rf_55_29, rf_55_30, rf_55_31, rf_55_32, rf_55_33, rf_55_34, rf_55_35, rf_55_36, rf_55_38, rf_55_44, rf_55_45, rf_55_46, rf_55_47, aL_2, aL_3, aL_5, aL_6, aL_7, aL_8, aL_9, aL_10, aL_14, aL_15, aL_16, aL_17, aL_19, aL_20, aL_21, aL_22, aL_24, aL_25, aL_26, aL_27, aL_28, aL_29, aL_30, aL_32, aL_34, aL_35, aL_36, aL_38, aL_39, aL_40, aL_41, aL_42, aL_43, aL_44, aL_45, aL_46, aL_48, aL_50, aL_52, aL_54, aL_56, aL_57, aL_58, aL_59, aL_60, aL_61, aL_62, aL_63, aL_64, aL_65, aL_66, aL_67, aL_68, aL_69, aL_70, aL_71, aL_72, aL_73, aL_74, aL_75, aL_76, aL_77, aL_78, aL_79, aL_80, aL_81, inb_nI, lit32, nI_clamp, nI_1, nI_add, if_pos, if_neg, b01_0, b01_1, Nat.add_sub_cancel, if_true, if_false, not_true_eq_false, not_false_eq_true, true_and, and_true, false_and, and_false, pk_sub, b01_n0, b01_n1, bI_t, bI_f, ofNat_nI, ck_d, Int32.lt_iff_toInt_lt, Int32.le_iff_toInt_le, i32_eq, nI_toInt, bI_b01, bI_0, decide_eq_true_eq, bI_tt, bI_ff, nI_prd, ↓reduceIte, iltT, iltF, ileT, ileF, ieqT, ieqF, dcT, dcF, or_true, or_false, true_or, false_or, s_X9_isSlot, q2, s_X9_meets]
    | true =>
      have : ∃ e : Nat → Nat, ∀ i, i < n → e i < c ∧ gI σ (41 + s) i = nI (e i) ∧ gI σ 61 (14 * s + i) = nI (e i) := by
        refine ⟨fun i => (gI σ (41 + s) i).toInt.toNat, fun i hi => ?_⟩
        obtain ⟨v, v1, v2, v3⟩ := q3 rfl i hi
        have : (gI σ (41 + s) i).toInt.toNat = v := by rw [v2, nI_toInt (by omega)]; rfl
        dsimp only
        rw [this]
        exact ⟨v1, v2, v3⟩
      obtain ⟨e, he⟩ := this
      have hr0 : RefI (pI (cpyI σ (41 + s) 0 46 0 14) 0 11 1) := hr
      have key0 : ∀ p k, ¬ (p = 46 ∨ (p = 0 ∧ k = 11)) → gI (pI (cpyI σ (41 + s) 0 46 0 14) 0 11 1) p k = gI σ p k := fun p k z => by
        rw [gI_pI, if_neg (by omega), gI_cpyI, if_neg (by omega)]
      have d46 : ∀ i, i < n → gI (pI (cpyI σ (41 + s) 0 46 0 14) 0 11 1) 46 i = nI (e i) ∧ e i < c := fun i hi => by
        refine ⟨?_, (he i hi).1⟩
        rw [gI_pI, if_neg (by omega), gI_cpyI, if_pos rfl, if_pos (by omega), show 0 + (i - 0) = i by omega]
        exact (he i hi).2.1
      obtain ⟨σ1, e1, a1⟩ := s_X8_costOfLaid hr0 b1 b2 (p1.fr fun p k z => key0 p k (by unfold S1 at z; omega)) (p2.fr fun p k z => key0 p k (by unfold S2 at z; omega)) (p3.fr fun p k z => key0 p k (by unfold S3 at z; omega)) d46
      have hr1 : RefI σ1 := a1.ref hr0
      have key1 : ∀ p k, ¬ (p = 46 ∨ (p = 0 ∧ k = 11) ∨ p = 11) → gI σ1 p k = gI σ p k := fun p k z => by
        rw [a1.2.1 p k (by unfold S11; omega)]; exact key0 p k (by omega)
      obtain ⟨σ3, e3, a3, h12, h60⟩ := s_X9_goT (σ := σ1) (s := s) (e := e) hr1 b1 b2 (p1.fr fun p k z => key1 p k (by unfold S1 at z; omega)) (p2.fr fun p k z => key1 p k (by unfold S2 at z; omega)) p3.1 ((key1 55 20 (by omega)).trans p8.2) hs ((key1 62 s (by omega)).trans q2) (fun i hi => ⟨(he i hi).1, (key1 61 _ (by omega)).trans (he i hi).2.2⟩)
      have key : ∀ p k, ¬ (p = 46 ∨ (p = 0 ∧ k = 11) ∨ p = 11 ∨ p = 60 ∨ (p = 55 ∧ k = 12) ∨ (p = 55 ∧ k = 16) ∨ (63 ≤ p ∧ p ≤ 66) ∨ (p = 55 ∧ 21 ≤ k ∧ k ≤ 26)) → gI σ3 p k = gI σ p k := fun p k z => by
        rw [a3.2.1 p k (by unfold SR SL; omega)]; exact key1 p k (by omega)
      have keyL : ∀ p k, p ≠ 999 → gL σ3 p k = gL σ p k := fun p k _ => by
        rw [a3.2.2.1 p k id, a1.2.2.1 p k id]; rfl
      refine ⟨nI (costTo o g tm pt ls fs 0 nk e), σ1, σ3, s_X8_goT hr hs q1 e1, e3, a3.ref hr1, c, n, nk, t, o, g, tm, pt, ls, fs, e, tb, true, b1, b2, (p1.fr fun p k z => key p k (by unfold S1 at z; omega)), (p2.fr fun p k z => key p k (by unfold S2 at z; omega)), (p3.fr fun p k z => key p k (by unfold S3 at z; omega)), ⟨?_, h12, fun _ i hi => ⟨?_, h60 i hi, (he i hi).1⟩⟩, (p5.fr fun p k z => key p k (by unfold S5 at z; omega)), (p6.fr fun p k z => key p k (by unfold S6 at z; omega)), (p7.fr (fun p k z => key p k (by unfold S7 at z; omega)) (fun p k z => keyL p k (by unfold S7L at z; omega))), (p8.fr fun p k z => key p k (by unfold S8 at z; omega)), (p9.fr (fun k => key 30 k (by omega)) (fun k => keyL 29 k (by omega)))⟩
      · rw [a3.2.1 0 11 (by unfold SR SL; omega), a1.2.1 0 11 (by unfold S11; omega), gI_pI, if_pos ⟨rfl, rfl⟩]; rfl
      · rw [a3.2.1 46 i (by unfold SR SL; omega), a1.2.1 46 i (by unfold S11; omega)]; exact (d46 i hi).1
  · refine ⟨-2, σ, σ, ?_, ?_, h⟩
    · unfold f_X8_go
      simp (disch := first | assumption | omega) only [↓lB_eq, ↓bd_m, ck_tt, gI_pI, gI_pL, gI_pR, gL_pI, gL_pL, gL_pR, gR_pI, gR_pL, rf_0_0, rf_0_1, rf_0_2, rf_0_3, rf_0_4, rf_0_5, rf_0_6, rf_0_7, rf_0_8, rf_0_9, rf_0_10, rf_1_1, rf_1_2, rf_4_0, rf_4_1, rf_4_2, rf_4_3, rf_4_4, rf_4_5, rf_11_0, rf_11_1, rf_12_0, rf_12_1, rf_12_2, rf_12_6, rf_12_7, rf_12_8, rf_13_0, rf_13_1, rf_13_2, rf_13_3, rf_18_0, rf_18_1, rf_18_2, rf_18_3, rf_23_0, rf_23_1, rf_23_2, rf_23_3, rf_31_0, rf_33_0, rf_33_2, rf_33_3, rf_33_4, rf_37_0, rf_39_0, rf_39_1, rf_39_2, rf_39_3, rf_40_0, rf_40_1, rf_40_2, rf_40_3, rf_47_3, rf_49_3, rf_51_3, rf_53_3, rf_55_1, rf_55_7, rf_55_8, rf_55_9, rf_55_11, rf_55_13, rf_55_14, rf_55_15, rf_55_17, rf_55_18, rf_55_19, rf_55_27, rf_55_28, rf_55_29, rf_55_30, rf_55_31, rf_55_32, rf_55_33, rf_55_34, rf_55_35, rf_55_36, rf_55_38, rf_55_44, rf_55_45, rf_55_46, rf_55_47, aL_2, aL_3, aL_5, aL_6, aL_7, aL_8, aL_9, aL_10, aL_14, aL_15, aL_16, aL_17, aL_19, aL_20, aL_21, aL_22, aL_24, aL_25, aL_26, aL_27, aL_28, aL_29, aL_30, aL_32, aL_34, aL_35, aL_36, aL_38, aL_39, aL_40, aL_41, aL_42, aL_43, aL_44, aL_45, aL_46, aL_48, aL_50, aL_52, aL_54, aL_56, aL_57, aL_58, aL_59, aL_60, aL_61, aL_62, aL_63, aL_64, aL_65, aL_66, aL_67, aL_68, aL_69, aL_70, aL_71, aL_72, aL_73, aL_74, aL_75, aL_76, aL_77, aL_78, aL_79, aL_80, aL_81, inb_nI, lit32, nI_clamp, nI_1, nI_add, if_pos, if_neg, b01_0, b01_1, Nat.add_sub_cancel, if_true, if_false, not_true_eq_false, not_false_eq_true, true_and, and_true, false_and, and_false, pk_sub, b01_n0, b01_n1, bI_t, bI_f, ofNat_nI, ck_d, Int32.lt_iff_toInt_lt, Int32.le_iff_toInt_le, i32_eq, nI_toInt, bI_b01, bI_0, decide_eq_true_eq, bI_tt, bI_ff, nI_prd, ↓reduceIte, iltT, iltF, ileT, ileF, ieqT, ieqF, dcT, dcF, or_true, or_false, true_or, false_or, s_X8_isSlot]
    · unfold f_X9_go
      simp (disch := first | assumption | omega) only [↓lB_eq, ↓bd_m, ck_tt, gI_pI, gI_pL, gI_pR, gL_pI, gL_pL, gL_pR, gR_pI, gR_pL, rf_0_0, rf_0_1, rf_0_2, rf_0_3, rf_0_4, rf_0_5, rf_0_6, rf_0_7, rf_0_8, rf_0_9, rf_0_10, rf_1_1, rf_1_2, rf_4_0, rf_4_1, rf_4_2, rf_4_3, rf_4_4, rf_4_5, rf_11_0, rf_11_1, rf_12_0, rf_12_1, rf_12_2, rf_12_6, rf_12_7, rf_12_8, rf_13_0, rf_13_1, rf_13_2, rf_13_3, rf_18_0, rf_18_1, rf_18_2, rf_18_3, rf_23_0, rf_23_1, rf_23_2, rf_23_3, rf_31_0, rf_33_0, rf_33_2, rf_33_3, rf_33_4, rf_37_0, rf_39_0, rf_39_1, rf_39_2, rf_39_3, rf_40_0, rf_40_1, rf_40_2, rf_40_3, rf_47_3, rf_49_3, rf_51_3, rf_53_3, rf_55_1, rf_55_7, rf_55_8, rf_55_9, rf_55_11, rf_55_13, rf_55_14, rf_55_15, rf_55_17, rf_55_18, rf_55_19, rf_55_27, rf_55_28, rf_55_29, rf_55_30, rf_55_31, rf_55_32, rf_55_33, rf_55_34, rf_55_35, rf_55_36, rf_55_38, rf_55_44, rf_55_45, rf_55_46, rf_55_47, aL_2, aL_3, aL_5, aL_6, aL_7, aL_8, aL_9, aL_10, aL_14, aL_15, aL_16, aL_17, aL_19, aL_20, aL_21, aL_22, aL_24, aL_25, aL_26, aL_27, aL_28, aL_29, aL_30, aL_32, aL_34, aL_35, aL_36, aL_38, aL_39, aL_40, aL_41, aL_42, aL_43, aL_44, aL_45, aL_46, aL_48, aL_50, aL_52, aL_54, aL_56, aL_57, aL_58, aL_59, aL_60, aL_61, aL_62, aL_63, aL_64, aL_65, aL_66, aL_67, aL_68, aL_69, aL_70, aL_71, aL_72, aL_73, aL_74, aL_75, aL_76, aL_77, aL_78, aL_79, aL_80, aL_81, inb_nI, lit32, nI_clamp, nI_1, nI_add, if_pos, if_neg, b01_0, b01_1, Nat.add_sub_cancel, if_true, if_false, not_true_eq_false, not_false_eq_true, true_and, and_true, false_and, and_false, pk_sub, b01_n0, b01_n1, bI_t, bI_f, ofNat_nI, ck_d, Int32.lt_iff_toInt_lt, Int32.le_iff_toInt_le, i32_eq, nI_toInt, bI_b01, bI_0, decide_eq_true_eq, bI_tt, bI_ff, nI_prd, ↓reduceIte, iltT, iltF, ileT, ileF, ieqT, ieqF, dcT, dcF, or_true, or_false, true_or, false_or, s_X9_isSlot]
