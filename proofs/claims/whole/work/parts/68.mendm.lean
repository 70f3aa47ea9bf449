/-! mend: both -/
section
variable {c n nk : Nat} {o g tm pt ls fs : Nat → Nat}
theorem s_X9_now2 {σ : Sg} (hr : RefI σ) (b1 : Bl c o g) (b2 : Bn n tm pt ls) (p1 : P1 σ c o g) (p2 : P2 σ n tm pt ls) (hC : Ch n tm nk fs) (h20 : gI σ 55 20 = nI 0) : ∃ (τ : Sg) (M : Nat → Nat) (DD : Nat → Nat → Nat → Nat), f_X9_leastNow 55 σ = some (lbV c nk o g tm pt ls fs 0 99, τ) ∧ Ag (fun p k => SR p k ∨ FM p k) (fun _ _ => False) σ τ ∧ LB c nk o g tm pt ls fs 0 99 (lbV c nk o g tm pt ls fs 0 99) ∧ RE τ c n nk o g tm pt ls fs 0 ∧ (∀ j, j < nk → TbW τ c n nk o g tm pt ls fs 0 99 M DD j) ∧ ∀ j, j < nk → RsT τ c o g tm pt ls fs 0 99 nk j (M j) (DD j) := by
  obtain ⟨v, τ, M, DD, e, a, hv, hrc, hT, hR⟩ := s_X9_leastBy (x1 := -1) (x2 := 0) hr b1 b2 p1 p2 hC h20 (show -12 ≤ (0 : Int) ∧ (0 : Int) ≤ 12 by omega) rfl m1_ban
  rw [← hv.v]
  refine ⟨τ, M, DD, ?_, a, hv, ⟨a.ref hr, (a.2.1 55 0 (by unfold SR FM SL; omega)).trans p1.2.1, fun j hj => (a.2.1 56 j (by unfold SR FM SL; omega)).trans (p1.2.2.1 j hj).2, fun j hj => (a.2.1 55 (j + 2) (by unfold SR FM SL; omega)).trans (p1.2.2.2 j hj).2, p2.m.ag a (by unfold SR FM SL; omega) (fun p k h1 h2 y => by unfold SR FM SL at y; omega), hrc, by rw [a.2.1 55 20 (by unfold SR FM SL; omega), h20]; rfl⟩, hT, hR⟩
  unfold f_X9_leastNow
  rw [e, bd_eq]
/-- the loop that picks -/
theorem s_pick {τ : Sg} {k m : Nat} {bv : Nat → Nat} {x1 x2 : Int32} {rec17 : Int32 × Int32 × Sg → Option (Int32 × Sg)} (hr : RefI τ) (hk : k < 14) (hm : m ≤ 120) (t68 : gI τ 68 k = nI m) (hb : ∀ b, b < m → bv b ≤ 2000000) (hev : ∀ b, b < m → ∀ best cost rec35, f_X9_mend_L35 rec17 55 x1 x2 (nI k) rec35 (best, cost, nI b, τ) = f_X9_mend_L70 rec17 rec35 55 x1 x2 (nI k) best cost (nI b) (nI (bv b)) τ) (hex : ∃ b, b < m ∧ bv b < 1000000) : ∃ b0, b0 < m ∧ (∀ b, b < m → bv b0 ≤ bv b) ∧ (∀ b, b < b0 → bv b0 < bv b) ∧ fx (f_X9_mend_L35 rec17 55 x1 x2 (nI k)) FU (-1, 1000000, nI 0, τ) = fx (f_X9_mend_L113 rec17 55 x1 (nI k) (nI b0)) FU (nI 0, τ) := by
  refine fx_inv2 (I := fun b s => ∃ (best cost : Int32), s = (best, cost, nI b, τ) ∧ ((cost = nI 1000000 ∧ ∀ b', b' < b → 1000000 ≤ bv b') ∨ ∃ b0, b0 < b ∧ best = nI b0 ∧ cost = nI (bv b0) ∧ bv b0 < 1000000 ∧ (∀ b', b' < b → bv b0 ≤ bv b') ∧ ∀ b', b' < b0 → bv b0 < bv b')) (Q := fun e => ∃ b0, b0 < m ∧ (∀ b, b < m → bv b0 ≤ bv b) ∧ (∀ b, b < b0 → bv b0 < bv b) ∧ e = fx (f_X9_mend_L113 rec17 55 x1 (nI k) (nI b0)) FU (nI 0, τ)) (n := m) ?_ ?_ m 0 FU _ (by omega) (by unfold FU; omega) ⟨-1, 1000000, rfl, Or.inl ⟨rfl, fun b' hb' => by omega⟩⟩
  · rintro b s hbm ⟨best, cost, rfl, h⟩ rec
    have hbv := hb b hbm
    rw [hev b hbm]
    unfold f_X9_mend_L70 f_X9_mend_L86 f_X9_mend_L102
    left
    rcases h with ⟨h1, h2⟩ | ⟨b0, h1, h2, h3, h4, h5, h6⟩
    · by_cases q : 1000000 ≤ bv b
      · refine ⟨(best, nI 1000000, nI (b + 1), τ), ⟨best, nI 1000000, rfl, Or.inl ⟨rfl, fun b' hb' => ?_⟩⟩, ?_⟩
        · by_cases e : b' = b
          · rw [e]; exact q
          · exact h2 b' (by omega)
        · rw [h1, if_pos (by rw [Int32.le_iff_toInt_le, nI_toInt (by omega), nI_toInt (by omega)]; omega), if_pos (by rw [Int32.le_iff_toInt_le, nI_toInt (by omega), nI_toInt (by omega)]; omega), lB_eq, nI_1]
      · refine ⟨(nI b, nI (bv b), nI (b + 1), τ), ⟨nI b, nI (bv b), rfl, Or.inr ⟨b, by omega, rfl, rfl, by omega, fun b' hb' => ?_, fun b' hb' => ?_⟩⟩, ?_⟩
        · by_cases e : b' = b
          · rw [e]; exact Nat.le_refl _
          · have := h2 b' (by omega); omega
        · have := h2 b' (by omega); omega
        · rw [h1, if_neg (by rw [Int32.le_iff_toInt_le, nI_toInt (by omega), nI_toInt (by omega)]; omega), if_neg (by rw [Int32.le_iff_toInt_le, nI_toInt (by omega), nI_toInt (by omega)]; omega), lB_eq, nI_1]
    · by_cases q : bv b0 ≤ bv b
      · refine ⟨(nI b0, nI (bv b0), nI (b + 1), τ), ⟨nI b0, nI (bv b0), rfl, Or.inr ⟨b0, by omega, rfl, rfl, h4, fun b' hb' => ?_, h6⟩⟩, ?_⟩
        · by_cases e : b' = b
          · rw [e]; exact q
          · exact h5 b' (by omega)
        · rw [h2, h3, if_pos (by rw [Int32.le_iff_toInt_le, nI_toInt (by omega), nI_toInt (by omega)]; omega), if_pos (by rw [Int32.le_iff_toInt_le, nI_toInt (by omega), nI_toInt (by omega)]; omega), lB_eq, nI_1]
      · refine ⟨(nI b, nI (bv b), nI (b + 1), τ), ⟨nI b, nI (bv b), rfl, Or.inr ⟨b, by omega, rfl, rfl, by omega, fun b' hb' => ?_, fun b' hb' => ?_⟩⟩, ?_⟩
        · by_cases e : b' = b
          · rw [e]; exact Nat.le_refl _
          · have := h5 b' (by omega); omega
        · have := h5 b' (by omega); omega
        · rw [h2, h3, if_neg (by rw [Int32.le_iff_toInt_le, nI_toInt (by omega), nI_toInt (by omega)]; omega), if_neg (by rw [Int32.le_iff_toInt_le, nI_toInt (by omega), nI_toInt (by omega)]; omega), lB_eq, nI_1]
  · rintro s ⟨best, cost, rfl, h⟩ rec
    rcases h with ⟨h1, h2⟩ | ⟨b0, h1, h2, h3, h4, h5, h6⟩
    · obtain ⟨b, hb1, hb2⟩ := hex
      have := h2 b hb1
      omega
    · refine ⟨fx (f_X9_mend_L113 rec17 55 x1 (nI k) (nI b0)) FU (nI 0, τ), ⟨b0, h1, h5, h6, rfl⟩, ?_⟩
      unfold f_X9_mend_L35
      dsimp only
      rw [rf_55_28 hr, aL_68, inb_nI (by omega), ck_d (by omega), nI_clamp (by omega), t68, if_pos (by rw [Int32.le_iff_toInt_le]; exact Int.le_refl _), h2]
      rfl
/-- what is picked is laid -/
theorem s_mendLay {τ : Sg} {k W b0 : Nat} {d : Nat → Nat} {x1 : Int32} {rec17 : Int32 × Int32 × Sg → Option (Int32 × Sg)} (hE : RE τ c n nk o g tm pt ls fs 0) (hn : n ≤ 14) (hnk : nk ≤ n) (hk : k < nk) (hT : cntB (sndB tm ls fs k) n ≤ 5) (hb0 : b0 < 120) (h67 : gI τ 67 (128 * k + b0) = nI W) (hW : WY (sndB tm ls fs k) d n W) : ∃ υ, fx (f_X9_mend_L113 rec17 55 x1 (nI k) (nI b0)) FU (nI 0, τ) = rec17 (nI b0, nI (k + 1), υ) ∧ Ag (fun p _ => p = 60) (fun _ _ => False) τ υ ∧ (∀ i, i < n → sndB tm ls fs k i = true → gI υ 60 i = nI (d i)) ∧ ∀ i, ¬ sndB tm ls fs k i = true → gI υ 60 i = gI τ 60 i := by
  refine fx_inv2 (I := fun t s => s.1 = nI t ∧ Ag (fun p _ => p = 60) (fun _ _ => False) τ s.2 ∧ (∀ i, i < n → sndB tm ls fs k i = true → cntB (sndB tm ls fs k) i < t → gI s.2 60 i = nI (d i)) ∧ ∀ i, ¬ sndB tm ls fs k i = true → gI s.2 60 i = gI τ 60 i) (Q := fun e => ∃ υ, e = rec17 (nI b0, nI (k + 1), υ) ∧ Ag (fun p _ => p = 60) (fun _ _ => False) τ υ ∧ (∀ i, i < n → sndB tm ls fs k i = true → gI υ 60 i = nI (d i)) ∧ ∀ i, ¬ sndB tm ls fs k i = true → gI υ 60 i = gI τ 60 i) (n := cntB (sndB tm ls fs k) n) ?_ ?_ (cntB (sndB tm ls fs k) n) 0 FU _ (by omega) (by unfold FU; omega) ⟨rfl, Ag.rf, fun i _ _ h => by omega, fun _ _ => rfl⟩
  · rintro t ⟨x, υ⟩ ht ⟨rfl, hA, hz, ho⟩ rec
    dsimp only at hA hz ho
    have hr2 := hA.ref hE.1
    have rc2 := hE.2.2.2.2.2.1.ag hA (fun p k y x => by unfold SR at y; omega)
    obtain ⟨i, hi, hs, hit⟩ := nth_ex ht
    have e64 := rc2.2.2.2 k hk i hi hs
    rw [hit] at e64
    have t65 := rc2.2.2.1 k hk
    have u67 : gI υ 67 (128 * k + b0) = nI W := (hA.2.1 67 _ (by omega)).trans h67
    have ec := s_X9_courseIn (σ := υ) (t := t) hW.1 (by omega)
    have ed := hW.2 i hi hs
    rw [hit] at ed
    rw [ed] at ec
    left
    refine ⟨(nI (t + 1), pI υ 60 i (nI (d i))), ⟨rfl, hA.pI rfl, fun j hj hsj hc => ?_, fun j hj => ?_⟩, ?_⟩
    · rw [gI_pI]
      by_cases e : j = i
      · subst e; rw [if_pos ⟨rfl, rfl⟩]
      · rw [if_neg (by omega)]
        refine hz j hj hsj ?_
        have h1 := cnt_lt (S := sndB tm ls fs k) (j := j) (a := i) hsj
        have h2 := cnt_lt (S := sndB tm ls fs k) (j := i) (a := j) hs
        omega
    · rw [gI_pI, if_neg (fun y => hj (by rw [y.2]; exact hs))]; exact ho j hj
    · unfold f_X9_mend_L113
      dsimp only
      simp (disch := first | assumption | omega) only [↓lB_eq, ↓bd_m, ck_tt, gI_pI, gI_pL, gI_pR, gL_pI, gL_pL, gL_pR, gR_pI, gR_pL, rf_0_0, rf_0_1, rf_0_2, rf_0_3, rf_0_4, rf_0_5, rf_0_6, rf_0_7, rf_0_8, rf_0_9, rf_0_10, rf_1_1, rf_1_2, rf_4_0, rf_4_1, rf_4_2, rf_4_3, rf_4_4, rf_4_5, rf_11_0, rf_11_1, rf_12_0, rf_12_1, rf_12_2, rf_12_6, rf_12_7, rf_12_8, rf_13_0, rf_13_1, rf_13_2, rf_13_3, rf_18_0, rf_18_1, rf_18_2, rf_18_3, rf_23_0, rf_23_1, rf_23_2, rf_23_3, rf_31_0, rf_33_0, rf_33_2, rf_33_3, rf_33_4, rf_37_0, rf_39_0, rf_39_1, rf_39_2, rf_39_3, rf_40_0, rf_40_1, rf_40_2, rf_40_3, rf_47_3, rf_49_3, rf_51_3, rf_53_3, rf_55_1, rf_55_7, rf_55_8, rf_55_9, rf_55_11, rf_55_13, rf_55_14, rf_55_15, rf_55_17, rf_55_18, rf_55_19, rf_55_27, rf_55_28, rf_55_29, rf_55_30, rf_55_31, rf_55_32, rf_55_33, rf_55_34, rf_55_35, rf_55_36, rf_55_38, rf_55_44, rf_55_45, rf_55_46, rf_55_47, aL_2, aL_3, aL_5, aL_6, aL_7, aL_8, aL_9, aL_10, aL_14, aL_15, aL_16, aL_17, aL_19, aL_20, aL_21, aL_22, aL_24, aL_25, aL_26, aL_27, aL_28, aL_29, aL_30, aL_32, aL_34, aL_35, aL_36, aL_38, aL_39, aL_40, aL_41, aL_42, aL_43, aL_44, aL_45, aL_46, aL_48, aL_50, aL_52, aL_54, aL_56, aL_57, aL_58, aL_59, aL_60, aL_61, aL_62, aL_63, aL_64, aL_65, aL_66, aL_67, aL_68, aL_69, aL_70, aL_71, aL_72, aL_73, aL_74, aL_75, aL_76, aL_77, aL_78, aL_79, aL_80, aL_81, inb_nI, lit32, nI_clamp, nI_1, nI_add, if_pos, if_neg, b01_0, b01_1, Nat.add_sub_cancel, if_true, if_false, not_true_eq_false, not_false_eq_true, true_and, and_true, false_and, and_false, pk_sub, b01_n0, b01_n1, bI_t, bI_f, ofNat_nI, ck_d, Int32.lt_iff_toInt_lt, Int32.le_iff_toInt_le, i32_eq, nI_toInt, bI_b01, bI_0, decide_eq_true_eq, bI_tt, bI_ff, nI_prd, ↓reduceIte, iltT, iltF, ileT, ileF, ieqT, ieqF, dcT, dcF, or_true, or_false, true_or, false_or, t65, nI_mul, e64, u67, ec]
  · rintro ⟨x, υ⟩ ⟨rfl, hA, hz, ho⟩ rec
    dsimp only at hA hz ho
    have hr2 := hA.ref hE.1
    have rc2 := hE.2.2.2.2.2.1.ag hA (fun p k y x => by unfold SR at y; omega)
    have t65 := rc2.2.2.1 k hk
    refine ⟨rec17 (nI b0, nI (k + 1), υ), ⟨υ, rfl, hA, fun i hi hs => hz i hi hs ((cnt_lt hs).2 hi), ho⟩, ?_⟩
    unfold f_X9_mend_L113
    dsimp only
    simp (disch := first | assumption | omega) only [↓lB_eq, ↓bd_m, ck_tt, gI_pI, gI_pL, gI_pR, gL_pI, gL_pL, gL_pR, gR_pI, gR_pL, rf_0_0, rf_0_1, rf_0_2, rf_0_3, rf_0_4, rf_0_5, rf_0_6, rf_0_7, rf_0_8, rf_0_9, rf_0_10, rf_1_1, rf_1_2, rf_4_0, rf_4_1, rf_4_2, rf_4_3, rf_4_4, rf_4_5, rf_11_0, rf_11_1, rf_12_0, rf_12_1, rf_12_2, rf_12_6, rf_12_7, rf_12_8, rf_13_0, rf_13_1, rf_13_2, rf_13_3, rf_18_0, rf_18_1, rf_18_2, rf_18_3, rf_23_0, rf_23_1, rf_23_2, rf_23_3, rf_31_0, rf_33_0, rf_33_2, rf_33_3, rf_33_4, rf_37_0, rf_39_0, rf_39_1, rf_39_2, rf_39_3, rf_40_0, rf_40_1, rf_40_2, rf_40_3, rf_47_3, rf_49_3, rf_51_3, rf_53_3, rf_55_1, rf_55_7, rf_55_8, rf_55_9, rf_55_11, rf_55_13, rf_55_14, rf_55_15, rf_55_17, rf_55_18, rf_55_19, rf_55_27, rf_55_28, rf_55_29, rf_55_30, rf_55_31, rf_55_32, rf_55_33, rf_55_34, rf_55_35, rf_55_36, rf_55_38, rf_55_44, rf_55_45, rf_55_46, rf_55_47, aL_2, aL_3, aL_5, aL_6, aL_7, aL_8, aL_9, aL_10, aL_14, aL_15, aL_16, aL_17, aL_19, aL_20, aL_21, aL_22, aL_24, aL_25, aL_26, aL_27, aL_28, aL_29, aL_30, aL_32, aL_34, aL_35, aL_36, aL_38, aL_39, aL_40, aL_41, aL_42, aL_43, aL_44, aL_45, aL_46, aL_48, aL_50, aL_52, aL_54, aL_56, aL_57, aL_58, aL_59, aL_60, aL_61, aL_62, aL_63, aL_64, aL_65, aL_66, aL_67, aL_68, aL_69, aL_70, aL_71, aL_72, aL_73, aL_74, aL_75, aL_76, aL_77, aL_78, aL_79, aL_80, aL_81, inb_nI, lit32, nI_clamp, nI_1, nI_add, if_pos, if_neg, b01_0, b01_1, Nat.add_sub_cancel, if_true, if_false, not_true_eq_false, not_false_eq_true, true_and, and_true, false_and, and_false, pk_sub, b01_n0, b01_n1, bI_t, bI_f, ofNat_nI, ck_d, Int32.lt_iff_toInt_lt, Int32.le_iff_toInt_le, i32_eq, nI_toInt, bI_b01, bI_0, decide_eq_true_eq, bI_tt, bI_ff, nI_prd, ↓reduceIte, iltT, iltF, ileT, ileF, ieqT, ieqF, dcT, dcF, or_true, or_false, true_or, false_or, t65]
theorem s_X9_mendLoop {τ : Sg} {M : Nat → Nat} {DD : Nat → Nat → Nat → Nat} {d : Nat → Nat} {x1 : Int32} (hE : RE τ c n nk o g tm pt ls fs 0) (b1 : Bl c o g) (b2 : Bn n tm pt ls) (hC : Ch n tm nk fs) (hT : ∀ j, j < nk → TbW τ c n nk o g tm pt ls fs 0 99 M DD j) (hR : ∀ j, j < nk → RsT τ c o g tm pt ls fs 0 99 nk j (M j) (DD j)) (hd : Bst c nk o g tm pt ls fs d) : ∃ υ, fx (f_X9_mend_L17 55 x1) FU (-1, nI 0, τ) = some (x1, pI υ 55 12 1) ∧ Ag (fun p _ => p = 60) (fun _ _ => False) τ υ ∧ ∀ i, i < n → gI υ 60 i = nI (d i) := by
  have hn := b2.1
  have hc5 := b1.2.1
  have hnk := hC.nk_le
  refine fx_inv2 (I := fun k s => ∃ (υ : Sg) (x : Int32), s = (x, nI k, υ) ∧ Ag (fun p _ => p = 60) (fun _ _ => False) τ υ ∧ (∀ i, i < fs k → gI υ 60 i = nI (d i)) ∧ ∀ j, k = j + 1 → ∃ a, x = nI a ∧ a < M j ∧ ∀ i, sndB tm ls fs j i = true → DD j a i = d i) (Q := fun e => ∃ υ, e = some (x1, pI υ 55 12 1) ∧ Ag (fun p _ => p = 60) (fun _ _ => False) τ υ ∧ ∀ i, i < n → gI υ 60 i = nI (d i)) (n := nk) ?_ ?_ nk 0 FU _ (by omega) (by unfold FU; omega) ⟨τ, -1, rfl, Ag.rf, fun i hi => by rw [hC.1] at hi; omega, fun j hj => by omega⟩
  · rintro k s hk ⟨υ, x, rfl, hA, h60, hbe⟩ rec
    have hf := hC.2.2.1 k hk
    have hM := hC.le (k := k + 1) (by omega)
    have hE1 : RE υ c n nk o g tm pt ls fs 0 := by
      obtain ⟨y0, y1, y2, y3, y4, y5, y6⟩ := hE
      exact ⟨hA.ref y0, (hA.2.1 55 0 (by omega)).trans y1, fun j hj => (hA.2.1 56 j (by omega)).trans (y2 j hj), fun j hj => (hA.2.1 55 (j + 2) (by omega)).trans (y3 j hj), y4.ag hA (by omega) (fun p k a b x => by omega), y5.ag hA (fun p k a x => by unfold SR at a; omega), by rw [hA.2.1 55 20 (by omega)]; exact y6⟩
    have hr1 := hE1.1
    have t16 := hE1.2.2.2.2.2.1.1
    have hT1 : ∀ j, j < nk → TbW υ c n nk o g tm pt ls fs 0 99 M DD j := fun j hj => (hT j hj).ag hA (fun p i y => by omega)
    obtain ⟨w1, w2, _⟩ := hT1 k hk
    have hm := w1.2.1
    obtain ⟨R, hRk⟩ := hR k hk
    have hR1 : ∀ b, b < M k → gI υ 71 (128 * k + b) = nI (R b) := fun b hb => (hA.2.1 71 _ (by omega)).trans (hRk b hb).1
    -- the values that are compared
    have vals : ∃ bv : Nat → Nat, (∀ b, b < M k → ((bv b = R b + shK g (prevL o tm pt ls fs 0 d k) (lowK o tm pt ls fs 0 k (DD k b)) ∧ ∀ i, i < fs k → sndB tm ls fs k i = true → d i = DD k b i) ∨ (bv b = 1000000 ∧ ¬ ∀ i, i < fs k → sndB tm ls fs k i = true → d i = DD k b i))) ∧ (∀ b, b < M k → bv b ≤ 2000000) ∧ ∀ b, b < M k → ∀ best cost rec35, f_X9_mend_L35 rec 55 x1 x (nI k) rec35 (best, cost, nI b, υ) = f_X9_mend_L70 rec rec35 55 x1 x (nI k) best cost (nI b) (nI (bv b)) υ := by
      by_cases h0 : k = 0
      · subst h0
        refine ⟨R, fun b hb => Or.inl ⟨?_, fun i hi => by rw [hC.1] at hi; omega⟩, fun b hb => by have := (hRk b hb).2.le; omega, fun b hb best cost rec35 => ?_⟩
        · have : shK g (prevL o tm pt ls fs 0 d 0) (lowK o tm pt ls fs 0 0 (DD 0 b)) = 0 := if_neg (fun q => by have : (0 : Int) < 0 := q.1; omega)
          rw [this]; rfl
        · have e71 := hR1 b hb
          rw [Nat.mul_zero, Nat.zero_add] at e71
          unfold f_X9_mend_L35
          dsimp only
          rw [rf_55_28 hr1, aL_68, inb_nI (by omega), ck_d (by omega), nI_clamp (by omega), w1.1, if_neg (by rw [Int32.le_iff_toInt_le, nI_toInt (by omega), nI_toInt (by omega)]; omega), if_pos (show nI 0 = (0 : Int32) from rfl), rf_55_31 hr1, aL_71, inb_nI (by omega), ck_d (by omega), nI_clamp (by omega), e71]
      · obtain ⟨j, rfl⟩ : ∃ j, k = j + 1 := ⟨k - 1, by omega⟩
        obtain ⟨a, rfl, ha, hda⟩ := hbe j rfl
        obtain ⟨v1, v2, v3⟩ := hT1 j (by omega)
        have hma := v1.2.1
        have hj : ∀ b, ∃ B : Bool, b < M (j + 1) → f_X9_joined 55 (nI j) (nI a) (nI b) υ = some (nI (jv g B (R b) (lowK o tm pt ls fs 0 j (DD j a)) (lowK o tm pt ls fs 0 (j + 1) (DD (j + 1) b))), υ) ∧ (B = true ↔ ∀ x, x < n → sndB tm ls fs j x = true → sndB tm ls fs (j + 1) x = true → DD j a x = DD (j + 1) b x) := fun b => by
          by_cases hb : b < M (j + 1)
          · obtain ⟨B, y1, y2⟩ := s_X9_joined hE1 b1 b2 hC hk v1 v2 w1 w2 (v3 hk) ha hb (hR1 b hb) (hRk b hb).2.le
            exact ⟨B, fun _ => ⟨y1, y2⟩⟩
          · exact ⟨true, fun y => absurd y hb⟩
        have hjB : ∃ B : Nat → Bool, ∀ b, b < M (j + 1) → f_X9_joined 55 (nI j) (nI a) (nI b) υ = some (nI (jv g (B b) (R b) (lowK o tm pt ls fs 0 j (DD j a)) (lowK o tm pt ls fs 0 (j + 1) (DD (j + 1) b))), υ) ∧ (B b = true ↔ ∀ x, x < n → sndB tm ls fs j x = true → sndB tm ls fs (j + 1) x = true → DD j a x = DD (j + 1) b x) := ⟨fun b => Classical.choose (hj b), fun b => Classical.choose_spec (hj b)⟩
        obtain ⟨B, hBB⟩ := hjB
        have low1 : lowK o tm pt ls fs 0 j (DD j a) = prevL o tm pt ls fs 0 d (j + 1) := lowK_cg hda
        refine ⟨fun b => jv g (B b) (R b) (lowK o tm pt ls fs 0 j (DD j a)) (lowK o tm pt ls fs 0 (j + 1) (DD (j + 1) b)), fun b hb => ?_, fun b hb => ?_, fun b hb best cost rec35 => ?_⟩
        · obtain ⟨_, hB⟩ := hBB b hb
          dsimp only
          unfold jv
          rw [low1]
          by_cases q : B b = true
          · rw [if_pos q]
            refine Or.inl ⟨rfl, fun i hi hs => ?_⟩
            have s1 := hC.held hk hi hs
            rw [← hda i s1]; exact hB.1 q i (by omega) s1 hs
          · rw [if_neg q]
            refine Or.inr ⟨rfl, fun y => q (hB.2 (fun i _ s1 s2 => ?_))⟩
            rw [hda i s1]; exact y i (snd_lt s1) s2
        · have h1 := (hRk b hb).2.le
          have h2 := shG b1 (lowG b1 (v2.1 a ha)) (lowG b1 (w2.1 b hb))
          dsimp only
          unfold jv
          split <;> omega
        · obtain ⟨e1, _⟩ := hBB b hb
          unfold f_X9_mend_L35
          dsimp only
          rw [rf_55_28 hr1, aL_68, inb_nI (by omega), ck_d (by omega), nI_clamp (by omega), w1.1, if_neg (by rw [Int32.le_iff_toInt_le, nI_toInt (by omega), nI_toInt (by omega)]; omega), if_neg (show ¬ nI (j + 1) = (0 : Int32) from fun y => h0 ((nI_eq (b := 0) (by omega) (by omega)).1 y)), show nI (j + 1) - (1 : Int32) = nI j from pk_sub (a := j + 1) (b := 1) (by omega), e1, bd_eq]
    obtain ⟨bv, hv1, hv2, hv3⟩ := vals
    have hex : ∃ b, b < M k ∧ bv b < 1000000 := by
      obtain ⟨b, hb, hl⟩ := w2.2.1 d (hd.1 k hk)
      refine ⟨b, hb, ?_⟩
      have cs : Cmp c o g tm pt ls fs 0 99 nk k (DD k b) (ownK o g tm pt ls fs 0 k (DD k b) + cF o g tm pt ls fs 0 d (nk - 1 - k) (k + 1)) := ⟨d, fun i hs => (hl i hs).symm, fun j _ hj => hd.1 j hj, rfl⟩
      have csb := cs.bd b1 b2 hC hk
      have hrb : R b ≤ 135 + 216 * (nk - 1 - k) := by
        rcases (hRk b hb).2 with ⟨_, q⟩ | ⟨_, _, q⟩
        · exact absurd cs (q _)
        · have := q _ cs; omega
      have shb : shK g (prevL o tm pt ls fs 0 d k) (lowK o tm pt ls fs 0 k (DD k b)) ≤ 81 := by
        refine shG b1 ?_ (lowG b1 (w2.1 b hb))
        cases k with
        | zero => exact ⟨Int.le_refl _, by show (0 : Int) ≤ 9; omega⟩
        | succ j => exact lowG b1 (hd.1 j (by omega))
      rcases hv1 b hb with ⟨q, _⟩ | ⟨_, q⟩
      · omega
      · exact absurd (fun i _ hs => (hl i hs).symm) q
    obtain ⟨b0, hb0, hmin, hfst, e2⟩ := s_pick (rec17 := rec) hr1 (by omega) hm w1.1 hv2 hv3 hex
    have hpk := mend_pick b1 b2 hC hk hd w2 (fun b hb => (hRk b hb).2) hv1 hb0 hmin hfst
    obtain ⟨⟨W, q1, q2⟩, _, _⟩ := w1.2.2 b0 hb0
    have hcn := (w2.1 b0 hb0).cnt hM
    obtain ⟨υ', e3, a3, l3, l4⟩ := s_mendLay (x1 := x1) (rec17 := rec) hE1 hn hnk hk (by omega) (by omega) q1 q2
    left
    refine ⟨(nI b0, nI (k + 1), υ'), ⟨υ', nI b0, rfl, hA.tr a3, fun i hi => ?_, fun j hj => ?_⟩, ?_⟩
    · by_cases hs : sndB tm ls fs k i = true
      · rw [l3 i (by omega) hs, hpk i hs]
      · rw [l4 i hs]
        refine h60 i ?_
        by_cases y : i < fs k
        · exact y
        · exact absurd (snd_new (by omega) hi) hs
    · have ej : j = k := by omega
      subst ej
      exact ⟨b0, rfl, hb0, hpk⟩
    · refine Eq.trans ?_ (e2.trans e3)
      unfold f_X9_mend_L17
      dsimp only
      rw [t16, if_neg (by rw [Int32.le_iff_toInt_le, nI_toInt (by omega), nI_toInt (by omega)]; omega)]
      rfl
  · rintro s ⟨υ, x, rfl, hA, h60, _⟩ rec
    have t16 : gI υ 55 16 = nI nk := (hA.2.1 55 16 (by omega)).trans hE.2.2.2.2.2.1.1
    refine ⟨some (x1, pI υ 55 12 1), ⟨υ, rfl, hA, fun i hi => h60 i (by rw [hC.2.1]; exact hi)⟩, ?_⟩
    unfold f_X9_mend_L17
    dsimp only
    rw [t16, if_pos (by rw [Int32.le_iff_toInt_le]; exact Int.le_refl _), ck_of b01_1, lB_eq]
end
