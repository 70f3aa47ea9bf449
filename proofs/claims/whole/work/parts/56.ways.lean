/-! the reference's ways of a chord -/
/-- the tables of a chord hold m ways, laid as D says -/
def RW (σ : Sg) (n : Nat) (o g tm pt ls fs : Nat → Nat) (z : Int) (k m : Nat) (D : Nat → Nat → Nat) : Prop := gI σ 68 k = nI m ∧ m ≤ 120 ∧ ∀ a, a < m → (∃ W, gI σ 67 (128 * k + a) = nI W ∧ WY (sndB tm ls fs k) (D a) n W) ∧ (gI σ 69 (128 * k + a)).toInt = lowK o tm pt ls fs z k (D a) ∧ gI σ 70 (128 * k + a) = nI (ownK o g tm pt ls fs z k (D a))
def CdI (c n : Nat) (o g tm pt ls fs : Nat → Nat) (z : Int) (ban k : Nat) (σ : Sg) (code m : Nat) (cd : Nat → Nat) (τ : Sg) : Prop := Ag (fun p j => FLy p j ∨ ((p = 67 ∨ p = 69 ∨ p = 70) ∧ 128 * k ≤ j ∧ j < 128 * k + 128) ∨ (p = 68 ∧ j = k)) (fun _ _ => False) σ τ ∧ gI τ 68 k = nI m ∧ m ≤ cntB (dstB c (cntB (sndB tm ls fs k) n)) code ∧ (∀ a, a < m → cd a < code ∧ Gd c o g tm pt ls fs z ban k (plc c (cntB (sndB tm ls fs k) n) (sndB tm ls fs k) (cd a)) ∧ (∃ W, gI τ 67 (128 * k + a) = nI W ∧ WY (sndB tm ls fs k) (plc c (cntB (sndB tm ls fs k) n) (sndB tm ls fs k) (cd a)) n W) ∧ (gI τ 69 (128 * k + a)).toInt = lowK o tm pt ls fs z k (plc c (cntB (sndB tm ls fs k) n) (sndB tm ls fs k) (cd a)) ∧ gI τ 70 (128 * k + a) = nI (ownK o g tm pt ls fs z k (plc c (cntB (sndB tm ls fs k) n) (sndB tm ls fs k) (cd a)))) ∧ (∀ a b, a < b → b < m → cd a < cd b) ∧ ∀ j, j < code → Gd c o g tm pt ls fs z ban k (plc c (cntB (sndB tm ls fs k) n) (sndB tm ls fs k) j) → ∃ a, a < m ∧ cd a = j
theorem or_dig {H x e : Nat} (hx : x < 8) : H * 8 ^ (e + 1) ||| x * 8 ^ e = (H * 8 + x) * 8 ^ e := by
  have h1 : x * 8 ^ e < 2 ^ (3 * (e + 1)) := by
    rw [Nat.pow_mul, show (2 : Nat) ^ 3 = 8 from rfl, Nat.pow_succ, Nat.mul_comm (8 ^ e) 8]
    exact Nat.mul_lt_mul_of_pos_right hx (Nat.pow_pos (by omega))
  have h2 := Nat.two_pow_add_eq_or_of_lt h1 H
  rw [Nat.pow_mul, show (2 : Nat) ^ 3 = 8 from rfl, Nat.mul_comm (8 ^ (e + 1)) H] at h2
  rw [← h2, Nat.pow_succ, Nat.add_mul, Nat.mul_comm (8 ^ e) 8, Nat.mul_assoc]
theorem shl3 : ∀ t, t < 6 → ((nI 3 * nI t &&& nI 31).toBitVec.smod 32).toNat = 3 * t := by decide +kernel
/-- the digits of a code, one by one from the last -/
theorem s_code {υ : Sg} {c n nk k code : Nat} {o g tm pt ls fs : Nat → Nat} {z : Int} {ban : Nat} {x2 x3 : Int32} {rec46 : Int32 × Sg → Option (Unit × Sg)} (hE : RE υ c n nk o g tm pt ls fs z) (b1 : Bl c o g) (b2 : Bn n tm pt ls) (hC : Ch n tm nk fs) (hk : k < nk) (hz : -12 ≤ z ∧ z ≤ 12) (hx2 : ∀ j : Nat, j < 5 → ((j : Int) = x2.toInt ↔ j = ban)) (hT : cntB (sndB tm ls fs k) n ≤ c) (hco : code < c ^ cntB (sndB tm ls fs k) n) : ∃ (W : Nat) (b : Bool), WY (sndB tm ls fs k) (plc c (cntB (sndB tm ls fs k) n) (sndB tm ls fs k) code) n W ∧ (b = true ↔ ∀ i, i < n → sndB tm ls fs k i = true → plc c (cntB (sndB tm ls fs k) n) (sndB tm ls fs k) code i ≠ ban ∧ 0 ≤ fret o pt z (plc c (cntB (sndB tm ls fs k) n) (sndB tm ls fs k) code) i ∧ fret o pt z (plc c (cntB (sndB tm ls fs k) n) (sndB tm ls fs k) code) i ≤ (g 0 : Int)) ∧ fx (f_X9_findsWays_L85 rec46 55 (nI k) x2 x3 (nI code)) FU (nI 0, nI code, nI 1, nI (cntB (sndB tm ls fs k) n) - 1, υ) = (if b = true then bd (f_X9_layWay 55 (nI k) (nI W) υ) fun _ s1 => f_X9_findsWays_L193 rec46 55 (nI k) x2 x3 (nI code) (nI W) (nI 1) s1 else f_X9_findsWays_L193 rec46 55 (nI k) x2 x3 (nI code) (nI W) (nI 0) υ) := by
  have hn := b2.1
  have hnk := hC.nk_le
  have hc2 := b1.1
  have hc5 := b1.2.1
  have hr := hE.1
  have g0 := b1.2.2.2.2.1
  have t0 := hE.2.1
  have t2 := hE.2.2.2.1 0 (by omega)
  generalize hTT : cntB (sndB tm ls fs k) n = T at hT hco ⊢
  have hcp : c ^ T ≤ 5 ^ 5 := Nat.le_trans (Nat.pow_le_pow_left hc5 T) (Nat.pow_le_pow_right (by omega) (by omega))
  have hco2 : code < 2 ^ 31 := by have : (5 : Nat) ^ 5 = 3125 := by decide
                                  omega
  have hf8 : ∀ t, dgs c T code t < 8 := fun t => by have := dgs_lt (c := c) (T := T) (j := code) (t := t) (by omega); omega
  have hWY := hg_WY (S := sndB tm ls fs k) (n := n) (f := dgs c T code) (by omega) hf8
  rw [hTT] at hWY
  let W : Nat := hg 0 (fun s => dgs c T code (T - 1 - s)) T
  have key : ∀ e, (∃ b : Bool, (b = true ↔ ∀ i, i < n → sndB tm ls fs k i = true → plc c T (sndB tm ls fs k) code i ≠ ban ∧ 0 ≤ fret o pt z (plc c T (sndB tm ls fs k) code) i ∧ fret o pt z (plc c T (sndB tm ls fs k) code) i ≤ (g 0 : Int)) ∧ e = (if b = true then bd (f_X9_layWay 55 (nI k) (nI W) υ) fun _ s1 => f_X9_findsWays_L193 rec46 55 (nI k) x2 x3 (nI code) (nI W) (nI 1) s1 else f_X9_findsWays_L193 rec46 55 (nI k) x2 x3 (nI code) (nI W) (nI 0) υ)) → ∃ (W : Nat) (b : Bool), WY (sndB tm ls fs k) (plc c T (sndB tm ls fs k) code) n W ∧ (b = true ↔ ∀ i, i < n → sndB tm ls fs k i = true → plc c T (sndB tm ls fs k) code i ≠ ban ∧ 0 ≤ fret o pt z (plc c T (sndB tm ls fs k) code) i ∧ fret o pt z (plc c T (sndB tm ls fs k) code) i ≤ (g 0 : Int)) ∧ e = (if b = true then bd (f_X9_layWay 55 (nI k) (nI W) υ) fun _ s1 => f_X9_findsWays_L193 rec46 55 (nI k) x2 x3 (nI code) (nI W) (nI 1) s1 else f_X9_findsWays_L193 rec46 55 (nI k) x2 x3 (nI code) (nI W) (nI 0) υ) := fun e ⟨b, y1, y2⟩ => ⟨W, b, hWY, y1, y2⟩
  apply key
  refine fx_inv2 (I := fun r s => ∃ (x : Int32) (b : Bool), s = (nI (hg 0 (fun s => dgs c T code (T - 1 - s)) r * 8 ^ (T - r)), nI (code / c ^ r), bI b, x, υ) ∧ x.toInt = (T : Int) - 1 - (r : Int) ∧ (b = true ↔ ∀ i, i < n → sndB tm ls fs k i = true → T - r ≤ cntB (sndB tm ls fs k) i → plc c T (sndB tm ls fs k) code i ≠ ban ∧ 0 ≤ fret o pt z (plc c T (sndB tm ls fs k) code) i ∧ fret o pt z (plc c T (sndB tm ls fs k) code) i ≤ (g 0 : Int))) (Q := fun e => ∃ b : Bool, (b = true ↔ ∀ i, i < n → sndB tm ls fs k i = true → plc c T (sndB tm ls fs k) code i ≠ ban ∧ 0 ≤ fret o pt z (plc c T (sndB tm ls fs k) code) i ∧ fret o pt z (plc c T (sndB tm ls fs k) code) i ≤ (g 0 : Int)) ∧ e = (if b = true then bd (f_X9_layWay 55 (nI k) (nI W) υ) fun _ s1 => f_X9_findsWays_L193 rec46 55 (nI k) x2 x3 (nI code) (nI W) (nI 1) s1 else f_X9_findsWays_L193 rec46 55 (nI k) x2 x3 (nI code) (nI W) (nI 0) υ)) (n := T) ?_ ?_ T 0 FU _ (by omega) (by unfold FU; omega) ⟨nI T - 1, true, ?_, ?_, ?_⟩
  · rintro r s hrT ⟨x, b, rfl, hx, hb⟩ rec
    obtain ⟨t, ht⟩ : ∃ t, t = T - 1 - r := ⟨_, rfl⟩
    have htT : t + r + 1 = T := by omega
    have ex : x = nI t := by rw [i32_nI (x := x) (by omega)]; congr 1; omega
    subst ex
    obtain ⟨i, hi, hs, hit⟩ := nth_ex (S := sndB tm ls fs k) (n := n) (t := t) (by omega)
    have e64 := hE.2.2.2.2.2.1.2.2.2 k hk i hi hs
    rw [hit] at e64
    have bi := b2.2.1 i hi
    have e58 := (hE.2.2.2.2.1.2 i hi).2.1
    have hdv : code / c ^ r < 2 ^ 31 := Nat.lt_of_le_of_lt (Nat.div_le_self _ _) hco2
    have v2 : nI (code / c ^ r) - nI (code / c ^ r) / nI c * nI c = nI (dgs c T code t) := by
      rw [pk_rem hdv (by omega) (by omega)]
      unfold dgs
      rw [show T - 1 - t = r by omega]
    have hd5 : dgs c T code t < c := dgs_lt (by omega)
    have v4 : nI (code / c ^ r) / nI c = nI (code / c ^ (r + 1)) := by
      rw [pk_div hdv (by omega) (by omega), Nat.div_div_eq_div_mul, Nat.pow_succ]
    rw [v4, nI_mul] at v2
    have v3 : nI (hg 0 (fun s => dgs c T code (T - 1 - s)) r * 8 ^ (T - r)) ||| (nI (dgs c T code t) <<< (nI 3 * nI t &&& nI 31)) = nI (hg 0 (fun s => dgs c T code (T - 1 - s)) (r + 1) * 8 ^ (T - (r + 1))) := by
      have hsm : dgs c T code t * 2 ^ (3 * t) < 2 ^ 32 := by
        have h1 : (2 : Nat) ^ (3 * t) ≤ 2 ^ 15 := Nat.pow_le_pow_right (by omega) (by omega)
        have h2 : dgs c T code t * 2 ^ (3 * t) ≤ 5 * 2 ^ 15 := Nat.mul_le_mul (by omega) h1
        omega
      rw [pk_shlN _ (3 * t) (shl3 t (by omega)) hsm, fa_or, Nat.pow_mul, show (2 : Nat) ^ 3 = 8 from rfl, show T - r = t + 1 by omega, or_dig (hf8 t), show T - (r + 1) = t by omega]
      congr 2
      show _ = hg 0 (fun s => dgs c T code (T - 1 - s)) r * 8 + dgs c T code (T - 1 - r)
      rw [ht]
    rw [nI_mul] at v3
    have epl : plc c T (sndB tm ls fs k) code i = dgs c T code t := by unfold plc; rw [hit]
    have eo := hE.2.2.1 (dgs c T code t) (by omega)
    have bo := b1.2.2.1 (dgs c T code t) (by omega)
    have efr : fret o pt z (plc c T (sndB tm ls fs k) code) i = (pt i : Int) + z - (o (dgs c T code t) : Int) := by unfold fret; rw [epl]
    have eis := s_X9_isOnCourse (σ := υ) (nI (pt i) + gI υ 55 20 - nI (o (dgs c T code t)))
    rw [fr_toInt (by omega) (by omega) (by rw [hE.2.2.2.2.2.2]; omega), hE.2.2.2.2.2.2, t2, nI_toInt (by omega), ← efr] at eis
    have ex1 : nI t + (-nI 1) = nI t - nI 1 := (Int32.sub_eq_add_neg ..).symm
    have hx' : (nI t - nI 1).toInt = (T : Int) - 1 - ((r + 1 : Nat) : Int) := by rw [nI_prd (by omega)]; omega
    have hbx := hx2 (dgs c T code t) (by omega)
    have hlast : ∀ b' : Bool, (b' = true ↔ b = true ∧ plc c T (sndB tm ls fs k) code i ≠ ban ∧ 0 ≤ fret o pt z (plc c T (sndB tm ls fs k) code) i ∧ fret o pt z (plc c T (sndB tm ls fs k) code) i ≤ (g 0 : Int)) → (b' = true ↔ ∀ i, i < n → sndB tm ls fs k i = true → T - (r + 1) ≤ cntB (sndB tm ls fs k) i → plc c T (sndB tm ls fs k) code i ≠ ban ∧ 0 ≤ fret o pt z (plc c T (sndB tm ls fs k) code) i ∧ fret o pt z (plc c T (sndB tm ls fs k) code) i ≤ (g 0 : Int)) := by
      intro b' hb'
      rw [hb', hb]
      constructor
      · rintro ⟨y1, y2⟩ j hj hsj hr
        by_cases e : cntB (sndB tm ls fs k) j = t
        · have : j = i := by
            have h1 := cnt_lt (S := sndB tm ls fs k) (j := j) (a := i) hsj
            have h2 := cnt_lt (S := sndB tm ls fs k) (j := i) (a := j) hs
            omega
          rw [this]; exact y2
        · exact y1 j hj hsj (by omega)
      · intro y
        exact ⟨fun j hj hsj hr => y j hj hsj (by omega), y i hi hs (by omega)⟩
    left
    by_cases c0 : b = true
    · subst c0
      by_cases c1 : dgs c T code t = ban
      · have q1 := hbx.2 c1
        refine ⟨_, ⟨nI t - nI 1, false, rfl, hx', hlast false (by rw [epl]; exact ⟨fun y => (by cases y), fun y => absurd c1 y.2.1⟩)⟩, ?_⟩
        unfold f_X9_findsWays_L85 f_X9_findsWays_L172 f_X9_findsWays_L173
        dsimp only
        simp (disch := first | assumption | omega) only [↓lB_eq, ↓bd_m, ck_tt, gI_pI, gI_pL, gI_pR, gL_pI, gL_pL, gL_pR, gR_pI, gR_pL, rf_0_0, rf_0_1, rf_0_2, rf_0_3, rf_0_4, rf_0_5, rf_0_6, rf_0_7, rf_0_8, rf_0_9, rf_0_10, rf_1_1, rf_1_2, rf_4_0, rf_4_1, rf_4_2, rf_4_3, rf_4_4, rf_4_5, rf_11_0, rf_11_1, rf_12_0, rf_12_1, rf_12_2, rf_12_6, rf_12_7, rf_12_8, rf_13_0, rf_13_1, rf_13_2, rf_13_3, rf_18_0, rf_18_1, rf_18_2, rf_18_3, rf_23_0, rf_23_1, rf_23_2, rf_23_3, rf_31_0, rf_33_0, rf_33_2, rf_33_3, rf_33_4, rf_37_0, rf_39_0, rf_39_1, rf_39_2, rf_39_3, rf_40_0, rf_40_1, rf_40_2, rf_40_3, rf_47_3, rf_49_3, rf_51_3, rf_53_3, rf_55_1, rf_55_7, rf_55_8, rf_55_9, rf_55_11, rf_55_13, rf_55_14, rf_55_15, rf_55_17, rf_55_18, rf_55_19, rf_55_27, rf_55_28, rf_55_29, rf_55_30, rf_55_31, rf_55_32, rf_55_33, rf_55_34, rf_55_35, rf_55_36, rf_55_38, rf_55_44, rf_55_45, rf_55_46, rf_55_47, aL_2, aL_3, aL_5, aL_6, aL_7, aL_8, aL_9, aL_10, aL_14, aL_15, aL_16, aL_17, aL_19, aL_20, aL_21, aL_22, aL_24, aL_25, aL_26, aL_27, aL_28, aL_29, aL_30, aL_32, aL_34, aL_35, aL_36, aL_38, aL_39, aL_40, aL_41, aL_42, aL_43, aL_44, aL_45, aL_46, aL_48, aL_50, aL_52, aL_54, aL_56, aL_57, aL_58, aL_59, aL_60, aL_61, aL_62, aL_63, aL_64, aL_65, aL_66, aL_67, aL_68, aL_69, aL_70, aL_71, aL_72, aL_73, aL_74, aL_75, aL_76, aL_77, aL_78, aL_79, aL_80, aL_81, inb_nI, lit32, nI_clamp, nI_1, nI_add, if_pos, if_neg, b01_0, b01_1, Nat.add_sub_cancel, if_true, if_false, not_true_eq_false, not_false_eq_true, true_and, and_true, false_and, and_false, pk_sub, b01_n0, b01_n1, bI_t, bI_f, ofNat_nI, ck_d, Int32.lt_iff_toInt_lt, Int32.le_iff_toInt_le, i32_eq, nI_toInt, bI_b01, bI_0, decide_eq_true_eq, bI_tt, bI_ff, nI_prd, ↓reduceIte, iltT, iltF, ileT, ileF, ieqT, ieqF, dcT, dcF, or_true, or_false, true_or, false_or, t0, nI_mul, v4, v2, v3, ex1]
      · have q1 : ¬ (dgs c T code t : Int) = x2.toInt := fun y => c1 (hbx.1 y)
        by_cases c2 : 0 ≤ fret o pt z (plc c T (sndB tm ls fs k) code) i ∧ fret o pt z (plc c T (sndB tm ls fs k) code) i ≤ (g 0 : Int)
        · rw [decide_eq_true c2] at eis
          refine ⟨_, ⟨nI t - nI 1, true, rfl, hx', hlast true (by rw [epl]; exact ⟨fun _ => ⟨rfl, c1, c2⟩, fun _ => rfl⟩)⟩, ?_⟩
          unfold f_X9_findsWays_L85 f_X9_findsWays_L173
          dsimp only
          simp (disch := first | assumption | omega) only [↓lB_eq, ↓bd_m, ck_tt, gI_pI, gI_pL, gI_pR, gL_pI, gL_pL, gL_pR, gR_pI, gR_pL, rf_0_0, rf_0_1, rf_0_2, rf_0_3, rf_0_4, rf_0_5, rf_0_6, rf_0_7, rf_0_8, rf_0_9, rf_0_10, rf_1_1, rf_1_2, rf_4_0, rf_4_1, rf_4_2, rf_4_3, rf_4_4, rf_4_5, rf_11_0, rf_11_1, rf_12_0, rf_12_1, rf_12_2, rf_12_6, rf_12_7, rf_12_8, rf_13_0, rf_13_1, rf_13_2, rf_13_3, rf_18_0, rf_18_1, rf_18_2, rf_18_3, rf_23_0, rf_23_1, rf_23_2, rf_23_3, rf_31_0, rf_33_0, rf_33_2, rf_33_3, rf_33_4, rf_37_0, rf_39_0, rf_39_1, rf_39_2, rf_39_3, rf_40_0, rf_40_1, rf_40_2, rf_40_3, rf_47_3, rf_49_3, rf_51_3, rf_53_3, rf_55_1, rf_55_7, rf_55_8, rf_55_9, rf_55_11, rf_55_13, rf_55_14, rf_55_15, rf_55_17, rf_55_18, rf_55_19, rf_55_27, rf_55_28, rf_55_29, rf_55_30, rf_55_31, rf_55_32, rf_55_33, rf_55_34, rf_55_35, rf_55_36, rf_55_38, rf_55_44, rf_55_45, rf_55_46, rf_55_47, aL_2, aL_3, aL_5, aL_6, aL_7, aL_8, aL_9, aL_10, aL_14, aL_15, aL_16, aL_17, aL_19, aL_20, aL_21, aL_22, aL_24, aL_25, aL_26, aL_27, aL_28, aL_29, aL_30, aL_32, aL_34, aL_35, aL_36, aL_38, aL_39, aL_40, aL_41, aL_42, aL_43, aL_44, aL_45, aL_46, aL_48, aL_50, aL_52, aL_54, aL_56, aL_57, aL_58, aL_59, aL_60, aL_61, aL_62, aL_63, aL_64, aL_65, aL_66, aL_67, aL_68, aL_69, aL_70, aL_71, aL_72, aL_73, aL_74, aL_75, aL_76, aL_77, aL_78, aL_79, aL_80, aL_81, inb_nI, lit32, nI_clamp, nI_1, nI_add, if_pos, if_neg, b01_0, b01_1, Nat.add_sub_cancel, if_true, if_false, not_true_eq_false, not_false_eq_true, true_and, and_true, false_and, and_false, pk_sub, b01_n0, b01_n1, bI_t, bI_f, ofNat_nI, ck_d, Int32.lt_iff_toInt_lt, Int32.le_iff_toInt_le, i32_eq, nI_toInt, bI_b01, bI_0, decide_eq_true_eq, bI_tt, bI_ff, nI_prd, ↓reduceIte, iltT, iltF, ileT, ileF, ieqT, ieqF, dcT, dcF, or_true, or_false, true_or, false_or, t0, v2, v4, v3, ex1, nI_mul, e64, e58, eo, eis]
        · rw [decide_eq_false c2] at eis
          refine ⟨_, ⟨nI t - nI 1, false, rfl, hx', hlast false ⟨fun y => (by cases y), fun y => absurd y.2.2 c2⟩⟩, ?_⟩
          unfold f_X9_findsWays_L85 f_X9_findsWays_L172 f_X9_findsWays_L173
          dsimp only
          simp (disch := first | assumption | omega) only [↓lB_eq, ↓bd_m, ck_tt, gI_pI, gI_pL, gI_pR, gL_pI, gL_pL, gL_pR, gR_pI, gR_pL, rf_0_0, rf_0_1, rf_0_2, rf_0_3, rf_0_4, rf_0_5, rf_0_6, rf_0_7, rf_0_8, rf_0_9, rf_0_10, rf_1_1, rf_1_2, rf_4_0, rf_4_1, rf_4_2, rf_4_3, rf_4_4, rf_4_5, rf_11_0, rf_11_1, rf_12_0, rf_12_1, rf_12_2, rf_12_6, rf_12_7, rf_12_8, rf_13_0, rf_13_1, rf_13_2, rf_13_3, rf_18_0, rf_18_1, rf_18_2, rf_18_3, rf_23_0, rf_23_1, rf_23_2, rf_23_3, rf_31_0, rf_33_0, rf_33_2, rf_33_3, rf_33_4, rf_37_0, rf_39_0, rf_39_1, rf_39_2, rf_39_3, rf_40_0, rf_40_1, rf_40_2, rf_40_3, rf_47_3, rf_49_3, rf_51_3, rf_53_3, rf_55_1, rf_55_7, rf_55_8, rf_55_9, rf_55_11, rf_55_13, rf_55_14, rf_55_15, rf_55_17, rf_55_18, rf_55_19, rf_55_27, rf_55_28, rf_55_29, rf_55_30, rf_55_31, rf_55_32, rf_55_33, rf_55_34, rf_55_35, rf_55_36, rf_55_38, rf_55_44, rf_55_45, rf_55_46, rf_55_47, aL_2, aL_3, aL_5, aL_6, aL_7, aL_8, aL_9, aL_10, aL_14, aL_15, aL_16, aL_17, aL_19, aL_20, aL_21, aL_22, aL_24, aL_25, aL_26, aL_27, aL_28, aL_29, aL_30, aL_32, aL_34, aL_35, aL_36, aL_38, aL_39, aL_40, aL_41, aL_42, aL_43, aL_44, aL_45, aL_46, aL_48, aL_50, aL_52, aL_54, aL_56, aL_57, aL_58, aL_59, aL_60, aL_61, aL_62, aL_63, aL_64, aL_65, aL_66, aL_67, aL_68, aL_69, aL_70, aL_71, aL_72, aL_73, aL_74, aL_75, aL_76, aL_77, aL_78, aL_79, aL_80, aL_81, inb_nI, lit32, nI_clamp, nI_1, nI_add, if_pos, if_neg, b01_0, b01_1, Nat.add_sub_cancel, if_true, if_false, not_true_eq_false, not_false_eq_true, true_and, and_true, false_and, and_false, pk_sub, b01_n0, b01_n1, bI_t, bI_f, ofNat_nI, ck_d, Int32.lt_iff_toInt_lt, Int32.le_iff_toInt_le, i32_eq, nI_toInt, bI_b01, bI_0, decide_eq_true_eq, bI_tt, bI_ff, nI_prd, ↓reduceIte, iltT, iltF, ileT, ileF, ieqT, ieqF, dcT, dcF, or_true, or_false, true_or, false_or, t0, v2, v4, v3, ex1, nI_mul, e64, e58, eo, eis]
    · have c0' : b = false := by rw [Bool.not_eq_true] at c0; exact c0
      subst c0'
      refine ⟨_, ⟨nI t - nI 1, false, rfl, hx', hlast false ⟨fun y => (by cases y), fun y => absurd y.1 c0⟩⟩, ?_⟩
      unfold f_X9_findsWays_L85 f_X9_findsWays_L172 f_X9_findsWays_L173
      dsimp only
      simp (disch := first | assumption | omega) only [↓lB_eq, ↓bd_m, ck_tt, gI_pI, gI_pL, gI_pR, gL_pI, gL_pL, gL_pR, gR_pI, gR_pL, rf_0_0, rf_0_1, rf_0_2, rf_0_3, rf_0_4, rf_0_5, rf_0_6, rf_0_7, rf_0_8, rf_0_9, rf_0_10, rf_1_1, rf_1_2, rf_4_0, rf_4_1, rf_4_2, rf_4_3, rf_4_4, rf_4_5, rf_11_0, rf_11_1, rf_12_0, rf_12_1, rf_12_2, rf_12_6, rf_12_7, rf_12_8, rf_13_0, rf_13_1, rf_13_2, rf_13_3, rf_18_0, rf_18_1, rf_18_2, rf_18_3, rf_23_0, rf_23_1, rf_23_2, rf_23_3, rf_31_0, rf_33_0, rf_33_2, rf_33_3, rf_33_4, rf_37_0, rf_39_0, rf_39_1, rf_39_2, rf_39_3, rf_40_0, rf_40_1, rf_40_2, rf_40_3, rf_47_3, rf_49_3, rf_51_3, rf_53_3, rf_55_1, rf_55_7, rf_55_8, rf_55_9, rf_55_11, rf_55_13, rf_55_14, rf_55_15, rf_55_17, rf_55_18, rf_55_19, rf_55_27, rf_55_28, rf_55_29, rf_55_30, rf_55_31, rf_55_32, rf_55_33, rf_55_34, rf_55_35, rf_55_36, rf_55_38, rf_55_44, rf_55_45, rf_55_46, rf_55_47, aL_2, aL_3, aL_5, aL_6, aL_7, aL_8, aL_9, aL_10, aL_14, aL_15, aL_16, aL_17, aL_19, aL_20, aL_21, aL_22, aL_24, aL_25, aL_26, aL_27, aL_28, aL_29, aL_30, aL_32, aL_34, aL_35, aL_36, aL_38, aL_39, aL_40, aL_41, aL_42, aL_43, aL_44, aL_45, aL_46, aL_48, aL_50, aL_52, aL_54, aL_56, aL_57, aL_58, aL_59, aL_60, aL_61, aL_62, aL_63, aL_64, aL_65, aL_66, aL_67, aL_68, aL_69, aL_70, aL_71, aL_72, aL_73, aL_74, aL_75, aL_76, aL_77, aL_78, aL_79, aL_80, aL_81, inb_nI, lit32, nI_clamp, nI_1, nI_add, if_pos, if_neg, b01_0, b01_1, Nat.add_sub_cancel, if_true, if_false, not_true_eq_false, not_false_eq_true, true_and, and_true, false_and, and_false, pk_sub, b01_n0, b01_n1, bI_t, bI_f, ofNat_nI, ck_d, Int32.lt_iff_toInt_lt, Int32.le_iff_toInt_le, i32_eq, nI_toInt, bI_b01, bI_0, decide_eq_true_eq, bI_tt, bI_ff, nI_prd, ↓reduceIte, iltT, iltF, ileT, ileF, ieqT, ieqF, dcT, dcF, or_true, or_false, true_or, false_or, t0, nI_mul, v4, v2, v3, ex1]
  · rintro s ⟨x, b, rfl, hx, hb⟩ rec
    refine ⟨_, ⟨b, ?_, rfl⟩, ?_⟩
    · rw [hb]
      exact ⟨fun y i hi hs => y i hi hs (by omega), fun y i hi hs _ => y i hi hs⟩
    · have e1 : hg 0 (fun s => dgs c T code (T - 1 - s)) T * 8 ^ (T - T) = W := by
        rw [Nat.sub_self, Nat.pow_zero, Nat.mul_one]
      rw [e1]
      unfold f_X9_findsWays_L85
      dsimp only
      rw [if_pos (by rw [Int32.lt_iff_toInt_lt]; have : (0 : Int32).toInt = 0 := rfl; omega)]
      cases b with
      | true => rw [if_neg (by decide), if_pos rfl]; rfl
      | false => rw [if_pos (by decide), if_neg (by decide)]; rfl
  · show (nI 0, nI code, nI 1, nI T - 1, υ) = (nI (0 * 8 ^ (T - 0)), nI (code / c ^ 0), bI true, nI T - 1, υ)
    rw [Nat.zero_mul, Nat.pow_zero, Nat.div_one]; rfl
  · rw [show (1 : Int32) = nI 1 from rfl, nI_prd (by omega)]; omega
  · constructor
    · intro _ i hi hs hr
      have := (cnt_lt (S := sndB tm ls fs k) hs).2 hi
      omega
    · intro _; rfl
