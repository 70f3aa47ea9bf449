/-! the class's hand at a chord -/
/-- the courses on which a sounding note of a kind lies, among the first m -/
def anyB (P : Nat → Bool) (d : Nat → Nat) (c m : Nat) : Bool := (List.range m).any (fun i => P i && decide (d i = c))
/-- the courses at the lowest fret -/
def H9 (σ : Sg) (S : Nat → Bool) (F : Nat → Int) (d : Nat → Nat) (m : Nat) : Prop := 0 < atlC S F m → ∃ u v, gI σ 11 9 = nI (d u) ∧ gI σ 11 10 = nI (d v) ∧ (u < m ∧ S u = true ∧ F u = lowF S F m) ∧ (v < m ∧ S v = true ∧ F v = lowF S F m) ∧ ∀ i, i < m → S i = true → F i = lowF S F m → d u ≤ d i ∧ d i ≤ d v
def S11 (p k : Nat) : Prop := p = 11
theorem S11_i {k : Nat} : S11 11 k := rfl
/-- what the hand holds behind the first m notes -/
def HI (σ : Sg) (S : Nat → Bool) (F : Nat → Int) (d : Nat → Nat) (b m : Nat) : Prop :=
  (gI σ 11 2).toInt = lowF S F m ∧ gI σ 11 3 = nI (posC S F m) ∧ gI σ 11 5 = bI (twB S d m) ∧ (gI σ 11 6).toInt = hiF S F m ∧ gI σ 11 7 = nI (prsC S F b m) ∧ gI σ 11 8 = nI (atlC S F m) ∧
  H9 σ S F d m ∧
  (∃ w, w < 2 ^ 5 ∧ gI σ 11 11 = nI w ∧ ∀ c, w.testBit c = anyB S d c m) ∧ (∃ w, w < 2 ^ 5 ∧ gI σ 11 12 = nI w ∧ ∀ c, w.testBit c = anyB (fun i => S i && decide (F i ≤ 0)) d c m)
theorem anyB_suc (P : Nat → Bool) (d : Nat → Nat) (c m : Nat) : anyB P d c (m + 1) = (anyB P d c m || (P m && decide (d m = c))) := any_suc _ m
theorem twB_suc (S : Nat → Bool) (d : Nat → Nat) (m : Nat) : twB S d (m + 1) = (twB S d m || (S m && anyB S d (d m) m)) := any_suc _ m
theorem HI.skip {σ : Sg} {S : Nat → Bool} {F : Nat → Int} {d : Nat → Nat} {b m : Nat} (h : HI σ S F d b m) (hs : ¬ S m = true) : HI σ S F d b (m + 1) := by
  obtain ⟨h2, h3, h5, h6, h7, h8, h9, h11, h12⟩ := h
  rw [Bool.not_eq_true] at hs
  obtain ⟨e1, e2⟩ := atl_0 (S := S) (F := F) (m := m) (fun z => by rw [hs] at z; exact absurd z.1 (by decide))
  refine ⟨by rw [e1]; exact h2, ?_, ?_, ?_, ?_, by rw [e2]; exact h8, ?_, ?_, ?_⟩
  · have : posC S F (m + 1) = posC S F m + 0 := cntB_f (by simp [hs])
    rw [this]; exact h3
  · rw [twB_suc, hs]; simpa using h5
  · have : hiF S F (m + 1) = hiF S F m := if_neg (by simp [hs])
    rw [this]; exact h6
  · have : prsC S F b (m + 1) = prsC S F b m + 0 := cntB_f (by simp [hs])
    rw [this]; exact h7
  · intro hp
    rw [e2] at hp
    rw [e1]
    obtain ⟨u, v, g1, g2, g3, g4, g5⟩ := h9 hp
    refine ⟨u, v, g1, g2, ⟨by omega, g3.2⟩, ⟨by omega, g4.2⟩, fun i hi hsi => ?_⟩
    by_cases e : i = m
    · subst e; rw [hs] at hsi; exact absurd hsi (by decide)
    · exact g5 i (by omega) hsi
  · obtain ⟨w, w1, w2, w3⟩ := h11
    exact ⟨w, w1, w2, fun c => by rw [anyB_suc, hs, w3]; simp⟩
  · obtain ⟨w, w1, w2, w3⟩ := h12
    exact ⟨w, w1, w2, fun c => by rw [anyB_suc, hs, w3]; simp⟩
theorem mnI_nI {a b : Nat} (ha : a < 2 ^ 31) (hb : b < 2 ^ 31) : mnI (nI a) (nI b) = nI (min a b) := by
  unfold mnI
  by_cases h : nI b < nI a
  · rw [if_pos h]; rw [Int32.lt_iff_toInt_lt, nI_toInt ha, nI_toInt hb] at h; rw [Nat.min_eq_right (by omega)]
  · rw [if_neg h]; rw [Int32.lt_iff_toInt_lt, nI_toInt ha, nI_toInt hb] at h; rw [Nat.min_eq_left (by omega)]
theorem mxI_nI {a b : Nat} (ha : a < 2 ^ 31) (hb : b < 2 ^ 31) : mxI (nI a) (nI b) = nI (max a b) := by
  unfold mxI
  by_cases h : nI a < nI b
  · rw [if_pos h]; rw [Int32.lt_iff_toInt_lt, nI_toInt ha, nI_toInt hb] at h; rw [Nat.max_eq_right (by omega)]
  · rw [if_neg h]; rw [Int32.lt_iff_toInt_lt, nI_toInt ha, nI_toInt hb] at h; rw [Nat.max_eq_left (by omega)]
theorem mxI_toInt (x y : Int32) : (mxI x y).toInt = if x.toInt < y.toInt then y.toInt else x.toInt := by
  unfold mxI
  by_cases h : x < y
  · rw [if_pos h]; rw [Int32.lt_iff_toInt_lt] at h; rw [if_pos h]
  · rw [if_neg h]; rw [Int32.lt_iff_toInt_lt] at h; rw [if_neg h]
theorem s_X0_L93 {τ : Sg} {S : Nat → Bool} {F : Nat → Int} {d : Nat → Nat} {m : Nat} {x3 : Int32} (h2 : (gI τ 11 2).toInt = lowF S F m) (h8 : gI τ 11 8 = nI (atlC S F m)) (h9 : H9 τ S F d m) (hm : m < 14) (hs : S m = true) (hd : ∀ i, i ≤ m → S i = true → d i < 5) (hF : x3.toInt = F m) (hp : 0 < F m) : ∃ τ', f_X0_take_L93 11 (nI (d m)) x3 τ = some ((), τ') ∧ Ag (fun p k => p = 11 ∧ (k = 2 ∨ (8 ≤ k ∧ k ≤ 10))) (fun _ _ => False) τ τ' ∧ (gI τ' 11 2).toInt = lowF S F (m + 1) ∧ gI τ' 11 8 = nI (atlC S F (m + 1)) ∧ H9 τ' S F d (m + 1) := by
  have p8 : atlC S F m ≤ m := cntB_le _ m
  have l0 := lowF_nn (S := S) (F := F) m
  have hdm := hd m (Nat.le_refl _) hs
  have z0 : (0 : Int32).toInt = 0 := rfl
  by_cases hnew : lowF S F m = 0 ∨ F m < lowF S F m
  · obtain ⟨e1, e2⟩ := atl_new hs hp hnew
    refine ⟨pI (pI (pI (pI (pI (pI (pI τ 11 2 x3) 11 8 (nI 0)) 11 9 (nI (d m))) 11 10 (nI (d m))) 11 8 (nI (0 + 1))) 11 9 (nI (d m))) 11 10 (nI (d m)), ?_, ((((((Ag.rf.pI (by omega)).pI (by omega)).pI (by omega)).pI (by omega)).pI (by omega)).pI (by omega)).pI (by omega), ?_, ?_, ?_⟩
    · have hmn : mnI (nI (d m)) (nI (d m)) = nI (d m) := by rw [mnI_nI (by omega) (by omega), Nat.min_self]
      have hmx : mxI (nI (d m)) (nI (d m)) = nI (d m) := by rw [mxI_nI (by omega) (by omega), Nat.max_self]
      unfold f_X0_take_L93 f_X0_take_L108 f_X0_take_L128 f_X0_take_L170
      by_cases q : lowF S F m = 0
      · simp (disch := first | assumption | omega) only [↓lB_eq, ↓bd_m, ck_tt, gI_pI, gI_pL, gI_pR, gL_pI, gL_pL, gL_pR, gR_pI, gR_pL, rf_0_0, rf_0_1, rf_0_2, rf_0_3, rf_0_4, rf_0_5, rf_0_6, rf_0_7, rf_0_8, rf_0_9, rf_0_10, rf_1_1, rf_1_2, rf_4_0, rf_4_1, rf_4_2, rf_4_3, rf_4_4, rf_4_5, rf_11_0, rf_11_1, rf_12_0, rf_12_1, rf_12_2, rf_12_6, rf_12_7, rf_12_8, rf_13_0, rf_13_1, rf_13_2, rf_13_3, rf_18_0, rf_18_1, rf_18_2, rf_18_3, rf_23_0, rf_23_1, rf_23_2, rf_23_3, rf_31_0, rf_33_0, rf_33_2, rf_33_3, rf_33_4, rf_37_0, rf_39_0, rf_39_1, rf_39_2, rf_39_3, rf_40_0, rf_40_1, rf_40_2, rf_40_3, rf_47_3, rf_49_3, rf_51_3, rf_53_3, rf_55_1, rf_55_7, rf_55_8, rf_55_9, rf_55_11, rf_55_13, rf_55_14, rf_55_15, rf_55_17, rf_55_18, rf_55_19, rf_55_27, rf_55_28, rf_55_29, rf_55_30, rf_55_31, rf_55_32, rf_55_33, rf_55_34, rf_55_35, rf_55_36, rf_55_38, rf_55_44, rf_55_45, rf_55_46, rf_55_47, aL_2, aL_3, aL_5, aL_6, aL_7, aL_8, aL_9, aL_10, aL_14, aL_15, aL_16, aL_17, aL_19, aL_20, aL_21, aL_22, aL_24, aL_25, aL_26, aL_27, aL_28, aL_29, aL_30, aL_32, aL_34, aL_35, aL_36, aL_38, aL_39, aL_40, aL_41, aL_42, aL_43, aL_44, aL_45, aL_46, aL_48, aL_50, aL_52, aL_54, aL_56, aL_57, aL_58, aL_59, aL_60, aL_61, aL_62, aL_63, aL_64, aL_65, aL_66, aL_67, aL_68, aL_69, aL_70, aL_71, aL_72, aL_73, aL_74, aL_75, aL_76, aL_77, aL_78, aL_79, aL_80, aL_81, inb_nI, lit32, nI_clamp, nI_1, nI_add, if_pos, if_neg, b01_0, b01_1, Nat.add_sub_cancel, if_true, if_false, not_true_eq_false, not_false_eq_true, true_and, and_true, false_and, and_false, pk_sub, b01_n0, b01_n1, bI_t, bI_f, ofNat_nI, ck_d, Int32.lt_iff_toInt_lt, Int32.le_iff_toInt_le, i32_eq, nI_toInt, bI_b01, bI_0, decide_eq_true_eq, bI_tt, bI_ff, nI_prd, ↓reduceIte, iltT, iltF, ileT, ileF, ieqT, ieqF, dcT, dcF, or_true, or_false, true_or, false_or, hmn, hmx]
      · simp (disch := first | assumption | omega) only [↓lB_eq, ↓bd_m, ck_tt, gI_pI, gI_pL, gI_pR, gL_pI, gL_pL, gL_pR, gR_pI, gR_pL, rf_0_0, rf_0_1, rf_0_2, rf_0_3, rf_0_4, rf_0_5, rf_0_6, rf_0_7, rf_0_8, rf_0_9, rf_0_10, rf_1_1, rf_1_2, rf_4_0, rf_4_1, rf_4_2, rf_4_3, rf_4_4, rf_4_5, rf_11_0, rf_11_1, rf_12_0, rf_12_1, rf_12_2, rf_12_6, rf_12_7, rf_12_8, rf_13_0, rf_13_1, rf_13_2, rf_13_3, rf_18_0, rf_18_1, rf_18_2, rf_18_3, rf_23_0, rf_23_1, rf_23_2, rf_23_3, rf_31_0, rf_33_0, rf_33_2, rf_33_3, rf_33_4, rf_37_0, rf_39_0, rf_39_1, rf_39_2, rf_39_3, rf_40_0, rf_40_1, rf_40_2, rf_40_3, rf_47_3, rf_49_3, rf_51_3, rf_53_3, rf_55_1, rf_55_7, rf_55_8, rf_55_9, rf_55_11, rf_55_13, rf_55_14, rf_55_15, rf_55_17, rf_55_18, rf_55_19, rf_55_27, rf_55_28, rf_55_29, rf_55_30, rf_55_31, rf_55_32, rf_55_33, rf_55_34, rf_55_35, rf_55_36, rf_55_38, rf_55_44, rf_55_45, rf_55_46, rf_55_47, aL_2, aL_3, aL_5, aL_6, aL_7, aL_8, aL_9, aL_10, aL_14, aL_15, aL_16, aL_17, aL_19, aL_20, aL_21, aL_22, aL_24, aL_25, aL_26, aL_27, aL_28, aL_29, aL_30, aL_32, aL_34, aL_35, aL_36, aL_38, aL_39, aL_40, aL_41, aL_42, aL_43, aL_44, aL_45, aL_46, aL_48, aL_50, aL_52, aL_54, aL_56, aL_57, aL_58, aL_59, aL_60, aL_61, aL_62, aL_63, aL_64, aL_65, aL_66, aL_67, aL_68, aL_69, aL_70, aL_71, aL_72, aL_73, aL_74, aL_75, aL_76, aL_77, aL_78, aL_79, aL_80, aL_81, inb_nI, lit32, nI_clamp, nI_1, nI_add, if_pos, if_neg, b01_0, b01_1, Nat.add_sub_cancel, if_true, if_false, not_true_eq_false, not_false_eq_true, true_and, and_true, false_and, and_false, pk_sub, b01_n0, b01_n1, bI_t, bI_f, ofNat_nI, ck_d, Int32.lt_iff_toInt_lt, Int32.le_iff_toInt_le, i32_eq, nI_toInt, bI_b01, bI_0, decide_eq_true_eq, bI_tt, bI_ff, nI_prd, ↓reduceIte, iltT, iltF, ileT, ileF, ieqT, ieqF, dcT, dcF, or_true, or_false, true_or, false_or, hmn, hmx]
    · rw [e1, ← hF]; rfl
    · rw [e2]; rfl
    · intro _
      refine ⟨m, m, rfl, rfl, ⟨by omega, hs, e1.symm⟩, ⟨by omega, hs, e1.symm⟩, fun i hi hsi hfi => ?_⟩
      rw [e1] at hfi
      by_cases e : i = m
      · subst e; exact ⟨Nat.le_refl _, Nat.le_refl _⟩
      · have := lowF_le (F := F) (show i < m by omega) hsi (by omega)
        omega
  · have hl : 0 < lowF S F m := by omega
    by_cases heq : F m = lowF S F m
    · obtain ⟨e1, e2⟩ := atl_eq hs hp heq
      have hpos : 0 < atlC S F m := by
        obtain ⟨i, h1, hh2, h3⟩ := lowF_at hl
        unfold atlC
        have : ∀ (P : Nat → Bool) (j : Nat), i < j → P i = true → 0 < cntB P j := by
          intro P j
          induction j with
          | zero => intro h; omega
          | succ j ih =>
            intro h hP
            by_cases e : i = j
            · subst e; rw [cntB_t hP]; omega
            · exact Nat.lt_of_lt_of_le (ih (by omega) hP) (Nat.le_add_right _ _)
        exact this _ m h1 (by rw [hh2, decide_eq_true ⟨hl, h3⟩]; rfl)
      obtain ⟨u, v, g1, g2, g3, g4, g5⟩ := h9 hpos
      have du := hd u (by omega) g3.2.1
      have dv := hd v (by omega) g4.2.1
      refine ⟨pI (pI (pI τ 11 8 (nI (atlC S F m + 1))) 11 9 (nI (min (d u) (d m)))) 11 10 (nI (max (d v) (d m))), ?_, ((Ag.rf.pI (by omega)).pI (by omega)).pI (by omega), by rw [e1]; exact h2, by rw [e2]; rfl, ?_⟩
      · have hmn : mnI (nI (d u)) (nI (d m)) = nI (min (d u) (d m)) := mnI_nI (by omega) (by omega)
        have hmx : mxI (nI (d v)) (nI (d m)) = nI (max (d v) (d m)) := mxI_nI (by omega) (by omega)
        unfold f_X0_take_L93 f_X0_take_L128 f_X0_take_L170
        simp (disch := first | assumption | omega) only [↓lB_eq, ↓bd_m, ck_tt, gI_pI, gI_pL, gI_pR, gL_pI, gL_pL, gL_pR, gR_pI, gR_pL, rf_0_0, rf_0_1, rf_0_2, rf_0_3, rf_0_4, rf_0_5, rf_0_6, rf_0_7, rf_0_8, rf_0_9, rf_0_10, rf_1_1, rf_1_2, rf_4_0, rf_4_1, rf_4_2, rf_4_3, rf_4_4, rf_4_5, rf_11_0, rf_11_1, rf_12_0, rf_12_1, rf_12_2, rf_12_6, rf_12_7, rf_12_8, rf_13_0, rf_13_1, rf_13_2, rf_13_3, rf_18_0, rf_18_1, rf_18_2, rf_18_3, rf_23_0, rf_23_1, rf_23_2, rf_23_3, rf_31_0, rf_33_0, rf_33_2, rf_33_3, rf_33_4, rf_37_0, rf_39_0, rf_39_1, rf_39_2, rf_39_3, rf_40_0, rf_40_1, rf_40_2, rf_40_3, rf_47_3, rf_49_3, rf_51_3, rf_53_3, rf_55_1, rf_55_7, rf_55_8, rf_55_9, rf_55_11, rf_55_13, rf_55_14, rf_55_15, rf_55_17, rf_55_18, rf_55_19, rf_55_27, rf_55_28, rf_55_29, rf_55_30, rf_55_31, rf_55_32, rf_55_33, rf_55_34, rf_55_35, rf_55_36, rf_55_38, rf_55_44, rf_55_45, rf_55_46, rf_55_47, aL_2, aL_3, aL_5, aL_6, aL_7, aL_8, aL_9, aL_10, aL_14, aL_15, aL_16, aL_17, aL_19, aL_20, aL_21, aL_22, aL_24, aL_25, aL_26, aL_27, aL_28, aL_29, aL_30, aL_32, aL_34, aL_35, aL_36, aL_38, aL_39, aL_40, aL_41, aL_42, aL_43, aL_44, aL_45, aL_46, aL_48, aL_50, aL_52, aL_54, aL_56, aL_57, aL_58, aL_59, aL_60, aL_61, aL_62, aL_63, aL_64, aL_65, aL_66, aL_67, aL_68, aL_69, aL_70, aL_71, aL_72, aL_73, aL_74, aL_75, aL_76, aL_77, aL_78, aL_79, aL_80, aL_81, inb_nI, lit32, nI_clamp, nI_1, nI_add, if_pos, if_neg, b01_0, b01_1, Nat.add_sub_cancel, if_true, if_false, not_true_eq_false, not_false_eq_true, true_and, and_true, false_and, and_false, pk_sub, b01_n0, b01_n1, bI_t, bI_f, ofNat_nI, ck_d, Int32.lt_iff_toInt_lt, Int32.le_iff_toInt_le, i32_eq, nI_toInt, bI_b01, bI_0, decide_eq_true_eq, bI_tt, bI_ff, nI_prd, ↓reduceIte, iltT, iltF, ileT, ileF, ieqT, ieqF, dcT, dcF, or_true, or_false, true_or, false_or, h8, g1, g2, hmn, hmx]
      · intro _
        refine ⟨if d u ≤ d m then u else m, if d m ≤ d v then v else m, ?_, ?_, ?_, ?_, fun i hi hsi hfi => ?_⟩
        · show nI (min (d u) (d m)) = _
          by_cases q : d u ≤ d m
          · rw [if_pos q, Nat.min_eq_left q]
          · rw [if_neg q, Nat.min_eq_right (by omega)]
        · show nI (max (d v) (d m)) = _
          by_cases q : d m ≤ d v
          · rw [if_pos q, Nat.max_eq_left q]
          · rw [if_neg q, Nat.max_eq_right (by omega)]
        · rw [e1]
          by_cases q : d u ≤ d m
          · rw [if_pos q]; exact ⟨by omega, g3.2⟩
          · rw [if_neg q]; exact ⟨by omega, hs, heq⟩
        · rw [e1]
          by_cases q : d m ≤ d v
          · rw [if_pos q]; exact ⟨by omega, g4.2⟩
          · rw [if_neg q]; exact ⟨by omega, hs, heq⟩
        · rw [e1] at hfi
          have hbd : d u ≤ d i ∧ d i ≤ d v ∨ i = m := by
            by_cases e : i = m
            · exact Or.inr e
            · exact Or.inl (g5 i (by omega) hsi hfi)
          have guv := g5 u g3.1 g3.2.1 g3.2.2
          by_cases q1 : d u ≤ d m
          · by_cases q2 : d m ≤ d v
            · rw [if_pos q1, if_pos q2]
              rcases hbd with z | z
              · exact z
              · subst z; exact ⟨q1, q2⟩
            · rw [if_pos q1, if_neg q2]
              rcases hbd with z | z
              · omega
              · subst z; omega
          · by_cases q2 : d m ≤ d v
            · rw [if_neg q1, if_pos q2]
              rcases hbd with z | z
              · omega
              · subst z; omega
            · omega
    · obtain ⟨e1, e2⟩ := atl_gt (S := S) (F := F) (m := m) hl (by omega)
      refine ⟨τ, ?_, Ag.rf, by rw [e1]; exact h2, by rw [e2]; exact h8, ?_⟩
      · unfold f_X0_take_L93 f_X0_take_L128 f_X0_take_L170
        simp (disch := first | assumption | omega) only [↓lB_eq, ↓bd_m, ck_tt, gI_pI, gI_pL, gI_pR, gL_pI, gL_pL, gL_pR, gR_pI, gR_pL, rf_0_0, rf_0_1, rf_0_2, rf_0_3, rf_0_4, rf_0_5, rf_0_6, rf_0_7, rf_0_8, rf_0_9, rf_0_10, rf_1_1, rf_1_2, rf_4_0, rf_4_1, rf_4_2, rf_4_3, rf_4_4, rf_4_5, rf_11_0, rf_11_1, rf_12_0, rf_12_1, rf_12_2, rf_12_6, rf_12_7, rf_12_8, rf_13_0, rf_13_1, rf_13_2, rf_13_3, rf_18_0, rf_18_1, rf_18_2, rf_18_3, rf_23_0, rf_23_1, rf_23_2, rf_23_3, rf_31_0, rf_33_0, rf_33_2, rf_33_3, rf_33_4, rf_37_0, rf_39_0, rf_39_1, rf_39_2, rf_39_3, rf_40_0, rf_40_1, rf_40_2, rf_40_3, rf_47_3, rf_49_3, rf_51_3, rf_53_3, rf_55_1, rf_55_7, rf_55_8, rf_55_9, rf_55_11, rf_55_13, rf_55_14, rf_55_15, rf_55_17, rf_55_18, rf_55_19, rf_55_27, rf_55_28, rf_55_29, rf_55_30, rf_55_31, rf_55_32, rf_55_33, rf_55_34, rf_55_35, rf_55_36, rf_55_38, rf_55_44, rf_55_45, rf_55_46, rf_55_47, aL_2, aL_3, aL_5, aL_6, aL_7, aL_8, aL_9, aL_10, aL_14, aL_15, aL_16, aL_17, aL_19, aL_20, aL_21, aL_22, aL_24, aL_25, aL_26, aL_27, aL_28, aL_29, aL_30, aL_32, aL_34, aL_35, aL_36, aL_38, aL_39, aL_40, aL_41, aL_42, aL_43, aL_44, aL_45, aL_46, aL_48, aL_50, aL_52, aL_54, aL_56, aL_57, aL_58, aL_59, aL_60, aL_61, aL_62, aL_63, aL_64, aL_65, aL_66, aL_67, aL_68, aL_69, aL_70, aL_71, aL_72, aL_73, aL_74, aL_75, aL_76, aL_77, aL_78, aL_79, aL_80, aL_81, inb_nI, lit32, nI_clamp, nI_1, nI_add, if_pos, if_neg, b01_0, b01_1, Nat.add_sub_cancel, if_true, if_false, not_true_eq_false, not_false_eq_true, true_and, and_true, false_and, and_false, pk_sub, b01_n0, b01_n1, bI_t, bI_f, ofNat_nI, ck_d, Int32.lt_iff_toInt_lt, Int32.le_iff_toInt_le, i32_eq, nI_toInt, bI_b01, bI_0, decide_eq_true_eq, bI_tt, bI_ff, nI_prd, ↓reduceIte, iltT, iltF, ileT, ileF, ieqT, ieqF, dcT, dcF, or_true, or_false, true_or, false_or]
      · intro hpp
        rw [e2] at hpp
        rw [e1]
        obtain ⟨u, v, g1, g2, g3, g4, g5⟩ := h9 hpp
        refine ⟨u, v, g1, g2, ⟨by omega, g3.2⟩, ⟨by omega, g4.2⟩, fun i hi hsi hfi => ?_⟩
        by_cases e : i = m
        · subst e; exact absurd hfi heq
        · exact g5 i (by omega) hsi hfi
/-- the picture behind take, by cases -/
theorem s_X0_take {σ : Sg} {S : Nat → Bool} {F : Nat → Int} {d : Nat → Nat} {b m : Nat} {x3 : Int32} (h : HI σ S F d b m) (hm : m < 14) (hs : S m = true) (hd : ∀ i, i ≤ m → S i = true → d i < 5) (hF : x3.toInt = F m) : ∃ σ', f_X0_take 11 (nI (d m)) x3 (bI (decide (b ≤ m))) σ = some ((), σ') ∧ Ag S11 (fun _ _ => False) σ σ' ∧ HI σ' S F d b (m + 1) := by
  obtain ⟨h2, h3, h5, h6, h7, h8, h9, ⟨w, w1, w2, w3⟩, ⟨y, y1, y2, y3⟩⟩ := h
  have hdm := hd m (Nat.le_refl _) hs
  have hb11 := bit_t (b := w) (i := d m) (by omega) (by omega)
  have p3 : posC S F m ≤ m := cntB_le _ m
  have p7 : prsC S F b m ≤ m := cntB_le _ m
  have p8 : atlC S F m ≤ m := cntB_le _ m
  have l0 := lowF_nn (S := S) (F := F) m
  -- the state behind the head
  let σ1 : Sg := pI (pI σ 11 5 (bI (twB S d (m + 1)))) 11 11 (nI (w ||| 2 ^ d m))
  have hA1 : Ag S11 (fun _ _ => False) σ σ1 := (Ag.rf.pI S11_i).pI S11_i
  have hhead : f_X0_take 11 (nI (d m)) x3 (bI (decide (b ≤ m))) σ = (if 0 < x3 then lB (pI σ1 11 3 ((gI σ1 11 3) + (1 : Int32))) fun s3 => lB (pI s3 11 6 (mxI (gI s3 11 6) x3)) fun s4 => (if bI (decide (b ≤ m)) = 0 then f_X0_take_L93 11 (nI (d m)) x3 s4 else lB (pI s4 11 7 ((gI s4 11 7) + (1 : Int32))) fun s5 => f_X0_take_L93 11 (nI (d m)) x3 s5) else lB (pI σ1 11 12 ((gI σ1 11 12) ||| ((1 : Int32) <<< (nI (d m) &&& 31)))) fun s6 => some ((), s6)) := by
    have e5 : twB S d (m + 1) = (twB S d m || w.testBit (d m)) := by rw [twB_suc, hs, w3]; rfl
    have hor : nI w ||| ((1 : Int32) <<< (nI (d m) &&& 31)) = nI (w ||| 2 ^ d m) := or_bit (by omega)
    have hL25 : ∀ q : Bool, q = twB S d (m + 1) → f_X0_take_L25 11 (nI (d m)) x3 (bI (decide (b ≤ m))) 11 (bI q) σ = (if 0 < x3 then lB (pI σ1 11 3 ((gI σ1 11 3) + (1 : Int32))) fun s3 => lB (pI s3 11 6 (mxI (gI s3 11 6) x3)) fun s4 => (if bI (decide (b ≤ m)) = 0 then f_X0_take_L93 11 (nI (d m)) x3 s4 else lB (pI s4 11 7 ((gI s4 11 7) + (1 : Int32))) fun s5 => f_X0_take_L93 11 (nI (d m)) x3 s5) else lB (pI σ1 11 12 ((gI σ1 11 12) ||| ((1 : Int32) <<< (nI (d m) &&& 31)))) fun s6 => some ((), s6)) := by
      rintro q rfl
      unfold f_X0_take_L25
      rw [ck_of (bI_b01 _), lB_eq, lB_eq]
      rw [show gI (pI σ 11 5 (bI (twB S d (m + 1)))) 11 11 = nI w from w2, hor]
    unfold f_X0_take f_X0_take_L20
    rw [h5]
    cases hq : twB S d m with
    | true =>
      rw [if_neg (by decide)]
      exact hL25 true (by rw [e5, hq]; rfl)
    | false =>
      rw [if_pos (by decide), w2]
      have hc : (((nI w >>> (nI (d m) &&& 31)) &&& (1 : Int32)) = (1 : Int32)) ↔ w.testBit (d m) = true := by
        rw [i32_eq]
        have : ((nI w >>> (nI (d m) &&& 31)) &&& (1 : Int32)).toInt = if w.testBit (d m) = true then 1 else 0 := hb11
        rw [this]
        have o1 : (1 : Int32).toInt = 1 := rfl
        rw [o1]
        by_cases z : w.testBit (d m) = true
        · simp [z]
        · simp [z]
      by_cases z : w.testBit (d m) = true
      · rw [if_pos (hc.mpr z)]
        exact hL25 true (by rw [e5, hq, z]; rfl)
      · rw [if_neg (fun q => z (hc.mp q))]
        refine hL25 false ?_
        rw [e5, hq]
        rw [Bool.not_eq_true] at z
        rw [z]; rfl
  rw [hhead]
  have z0 : (0 : Int32).toInt = 0 := rfl
  have q11 : ∀ c, (w ||| 2 ^ d m).testBit c = anyB S d c (m + 1) := fun c => by rw [tb_or, anyB_suc, w3, hs]; rfl
  by_cases hp : 0 < F m
  · rw [if_pos (by rw [Int32.lt_iff_toInt_lt, z0, hF]; exact hp), lB_eq, lB_eq]
    have e3 : posC S F (m + 1) = posC S F m + 1 := cntB_t (by rw [hs, decide_eq_true hp]; rfl)
    let σ4 : Sg := pI (pI σ1 11 3 (gI σ1 11 3 + 1)) 11 6 (mxI (gI (pI σ1 11 3 (gI σ1 11 3 + 1)) 11 6) x3)
    let σ5 : Sg := if b ≤ m then pI σ4 11 7 (gI σ4 11 7 + 1) else σ4
    have hA5 : Ag (fun p k => p = 11 ∧ (k = 3 ∨ (5 ≤ k ∧ k ≤ 7) ∨ k = 11)) (fun _ _ => False) σ σ5 := by
      have hA4 : Ag (fun p k => p = 11 ∧ (k = 3 ∨ (5 ≤ k ∧ k ≤ 7) ∨ k = 11)) (fun _ _ => False) σ σ4 := (((Ag.rf.pI (by omega)).pI (by omega)).pI (by omega)).pI (by omega)
      show Ag _ _ σ (if b ≤ m then pI σ4 11 7 (gI σ4 11 7 + 1) else σ4)
      by_cases hb : b ≤ m
      · rw [if_pos hb]; exact hA4.pI (by omega)
      · rw [if_neg hb]; exact hA4
    have hgo : (if bI (decide (b ≤ m)) = 0 then f_X0_take_L93 11 (nI (d m)) x3 σ4 else lB (pI σ4 11 7 ((gI σ4 11 7) + (1 : Int32))) fun s5 => f_X0_take_L93 11 (nI (d m)) x3 s5) = f_X0_take_L93 11 (nI (d m)) x3 σ5 := by
      show _ = f_X0_take_L93 11 (nI (d m)) x3 (if b ≤ m then pI σ4 11 7 (gI σ4 11 7 + 1) else σ4)
      by_cases hb : b ≤ m
      · rw [decide_eq_true hb, if_neg (by decide), if_pos hb]; rfl
      · rw [decide_eq_false hb, if_pos (by decide), if_neg hb]
    have g3 : gI σ5 11 3 = nI (posC S F (m + 1)) := by
      have : gI σ5 11 3 = gI σ 11 3 + 1 := by
        show gI (if b ≤ m then pI σ4 11 7 (gI σ4 11 7 + 1) else σ4) 11 3 = _
        by_cases hb : b ≤ m
        · rw [if_pos hb]; rfl
        · rw [if_neg hb]; rfl
      rw [this, h3, e3]; exact nI_add _ _
    have g5 : gI σ5 11 5 = bI (twB S d (m + 1)) := by
      show gI (if b ≤ m then pI σ4 11 7 (gI σ4 11 7 + 1) else σ4) 11 5 = _
      by_cases hb : b ≤ m
      · rw [if_pos hb]; rfl
      · rw [if_neg hb]; rfl
    have g6 : (gI σ5 11 6).toInt = hiF S F (m + 1) := by
      have : gI σ5 11 6 = mxI (gI σ 11 6) x3 := by
        show gI (if b ≤ m then pI σ4 11 7 (gI σ4 11 7 + 1) else σ4) 11 6 = _
        by_cases hb : b ≤ m
        · rw [if_pos hb]; rfl
        · rw [if_neg hb]; rfl
      rw [this, mxI_toInt, h6, hF]
      show _ = if S m = true ∧ hiF S F m < F m then F m else hiF S F m
      by_cases q : hiF S F m < F m
      · rw [if_pos q, if_pos ⟨hs, q⟩]
      · rw [if_neg q, if_neg (fun z => q z.2)]
    have g7 : gI σ5 11 7 = nI (prsC S F b (m + 1)) := by
      show gI (if b ≤ m then pI σ4 11 7 (gI σ4 11 7 + 1) else σ4) 11 7 = _
      by_cases hb : b ≤ m
      · have e7 : prsC S F b (m + 1) = prsC S F b m + 1 := cntB_t (by rw [hs, decide_eq_true hb, decide_eq_true hp]; rfl)
        rw [if_pos hb, e7]
        show gI σ 11 7 + 1 = _
        rw [h7]; exact nI_add _ _
      · have e7 : prsC S F b (m + 1) = prsC S F b m + 0 := cntB_f (by rw [decide_eq_false hb]; simp)
        rw [if_neg hb, e7]
        exact h7
    have g11 : gI σ5 11 11 = nI (w ||| 2 ^ d m) := by
      show gI (if b ≤ m then pI σ4 11 7 (gI σ4 11 7 + 1) else σ4) 11 11 = _
      by_cases hb : b ≤ m
      · rw [if_pos hb]; rfl
      · rw [if_neg hb]; rfl
    have k2 : (gI σ5 11 2).toInt = lowF S F m := by rw [hA5.2.1 11 2 (by omega)]; exact h2
    have k8 : gI σ5 11 8 = nI (atlC S F m) := by rw [hA5.2.1 11 8 (by omega)]; exact h8
    have k9 : H9 σ5 S F d m := fun hq => by
      rw [hA5.2.1 11 9 (by omega), hA5.2.1 11 10 (by omega)]
      exact h9 hq
    obtain ⟨σ', e1, a1, a2, a3, a4⟩ := s_X0_L93 k2 k8 k9 hm hs hd hF hp
    refine ⟨σ', by rw [hgo]; exact e1, (hA5.mono (fun p k z => z.1) (fun _ _ z => z)).tr (a1.mono (fun p k z => z.1) (fun _ _ z => z)), a2, ?_, ?_, ?_, ?_, a3, a4, ⟨_, or_lt w1 hdm, ?_, q11⟩, ⟨y, y1, ?_, fun c => ?_⟩⟩
    · rw [a1.2.1 11 3 (by omega)]; exact g3
    · rw [a1.2.1 11 5 (by omega)]; exact g5
    · rw [a1.2.1 11 6 (by omega)]; exact g6
    · rw [a1.2.1 11 7 (by omega)]; exact g7
    · rw [a1.2.1 11 11 (by omega)]; exact g11
    · rw [a1.2.1 11 12 (by omega), hA5.2.1 11 12 (by omega)]; exact y2
    · rw [anyB_suc, y3, hs, decide_eq_false (show ¬ F m ≤ 0 by omega)]; simp
  · rw [if_neg (by rw [Int32.lt_iff_toInt_lt, z0, hF]; exact hp), lB_eq]
    obtain ⟨e1, e2⟩ := atl_0 (S := S) (F := F) (m := m) (fun z => hp z.2)
    have hor : gI σ1 11 12 ||| ((1 : Int32) <<< (nI (d m) &&& 31)) = nI (y ||| 2 ^ d m) := by
      rw [show gI σ1 11 12 = nI y from y2]; exact or_bit (by omega)
    rw [hor]
    refine ⟨_, rfl, hA1.pI S11_i, ?_, ?_, rfl, ?_, ?_, ?_, ?_, ⟨_, or_lt w1 hdm, rfl, q11⟩, ⟨_, or_lt y1 hdm, rfl, fun c => ?_⟩⟩
    · rw [e1]; exact h2
    · have : posC S F (m + 1) = posC S F m + 0 := cntB_f (by rw [decide_eq_false hp]; simp)
      rw [this]; exact h3
    · have hh := hiF_nn (S := S) (F := F) m
      have : hiF S F (m + 1) = hiF S F m := if_neg (fun z => by omega)
      rw [this]; exact h6
    · have : prsC S F b (m + 1) = prsC S F b m + 0 := cntB_f (by rw [decide_eq_false hp]; simp)
      rw [this]; exact h7
    · rw [e2]; exact h8
    · intro hpp
      rw [e2] at hpp
      rw [e1]
      have hlp := atl_pos hpp
      obtain ⟨u, v, g1, g2, g3, g4, g5⟩ := h9 hpp
      refine ⟨u, v, g1, g2, ⟨by omega, g3.2⟩, ⟨by omega, g4.2⟩, fun i hi hsi hfi => ?_⟩
      by_cases e : i = m
      · subst e; omega
      · exact g5 i (by omega) hsi hfi
    · rw [tb_or, anyB_suc, y3, hs, decide_eq_true (show F m ≤ 0 by omega)]; rfl
def ntB (y a b : Nat) : Bool := (List.range b).any (fun c => decide (a < c) && y.testBit c)
theorem s_X0_nutBetween {σ : Sg} {y a b : Nat} (h9 : gI σ 11 9 = nI a) (h10 : gI σ 11 10 = nI b) (h12 : gI σ 11 12 = nI y) (hy : y < 2 ^ 5) (ha : a < 5) (hb : b < 5) : f_X0_nutBetween 11 σ = some (bI (ntB y a b), σ) := by
  unfold f_X0_nutBetween
  rw [lB_eq, h9]
  rw [show nI a + (1 : Int32) = nI (a + 1) from nI_add _ _]
  refine fx_inv2 (I := fun t s => s = nI (a + 1 + t) ∧ ∀ c, a < c → c < a + 1 + t → ¬ y.testBit c = true) (Q := fun e => e = some (bI (ntB y a b), σ)) (n := b - (a + 1)) ?_ ?_ (b - (a + 1)) 0 FU _ (by omega) (by unfold FU; omega) ⟨rfl, fun c h1 h2 => by omega⟩
  · rintro t s ht ⟨rfl, hz⟩ rec
    have hbt := bit_t (b := y) (i := a + 1 + t) (by omega) (by omega)
    unfold f_X0_nutBetween_L7
    by_cases q : y.testBit (a + 1 + t) = true
    · right
      refine ⟨_, rfl, ?_⟩
      have e : ntB y a b = true := (any_iff _ _).mpr ⟨a + 1 + t, by omega, by rw [q, decide_eq_true (show a < a + 1 + t by omega)]; rfl⟩
      rw [if_pos q] at hbt
      rw [e]
      simp (disch := first | assumption | omega) only [↓lB_eq, ↓bd_m, ck_tt, gI_pI, gI_pL, gI_pR, gL_pI, gL_pL, gL_pR, gR_pI, gR_pL, rf_0_0, rf_0_1, rf_0_2, rf_0_3, rf_0_4, rf_0_5, rf_0_6, rf_0_7, rf_0_8, rf_0_9, rf_0_10, rf_1_1, rf_1_2, rf_4_0, rf_4_1, rf_4_2, rf_4_3, rf_4_4, rf_4_5, rf_11_0, rf_11_1, rf_12_0, rf_12_1, rf_12_2, rf_12_6, rf_12_7, rf_12_8, rf_13_0, rf_13_1, rf_13_2, rf_13_3, rf_18_0, rf_18_1, rf_18_2, rf_18_3, rf_23_0, rf_23_1, rf_23_2, rf_23_3, rf_31_0, rf_33_0, rf_33_2, rf_33_3, rf_33_4, rf_37_0, rf_39_0, rf_39_1, rf_39_2, rf_39_3, rf_40_0, rf_40_1, rf_40_2, rf_40_3, rf_47_3, rf_49_3, rf_51_3, rf_53_3, rf_55_1, rf_55_7, rf_55_8, rf_55_9, rf_55_11, rf_55_13, rf_55_14, rf_55_15, rf_55_17, rf_55_18, rf_55_19, rf_55_27, rf_55_28, rf_55_29, rf_55_30, rf_55_31, rf_55_32, rf_55_33, rf_55_34, rf_55_35, rf_55_36, rf_55_38, rf_55_44, rf_55_45, rf_55_46, rf_55_47, aL_2, aL_3, aL_5, aL_6, aL_7, aL_8, aL_9, aL_10, aL_14, aL_15, aL_16, aL_17, aL_19, aL_20, aL_21, aL_22, aL_24, aL_25, aL_26, aL_27, aL_28, aL_29, aL_30, aL_32, aL_34, aL_35, aL_36, aL_38, aL_39, aL_40, aL_41, aL_42, aL_43, aL_44, aL_45, aL_46, aL_48, aL_50, aL_52, aL_54, aL_56, aL_57, aL_58, aL_59, aL_60, aL_61, aL_62, aL_63, aL_64, aL_65, aL_66, aL_67, aL_68, aL_69, aL_70, aL_71, aL_72, aL_73, aL_74, aL_75, aL_76, aL_77, aL_78, aL_79, aL_80, aL_81, inb_nI, lit32, nI_clamp, nI_1, nI_add, if_pos, if_neg, b01_0, b01_1, Nat.add_sub_cancel, if_true, if_false, not_true_eq_false, not_false_eq_true, true_and, and_true, false_and, and_false, pk_sub, b01_n0, b01_n1, bI_t, bI_f, ofNat_nI, ck_d, Int32.lt_iff_toInt_lt, Int32.le_iff_toInt_le, i32_eq, nI_toInt, bI_b01, bI_0, decide_eq_true_eq, bI_tt, bI_ff, nI_prd, ↓reduceIte, iltT, iltF, ileT, ileF, ieqT, ieqF, dcT, dcF, or_true, or_false, true_or, false_or, h10, h12]
    · left
      rw [if_neg q] at hbt
      refine ⟨nI (a + 1 + t + 1), ⟨rfl, fun c h1 h2 => ?_⟩, ?_⟩
      · by_cases e : c = a + 1 + t
        · subst e; exact q
        · exact hz c h1 (by omega)
      · simp (disch := first | assumption | omega) only [↓lB_eq, ↓bd_m, ck_tt, gI_pI, gI_pL, gI_pR, gL_pI, gL_pL, gL_pR, gR_pI, gR_pL, rf_0_0, rf_0_1, rf_0_2, rf_0_3, rf_0_4, rf_0_5, rf_0_6, rf_0_7, rf_0_8, rf_0_9, rf_0_10, rf_1_1, rf_1_2, rf_4_0, rf_4_1, rf_4_2, rf_4_3, rf_4_4, rf_4_5, rf_11_0, rf_11_1, rf_12_0, rf_12_1, rf_12_2, rf_12_6, rf_12_7, rf_12_8, rf_13_0, rf_13_1, rf_13_2, rf_13_3, rf_18_0, rf_18_1, rf_18_2, rf_18_3, rf_23_0, rf_23_1, rf_23_2, rf_23_3, rf_31_0, rf_33_0, rf_33_2, rf_33_3, rf_33_4, rf_37_0, rf_39_0, rf_39_1, rf_39_2, rf_39_3, rf_40_0, rf_40_1, rf_40_2, rf_40_3, rf_47_3, rf_49_3, rf_51_3, rf_53_3, rf_55_1, rf_55_7, rf_55_8, rf_55_9, rf_55_11, rf_55_13, rf_55_14, rf_55_15, rf_55_17, rf_55_18, rf_55_19, rf_55_27, rf_55_28, rf_55_29, rf_55_30, rf_55_31, rf_55_32, rf_55_33, rf_55_34, rf_55_35, rf_55_36, rf_55_38, rf_55_44, rf_55_45, rf_55_46, rf_55_47, aL_2, aL_3, aL_5, aL_6, aL_7, aL_8, aL_9, aL_10, aL_14, aL_15, aL_16, aL_17, aL_19, aL_20, aL_21, aL_22, aL_24, aL_25, aL_26, aL_27, aL_28, aL_29, aL_30, aL_32, aL_34, aL_35, aL_36, aL_38, aL_39, aL_40, aL_41, aL_42, aL_43, aL_44, aL_45, aL_46, aL_48, aL_50, aL_52, aL_54, aL_56, aL_57, aL_58, aL_59, aL_60, aL_61, aL_62, aL_63, aL_64, aL_65, aL_66, aL_67, aL_68, aL_69, aL_70, aL_71, aL_72, aL_73, aL_74, aL_75, aL_76, aL_77, aL_78, aL_79, aL_80, aL_81, inb_nI, lit32, nI_clamp, nI_1, nI_add, if_pos, if_neg, b01_0, b01_1, Nat.add_sub_cancel, if_true, if_false, not_true_eq_false, not_false_eq_true, true_and, and_true, false_and, and_false, pk_sub, b01_n0, b01_n1, bI_t, bI_f, ofNat_nI, ck_d, Int32.lt_iff_toInt_lt, Int32.le_iff_toInt_le, i32_eq, nI_toInt, bI_b01, bI_0, decide_eq_true_eq, bI_tt, bI_ff, nI_prd, ↓reduceIte, iltT, iltF, ileT, ileF, ieqT, ieqF, dcT, dcF, or_true, or_false, true_or, false_or, h10, h12]
  · rintro s ⟨rfl, hz⟩ rec
    refine ⟨_, rfl, ?_⟩
    have e : ntB y a b = false := by
      rw [Bool.eq_false_iff]
      intro z
      obtain ⟨c, h1, h2⟩ := (any_iff _ _).mp z
      rw [Bool.and_eq_true] at h2
      have := of_decide_eq_true h2.1
      exact hz c this (by omega) h2.2
    unfold f_X0_nutBetween_L7
    rw [e]
    by_cases q : b ≤ a + 1
    · rw [show a + 1 + (b - (a + 1)) = a + 1 by omega]
      simp (disch := first | assumption | omega) only [↓lB_eq, ↓bd_m, ck_tt, gI_pI, gI_pL, gI_pR, gL_pI, gL_pL, gL_pR, gR_pI, gR_pL, rf_0_0, rf_0_1, rf_0_2, rf_0_3, rf_0_4, rf_0_5, rf_0_6, rf_0_7, rf_0_8, rf_0_9, rf_0_10, rf_1_1, rf_1_2, rf_4_0, rf_4_1, rf_4_2, rf_4_3, rf_4_4, rf_4_5, rf_11_0, rf_11_1, rf_12_0, rf_12_1, rf_12_2, rf_12_6, rf_12_7, rf_12_8, rf_13_0, rf_13_1, rf_13_2, rf_13_3, rf_18_0, rf_18_1, rf_18_2, rf_18_3, rf_23_0, rf_23_1, rf_23_2, rf_23_3, rf_31_0, rf_33_0, rf_33_2, rf_33_3, rf_33_4, rf_37_0, rf_39_0, rf_39_1, rf_39_2, rf_39_3, rf_40_0, rf_40_1, rf_40_2, rf_40_3, rf_47_3, rf_49_3, rf_51_3, rf_53_3, rf_55_1, rf_55_7, rf_55_8, rf_55_9, rf_55_11, rf_55_13, rf_55_14, rf_55_15, rf_55_17, rf_55_18, rf_55_19, rf_55_27, rf_55_28, rf_55_29, rf_55_30, rf_55_31, rf_55_32, rf_55_33, rf_55_34, rf_55_35, rf_55_36, rf_55_38, rf_55_44, rf_55_45, rf_55_46, rf_55_47, aL_2, aL_3, aL_5, aL_6, aL_7, aL_8, aL_9, aL_10, aL_14, aL_15, aL_16, aL_17, aL_19, aL_20, aL_21, aL_22, aL_24, aL_25, aL_26, aL_27, aL_28, aL_29, aL_30, aL_32, aL_34, aL_35, aL_36, aL_38, aL_39, aL_40, aL_41, aL_42, aL_43, aL_44, aL_45, aL_46, aL_48, aL_50, aL_52, aL_54, aL_56, aL_57, aL_58, aL_59, aL_60, aL_61, aL_62, aL_63, aL_64, aL_65, aL_66, aL_67, aL_68, aL_69, aL_70, aL_71, aL_72, aL_73, aL_74, aL_75, aL_76, aL_77, aL_78, aL_79, aL_80, aL_81, inb_nI, lit32, nI_clamp, nI_1, nI_add, if_pos, if_neg, b01_0, b01_1, Nat.add_sub_cancel, if_true, if_false, not_true_eq_false, not_false_eq_true, true_and, and_true, false_and, and_false, pk_sub, b01_n0, b01_n1, bI_t, bI_f, ofNat_nI, ck_d, Int32.lt_iff_toInt_lt, Int32.le_iff_toInt_le, i32_eq, nI_toInt, bI_b01, bI_0, decide_eq_true_eq, bI_tt, bI_ff, nI_prd, ↓reduceIte, iltT, iltF, ileT, ileF, ieqT, ieqF, dcT, dcF, or_true, or_false, true_or, false_or, h10, h12]
    · rw [show a + 1 + (b - (a + 1)) = b by omega]
      simp (disch := first | assumption | omega) only [↓lB_eq, ↓bd_m, ck_tt, gI_pI, gI_pL, gI_pR, gL_pI, gL_pL, gL_pR, gR_pI, gR_pL, rf_0_0, rf_0_1, rf_0_2, rf_0_3, rf_0_4, rf_0_5, rf_0_6, rf_0_7, rf_0_8, rf_0_9, rf_0_10, rf_1_1, rf_1_2, rf_4_0, rf_4_1, rf_4_2, rf_4_3, rf_4_4, rf_4_5, rf_11_0, rf_11_1, rf_12_0, rf_12_1, rf_12_2, rf_12_6, rf_12_7, rf_12_8, rf_13_0, rf_13_1, rf_13_2, rf_13_3, rf_18_0, rf_18_1, rf_18_2, rf_18_3, rf_23_0, rf_23_1, rf_23_2, rf_23_3, rf_31_0, rf_33_0, rf_33_2, rf_33_3, rf_33_4, rf_37_0, rf_39_0, rf_39_1, rf_39_2, rf_39_3, rf_40_0, rf_40_1, rf_40_2, rf_40_3, rf_47_3, rf_49_3, rf_51_3, rf_53_3, rf_55_1, rf_55_7, rf_55_8, rf_55_9, rf_55_11, rf_55_13, rf_55_14, rf_55_15, rf_55_17, rf_55_18, rf_55_19, rf_55_27, rf_55_28, rf_55_29, rf_55_30, rf_55_31, rf_55_32, rf_55_33, rf_55_34, rf_55_35, rf_55_36, rf_55_38, rf_55_44, rf_55_45, rf_55_46, rf_55_47, aL_2, aL_3, aL_5, aL_6, aL_7, aL_8, aL_9, aL_10, aL_14, aL_15, aL_16, aL_17, aL_19, aL_20, aL_21, aL_22, aL_24, aL_25, aL_26, aL_27, aL_28, aL_29, aL_30, aL_32, aL_34, aL_35, aL_36, aL_38, aL_39, aL_40, aL_41, aL_42, aL_43, aL_44, aL_45, aL_46, aL_48, aL_50, aL_52, aL_54, aL_56, aL_57, aL_58, aL_59, aL_60, aL_61, aL_62, aL_63, aL_64, aL_65, aL_66, aL_67, aL_68, aL_69, aL_70, aL_71, aL_72, aL_73, aL_74, aL_75, aL_76, aL_77, aL_78, aL_79, aL_80, aL_81, inb_nI, lit32, nI_clamp, nI_1, nI_add, if_pos, if_neg, b01_0, b01_1, Nat.add_sub_cancel, if_true, if_false, not_true_eq_false, not_false_eq_true, true_and, and_true, false_and, and_false, pk_sub, b01_n0, b01_n1, bI_t, bI_f, ofNat_nI, ck_d, Int32.lt_iff_toInt_lt, Int32.le_iff_toInt_le, i32_eq, nI_toInt, bI_b01, bI_0, decide_eq_true_eq, bI_tt, bI_ff, nI_prd, ↓reduceIte, iltT, iltF, ileT, ileF, ieqT, ieqF, dcT, dcF, or_true, or_false, true_or, false_or, h10, h12]
theorem nut_eq {S : Nat → Bool} {F : Nat → Int} {d : Nat → Nat} {M y u v : Nat} (hy : ∀ c, y.testBit c = anyB (fun i => S i && decide (F i ≤ 0)) d c M) (hu : u < M ∧ S u = true ∧ F u = lowF S F M) (hv : v < M ∧ S v = true ∧ F v = lowF S F M) (ha : ∀ i, i < M → S i = true → F i = lowF S F M → d u ≤ d i ∧ d i ≤ d v) : ntB y (d u) (d v) = nutB S F d (lowF S F M) M := by
  rw [Bool.eq_iff_iff]
  unfold ntB nutB
  rw [any_iff, any_iff]
  constructor
  · rintro ⟨c, h1, h2⟩
    rw [Bool.and_eq_true] at h2
    have h3 := of_decide_eq_true h2.1
    have h4 := h2.2
    rw [hy] at h4
    obtain ⟨i, i1, i2⟩ := (any_iff _ _).mp h4
    rw [Bool.and_eq_true, Bool.and_eq_true] at i2
    have i3 := of_decide_eq_true i2.2
    refine ⟨i, i1, ?_⟩
    rw [i2.1.1, i2.1.2, Bool.and_eq_true, Bool.true_and, Bool.true_and]
    refine ⟨(any_iff _ _).mpr ⟨u, hu.1, ?_⟩, (any_iff _ _).mpr ⟨v, hv.1, ?_⟩⟩
    · rw [hu.2.1, decide_eq_true hu.2.2, decide_eq_true (show d u < d i by omega)]; rfl
    · rw [hv.2.1, decide_eq_true hv.2.2, decide_eq_true (show d i < d v by omega)]; rfl
  · rintro ⟨i, i1, i2⟩
    rw [Bool.and_eq_true, Bool.and_eq_true, any_iff, any_iff] at i2
    obtain ⟨⟨h1, a, a1, a2⟩, b, b1, b2⟩ := i2
    rw [Bool.and_eq_true, Bool.and_eq_true] at a2 b2
    have ga := ha a a1 a2.1.1 (of_decide_eq_true a2.1.2)
    have gb := ha b b1 b2.1.1 (of_decide_eq_true b2.1.2)
    have ka := of_decide_eq_true a2.2
    have kb := of_decide_eq_true b2.2
    refine ⟨d i, by omega, ?_⟩
    rw [decide_eq_true (show d u < d i by omega), hy, Bool.true_and]
    exact (any_iff _ _).mpr ⟨i, i1, by dsimp only; rw [h1, decide_eq_true rfl]; rfl⟩
theorem fr_toInt {a b : Nat} {x : Int32} (ha : a < 2 ^ 20) (hb : b < 2 ^ 20) (hx : -100 ≤ x.toInt ∧ x.toInt ≤ 100) : (nI a + x - nI b).toInt = (a : Int) + x.toInt - (b : Int) := by
  rw [Int32.toInt_sub, Int32.toInt_add, nI_toInt (by omega), nI_toInt (by omega)]
  rw [Int.bmod_eq_of_le (n := (a : Int) + x.toInt) (by omega) (by omega)]
  exact Int.bmod_eq_of_le (by omega) (by omega)
