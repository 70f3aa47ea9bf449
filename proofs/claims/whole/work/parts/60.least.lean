/-! the reference: joined, findsRest -/
/-- the table of what is left -/
def RsT (σ : Sg) (c : Nat) (o g tm pt ls fs : Nat → Nat) (z : Int) (ban nk k m : Nat) (D : Nat → Nat → Nat) : Prop := ∃ R : Nat → Nat, ∀ a, a < m → gI σ 71 (128 * k + a) = nI (R a) ∧ RsP c o g tm pt ls fs z ban nk k (D a) (R a)
theorem RsP.le {c nk : Nat} {o g tm pt ls fs : Nat → Nat} {z : Int} {ban k : Nat} {e : Nat → Nat} {v : Nat} (h : RsP c o g tm pt ls fs z ban nk k e v) : v ≤ 1000000 := by rcases h with ⟨h, _⟩ | ⟨h, _⟩ <;> omega
theorem RW.ag {P PL : Nat → Nat → Prop} {σ τ : Sg} {n : Nat} {o g tm pt ls fs : Nat → Nat} {z : Int} {k m : Nat} {D : Nat → Nat → Nat} (h : RW σ n o g tm pt ls fs z k m D) (q : Ag P PL σ τ) (h1 : ¬ P 68 k) (h2 : ∀ p j, (p = 67 ∨ p = 69 ∨ p = 70) → 128 * k ≤ j → j < 128 * k + 128 → ¬ P p j) : RW τ n o g tm pt ls fs z k m D := by
  obtain ⟨y1, y2, y3⟩ := h
  refine ⟨(q.2.1 68 k h1).trans y1, y2, fun a ha => ?_⟩
  obtain ⟨⟨W, w1, w2⟩, w3, w4⟩ := y3 a ha
  exact ⟨⟨W, (q.2.1 67 _ (h2 67 _ (by omega) (by omega) (by omega))).trans w1, w2⟩, by rw [q.2.1 69 _ (h2 69 _ (by omega) (by omega) (by omega))]; exact w3, (q.2.1 70 _ (h2 70 _ (by omega) (by omega) (by omega))).trans w4⟩
section
variable {c n nk : Nat} {o g tm pt ls fs : Nat → Nat} {z : Int} {ban : Nat}
theorem s_X9_joined {σ : Sg} {k m m' a b R : Nat} {D D' : Nat → Nat → Nat} (hE : RE σ c n nk o g tm pt ls fs z) (b1 : Bl c o g) (b2 : Bn n tm pt ls) (hC : Ch n tm nk fs) (hk : k + 1 < nk) (hW : RW σ n o g tm pt ls fs z k m D) (hP : RWP c o g tm pt ls fs z ban k m D) (hW' : RW σ n o g tm pt ls fs z (k + 1) m' D') (hP' : RWP c o g tm pt ls fs z ban (k + 1) m' D') (hS : Shr σ n tm ls fs k) (ha : a < m) (hb : b < m') (hR : gI σ 71 (128 * (k + 1) + b) = nI R) (hR2 : R ≤ 1000000) : ∃ B : Bool, f_X9_joined 55 (nI k) (nI a) (nI b) σ = some (nI (jv g B R (lowK o tm pt ls fs z k (D a)) (lowK o tm pt ls fs z (k + 1) (D' b))), σ) ∧ (B = true ↔ ∀ x, x < n → sndB tm ls fs k x = true → sndB tm ls fs (k + 1) x = true → D a x = D' b x) := by
  have hn := b2.1
  have hnk := hC.nk_le
  have hc5 := b1.2.1
  have hr := hE.1
  have hm := hW.2.1
  have hm' := hW'.2.1
  have hM := hC.le (k := k + 1) (by omega)
  have hM' := hC.le (k := k + 1 + 1) (by omega)
  obtain ⟨⟨W, w1, w2⟩, w3, w4⟩ := hW.2.2 a ha
  obtain ⟨⟨W', v1, v2⟩, v3, v4⟩ := hW'.2.2 b hb
  have hG := hP.1 a ha
  have hG' := hP'.1 b hb
  have c1 := hG.cnt hM
  have c2 := hG'.cnt hM'
  obtain ⟨B, e1, hB⟩ := s_X9_goesOn hr hn hnk hk hS w2 v2 (by omega) (by omega)
  have l1 := lowG b1 hG
  have l2 := lowG b1 hG'
  have e3 := s_X9_shiftCost (g := g) (x := gI σ 69 (128 * k + a)) (y := gI σ 69 (128 * (k + 1) + b)) (hE.2.2.2.1 2 (by omega)) (by rw [w3]; omega) (by rw [v3]; omega)
  rw [w3, v3] at e3
  rw [Nat.mul_succ] at v1 e3 hR
  refine ⟨B, ?_, hB⟩
  unfold f_X9_joined f_X9_joined_L90 jv
  cases B with
  | true => simp (disch := first | assumption | omega) only [↓lB_eq, ↓bd_m, ck_tt, gI_pI, gI_pL, gI_pR, gL_pI, gL_pL, gL_pR, gR_pI, gR_pL, rf_0_0, rf_0_1, rf_0_2, rf_0_3, rf_0_4, rf_0_5, rf_0_6, rf_0_7, rf_0_8, rf_0_9, rf_0_10, rf_1_1, rf_1_2, rf_4_0, rf_4_1, rf_4_2, rf_4_3, rf_4_4, rf_4_5, rf_11_0, rf_11_1, rf_12_0, rf_12_1, rf_12_2, rf_12_6, rf_12_7, rf_12_8, rf_13_0, rf_13_1, rf_13_2, rf_13_3, rf_18_0, rf_18_1, rf_18_2, rf_18_3, rf_23_0, rf_23_1, rf_23_2, rf_23_3, rf_31_0, rf_33_0, rf_33_2, rf_33_3, rf_33_4, rf_37_0, rf_39_0, rf_39_1, rf_39_2, rf_39_3, rf_40_0, rf_40_1, rf_40_2, rf_40_3, rf_47_3, rf_49_3, rf_51_3, rf_53_3, rf_55_1, rf_55_7, rf_55_8, rf_55_9, rf_55_11, rf_55_13, rf_55_14, rf_55_15, rf_55_17, rf_55_18, rf_55_19, rf_55_27, rf_55_28, rf_55_29, rf_55_30, rf_55_31, rf_55_32, rf_55_33, rf_55_34, rf_55_35, rf_55_36, rf_55_38, rf_55_44, rf_55_45, rf_55_46, rf_55_47, aL_2, aL_3, aL_5, aL_6, aL_7, aL_8, aL_9, aL_10, aL_14, aL_15, aL_16, aL_17, aL_19, aL_20, aL_21, aL_22, aL_24, aL_25, aL_26, aL_27, aL_28, aL_29, aL_30, aL_32, aL_34, aL_35, aL_36, aL_38, aL_39, aL_40, aL_41, aL_42, aL_43, aL_44, aL_45, aL_46, aL_48, aL_50, aL_52, aL_54, aL_56, aL_57, aL_58, aL_59, aL_60, aL_61, aL_62, aL_63, aL_64, aL_65, aL_66, aL_67, aL_68, aL_69, aL_70, aL_71, aL_72, aL_73, aL_74, aL_75, aL_76, aL_77, aL_78, aL_79, aL_80, aL_81, inb_nI, lit32, nI_clamp, nI_1, nI_add, if_pos, if_neg, b01_0, b01_1, Nat.add_sub_cancel, if_true, if_false, not_true_eq_false, not_false_eq_true, true_and, and_true, false_and, and_false, pk_sub, b01_n0, b01_n1, bI_t, bI_f, ofNat_nI, ck_d, Int32.lt_iff_toInt_lt, Int32.le_iff_toInt_le, i32_eq, nI_toInt, bI_b01, bI_0, decide_eq_true_eq, bI_tt, bI_ff, nI_prd, ↓reduceIte, iltT, iltF, ileT, ileF, ieqT, ieqF, dcT, dcF, or_true, or_false, true_or, false_or, nI_mul, w1, v1, e1, hR, e3]
  | false =>
    simp (disch := first | assumption | omega) only [↓lB_eq, ↓bd_m, ck_tt, gI_pI, gI_pL, gI_pR, gL_pI, gL_pL, gL_pR, gR_pI, gR_pL, rf_0_0, rf_0_1, rf_0_2, rf_0_3, rf_0_4, rf_0_5, rf_0_6, rf_0_7, rf_0_8, rf_0_9, rf_0_10, rf_1_1, rf_1_2, rf_4_0, rf_4_1, rf_4_2, rf_4_3, rf_4_4, rf_4_5, rf_11_0, rf_11_1, rf_12_0, rf_12_1, rf_12_2, rf_12_6, rf_12_7, rf_12_8, rf_13_0, rf_13_1, rf_13_2, rf_13_3, rf_18_0, rf_18_1, rf_18_2, rf_18_3, rf_23_0, rf_23_1, rf_23_2, rf_23_3, rf_31_0, rf_33_0, rf_33_2, rf_33_3, rf_33_4, rf_37_0, rf_39_0, rf_39_1, rf_39_2, rf_39_3, rf_40_0, rf_40_1, rf_40_2, rf_40_3, rf_47_3, rf_49_3, rf_51_3, rf_53_3, rf_55_1, rf_55_7, rf_55_8, rf_55_9, rf_55_11, rf_55_13, rf_55_14, rf_55_15, rf_55_17, rf_55_18, rf_55_19, rf_55_27, rf_55_28, rf_55_29, rf_55_30, rf_55_31, rf_55_32, rf_55_33, rf_55_34, rf_55_35, rf_55_36, rf_55_38, rf_55_44, rf_55_45, rf_55_46, rf_55_47, aL_2, aL_3, aL_5, aL_6, aL_7, aL_8, aL_9, aL_10, aL_14, aL_15, aL_16, aL_17, aL_19, aL_20, aL_21, aL_22, aL_24, aL_25, aL_26, aL_27, aL_28, aL_29, aL_30, aL_32, aL_34, aL_35, aL_36, aL_38, aL_39, aL_40, aL_41, aL_42, aL_43, aL_44, aL_45, aL_46, aL_48, aL_50, aL_52, aL_54, aL_56, aL_57, aL_58, aL_59, aL_60, aL_61, aL_62, aL_63, aL_64, aL_65, aL_66, aL_67, aL_68, aL_69, aL_70, aL_71, aL_72, aL_73, aL_74, aL_75, aL_76, aL_77, aL_78, aL_79, aL_80, aL_81, inb_nI, lit32, nI_clamp, nI_1, nI_add, if_pos, if_neg, b01_0, b01_1, Nat.add_sub_cancel, if_true, if_false, not_true_eq_false, not_false_eq_true, true_and, and_true, false_and, and_false, pk_sub, b01_n0, b01_n1, bI_t, bI_f, ofNat_nI, ck_d, Int32.lt_iff_toInt_lt, Int32.le_iff_toInt_le, i32_eq, nI_toInt, bI_b01, bI_0, decide_eq_true_eq, bI_tt, bI_ff, nI_prd, ↓reduceIte, iltT, iltF, ileT, ileF, ieqT, ieqF, dcT, dcF, or_true, or_false, true_or, false_or, nI_mul, w1, v1, e1]
    rfl
def Prs (k p j : Nat) : Prop := p = 71 ∧ 128 * k ≤ j ∧ j < 128 * k + 128
theorem Prs.fm {k p j : Nat} (h : Prs k p j) : FM p j := by unfold Prs at h; unfold FM SL; omega
/-- one way's turn -/
theorem s_restIn {σ : Sg} {k m m' a : Nat} {D D' : Nat → Nat → Nat} {rec2 : Int32 × Sg → Option (Unit × Sg)} (hE : RE σ c n nk o g tm pt ls fs z) (b1 : Bl c o g) (b2 : Bn n tm pt ls) (hC : Ch n tm nk fs) (hk : k + 1 < nk) (hW : RW σ n o g tm pt ls fs z k m D) (hP : RWP c o g tm pt ls fs z ban k m D) (hW' : RW σ n o g tm pt ls fs z (k + 1) m' D') (hP' : RWP c o g tm pt ls fs z ban (k + 1) m' D') (hS : Shr σ n tm ls fs k) (hT : RsT σ c o g tm pt ls fs z ban nk (k + 1) m' D') (ha : a < m) : ∃ v, f_X9_findsRest_L28 rec2 55 (nI k) (nI a) (nI 1000000) σ = rec2 (nI (a + 1), pI σ 71 (128 * k + a) (nI v)) ∧ RsP c o g tm pt ls fs z ban nk k (D a) v := by
  have hn := b2.1
  have hnk := hC.nk_le
  have hr := hE.1
  have hm := hW.2.1
  have hm' := hW'.2.1
  have t16 := hE.2.2.2.2.2.1.1
  have t68 := hW'.1
  have t70 := (hW.2.2 a ha).2.2
  have hM := hC.le (k := k + 1) (by omega)
  have ob := ownG (z := z) (d := D a) (tm := tm) (pt := pt) (ls := ls) (k := k) b1 (show fs (k + 1) ≤ 14 by omega)
  obtain ⟨R, hR⟩ := hT
  have hj : ∃ B : Nat → Bool, ∀ b, b < m' → f_X9_joined 55 (nI k) (nI a) (nI b) σ = some (nI (jv g (B b) (R b) (lowK o tm pt ls fs z k (D a)) (lowK o tm pt ls fs z (k + 1) (D' b))), σ) ∧ (B b = true ↔ ∀ x, x < n → sndB tm ls fs k x = true → sndB tm ls fs (k + 1) x = true → D a x = D' b x) := by
    have h1 : ∀ b, ∃ B : Bool, b < m' → f_X9_joined 55 (nI k) (nI a) (nI b) σ = some (nI (jv g B (R b) (lowK o tm pt ls fs z k (D a)) (lowK o tm pt ls fs z (k + 1) (D' b))), σ) ∧ (B = true ↔ ∀ x, x < n → sndB tm ls fs k x = true → sndB tm ls fs (k + 1) x = true → D a x = D' b x) := fun b => by
      by_cases hb : b < m'
      · obtain ⟨B, y1, y2⟩ := s_X9_joined hE b1 b2 hC hk hW hP hW' hP' hS ha hb (hR b hb).1 (hR b hb).2.le
        exact ⟨B, fun _ => ⟨y1, y2⟩⟩
      · exact ⟨true, fun y => absurd y hb⟩
    exact ⟨fun b => Classical.choose (h1 b), fun b hb => Classical.choose_spec (h1 b) hb⟩
  obtain ⟨B, hB⟩ := hj
  have jb : ∀ b, b < m' → jv g (B b) (R b) (lowK o tm pt ls fs z k (D a)) (lowK o tm pt ls fs z (k + 1) (D' b)) ≤ 1000081 := fun b hb => by
    have h1 := (hR b hb).2.le
    have h2 := shG b1 (lowG b1 (hP.1 a ha)) (lowG b1 (hP'.1 b hb))
    unfold jv
    split <;> omega
  have loop : ∃ L, (∀ b, b < m' → L ≤ jv g (B b) (R b) (lowK o tm pt ls fs z k (D a)) (lowK o tm pt ls fs z (k + 1) (D' b))) ∧ (L = 1000000 ∨ (L < 1000000 ∧ ∃ b, b < m' ∧ jv g (B b) (R b) (lowK o tm pt ls fs z k (D a)) (lowK o tm pt ls fs z (k + 1) (D' b)) = L)) ∧ fx (f_X9_findsRest_L32 rec2 55 (nI k) (nI a)) FU (nI 1000000, nI 0, σ) = f_X9_findsRest_L84 rec2 55 (nI k) (nI a) (nI L) σ := by
    refine fx_inv2 (I := fun b s => ∃ L, s = (nI L, nI b, σ) ∧ (∀ b', b' < b → L ≤ jv g (B b') (R b') (lowK o tm pt ls fs z k (D a)) (lowK o tm pt ls fs z (k + 1) (D' b'))) ∧ (L = 1000000 ∨ (L < 1000000 ∧ ∃ b', b' < b ∧ jv g (B b') (R b') (lowK o tm pt ls fs z k (D a)) (lowK o tm pt ls fs z (k + 1) (D' b')) = L))) (Q := fun e => ∃ L, (∀ b, b < m' → L ≤ jv g (B b) (R b) (lowK o tm pt ls fs z k (D a)) (lowK o tm pt ls fs z (k + 1) (D' b))) ∧ (L = 1000000 ∨ (L < 1000000 ∧ ∃ b, b < m' ∧ jv g (B b) (R b) (lowK o tm pt ls fs z k (D a)) (lowK o tm pt ls fs z (k + 1) (D' b)) = L)) ∧ e = f_X9_findsRest_L84 rec2 55 (nI k) (nI a) (nI L) σ) (n := m') ?_ ?_ m' 0 FU _ (by omega) (by unfold FU; omega) ⟨1000000, rfl, fun b hb => by omega, Or.inl rfl⟩
    · rintro b s hb ⟨L, rfl, y1, y2⟩ rec
      obtain ⟨e1, _⟩ := hB b hb
      have hjb := jb b hb
      generalize hv : jv g (B b) (R b) (lowK o tm pt ls fs z k (D a)) (lowK o tm pt ls fs z (k + 1) (D' b)) = v at e1 hjb
      have hLb : L ≤ 1000000 := by rcases y2 with y2 | ⟨y2, _⟩ <;> omega
      left
      by_cases q : L ≤ v
      · refine ⟨(nI L, nI (b + 1), σ), ⟨L, rfl, fun b' hb' => ?_, ?_⟩, ?_⟩
        · by_cases e : b' = b
          · rw [e, hv]; exact q
          · exact y1 b' (by omega)
        · rcases y2 with y2 | ⟨y2, b', y3, y4⟩
          · exact Or.inl y2
          · exact Or.inr ⟨y2, b', by omega, y4⟩
        · unfold f_X9_findsRest_L32 f_X9_findsRest_L77
          dsimp only
          simp (disch := first | assumption | omega) only [↓lB_eq, ↓bd_m, ck_tt, gI_pI, gI_pL, gI_pR, gL_pI, gL_pL, gL_pR, gR_pI, gR_pL, rf_0_0, rf_0_1, rf_0_2, rf_0_3, rf_0_4, rf_0_5, rf_0_6, rf_0_7, rf_0_8, rf_0_9, rf_0_10, rf_1_1, rf_1_2, rf_4_0, rf_4_1, rf_4_2, rf_4_3, rf_4_4, rf_4_5, rf_11_0, rf_11_1, rf_12_0, rf_12_1, rf_12_2, rf_12_6, rf_12_7, rf_12_8, rf_13_0, rf_13_1, rf_13_2, rf_13_3, rf_18_0, rf_18_1, rf_18_2, rf_18_3, rf_23_0, rf_23_1, rf_23_2, rf_23_3, rf_31_0, rf_33_0, rf_33_2, rf_33_3, rf_33_4, rf_37_0, rf_39_0, rf_39_1, rf_39_2, rf_39_3, rf_40_0, rf_40_1, rf_40_2, rf_40_3, rf_47_3, rf_49_3, rf_51_3, rf_53_3, rf_55_1, rf_55_7, rf_55_8, rf_55_9, rf_55_11, rf_55_13, rf_55_14, rf_55_15, rf_55_17, rf_55_18, rf_55_19, rf_55_27, rf_55_28, rf_55_29, rf_55_30, rf_55_31, rf_55_32, rf_55_33, rf_55_34, rf_55_35, rf_55_36, rf_55_38, rf_55_44, rf_55_45, rf_55_46, rf_55_47, aL_2, aL_3, aL_5, aL_6, aL_7, aL_8, aL_9, aL_10, aL_14, aL_15, aL_16, aL_17, aL_19, aL_20, aL_21, aL_22, aL_24, aL_25, aL_26, aL_27, aL_28, aL_29, aL_30, aL_32, aL_34, aL_35, aL_36, aL_38, aL_39, aL_40, aL_41, aL_42, aL_43, aL_44, aL_45, aL_46, aL_48, aL_50, aL_52, aL_54, aL_56, aL_57, aL_58, aL_59, aL_60, aL_61, aL_62, aL_63, aL_64, aL_65, aL_66, aL_67, aL_68, aL_69, aL_70, aL_71, aL_72, aL_73, aL_74, aL_75, aL_76, aL_77, aL_78, aL_79, aL_80, aL_81, inb_nI, lit32, nI_clamp, nI_1, nI_add, if_pos, if_neg, b01_0, b01_1, Nat.add_sub_cancel, if_true, if_false, not_true_eq_false, not_false_eq_true, true_and, and_true, false_and, and_false, pk_sub, b01_n0, b01_n1, bI_t, bI_f, ofNat_nI, ck_d, Int32.lt_iff_toInt_lt, Int32.le_iff_toInt_le, i32_eq, nI_toInt, bI_b01, bI_0, decide_eq_true_eq, bI_tt, bI_ff, nI_prd, ↓reduceIte, iltT, iltF, ileT, ileF, ieqT, ieqF, dcT, dcF, or_true, or_false, true_or, false_or, t16, t68, e1]
      · refine ⟨(nI v, nI (b + 1), σ), ⟨v, rfl, fun b' hb' => ?_, Or.inr ⟨by omega, b, by omega, hv⟩⟩, ?_⟩
        · by_cases e : b' = b
          · rw [e, hv]; exact Nat.le_refl _
          · have := y1 b' (by omega); omega
        · unfold f_X9_findsRest_L32 f_X9_findsRest_L77
          dsimp only
          simp (disch := first | assumption | omega) only [↓lB_eq, ↓bd_m, ck_tt, gI_pI, gI_pL, gI_pR, gL_pI, gL_pL, gL_pR, gR_pI, gR_pL, rf_0_0, rf_0_1, rf_0_2, rf_0_3, rf_0_4, rf_0_5, rf_0_6, rf_0_7, rf_0_8, rf_0_9, rf_0_10, rf_1_1, rf_1_2, rf_4_0, rf_4_1, rf_4_2, rf_4_3, rf_4_4, rf_4_5, rf_11_0, rf_11_1, rf_12_0, rf_12_1, rf_12_2, rf_12_6, rf_12_7, rf_12_8, rf_13_0, rf_13_1, rf_13_2, rf_13_3, rf_18_0, rf_18_1, rf_18_2, rf_18_3, rf_23_0, rf_23_1, rf_23_2, rf_23_3, rf_31_0, rf_33_0, rf_33_2, rf_33_3, rf_33_4, rf_37_0, rf_39_0, rf_39_1, rf_39_2, rf_39_3, rf_40_0, rf_40_1, rf_40_2, rf_40_3, rf_47_3, rf_49_3, rf_51_3, rf_53_3, rf_55_1, rf_55_7, rf_55_8, rf_55_9, rf_55_11, rf_55_13, rf_55_14, rf_55_15, rf_55_17, rf_55_18, rf_55_19, rf_55_27, rf_55_28, rf_55_29, rf_55_30, rf_55_31, rf_55_32, rf_55_33, rf_55_34, rf_55_35, rf_55_36, rf_55_38, rf_55_44, rf_55_45, rf_55_46, rf_55_47, aL_2, aL_3, aL_5, aL_6, aL_7, aL_8, aL_9, aL_10, aL_14, aL_15, aL_16, aL_17, aL_19, aL_20, aL_21, aL_22, aL_24, aL_25, aL_26, aL_27, aL_28, aL_29, aL_30, aL_32, aL_34, aL_35, aL_36, aL_38, aL_39, aL_40, aL_41, aL_42, aL_43, aL_44, aL_45, aL_46, aL_48, aL_50, aL_52, aL_54, aL_56, aL_57, aL_58, aL_59, aL_60, aL_61, aL_62, aL_63, aL_64, aL_65, aL_66, aL_67, aL_68, aL_69, aL_70, aL_71, aL_72, aL_73, aL_74, aL_75, aL_76, aL_77, aL_78, aL_79, aL_80, aL_81, inb_nI, lit32, nI_clamp, nI_1, nI_add, if_pos, if_neg, b01_0, b01_1, Nat.add_sub_cancel, if_true, if_false, not_true_eq_false, not_false_eq_true, true_and, and_true, false_and, and_false, pk_sub, b01_n0, b01_n1, bI_t, bI_f, ofNat_nI, ck_d, Int32.lt_iff_toInt_lt, Int32.le_iff_toInt_le, i32_eq, nI_toInt, bI_b01, bI_0, decide_eq_true_eq, bI_tt, bI_ff, nI_prd, ↓reduceIte, iltT, iltF, ileT, ileF, ieqT, ieqF, dcT, dcF, or_true, or_false, true_or, false_or, t16, t68, e1]
    · rintro s ⟨L, rfl, y1, y2⟩ rec
      refine ⟨f_X9_findsRest_L84 rec2 55 (nI k) (nI a) (nI L) σ, ⟨L, y1, y2, rfl⟩, ?_⟩
      unfold f_X9_findsRest_L32
      dsimp only
      simp (disch := first | assumption | omega) only [↓lB_eq, ↓bd_m, ck_tt, gI_pI, gI_pL, gI_pR, gL_pI, gL_pL, gL_pR, gR_pI, gR_pL, rf_0_0, rf_0_1, rf_0_2, rf_0_3, rf_0_4, rf_0_5, rf_0_6, rf_0_7, rf_0_8, rf_0_9, rf_0_10, rf_1_1, rf_1_2, rf_4_0, rf_4_1, rf_4_2, rf_4_3, rf_4_4, rf_4_5, rf_11_0, rf_11_1, rf_12_0, rf_12_1, rf_12_2, rf_12_6, rf_12_7, rf_12_8, rf_13_0, rf_13_1, rf_13_2, rf_13_3, rf_18_0, rf_18_1, rf_18_2, rf_18_3, rf_23_0, rf_23_1, rf_23_2, rf_23_3, rf_31_0, rf_33_0, rf_33_2, rf_33_3, rf_33_4, rf_37_0, rf_39_0, rf_39_1, rf_39_2, rf_39_3, rf_40_0, rf_40_1, rf_40_2, rf_40_3, rf_47_3, rf_49_3, rf_51_3, rf_53_3, rf_55_1, rf_55_7, rf_55_8, rf_55_9, rf_55_11, rf_55_13, rf_55_14, rf_55_15, rf_55_17, rf_55_18, rf_55_19, rf_55_27, rf_55_28, rf_55_29, rf_55_30, rf_55_31, rf_55_32, rf_55_33, rf_55_34, rf_55_35, rf_55_36, rf_55_38, rf_55_44, rf_55_45, rf_55_46, rf_55_47, aL_2, aL_3, aL_5, aL_6, aL_7, aL_8, aL_9, aL_10, aL_14, aL_15, aL_16, aL_17, aL_19, aL_20, aL_21, aL_22, aL_24, aL_25, aL_26, aL_27, aL_28, aL_29, aL_30, aL_32, aL_34, aL_35, aL_36, aL_38, aL_39, aL_40, aL_41, aL_42, aL_43, aL_44, aL_45, aL_46, aL_48, aL_50, aL_52, aL_54, aL_56, aL_57, aL_58, aL_59, aL_60, aL_61, aL_62, aL_63, aL_64, aL_65, aL_66, aL_67, aL_68, aL_69, aL_70, aL_71, aL_72, aL_73, aL_74, aL_75, aL_76, aL_77, aL_78, aL_79, aL_80, aL_81, inb_nI, lit32, nI_clamp, nI_1, nI_add, if_pos, if_neg, b01_0, b01_1, Nat.add_sub_cancel, if_true, if_false, not_true_eq_false, not_false_eq_true, true_and, and_true, false_and, and_false, pk_sub, b01_n0, b01_n1, bI_t, bI_f, ofNat_nI, ck_d, Int32.lt_iff_toInt_lt, Int32.le_iff_toInt_le, i32_eq, nI_toInt, bI_b01, bI_0, decide_eq_true_eq, bI_tt, bI_ff, nI_prd, ↓reduceIte, iltT, iltF, ileT, ileF, ieqT, ieqF, dcT, dcF, or_true, or_false, true_or, false_or, t16, t68]
  obtain ⟨L, y1, y2, e1⟩ := loop
  have hLb : L ≤ 1000000 := by rcases y2 with y2 | ⟨y2, _⟩ <;> omega
  refine ⟨_, ?_, RsP.step b1 b2 hC hk (hP.1 a ha) hP' (fun b hb => (hR b hb).2) (fun b hb => (hB b hb).2) y1 y2⟩
  unfold f_X9_findsRest_L28
  rw [show (0 : Int32) = nI 0 from rfl, e1]
  unfold f_X9_findsRest_L84 f_X9_findsRest_L120
  by_cases q : L < 1000000
  · rw [if_pos q]
    simp (disch := first | assumption | omega) only [↓lB_eq, ↓bd_m, ck_tt, gI_pI, gI_pL, gI_pR, gL_pI, gL_pL, gL_pR, gR_pI, gR_pL, rf_0_0, rf_0_1, rf_0_2, rf_0_3, rf_0_4, rf_0_5, rf_0_6, rf_0_7, rf_0_8, rf_0_9, rf_0_10, rf_1_1, rf_1_2, rf_4_0, rf_4_1, rf_4_2, rf_4_3, rf_4_4, rf_4_5, rf_11_0, rf_11_1, rf_12_0, rf_12_1, rf_12_2, rf_12_6, rf_12_7, rf_12_8, rf_13_0, rf_13_1, rf_13_2, rf_13_3, rf_18_0, rf_18_1, rf_18_2, rf_18_3, rf_23_0, rf_23_1, rf_23_2, rf_23_3, rf_31_0, rf_33_0, rf_33_2, rf_33_3, rf_33_4, rf_37_0, rf_39_0, rf_39_1, rf_39_2, rf_39_3, rf_40_0, rf_40_1, rf_40_2, rf_40_3, rf_47_3, rf_49_3, rf_51_3, rf_53_3, rf_55_1, rf_55_7, rf_55_8, rf_55_9, rf_55_11, rf_55_13, rf_55_14, rf_55_15, rf_55_17, rf_55_18, rf_55_19, rf_55_27, rf_55_28, rf_55_29, rf_55_30, rf_55_31, rf_55_32, rf_55_33, rf_55_34, rf_55_35, rf_55_36, rf_55_38, rf_55_44, rf_55_45, rf_55_46, rf_55_47, aL_2, aL_3, aL_5, aL_6, aL_7, aL_8, aL_9, aL_10, aL_14, aL_15, aL_16, aL_17, aL_19, aL_20, aL_21, aL_22, aL_24, aL_25, aL_26, aL_27, aL_28, aL_29, aL_30, aL_32, aL_34, aL_35, aL_36, aL_38, aL_39, aL_40, aL_41, aL_42, aL_43, aL_44, aL_45, aL_46, aL_48, aL_50, aL_52, aL_54, aL_56, aL_57, aL_58, aL_59, aL_60, aL_61, aL_62, aL_63, aL_64, aL_65, aL_66, aL_67, aL_68, aL_69, aL_70, aL_71, aL_72, aL_73, aL_74, aL_75, aL_76, aL_77, aL_78, aL_79, aL_80, aL_81, inb_nI, lit32, nI_clamp, nI_1, nI_add, if_pos, if_neg, b01_0, b01_1, Nat.add_sub_cancel, if_true, if_false, not_true_eq_false, not_false_eq_true, true_and, and_true, false_and, and_false, pk_sub, b01_n0, b01_n1, bI_t, bI_f, ofNat_nI, ck_d, Int32.lt_iff_toInt_lt, Int32.le_iff_toInt_le, i32_eq, nI_toInt, bI_b01, bI_0, decide_eq_true_eq, bI_tt, bI_ff, nI_prd, ↓reduceIte, iltT, iltF, ileT, ileF, ieqT, ieqF, dcT, dcF, or_true, or_false, true_or, false_or, nI_mul, t70]
  · rw [if_neg q]
    simp (disch := first | assumption | omega) only [↓lB_eq, ↓bd_m, ck_tt, gI_pI, gI_pL, gI_pR, gL_pI, gL_pL, gL_pR, gR_pI, gR_pL, rf_0_0, rf_0_1, rf_0_2, rf_0_3, rf_0_4, rf_0_5, rf_0_6, rf_0_7, rf_0_8, rf_0_9, rf_0_10, rf_1_1, rf_1_2, rf_4_0, rf_4_1, rf_4_2, rf_4_3, rf_4_4, rf_4_5, rf_11_0, rf_11_1, rf_12_0, rf_12_1, rf_12_2, rf_12_6, rf_12_7, rf_12_8, rf_13_0, rf_13_1, rf_13_2, rf_13_3, rf_18_0, rf_18_1, rf_18_2, rf_18_3, rf_23_0, rf_23_1, rf_23_2, rf_23_3, rf_31_0, rf_33_0, rf_33_2, rf_33_3, rf_33_4, rf_37_0, rf_39_0, rf_39_1, rf_39_2, rf_39_3, rf_40_0, rf_40_1, rf_40_2, rf_40_3, rf_47_3, rf_49_3, rf_51_3, rf_53_3, rf_55_1, rf_55_7, rf_55_8, rf_55_9, rf_55_11, rf_55_13, rf_55_14, rf_55_15, rf_55_17, rf_55_18, rf_55_19, rf_55_27, rf_55_28, rf_55_29, rf_55_30, rf_55_31, rf_55_32, rf_55_33, rf_55_34, rf_55_35, rf_55_36, rf_55_38, rf_55_44, rf_55_45, rf_55_46, rf_55_47, aL_2, aL_3, aL_5, aL_6, aL_7, aL_8, aL_9, aL_10, aL_14, aL_15, aL_16, aL_17, aL_19, aL_20, aL_21, aL_22, aL_24, aL_25, aL_26, aL_27, aL_28, aL_29, aL_30, aL_32, aL_34, aL_35, aL_36, aL_38, aL_39, aL_40, aL_41, aL_42, aL_43, aL_44, aL_45, aL_46, aL_48, aL_50, aL_52, aL_54, aL_56, aL_57, aL_58, aL_59, aL_60, aL_61, aL_62, aL_63, aL_64, aL_65, aL_66, aL_67, aL_68, aL_69, aL_70, aL_71, aL_72, aL_73, aL_74, aL_75, aL_76, aL_77, aL_78, aL_79, aL_80, aL_81, inb_nI, lit32, nI_clamp, nI_1, nI_add, if_pos, if_neg, b01_0, b01_1, Nat.add_sub_cancel, if_true, if_false, not_true_eq_false, not_false_eq_true, true_and, and_true, false_and, and_false, pk_sub, b01_n0, b01_n1, bI_t, bI_f, ofNat_nI, ck_d, Int32.lt_iff_toInt_lt, Int32.le_iff_toInt_le, i32_eq, nI_toInt, bI_b01, bI_0, decide_eq_true_eq, bI_tt, bI_ff, nI_prd, ↓reduceIte, iltT, iltF, ileT, ileF, ieqT, ieqF, dcT, dcF, or_true, or_false, true_or, false_or, nI_mul]
theorem s_X9_findsRest {σ : Sg} {k m : Nat} {D : Nat → Nat → Nat} (hE : RE σ c n nk o g tm pt ls fs z) (b1 : Bl c o g) (b2 : Bn n tm pt ls) (hC : Ch n tm nk fs) (hk : k < nk) (hW : RW σ n o g tm pt ls fs z k m D) (hP : RWP c o g tm pt ls fs z ban k m D) (hnx : k + 1 < nk → Shr σ n tm ls fs k ∧ ∃ (m' : Nat) (D' : Nat → Nat → Nat), RW σ n o g tm pt ls fs z (k + 1) m' D' ∧ RWP c o g tm pt ls fs z ban (k + 1) m' D' ∧ RsT σ c o g tm pt ls fs z ban nk (k + 1) m' D') : ∃ τ, f_X9_findsRest 55 (nI k) σ = some ((), τ) ∧ Ag (Prs k) (fun _ _ => False) σ τ ∧ RsT τ c o g tm pt ls fs z ban nk k m D := by
  have hn := b2.1
  have hnk := hC.nk_le
  have hm := hW.2.1
  have hM := hC.le (k := k + 1) (by omega)
  unfold f_X9_findsRest
  refine fx_inv2 (I := fun a s => ∃ (τ : Sg) (R : Nat → Nat), s = (nI a, τ) ∧ Ag (Prs k) (fun _ _ => False) σ τ ∧ ∀ b, b < a → gI τ 71 (128 * k + b) = nI (R b) ∧ RsP c o g tm pt ls fs z ban nk k (D b) (R b)) (Q := fun e => ∃ τ, e = some ((), τ) ∧ Ag (Prs k) (fun _ _ => False) σ τ ∧ RsT τ c o g tm pt ls fs z ban nk k m D) (n := m) ?_ ?_ m 0 FU _ (by omega) (by unfold FU; omega) ⟨σ, fun _ => 0, rfl, Ag.rf, fun b hb => by omega⟩
  · rintro a s ha ⟨τ, R, rfl, hA, hR⟩ rec
    have hE2 := hE.ag hA (fun p j y => y.fm)
    have hr2 := hE2.1
    have hW2 := hW.ag hA (by unfold Prs; omega) (fun p j y1 y2 y3 => by unfold Prs; omega)
    have t16 := hE2.2.2.2.2.2.1.1
    have t68 := hW2.1
    have fin : ∀ v, RsP c o g tm pt ls fs z ban nk k (D a) v → ∃ s', (∃ (τ' : Sg) (R' : Nat → Nat), s' = (nI (a + 1), τ') ∧ Ag (Prs k) (fun _ _ => False) σ τ' ∧ ∀ b, b < a + 1 → gI τ' 71 (128 * k + b) = nI (R' b) ∧ RsP c o g tm pt ls fs z ban nk k (D b) (R' b)) ∧ s' = (nI (a + 1), pI τ 71 (128 * k + a) (nI v)) := fun v hv => by
      refine ⟨_, ⟨pI τ 71 (128 * k + a) (nI v), upN R a v, rfl, hA.pI (by unfold Prs; omega), fun b hb => ?_⟩, rfl⟩
      rw [gI_pI]
      by_cases e : b = a
      · subst e; rw [if_pos ⟨rfl, rfl⟩, upN_eq]; exact ⟨rfl, hv⟩
      · rw [if_neg (by omega), upN_ne e]; exact hR b (by omega)
    left
    by_cases hl : k + 1 = nk
    · obtain ⟨s', h1, rfl⟩ := fin _ (RsP.last b1 (by omega) hl (hP.1 a ha))
      refine ⟨_, h1, ?_⟩
      have ob := ownG (z := z) (d := D a) (tm := tm) (pt := pt) (ls := ls) (k := k) b1 (show fs (k + 1) ≤ 14 by omega)
      have t70 := (hW2.2.2 a ha).2.2
      have e0 : fx (f_X9_findsRest_L32 rec 55 (nI k) (nI a)) FU (nI 0, nI 0, τ) = f_X9_findsRest_L84 rec 55 (nI k) (nI a) (nI 0) τ := by
        refine fx_for0 (fun _ => (nI 0, nI 0, τ)) rfl (n := 0) (fun i hi rec => by omega) (fun rec' => ?_) (by unfold FU; omega)
        unfold f_X9_findsRest_L32
        dsimp only
        simp (disch := first | assumption | omega) only [↓lB_eq, ↓bd_m, ck_tt, gI_pI, gI_pL, gI_pR, gL_pI, gL_pL, gL_pR, gR_pI, gR_pL, rf_0_0, rf_0_1, rf_0_2, rf_0_3, rf_0_4, rf_0_5, rf_0_6, rf_0_7, rf_0_8, rf_0_9, rf_0_10, rf_1_1, rf_1_2, rf_4_0, rf_4_1, rf_4_2, rf_4_3, rf_4_4, rf_4_5, rf_11_0, rf_11_1, rf_12_0, rf_12_1, rf_12_2, rf_12_6, rf_12_7, rf_12_8, rf_13_0, rf_13_1, rf_13_2, rf_13_3, rf_18_0, rf_18_1, rf_18_2, rf_18_3, rf_23_0, rf_23_1, rf_23_2, rf_23_3, rf_31_0, rf_33_0, rf_33_2, rf_33_3, rf_33_4, rf_37_0, rf_39_0, rf_39_1, rf_39_2, rf_39_3, rf_40_0, rf_40_1, rf_40_2, rf_40_3, rf_47_3, rf_49_3, rf_51_3, rf_53_3, rf_55_1, rf_55_7, rf_55_8, rf_55_9, rf_55_11, rf_55_13, rf_55_14, rf_55_15, rf_55_17, rf_55_18, rf_55_19, rf_55_27, rf_55_28, rf_55_29, rf_55_30, rf_55_31, rf_55_32, rf_55_33, rf_55_34, rf_55_35, rf_55_36, rf_55_38, rf_55_44, rf_55_45, rf_55_46, rf_55_47, aL_2, aL_3, aL_5, aL_6, aL_7, aL_8, aL_9, aL_10, aL_14, aL_15, aL_16, aL_17, aL_19, aL_20, aL_21, aL_22, aL_24, aL_25, aL_26, aL_27, aL_28, aL_29, aL_30, aL_32, aL_34, aL_35, aL_36, aL_38, aL_39, aL_40, aL_41, aL_42, aL_43, aL_44, aL_45, aL_46, aL_48, aL_50, aL_52, aL_54, aL_56, aL_57, aL_58, aL_59, aL_60, aL_61, aL_62, aL_63, aL_64, aL_65, aL_66, aL_67, aL_68, aL_69, aL_70, aL_71, aL_72, aL_73, aL_74, aL_75, aL_76, aL_77, aL_78, aL_79, aL_80, aL_81, inb_nI, lit32, nI_clamp, nI_1, nI_add, if_pos, if_neg, b01_0, b01_1, Nat.add_sub_cancel, if_true, if_false, not_true_eq_false, not_false_eq_true, true_and, and_true, false_and, and_false, pk_sub, b01_n0, b01_n1, bI_t, bI_f, ofNat_nI, ck_d, Int32.lt_iff_toInt_lt, Int32.le_iff_toInt_le, i32_eq, nI_toInt, bI_b01, bI_0, decide_eq_true_eq, bI_tt, bI_ff, nI_prd, ↓reduceIte, iltT, iltF, ileT, ileF, ieqT, ieqF, dcT, dcF, or_true, or_false, true_or, false_or, t16]
      have e1 : f_X9_findsRest_L84 rec 55 (nI k) (nI a) (nI 0) τ = rec (nI (a + 1), pI τ 71 (128 * k + a) (nI (ownK o g tm pt ls fs z k (D a)))) := by
        unfold f_X9_findsRest_L84 f_X9_findsRest_L120
        simp (disch := first | assumption | omega) only [↓lB_eq, ↓bd_m, ck_tt, gI_pI, gI_pL, gI_pR, gL_pI, gL_pL, gL_pR, gR_pI, gR_pL, rf_0_0, rf_0_1, rf_0_2, rf_0_3, rf_0_4, rf_0_5, rf_0_6, rf_0_7, rf_0_8, rf_0_9, rf_0_10, rf_1_1, rf_1_2, rf_4_0, rf_4_1, rf_4_2, rf_4_3, rf_4_4, rf_4_5, rf_11_0, rf_11_1, rf_12_0, rf_12_1, rf_12_2, rf_12_6, rf_12_7, rf_12_8, rf_13_0, rf_13_1, rf_13_2, rf_13_3, rf_18_0, rf_18_1, rf_18_2, rf_18_3, rf_23_0, rf_23_1, rf_23_2, rf_23_3, rf_31_0, rf_33_0, rf_33_2, rf_33_3, rf_33_4, rf_37_0, rf_39_0, rf_39_1, rf_39_2, rf_39_3, rf_40_0, rf_40_1, rf_40_2, rf_40_3, rf_47_3, rf_49_3, rf_51_3, rf_53_3, rf_55_1, rf_55_7, rf_55_8, rf_55_9, rf_55_11, rf_55_13, rf_55_14, rf_55_15, rf_55_17, rf_55_18, rf_55_19, rf_55_27, rf_55_28, rf_55_29, rf_55_30, rf_55_31, rf_55_32, rf_55_33, rf_55_34, rf_55_35, rf_55_36, rf_55_38, rf_55_44, rf_55_45, rf_55_46, rf_55_47, aL_2, aL_3, aL_5, aL_6, aL_7, aL_8, aL_9, aL_10, aL_14, aL_15, aL_16, aL_17, aL_19, aL_20, aL_21, aL_22, aL_24, aL_25, aL_26, aL_27, aL_28, aL_29, aL_30, aL_32, aL_34, aL_35, aL_36, aL_38, aL_39, aL_40, aL_41, aL_42, aL_43, aL_44, aL_45, aL_46, aL_48, aL_50, aL_52, aL_54, aL_56, aL_57, aL_58, aL_59, aL_60, aL_61, aL_62, aL_63, aL_64, aL_65, aL_66, aL_67, aL_68, aL_69, aL_70, aL_71, aL_72, aL_73, aL_74, aL_75, aL_76, aL_77, aL_78, aL_79, aL_80, aL_81, inb_nI, lit32, nI_clamp, nI_1, nI_add, if_pos, if_neg, b01_0, b01_1, Nat.add_sub_cancel, if_true, if_false, not_true_eq_false, not_false_eq_true, true_and, and_true, false_and, and_false, pk_sub, b01_n0, b01_n1, bI_t, bI_f, ofNat_nI, ck_d, Int32.lt_iff_toInt_lt, Int32.le_iff_toInt_le, i32_eq, nI_toInt, bI_b01, bI_0, decide_eq_true_eq, bI_tt, bI_ff, nI_prd, ↓reduceIte, iltT, iltF, ileT, ileF, ieqT, ieqF, dcT, dcF, or_true, or_false, true_or, false_or, nI_mul, t70, Nat.zero_add]
      unfold f_X9_findsRest_L2 f_X9_findsRest_L28
      dsimp only
      rw [rf_55_28 hr2, aL_68, inb_nI (by omega), ck_d (by omega), nI_clamp (by omega), t68, if_neg (by rw [Int32.le_iff_toInt_le, nI_toInt (by omega), nI_toInt (by omega)]; omega), show nI k + (1 : Int32) = nI (k + 1) from nI_add _ _, t16, hl, if_pos rfl]
      exact e0.trans e1
    · obtain ⟨hS, m', D', w1, w2, w3⟩ := hnx (by omega)
      have hS2 := hS.ag hA (fun p j y => by unfold Psh at y; unfold Prs; omega)
      have w1' := w1.ag hA (by unfold Prs; omega) (fun p j y1 y2 y3 => by unfold Prs; omega)
      have w3' : RsT τ c o g tm pt ls fs z ban nk (k + 1) m' D' := by
        obtain ⟨R', hR'⟩ := w3
        have := w1.2.1
        exact ⟨R', fun b hb => ⟨(hA.2.1 71 _ (by unfold Prs; omega)).trans (hR' b hb).1, (hR' b hb).2⟩⟩
      obtain ⟨v, e1, hv⟩ := s_restIn (rec2 := rec) hE2 b1 b2 hC (by omega) hW2 hP w1' w2 hS2 w3' ha
      obtain ⟨s', h1, rfl⟩ := fin v hv
      refine ⟨_, h1, ?_⟩
      rw [← e1]
      unfold f_X9_findsRest_L2
      dsimp only
      rw [rf_55_28 hr2, aL_68, inb_nI (by omega), ck_d (by omega), nI_clamp (by omega), t68, if_neg (by rw [Int32.le_iff_toInt_le, nI_toInt (by omega), nI_toInt (by omega)]; omega), show nI k + (1 : Int32) = nI (k + 1) from nI_add _ _, t16, if_neg (fun y => hl ((nI_eq (by omega) (by omega)).1 y))]
      rfl
  · rintro s ⟨τ, R, rfl, hA, hR⟩ rec
    have hE2 := hE.ag hA (fun p j y => y.fm)
    have hr2 := hE2.1
    have t68 : gI τ 68 k = nI m := (hA.2.1 68 k (by unfold Prs; omega)).trans hW.1
    refine ⟨some ((), τ), ⟨τ, rfl, hA, R, hR⟩, ?_⟩
    unfold f_X9_findsRest_L2
    dsimp only
    simp (disch := first | assumption | omega) only [↓lB_eq, ↓bd_m, ck_tt, gI_pI, gI_pL, gI_pR, gL_pI, gL_pL, gL_pR, gR_pI, gR_pL, rf_0_0, rf_0_1, rf_0_2, rf_0_3, rf_0_4, rf_0_5, rf_0_6, rf_0_7, rf_0_8, rf_0_9, rf_0_10, rf_1_1, rf_1_2, rf_4_0, rf_4_1, rf_4_2, rf_4_3, rf_4_4, rf_4_5, rf_11_0, rf_11_1, rf_12_0, rf_12_1, rf_12_2, rf_12_6, rf_12_7, rf_12_8, rf_13_0, rf_13_1, rf_13_2, rf_13_3, rf_18_0, rf_18_1, rf_18_2, rf_18_3, rf_23_0, rf_23_1, rf_23_2, rf_23_3, rf_31_0, rf_33_0, rf_33_2, rf_33_3, rf_33_4, rf_37_0, rf_39_0, rf_39_1, rf_39_2, rf_39_3, rf_40_0, rf_40_1, rf_40_2, rf_40_3, rf_47_3, rf_49_3, rf_51_3, rf_53_3, rf_55_1, rf_55_7, rf_55_8, rf_55_9, rf_55_11, rf_55_13, rf_55_14, rf_55_15, rf_55_17, rf_55_18, rf_55_19, rf_55_27, rf_55_28, rf_55_29, rf_55_30, rf_55_31, rf_55_32, rf_55_33, rf_55_34, rf_55_35, rf_55_36, rf_55_38, rf_55_44, rf_55_45, rf_55_46, rf_55_47, aL_2, aL_3, aL_5, aL_6, aL_7, aL_8, aL_9, aL_10, aL_14, aL_15, aL_16, aL_17, aL_19, aL_20, aL_21, aL_22, aL_24, aL_25, aL_26, aL_27, aL_28, aL_29, aL_30, aL_32, aL_34, aL_35, aL_36, aL_38, aL_39, aL_40, aL_41, aL_42, aL_43, aL_44, aL_45, aL_46, aL_48, aL_50, aL_52, aL_54, aL_56, aL_57, aL_58, aL_59, aL_60, aL_61, aL_62, aL_63, aL_64, aL_65, aL_66, aL_67, aL_68, aL_69, aL_70, aL_71, aL_72, aL_73, aL_74, aL_75, aL_76, aL_77, aL_78, aL_79, aL_80, aL_81, inb_nI, lit32, nI_clamp, nI_1, nI_add, if_pos, if_neg, b01_0, b01_1, Nat.add_sub_cancel, if_true, if_false, not_true_eq_false, not_false_eq_true, true_and, and_true, false_and, and_false, pk_sub, b01_n0, b01_n1, bI_t, bI_f, ofNat_nI, ck_d, Int32.lt_iff_toInt_lt, Int32.le_iff_toInt_le, i32_eq, nI_toInt, bI_b01, bI_0, decide_eq_true_eq, bI_tt, bI_ff, nI_prd, ↓reduceIte, iltT, iltF, ileT, ileF, ieqT, ieqF, dcT, dcF, or_true, or_false, true_or, false_or, t68]
end
