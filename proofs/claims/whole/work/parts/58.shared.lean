/-! the reference: what sounds in a chord and the next one -/
/-- the first q entries of a chord's table name notes that sound in both -/
def ShC (σ : Sg) (n : Nat) (S S' : Nat → Bool) (k q : Nat) (X : Nat → Nat) : Prop := gI σ 74 k = nI q ∧ ∀ t, t < q → (X t < n ∧ S (X t) = true ∧ S' (X t) = true ∧ cntB S (X t) < 5 ∧ cntB S' (X t) < 5) ∧ gI σ 72 (5 * k + t) = nI (cntB S (X t)) ∧ gI σ 73 (5 * k + t) = nI (cntB S' (X t))
def Shr (σ : Sg) (n : Nat) (tm ls fs : Nat → Nat) (k : Nat) : Prop := ∃ q X, q ≤ 5 ∧ ShC σ n (sndB tm ls fs k) (sndB tm ls fs (k + 1)) k q X ∧ ∀ x, x < n → sndB tm ls fs k x = true → sndB tm ls fs (k + 1) x = true → cntB (sndB tm ls fs k) x < 5 → cntB (sndB tm ls fs (k + 1)) x < 5 → ∃ t, t < q ∧ X t = x
def Psh (k p j : Nat) : Prop := ((p = 72 ∨ p = 73) ∧ 5 * k ≤ j ∧ j < 5 * k + 5) ∨ (p = 74 ∧ j = k)
theorem Psh.fm {k p j : Nat} (h : Psh k p j) : FM p j := by unfold Psh at h; unfold FM SL; omega
theorem Shr.ag {P PL : Nat → Nat → Prop} {σ τ : Sg} {n : Nat} {tm ls fs : Nat → Nat} {k : Nat} (h : Shr σ n tm ls fs k) (q : Ag P PL σ τ) (h1 : ∀ p j, Psh k p j → ¬ P p j) : Shr τ n tm ls fs k := by
  obtain ⟨m, X, y1, ⟨y2, y3⟩, y4⟩ := h
  refine ⟨m, X, y1, ⟨(q.2.1 74 k (h1 _ _ (by unfold Psh; omega))).trans y2, fun t ht => ?_⟩, y4⟩
  obtain ⟨z1, z2, z3⟩ := y3 t ht
  exact ⟨z1, (q.2.1 72 _ (h1 _ _ (by unfold Psh; omega))).trans z2, (q.2.1 73 _ (h1 _ _ (by unfold Psh; omega))).trans z3⟩
theorem rank_inj {S : Nat → Bool} {x y : Nat} (hx : S x = true) (hy : S y = true) (h : cntB S x = cntB S y) : x = y := by
  have h1 := cnt_lt (S := S) (j := x) (a := y) hx
  have h2 := cnt_lt (S := S) (j := y) (a := x) hy
  omega
theorem s_sharedIn {σ τ : Sg} {c n nk k i q x1 : Nat} {X : Nat → Nat} {o g tm pt ls fs : Nat → Nat} {z : Int} {rec9 : Int32 × Sg → Option (Unit × Sg)} (hE0 : RE σ c n nk o g tm pt ls fs z) (hn : n ≤ 14) (hnk : nk ≤ n) (hk : k + 1 < nk) (hi : i < cntB (sndB tm ls fs k) n) (hi5 : i < 5) (hA0 : Ag (Psh k) (fun _ _ => False) σ τ) (hq : q ≤ i) (hS : ShC τ n (sndB tm ls fs k) (sndB tm ls fs (k + 1)) k q X) (hcm : ∀ x, x < n → sndB tm ls fs k x = true → sndB tm ls fs (k + 1) x = true → cntB (sndB tm ls fs k) x < i → cntB (sndB tm ls fs (k + 1)) x < 5 → ∃ t, t < q ∧ X t = x) (h1 : x1 < n) (hs1 : sndB tm ls fs k x1 = true) (hr1 : cntB (sndB tm ls fs k) x1 = i) : ∃ (τ' : Sg) (q' : Nat) (X' : Nat → Nat), fx (f_X9_findsShared_L26 rec9 55 (nI k) (nI i)) FU (nI 0, τ) = rec9 (nI (i + 1), τ') ∧ Ag (Psh k) (fun _ _ => False) σ τ' ∧ q' ≤ i + 1 ∧ ShC τ' n (sndB tm ls fs k) (sndB tm ls fs (k + 1)) k q' X' ∧ ∀ x, x < n → sndB tm ls fs k x = true → sndB tm ls fs (k + 1) x = true → cntB (sndB tm ls fs k) x < i + 1 → cntB (sndB tm ls fs (k + 1)) x < 5 → ∃ t, t < q' ∧ X' t = x := by
  have hcl := cntB_le (sndB tm ls fs (k + 1)) n
  have main : ∀ B, (B = 5 ∨ B = cntB (sndB tm ls fs (k + 1)) n) → B ≤ 5 → B ≤ cntB (sndB tm ls fs (k + 1)) n → ∃ (τ' : Sg) (q' : Nat) (X' : Nat → Nat), fx (f_X9_findsShared_L26 rec9 55 (nI k) (nI i)) FU (nI 0, τ) = rec9 (nI (i + 1), τ') ∧ Ag (Psh k) (fun _ _ => False) σ τ' ∧ q' ≤ i + 1 ∧ ShC τ' n (sndB tm ls fs k) (sndB tm ls fs (k + 1)) k q' X' ∧ ∀ x, x < n → sndB tm ls fs k x = true → sndB tm ls fs (k + 1) x = true → cntB (sndB tm ls fs k) x < i + 1 → cntB (sndB tm ls fs (k + 1)) x < 5 → ∃ t, t < q' ∧ X' t = x := by
    intro B hB hB5 hBT
    refine fx_inv2 (I := fun j s => ∃ (υ : Sg) (q' : Nat) (X' : Nat → Nat), s = (nI j, υ) ∧ Ag (Psh k) (fun _ _ => False) σ υ ∧ q' ≤ i + 1 ∧ (q' ≤ i ∨ (sndB tm ls fs (k + 1) x1 = true ∧ cntB (sndB tm ls fs (k + 1)) x1 < j)) ∧ ShC υ n (sndB tm ls fs k) (sndB tm ls fs (k + 1)) k q' X' ∧ (∀ x, x < n → sndB tm ls fs k x = true → sndB tm ls fs (k + 1) x = true → cntB (sndB tm ls fs k) x < i → cntB (sndB tm ls fs (k + 1)) x < 5 → ∃ t, t < q' ∧ X' t = x) ∧ (sndB tm ls fs (k + 1) x1 = true → cntB (sndB tm ls fs (k + 1)) x1 < j → ∃ t, t < q' ∧ X' t = x1)) (Q := fun e => ∃ (τ' : Sg) (q' : Nat) (X' : Nat → Nat), e = rec9 (nI (i + 1), τ') ∧ Ag (Psh k) (fun _ _ => False) σ τ' ∧ q' ≤ i + 1 ∧ ShC τ' n (sndB tm ls fs k) (sndB tm ls fs (k + 1)) k q' X' ∧ ∀ x, x < n → sndB tm ls fs k x = true → sndB tm ls fs (k + 1) x = true → cntB (sndB tm ls fs k) x < i + 1 → cntB (sndB tm ls fs (k + 1)) x < 5 → ∃ t, t < q' ∧ X' t = x) (n := B) ?_ ?_ B 0 FU _ (by omega) (by unfold FU; omega) ⟨τ, q, X, rfl, hA0, by omega, Or.inl hq, hS, hcm, fun _ y => by omega⟩
    · rintro j s hj ⟨υ, q', X', rfl, hA, y1, y2, y3, y4, y5⟩ rec
      have hE := hE0.ag hA (fun p j y => y.fm)
      have hr := hE.1
      obtain ⟨x2, h2, hs2, hr2⟩ := nth_ex (S := sndB tm ls fs (k + 1)) (n := n) (t := j) (by omega)
      have t65 := hE.2.2.2.2.2.1.2.2.1 (k + 1) hk
      have e1 := hE.2.2.2.2.2.1.2.2.2 k (by omega) x1 h1 hs1
      rw [hr1] at e1
      have e2 := hE.2.2.2.2.2.1.2.2.2 (k + 1) hk x2 h2 hs2
      rw [hr2, Nat.mul_succ] at e2
      have t74 := y3.1
      left
      by_cases he : x1 = x2
      · subst he
        have hqi : q' ≤ i := by rcases y2 with y2 | ⟨_, y2⟩ <;> omega
        let υ' : Sg := pI (pI (pI υ 72 (5 * k + q') (nI i)) 73 (5 * k + q') (nI j)) 74 k (nI (q' + 1))
        refine ⟨(nI (j + 1), υ'), ⟨υ', q' + 1, upN X' q' x1, rfl, ((hA.pI (by unfold Psh; omega)).pI (by unfold Psh; omega)).pI (by unfold Psh; omega), by omega, Or.inr ⟨hs2, by omega⟩, ⟨?_, fun t ht => ?_⟩, fun x a1 a2 a3 a4 a5 => ?_, fun _ _ => ⟨q', by omega, upN_eq⟩⟩, ?_⟩
        · show gI (pI _ 74 k _) 74 k = _
          rw [gI_pI, if_pos ⟨rfl, rfl⟩]
        · by_cases et : t = q'
          · subst et
            rw [upN_eq]
            refine ⟨⟨h1, hs1, hs2, by omega, by omega⟩, ?_, ?_⟩
            · show gI (pI (pI (pI υ 72 (5 * k + t) (nI i)) 73 (5 * k + t) (nI j)) 74 k _) 72 (5 * k + t) = _
              rw [gI_pI, if_neg (by omega), gI_pI, if_neg (by omega), gI_pI, if_pos ⟨rfl, rfl⟩, hr1]
            · show gI (pI (pI (pI υ 72 (5 * k + t) (nI i)) 73 (5 * k + t) (nI j)) 74 k _) 73 (5 * k + t) = _
              rw [gI_pI, if_neg (by omega), gI_pI, if_pos ⟨rfl, rfl⟩, hr2]
          · rw [upN_ne et]
            obtain ⟨z1, z2, z3⟩ := y3.2 t (by omega)
            refine ⟨z1, ?_, ?_⟩
            · show gI (pI (pI (pI υ 72 (5 * k + q') (nI i)) 73 (5 * k + q') (nI j)) 74 k _) 72 (5 * k + t) = _
              rw [gI_pI, if_neg (by omega), gI_pI, if_neg (by omega), gI_pI, if_neg (by omega)]; exact z2
            · show gI (pI (pI (pI υ 72 (5 * k + q') (nI i)) 73 (5 * k + q') (nI j)) 74 k _) 73 (5 * k + t) = _
              rw [gI_pI, if_neg (by omega), gI_pI, if_neg (by omega), gI_pI, if_neg (by omega)]; exact z3
        · obtain ⟨t, z1, z2⟩ := y4 x a1 a2 a3 a4 a5
          exact ⟨t, by omega, by rw [upN_ne (by omega)]; exact z2⟩
        · unfold f_X9_findsShared_L26 f_X9_findsShared_L113
          dsimp only
          simp (disch := first | assumption | omega) only [↓lB_eq, ↓bd_m, ck_tt, gI_pI, gI_pL, gI_pR, gL_pI, gL_pL, gL_pR, gR_pI, gR_pL, rf_0_0, rf_0_1, rf_0_2, rf_0_3, rf_0_4, rf_0_5, rf_0_6, rf_0_7, rf_0_8, rf_0_9, rf_0_10, rf_1_1, rf_1_2, rf_4_0, rf_4_1, rf_4_2, rf_4_3, rf_4_4, rf_4_5, rf_11_0, rf_11_1, rf_12_0, rf_12_1, rf_12_2, rf_12_6, rf_12_7, rf_12_8, rf_13_0, rf_13_1, rf_13_2, rf_13_3, rf_18_0, rf_18_1, rf_18_2, rf_18_3, rf_23_0, rf_23_1, rf_23_2, rf_23_3, rf_31_0, rf_33_0, rf_33_2, rf_33_3, rf_33_4, rf_37_0, rf_39_0, rf_39_1, rf_39_2, rf_39_3, rf_40_0, rf_40_1, rf_40_2, rf_40_3, rf_47_3, rf_49_3, rf_51_3, rf_53_3, rf_55_1, rf_55_7, rf_55_8, rf_55_9, rf_55_11, rf_55_13, rf_55_14, rf_55_15, rf_55_17, rf_55_18, rf_55_19, rf_55_27, rf_55_28, rf_55_29, rf_55_30, rf_55_31, rf_55_32, rf_55_33, rf_55_34, rf_55_35, rf_55_36, rf_55_38, rf_55_44, rf_55_45, rf_55_46, rf_55_47, aL_2, aL_3, aL_5, aL_6, aL_7, aL_8, aL_9, aL_10, aL_14, aL_15, aL_16, aL_17, aL_19, aL_20, aL_21, aL_22, aL_24, aL_25, aL_26, aL_27, aL_28, aL_29, aL_30, aL_32, aL_34, aL_35, aL_36, aL_38, aL_39, aL_40, aL_41, aL_42, aL_43, aL_44, aL_45, aL_46, aL_48, aL_50, aL_52, aL_54, aL_56, aL_57, aL_58, aL_59, aL_60, aL_61, aL_62, aL_63, aL_64, aL_65, aL_66, aL_67, aL_68, aL_69, aL_70, aL_71, aL_72, aL_73, aL_74, aL_75, aL_76, aL_77, aL_78, aL_79, aL_80, aL_81, inb_nI, lit32, nI_clamp, nI_1, nI_add, if_pos, if_neg, b01_0, b01_1, Nat.add_sub_cancel, if_true, if_false, not_true_eq_false, not_false_eq_true, true_and, and_true, false_and, and_false, pk_sub, b01_n0, b01_n1, bI_t, bI_f, ofNat_nI, ck_d, Int32.lt_iff_toInt_lt, Int32.le_iff_toInt_le, i32_eq, nI_toInt, bI_b01, bI_0, decide_eq_true_eq, bI_tt, bI_ff, nI_prd, ↓reduceIte, iltT, iltF, ileT, ileF, ieqT, ieqF, dcT, dcF, or_true, or_false, true_or, false_or, t65, nI_mul, e1, e2, t74]
          rfl
      · refine ⟨(nI (j + 1), υ), ⟨υ, q', X', rfl, hA, y1, ?_, y3, y4, fun a1 a2 => ?_⟩, ?_⟩
        · rcases y2 with y2 | ⟨y2, y2'⟩
          · exact Or.inl y2
          · exact Or.inr ⟨y2, by omega⟩
        · refine y5 a1 ?_
          by_cases e : cntB (sndB tm ls fs (k + 1)) x1 = j
          · exact absurd (rank_inj a1 hs2 (by omega)) he
          · omega
        · unfold f_X9_findsShared_L26 f_X9_findsShared_L113
          dsimp only
          simp (disch := first | assumption | omega) only [↓lB_eq, ↓bd_m, ck_tt, gI_pI, gI_pL, gI_pR, gL_pI, gL_pL, gL_pR, gR_pI, gR_pL, rf_0_0, rf_0_1, rf_0_2, rf_0_3, rf_0_4, rf_0_5, rf_0_6, rf_0_7, rf_0_8, rf_0_9, rf_0_10, rf_1_1, rf_1_2, rf_4_0, rf_4_1, rf_4_2, rf_4_3, rf_4_4, rf_4_5, rf_11_0, rf_11_1, rf_12_0, rf_12_1, rf_12_2, rf_12_6, rf_12_7, rf_12_8, rf_13_0, rf_13_1, rf_13_2, rf_13_3, rf_18_0, rf_18_1, rf_18_2, rf_18_3, rf_23_0, rf_23_1, rf_23_2, rf_23_3, rf_31_0, rf_33_0, rf_33_2, rf_33_3, rf_33_4, rf_37_0, rf_39_0, rf_39_1, rf_39_2, rf_39_3, rf_40_0, rf_40_1, rf_40_2, rf_40_3, rf_47_3, rf_49_3, rf_51_3, rf_53_3, rf_55_1, rf_55_7, rf_55_8, rf_55_9, rf_55_11, rf_55_13, rf_55_14, rf_55_15, rf_55_17, rf_55_18, rf_55_19, rf_55_27, rf_55_28, rf_55_29, rf_55_30, rf_55_31, rf_55_32, rf_55_33, rf_55_34, rf_55_35, rf_55_36, rf_55_38, rf_55_44, rf_55_45, rf_55_46, rf_55_47, aL_2, aL_3, aL_5, aL_6, aL_7, aL_8, aL_9, aL_10, aL_14, aL_15, aL_16, aL_17, aL_19, aL_20, aL_21, aL_22, aL_24, aL_25, aL_26, aL_27, aL_28, aL_29, aL_30, aL_32, aL_34, aL_35, aL_36, aL_38, aL_39, aL_40, aL_41, aL_42, aL_43, aL_44, aL_45, aL_46, aL_48, aL_50, aL_52, aL_54, aL_56, aL_57, aL_58, aL_59, aL_60, aL_61, aL_62, aL_63, aL_64, aL_65, aL_66, aL_67, aL_68, aL_69, aL_70, aL_71, aL_72, aL_73, aL_74, aL_75, aL_76, aL_77, aL_78, aL_79, aL_80, aL_81, inb_nI, lit32, nI_clamp, nI_1, nI_add, if_pos, if_neg, b01_0, b01_1, Nat.add_sub_cancel, if_true, if_false, not_true_eq_false, not_false_eq_true, true_and, and_true, false_and, and_false, pk_sub, b01_n0, b01_n1, bI_t, bI_f, ofNat_nI, ck_d, Int32.lt_iff_toInt_lt, Int32.le_iff_toInt_le, i32_eq, nI_toInt, bI_b01, bI_0, decide_eq_true_eq, bI_tt, bI_ff, nI_prd, ↓reduceIte, iltT, iltF, ileT, ileF, ieqT, ieqF, dcT, dcF, or_true, or_false, true_or, false_or, t65, nI_mul, e1, e2]
    · rintro s ⟨υ, q', X', rfl, hA, y1, y2, y3, y4, y5⟩ rec
      have hE := hE0.ag hA (fun p j y => y.fm)
      have hr := hE.1
      have t65 := hE.2.2.2.2.2.1.2.2.1 (k + 1) hk
      refine ⟨rec9 (nI (i + 1), υ), ⟨υ, q', X', rfl, hA, y1, y3, fun x a1 a2 a3 a4 a5 => ?_⟩, ?_⟩
      · by_cases e : cntB (sndB tm ls fs k) x = i
        · have ex : x = x1 := rank_inj a2 hs1 (by omega)
          subst ex
          refine y5 a3 ?_
          have := (cnt_lt (S := sndB tm ls fs (k + 1)) a3).2 a1
          omega
        · exact y4 x a1 a2 a3 (by omega) a5
      · unfold f_X9_findsShared_L26 f_X9_findsShared_L119
        dsimp only
        rcases hB with hB | hB
        · subst hB
          by_cases q5 : cntB (sndB tm ls fs (k + 1)) n ≤ 5
          · simp (disch := first | assumption | omega) only [↓lB_eq, ↓bd_m, ck_tt, gI_pI, gI_pL, gI_pR, gL_pI, gL_pL, gL_pR, gR_pI, gR_pL, rf_0_0, rf_0_1, rf_0_2, rf_0_3, rf_0_4, rf_0_5, rf_0_6, rf_0_7, rf_0_8, rf_0_9, rf_0_10, rf_1_1, rf_1_2, rf_4_0, rf_4_1, rf_4_2, rf_4_3, rf_4_4, rf_4_5, rf_11_0, rf_11_1, rf_12_0, rf_12_1, rf_12_2, rf_12_6, rf_12_7, rf_12_8, rf_13_0, rf_13_1, rf_13_2, rf_13_3, rf_18_0, rf_18_1, rf_18_2, rf_18_3, rf_23_0, rf_23_1, rf_23_2, rf_23_3, rf_31_0, rf_33_0, rf_33_2, rf_33_3, rf_33_4, rf_37_0, rf_39_0, rf_39_1, rf_39_2, rf_39_3, rf_40_0, rf_40_1, rf_40_2, rf_40_3, rf_47_3, rf_49_3, rf_51_3, rf_53_3, rf_55_1, rf_55_7, rf_55_8, rf_55_9, rf_55_11, rf_55_13, rf_55_14, rf_55_15, rf_55_17, rf_55_18, rf_55_19, rf_55_27, rf_55_28, rf_55_29, rf_55_30, rf_55_31, rf_55_32, rf_55_33, rf_55_34, rf_55_35, rf_55_36, rf_55_38, rf_55_44, rf_55_45, rf_55_46, rf_55_47, aL_2, aL_3, aL_5, aL_6, aL_7, aL_8, aL_9, aL_10, aL_14, aL_15, aL_16, aL_17, aL_19, aL_20, aL_21, aL_22, aL_24, aL_25, aL_26, aL_27, aL_28, aL_29, aL_30, aL_32, aL_34, aL_35, aL_36, aL_38, aL_39, aL_40, aL_41, aL_42, aL_43, aL_44, aL_45, aL_46, aL_48, aL_50, aL_52, aL_54, aL_56, aL_57, aL_58, aL_59, aL_60, aL_61, aL_62, aL_63, aL_64, aL_65, aL_66, aL_67, aL_68, aL_69, aL_70, aL_71, aL_72, aL_73, aL_74, aL_75, aL_76, aL_77, aL_78, aL_79, aL_80, aL_81, inb_nI, lit32, nI_clamp, nI_1, nI_add, if_pos, if_neg, b01_0, b01_1, Nat.add_sub_cancel, if_true, if_false, not_true_eq_false, not_false_eq_true, true_and, and_true, false_and, and_false, pk_sub, b01_n0, b01_n1, bI_t, bI_f, ofNat_nI, ck_d, Int32.lt_iff_toInt_lt, Int32.le_iff_toInt_le, i32_eq, nI_toInt, bI_b01, bI_0, decide_eq_true_eq, bI_tt, bI_ff, nI_prd, ↓reduceIte, iltT, iltF, ileT, ileF, ieqT, ieqF, dcT, dcF, or_true, or_false, true_or, false_or, t65]
          · simp (disch := first | assumption | omega) only [↓lB_eq, ↓bd_m, ck_tt, gI_pI, gI_pL, gI_pR, gL_pI, gL_pL, gL_pR, gR_pI, gR_pL, rf_0_0, rf_0_1, rf_0_2, rf_0_3, rf_0_4, rf_0_5, rf_0_6, rf_0_7, rf_0_8, rf_0_9, rf_0_10, rf_1_1, rf_1_2, rf_4_0, rf_4_1, rf_4_2, rf_4_3, rf_4_4, rf_4_5, rf_11_0, rf_11_1, rf_12_0, rf_12_1, rf_12_2, rf_12_6, rf_12_7, rf_12_8, rf_13_0, rf_13_1, rf_13_2, rf_13_3, rf_18_0, rf_18_1, rf_18_2, rf_18_3, rf_23_0, rf_23_1, rf_23_2, rf_23_3, rf_31_0, rf_33_0, rf_33_2, rf_33_3, rf_33_4, rf_37_0, rf_39_0, rf_39_1, rf_39_2, rf_39_3, rf_40_0, rf_40_1, rf_40_2, rf_40_3, rf_47_3, rf_49_3, rf_51_3, rf_53_3, rf_55_1, rf_55_7, rf_55_8, rf_55_9, rf_55_11, rf_55_13, rf_55_14, rf_55_15, rf_55_17, rf_55_18, rf_55_19, rf_55_27, rf_55_28, rf_55_29, rf_55_30, rf_55_31, rf_55_32, rf_55_33, rf_55_34, rf_55_35, rf_55_36, rf_55_38, rf_55_44, rf_55_45, rf_55_46, rf_55_47, aL_2, aL_3, aL_5, aL_6, aL_7, aL_8, aL_9, aL_10, aL_14, aL_15, aL_16, aL_17, aL_19, aL_20, aL_21, aL_22, aL_24, aL_25, aL_26, aL_27, aL_28, aL_29, aL_30, aL_32, aL_34, aL_35, aL_36, aL_38, aL_39, aL_40, aL_41, aL_42, aL_43, aL_44, aL_45, aL_46, aL_48, aL_50, aL_52, aL_54, aL_56, aL_57, aL_58, aL_59, aL_60, aL_61, aL_62, aL_63, aL_64, aL_65, aL_66, aL_67, aL_68, aL_69, aL_70, aL_71, aL_72, aL_73, aL_74, aL_75, aL_76, aL_77, aL_78, aL_79, aL_80, aL_81, inb_nI, lit32, nI_clamp, nI_1, nI_add, if_pos, if_neg, b01_0, b01_1, Nat.add_sub_cancel, if_true, if_false, not_true_eq_false, not_false_eq_true, true_and, and_true, false_and, and_false, pk_sub, b01_n0, b01_n1, bI_t, bI_f, ofNat_nI, ck_d, Int32.lt_iff_toInt_lt, Int32.le_iff_toInt_le, i32_eq, nI_toInt, bI_b01, bI_0, decide_eq_true_eq, bI_tt, bI_ff, nI_prd, ↓reduceIte, iltT, iltF, ileT, ileF, ieqT, ieqF, dcT, dcF, or_true, or_false, true_or, false_or, t65]
        · simp (disch := first | assumption | omega) only [↓lB_eq, ↓bd_m, ck_tt, gI_pI, gI_pL, gI_pR, gL_pI, gL_pL, gL_pR, gR_pI, gR_pL, rf_0_0, rf_0_1, rf_0_2, rf_0_3, rf_0_4, rf_0_5, rf_0_6, rf_0_7, rf_0_8, rf_0_9, rf_0_10, rf_1_1, rf_1_2, rf_4_0, rf_4_1, rf_4_2, rf_4_3, rf_4_4, rf_4_5, rf_11_0, rf_11_1, rf_12_0, rf_12_1, rf_12_2, rf_12_6, rf_12_7, rf_12_8, rf_13_0, rf_13_1, rf_13_2, rf_13_3, rf_18_0, rf_18_1, rf_18_2, rf_18_3, rf_23_0, rf_23_1, rf_23_2, rf_23_3, rf_31_0, rf_33_0, rf_33_2, rf_33_3, rf_33_4, rf_37_0, rf_39_0, rf_39_1, rf_39_2, rf_39_3, rf_40_0, rf_40_1, rf_40_2, rf_40_3, rf_47_3, rf_49_3, rf_51_3, rf_53_3, rf_55_1, rf_55_7, rf_55_8, rf_55_9, rf_55_11, rf_55_13, rf_55_14, rf_55_15, rf_55_17, rf_55_18, rf_55_19, rf_55_27, rf_55_28, rf_55_29, rf_55_30, rf_55_31, rf_55_32, rf_55_33, rf_55_34, rf_55_35, rf_55_36, rf_55_38, rf_55_44, rf_55_45, rf_55_46, rf_55_47, aL_2, aL_3, aL_5, aL_6, aL_7, aL_8, aL_9, aL_10, aL_14, aL_15, aL_16, aL_17, aL_19, aL_20, aL_21, aL_22, aL_24, aL_25, aL_26, aL_27, aL_28, aL_29, aL_30, aL_32, aL_34, aL_35, aL_36, aL_38, aL_39, aL_40, aL_41, aL_42, aL_43, aL_44, aL_45, aL_46, aL_48, aL_50, aL_52, aL_54, aL_56, aL_57, aL_58, aL_59, aL_60, aL_61, aL_62, aL_63, aL_64, aL_65, aL_66, aL_67, aL_68, aL_69, aL_70, aL_71, aL_72, aL_73, aL_74, aL_75, aL_76, aL_77, aL_78, aL_79, aL_80, aL_81, inb_nI, lit32, nI_clamp, nI_1, nI_add, if_pos, if_neg, b01_0, b01_1, Nat.add_sub_cancel, if_true, if_false, not_true_eq_false, not_false_eq_true, true_and, and_true, false_and, and_false, pk_sub, b01_n0, b01_n1, bI_t, bI_f, ofNat_nI, ck_d, Int32.lt_iff_toInt_lt, Int32.le_iff_toInt_le, i32_eq, nI_toInt, bI_b01, bI_0, decide_eq_true_eq, bI_tt, bI_ff, nI_prd, ↓reduceIte, iltT, iltF, ileT, ileF, ieqT, ieqF, dcT, dcF, or_true, or_false, true_or, false_or, t65]
  by_cases q5 : 5 ≤ cntB (sndB tm ls fs (k + 1)) n
  · exact main 5 (Or.inl rfl) (by omega) q5
  · exact main _ (Or.inr rfl) (by omega) (by omega)
theorem s_X9_findsShared {σ : Sg} {c n nk k : Nat} {o g tm pt ls fs : Nat → Nat} {z : Int} (hE0 : RE σ c n nk o g tm pt ls fs z) (hn : n ≤ 14) (hnk : nk ≤ n) (hk : k + 1 < nk) : ∃ τ, f_X9_findsShared 55 (nI k) σ = some ((), τ) ∧ Ag (Psh k) (fun _ _ => False) σ τ ∧ Shr τ n tm ls fs k := by
  have hcl := cntB_le (sndB tm ls fs k) n
  have hA1 : Ag (Psh k) (fun _ _ => False) σ (pI σ 74 k (nI 0)) := Ag.rf.pI (by unfold Psh; omega)
  have unf : f_X9_findsShared 55 (nI k) σ = fx (f_X9_findsShared_L9 55 (nI k)) FU (nI 0, pI σ 74 k (nI 0)) := by
    unfold f_X9_findsShared
    rw [rf_55_34 hE0.1, aL_74, inb_nI (by omega), ck_d (by omega), lB_eq, nI_clamp (by omega)]
    rfl
  have main : ∀ B, (B = 5 ∨ B = cntB (sndB tm ls fs k) n) → B ≤ 5 → B ≤ cntB (sndB tm ls fs k) n → ∃ τ, fx (f_X9_findsShared_L9 55 (nI k)) FU (nI 0, pI σ 74 k (nI 0)) = some ((), τ) ∧ Ag (Psh k) (fun _ _ => False) σ τ ∧ Shr τ n tm ls fs k := by
    intro B hB hB5 hBT
    refine fx_inv2 (I := fun i s => ∃ (υ : Sg) (q : Nat) (X : Nat → Nat), s = (nI i, υ) ∧ Ag (Psh k) (fun _ _ => False) σ υ ∧ q ≤ i ∧ ShC υ n (sndB tm ls fs k) (sndB tm ls fs (k + 1)) k q X ∧ ∀ x, x < n → sndB tm ls fs k x = true → sndB tm ls fs (k + 1) x = true → cntB (sndB tm ls fs k) x < i → cntB (sndB tm ls fs (k + 1)) x < 5 → ∃ t, t < q ∧ X t = x) (Q := fun e => ∃ τ, e = some ((), τ) ∧ Ag (Psh k) (fun _ _ => False) σ τ ∧ Shr τ n tm ls fs k) (n := B) ?_ ?_ B 0 FU _ (by omega) (by unfold FU; omega) ⟨pI σ 74 k (nI 0), 0, fun _ => 0, rfl, hA1, by omega, ⟨by rw [gI_pI, if_pos ⟨rfl, rfl⟩], fun t ht => by omega⟩, fun x _ _ _ y => by omega⟩
    · rintro i s hi ⟨υ, q, X, rfl, hA, y1, y2, y3⟩ rec
      have hE := hE0.ag hA (fun p j y => y.fm)
      have hr := hE.1
      have t65 := hE.2.2.2.2.2.1.2.2.1 k (by omega)
      obtain ⟨x1, h1, hs1, hr1⟩ := nth_ex (S := sndB tm ls fs k) (n := n) (t := i) (by omega)
      obtain ⟨τ', q', X', e1, z1, z2, z3, z4⟩ := s_sharedIn (rec9 := rec) hE0 hn hnk hk (show i < cntB (sndB tm ls fs k) n by omega) (by omega) hA y1 y2 y3 h1 hs1 hr1
      left
      refine ⟨(nI (i + 1), τ'), ⟨τ', q', X', rfl, z1, z2, z3, z4⟩, ?_⟩
      rw [← e1]
      unfold f_X9_findsShared_L9
      dsimp only
      rw [rf_55_18 hr, aL_65, inb_nI (by omega), ck_d (by omega), nI_clamp (by omega), t65, if_neg (by rw [Int32.le_iff_toInt_le, nI_toInt (by omega), nI_toInt (by omega)]; omega), if_neg (by rw [Int32.le_iff_toInt_le, nI_toInt (by omega)]; have : (5 : Int32).toInt = 5 := rfl; omega)]
      rfl
    · rintro s ⟨υ, q, X, rfl, hA, y1, y2, y3⟩ rec
      have hE := hE0.ag hA (fun p j y => y.fm)
      have hr := hE.1
      have t65 := hE.2.2.2.2.2.1.2.2.1 k (by omega)
      refine ⟨some ((), υ), ⟨υ, rfl, hA, q, X, by omega, y2, fun x a1 a2 a3 a4 a5 => ?_⟩, ?_⟩
      · refine y3 x a1 a2 a3 ?_ a5
        have := (cnt_lt (S := sndB tm ls fs k) a2).2 a1
        omega
      · unfold f_X9_findsShared_L9 f_X9_findsShared_L125
        dsimp only
        rcases hB with hB | hB
        · subst hB
          by_cases q5 : cntB (sndB tm ls fs k) n ≤ 5
          · simp (disch := first | assumption | omega) only [↓lB_eq, ↓bd_m, ck_tt, gI_pI, gI_pL, gI_pR, gL_pI, gL_pL, gL_pR, gR_pI, gR_pL, rf_0_0, rf_0_1, rf_0_2, rf_0_3, rf_0_4, rf_0_5, rf_0_6, rf_0_7, rf_0_8, rf_0_9, rf_0_10, rf_1_1, rf_1_2, rf_4_0, rf_4_1, rf_4_2, rf_4_3, rf_4_4, rf_4_5, rf_11_0, rf_11_1, rf_12_0, rf_12_1, rf_12_2, rf_12_6, rf_12_7, rf_12_8, rf_13_0, rf_13_1, rf_13_2, rf_13_3, rf_18_0, rf_18_1, rf_18_2, rf_18_3, rf_23_0, rf_23_1, rf_23_2, rf_23_3, rf_31_0, rf_33_0, rf_33_2, rf_33_3, rf_33_4, rf_37_0, rf_39_0, rf_39_1, rf_39_2, rf_39_3, rf_40_0, rf_40_1, rf_40_2, rf_40_3, rf_47_3, rf_49_3, rf_51_3, rf_53_3, rf_55_1, rf_55_7, rf_55_8, rf_55_9, rf_55_11, rf_55_13, rf_55_14, rf_55_15, rf_55_17, rf_55_18, rf_55_19, rf_55_27, rf_55_28, rf_55_29, rf_55_30, rf_55_31, rf_55_32, rf_55_33, rf_55_34, rf_55_35, rf_55_36, rf_55_38, rf_55_44, rf_55_45, rf_55_46, rf_55_47, aL_2, aL_3, aL_5, aL_6, aL_7, aL_8, aL_9, aL_10, aL_14, aL_15, aL_16, aL_17, aL_19, aL_20, aL_21, aL_22, aL_24, aL_25, aL_26, aL_27, aL_28, aL_29, aL_30, aL_32, aL_34, aL_35, aL_36, aL_38, aL_39, aL_40, aL_41, aL_42, aL_43, aL_44, aL_45, aL_46, aL_48, aL_50, aL_52, aL_54, aL_56, aL_57, aL_58, aL_59, aL_60, aL_61, aL_62, aL_63, aL_64, aL_65, aL_66, aL_67, aL_68, aL_69, aL_70, aL_71, aL_72, aL_73, aL_74, aL_75, aL_76, aL_77, aL_78, aL_79, aL_80, aL_81, inb_nI, lit32, nI_clamp, nI_1, nI_add, if_pos, if_neg, b01_0, b01_1, Nat.add_sub_cancel, if_true, if_false, not_true_eq_false, not_false_eq_true, true_and, and_true, false_and, and_false, pk_sub, b01_n0, b01_n1, bI_t, bI_f, ofNat_nI, ck_d, Int32.lt_iff_toInt_lt, Int32.le_iff_toInt_le, i32_eq, nI_toInt, bI_b01, bI_0, decide_eq_true_eq, bI_tt, bI_ff, nI_prd, ↓reduceIte, iltT, iltF, ileT, ileF, ieqT, ieqF, dcT, dcF, or_true, or_false, true_or, false_or, t65]
          · simp (disch := first | assumption | omega) only [↓lB_eq, ↓bd_m, ck_tt, gI_pI, gI_pL, gI_pR, gL_pI, gL_pL, gL_pR, gR_pI, gR_pL, rf_0_0, rf_0_1, rf_0_2, rf_0_3, rf_0_4, rf_0_5, rf_0_6, rf_0_7, rf_0_8, rf_0_9, rf_0_10, rf_1_1, rf_1_2, rf_4_0, rf_4_1, rf_4_2, rf_4_3, rf_4_4, rf_4_5, rf_11_0, rf_11_1, rf_12_0, rf_12_1, rf_12_2, rf_12_6, rf_12_7, rf_12_8, rf_13_0, rf_13_1, rf_13_2, rf_13_3, rf_18_0, rf_18_1, rf_18_2, rf_18_3, rf_23_0, rf_23_1, rf_23_2, rf_23_3, rf_31_0, rf_33_0, rf_33_2, rf_33_3, rf_33_4, rf_37_0, rf_39_0, rf_39_1, rf_39_2, rf_39_3, rf_40_0, rf_40_1, rf_40_2, rf_40_3, rf_47_3, rf_49_3, rf_51_3, rf_53_3, rf_55_1, rf_55_7, rf_55_8, rf_55_9, rf_55_11, rf_55_13, rf_55_14, rf_55_15, rf_55_17, rf_55_18, rf_55_19, rf_55_27, rf_55_28, rf_55_29, rf_55_30, rf_55_31, rf_55_32, rf_55_33, rf_55_34, rf_55_35, rf_55_36, rf_55_38, rf_55_44, rf_55_45, rf_55_46, rf_55_47, aL_2, aL_3, aL_5, aL_6, aL_7, aL_8, aL_9, aL_10, aL_14, aL_15, aL_16, aL_17, aL_19, aL_20, aL_21, aL_22, aL_24, aL_25, aL_26, aL_27, aL_28, aL_29, aL_30, aL_32, aL_34, aL_35, aL_36, aL_38, aL_39, aL_40, aL_41, aL_42, aL_43, aL_44, aL_45, aL_46, aL_48, aL_50, aL_52, aL_54, aL_56, aL_57, aL_58, aL_59, aL_60, aL_61, aL_62, aL_63, aL_64, aL_65, aL_66, aL_67, aL_68, aL_69, aL_70, aL_71, aL_72, aL_73, aL_74, aL_75, aL_76, aL_77, aL_78, aL_79, aL_80, aL_81, inb_nI, lit32, nI_clamp, nI_1, nI_add, if_pos, if_neg, b01_0, b01_1, Nat.add_sub_cancel, if_true, if_false, not_true_eq_false, not_false_eq_true, true_and, and_true, false_and, and_false, pk_sub, b01_n0, b01_n1, bI_t, bI_f, ofNat_nI, ck_d, Int32.lt_iff_toInt_lt, Int32.le_iff_toInt_le, i32_eq, nI_toInt, bI_b01, bI_0, decide_eq_true_eq, bI_tt, bI_ff, nI_prd, ↓reduceIte, iltT, iltF, ileT, ileF, ieqT, ieqF, dcT, dcF, or_true, or_false, true_or, false_or, t65]
        · simp (disch := first | assumption | omega) only [↓lB_eq, ↓bd_m, ck_tt, gI_pI, gI_pL, gI_pR, gL_pI, gL_pL, gL_pR, gR_pI, gR_pL, rf_0_0, rf_0_1, rf_0_2, rf_0_3, rf_0_4, rf_0_5, rf_0_6, rf_0_7, rf_0_8, rf_0_9, rf_0_10, rf_1_1, rf_1_2, rf_4_0, rf_4_1, rf_4_2, rf_4_3, rf_4_4, rf_4_5, rf_11_0, rf_11_1, rf_12_0, rf_12_1, rf_12_2, rf_12_6, rf_12_7, rf_12_8, rf_13_0, rf_13_1, rf_13_2, rf_13_3, rf_18_0, rf_18_1, rf_18_2, rf_18_3, rf_23_0, rf_23_1, rf_23_2, rf_23_3, rf_31_0, rf_33_0, rf_33_2, rf_33_3, rf_33_4, rf_37_0, rf_39_0, rf_39_1, rf_39_2, rf_39_3, rf_40_0, rf_40_1, rf_40_2, rf_40_3, rf_47_3, rf_49_3, rf_51_3, rf_53_3, rf_55_1, rf_55_7, rf_55_8, rf_55_9, rf_55_11, rf_55_13, rf_55_14, rf_55_15, rf_55_17, rf_55_18, rf_55_19, rf_55_27, rf_55_28, rf_55_29, rf_55_30, rf_55_31, rf_55_32, rf_55_33, rf_55_34, rf_55_35, rf_55_36, rf_55_38, rf_55_44, rf_55_45, rf_55_46, rf_55_47, aL_2, aL_3, aL_5, aL_6, aL_7, aL_8, aL_9, aL_10, aL_14, aL_15, aL_16, aL_17, aL_19, aL_20, aL_21, aL_22, aL_24, aL_25, aL_26, aL_27, aL_28, aL_29, aL_30, aL_32, aL_34, aL_35, aL_36, aL_38, aL_39, aL_40, aL_41, aL_42, aL_43, aL_44, aL_45, aL_46, aL_48, aL_50, aL_52, aL_54, aL_56, aL_57, aL_58, aL_59, aL_60, aL_61, aL_62, aL_63, aL_64, aL_65, aL_66, aL_67, aL_68, aL_69, aL_70, aL_71, aL_72, aL_73, aL_74, aL_75, aL_76, aL_77, aL_78, aL_79, aL_80, aL_81, inb_nI, lit32, nI_clamp, nI_1, nI_add, if_pos, if_neg, b01_0, b01_1, Nat.add_sub_cancel, if_true, if_false, not_true_eq_false, not_false_eq_true, true_and, and_true, false_and, and_false, pk_sub, b01_n0, b01_n1, bI_t, bI_f, ofNat_nI, ck_d, Int32.lt_iff_toInt_lt, Int32.le_iff_toInt_le, i32_eq, nI_toInt, bI_b01, bI_0, decide_eq_true_eq, bI_tt, bI_ff, nI_prd, ↓reduceIte, iltT, iltF, ileT, ileF, ieqT, ieqF, dcT, dcF, or_true, or_false, true_or, false_or, t65]
  rw [unf]
  by_cases q5 : 5 ≤ cntB (sndB tm ls fs k) n
  · exact main 5 (Or.inl rfl) (by omega) q5
  · exact main _ (Or.inr rfl) (by omega) (by omega)
theorem s_X9_goesOn {σ : Sg} {n nk k W W' : Nat} {tm ls fs d d' : Nat → Nat} (hr : RefI σ) (hn : n ≤ 14) (hnk : nk ≤ n) (hk : k + 1 < nk) (hS : Shr σ n tm ls fs k) (hW : WY (sndB tm ls fs k) d n W) (hW' : WY (sndB tm ls fs (k + 1)) d' n W') (hT : cntB (sndB tm ls fs k) n ≤ 5) (hT' : cntB (sndB tm ls fs (k + 1)) n ≤ 5) : ∃ b : Bool, f_X9_goesOn 55 (nI k) (nI W) (nI W') σ = some (bI b, σ) ∧ (b = true ↔ ∀ x, x < n → sndB tm ls fs k x = true → sndB tm ls fs (k + 1) x = true → d x = d' x) := by
  obtain ⟨q, X, hq, ⟨h74, hX⟩, hcm⟩ := hS
  unfold f_X9_goesOn
  rw [lB_eq, show (5 : Int32) = nI 5 from rfl, nI_mul]
  refine fx_inv2 (I := fun r s => ∃ b : Bool, s = (bI b, nI (5 * k + r), σ) ∧ (b = true → ∀ t, t < r → d (X t) = d' (X t)) ∧ (b = false → ∃ x, x < n ∧ sndB tm ls fs k x = true ∧ sndB tm ls fs (k + 1) x = true ∧ d x ≠ d' x)) (Q := fun e => ∃ b : Bool, e = some (bI b, σ) ∧ (b = true ↔ ∀ x, x < n → sndB tm ls fs k x = true → sndB tm ls fs (k + 1) x = true → d x = d' x)) (n := q) ?_ ?_ q 0 FU _ (by omega) (by unfold FU; omega) ⟨true, rfl, fun _ t ht => by omega, fun y => by cases y⟩
  · rintro r s hrq ⟨b, rfl, y1, y2⟩ rec
    cases b with
    | false =>
      right
      refine ⟨some (bI false, σ), ⟨false, rfl, ?_⟩, ?_⟩
      · obtain ⟨x, x1, x2, x3, x4⟩ := y2 rfl
        exact ⟨fun y => (by cases y), fun y => absurd (y x x1 x2 x3) x4⟩
      · unfold f_X9_goesOn_L8 f_X9_goesOn_L66
        dsimp only
        simp (disch := first | assumption | omega) only [↓lB_eq, ↓bd_m, ck_tt, gI_pI, gI_pL, gI_pR, gL_pI, gL_pL, gL_pR, gR_pI, gR_pL, rf_0_0, rf_0_1, rf_0_2, rf_0_3, rf_0_4, rf_0_5, rf_0_6, rf_0_7, rf_0_8, rf_0_9, rf_0_10, rf_1_1, rf_1_2, rf_4_0, rf_4_1, rf_4_2, rf_4_3, rf_4_4, rf_4_5, rf_11_0, rf_11_1, rf_12_0, rf_12_1, rf_12_2, rf_12_6, rf_12_7, rf_12_8, rf_13_0, rf_13_1, rf_13_2, rf_13_3, rf_18_0, rf_18_1, rf_18_2, rf_18_3, rf_23_0, rf_23_1, rf_23_2, rf_23_3, rf_31_0, rf_33_0, rf_33_2, rf_33_3, rf_33_4, rf_37_0, rf_39_0, rf_39_1, rf_39_2, rf_39_3, rf_40_0, rf_40_1, rf_40_2, rf_40_3, rf_47_3, rf_49_3, rf_51_3, rf_53_3, rf_55_1, rf_55_7, rf_55_8, rf_55_9, rf_55_11, rf_55_13, rf_55_14, rf_55_15, rf_55_17, rf_55_18, rf_55_19, rf_55_27, rf_55_28, rf_55_29, rf_55_30, rf_55_31, rf_55_32, rf_55_33, rf_55_34, rf_55_35, rf_55_36, rf_55_38, rf_55_44, rf_55_45, rf_55_46, rf_55_47, aL_2, aL_3, aL_5, aL_6, aL_7, aL_8, aL_9, aL_10, aL_14, aL_15, aL_16, aL_17, aL_19, aL_20, aL_21, aL_22, aL_24, aL_25, aL_26, aL_27, aL_28, aL_29, aL_30, aL_32, aL_34, aL_35, aL_36, aL_38, aL_39, aL_40, aL_41, aL_42, aL_43, aL_44, aL_45, aL_46, aL_48, aL_50, aL_52, aL_54, aL_56, aL_57, aL_58, aL_59, aL_60, aL_61, aL_62, aL_63, aL_64, aL_65, aL_66, aL_67, aL_68, aL_69, aL_70, aL_71, aL_72, aL_73, aL_74, aL_75, aL_76, aL_77, aL_78, aL_79, aL_80, aL_81, inb_nI, lit32, nI_clamp, nI_1, nI_add, if_pos, if_neg, b01_0, b01_1, Nat.add_sub_cancel, if_true, if_false, not_true_eq_false, not_false_eq_true, true_and, and_true, false_and, and_false, pk_sub, b01_n0, b01_n1, bI_t, bI_f, ofNat_nI, ck_d, Int32.lt_iff_toInt_lt, Int32.le_iff_toInt_le, i32_eq, nI_toInt, bI_b01, bI_0, decide_eq_true_eq, bI_tt, bI_ff, nI_prd, ↓reduceIte, iltT, iltF, ileT, ileF, ieqT, ieqF, dcT, dcF, or_true, or_false, true_or, false_or, h74, nI_mul]
    | true =>
      obtain ⟨⟨x1, x2, x3, x4, x5⟩, e72, e73⟩ := hX r hrq
      have ec := s_X9_courseIn (σ := σ) (t := cntB (sndB tm ls fs k) (X r)) hW.1 (by omega)
      have ec' := s_X9_courseIn (σ := σ) (t := cntB (sndB tm ls fs (k + 1)) (X r)) hW'.1 (by omega)
      rw [hW.2 (X r) x1 x2] at ec
      rw [hW'.2 (X r) x1 x3] at ec'
      have l1 : d (X r) < 8 := by rw [← hW.2 (X r) x1 x2]; omega
      have l2 : d' (X r) < 8 := by rw [← hW'.2 (X r) x1 x3]; omega
      left
      by_cases he : d (X r) = d' (X r)
      · refine ⟨(bI true, nI (5 * k + (r + 1)), σ), ⟨true, rfl, fun _ t ht => ?_, fun y => by cases y⟩, ?_⟩
        · by_cases e : t = r
          · rw [e]; exact he
          · exact y1 rfl t (by omega)
        · unfold f_X9_goesOn_L8 f_X9_goesOn_L58
          dsimp only
          simp (disch := first | assumption | omega) only [↓lB_eq, ↓bd_m, ck_tt, gI_pI, gI_pL, gI_pR, gL_pI, gL_pL, gL_pR, gR_pI, gR_pL, rf_0_0, rf_0_1, rf_0_2, rf_0_3, rf_0_4, rf_0_5, rf_0_6, rf_0_7, rf_0_8, rf_0_9, rf_0_10, rf_1_1, rf_1_2, rf_4_0, rf_4_1, rf_4_2, rf_4_3, rf_4_4, rf_4_5, rf_11_0, rf_11_1, rf_12_0, rf_12_1, rf_12_2, rf_12_6, rf_12_7, rf_12_8, rf_13_0, rf_13_1, rf_13_2, rf_13_3, rf_18_0, rf_18_1, rf_18_2, rf_18_3, rf_23_0, rf_23_1, rf_23_2, rf_23_3, rf_31_0, rf_33_0, rf_33_2, rf_33_3, rf_33_4, rf_37_0, rf_39_0, rf_39_1, rf_39_2, rf_39_3, rf_40_0, rf_40_1, rf_40_2, rf_40_3, rf_47_3, rf_49_3, rf_51_3, rf_53_3, rf_55_1, rf_55_7, rf_55_8, rf_55_9, rf_55_11, rf_55_13, rf_55_14, rf_55_15, rf_55_17, rf_55_18, rf_55_19, rf_55_27, rf_55_28, rf_55_29, rf_55_30, rf_55_31, rf_55_32, rf_55_33, rf_55_34, rf_55_35, rf_55_36, rf_55_38, rf_55_44, rf_55_45, rf_55_46, rf_55_47, aL_2, aL_3, aL_5, aL_6, aL_7, aL_8, aL_9, aL_10, aL_14, aL_15, aL_16, aL_17, aL_19, aL_20, aL_21, aL_22, aL_24, aL_25, aL_26, aL_27, aL_28, aL_29, aL_30, aL_32, aL_34, aL_35, aL_36, aL_38, aL_39, aL_40, aL_41, aL_42, aL_43, aL_44, aL_45, aL_46, aL_48, aL_50, aL_52, aL_54, aL_56, aL_57, aL_58, aL_59, aL_60, aL_61, aL_62, aL_63, aL_64, aL_65, aL_66, aL_67, aL_68, aL_69, aL_70, aL_71, aL_72, aL_73, aL_74, aL_75, aL_76, aL_77, aL_78, aL_79, aL_80, aL_81, inb_nI, lit32, nI_clamp, nI_1, nI_add, if_pos, if_neg, b01_0, b01_1, Nat.add_sub_cancel, if_true, if_false, not_true_eq_false, not_false_eq_true, true_and, and_true, false_and, and_false, pk_sub, b01_n0, b01_n1, bI_t, bI_f, ofNat_nI, ck_d, Int32.lt_iff_toInt_lt, Int32.le_iff_toInt_le, i32_eq, nI_toInt, bI_b01, bI_0, decide_eq_true_eq, bI_tt, bI_ff, nI_prd, ↓reduceIte, iltT, iltF, ileT, ileF, ieqT, ieqF, dcT, dcF, or_true, or_false, true_or, false_or, h74, nI_mul, e72, e73, ec, ec', he]
          rfl
      · refine ⟨(bI false, nI (5 * k + (r + 1)), σ), ⟨false, rfl, fun y => (by cases y), fun _ => ⟨X r, x1, x2, x3, he⟩⟩, ?_⟩
        unfold f_X9_goesOn_L8 f_X9_goesOn_L58
        dsimp only
        simp (disch := first | assumption | omega) only [↓lB_eq, ↓bd_m, ck_tt, gI_pI, gI_pL, gI_pR, gL_pI, gL_pL, gL_pR, gR_pI, gR_pL, rf_0_0, rf_0_1, rf_0_2, rf_0_3, rf_0_4, rf_0_5, rf_0_6, rf_0_7, rf_0_8, rf_0_9, rf_0_10, rf_1_1, rf_1_2, rf_4_0, rf_4_1, rf_4_2, rf_4_3, rf_4_4, rf_4_5, rf_11_0, rf_11_1, rf_12_0, rf_12_1, rf_12_2, rf_12_6, rf_12_7, rf_12_8, rf_13_0, rf_13_1, rf_13_2, rf_13_3, rf_18_0, rf_18_1, rf_18_2, rf_18_3, rf_23_0, rf_23_1, rf_23_2, rf_23_3, rf_31_0, rf_33_0, rf_33_2, rf_33_3, rf_33_4, rf_37_0, rf_39_0, rf_39_1, rf_39_2, rf_39_3, rf_40_0, rf_40_1, rf_40_2, rf_40_3, rf_47_3, rf_49_3, rf_51_3, rf_53_3, rf_55_1, rf_55_7, rf_55_8, rf_55_9, rf_55_11, rf_55_13, rf_55_14, rf_55_15, rf_55_17, rf_55_18, rf_55_19, rf_55_27, rf_55_28, rf_55_29, rf_55_30, rf_55_31, rf_55_32, rf_55_33, rf_55_34, rf_55_35, rf_55_36, rf_55_38, rf_55_44, rf_55_45, rf_55_46, rf_55_47, aL_2, aL_3, aL_5, aL_6, aL_7, aL_8, aL_9, aL_10, aL_14, aL_15, aL_16, aL_17, aL_19, aL_20, aL_21, aL_22, aL_24, aL_25, aL_26, aL_27, aL_28, aL_29, aL_30, aL_32, aL_34, aL_35, aL_36, aL_38, aL_39, aL_40, aL_41, aL_42, aL_43, aL_44, aL_45, aL_46, aL_48, aL_50, aL_52, aL_54, aL_56, aL_57, aL_58, aL_59, aL_60, aL_61, aL_62, aL_63, aL_64, aL_65, aL_66, aL_67, aL_68, aL_69, aL_70, aL_71, aL_72, aL_73, aL_74, aL_75, aL_76, aL_77, aL_78, aL_79, aL_80, aL_81, inb_nI, lit32, nI_clamp, nI_1, nI_add, if_pos, if_neg, b01_0, b01_1, Nat.add_sub_cancel, if_true, if_false, not_true_eq_false, not_false_eq_true, true_and, and_true, false_and, and_false, pk_sub, b01_n0, b01_n1, bI_t, bI_f, ofNat_nI, ck_d, Int32.lt_iff_toInt_lt, Int32.le_iff_toInt_le, i32_eq, nI_toInt, bI_b01, bI_0, decide_eq_true_eq, bI_tt, bI_ff, nI_prd, ↓reduceIte, iltT, iltF, ileT, ileF, ieqT, ieqF, dcT, dcF, or_true, or_false, true_or, false_or, h74, nI_mul, e72, e73, ec, ec']
        rfl
  · rintro s ⟨b, rfl, y1, y2⟩ rec
    refine ⟨some (bI b, σ), ⟨b, rfl, ?_⟩, ?_⟩
    · constructor
      · intro hb x x1 x2 x3
        have r1 := (cnt_lt (S := sndB tm ls fs k) x2).2 x1
        have r2 := (cnt_lt (S := sndB tm ls fs (k + 1)) x3).2 x1
        obtain ⟨t, t1, t2⟩ := hcm x x1 x2 x3 (by omega) (by omega)
        rw [← t2]; exact y1 hb t t1
      · intro hall
        cases b with
        | true => rfl
        | false =>
          obtain ⟨x, x1, x2, x3, x4⟩ := y2 rfl
          exact absurd (hall x x1 x2 x3) x4
    · unfold f_X9_goesOn_L8 f_X9_goesOn_L66
      dsimp only
      simp (disch := first | assumption | omega) only [↓lB_eq, ↓bd_m, ck_tt, gI_pI, gI_pL, gI_pR, gL_pI, gL_pL, gL_pR, gR_pI, gR_pL, rf_0_0, rf_0_1, rf_0_2, rf_0_3, rf_0_4, rf_0_5, rf_0_6, rf_0_7, rf_0_8, rf_0_9, rf_0_10, rf_1_1, rf_1_2, rf_4_0, rf_4_1, rf_4_2, rf_4_3, rf_4_4, rf_4_5, rf_11_0, rf_11_1, rf_12_0, rf_12_1, rf_12_2, rf_12_6, rf_12_7, rf_12_8, rf_13_0, rf_13_1, rf_13_2, rf_13_3, rf_18_0, rf_18_1, rf_18_2, rf_18_3, rf_23_0, rf_23_1, rf_23_2, rf_23_3, rf_31_0, rf_33_0, rf_33_2, rf_33_3, rf_33_4, rf_37_0, rf_39_0, rf_39_1, rf_39_2, rf_39_3, rf_40_0, rf_40_1, rf_40_2, rf_40_3, rf_47_3, rf_49_3, rf_51_3, rf_53_3, rf_55_1, rf_55_7, rf_55_8, rf_55_9, rf_55_11, rf_55_13, rf_55_14, rf_55_15, rf_55_17, rf_55_18, rf_55_19, rf_55_27, rf_55_28, rf_55_29, rf_55_30, rf_55_31, rf_55_32, rf_55_33, rf_55_34, rf_55_35, rf_55_36, rf_55_38, rf_55_44, rf_55_45, rf_55_46, rf_55_47, aL_2, aL_3, aL_5, aL_6, aL_7, aL_8, aL_9, aL_10, aL_14, aL_15, aL_16, aL_17, aL_19, aL_20, aL_21, aL_22, aL_24, aL_25, aL_26, aL_27, aL_28, aL_29, aL_30, aL_32, aL_34, aL_35, aL_36, aL_38, aL_39, aL_40, aL_41, aL_42, aL_43, aL_44, aL_45, aL_46, aL_48, aL_50, aL_52, aL_54, aL_56, aL_57, aL_58, aL_59, aL_60, aL_61, aL_62, aL_63, aL_64, aL_65, aL_66, aL_67, aL_68, aL_69, aL_70, aL_71, aL_72, aL_73, aL_74, aL_75, aL_76, aL_77, aL_78, aL_79, aL_80, aL_81, inb_nI, lit32, nI_clamp, nI_1, nI_add, if_pos, if_neg, b01_0, b01_1, Nat.add_sub_cancel, if_true, if_false, not_true_eq_false, not_false_eq_true, true_and, and_true, false_and, and_false, pk_sub, b01_n0, b01_n1, bI_t, bI_f, ofNat_nI, ck_d, Int32.lt_iff_toInt_lt, Int32.le_iff_toInt_le, i32_eq, nI_toInt, bI_b01, bI_0, decide_eq_true_eq, bI_tt, bI_ff, nI_prd, ↓reduceIte, iltT, iltF, ileT, ileF, ieqT, ieqF, dcT, dcF, or_true, or_false, true_or, false_or, h74, nI_mul]
