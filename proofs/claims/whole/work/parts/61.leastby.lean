/-! the reference: leastBy -/
section
variable {c n nk : Nat} {o g tm pt ls fs : Nat → Nat} {z : Int} {ban : Nat}
/-- the tables of the chords ahead of k -/
def TbW (σ : Sg) (c n nk : Nat) (o g tm pt ls fs : Nat → Nat) (z : Int) (ban : Nat) (M : Nat → Nat) (DD : Nat → Nat → Nat → Nat) (j : Nat) : Prop := RW σ n o g tm pt ls fs z j (M j) (DD j) ∧ RWP c o g tm pt ls fs z ban j (M j) (DD j) ∧ (j + 1 < nk → Shr σ n tm ls fs j)
/-- what leastBy answers -/
def LB (c nk : Nat) (o g tm pt ls fs : Nat → Nat) (z : Int) (ban : Nat) (v : Int32) : Prop := (∃ V : Nat, v = nI V ∧ V < 1000000 ∧ (∃ d, GoodTo c o g tm pt ls fs z ban nk d ∧ costTo o g tm pt ls fs z nk d = V) ∧ ∀ d, GoodTo c o g tm pt ls fs z ban nk d → V ≤ costTo o g tm pt ls fs z nk d) ∨ (v = -1 ∧ ∀ d, ¬ GoodTo c o g tm pt ls fs z ban nk d)
theorem s_least1 {σ : Sg} {x1 : Int32} (hE : RE σ c n nk o g tm pt ls fs z) (b1 : Bl c o g) (b2 : Bn n tm pt ls) (hC : Ch n tm nk fs) (hz : -12 ≤ z ∧ z ≤ 12) (hx1 : ∀ j : Nat, j < 5 → ((j : Int) = x1.toInt ↔ j = ban)) : ∃ (τ : Sg) (M : Nat → Nat) (DD : Nat → Nat → Nat → Nat), fx (f_X9_leastBy_L11 55 x1) FU (nI 0, σ) = fx (f_X9_leastBy_L53 55) FU (nI nk - 1, τ) ∧ Ag FM (fun _ _ => False) σ τ ∧ ∀ j, j < nk → TbW τ c n nk o g tm pt ls fs z ban M DD j := by
  have hn := b2.1
  have hnk := hC.nk_le
  refine fx_inv2 (I := fun k s => ∃ (τ : Sg) (M : Nat → Nat) (DD : Nat → Nat → Nat → Nat), s = (nI k, τ) ∧ Ag FM (fun _ _ => False) σ τ ∧ ∀ j, j < k → TbW τ c n nk o g tm pt ls fs z ban M DD j) (Q := fun e => ∃ (τ : Sg) (M : Nat → Nat) (DD : Nat → Nat → Nat → Nat), e = fx (f_X9_leastBy_L53 55) FU (nI nk - 1, τ) ∧ Ag FM (fun _ _ => False) σ τ ∧ ∀ j, j < nk → TbW τ c n nk o g tm pt ls fs z ban M DD j) (n := nk) ?_ ?_ nk 0 FU _ (by omega) (by unfold FU; omega) ⟨σ, fun _ => 0, fun _ _ _ => 0, rfl, Ag.rf, fun j hj => by omega⟩
  · rintro k s hk ⟨τ, M, DD, rfl, hA, hT⟩ rec
    have hE1 := hE.ag hA (fun p j y => y)
    have t16 := hE1.2.2.2.2.2.1.1
    obtain ⟨τ1, m, D, e1, a1, w1, w2⟩ := s_X9_findsWays hE1 b1 b2 hC hk hz hx1
    have hE2 := hE1.ag a1 (fun p j y => y.fm)
    have u16 := hE2.2.2.2.2.2.1.1
    have hA1 : Ag FM (fun _ _ => False) σ τ1 := hA.tr (a1.mono (fun p j y => y.fm) (fun _ _ y => y))
    let M' : Nat → Nat := upN M k m
    let DD' : Nat → Nat → Nat → Nat := fun j => if j = k then D else DD j
    have dk : DD' k = D := if_pos rfl
    have dn : ∀ j, j ≠ k → DD' j = DD j := fun j hj => if_neg hj
    have mk : M' k = m := upN_eq
    have mn : ∀ j, j ≠ k → M' j = M j := fun j hj => upN_ne hj
    have old : ∀ j, j < k → TbW τ1 c n nk o g tm pt ls fs z ban M' DD' j := fun j hj => by
      obtain ⟨y1, y2, y3⟩ := hT j hj
      refine ⟨?_, ?_, fun h => (y3 h).ag a1 (fun p i y => by unfold Psh at y; unfold Pw FLy SL; omega)⟩
      · rw [mn j (by omega), dn j (by omega)]
        exact y1.ag a1 (by unfold Pw FLy SL; omega) (fun p i q1 q2 q3 => by unfold Pw FLy SL; omega)
      · rw [mn j (by omega), dn j (by omega)]; exact y2
    left
    by_cases hl : k + 1 < nk
    · obtain ⟨τ2, e2, a2, sh⟩ := s_X9_findsShared hE2 hn hnk hl
      refine ⟨(nI (k + 1), τ2), ⟨τ2, M', DD', rfl, hA1.tr (a2.mono (fun p j y => y.fm) (fun _ _ y => y)), fun j hj => ?_⟩, ?_⟩
      · by_cases e : j = k
        · subst e
          refine ⟨?_, ?_, fun _ => sh⟩
          · rw [mk, dk]
            exact w1.ag a2 (by unfold Psh; omega) (fun p i q1 q2 q3 => by unfold Psh; omega)
          · rw [mk, dk]; exact w2
        · obtain ⟨y1, y2, y3⟩ := old j (by omega)
          exact ⟨y1.ag a2 (by unfold Psh; omega) (fun p i q1 q2 q3 => by unfold Psh; omega), y2, fun h => (y3 h).ag a2 (fun p i y => by unfold Psh at y ⊢; omega)⟩
      · unfold f_X9_leastBy_L11 f_X9_leastBy_L40
        dsimp only
        rw [t16, if_neg (by rw [Int32.le_iff_toInt_le, nI_toInt (by omega), nI_toInt (by omega)]; omega), e1, bd_eq, u16, show nI k + (1 : Int32) = nI (k + 1) from nI_add _ _, if_neg (by rw [Int32.le_iff_toInt_le, nI_toInt (by omega), nI_toInt (by omega)]; omega), e2, bd_eq, lB_eq]
    · refine ⟨(nI (k + 1), τ1), ⟨τ1, M', DD', rfl, hA1, fun j hj => ?_⟩, ?_⟩
      · by_cases e : j = k
        · subst e
          exact ⟨by rw [mk, dk]; exact w1, by rw [mk, dk]; exact w2, fun h => absurd h hl⟩
        · exact old j (by omega)
      · unfold f_X9_leastBy_L11 f_X9_leastBy_L40
        dsimp only
        rw [t16, if_neg (by rw [Int32.le_iff_toInt_le, nI_toInt (by omega), nI_toInt (by omega)]; omega), e1, bd_eq, u16, show nI k + (1 : Int32) = nI (k + 1) from nI_add _ _, if_pos (by rw [Int32.le_iff_toInt_le, nI_toInt (by omega), nI_toInt (by omega)]; omega), lB_eq]
  · rintro s ⟨τ, M, DD, rfl, hA, hT⟩ rec
    have hE1 := hE.ag hA (fun p j y => y)
    have t16 := hE1.2.2.2.2.2.1.1
    refine ⟨fx (f_X9_leastBy_L53 55) FU (nI nk - 1, τ), ⟨τ, M, DD, rfl, hA, hT⟩, ?_⟩
    unfold f_X9_leastBy_L11
    dsimp only
    rw [t16, if_pos (by rw [Int32.le_iff_toInt_le]; exact Int.le_refl _), lB_eq]
/-- the state's end of leastBy -/
def lbE (τ : Sg) : Option (Int32 × Sg) := if gI (pI τ 55 20 0) 55 16 = 0 then f_X9_leastBy_L86 55 0 (pI τ 55 20 0) else f_X9_leastBy_L86 55 1000000 (pI τ 55 20 0)
theorem s_least2 {σ : Sg} {M : Nat → Nat} {DD : Nat → Nat → Nat → Nat} (hE : RE σ c n nk o g tm pt ls fs z) (b1 : Bl c o g) (b2 : Bn n tm pt ls) (hC : Ch n tm nk fs) (hT : ∀ j, j < nk → TbW σ c n nk o g tm pt ls fs z ban M DD j) : ∃ τ, fx (f_X9_leastBy_L53 55) FU (nI nk - 1, σ) = lbE τ ∧ Ag FM (fun _ _ => False) σ τ ∧ (∀ j, j < nk → TbW τ c n nk o g tm pt ls fs z ban M DD j) ∧ ∀ j, j < nk → RsT τ c o g tm pt ls fs z ban nk j (M j) (DD j) := by
  have hn := b2.1
  have hnk := hC.nk_le
  refine fx_inv2 (I := fun r s => ∃ (τ : Sg) (x : Int32), s = (x, τ) ∧ x.toInt = (nk : Int) - 1 - (r : Int) ∧ Ag FM (fun _ _ => False) σ τ ∧ (∀ j, j < nk → TbW τ c n nk o g tm pt ls fs z ban M DD j) ∧ ∀ j, j < nk → nk ≤ j + r → RsT τ c o g tm pt ls fs z ban nk j (M j) (DD j)) (Q := fun e => ∃ τ, e = lbE τ ∧ Ag FM (fun _ _ => False) σ τ ∧ (∀ j, j < nk → TbW τ c n nk o g tm pt ls fs z ban M DD j) ∧ ∀ j, j < nk → RsT τ c o g tm pt ls fs z ban nk j (M j) (DD j)) (n := nk) ?_ ?_ nk 0 FU _ (by omega) (by unfold FU; omega) ⟨σ, nI nk - 1, rfl, ?_, Ag.rf, hT, fun j _ h => by omega⟩
  · rintro r s hrn ⟨τ, x, rfl, hx, hA, hT', hR⟩ rec
    obtain ⟨k, hk⟩ : ∃ k, k = nk - 1 - r := ⟨_, rfl⟩
    have hkr : k + r + 1 = nk := by omega
    have ex : x = nI k := by rw [i32_nI (x := x) (by omega)]; congr 1; omega
    subst ex
    have hE1 := hE.ag hA (fun p j y => y)
    obtain ⟨w1, w2, w3⟩ := hT' k (by omega)
    obtain ⟨τ1, e1, a1, r1⟩ := s_X9_findsRest hE1 b1 b2 hC (show k < nk by omega) w1 w2 (fun h => ⟨w3 h, M (k + 1), DD (k + 1), (hT' (k + 1) h).1, (hT' (k + 1) h).2.1, hR (k + 1) h (by omega)⟩)
    left
    refine ⟨(nI k - nI 1, τ1), ⟨τ1, nI k - nI 1, rfl, by rw [nI_prd (by omega)]; omega, hA.tr (a1.mono (fun p j y => y.fm) (fun _ _ y => y)), fun j hj => ?_, fun j hj h => ?_⟩, ?_⟩
    · obtain ⟨y1, y2, y3⟩ := hT' j hj
      exact ⟨y1.ag a1 (by unfold Prs; omega) (fun p i q1 q2 q3 => by unfold Prs; omega), y2, fun h => (y3 h).ag a1 (fun p i y => by unfold Psh at y; unfold Prs; omega)⟩
    · by_cases e : j = k
      · subst e; exact r1
      · obtain ⟨R, hR'⟩ := hR j hj (by omega)
        have hm := (hT' j hj).1.2.1
        exact ⟨R, fun b hb => ⟨(a1.2.1 71 _ (by unfold Prs; omega)).trans (hR' b hb).1, (hR' b hb).2⟩⟩
    · unfold f_X9_leastBy_L53
      dsimp only
      rw [if_neg (by rw [Int32.lt_iff_toInt_lt, nI_toInt (by omega)]; have : (0 : Int32).toInt = 0 := rfl; omega), e1, bd_eq, lB_eq, show nI k + (-1 : Int32) = nI k - nI 1 from (Int32.sub_eq_add_neg ..).symm]
  · rintro s ⟨τ, x, rfl, hx, hA, hT', hR⟩ rec
    refine ⟨lbE τ, ⟨τ, rfl, hA, hT', fun j hj => hR j hj (by omega)⟩, ?_⟩
    unfold f_X9_leastBy_L53 lbE
    dsimp only
    rw [if_pos (by rw [Int32.lt_iff_toInt_lt]; have : (0 : Int32).toInt = 0 := rfl; omega), lB_eq]
  · rw [show (1 : Int32) = nI 1 from rfl, nI_prd (by omega)]; omega
theorem cmp0 {d : Nat → Nat} (h0 : 0 < nk) (hC : Ch n tm nk fs) : costTo o g tm pt ls fs z nk d = ownK o g tm pt ls fs z 0 d + cF o g tm pt ls fs z d (nk - 1 - 0) (0 + 1) := by
  have h := cF_to (o := o) (g := g) (tm := tm) (pt := pt) (ls := ls) (fs := fs) (z := z) (d := d) nk 0
  rw [Nat.zero_add] at h
  rw [h, show nk = (nk - 1 - 0) + 1 by omega]
  show 0 + ((ownK o g tm pt ls fs z 0 d + shK g (prevL o tm pt ls fs z d 0) (lowK o tm pt ls fs z 0 d)) + cF o g tm pt ls fs z d (nk - 1 - 0) (0 + 1)) = _
  have hs : shK g (prevL o tm pt ls fs z d 0) (lowK o tm pt ls fs z 0 d) = 0 := if_neg (fun q => by have : (0 : Int) < 0 := q.1; omega)
  rw [hs, show (nk - 1 - 0) + 1 - 1 - 0 = nk - 1 - 0 by omega]
  omega
theorem s_least3 {τ : Sg} {M : Nat → Nat} {DD : Nat → Nat → Nat → Nat} (hE : RE τ c n nk o g tm pt ls fs z) (b1 : Bl c o g) (b2 : Bn n tm pt ls) (hC : Ch n tm nk fs) (hT : ∀ j, j < nk → TbW τ c n nk o g tm pt ls fs z ban M DD j) (hR : ∀ j, j < nk → RsT τ c o g tm pt ls fs z ban nk j (M j) (DD j)) : ∃ v, lbE τ = some (v, pI τ 55 20 0) ∧ LB c nk o g tm pt ls fs z ban v := by
  have hn := b2.1
  have hnk := hC.nk_le
  have hr : RefI (pI τ 55 20 0) := hE.1
  have t16 : gI (pI τ 55 20 0) 55 16 = nI nk := by rw [gI_pI, if_neg (by omega)]; exact hE.2.2.2.2.2.1.1
  have hF : ∀ p k, ¬ (p = 55 ∧ k = 20) → gI (pI τ 55 20 0) p k = gI τ p k := fun p k y => by rw [gI_pI, if_neg y]
  unfold lbE
  rw [t16]
  generalize pI τ 55 20 0 = ξ at hr t16 hF ⊢
  by_cases h0 : nk = 0
  · subst h0
    refine ⟨nI 0, ?_, Or.inl ⟨0, rfl, by omega, ⟨fun _ => 0, fun j hj => by omega, rfl⟩, fun d _ => Nat.zero_le _⟩⟩
    rw [if_pos (show nI 0 = (0 : Int32) from rfl)]
    unfold f_X9_leastBy_L86
    refine fx_for0 (fun _ => (nI 0, nI 0)) rfl (n := 0) (fun i hi rec => by omega) (fun rec => ?_) (by unfold FU; omega)
    unfold f_X9_leastBy_L90 f_X9_leastBy_L137 f_X9_leastBy_L148
    dsimp only
    simp (disch := first | assumption | omega) only [↓lB_eq, ↓bd_m, ck_tt, gI_pI, gI_pL, gI_pR, gL_pI, gL_pL, gL_pR, gR_pI, gR_pL, rf_0_0, rf_0_1, rf_0_2, rf_0_3, rf_0_4, rf_0_5, rf_0_6, rf_0_7, rf_0_8, rf_0_9, rf_0_10, rf_1_1, rf_1_2, rf_4_0, rf_4_1, rf_4_2, rf_4_3, rf_4_4, rf_4_5, rf_11_0, rf_11_1, rf_12_0, rf_12_1, rf_12_2, rf_12_6, rf_12_7, rf_12_8, rf_13_0, rf_13_1, rf_13_2, rf_13_3, rf_18_0, rf_18_1, rf_18_2, rf_18_3, rf_23_0, rf_23_1, rf_23_2, rf_23_3, rf_31_0, rf_33_0, rf_33_2, rf_33_3, rf_33_4, rf_37_0, rf_39_0, rf_39_1, rf_39_2, rf_39_3, rf_40_0, rf_40_1, rf_40_2, rf_40_3, rf_47_3, rf_49_3, rf_51_3, rf_53_3, rf_55_1, rf_55_7, rf_55_8, rf_55_9, rf_55_11, rf_55_13, rf_55_14, rf_55_15, rf_55_17, rf_55_18, rf_55_19, rf_55_27, rf_55_28, rf_55_29, rf_55_30, rf_55_31, rf_55_32, rf_55_33, rf_55_34, rf_55_35, rf_55_36, rf_55_38, rf_55_44, rf_55_45, rf_55_46, rf_55_47, aL_2, aL_3, aL_5, aL_6, aL_7, aL_8, aL_9, aL_10, aL_14, aL_15, aL_16, aL_17, aL_19, aL_20, aL_21, aL_22, aL_24, aL_25, aL_26, aL_27, aL_28, aL_29, aL_30, aL_32, aL_34, aL_35, aL_36, aL_38, aL_39, aL_40, aL_41, aL_42, aL_43, aL_44, aL_45, aL_46, aL_48, aL_50, aL_52, aL_54, aL_56, aL_57, aL_58, aL_59, aL_60, aL_61, aL_62, aL_63, aL_64, aL_65, aL_66, aL_67, aL_68, aL_69, aL_70, aL_71, aL_72, aL_73, aL_74, aL_75, aL_76, aL_77, aL_78, aL_79, aL_80, aL_81, inb_nI, lit32, nI_clamp, nI_1, nI_add, if_pos, if_neg, b01_0, b01_1, Nat.add_sub_cancel, if_true, if_false, not_true_eq_false, not_false_eq_true, true_and, and_true, false_and, and_false, pk_sub, b01_n0, b01_n1, bI_t, bI_f, ofNat_nI, ck_d, Int32.lt_iff_toInt_lt, Int32.le_iff_toInt_le, i32_eq, nI_toInt, bI_b01, bI_0, decide_eq_true_eq, bI_tt, bI_ff, nI_prd, ↓reduceIte, iltT, iltF, ileT, ileF, ieqT, ieqF, dcT, dcF, or_true, or_false, true_or, false_or, t16]
  · rw [if_neg (show ¬ nI nk = (0 : Int32) from fun y => h0 ((nI_eq (b := 0) (by omega) (by omega)).1 y))]
    obtain ⟨w1, w2, _⟩ := hT 0 (by omega)
    obtain ⟨R, hR0⟩ := hR 0 (by omega)
    have hm := w1.2.1
    have t68 : gI ξ 68 0 = nI (M 0) := (hF 68 0 (by omega)).trans w1.1
    have t71 : ∀ a, a < M 0 → gI ξ 71 a = nI (R a) := fun a ha => by
      have h := (hR0 a ha).1
      rw [Nat.mul_zero, Nat.zero_add] at h
      exact (hF 71 a (by omega)).trans h
    have loop : ∃ L, (∀ a, a < M 0 → L ≤ R a) ∧ (L = 1000000 ∨ (L < 1000000 ∧ ∃ a, a < M 0 ∧ R a = L)) ∧ fx (f_X9_leastBy_L90 55 ξ) FU (nI 1000000, nI 0) = f_X9_leastBy_L137 (nI L) ξ := by
      refine fx_inv2 (I := fun a s => ∃ L, s = (nI L, nI a) ∧ (∀ b, b < a → L ≤ R b) ∧ (L = 1000000 ∨ (L < 1000000 ∧ ∃ b, b < a ∧ R b = L))) (Q := fun e => ∃ L, (∀ a, a < M 0 → L ≤ R a) ∧ (L = 1000000 ∨ (L < 1000000 ∧ ∃ a, a < M 0 ∧ R a = L)) ∧ e = f_X9_leastBy_L137 (nI L) ξ) (n := M 0) ?_ ?_ (M 0) 0 FU _ (by omega) (by unfold FU; omega) ⟨1000000, rfl, fun b hb => by omega, Or.inl rfl⟩
      · rintro a s ha ⟨L, rfl, y1, y2⟩ rec
        have e71 := t71 a ha
        have hRb := (hR0 a ha).2.le
        have hLb : L ≤ 1000000 := by rcases y2 with y2 | ⟨y2, _⟩ <;> omega
        left
        by_cases q : L ≤ R a
        · refine ⟨(nI L, nI (a + 1)), ⟨L, rfl, fun b hb => ?_, ?_⟩, ?_⟩
          · by_cases e : b = a
            · rw [e]; exact q
            · exact y1 b (by omega)
          · rcases y2 with y2 | ⟨y2, b, y3, y4⟩
            · exact Or.inl y2
            · exact Or.inr ⟨y2, b, by omega, y4⟩
          · unfold f_X9_leastBy_L90 f_X9_leastBy_L130
            dsimp only
            simp (disch := first | assumption | omega) only [↓lB_eq, ↓bd_m, ck_tt, gI_pI, gI_pL, gI_pR, gL_pI, gL_pL, gL_pR, gR_pI, gR_pL, rf_0_0, rf_0_1, rf_0_2, rf_0_3, rf_0_4, rf_0_5, rf_0_6, rf_0_7, rf_0_8, rf_0_9, rf_0_10, rf_1_1, rf_1_2, rf_4_0, rf_4_1, rf_4_2, rf_4_3, rf_4_4, rf_4_5, rf_11_0, rf_11_1, rf_12_0, rf_12_1, rf_12_2, rf_12_6, rf_12_7, rf_12_8, rf_13_0, rf_13_1, rf_13_2, rf_13_3, rf_18_0, rf_18_1, rf_18_2, rf_18_3, rf_23_0, rf_23_1, rf_23_2, rf_23_3, rf_31_0, rf_33_0, rf_33_2, rf_33_3, rf_33_4, rf_37_0, rf_39_0, rf_39_1, rf_39_2, rf_39_3, rf_40_0, rf_40_1, rf_40_2, rf_40_3, rf_47_3, rf_49_3, rf_51_3, rf_53_3, rf_55_1, rf_55_7, rf_55_8, rf_55_9, rf_55_11, rf_55_13, rf_55_14, rf_55_15, rf_55_17, rf_55_18, rf_55_19, rf_55_27, rf_55_28, rf_55_29, rf_55_30, rf_55_31, rf_55_32, rf_55_33, rf_55_34, rf_55_35, rf_55_36, rf_55_38, rf_55_44, rf_55_45, rf_55_46, rf_55_47, aL_2, aL_3, aL_5, aL_6, aL_7, aL_8, aL_9, aL_10, aL_14, aL_15, aL_16, aL_17, aL_19, aL_20, aL_21, aL_22, aL_24, aL_25, aL_26, aL_27, aL_28, aL_29, aL_30, aL_32, aL_34, aL_35, aL_36, aL_38, aL_39, aL_40, aL_41, aL_42, aL_43, aL_44, aL_45, aL_46, aL_48, aL_50, aL_52, aL_54, aL_56, aL_57, aL_58, aL_59, aL_60, aL_61, aL_62, aL_63, aL_64, aL_65, aL_66, aL_67, aL_68, aL_69, aL_70, aL_71, aL_72, aL_73, aL_74, aL_75, aL_76, aL_77, aL_78, aL_79, aL_80, aL_81, inb_nI, lit32, nI_clamp, nI_1, nI_add, if_pos, if_neg, b01_0, b01_1, Nat.add_sub_cancel, if_true, if_false, not_true_eq_false, not_false_eq_true, true_and, and_true, false_and, and_false, pk_sub, b01_n0, b01_n1, bI_t, bI_f, ofNat_nI, ck_d, Int32.lt_iff_toInt_lt, Int32.le_iff_toInt_le, i32_eq, nI_toInt, bI_b01, bI_0, decide_eq_true_eq, bI_tt, bI_ff, nI_prd, ↓reduceIte, iltT, iltF, ileT, ileF, ieqT, ieqF, dcT, dcF, or_true, or_false, true_or, false_or, t16, t68, e71]
        · refine ⟨(nI (R a), nI (a + 1)), ⟨R a, rfl, fun b hb => ?_, Or.inr ⟨by omega, a, by omega, rfl⟩⟩, ?_⟩
          · by_cases e : b = a
            · rw [e]; exact Nat.le_refl _
            · have := y1 b (by omega); omega
          · unfold f_X9_leastBy_L90 f_X9_leastBy_L130
            dsimp only
            simp (disch := first | assumption | omega) only [↓lB_eq, ↓bd_m, ck_tt, gI_pI, gI_pL, gI_pR, gL_pI, gL_pL, gL_pR, gR_pI, gR_pL, rf_0_0, rf_0_1, rf_0_2, rf_0_3, rf_0_4, rf_0_5, rf_0_6, rf_0_7, rf_0_8, rf_0_9, rf_0_10, rf_1_1, rf_1_2, rf_4_0, rf_4_1, rf_4_2, rf_4_3, rf_4_4, rf_4_5, rf_11_0, rf_11_1, rf_12_0, rf_12_1, rf_12_2, rf_12_6, rf_12_7, rf_12_8, rf_13_0, rf_13_1, rf_13_2, rf_13_3, rf_18_0, rf_18_1, rf_18_2, rf_18_3, rf_23_0, rf_23_1, rf_23_2, rf_23_3, rf_31_0, rf_33_0, rf_33_2, rf_33_3, rf_33_4, rf_37_0, rf_39_0, rf_39_1, rf_39_2, rf_39_3, rf_40_0, rf_40_1, rf_40_2, rf_40_3, rf_47_3, rf_49_3, rf_51_3, rf_53_3, rf_55_1, rf_55_7, rf_55_8, rf_55_9, rf_55_11, rf_55_13, rf_55_14, rf_55_15, rf_55_17, rf_55_18, rf_55_19, rf_55_27, rf_55_28, rf_55_29, rf_55_30, rf_55_31, rf_55_32, rf_55_33, rf_55_34, rf_55_35, rf_55_36, rf_55_38, rf_55_44, rf_55_45, rf_55_46, rf_55_47, aL_2, aL_3, aL_5, aL_6, aL_7, aL_8, aL_9, aL_10, aL_14, aL_15, aL_16, aL_17, aL_19, aL_20, aL_21, aL_22, aL_24, aL_25, aL_26, aL_27, aL_28, aL_29, aL_30, aL_32, aL_34, aL_35, aL_36, aL_38, aL_39, aL_40, aL_41, aL_42, aL_43, aL_44, aL_45, aL_46, aL_48, aL_50, aL_52, aL_54, aL_56, aL_57, aL_58, aL_59, aL_60, aL_61, aL_62, aL_63, aL_64, aL_65, aL_66, aL_67, aL_68, aL_69, aL_70, aL_71, aL_72, aL_73, aL_74, aL_75, aL_76, aL_77, aL_78, aL_79, aL_80, aL_81, inb_nI, lit32, nI_clamp, nI_1, nI_add, if_pos, if_neg, b01_0, b01_1, Nat.add_sub_cancel, if_true, if_false, not_true_eq_false, not_false_eq_true, true_and, and_true, false_and, and_false, pk_sub, b01_n0, b01_n1, bI_t, bI_f, ofNat_nI, ck_d, Int32.lt_iff_toInt_lt, Int32.le_iff_toInt_le, i32_eq, nI_toInt, bI_b01, bI_0, decide_eq_true_eq, bI_tt, bI_ff, nI_prd, ↓reduceIte, iltT, iltF, ileT, ileF, ieqT, ieqF, dcT, dcF, or_true, or_false, true_or, false_or, t16, t68, e71]
      · rintro s ⟨L, rfl, y1, y2⟩ rec
        refine ⟨f_X9_leastBy_L137 (nI L) ξ, ⟨L, y1, y2, rfl⟩, ?_⟩
        unfold f_X9_leastBy_L90
        dsimp only
        simp (disch := first | assumption | omega) only [↓lB_eq, ↓bd_m, ck_tt, gI_pI, gI_pL, gI_pR, gL_pI, gL_pL, gL_pR, gR_pI, gR_pL, rf_0_0, rf_0_1, rf_0_2, rf_0_3, rf_0_4, rf_0_5, rf_0_6, rf_0_7, rf_0_8, rf_0_9, rf_0_10, rf_1_1, rf_1_2, rf_4_0, rf_4_1, rf_4_2, rf_4_3, rf_4_4, rf_4_5, rf_11_0, rf_11_1, rf_12_0, rf_12_1, rf_12_2, rf_12_6, rf_12_7, rf_12_8, rf_13_0, rf_13_1, rf_13_2, rf_13_3, rf_18_0, rf_18_1, rf_18_2, rf_18_3, rf_23_0, rf_23_1, rf_23_2, rf_23_3, rf_31_0, rf_33_0, rf_33_2, rf_33_3, rf_33_4, rf_37_0, rf_39_0, rf_39_1, rf_39_2, rf_39_3, rf_40_0, rf_40_1, rf_40_2, rf_40_3, rf_47_3, rf_49_3, rf_51_3, rf_53_3, rf_55_1, rf_55_7, rf_55_8, rf_55_9, rf_55_11, rf_55_13, rf_55_14, rf_55_15, rf_55_17, rf_55_18, rf_55_19, rf_55_27, rf_55_28, rf_55_29, rf_55_30, rf_55_31, rf_55_32, rf_55_33, rf_55_34, rf_55_35, rf_55_36, rf_55_38, rf_55_44, rf_55_45, rf_55_46, rf_55_47, aL_2, aL_3, aL_5, aL_6, aL_7, aL_8, aL_9, aL_10, aL_14, aL_15, aL_16, aL_17, aL_19, aL_20, aL_21, aL_22, aL_24, aL_25, aL_26, aL_27, aL_28, aL_29, aL_30, aL_32, aL_34, aL_35, aL_36, aL_38, aL_39, aL_40, aL_41, aL_42, aL_43, aL_44, aL_45, aL_46, aL_48, aL_50, aL_52, aL_54, aL_56, aL_57, aL_58, aL_59, aL_60, aL_61, aL_62, aL_63, aL_64, aL_65, aL_66, aL_67, aL_68, aL_69, aL_70, aL_71, aL_72, aL_73, aL_74, aL_75, aL_76, aL_77, aL_78, aL_79, aL_80, aL_81, inb_nI, lit32, nI_clamp, nI_1, nI_add, if_pos, if_neg, b01_0, b01_1, Nat.add_sub_cancel, if_true, if_false, not_true_eq_false, not_false_eq_true, true_and, and_true, false_and, and_false, pk_sub, b01_n0, b01_n1, bI_t, bI_f, ofNat_nI, ck_d, Int32.lt_iff_toInt_lt, Int32.le_iff_toInt_le, i32_eq, nI_toInt, bI_b01, bI_0, decide_eq_true_eq, bI_tt, bI_ff, nI_prd, ↓reduceIte, iltT, iltF, ileT, ileF, ieqT, ieqF, dcT, dcF, or_true, or_false, true_or, false_or, t16, t68]
    obtain ⟨L, y1, y2, e1⟩ := loop
    have hLb : L ≤ 1000000 := by rcases y2 with y2 | ⟨y2, _⟩ <;> omega
    have low : ∀ d, GoodTo c o g tm pt ls fs z ban nk d → L < 1000000 ∧ L ≤ costTo o g tm pt ls fs z nk d := fun d hd => by
      obtain ⟨a, ha, hl⟩ := w2.2.1 d (hd 0 (by omega))
      have hc : Cmp c o g tm pt ls fs z ban nk 0 (DD 0 a) (ownK o g tm pt ls fs z 0 (DD 0 a) + cF o g tm pt ls fs z d (nk - 1 - 0) (0 + 1)) := ⟨d, fun i hs => (hl i hs).symm, fun j _ hj => hd j hj, rfl⟩
      rw [ownK_cg (d' := d) hl, ← cmp0 (by omega) hC] at hc
      have h1 := y1 a ha
      rcases (hR0 a ha).2 with ⟨_, r2⟩ | ⟨r1, r2, r3⟩
      · exact absurd hc (r2 _)
      · have := r3 _ hc
        omega
    by_cases q : L < 1000000
    · refine ⟨nI L, ?_, Or.inl ⟨L, rfl, q, ?_, fun d hd => (low d hd).2⟩⟩
      · unfold f_X9_leastBy_L86
        rw [show (1000000 : Int32) = nI 1000000 from rfl, show (0 : Int32) = nI 0 from rfl]
        refine e1.trans ?_
        unfold f_X9_leastBy_L137 f_X9_leastBy_L148
        rw [if_pos (by rw [Int32.lt_iff_toInt_lt, nI_toInt (by omega)]; have : (1000000 : Int32).toInt = 1000000 := rfl; omega)]
      · rcases y2 with y2 | ⟨_, a, ha, e⟩
        · omega
        · rcases (hR0 a ha).2 with ⟨r1, _⟩ | ⟨r1, ⟨d, d1, d2, d3⟩, r3⟩
          · omega
          · refine ⟨d, fun j hj => d2 j (by omega) hj, ?_⟩
            rw [cmp0 (by omega) hC, ownK_cg (d' := DD 0 a) d1, ← d3]; exact e
    · refine ⟨-1, ?_, Or.inr ⟨rfl, fun d hd => q (low d hd).1⟩⟩
      unfold f_X9_leastBy_L86
      rw [show (1000000 : Int32) = nI 1000000 from rfl, show (0 : Int32) = nI 0 from rfl]
      refine e1.trans ?_
      unfold f_X9_leastBy_L137 f_X9_leastBy_L148
      rw [if_neg (by rw [Int32.lt_iff_toInt_lt, nI_toInt (by omega)]; have : (1000000 : Int32).toInt = 1000000 := rfl; omega)]
theorem s_X9_leastBy {σ : Sg} {x1 x2 : Int32} (hr : RefI σ) (b1 : Bl c o g) (b2 : Bn n tm pt ls) (p1 : P1 σ c o g) (p2 : P2 σ n tm pt ls) (hC : Ch n tm nk fs) (h20 : gI σ 55 20 = nI 0) (hz : -12 ≤ z ∧ z ≤ 12) (hx2 : x2.toInt = z) (hx1 : ∀ j : Nat, j < 5 → ((j : Int) = x1.toInt ↔ j = ban)) : ∃ (v : Int32) (τ : Sg) (M : Nat → Nat) (DD : Nat → Nat → Nat → Nat), f_X9_leastBy 55 x1 x2 σ = some (v, τ) ∧ Ag (fun p k => SR p k ∨ FM p k) (fun _ _ => False) σ τ ∧ LB c nk o g tm pt ls fs z ban v ∧ RC τ n tm ls nk fs ∧ (∀ j, j < nk → TbW τ c n nk o g tm pt ls fs z ban M DD j) ∧ ∀ j, j < nk → RsT τ c o g tm pt ls fs z ban nk j (M j) (DD j) := by
  obtain ⟨σ1, e1, a1, rc1⟩ := s_X9_findsChords hr p2.m b2 hC
  have hE : RE (pI σ1 55 20 x2) c n nk o g tm pt ls fs z := by
    refine ⟨a1.ref hr, ?_, fun j hj => ?_, fun j hj => ?_, ⟨?_, fun i hi => ?_⟩, ⟨?_, fun k hk => ?_, fun k hk => ?_, fun k hk i hi hs => ?_⟩, ?_⟩
    · rw [gI_pI, if_neg (by omega)]; exact (a1.2.1 55 0 (by unfold SR; omega)).trans p1.2.1
    · rw [gI_pI, if_neg (by omega)]; exact (a1.2.1 56 j (by unfold SR; omega)).trans (p1.2.2.1 j hj).2
    · rw [gI_pI, if_neg (by omega)]; exact (a1.2.1 55 (j + 2) (by unfold SR; omega)).trans (p1.2.2.2 j hj).2
    · rw [gI_pI, if_neg (by omega)]; exact (a1.2.1 55 10 (by unfold SR; omega)).trans p2.2.1
    · obtain ⟨_, _, _, y1, y2, y3⟩ := p2.2.2 i hi
      rw [gI_pI, if_neg (by omega), gI_pI, if_neg (by omega), gI_pI, if_neg (by omega)]
      exact ⟨(a1.2.1 57 i (by unfold SR; omega)).trans y1, (a1.2.1 58 i (by unfold SR; omega)).trans y2, (a1.2.1 59 i (by unfold SR; omega)).trans y3⟩
    · rw [gI_pI, if_neg (by omega)]; exact rc1.1
    · rw [gI_pI, if_neg (by omega)]; exact rc1.2.1 k hk
    · rw [gI_pI, if_neg (by omega)]; exact rc1.2.2.1 k hk
    · rw [gI_pI, if_neg (by omega)]; exact rc1.2.2.2 k hk i hi hs
    · rw [gI_pI, if_pos ⟨rfl, rfl⟩]; exact hx2
  obtain ⟨τ1, M, DD, e2, a2, hT⟩ := s_least1 (x1 := x1) hE b1 b2 hC hz hx1
  have hE1 := hE.ag a2 (fun p j y => y)
  obtain ⟨τ2, e3, a3, hT2, hR2⟩ := s_least2 hE1 b1 b2 hC hT
  have hE2 := hE1.ag a3 (fun p j y => y)
  obtain ⟨v, e4, hv⟩ := s_least3 hE2 b1 b2 hC hT2 hR2
  have hA0 : Ag (fun p k => p = 55 ∧ k = 20) (fun _ _ => False) τ2 (pI τ2 55 20 0) := Ag.rf.pI ⟨rfl, rfl⟩
  refine ⟨v, pI τ2 55 20 0, M, DD, ?_, ?_, hv, hE2.2.2.2.2.2.1.ag hA0 (fun p k y x => by unfold SR at y; omega), fun j hj => ?_, fun j hj => ?_⟩
  · unfold f_X9_leastBy
    rw [e1, bd_eq, lB_eq]
    exact (e2.trans e3).trans e4
  · have hA3 := a2.tr a3
    refine ⟨(hA3.1).trans a1.1, fun p k y => ?_, fun p k _ => ?_, fun p k => ?_⟩
    · rw [gI_pI]
      by_cases q : p = 55 ∧ k = 20
      · obtain ⟨rfl, rfl⟩ := q
        rw [if_pos ⟨rfl, rfl⟩, h20]; rfl
      · rw [if_neg q, hA3.2.1 p k (fun x => y (Or.inr x)), gI_pI, if_neg q]
        exact a1.2.1 p k (fun x => y (Or.inl x))
    · rw [gL_pI, hA3.2.2.1 p k id, gL_pI]; exact a1.2.2.1 p k id
    · rw [gR_pI, hA3.2.2.2 p k, gR_pI]; exact a1.2.2.2 p k
  · obtain ⟨y1, y2, y3⟩ := hT2 j hj
    exact ⟨y1.ag hA0 (by omega) (fun p i q1 q2 q3 => by omega), y2, fun h => (y3 h).ag hA0 (fun p i y => by unfold Psh at y; omega)⟩
  · obtain ⟨R, hR⟩ := hR2 j hj
    exact ⟨R, fun b hb => ⟨by rw [gI_pI, if_neg (by omega)]; exact (hR b hb).1, (hR b hb).2⟩⟩
end
