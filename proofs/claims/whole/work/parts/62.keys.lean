/-! the class's answers, kept; both give the same -/
/-- nothing that is told has changed: scratch and the kept answers alone -/
def FrD (σ τ : Sg) : Prop := (∀ p k, ¬ (Sc p k ∨ p = 30) → gI τ p k = gI σ p k) ∧ (∀ p k, ¬ (ScL p k ∨ p = 29) → gL τ p k = gL σ p k) ∧ RefI τ
theorem FrD.rf {σ : Sg} (h : RefI σ) : FrD σ σ := ⟨fun _ _ _ => rfl, fun _ _ _ => rfl, h⟩
theorem FrD.tr {σ τ υ : Sg} (h : FrD σ τ) (q : FrD τ υ) : FrD σ υ := ⟨fun p k y => (q.1 p k y).trans (h.1 p k y), fun p k y => (q.2.1 p k y).trans (h.2.1 p k y), q.2.2⟩
theorem FrS.d {σ τ : Sg} (h : FrS σ τ) : FrD σ τ := ⟨fun p k y => h.1 p k (fun x => y (Or.inl (by unfold Sc; omega))), fun p k y => h.2.1 p k (fun x => y (Or.inl x)), h.2.2⟩
theorem FrD.ag {P PL : Nat → Nat → Prop} {σ τ : Sg} (hr : RefI σ) (q : Ag P PL σ τ) (h1 : ∀ p k, P p k → Sc p k) (h2 : ∀ p k, PL p k → ScL p k) : FrD σ τ := ⟨fun p k y => q.2.1 p k (fun x => y (Or.inl (h1 p k x))), fun p k y => q.2.2.1 p k (fun x => y (Or.inl (h2 p k x))), q.ref hr⟩
/-- what is told, with its numbers -/
def EnvS (σ : Sg) (c n nk t : Nat) (o g tm pt ls fs d tb : Nat → Nat) (il : Bool) : Prop := RefI σ ∧ Bl c o g ∧ Bn n tm pt ls ∧ P1 σ c o g ∧ P2 σ n tm pt ls ∧ P3 σ n tm ls nk fs ∧ P4 σ c n il d ∧ P6 σ t tb ∧ P8 σ ∧ P9 σ c o g tm pt ls nk fs
section
variable {c n nk t : Nat} {o g tm pt ls fs d tb : Nat → Nat} {il : Bool}
theorem EnvS.fr {σ τ : Sg} (h : EnvS σ c n nk t o g tm pt ls fs d tb il) (q : FrD σ τ) (p9 : P9 τ c o g tm pt ls nk fs) : EnvS τ c n nk t o g tm pt ls fs d tb il := by
  obtain ⟨hr, b1, b2, p1, p2, p3, p4, p6, p8, _⟩ := h
  exact ⟨q.2.2, b1, b2, p1.fr (fun p k y => q.1 p k (by unfold S1 at y; unfold Sc; omega)), p2.fr (fun p k y => q.1 p k (by unfold S2 at y; unfold Sc; omega)), p3.fr (fun p k y => q.1 p k (by unfold S3 at y; unfold Sc; omega)), p4.fr (fun p k y => q.1 p k (by unfold S4 at y; unfold Sc; omega)), p6.fr (fun p k y => q.1 p k (by unfold S6 at y; unfold Sc; omega)), p8.fr (fun p k y => q.1 p k (by unfold S8 at y; unfold Sc; omega)), p9⟩
theorem P9.same {σ τ : Sg} (h : P9 σ c o g tm pt ls nk fs) (e1 : ∀ k, gI τ 30 k = gI σ 30 k) (e2 : ∀ k, gL τ 29 k = gL σ 29 k) : P9 τ c o g tm pt ls nk fs := h.fr e1 e2
/-- one that leaves the kept answers alone -/
theorem EnvS.ag {P PL : Nat → Nat → Prop} {σ τ : Sg} (h : EnvS σ c n nk t o g tm pt ls fs d tb il) (q : Ag P PL σ τ) (h1 : ∀ p k, P p k → Sc p k) (h2 : ∀ p k, PL p k → ScL p k) : EnvS τ c n nk t o g tm pt ls fs d tb il := h.fr (FrD.ag h.1 q h1 h2) (h.2.2.2.2.2.2.2.2.2.fr (fun k => q.2.1 30 k (fun y => absurd (h1 30 k y) (by unfold Sc; omega))) (fun k => q.2.2.1 29 k (fun y => absurd (h2 29 k y) (by unfold ScL; omega))))
theorem Rel.env {σ τ : Sg} (h : Rel σ) (q : FrD σ τ) (hE : ∀ {c n nk t : Nat} {o g tm pt ls fs d tb : Nat → Nat} {il : Bool}, EnvS σ c n nk t o g tm pt ls fs d tb il → P9 τ c o g tm pt ls nk fs) : Rel τ := by
  obtain ⟨hr, c, n, nk, t, o, g, tm, pt, ls, fs, d, tb, il, b1, b2, p1, p2, p3, p4, p5, p6, p7, p8, p9⟩ := h
  have hE0 : EnvS σ c n nk t o g tm pt ls fs d tb il := ⟨hr, b1, b2, p1, p2, p3, p4, p6, p8, p9⟩
  obtain ⟨r, _, _, q1, q2, q3, q4, q6, q8, q9⟩ := hE0.fr q (hE hE0)
  exact ⟨r, c, n, nk, t, o, g, tm, pt, ls, fs, d, tb, il, b1, b2, q1, q2, q3, q4, p5.fr (fun p k y => q.1 p k (by unfold S5 at y; unfold Sc; omega)), q6, p7.fr (fun p k y => q.1 p k (by unfold S7 at y; unfold Sc; omega)) (fun p k y => q.2.1 p k (by unfold S7L at y; unfold ScL; omega)), q8, q9⟩
/-- a Rel with its numbers known -/
theorem Rel.back {σ τ : Sg} (h0 : EnvS σ c n nk t o g tm pt ls fs d tb il) (p5 : P5 σ c n) (p7 : P7 σ) (q : FrD σ τ) (p9 : P9 τ c o g tm pt ls nk fs) : Rel τ := by
  obtain ⟨r, b1, b2, q1, q2, q3, q4, q6, q8, q9⟩ := h0.fr q p9
  exact ⟨r, c, n, nk, t, o, g, tm, pt, ls, fs, d, tb, il, b1, b2, q1, q2, q3, q4, p5.fr (fun p k y => q.1 p k (by unfold S5 at y; unfold Sc; omega)), q6, p7.fr (fun p k y => q.1 p k (by unfold S7 at y; unfold Sc; omega)) (fun p k y => q.2.1 p k (by unfold S7L at y; unfold ScL; omega)), q8, q9⟩
theorem zx {x : Int32} (hx : -12 ≤ x.toInt ∧ x.toInt ≤ 12) : ∃ i, i < 25 ∧ x + 12 = nI i ∧ zOf i = x.toInt ∧ banOf i = 99 := by
  have h12 : (12 : Int32).toInt = 12 := rfl
  have h1 : (x + 12).toInt = x.toInt + 12 := by rw [i32_add (by omega) (by rw [h12]; omega), h12]
  refine ⟨(x.toInt + 12).toNat, by omega, ?_, ?_, ?_⟩
  · rw [i32_nI (x := x + 12) (by omega), h1]
  · unfold zOf
    rw [if_pos (by omega)]; omega
  · unfold banOf
    rw [if_pos (by omega)]
/-- the tail of both: what is kept is given, what isn't is found and kept -/
theorem s_kept {σ τ0 : Sg} {i : Nat} {v0 : Int64} (hE : EnvS σ c n nk t o g tm pt ls fs d tb il) (hi : i < 30) (hF : FrS σ τ0) (hv : AnsP c o g tm pt ls fs (zOf i) (banOf i) nk v0) : FrD σ (pI (pL τ0 29 i v0) 30 i 1) ∧ P9 (pI (pL τ0 29 i v0) 30 i 1) c o g tm pt ls nk fs := by
  have p9 := hE.2.2.2.2.2.2.2.2.2
  refine ⟨⟨fun p k y => ?_, fun p k y => ?_, hF.2.2⟩, fun j hj => ?_⟩
  · rw [gI_pI, if_neg (by omega), gI_pL]
    exact hF.d.1 p k y
  · rw [gL_pI, gL_pL, if_neg (by omega)]
    exact hF.d.2.1 p k y
  · rw [gI_pI, gL_pI, gL_pL, gI_pL]
    by_cases e : j = i
    · subst e
      rw [if_pos ⟨rfl, rfl⟩, if_pos ⟨rfl, rfl⟩]
      exact ⟨true, rfl, fun _ => hv⟩
    · rw [if_neg (by omega), if_neg (by omega), hF.1 30 j (by omega), hF.2.1 29 j (by unfold ScL; omega)]
      exact p9 j hj
theorem s_X5_inKey {σ : Sg} {x : Int32} (hE : EnvS σ c n nk t o g tm pt ls fs d tb il) (hx : -12 ≤ x.toInt ∧ x.toInt ≤ 12) : ∃ v τ, f_X5_inKey 12 x σ = some (v, τ) ∧ FrD σ τ ∧ P9 τ c o g tm pt ls nk fs ∧ AnsP c o g tm pt ls fs x.toInt 99 nk v := by
  obtain ⟨i, hi, e12, hz, hb⟩ := zx hx
  have hE' := hE
  obtain ⟨hr, b1, b2, p1, p2, p3, p4, p6, p8, p9⟩ := hE'
  obtain ⟨b, k1, k2⟩ := p9 i (by omega)
  cases b with
  | true =>
    have ha := k2 rfl
    rw [hz, hb] at ha
    refine ⟨gL σ 29 i, σ, ?_, FrD.rf hr, p9, ha⟩
    unfold f_X5_inKey f_X5_inKey_L33
    rw [lB_eq, e12]
    simp (disch := first | assumption | omega) only [↓lB_eq, ↓bd_m, ck_tt, gI_pI, gI_pL, gI_pR, gL_pI, gL_pL, gL_pR, gR_pI, gR_pL, rf_0_0, rf_0_1, rf_0_2, rf_0_3, rf_0_4, rf_0_5, rf_0_6, rf_0_7, rf_0_8, rf_0_9, rf_0_10, rf_1_1, rf_1_2, rf_4_0, rf_4_1, rf_4_2, rf_4_3, rf_4_4, rf_4_5, rf_11_0, rf_11_1, rf_12_0, rf_12_1, rf_12_2, rf_12_6, rf_12_7, rf_12_8, rf_13_0, rf_13_1, rf_13_2, rf_13_3, rf_18_0, rf_18_1, rf_18_2, rf_18_3, rf_23_0, rf_23_1, rf_23_2, rf_23_3, rf_31_0, rf_33_0, rf_33_2, rf_33_3, rf_33_4, rf_37_0, rf_39_0, rf_39_1, rf_39_2, rf_39_3, rf_40_0, rf_40_1, rf_40_2, rf_40_3, rf_47_3, rf_49_3, rf_51_3, rf_53_3, rf_55_1, rf_55_7, rf_55_8, rf_55_9, rf_55_11, rf_55_13, rf_55_14, rf_55_15, rf_55_17, rf_55_18, rf_55_19, rf_55_27, rf_55_28, rf_55_29, rf_55_30, rf_55_31, rf_55_32, rf_55_33, rf_55_34, rf_55_35, rf_55_36, rf_55_38, rf_55_44, rf_55_45, rf_55_46, rf_55_47, aL_2, aL_3, aL_5, aL_6, aL_7, aL_8, aL_9, aL_10, aL_14, aL_15, aL_16, aL_17, aL_19, aL_20, aL_21, aL_22, aL_24, aL_25, aL_26, aL_27, aL_28, aL_29, aL_30, aL_32, aL_34, aL_35, aL_36, aL_38, aL_39, aL_40, aL_41, aL_42, aL_43, aL_44, aL_45, aL_46, aL_48, aL_50, aL_52, aL_54, aL_56, aL_57, aL_58, aL_59, aL_60, aL_61, aL_62, aL_63, aL_64, aL_65, aL_66, aL_67, aL_68, aL_69, aL_70, aL_71, aL_72, aL_73, aL_74, aL_75, aL_76, aL_77, aL_78, aL_79, aL_80, aL_81, inb_nI, lit32, nI_clamp, nI_1, nI_add, if_pos, if_neg, b01_0, b01_1, Nat.add_sub_cancel, if_true, if_false, not_true_eq_false, not_false_eq_true, true_and, and_true, false_and, and_false, pk_sub, b01_n0, b01_n1, bI_t, bI_f, ofNat_nI, ck_d, Int32.lt_iff_toInt_lt, Int32.le_iff_toInt_le, i32_eq, nI_toInt, bI_b01, bI_0, decide_eq_true_eq, bI_tt, bI_ff, nI_prd, ↓reduceIte, iltT, iltF, ileT, ileF, ieqT, ieqF, dcT, dcF, or_true, or_false, true_or, false_or, k1]
  | false =>
    obtain ⟨v, τ, e1, hF, hv⟩ := s_X5_find (ban := 99) (x1 := x) (x2 := -1) hr b1 b2 p1 p2 p3 hx rfl (fun j hj => by have : (-1 : Int32).toInt = -1 := rfl; omega)
    obtain ⟨q1, q2⟩ := s_kept (i := i) (v0 := v) hE (by omega) hF (by rw [hz, hb]; exact hv)
    have hrt := hF.2.2
    refine ⟨v, _, ?_, q1, q2, hv⟩
    have e1' : f_X5_find 12 x (-nI 1) σ = some (v, τ) := e1
    unfold f_X5_inKey f_X5_inKey_L33
    rw [lB_eq, e12]
    simp (disch := first | assumption | omega) only [↓lB_eq, ↓bd_m, ck_tt, gI_pI, gI_pL, gI_pR, gL_pI, gL_pL, gL_pR, gR_pI, gR_pL, rf_0_0, rf_0_1, rf_0_2, rf_0_3, rf_0_4, rf_0_5, rf_0_6, rf_0_7, rf_0_8, rf_0_9, rf_0_10, rf_1_1, rf_1_2, rf_4_0, rf_4_1, rf_4_2, rf_4_3, rf_4_4, rf_4_5, rf_11_0, rf_11_1, rf_12_0, rf_12_1, rf_12_2, rf_12_6, rf_12_7, rf_12_8, rf_13_0, rf_13_1, rf_13_2, rf_13_3, rf_18_0, rf_18_1, rf_18_2, rf_18_3, rf_23_0, rf_23_1, rf_23_2, rf_23_3, rf_31_0, rf_33_0, rf_33_2, rf_33_3, rf_33_4, rf_37_0, rf_39_0, rf_39_1, rf_39_2, rf_39_3, rf_40_0, rf_40_1, rf_40_2, rf_40_3, rf_47_3, rf_49_3, rf_51_3, rf_53_3, rf_55_1, rf_55_7, rf_55_8, rf_55_9, rf_55_11, rf_55_13, rf_55_14, rf_55_15, rf_55_17, rf_55_18, rf_55_19, rf_55_27, rf_55_28, rf_55_29, rf_55_30, rf_55_31, rf_55_32, rf_55_33, rf_55_34, rf_55_35, rf_55_36, rf_55_38, rf_55_44, rf_55_45, rf_55_46, rf_55_47, aL_2, aL_3, aL_5, aL_6, aL_7, aL_8, aL_9, aL_10, aL_14, aL_15, aL_16, aL_17, aL_19, aL_20, aL_21, aL_22, aL_24, aL_25, aL_26, aL_27, aL_28, aL_29, aL_30, aL_32, aL_34, aL_35, aL_36, aL_38, aL_39, aL_40, aL_41, aL_42, aL_43, aL_44, aL_45, aL_46, aL_48, aL_50, aL_52, aL_54, aL_56, aL_57, aL_58, aL_59, aL_60, aL_61, aL_62, aL_63, aL_64, aL_65, aL_66, aL_67, aL_68, aL_69, aL_70, aL_71, aL_72, aL_73, aL_74, aL_75, aL_76, aL_77, aL_78, aL_79, aL_80, aL_81, inb_nI, lit32, nI_clamp, nI_1, nI_add, if_pos, if_neg, b01_0, b01_1, Nat.add_sub_cancel, if_true, if_false, not_true_eq_false, not_false_eq_true, true_and, and_true, false_and, and_false, pk_sub, b01_n0, b01_n1, bI_t, bI_f, ofNat_nI, ck_d, Int32.lt_iff_toInt_lt, Int32.le_iff_toInt_le, i32_eq, nI_toInt, bI_b01, bI_0, decide_eq_true_eq, bI_tt, bI_ff, nI_prd, ↓reduceIte, iltT, iltF, ileT, ileF, ieqT, ieqF, dcT, dcF, or_true, or_false, true_or, false_or, k1, e1']
theorem s_X5_without {σ : Sg} {j : Nat} (hE : EnvS σ c n nk t o g tm pt ls fs d tb il) (hj : j < 5) : ∃ v τ, f_X5_withoutCourse 12 (nI j) σ = some (v, τ) ∧ FrD σ τ ∧ P9 τ c o g tm pt ls nk fs ∧ AnsP c o g tm pt ls fs 0 j nk v := by
  have hz : zOf (25 + j) = 0 := if_neg (by omega)
  have hb : banOf (25 + j) = j := by unfold banOf; rw [if_neg (by omega)]; omega
  have e12 : (25 : Int32) + nI j = nI (25 + j) := nI_add 25 j
  have hE' := hE
  obtain ⟨hr, b1, b2, p1, p2, p3, p4, p6, p8, p9⟩ := hE'
  obtain ⟨b, k1, k2⟩ := p9 (25 + j) (by omega)
  cases b with
  | true =>
    have ha := k2 rfl
    rw [hz, hb] at ha
    refine ⟨gL σ 29 (25 + j), σ, ?_, FrD.rf hr, p9, ha⟩
    unfold f_X5_withoutCourse f_X5_withoutCourse_L33
    rw [lB_eq, e12]
    simp (disch := first | assumption | omega) only [↓lB_eq, ↓bd_m, ck_tt, gI_pI, gI_pL, gI_pR, gL_pI, gL_pL, gL_pR, gR_pI, gR_pL, rf_0_0, rf_0_1, rf_0_2, rf_0_3, rf_0_4, rf_0_5, rf_0_6, rf_0_7, rf_0_8, rf_0_9, rf_0_10, rf_1_1, rf_1_2, rf_4_0, rf_4_1, rf_4_2, rf_4_3, rf_4_4, rf_4_5, rf_11_0, rf_11_1, rf_12_0, rf_12_1, rf_12_2, rf_12_6, rf_12_7, rf_12_8, rf_13_0, rf_13_1, rf_13_2, rf_13_3, rf_18_0, rf_18_1, rf_18_2, rf_18_3, rf_23_0, rf_23_1, rf_23_2, rf_23_3, rf_31_0, rf_33_0, rf_33_2, rf_33_3, rf_33_4, rf_37_0, rf_39_0, rf_39_1, rf_39_2, rf_39_3, rf_40_0, rf_40_1, rf_40_2, rf_40_3, rf_47_3, rf_49_3, rf_51_3, rf_53_3, rf_55_1, rf_55_7, rf_55_8, rf_55_9, rf_55_11, rf_55_13, rf_55_14, rf_55_15, rf_55_17, rf_55_18, rf_55_19, rf_55_27, rf_55_28, rf_55_29, rf_55_30, rf_55_31, rf_55_32, rf_55_33, rf_55_34, rf_55_35, rf_55_36, rf_55_38, rf_55_44, rf_55_45, rf_55_46, rf_55_47, aL_2, aL_3, aL_5, aL_6, aL_7, aL_8, aL_9, aL_10, aL_14, aL_15, aL_16, aL_17, aL_19, aL_20, aL_21, aL_22, aL_24, aL_25, aL_26, aL_27, aL_28, aL_29, aL_30, aL_32, aL_34, aL_35, aL_36, aL_38, aL_39, aL_40, aL_41, aL_42, aL_43, aL_44, aL_45, aL_46, aL_48, aL_50, aL_52, aL_54, aL_56, aL_57, aL_58, aL_59, aL_60, aL_61, aL_62, aL_63, aL_64, aL_65, aL_66, aL_67, aL_68, aL_69, aL_70, aL_71, aL_72, aL_73, aL_74, aL_75, aL_76, aL_77, aL_78, aL_79, aL_80, aL_81, inb_nI, lit32, nI_clamp, nI_1, nI_add, if_pos, if_neg, b01_0, b01_1, Nat.add_sub_cancel, if_true, if_false, not_true_eq_false, not_false_eq_true, true_and, and_true, false_and, and_false, pk_sub, b01_n0, b01_n1, bI_t, bI_f, ofNat_nI, ck_d, Int32.lt_iff_toInt_lt, Int32.le_iff_toInt_le, i32_eq, nI_toInt, bI_b01, bI_0, decide_eq_true_eq, bI_tt, bI_ff, nI_prd, ↓reduceIte, iltT, iltF, ileT, ileF, ieqT, ieqF, dcT, dcF, or_true, or_false, true_or, false_or, k1]
  | false =>
    obtain ⟨v, τ, e1, hF, hv⟩ := s_X5_find (z := 0) (ban := j) (x1 := 0) (x2 := nI j) hr b1 b2 p1 p2 p3 (by omega) rfl (fun i hi => by rw [nI_toInt (by omega)]; omega)
    obtain ⟨q1, q2⟩ := s_kept (i := 25 + j) (v0 := v) hE (by omega) hF (by rw [hz, hb]; exact hv)
    have hrt := hF.2.2
    refine ⟨v, _, ?_, q1, q2, hv⟩
    have e1' : f_X5_find 12 (nI 0) (nI j) σ = some (v, τ) := e1
    unfold f_X5_withoutCourse f_X5_withoutCourse_L33
    rw [lB_eq, e12]
    simp (disch := first | assumption | omega) only [↓lB_eq, ↓bd_m, ck_tt, gI_pI, gI_pL, gI_pR, gL_pI, gL_pL, gL_pR, gR_pI, gR_pL, rf_0_0, rf_0_1, rf_0_2, rf_0_3, rf_0_4, rf_0_5, rf_0_6, rf_0_7, rf_0_8, rf_0_9, rf_0_10, rf_1_1, rf_1_2, rf_4_0, rf_4_1, rf_4_2, rf_4_3, rf_4_4, rf_4_5, rf_11_0, rf_11_1, rf_12_0, rf_12_1, rf_12_2, rf_12_6, rf_12_7, rf_12_8, rf_13_0, rf_13_1, rf_13_2, rf_13_3, rf_18_0, rf_18_1, rf_18_2, rf_18_3, rf_23_0, rf_23_1, rf_23_2, rf_23_3, rf_31_0, rf_33_0, rf_33_2, rf_33_3, rf_33_4, rf_37_0, rf_39_0, rf_39_1, rf_39_2, rf_39_3, rf_40_0, rf_40_1, rf_40_2, rf_40_3, rf_47_3, rf_49_3, rf_51_3, rf_53_3, rf_55_1, rf_55_7, rf_55_8, rf_55_9, rf_55_11, rf_55_13, rf_55_14, rf_55_15, rf_55_17, rf_55_18, rf_55_19, rf_55_27, rf_55_28, rf_55_29, rf_55_30, rf_55_31, rf_55_32, rf_55_33, rf_55_34, rf_55_35, rf_55_36, rf_55_38, rf_55_44, rf_55_45, rf_55_46, rf_55_47, aL_2, aL_3, aL_5, aL_6, aL_7, aL_8, aL_9, aL_10, aL_14, aL_15, aL_16, aL_17, aL_19, aL_20, aL_21, aL_22, aL_24, aL_25, aL_26, aL_27, aL_28, aL_29, aL_30, aL_32, aL_34, aL_35, aL_36, aL_38, aL_39, aL_40, aL_41, aL_42, aL_43, aL_44, aL_45, aL_46, aL_48, aL_50, aL_52, aL_54, aL_56, aL_57, aL_58, aL_59, aL_60, aL_61, aL_62, aL_63, aL_64, aL_65, aL_66, aL_67, aL_68, aL_69, aL_70, aL_71, aL_72, aL_73, aL_74, aL_75, aL_76, aL_77, aL_78, aL_79, aL_80, aL_81, inb_nI, lit32, nI_clamp, nI_1, nI_add, if_pos, if_neg, b01_0, b01_1, Nat.add_sub_cancel, if_true, if_false, not_true_eq_false, not_false_eq_true, true_and, and_true, false_and, and_false, pk_sub, b01_n0, b01_n1, bI_t, bI_f, ofNat_nI, ck_d, Int32.lt_iff_toInt_lt, Int32.le_iff_toInt_le, i32_eq, nI_toInt, bI_b01, bI_0, decide_eq_true_eq, bI_tt, bI_ff, nI_prd, ↓reduceIte, iltT, iltF, ileT, ileF, ieqT, ieqF, dcT, dcF, or_true, or_false, true_or, false_or, k1, e1']
end
section
variable {c n nk : Nat} {o g tm pt ls fs : Nat → Nat} {z : Int} {ban : Nat}
theorem LB.uni {v w : Int32} (h : LB c nk o g tm pt ls fs z ban v) (q : LB c nk o g tm pt ls fs z ban w) : v = w := by
  rcases h with ⟨V, rfl, _, ⟨d, h1, h2⟩, h3⟩ | ⟨rfl, h⟩
  · rcases q with ⟨W, rfl, _, ⟨e, q1, q2⟩, q3⟩ | ⟨_, q⟩
    · have a := h3 e q1
      have b := q3 d h1
      rw [show V = W by omega]
    · exact absurd h1 (q d)
  · rcases q with ⟨W, rfl, _, ⟨e, q1, _⟩, _⟩ | ⟨rfl, _⟩
    · exact absurd q1 (h e)
    · rfl
/-- the number that both answer -/
noncomputable def lbV (c nk : Nat) (o g tm pt ls fs : Nat → Nat) (z : Int) (ban : Nat) : Int32 := Classical.epsilon (LB c nk o g tm pt ls fs z ban)
theorem LB.v {v : Int32} (h : LB c nk o g tm pt ls fs z ban v) : v = lbV c nk o g tm pt ls fs z ban := h.uni (Classical.epsilon_spec ⟨v, h⟩)
theorem key_top {d : Nat → Nat} (b1 : Bl c o g) (b2 : Bn n tm pt ls) (hC : Ch n tm nk fs) (hz : -12 ≤ z ∧ z ≤ 12) (q : GoodTo c o g tm pt ls fs z ban nk d) : keyD o g tm pt ls fs z nk d / 2 ^ 42 = costTo o g tm pt ls fs z nk d := by
  have hn := b2.1
  have hM := hC.le (Nat.le_refl nk)
  obtain ⟨_, _, d5⟩ := key_bd b1 b2 hC hz (Nat.le_refl _) q
  rw [keyD_dg (by omega), ← p842]
  exact hg_top (fun i _ => dg_lt (fun i hi _ => by have := d5 i hi; omega) i)
/-- from the class's answer to the number -/
theorem AnsP.lb {v : Int64} (b1 : Bl c o g) (b2 : Bn n tm pt ls) (hC : Ch n tm nk fs) (hz : -12 ≤ z ∧ z ≤ 12) (h : AnsP c o g tm pt ls fs z ban nk v) : (0 ≤ v.toInt ∧ ∃ V, V < 1000000 ∧ lbV c nk o g tm pt ls fs z ban = nI V ∧ ∀ σ, f_X5_costOf v σ = some (nI V, σ)) ∨ (v.toInt < 0 ∧ lbV c nk o g tm pt ls fs z ban = -1) := by
  rcases h with ⟨d, h1, h2, h3⟩ | ⟨k, h1, h2, h3, _⟩
  · left
    have hn := b2.1
    have hnk := hC.nk_le
    obtain ⟨cb, kb, d5⟩ := key_bd b1 b2 hC hz (Nat.le_refl _) h1
    have cb2 := cost_bd b1 b2 hC hz (Nat.le_refl _) d5
    have hv : v = lN (keyD o g tm pt ls fs z nk d) := Int64.toInt_inj.mp (by rw [h2, pk_lT (by omega)])
    refine ⟨by rw [h2]; exact Int.natCast_nonneg _, costTo o g tm pt ls fs z nk d, by omega, ?_, fun σ => ?_⟩
    · refine (LB.v (Or.inl ⟨_, rfl, by omega, ⟨d, h1, rfl⟩, fun d' hd' => ?_⟩)).symm
      have h4 := h3 d' hd'
      have h5 := Nat.div_le_div_right (c := 2 ^ 42) h4
      rw [key_top b1 b2 hC hz h1, key_top b1 b2 hC hz hd'] at h5
      exact h5
    · unfold f_X5_costOf
      have hs : (((42 : Int32).toInt64 &&& 63).toBitVec.smod 64).toNat = 42 := by decide
      rw [hv, pf_shr hs (by omega), lN_i, key_top b1 b2 hC hz h1]
  · right
    refine ⟨by omega, (LB.v (Or.inr ⟨rfl, fun d hd => h3 d (fun j hj => hd j (by omega))⟩)).symm⟩
end
