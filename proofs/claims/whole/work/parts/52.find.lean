/-! the class's search -/
theorem i32_add {x y : Int32} (hx : -1000 ≤ x.toInt ∧ x.toInt ≤ 1000) (hy : -1000 ≤ y.toInt ∧ y.toInt ≤ 1000) : (x + y).toInt = x.toInt + y.toInt := by
  rw [Int32.toInt_add]
  exact Int.bmod_eq_of_le (by omega) (by omega)
theorem s_X7_leastBest {σ : Sg} {u m : Nat} {K : Nat → Nat} (hr : RefI σ) (hu : isW u) (h0 : 0 < m) (hm : m ≤ 120) (h4 : gI σ u 4 = nI m) (hK : ∀ a, a < m → gL σ (u + 4) a = lN (K a) ∧ K a < 2 ^ 62) : ∃ a, a < m ∧ f_X7_leastBest u σ = some (lN (K a), σ) ∧ ∀ b, b < m → K a ≤ K b := by
  have q3 := wr3 hr hu
  have k4 := aw4 hu
  unfold f_X7_leastBest
  rw [q3, k4, show (0 : Int32) = nI 0 from rfl, inb_nI (by omega), ck_d (by omega), lB_eq, nI_clamp (by omega), (hK 0 h0).1]
  refine fx_inv2 (I := fun i s => ∃ a, a < i + 1 ∧ s = (lN (K a), nI (i + 1), σ) ∧ ∀ b, b < i + 1 → K a ≤ K b) (Q := fun e => ∃ a, a < m ∧ e = some (lN (K a), σ) ∧ ∀ b, b < m → K a ≤ K b) (n := m - 1) ?_ ?_ (m - 1) 0 FU _ (by omega) (by unfold FU; omega) ⟨0, by omega, rfl, fun b hb => by rw [show b = 0 by omega]; exact Nat.le_refl _⟩
  · rintro i s hi ⟨a, ha, rfl, hl⟩ rec
    obtain ⟨e1, e2⟩ := hK (i + 1) (by omega)
    obtain ⟨_, e3⟩ := hK a (by omega)
    left
    by_cases q : K (i + 1) < K a
    · refine ⟨(lN (K (i + 1)), nI (i + 1 + 1), σ), ⟨i + 1, by omega, rfl, fun b hb => ?_⟩, ?_⟩
      · by_cases e : b = i + 1
        · rw [e]; exact Nat.le_refl _
        · have := hl b (by omega); omega
      · have em : mnL (lN (K a)) (lN (K (i + 1))) = lN (K (i + 1)) := by
          unfold mnL
          rw [if_pos ((pk_lLT (by omega) (by omega)).2 q)]
        unfold f_X7_leastBest_L9
        dsimp only
        simp (disch := first | assumption | omega) only [↓lB_eq, ↓bd_m, ck_tt, gI_pI, gI_pL, gI_pR, gL_pI, gL_pL, gL_pR, gR_pI, gR_pL, rf_0_0, rf_0_1, rf_0_2, rf_0_3, rf_0_4, rf_0_5, rf_0_6, rf_0_7, rf_0_8, rf_0_9, rf_0_10, rf_1_1, rf_1_2, rf_4_0, rf_4_1, rf_4_2, rf_4_3, rf_4_4, rf_4_5, rf_11_0, rf_11_1, rf_12_0, rf_12_1, rf_12_2, rf_12_6, rf_12_7, rf_12_8, rf_13_0, rf_13_1, rf_13_2, rf_13_3, rf_18_0, rf_18_1, rf_18_2, rf_18_3, rf_23_0, rf_23_1, rf_23_2, rf_23_3, rf_31_0, rf_33_0, rf_33_2, rf_33_3, rf_33_4, rf_37_0, rf_39_0, rf_39_1, rf_39_2, rf_39_3, rf_40_0, rf_40_1, rf_40_2, rf_40_3, rf_47_3, rf_49_3, rf_51_3, rf_53_3, rf_55_1, rf_55_7, rf_55_8, rf_55_9, rf_55_11, rf_55_13, rf_55_14, rf_55_15, rf_55_17, rf_55_18, rf_55_19, rf_55_27, rf_55_28, rf_55_29, rf_55_30, rf_55_31, rf_55_32, rf_55_33, rf_55_34, rf_55_35, rf_55_36, rf_55_38, rf_55_44, rf_55_45, rf_55_46, rf_55_47, aL_2, aL_3, aL_5, aL_6, aL_7, aL_8, aL_9, aL_10, aL_14, aL_15, aL_16, aL_17, aL_19, aL_20, aL_21, aL_22, aL_24, aL_25, aL_26, aL_27, aL_28, aL_29, aL_30, aL_32, aL_34, aL_35, aL_36, aL_38, aL_39, aL_40, aL_41, aL_42, aL_43, aL_44, aL_45, aL_46, aL_48, aL_50, aL_52, aL_54, aL_56, aL_57, aL_58, aL_59, aL_60, aL_61, aL_62, aL_63, aL_64, aL_65, aL_66, aL_67, aL_68, aL_69, aL_70, aL_71, aL_72, aL_73, aL_74, aL_75, aL_76, aL_77, aL_78, aL_79, aL_80, aL_81, inb_nI, lit32, nI_clamp, nI_1, nI_add, if_pos, if_neg, b01_0, b01_1, Nat.add_sub_cancel, if_true, if_false, not_true_eq_false, not_false_eq_true, true_and, and_true, false_and, and_false, pk_sub, b01_n0, b01_n1, bI_t, bI_f, ofNat_nI, ck_d, Int32.lt_iff_toInt_lt, Int32.le_iff_toInt_le, i32_eq, nI_toInt, bI_b01, bI_0, decide_eq_true_eq, bI_tt, bI_ff, nI_prd, ↓reduceIte, iltT, iltF, ileT, ileF, ieqT, ieqF, dcT, dcF, or_true, or_false, true_or, false_or, h4, q3, k4, e1, em]
    · refine ⟨(lN (K a), nI (i + 1 + 1), σ), ⟨a, by omega, rfl, fun b hb => ?_⟩, ?_⟩
      · by_cases e : b = i + 1
        · rw [e]; omega
        · exact hl b (by omega)
      · have em : mnL (lN (K a)) (lN (K (i + 1))) = lN (K a) := by
          unfold mnL
          rw [if_neg (fun y => q ((pk_lLT (by omega) (by omega)).1 y))]
        unfold f_X7_leastBest_L9
        dsimp only
        simp (disch := first | assumption | omega) only [↓lB_eq, ↓bd_m, ck_tt, gI_pI, gI_pL, gI_pR, gL_pI, gL_pL, gL_pR, gR_pI, gR_pL, rf_0_0, rf_0_1, rf_0_2, rf_0_3, rf_0_4, rf_0_5, rf_0_6, rf_0_7, rf_0_8, rf_0_9, rf_0_10, rf_1_1, rf_1_2, rf_4_0, rf_4_1, rf_4_2, rf_4_3, rf_4_4, rf_4_5, rf_11_0, rf_11_1, rf_12_0, rf_12_1, rf_12_2, rf_12_6, rf_12_7, rf_12_8, rf_13_0, rf_13_1, rf_13_2, rf_13_3, rf_18_0, rf_18_1, rf_18_2, rf_18_3, rf_23_0, rf_23_1, rf_23_2, rf_23_3, rf_31_0, rf_33_0, rf_33_2, rf_33_3, rf_33_4, rf_37_0, rf_39_0, rf_39_1, rf_39_2, rf_39_3, rf_40_0, rf_40_1, rf_40_2, rf_40_3, rf_47_3, rf_49_3, rf_51_3, rf_53_3, rf_55_1, rf_55_7, rf_55_8, rf_55_9, rf_55_11, rf_55_13, rf_55_14, rf_55_15, rf_55_17, rf_55_18, rf_55_19, rf_55_27, rf_55_28, rf_55_29, rf_55_30, rf_55_31, rf_55_32, rf_55_33, rf_55_34, rf_55_35, rf_55_36, rf_55_38, rf_55_44, rf_55_45, rf_55_46, rf_55_47, aL_2, aL_3, aL_5, aL_6, aL_7, aL_8, aL_9, aL_10, aL_14, aL_15, aL_16, aL_17, aL_19, aL_20, aL_21, aL_22, aL_24, aL_25, aL_26, aL_27, aL_28, aL_29, aL_30, aL_32, aL_34, aL_35, aL_36, aL_38, aL_39, aL_40, aL_41, aL_42, aL_43, aL_44, aL_45, aL_46, aL_48, aL_50, aL_52, aL_54, aL_56, aL_57, aL_58, aL_59, aL_60, aL_61, aL_62, aL_63, aL_64, aL_65, aL_66, aL_67, aL_68, aL_69, aL_70, aL_71, aL_72, aL_73, aL_74, aL_75, aL_76, aL_77, aL_78, aL_79, aL_80, aL_81, inb_nI, lit32, nI_clamp, nI_1, nI_add, if_pos, if_neg, b01_0, b01_1, Nat.add_sub_cancel, if_true, if_false, not_true_eq_false, not_false_eq_true, true_and, and_true, false_and, and_false, pk_sub, b01_n0, b01_n1, bI_t, bI_f, ofNat_nI, ck_d, Int32.lt_iff_toInt_lt, Int32.le_iff_toInt_le, i32_eq, nI_toInt, bI_b01, bI_0, decide_eq_true_eq, bI_tt, bI_ff, nI_prd, ↓reduceIte, iltT, iltF, ileT, ileF, ieqT, ieqF, dcT, dcF, or_true, or_false, true_or, false_or, h4, q3, k4, e1, em]
  · rintro s ⟨a, ha, rfl, hl⟩ rec
    refine ⟨some (lN (K a), σ), ⟨a, by omega, rfl, fun b hb => hl b (by omega)⟩, ?_⟩
    unfold f_X7_leastBest_L9
    dsimp only
    rw [show m - 1 + 1 = m by omega, h4, if_pos (by rw [Int32.le_iff_toInt_le]; exact Int.le_refl _)]
/-- the ways of what sounds among the first i, in the object at w -/
def LsI (c : Nat) (o g pt : Nat → Nat) (z : Int) (ban : Nat) (S : Nat → Bool) (τ : Sg) (w i q : Nat) (E : Nat → Nat → Nat) : Prop := gI τ w 4 = nI q ∧ q ≤ ffc c (cntB S i) ∧ (∀ a, a < q → Wc τ w S (E a) i a ∧ PLm c o g pt z ban S (E a) i) ∧ ∀ d, PLm c o g pt z ban S d i → ∃ a, a < q ∧ ∀ j, j < i → S j = true → E a j = d j
theorem LsI.skip {c : Nat} {o g pt : Nat → Nat} {z : Int} {ban : Nat} {S : Nat → Bool} {τ : Sg} {w i q : Nat} {E : Nat → Nat → Nat} (h : LsI c o g pt z ban S τ w i q E) (hs : ¬ S i = true) : LsI c o g pt z ban S τ w (i + 1) q E := by
  obtain ⟨h1, h2, h3, h4⟩ := h
  have hs' : S i = false := by rw [Bool.not_eq_true] at hs; exact hs
  have pl : ∀ d, PLm c o g pt z ban S d i ↔ PLm c o g pt z ban S d (i + 1) := fun d => by
    unfold PLm
    rw [twB_suc, hs', Bool.false_and, Bool.or_false]
    constructor
    · rintro ⟨y1, y2⟩
      refine ⟨fun j hj hsj => ?_, y2⟩
      by_cases e : j = i
      · rw [e] at hsj; exact absurd hsj hs
      · exact y1 j (by omega) hsj
    · rintro ⟨y1, y2⟩
      exact ⟨fun j hj hsj => y1 j (by omega) hsj, y2⟩
  refine ⟨h1, by rw [cntB_f hs]; exact h2, fun a ha => ?_, fun d hd => ?_⟩
  · obtain ⟨⟨w1, u, w2, w3, w4⟩, w5⟩ := h3 a ha
    refine ⟨⟨?_, u, w2, w3, fun j => ?_⟩, (pl _).1 w5⟩
    · rw [w1]
      congr 1
      refine hg_cg (fun j _ => ?_)
      by_cases y : j < i ∧ S j = true
      · rw [dg_t y.1 y.2, dg_t (by omega) y.2]
      · rw [dg_n y, dg_n]
        rintro ⟨y1, y2⟩
        by_cases e : j = i
        · rw [e] at y2; exact hs y2
        · exact y ⟨by omega, y2⟩
    · rw [w4, anyB_suc, hs', Bool.false_and, Bool.or_false]
  · obtain ⟨a, ha, hl⟩ := h4 d ((pl d).2 hd)
    refine ⟨a, ha, fun j hj hsj => ?_⟩
    by_cases e : j = i
    · rw [e] at hsj; exact absurd hsj hs
    · exact hl j (by omega) hsj
/-- nothing but the search's own cells has changed -/
def FrS (σ τ : Sg) : Prop := (∀ p k, ¬ (p = 11 ∨ (13 ≤ p ∧ p ≤ 28)) → gI τ p k = gI σ p k) ∧ (∀ p k, ¬ ScL p k → gL τ p k = gL σ p k) ∧ RefI τ
theorem FrS.ag {P PL : Nat → Nat → Prop} {σ τ υ : Sg} (h : FrS σ τ) (q : Ag P PL τ υ) (h1 : ∀ p k, P p k → p = 11 ∨ (13 ≤ p ∧ p ≤ 28)) (h2 : ∀ p k, PL p k → ScL p k) : FrS σ υ := ⟨fun p k y => (q.2.1 p k (fun x => y (h1 p k x))).trans (h.1 p k y), fun p k y => (q.2.2.1 p k (fun x => y (h2 p k x))).trans (h.2.1 p k y), q.ref h.2.2⟩
theorem FrS.lk {σ τ : Sg} (h : FrS σ τ) : Lk σ τ := by
  refine ⟨fun p k y => ?_, h.2.1, fun _ => h.2.2⟩
  by_cases e : p = 11 ∨ (13 ≤ p ∧ p ≤ 28)
  · exact absurd (show Sc p k by unfold Sc; omega) y
  · exact h.1 p k e
theorem FrS.sw {σ τ : Sg} {i j a b : Nat} (h : FrS σ τ) (hr : RefI (pR (pR τ 12 i a) 12 j b)) : FrS σ (pR (pR τ 12 i a) 12 j b) := ⟨h.1, h.2.1, hr⟩
theorem AhM.ag {P PL : Nat → Nat → Prop} {σ τ : Sg} {o g tm pt ls fs : Nat → Nat} {z : Int} {u k m : Nat} {D : Nat → Nat → Nat} (h : AhM σ o g tm pt ls fs z u k m D) (q : Ag P PL σ τ) (h1 : ¬ P u 4) (h2 : ∀ a, ¬ P (u + 3) a) (h3 : ∀ a, ¬ PL (u + 1) a) (h4 : ∀ a, ¬ PL (u + 4) a) : AhM τ o g tm pt ls fs z u k m D :=
  ⟨(q.2.1 u 4 h1).trans h.1, fun a ha => let ⟨y1, y2, y3⟩ := h.2 a ha; ⟨(q.2.2.1 (u + 1) a (h3 a)).trans y1, by rw [q.2.1 (u + 3) a (h2 a)]; exact y2, (q.2.2.1 (u + 4) a (h4 a)).trans y3⟩⟩
theorem perm3.s23 {a b c : Nat} (h : perm3 a b c) : perm3 a c b := by unfold perm3 at h ⊢; omega
theorem perm3.s12 {a b c : Nat} (h : perm3 a b c) : perm3 b a c := by unfold perm3 at h ⊢; omega
theorem isW.scl {w p k : Nat} (h : isW w) (q : p = w + 1 ∨ p = w + 4) : ScL p k := by unfold isW at h; unfold ScL; omega
section
variable {c n nk : Nat} {o g tm pt ls fs : Nat → Nat} {z : Int} {ban : Nat}
/-- what a chord's turn leaves -/
def TurnE (c : Nat) (o g tm pt ls fs : Nat → Nat) (z : Int) (ban k : Nat) (σ : Sg) (rec9 : Int32 × Sg → Option (Int64 × Sg)) (e : Option (Int64 × Sg)) : Prop := (∃ τ, e = some (((-1 : Int32) - nI k).toInt64, τ) ∧ FrS σ τ ∧ ∀ d, ¬ GoodTo c o g tm pt ls fs z ban (k + 1) d) ∨ ∃ (τ : Sg) (m : Nat) (D : Nat → Nat → Nat), e = rec9 (nI (k + 1), τ) ∧ FrS σ τ ∧ 0 < m ∧ AhM τ o g tm pt ls fs z (gR τ 12 3) (k + 1) m D ∧ AhP c o g tm pt ls fs z ban (k + 1) m D
theorem s_findIn {σ τ : Sg} {k m : Nat} {D : Nat → Nat → Nat} {x1 x2 : Int32} {rec9 : Int32 × Sg → Option (Int64 × Sg)} (b1 : Bl c o g) (b2 : Bn n tm pt ls) (p1 : P1 σ c o g) (p2 : P2 σ n tm pt ls) (p3 : P3 σ n tm ls nk fs) (hk : k < nk) (hz : -12 ≤ z ∧ z ≤ 12) (hx1 : x1.toInt = z) (hx2 : ∀ j : Nat, j < 5 → ((j : Int) = x2.toInt ↔ j = ban)) (hF : FrS σ τ) (hM : AhM τ o g tm pt ls fs z (gR τ 12 3) k m D) (hP : AhP c o g tm pt ls fs z ban k m D) {q0 : Nat} {E0 : Nat → Nat → Nat} (hL : LsI c o g pt z ban (sndB tm ls fs k) τ (gR τ 12 4) 0 q0 E0) : TurnE c o g tm pt ls fs z ban k σ rec9 (fx (f_X5_find_L30 rec9 12 x1 x2 (nI k)) FU (nI 0, τ)) := by
  have hn := b2.1
  have hc5 := b1.2.1
  have hC := p3.1
  have hnk := hC.nk_le
  have hf1 := hC.2.2.1 k hk
  have hfn := hC.le (k := k + 1) (by omega)
  obtain ⟨bb, hbb, e10, tbb⟩ := p3.2.2.2.2 k hk
  generalize hu : gR τ 12 3 = u at hM
  refine fx_inv2 (I := fun i s => ∃ (τ' : Sg) (q : Nat) (E : Nat → Nat → Nat), s = (nI i, τ') ∧ FrS σ τ' ∧ gR τ' 12 3 = u ∧ AhM τ' o g tm pt ls fs z u k m D ∧ LsI c o g pt z ban (sndB tm ls fs k) τ' (gR τ' 12 4) i q E) (Q := TurnE c o g tm pt ls fs z ban k σ rec9) (n := fs (k + 1)) ?_ ?_ (fs (k + 1)) 0 FU _ (by omega) (by unfold FU; omega) ⟨τ, q0, E0, rfl, hF, hu, hM, hL⟩
  · rintro i s hi ⟨τ', q, E, rfl, hF', hu', hM', hL'⟩ rec
    have hr' := hF'.2.2
    have hp := hr'.2
    have t1 : gI τ' 9 (k + 1) = nI (fs (k + 1)) := (hF'.1 9 (k + 1) (by omega)).trans (p3.2.2.1 (k + 1) (by omega))
    have t10 : gI τ' 10 k = nI bb := (hF'.1 10 k (by omega)).trans e10
    have t6 : gI τ' 6 i = nI (pt i) := (hF'.1 6 i (by omega)).trans (p2.2.2 i (by omega)).2.1
    have bp := (b2.2.1 i (by omega)).2.1
    have hbt := bit_t (b := bb) (i := i) (by omega) (by omega)
    rw [tbb i] at hbt
    left
    by_cases hs : sndB tm ls fs k i = true
    · rw [if_pos hs] at hbt
      generalize hw : gR τ' 12 4 = w at hL' hp
      generalize hv : gR τ' 12 5 = v at hp
      rw [hu'] at hp
      obtain ⟨wu, ww, wv, n1, n2, n3⟩ := hp.w
      have hub := wu.bd
      have hvb := wv.bd
      have huv := wu.ne wv n2
      have hxa : (nI (pt i) + x1).toInt = (pt i : Int) + z := by
        rw [i32_add (by rw [nI_toInt (by omega)]; omega) (by omega), nI_toInt (by omega), hx1]
      obtain ⟨τ2, q', E', e1, a1, l1, l2, l3, l4⟩ := s_X5_spread (x2 := nI (pt i) + x1) (x3 := x2) hr' hu' hw hv hc5 ((hF'.1 1 0 (by omega)).trans p1.1) (fun j hj => ⟨(hF'.1 2 j (by omega)).trans (p1.2.2.1 j hj).1, b1.2.2.1 j hj⟩) ((hF'.1 3 0 (by omega)).trans (p1.2.2.2 0 (by omega)).1) b1.2.2.2.2.1 (show i < 14 by omega) hs hxa (by omega) hx2 hL'.1 hL'.2.1 hL'.2.2.1 hL'.2.2.2
      have hr2 : RefI τ2 := a1.ref hr'
      have g3 : gR (pR (pR τ2 12 4 v) 12 5 w) 12 3 = u := by
        rw [gR_pR, if_neg (by omega), gR_pR, if_neg (by omega), a1.2.2.2]; exact hu'
      have g4 : gR (pR (pR τ2 12 4 v) 12 5 w) 12 4 = v := by
        rw [gR_pR, if_neg (by omega), gR_pR, if_pos ⟨rfl, rfl⟩]
      have g5 : gR (pR (pR τ2 12 4 v) 12 5 w) 12 5 = w := by
        rw [gR_pR, if_pos ⟨rfl, rfl⟩]
      have hr3 : RefI (pR (pR τ2 12 4 v) 12 5 w) := hr2.sw (by omega) (by omega) (by rw [g3, g4, g5]; exact hp.s23)
      refine ⟨(nI (i + 1), pR (pR τ2 12 4 v) 12 5 w), ⟨_, q', E', rfl, (hF'.ag a1 (fun p k y => by unfold Wp at y; omega) (fun p k y => wv.scl (Or.inl y))).sw hr3, g3, ?_, ?_⟩, ?_⟩
      · have hM2 : AhM τ2 o g tm pt ls fs z u k m D := hM'.ag a1 (by unfold Wp; omega) (fun a => by unfold Wp; omega) (fun a => by unfold WLp; omega) (fun a => by unfold WLp; omega)
        exact hM2
      · rw [g4]
        exact ⟨l1, l2, l3, l4⟩
      · unfold f_X5_find_L30 f_X5_find_L83
        dsimp only
        simp (disch := first | assumption | omega) only [↓lB_eq, ↓bd_m, ck_tt, gI_pI, gI_pL, gI_pR, gL_pI, gL_pL, gL_pR, gR_pI, gR_pL, rf_0_0, rf_0_1, rf_0_2, rf_0_3, rf_0_4, rf_0_5, rf_0_6, rf_0_7, rf_0_8, rf_0_9, rf_0_10, rf_1_1, rf_1_2, rf_4_0, rf_4_1, rf_4_2, rf_4_3, rf_4_4, rf_4_5, rf_11_0, rf_11_1, rf_12_0, rf_12_1, rf_12_2, rf_12_6, rf_12_7, rf_12_8, rf_13_0, rf_13_1, rf_13_2, rf_13_3, rf_18_0, rf_18_1, rf_18_2, rf_18_3, rf_23_0, rf_23_1, rf_23_2, rf_23_3, rf_31_0, rf_33_0, rf_33_2, rf_33_3, rf_33_4, rf_37_0, rf_39_0, rf_39_1, rf_39_2, rf_39_3, rf_40_0, rf_40_1, rf_40_2, rf_40_3, rf_47_3, rf_49_3, rf_51_3, rf_53_3, rf_55_1, rf_55_7, rf_55_8, rf_55_9, rf_55_11, rf_55_13, rf_55_14, rf_55_15, rf_55_17, rf_55_18, rf_55_19, rf_55_27, rf_55_28, rf_55_29, rf_55_30, rf_55_31, rf_55_32, rf_55_33, rf_55_34, rf_55_35, rf_55_36, rf_55_38, rf_55_44, rf_55_45, rf_55_46, rf_55_47, aL_2, aL_3, aL_5, aL_6, aL_7, aL_8, aL_9, aL_10, aL_14, aL_15, aL_16, aL_17, aL_19, aL_20, aL_21, aL_22, aL_24, aL_25, aL_26, aL_27, aL_28, aL_29, aL_30, aL_32, aL_34, aL_35, aL_36, aL_38, aL_39, aL_40, aL_41, aL_42, aL_43, aL_44, aL_45, aL_46, aL_48, aL_50, aL_52, aL_54, aL_56, aL_57, aL_58, aL_59, aL_60, aL_61, aL_62, aL_63, aL_64, aL_65, aL_66, aL_67, aL_68, aL_69, aL_70, aL_71, aL_72, aL_73, aL_74, aL_75, aL_76, aL_77, aL_78, aL_79, aL_80, aL_81, inb_nI, lit32, nI_clamp, nI_1, nI_add, if_pos, if_neg, b01_0, b01_1, Nat.add_sub_cancel, if_true, if_false, not_true_eq_false, not_false_eq_true, true_and, and_true, false_and, and_false, pk_sub, b01_n0, b01_n1, bI_t, bI_f, ofNat_nI, ck_d, Int32.lt_iff_toInt_lt, Int32.le_iff_toInt_le, i32_eq, nI_toInt, bI_b01, bI_0, decide_eq_true_eq, bI_tt, bI_ff, nI_prd, ↓reduceIte, iltT, iltF, ileT, ileF, ieqT, ieqF, dcT, dcF, or_true, or_false, true_or, false_or, t1, t10, t6, e1]
    · rw [if_neg hs] at hbt
      refine ⟨(nI (i + 1), τ'), ⟨τ', q, E, rfl, hF', hu', hM', hL'.skip hs⟩, ?_⟩
      unfold f_X5_find_L30 f_X5_find_L83
      dsimp only
      simp (disch := first | assumption | omega) only [↓lB_eq, ↓bd_m, ck_tt, gI_pI, gI_pL, gI_pR, gL_pI, gL_pL, gL_pR, gR_pI, gR_pL, rf_0_0, rf_0_1, rf_0_2, rf_0_3, rf_0_4, rf_0_5, rf_0_6, rf_0_7, rf_0_8, rf_0_9, rf_0_10, rf_1_1, rf_1_2, rf_4_0, rf_4_1, rf_4_2, rf_4_3, rf_4_4, rf_4_5, rf_11_0, rf_11_1, rf_12_0, rf_12_1, rf_12_2, rf_12_6, rf_12_7, rf_12_8, rf_13_0, rf_13_1, rf_13_2, rf_13_3, rf_18_0, rf_18_1, rf_18_2, rf_18_3, rf_23_0, rf_23_1, rf_23_2, rf_23_3, rf_31_0, rf_33_0, rf_33_2, rf_33_3, rf_33_4, rf_37_0, rf_39_0, rf_39_1, rf_39_2, rf_39_3, rf_40_0, rf_40_1, rf_40_2, rf_40_3, rf_47_3, rf_49_3, rf_51_3, rf_53_3, rf_55_1, rf_55_7, rf_55_8, rf_55_9, rf_55_11, rf_55_13, rf_55_14, rf_55_15, rf_55_17, rf_55_18, rf_55_19, rf_55_27, rf_55_28, rf_55_29, rf_55_30, rf_55_31, rf_55_32, rf_55_33, rf_55_34, rf_55_35, rf_55_36, rf_55_38, rf_55_44, rf_55_45, rf_55_46, rf_55_47, aL_2, aL_3, aL_5, aL_6, aL_7, aL_8, aL_9, aL_10, aL_14, aL_15, aL_16, aL_17, aL_19, aL_20, aL_21, aL_22, aL_24, aL_25, aL_26, aL_27, aL_28, aL_29, aL_30, aL_32, aL_34, aL_35, aL_36, aL_38, aL_39, aL_40, aL_41, aL_42, aL_43, aL_44, aL_45, aL_46, aL_48, aL_50, aL_52, aL_54, aL_56, aL_57, aL_58, aL_59, aL_60, aL_61, aL_62, aL_63, aL_64, aL_65, aL_66, aL_67, aL_68, aL_69, aL_70, aL_71, aL_72, aL_73, aL_74, aL_75, aL_76, aL_77, aL_78, aL_79, aL_80, aL_81, inb_nI, lit32, nI_clamp, nI_1, nI_add, if_pos, if_neg, b01_0, b01_1, Nat.add_sub_cancel, if_true, if_false, not_true_eq_false, not_false_eq_true, true_and, and_true, false_and, and_false, pk_sub, b01_n0, b01_n1, bI_t, bI_f, ofNat_nI, ck_d, Int32.lt_iff_toInt_lt, Int32.le_iff_toInt_le, i32_eq, nI_toInt, bI_b01, bI_0, decide_eq_true_eq, bI_tt, bI_ff, nI_prd, ↓reduceIte, iltT, iltF, ileT, ileF, ieqT, ieqF, dcT, dcF, or_true, or_false, true_or, false_or, t1, t10]
  · rintro s ⟨τ', q, E, rfl, hF', hu', hM', hL'⟩ rec
    have hr' := hF'.2.2
    have hp := hr'.2
    have t1 : gI τ' 9 (k + 1) = nI (fs (k + 1)) := (hF'.1 9 (k + 1) (by omega)).trans (p3.2.2.1 (k + 1) (by omega))
    generalize hw : gR τ' 12 4 = w at hL' hp
    generalize hv : gR τ' 12 5 = v at hp
    rw [hu'] at hp
    obtain ⟨wu, ww, wv, n1, n2, n3⟩ := hp.w
    have hub := wu.bd
    have hwb := ww.bd
    have hcn : cntB (sndB tm ls fs k) (fs (k + 1)) < 16 := by have := cntB_le (sndB tm ls fs k) (fs (k + 1)); omega
    have hq := Nat.le_trans hL'.2.1 (ffc_le c (by omega) _ hcn)
    obtain ⟨τ3, m', D', e1, a1, hM3, hP3⟩ := s_X5_keepGood (x2 := x1) (E := E) hr' b1 b2 (fun j hj => (hF'.1 2 j (by omega)).trans (p1.2.2.1 j hj).1) (fun j hj => (hF'.1 3 j (by omega)).trans (p1.2.2.2 j hj).1) ⟨(hF'.1 4 6 (by omega)).trans p2.1, fun i hi => let ⟨y1, y2, y3, _⟩ := p2.2.2 i hi; ⟨(hF'.1 5 i (by omega)).trans y1, (hF'.1 6 i (by omega)).trans y2, (hF'.1 7 i (by omega)).trans y3⟩⟩ (p3.fr (fun p k y => hF'.1 p k (by unfold S3 at y; omega))) hk hz hx1 hu' hw wu ww n1 hM' hP hq hL'.1 (fun a ha => ⟨(hL'.2.2.1 a ha).1.1, (hL'.2.2.1 a ha).2⟩) hL'.2.2.2
    have hF3 : FrS σ τ3 := hF'.ag a1 (fun p k y => by unfold Kp at y; omega) (fun p k y => ww.scl y)
    have hr3 := hF3.2.2
    have t3 : gR τ3 12 3 = u := (a1.2.2.2 12 3).trans hu'
    have t4 : gR τ3 12 4 = w := (a1.2.2.2 12 4).trans hw
    have t5 : gR τ3 12 5 = v := (a1.2.2.2 12 5).trans hv
    have t44 := hM3.1
    have hm' := hP3.1
    by_cases hm0 : m' = 0
    · subst hm0
      refine ⟨some (((-1 : Int32) - nI k).toInt64, τ3), Or.inl ⟨τ3, rfl, hF3, fun d hd => ?_⟩, ?_⟩
      · obtain ⟨a, ha, _⟩ := hP3.2.2 d hd
        omega
      · unfold f_X5_find_L30
        dsimp only
        rw [rf_12_1 hr', rf_4_4 hr', aL_9, show nI k + (1 : Int32) = nI (k + 1) from nI_add _ _, inb_nI (by omega), ck_d (by omega), nI_clamp (by omega), t1, if_pos (by rw [Int32.le_iff_toInt_le]; exact Int.le_refl _), e1, bd_eq, t4, t44, if_pos (show nI 0 = (0 : Int32) from rfl)]
    · have g3 : gR (pR (pR τ3 12 3 w) 12 4 u) 12 3 = w := by
        rw [gR_pR, if_neg (by omega), gR_pR, if_pos ⟨rfl, rfl⟩]
      have g4 : gR (pR (pR τ3 12 3 w) 12 4 u) 12 4 = u := by
        rw [gR_pR, if_pos ⟨rfl, rfl⟩]
      have g5 : gR (pR (pR τ3 12 3 w) 12 4 u) 12 5 = v := by
        rw [gR_pR, if_neg (by omega), gR_pR, if_neg (by omega)]; exact t5
      have hr4 : RefI (pR (pR τ3 12 3 w) 12 4 u) := hr3.sw (by omega) (by omega) (by rw [g3, g4, g5]; exact hp.s12)
      refine ⟨rec9 (nI (k + 1), pR (pR τ3 12 3 w) 12 4 u), Or.inr ⟨_, m', D', rfl, hF3.sw hr4, by omega, by rw [g3]; exact hM3, hP3⟩, ?_⟩
      unfold f_X5_find_L30
      dsimp only
      rw [rf_12_1 hr', rf_4_4 hr', aL_9, show nI k + (1 : Int32) = nI (k + 1) from nI_add _ _, inb_nI (by omega), ck_d (by omega), nI_clamp (by omega), t1, if_pos (by rw [Int32.le_iff_toInt_le]; exact Int.le_refl _), e1, bd_eq, t4, t44, if_neg (show ¬ nI m' = (0 : Int32) from fun y => hm0 ((nI_eq (b := 0) (by omega) (by omega)).1 y)), lB_eq, lB_eq, t3, lB_eq]
end
