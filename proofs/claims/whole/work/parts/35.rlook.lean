/-! the reference's look at a chord -/
theorem nth_ex {S : Nat → Bool} : ∀ {n t : Nat}, t < cntB S n → ∃ i, i < n ∧ S i = true ∧ cntB S i = t
  | 0, t, h => by unfold cntB at h; omega
  | n + 1, t, h => by
    by_cases c : S n = true
    · rw [cntB_t c] at h
      by_cases e : t = cntB S n
      · exact ⟨n, by omega, c, e.symm⟩
      · obtain ⟨i, h1, h2, h3⟩ := nth_ex (S := S) (n := n) (t := t) (by omega)
        exact ⟨i, by omega, h2, h3⟩
    · rw [cntB_f c] at h
      obtain ⟨i, h1, h2, h3⟩ := nth_ex (S := S) (n := n) (t := t) (by omega)
      exact ⟨i, by omega, h2, h3⟩
theorem cntB_mono (S : Nat → Bool) {a b : Nat} (hab : a ≤ b) : cntB S a ≤ cntB S b := by
  induction b with
  | zero => rw [show a = 0 by omega]; exact Nat.le_refl _
  | succ b ih =>
    by_cases e : a = b + 1
    · rw [e]; exact Nat.le_refl _
    · exact Nat.le_trans (ih (by omega)) (Nat.le_add_right _ _)
/-- what skips the silent ones depends on the count alone -/
theorem f_cnt {α : Type} {S : Nat → Bool} {f : Nat → α} (hf : ∀ j, ¬ S j = true → f (j + 1) = f j) : ∀ {a b : Nat}, cntB S a = cntB S b → f a = f b := by
  have up : ∀ a b, a ≤ b → cntB S a = cntB S b → f b = f a := by
    intro a b hab
    induction b with
    | zero => intro _; rw [show a = 0 by omega]
    | succ b ih =>
      intro h
      by_cases e : a = b + 1
      · rw [e]
      · have m1 := cntB_mono S (show a ≤ b by omega)
        have hb : ¬ S b = true := fun z => by rw [cntB_t z] at h; omega
        rw [hf b hb]
        rw [cntB_f hb] at h
        exact ih (by omega) h
  intro a b h
  rcases Nat.le_total a b with q | q
  · exact (up a b q h).symm
  · exact up b a q h.symm
theorem cnt_past {tm ls fs : Nat → Nat} {k n : Nat} (h : fs (k + 1) ≤ n) : cntB (sndB tm ls fs k) n = cntB (sndB tm ls fs k) (fs (k + 1)) := by
  induction n with
  | zero => rw [show fs (k + 1) = 0 by omega]
  | succ n ih =>
    by_cases e : fs (k + 1) = n + 1
    · rw [e]
    · rw [cntB_f (by unfold sndB; rw [decide_eq_false (by omega)]; decide)]
      exact ih (by omega)
/-- the reference at a chord: what lies how -/
def RLy (σ : Sg) (o tm pt ls fs : Nat → Nat) (z : Int) (n nk k : Nat) (d : Nat → Nat) : Prop := (∀ j, j < 5 → gI σ 56 j = nI (o j) ∧ o j ≤ 60) ∧ NM σ n tm pt ls ∧ RC σ n tm ls nk fs ∧ (gI σ 55 20).toInt = z ∧ (-12 ≤ z ∧ z ≤ 12) ∧ ∀ i, i < n → sndB tm ls fs k i = true → gI σ 66 i = nI (d i) ∧ d i < 5
def SL (p k : Nat) : Prop := p = 55 ∧ 21 ≤ k ∧ k ≤ 26
theorem RLy.ag {σ τ : Sg} {o tm pt ls fs : Nat → Nat} {z : Int} {n nk k : Nat} {d : Nat → Nat} (h : RLy σ o tm pt ls fs z n nk k d) (q : Ag SL (fun _ _ => False) σ τ) : RLy τ o tm pt ls fs z n nk k d :=
  ⟨fun j hj => ⟨(q.2.1 56 j (by unfold SL; omega)).trans (h.1 j hj).1, (h.1 j hj).2⟩, h.2.1.ag q (by unfold SL; omega) (fun p k h1 h2 z => by unfold SL at z; omega), h.2.2.1.ag q (fun p k z y => by unfold SR at z; unfold SL at y; omega), by rw [q.2.1 55 20 (by unfold SL; omega)]; exact h.2.2.2.1, h.2.2.2.2.1, fun i hi hs => ⟨(q.2.1 66 i (by unfold SL; omega)).trans (h.2.2.2.2.2 i hi hs).1, (h.2.2.2.2.2 i hi hs).2⟩⟩
theorem s_X9_fretOf {σ : Sg} {o tm pt ls fs d : Nat → Nat} {z : Int} {n nk k i : Nat} (hr : RefI σ) (b2 : Bn n tm pt ls) (h : RLy σ o tm pt ls fs z n nk k d) (hi : i < n) (hs : sndB tm ls fs k i = true) : ∃ x, f_X9_fretOf 55 (nI i) σ = some (x, σ) ∧ x.toInt = fret o pt z d i := by
  obtain ⟨h1, h2, h3, h4, h5, h6⟩ := h
  have hn := b2.1
  have bi := b2.2.1 i hi
  obtain ⟨d1, d2⟩ := h6 i hi hs
  obtain ⟨o1, o2⟩ := h1 (d i) d2
  have e58 := (h2.2 i hi).2.1
  refine ⟨nI (pt i) + gI σ 55 20 - nI (o (d i)), ?_, ?_⟩
  · unfold f_X9_fretOf
    simp (disch := first | assumption | omega) only [↓lB_eq, ↓bd_m, ck_tt, gI_pI, gI_pL, gI_pR, gL_pI, gL_pL, gL_pR, gR_pI, gR_pL, rf_0_0, rf_0_1, rf_0_2, rf_0_3, rf_0_4, rf_0_5, rf_0_6, rf_0_7, rf_0_8, rf_0_9, rf_0_10, rf_1_1, rf_1_2, rf_4_0, rf_4_1, rf_4_2, rf_4_3, rf_4_4, rf_4_5, rf_11_0, rf_11_1, rf_12_0, rf_12_1, rf_12_2, rf_12_6, rf_12_7, rf_12_8, rf_13_0, rf_13_1, rf_13_2, rf_13_3, rf_18_0, rf_18_1, rf_18_2, rf_18_3, rf_23_0, rf_23_1, rf_23_2, rf_23_3, rf_31_0, rf_33_0, rf_33_2, rf_33_3, rf_33_4, rf_37_0, rf_39_0, rf_39_1, rf_39_2, rf_39_3, rf_40_0, rf_40_1, rf_40_2, rf_40_3, rf_47_3, rf_49_3, rf_51_3, rf_53_3, rf_55_1, rf_55_7, rf_55_8, rf_55_9, rf_55_11, rf_55_13, rf_55_14, rf_55_15, rf_55_17, rf_55_18, rf_55_19, rf_55_27, rf_55_28, rf_55_29, rf_55_30, rf_55_31, rf_55_32, rf_55_33, rf_55_34, rf_55_35, rf_55_36, rf_55_38, rf_55_44, rf_55_45, rf_55_46, rf_55_47, aL_2, aL_3, aL_5, aL_6, aL_7, aL_8, aL_9, aL_10, aL_14, aL_15, aL_16, aL_17, aL_19, aL_20, aL_21, aL_22, aL_24, aL_25, aL_26, aL_27, aL_28, aL_29, aL_30, aL_32, aL_34, aL_35, aL_36, aL_38, aL_39, aL_40, aL_41, aL_42, aL_43, aL_44, aL_45, aL_46, aL_48, aL_50, aL_52, aL_54, aL_56, aL_57, aL_58, aL_59, aL_60, aL_61, aL_62, aL_63, aL_64, aL_65, aL_66, aL_67, aL_68, aL_69, aL_70, aL_71, aL_72, aL_73, aL_74, aL_75, aL_76, aL_77, aL_78, aL_79, aL_80, aL_81, inb_nI, lit32, nI_clamp, nI_1, nI_add, if_pos, if_neg, b01_0, b01_1, Nat.add_sub_cancel, if_true, if_false, not_true_eq_false, not_false_eq_true, true_and, and_true, false_and, and_false, pk_sub, b01_n0, b01_n1, bI_t, bI_f, ofNat_nI, ck_d, Int32.lt_iff_toInt_lt, Int32.le_iff_toInt_le, i32_eq, nI_toInt, bI_b01, bI_0, decide_eq_true_eq, bI_tt, bI_ff, nI_prd, ↓reduceIte, iltT, iltF, ileT, ileF, ieqT, ieqF, dcT, dcF, or_true, or_false, true_or, false_or, d1, o1, e58]
  · rw [fr_toInt (by omega) (by omega) (by omega), h4]; rfl
theorem s_X9_findsLow {σ : Sg} {o tm pt ls fs d : Nat → Nat} {z : Int} {n nk k : Nat} (hr : RefI σ) (b2 : Bn n tm pt ls) (hC : Ch n tm nk fs) (hk : k < nk) (h : RLy σ o tm pt ls fs z n nk k d) : ∃ σ', f_X9_findsLow 55 (nI k) σ = some ((), σ') ∧ Ag SL (fun _ _ => False) σ σ' ∧ (gI σ' 55 21).toInt = lowK o tm pt ls fs z k d ∧ gI σ' 55 22 = nI (posC (sndB tm ls fs k) (fret o pt z d) (fs (k + 1))) ∧ gI σ' 55 26 = nI (prsC (sndB tm ls fs k) (fret o pt z d) (fs k) (fs (k + 1))) := by
  have hn := b2.1
  have hnk := hC.nk_le
  have hM := hC.le (k := k + 1) (by omega)
  have hcl := cntB_le (sndB tm ls fs k) n
  have z0 : (0 : Int32).toInt = 0 := rfl
  unfold f_X9_findsLow
  simp only [lB_eq]
  refine fx_inv2 (I := fun t s => s.1 = nI t ∧ Ag SL (fun _ _ => False) σ s.2 ∧ ∃ m, m ≤ n ∧ cntB (sndB tm ls fs k) m = t ∧ (gI s.2 55 21).toInt = lowF (sndB tm ls fs k) (fret o pt z d) m ∧ gI s.2 55 22 = nI (posC (sndB tm ls fs k) (fret o pt z d) m) ∧ gI s.2 55 26 = nI (prsC (sndB tm ls fs k) (fret o pt z d) (fs k) m)) (Q := fun e => ∃ σ', e = some ((), σ') ∧ Ag SL (fun _ _ => False) σ σ' ∧ (gI σ' 55 21).toInt = lowK o tm pt ls fs z k d ∧ gI σ' 55 22 = nI (posC (sndB tm ls fs k) (fret o pt z d) (fs (k + 1))) ∧ gI σ' 55 26 = nI (prsC (sndB tm ls fs k) (fret o pt z d) (fs k) (fs (k + 1)))) (n := cntB (sndB tm ls fs k) n) ?_ ?_ (cntB (sndB tm ls fs k) n) 0 FU _ (by omega) (by unfold FU; omega) ⟨rfl, ((Ag.rf.pI (by unfold SL; omega)).pI (by unfold SL; omega)).pI (by unfold SL; omega), 0, by omega, rfl, rfl, rfl, rfl⟩
  · rintro t ⟨x, τ⟩ ht ⟨rfl, hA, m, hm, hmt, h21, h22, h26⟩ rec
    dsimp only at hA h21 h22 h26
    have hr2 : RefI τ := hA.ref hr
    have hL := h.ag hA
    obtain ⟨i, hi, hs, hit⟩ := nth_ex ht
    have e64 := hL.2.2.1.2.2.2 k hk i hi hs
    rw [hit] at e64
    have e65 := hL.2.2.1.2.2.1 k hk
    have e63 := hL.2.2.1.2.1 k hk
    have e57 := (hL.2.1.2 i hi).1
    have bi := b2.2.1 i hi
    have hfk := hC.2.2.1 k hk
    have bk := b2.2.1 (fs k) (by omega)
    obtain ⟨fx0, ef, hF⟩ := s_X9_fretOf hr2 b2 hL hi hs
    have c1 : lowF (sndB tm ls fs k) (fret o pt z d) m = lowF (sndB tm ls fs k) (fret o pt z d) i := f_cnt (S := sndB tm ls fs k) (f := lowF (sndB tm ls fs k) (fret o pt z d)) (fun j hj => if_neg (fun q => hj q.1)) (by omega)
    have c2 : posC (sndB tm ls fs k) (fret o pt z d) m = posC (sndB tm ls fs k) (fret o pt z d) i := f_cnt (S := sndB tm ls fs k) (f := posC (sndB tm ls fs k) (fret o pt z d)) (fun j hj => cntB_f (by simp [hj])) (by omega)
    have c3 : prsC (sndB tm ls fs k) (fret o pt z d) (fs k) m = prsC (sndB tm ls fs k) (fret o pt z d) (fs k) i := f_cnt (S := sndB tm ls fs k) (f := prsC (sndB tm ls fs k) (fret o pt z d) (fs k)) (fun j hj => cntB_f (by simp [hj])) (by omega)
    rw [c1] at h21
    rw [c2] at h22
    rw [c3] at h26
    have q2 : posC (sndB tm ls fs k) (fret o pt z d) i ≤ i := cntB_le _ _
    have q3 : prsC (sndB tm ls fs k) (fret o pt z d) (fs k) i ≤ i := cntB_le _ _
    have hlt : i < fs (k + 1) := by
      have := hs
      unfold sndB at this
      exact (of_decide_eq_true this).1
    have hti : tm i = tm (fs k) ↔ fs k ≤ i := by
      constructor
      · intro e
        obtain ⟨j, j1, j2, j3⟩ := hC.find hi
        have := (hC.at j1 j2 j3 hk).2.mp e
        subst this; exact j2
      · intro e; exact hC.2.2.2.1 k hk i e hlt
    have l0 := lowF_nn (S := sndB tm ls fs k) (F := fret o pt z d) i
    left
    have step : ∀ (lw : Int32) (a b : Nat), lw.toInt = lowF (sndB tm ls fs k) (fret o pt z d) (i + 1) → posC (sndB tm ls fs k) (fret o pt z d) (i + 1) = posC (sndB tm ls fs k) (fret o pt z d) i + a → prsC (sndB tm ls fs k) (fret o pt z d) (fs k) (i + 1) = prsC (sndB tm ls fs k) (fret o pt z d) (fs k) i + b → f_X9_findsLow_L17 55 (nI k) rec (nI t, τ) = rec (nI (t + 1), pI (pI (pI τ 55 21 lw) 55 22 (nI (posC (sndB tm ls fs k) (fret o pt z d) i + a))) 55 26 (nI (prsC (sndB tm ls fs k) (fret o pt z d) (fs k) i + b))) → ∃ s', (s'.1 = nI (t + 1) ∧ Ag SL (fun _ _ => False) σ s'.2 ∧ ∃ m, m ≤ n ∧ cntB (sndB tm ls fs k) m = t + 1 ∧ (gI s'.2 55 21).toInt = lowF (sndB tm ls fs k) (fret o pt z d) m ∧ gI s'.2 55 22 = nI (posC (sndB tm ls fs k) (fret o pt z d) m) ∧ gI s'.2 55 26 = nI (prsC (sndB tm ls fs k) (fret o pt z d) (fs k) m)) ∧ f_X9_findsLow_L17 55 (nI k) rec (nI t, τ) = rec s' := fun lw a b g1 g2 g3 g4 =>
      ⟨(nI (t + 1), pI (pI (pI τ 55 21 lw) 55 22 (nI (posC (sndB tm ls fs k) (fret o pt z d) i + a))) 55 26 (nI (prsC (sndB tm ls fs k) (fret o pt z d) (fs k) i + b))), ⟨rfl, ((hA.pI (by unfold SL; omega)).pI (by unfold SL; omega)).pI (by unfold SL; omega), i + 1, by omega, by rw [cntB_t hs, hit], g1, by rw [g2]; rfl, by rw [g3]; rfl⟩, g4⟩
    by_cases hp : 0 < fret o pt z d i
    · have g2 : posC (sndB tm ls fs k) (fret o pt z d) (i + 1) = posC (sndB tm ls fs k) (fret o pt z d) i + 1 := cntB_t (by rw [hs, decide_eq_true hp]; rfl)
      have hlow : ∃ lw : Int32, lw.toInt = lowF (sndB tm ls fs k) (fret o pt z d) (i + 1) ∧ (lw = fx0 ∧ (lowF (sndB tm ls fs k) (fret o pt z d) i = 0 ∨ fret o pt z d i < lowF (sndB tm ls fs k) (fret o pt z d) i) ∨ lw = gI τ 55 21 ∧ ¬ (lowF (sndB tm ls fs k) (fret o pt z d) i = 0 ∨ fret o pt z d i < lowF (sndB tm ls fs k) (fret o pt z d) i)) := by
        by_cases q : lowF (sndB tm ls fs k) (fret o pt z d) i = 0 ∨ fret o pt z d i < lowF (sndB tm ls fs k) (fret o pt z d) i
        · exact ⟨fx0, by rw [hF]; exact (if_pos ⟨hs, hp, q⟩).symm, Or.inl ⟨rfl, q⟩⟩
        · exact ⟨gI τ 55 21, by rw [h21]; exact (if_neg (fun w => q w.2.2)).symm, Or.inr ⟨rfl, q⟩⟩
      obtain ⟨lw, g1, hlw⟩ := hlow
      by_cases hb : fs k ≤ i
      · have g3 : prsC (sndB tm ls fs k) (fret o pt z d) (fs k) (i + 1) = prsC (sndB tm ls fs k) (fret o pt z d) (fs k) i + 1 := cntB_t (by rw [hs, decide_eq_true hb, decide_eq_true hp]; rfl)
        have ht2 := hti.mpr hb
        refine step lw 1 1 g1 g2 g3 ?_
        unfold f_X9_findsLow_L17 f_X9_findsLow_L68 f_X9_findsLow_L73 f_X9_findsLow_L77 f_X9_findsLow_L95 f_X9_findsLow_L128 f_X9_findsLow_L129
        dsimp only
        rcases hlw with ⟨rfl, q⟩ | ⟨rfl, q⟩
        · by_cases q0 : lowF (sndB tm ls fs k) (fret o pt z d) i = 0
          · simp (disch := first | assumption | omega) only [↓lB_eq, ↓bd_m, ck_tt, gI_pI, gI_pL, gI_pR, gL_pI, gL_pL, gL_pR, gR_pI, gR_pL, rf_0_0, rf_0_1, rf_0_2, rf_0_3, rf_0_4, rf_0_5, rf_0_6, rf_0_7, rf_0_8, rf_0_9, rf_0_10, rf_1_1, rf_1_2, rf_4_0, rf_4_1, rf_4_2, rf_4_3, rf_4_4, rf_4_5, rf_11_0, rf_11_1, rf_12_0, rf_12_1, rf_12_2, rf_12_6, rf_12_7, rf_12_8, rf_13_0, rf_13_1, rf_13_2, rf_13_3, rf_18_0, rf_18_1, rf_18_2, rf_18_3, rf_23_0, rf_23_1, rf_23_2, rf_23_3, rf_31_0, rf_33_0, rf_33_2, rf_33_3, rf_33_4, rf_37_0, rf_39_0, rf_39_1, rf_39_2, rf_39_3, rf_40_0, rf_40_1, rf_40_2, rf_40_3, rf_47_3, rf_49_3, rf_51_3, rf_53_3, rf_55_1, rf_55_7, rf_55_8, rf_55_9, rf_55_11, rf_55_13, rf_55_14, rf_55_15, rf_55_17, rf_55_18, rf_55_19, rf_55_27, rf_55_28, rf_55_29, rf_55_30, rf_55_31, rf_55_32, rf_55_33, rf_55_34, rf_55_35, rf_55_36, rf_55_38, rf_55_44, rf_55_45, rf_55_46, rf_55_47, aL_2, aL_3, aL_5, aL_6, aL_7, aL_8, aL_9, aL_10, aL_14, aL_15, aL_16, aL_17, aL_19, aL_20, aL_21, aL_22, aL_24, aL_25, aL_26, aL_27, aL_28, aL_29, aL_30, aL_32, aL_34, aL_35, aL_36, aL_38, aL_39, aL_40, aL_41, aL_42, aL_43, aL_44, aL_45, aL_46, aL_48, aL_50, aL_52, aL_54, aL_56, aL_57, aL_58, aL_59, aL_60, aL_61, aL_62, aL_63, aL_64, aL_65, aL_66, aL_67, aL_68, aL_69, aL_70, aL_71, aL_72, aL_73, aL_74, aL_75, aL_76, aL_77, aL_78, aL_79, aL_80, aL_81, inb_nI, lit32, nI_clamp, nI_1, nI_add, if_pos, if_neg, b01_0, b01_1, Nat.add_sub_cancel, if_true, if_false, not_true_eq_false, not_false_eq_true, true_and, and_true, false_and, and_false, pk_sub, b01_n0, b01_n1, bI_t, bI_f, ofNat_nI, ck_d, Int32.lt_iff_toInt_lt, Int32.le_iff_toInt_le, i32_eq, nI_toInt, bI_b01, bI_0, decide_eq_true_eq, bI_tt, bI_ff, nI_prd, ↓reduceIte, iltT, iltF, ileT, ileF, ieqT, ieqF, dcT, dcF, or_true, or_false, true_or, false_or, e65, nI_mul, e64, ef, e57, e63, h22, h26]
          · simp (disch := first | assumption | omega) only [↓lB_eq, ↓bd_m, ck_tt, gI_pI, gI_pL, gI_pR, gL_pI, gL_pL, gL_pR, gR_pI, gR_pL, rf_0_0, rf_0_1, rf_0_2, rf_0_3, rf_0_4, rf_0_5, rf_0_6, rf_0_7, rf_0_8, rf_0_9, rf_0_10, rf_1_1, rf_1_2, rf_4_0, rf_4_1, rf_4_2, rf_4_3, rf_4_4, rf_4_5, rf_11_0, rf_11_1, rf_12_0, rf_12_1, rf_12_2, rf_12_6, rf_12_7, rf_12_8, rf_13_0, rf_13_1, rf_13_2, rf_13_3, rf_18_0, rf_18_1, rf_18_2, rf_18_3, rf_23_0, rf_23_1, rf_23_2, rf_23_3, rf_31_0, rf_33_0, rf_33_2, rf_33_3, rf_33_4, rf_37_0, rf_39_0, rf_39_1, rf_39_2, rf_39_3, rf_40_0, rf_40_1, rf_40_2, rf_40_3, rf_47_3, rf_49_3, rf_51_3, rf_53_3, rf_55_1, rf_55_7, rf_55_8, rf_55_9, rf_55_11, rf_55_13, rf_55_14, rf_55_15, rf_55_17, rf_55_18, rf_55_19, rf_55_27, rf_55_28, rf_55_29, rf_55_30, rf_55_31, rf_55_32, rf_55_33, rf_55_34, rf_55_35, rf_55_36, rf_55_38, rf_55_44, rf_55_45, rf_55_46, rf_55_47, aL_2, aL_3, aL_5, aL_6, aL_7, aL_8, aL_9, aL_10, aL_14, aL_15, aL_16, aL_17, aL_19, aL_20, aL_21, aL_22, aL_24, aL_25, aL_26, aL_27, aL_28, aL_29, aL_30, aL_32, aL_34, aL_35, aL_36, aL_38, aL_39, aL_40, aL_41, aL_42, aL_43, aL_44, aL_45, aL_46, aL_48, aL_50, aL_52, aL_54, aL_56, aL_57, aL_58, aL_59, aL_60, aL_61, aL_62, aL_63, aL_64, aL_65, aL_66, aL_67, aL_68, aL_69, aL_70, aL_71, aL_72, aL_73, aL_74, aL_75, aL_76, aL_77, aL_78, aL_79, aL_80, aL_81, inb_nI, lit32, nI_clamp, nI_1, nI_add, if_pos, if_neg, b01_0, b01_1, Nat.add_sub_cancel, if_true, if_false, not_true_eq_false, not_false_eq_true, true_and, and_true, false_and, and_false, pk_sub, b01_n0, b01_n1, bI_t, bI_f, ofNat_nI, ck_d, Int32.lt_iff_toInt_lt, Int32.le_iff_toInt_le, i32_eq, nI_toInt, bI_b01, bI_0, decide_eq_true_eq, bI_tt, bI_ff, nI_prd, ↓reduceIte, iltT, iltF, ileT, ileF, ieqT, ieqF, dcT, dcF, or_true, or_false, true_or, false_or, e65, nI_mul, e64, ef, e57, e63, h22, h26]
        · simp (disch := first | assumption | omega) only [↓lB_eq, ↓bd_m, ck_tt, gI_pI, gI_pL, gI_pR, gL_pI, gL_pL, gL_pR, gR_pI, gR_pL, rf_0_0, rf_0_1, rf_0_2, rf_0_3, rf_0_4, rf_0_5, rf_0_6, rf_0_7, rf_0_8, rf_0_9, rf_0_10, rf_1_1, rf_1_2, rf_4_0, rf_4_1, rf_4_2, rf_4_3, rf_4_4, rf_4_5, rf_11_0, rf_11_1, rf_12_0, rf_12_1, rf_12_2, rf_12_6, rf_12_7, rf_12_8, rf_13_0, rf_13_1, rf_13_2, rf_13_3, rf_18_0, rf_18_1, rf_18_2, rf_18_3, rf_23_0, rf_23_1, rf_23_2, rf_23_3, rf_31_0, rf_33_0, rf_33_2, rf_33_3, rf_33_4, rf_37_0, rf_39_0, rf_39_1, rf_39_2, rf_39_3, rf_40_0, rf_40_1, rf_40_2, rf_40_3, rf_47_3, rf_49_3, rf_51_3, rf_53_3, rf_55_1, rf_55_7, rf_55_8, rf_55_9, rf_55_11, rf_55_13, rf_55_14, rf_55_15, rf_55_17, rf_55_18, rf_55_19, rf_55_27, rf_55_28, rf_55_29, rf_55_30, rf_55_31, rf_55_32, rf_55_33, rf_55_34, rf_55_35, rf_55_36, rf_55_38, rf_55_44, rf_55_45, rf_55_46, rf_55_47, aL_2, aL_3, aL_5, aL_6, aL_7, aL_8, aL_9, aL_10, aL_14, aL_15, aL_16, aL_17, aL_19, aL_20, aL_21, aL_22, aL_24, aL_25, aL_26, aL_27, aL_28, aL_29, aL_30, aL_32, aL_34, aL_35, aL_36, aL_38, aL_39, aL_40, aL_41, aL_42, aL_43, aL_44, aL_45, aL_46, aL_48, aL_50, aL_52, aL_54, aL_56, aL_57, aL_58, aL_59, aL_60, aL_61, aL_62, aL_63, aL_64, aL_65, aL_66, aL_67, aL_68, aL_69, aL_70, aL_71, aL_72, aL_73, aL_74, aL_75, aL_76, aL_77, aL_78, aL_79, aL_80, aL_81, inb_nI, lit32, nI_clamp, nI_1, nI_add, if_pos, if_neg, b01_0, b01_1, Nat.add_sub_cancel, if_true, if_false, not_true_eq_false, not_false_eq_true, true_and, and_true, false_and, and_false, pk_sub, b01_n0, b01_n1, bI_t, bI_f, ofNat_nI, ck_d, Int32.lt_iff_toInt_lt, Int32.le_iff_toInt_le, i32_eq, nI_toInt, bI_b01, bI_0, decide_eq_true_eq, bI_tt, bI_ff, nI_prd, ↓reduceIte, iltT, iltF, ileT, ileF, ieqT, ieqF, dcT, dcF, or_true, or_false, true_or, false_or, e65, nI_mul, e64, ef, e57, e63, h22, h26]
      · have g3 : prsC (sndB tm ls fs k) (fret o pt z d) (fs k) (i + 1) = prsC (sndB tm ls fs k) (fret o pt z d) (fs k) i + 0 := cntB_f (by rw [decide_eq_false hb]; simp)
        have ht2 : ¬ tm i = tm (fs k) := fun w => hb (hti.mp w)
        refine step lw 1 0 g1 g2 g3 ?_
        unfold f_X9_findsLow_L17 f_X9_findsLow_L68 f_X9_findsLow_L73 f_X9_findsLow_L77 f_X9_findsLow_L95 f_X9_findsLow_L128 f_X9_findsLow_L129
        dsimp only
        rcases hlw with ⟨rfl, q⟩ | ⟨rfl, q⟩
        · by_cases q0 : lowF (sndB tm ls fs k) (fret o pt z d) i = 0
          · simp (disch := first | assumption | omega) only [↓lB_eq, ↓bd_m, ck_tt, gI_pI, gI_pL, gI_pR, gL_pI, gL_pL, gL_pR, gR_pI, gR_pL, rf_0_0, rf_0_1, rf_0_2, rf_0_3, rf_0_4, rf_0_5, rf_0_6, rf_0_7, rf_0_8, rf_0_9, rf_0_10, rf_1_1, rf_1_2, rf_4_0, rf_4_1, rf_4_2, rf_4_3, rf_4_4, rf_4_5, rf_11_0, rf_11_1, rf_12_0, rf_12_1, rf_12_2, rf_12_6, rf_12_7, rf_12_8, rf_13_0, rf_13_1, rf_13_2, rf_13_3, rf_18_0, rf_18_1, rf_18_2, rf_18_3, rf_23_0, rf_23_1, rf_23_2, rf_23_3, rf_31_0, rf_33_0, rf_33_2, rf_33_3, rf_33_4, rf_37_0, rf_39_0, rf_39_1, rf_39_2, rf_39_3, rf_40_0, rf_40_1, rf_40_2, rf_40_3, rf_47_3, rf_49_3, rf_51_3, rf_53_3, rf_55_1, rf_55_7, rf_55_8, rf_55_9, rf_55_11, rf_55_13, rf_55_14, rf_55_15, rf_55_17, rf_55_18, rf_55_19, rf_55_27, rf_55_28, rf_55_29, rf_55_30, rf_55_31, rf_55_32, rf_55_33, rf_55_34, rf_55_35, rf_55_36, rf_55_38, rf_55_44, rf_55_45, rf_55_46, rf_55_47, aL_2, aL_3, aL_5, aL_6, aL_7, aL_8, aL_9, aL_10, aL_14, aL_15, aL_16, aL_17, aL_19, aL_20, aL_21, aL_22, aL_24, aL_25, aL_26, aL_27, aL_28, aL_29, aL_30, aL_32, aL_34, aL_35, aL_36, aL_38, aL_39, aL_40, aL_41, aL_42, aL_43, aL_44, aL_45, aL_46, aL_48, aL_50, aL_52, aL_54, aL_56, aL_57, aL_58, aL_59, aL_60, aL_61, aL_62, aL_63, aL_64, aL_65, aL_66, aL_67, aL_68, aL_69, aL_70, aL_71, aL_72, aL_73, aL_74, aL_75, aL_76, aL_77, aL_78, aL_79, aL_80, aL_81, inb_nI, lit32, nI_clamp, nI_1, nI_add, if_pos, if_neg, b01_0, b01_1, Nat.add_sub_cancel, if_true, if_false, not_true_eq_false, not_false_eq_true, true_and, and_true, false_and, and_false, pk_sub, b01_n0, b01_n1, bI_t, bI_f, ofNat_nI, ck_d, Int32.lt_iff_toInt_lt, Int32.le_iff_toInt_le, i32_eq, nI_toInt, bI_b01, bI_0, decide_eq_true_eq, bI_tt, bI_ff, nI_prd, ↓reduceIte, iltT, iltF, ileT, ileF, ieqT, ieqF, dcT, dcF, or_true, or_false, true_or, false_or, e65, nI_mul, e64, ef, e57, e63, h22, h26]
          · simp (disch := first | assumption | omega) only [↓lB_eq, ↓bd_m, ck_tt, gI_pI, gI_pL, gI_pR, gL_pI, gL_pL, gL_pR, gR_pI, gR_pL, rf_0_0, rf_0_1, rf_0_2, rf_0_3, rf_0_4, rf_0_5, rf_0_6, rf_0_7, rf_0_8, rf_0_9, rf_0_10, rf_1_1, rf_1_2, rf_4_0, rf_4_1, rf_4_2, rf_4_3, rf_4_4, rf_4_5, rf_11_0, rf_11_1, rf_12_0, rf_12_1, rf_12_2, rf_12_6, rf_12_7, rf_12_8, rf_13_0, rf_13_1, rf_13_2, rf_13_3, rf_18_0, rf_18_1, rf_18_2, rf_18_3, rf_23_0, rf_23_1, rf_23_2, rf_23_3, rf_31_0, rf_33_0, rf_33_2, rf_33_3, rf_33_4, rf_37_0, rf_39_0, rf_39_1, rf_39_2, rf_39_3, rf_40_0, rf_40_1, rf_40_2, rf_40_3, rf_47_3, rf_49_3, rf_51_3, rf_53_3, rf_55_1, rf_55_7, rf_55_8, rf_55_9, rf_55_11, rf_55_13, rf_55_14, rf_55_15, rf_55_17, rf_55_18, rf_55_19, rf_55_27, rf_55_28, rf_55_29, rf_55_30, rf_55_31, rf_55_32, rf_55_33, rf_55_34, rf_55_35, rf_55_36, rf_55_38, rf_55_44, rf_55_45, rf_55_46, rf_55_47, aL_2, aL_3, aL_5, aL_6, aL_7, aL_8, aL_9, aL_10, aL_14, aL_15, aL_16, aL_17, aL_19, aL_20, aL_21, aL_22, aL_24, aL_25, aL_26, aL_27, aL_28, aL_29, aL_30, aL_32, aL_34, aL_35, aL_36, aL_38, aL_39, aL_40, aL_41, aL_42, aL_43, aL_44, aL_45, aL_46, aL_48, aL_50, aL_52, aL_54, aL_56, aL_57, aL_58, aL_59, aL_60, aL_61, aL_62, aL_63, aL_64, aL_65, aL_66, aL_67, aL_68, aL_69, aL_70, aL_71, aL_72, aL_73, aL_74, aL_75, aL_76, aL_77, aL_78, aL_79, aL_80, aL_81, inb_nI, lit32, nI_clamp, nI_1, nI_add, if_pos, if_neg, b01_0, b01_1, Nat.add_sub_cancel, if_true, if_false, not_true_eq_false, not_false_eq_true, true_and, and_true, false_and, and_false, pk_sub, b01_n0, b01_n1, bI_t, bI_f, ofNat_nI, ck_d, Int32.lt_iff_toInt_lt, Int32.le_iff_toInt_le, i32_eq, nI_toInt, bI_b01, bI_0, decide_eq_true_eq, bI_tt, bI_ff, nI_prd, ↓reduceIte, iltT, iltF, ileT, ileF, ieqT, ieqF, dcT, dcF, or_true, or_false, true_or, false_or, e65, nI_mul, e64, ef, e57, e63, h22, h26]
        · simp (disch := first | assumption | omega) only [↓lB_eq, ↓bd_m, ck_tt, gI_pI, gI_pL, gI_pR, gL_pI, gL_pL, gL_pR, gR_pI, gR_pL, rf_0_0, rf_0_1, rf_0_2, rf_0_3, rf_0_4, rf_0_5, rf_0_6, rf_0_7, rf_0_8, rf_0_9, rf_0_10, rf_1_1, rf_1_2, rf_4_0, rf_4_1, rf_4_2, rf_4_3, rf_4_4, rf_4_5, rf_11_0, rf_11_1, rf_12_0, rf_12_1, rf_12_2, rf_12_6, rf_12_7, rf_12_8, rf_13_0, rf_13_1, rf_13_2, rf_13_3, rf_18_0, rf_18_1, rf_18_2, rf_18_3, rf_23_0, rf_23_1, rf_23_2, rf_23_3, rf_31_0, rf_33_0, rf_33_2, rf_33_3, rf_33_4, rf_37_0, rf_39_0, rf_39_1, rf_39_2, rf_39_3, rf_40_0, rf_40_1, rf_40_2, rf_40_3, rf_47_3, rf_49_3, rf_51_3, rf_53_3, rf_55_1, rf_55_7, rf_55_8, rf_55_9, rf_55_11, rf_55_13, rf_55_14, rf_55_15, rf_55_17, rf_55_18, rf_55_19, rf_55_27, rf_55_28, rf_55_29, rf_55_30, rf_55_31, rf_55_32, rf_55_33, rf_55_34, rf_55_35, rf_55_36, rf_55_38, rf_55_44, rf_55_45, rf_55_46, rf_55_47, aL_2, aL_3, aL_5, aL_6, aL_7, aL_8, aL_9, aL_10, aL_14, aL_15, aL_16, aL_17, aL_19, aL_20, aL_21, aL_22, aL_24, aL_25, aL_26, aL_27, aL_28, aL_29, aL_30, aL_32, aL_34, aL_35, aL_36, aL_38, aL_39, aL_40, aL_41, aL_42, aL_43, aL_44, aL_45, aL_46, aL_48, aL_50, aL_52, aL_54, aL_56, aL_57, aL_58, aL_59, aL_60, aL_61, aL_62, aL_63, aL_64, aL_65, aL_66, aL_67, aL_68, aL_69, aL_70, aL_71, aL_72, aL_73, aL_74, aL_75, aL_76, aL_77, aL_78, aL_79, aL_80, aL_81, inb_nI, lit32, nI_clamp, nI_1, nI_add, if_pos, if_neg, b01_0, b01_1, Nat.add_sub_cancel, if_true, if_false, not_true_eq_false, not_false_eq_true, true_and, and_true, false_and, and_false, pk_sub, b01_n0, b01_n1, bI_t, bI_f, ofNat_nI, ck_d, Int32.lt_iff_toInt_lt, Int32.le_iff_toInt_le, i32_eq, nI_toInt, bI_b01, bI_0, decide_eq_true_eq, bI_tt, bI_ff, nI_prd, ↓reduceIte, iltT, iltF, ileT, ileF, ieqT, ieqF, dcT, dcF, or_true, or_false, true_or, false_or, e65, nI_mul, e64, ef, e57, e63, h22, h26]
    · refine step (gI τ 55 21) 0 0 (by rw [h21]; exact (if_neg (fun w => hp w.2.1)).symm) (cntB_f (by rw [decide_eq_false hp]; simp)) (cntB_f (by rw [decide_eq_false hp]; simp)) ?_
      unfold f_X9_findsLow_L17 f_X9_findsLow_L68 f_X9_findsLow_L73 f_X9_findsLow_L77 f_X9_findsLow_L95 f_X9_findsLow_L128 f_X9_findsLow_L129
      dsimp only
      simp (disch := first | assumption | omega) only [↓lB_eq, ↓bd_m, ck_tt, gI_pI, gI_pL, gI_pR, gL_pI, gL_pL, gL_pR, gR_pI, gR_pL, rf_0_0, rf_0_1, rf_0_2, rf_0_3, rf_0_4, rf_0_5, rf_0_6, rf_0_7, rf_0_8, rf_0_9, rf_0_10, rf_1_1, rf_1_2, rf_4_0, rf_4_1, rf_4_2, rf_4_3, rf_4_4, rf_4_5, rf_11_0, rf_11_1, rf_12_0, rf_12_1, rf_12_2, rf_12_6, rf_12_7, rf_12_8, rf_13_0, rf_13_1, rf_13_2, rf_13_3, rf_18_0, rf_18_1, rf_18_2, rf_18_3, rf_23_0, rf_23_1, rf_23_2, rf_23_3, rf_31_0, rf_33_0, rf_33_2, rf_33_3, rf_33_4, rf_37_0, rf_39_0, rf_39_1, rf_39_2, rf_39_3, rf_40_0, rf_40_1, rf_40_2, rf_40_3, rf_47_3, rf_49_3, rf_51_3, rf_53_3, rf_55_1, rf_55_7, rf_55_8, rf_55_9, rf_55_11, rf_55_13, rf_55_14, rf_55_15, rf_55_17, rf_55_18, rf_55_19, rf_55_27, rf_55_28, rf_55_29, rf_55_30, rf_55_31, rf_55_32, rf_55_33, rf_55_34, rf_55_35, rf_55_36, rf_55_38, rf_55_44, rf_55_45, rf_55_46, rf_55_47, aL_2, aL_3, aL_5, aL_6, aL_7, aL_8, aL_9, aL_10, aL_14, aL_15, aL_16, aL_17, aL_19, aL_20, aL_21, aL_22, aL_24, aL_25, aL_26, aL_27, aL_28, aL_29, aL_30, aL_32, aL_34, aL_35, aL_36, aL_38, aL_39, aL_40, aL_41, aL_42, aL_43, aL_44, aL_45, aL_46, aL_48, aL_50, aL_52, aL_54, aL_56, aL_57, aL_58, aL_59, aL_60, aL_61, aL_62, aL_63, aL_64, aL_65, aL_66, aL_67, aL_68, aL_69, aL_70, aL_71, aL_72, aL_73, aL_74, aL_75, aL_76, aL_77, aL_78, aL_79, aL_80, aL_81, inb_nI, lit32, nI_clamp, nI_1, nI_add, if_pos, if_neg, b01_0, b01_1, Nat.add_sub_cancel, if_true, if_false, not_true_eq_false, not_false_eq_true, true_and, and_true, false_and, and_false, pk_sub, b01_n0, b01_n1, bI_t, bI_f, ofNat_nI, ck_d, Int32.lt_iff_toInt_lt, Int32.le_iff_toInt_le, i32_eq, nI_toInt, bI_b01, bI_0, decide_eq_true_eq, bI_tt, bI_ff, nI_prd, ↓reduceIte, iltT, iltF, ileT, ileF, ieqT, ieqF, dcT, dcF, or_true, or_false, true_or, false_or, e65, nI_mul, e64, ef, h22, h26]
  · rintro ⟨x, τ⟩ ⟨rfl, hA, m, hm, hmt, h21, h22, h26⟩ rec
    dsimp only at hA h21 h22 h26
    have hr2 : RefI τ := hA.ref hr
    have hL := h.ag hA
    have e65 := hL.2.2.1.2.2.1 k hk
    have hp := cnt_past (tm := tm) (ls := ls) (fs := fs) (k := k) hM
    refine ⟨some ((), τ), ⟨τ, rfl, hA, ?_, ?_, ?_⟩, ?_⟩
    · rw [h21]
      exact f_cnt (S := sndB tm ls fs k) (f := lowF (sndB tm ls fs k) (fret o pt z d)) (fun j hj => if_neg (fun q => hj q.1)) (by omega)
    · rw [h22]
      congr 1
      exact f_cnt (S := sndB tm ls fs k) (f := posC (sndB tm ls fs k) (fret o pt z d)) (fun j hj => cntB_f (by simp [hj])) (by omega)
    · rw [h26]
      congr 1
      exact f_cnt (S := sndB tm ls fs k) (f := prsC (sndB tm ls fs k) (fret o pt z d) (fs k)) (fun j hj => cntB_f (by simp [hj])) (by omega)
    · unfold f_X9_findsLow_L17
      dsimp only
      simp (disch := first | assumption | omega) only [↓lB_eq, ↓bd_m, ck_tt, gI_pI, gI_pL, gI_pR, gL_pI, gL_pL, gL_pR, gR_pI, gR_pL, rf_0_0, rf_0_1, rf_0_2, rf_0_3, rf_0_4, rf_0_5, rf_0_6, rf_0_7, rf_0_8, rf_0_9, rf_0_10, rf_1_1, rf_1_2, rf_4_0, rf_4_1, rf_4_2, rf_4_3, rf_4_4, rf_4_5, rf_11_0, rf_11_1, rf_12_0, rf_12_1, rf_12_2, rf_12_6, rf_12_7, rf_12_8, rf_13_0, rf_13_1, rf_13_2, rf_13_3, rf_18_0, rf_18_1, rf_18_2, rf_18_3, rf_23_0, rf_23_1, rf_23_2, rf_23_3, rf_31_0, rf_33_0, rf_33_2, rf_33_3, rf_33_4, rf_37_0, rf_39_0, rf_39_1, rf_39_2, rf_39_3, rf_40_0, rf_40_1, rf_40_2, rf_40_3, rf_47_3, rf_49_3, rf_51_3, rf_53_3, rf_55_1, rf_55_7, rf_55_8, rf_55_9, rf_55_11, rf_55_13, rf_55_14, rf_55_15, rf_55_17, rf_55_18, rf_55_19, rf_55_27, rf_55_28, rf_55_29, rf_55_30, rf_55_31, rf_55_32, rf_55_33, rf_55_34, rf_55_35, rf_55_36, rf_55_38, rf_55_44, rf_55_45, rf_55_46, rf_55_47, aL_2, aL_3, aL_5, aL_6, aL_7, aL_8, aL_9, aL_10, aL_14, aL_15, aL_16, aL_17, aL_19, aL_20, aL_21, aL_22, aL_24, aL_25, aL_26, aL_27, aL_28, aL_29, aL_30, aL_32, aL_34, aL_35, aL_36, aL_38, aL_39, aL_40, aL_41, aL_42, aL_43, aL_44, aL_45, aL_46, aL_48, aL_50, aL_52, aL_54, aL_56, aL_57, aL_58, aL_59, aL_60, aL_61, aL_62, aL_63, aL_64, aL_65, aL_66, aL_67, aL_68, aL_69, aL_70, aL_71, aL_72, aL_73, aL_74, aL_75, aL_76, aL_77, aL_78, aL_79, aL_80, aL_81, inb_nI, lit32, nI_clamp, nI_1, nI_add, if_pos, if_neg, b01_0, b01_1, Nat.add_sub_cancel, if_true, if_false, not_true_eq_false, not_false_eq_true, true_and, and_true, false_and, and_false, pk_sub, b01_n0, b01_n1, bI_t, bI_f, ofNat_nI, ck_d, Int32.lt_iff_toInt_lt, Int32.le_iff_toInt_le, i32_eq, nI_toInt, bI_b01, bI_0, decide_eq_true_eq, bI_tt, bI_ff, nI_prd, ↓reduceIte, iltT, iltF, ileT, ileF, ieqT, ieqF, dcT, dcF, or_true, or_false, true_or, false_or, e65]
