/-! tablature: both make it -/
section
variable {c n nk : Nat} {o g tm pt ls fs d : Nat → Nat}
theorem s_letterAt {σ : Sg} {k j : Nat} (hr : RefI σ) (b1 : Bl c o g) (b2 : Bn n tm pt ls) (p1 : P1 σ c o g) (p2 : P2 σ n tm pt ls) (p3 : P3 σ n tm ls nk fs) (hk : k < nk) (hj : j < c) (hd : ∀ i, i < n → gI σ 46 i = nI (d i) ∧ d i < c) (hp : ∀ i, i < n → o (d i) ≤ pt i) (hD : Dif fs d k) : f_X8_letterAt 0 (nI k) (nI j) σ = some (nI (letV o pt fs d k j), σ) := by
  have hn := b2.1
  have hc5 := b1.2.1
  have hnk := p3.1.nk_le
  have hf := p3.1.2.2.1 k hk
  have hM := p3.1.le (k := k + 1) (by omega)
  have f0 := p3.2.2.1 k (by omega)
  have f1 := p3.2.2.1 (k + 1) (by omega)
  have key : ∃ v, f_X8_letterAt 0 (nI k) (nI j) σ = some (nI v, σ) ∧ LetP o pt fs d k j v := by
    unfold f_X8_letterAt
    rw [rf_0_1 hr, rf_4_4 hr, aL_9, inb_nI (by omega), ck_d (by omega), lB_eq, nI_clamp (by omega), f0]
    refine fx_inv2 (I := fun e s => s = nI (fs k + e) ∧ ∀ m, fs k ≤ m → m < fs k + e → d m ≠ j) (Q := fun e => ∃ v, e = some (nI v, σ) ∧ LetP o pt fs d k j v) (n := fs (k + 1) - fs k) ?_ ?_ (fs (k + 1) - fs k) 0 FU _ (by omega) (by unfold FU; omega) ⟨rfl, fun m a b => by omega⟩
    · rintro e s he ⟨rfl, hz⟩ rec
      obtain ⟨d1, d2⟩ := hd (fs k + e) (by omega)
      have hpp := hp (fs k + e) (by omega)
      have bp := (b2.2.1 (fs k + e) (by omega)).2.1
      have ef := s_fretLaid (σ := σ) (n := n) (i := fs k + e) (pt := pt) (o := o) (d := d) (g := g) (tm := tm) (ls := ls) hr hc5 hn (fun k hk => (p1.2.2.1 k hk).1) (p2.2.2 (fs k + e) (by omega)).2.1 (by omega) ⟨d1, d2⟩
      have head : f_X8_letterAt_L10 0 (nI k) (nI j) σ rec (nI (fs k + e)) = (if nI (d (fs k + e)) = nI j then bd (f_X8_fretOfLaid 0 (nI (fs k + e)) σ) (fun r6 s5 => some (((97 : Int32) + r6), s5)) else rec (nI (fs k + e + 1))) := by
        unfold f_X8_letterAt_L10
        rw [rf_0_1 hr, rf_4_4 hr, aL_9, show nI k + (1 : Int32) = nI (k + 1) from nI_add _ _, inb_nI (by omega), ck_d (by omega), nI_clamp (by omega), f1, if_neg (by rw [Int32.le_iff_toInt_le, nI_toInt (by omega), nI_toInt (by omega)]; omega), rf_0_10 hr, aL_46, inb_nI (by omega), ck_d (by omega), nI_clamp (by omega), d1, lB_eq, nI_1]
      rw [head]
      by_cases q : d (fs k + e) = j
      · right
        refine ⟨some (nI (97 + (pt (fs k + e) - o j)), σ), ⟨_, rfl, Or.inl ⟨fs k + e, by omega, by omega, q, rfl⟩⟩, ?_⟩
        rw [q] at hpp ef
        rw [if_pos (by rw [q]), ef, bd_eq, pk_sub hpp]
        exact congrArg (fun z => some (z, σ)) (nI_add 97 _)
      · left
        refine ⟨nI (fs k + (e + 1)), ⟨rfl, fun m a b => ?_⟩, ?_⟩
        · by_cases em : m = fs k + e
          · rw [em]; exact q
          · exact hz m a (by omega)
        · rw [if_neg (fun y => q ((nI_eq (by omega) (by omega)).1 y))]; rfl
    · rintro s ⟨rfl, hz⟩ rec
      refine ⟨some (nI 45, σ), ⟨45, rfl, Or.inr ⟨fun m a b => hz m a (by omega), rfl⟩⟩, ?_⟩
      unfold f_X8_letterAt_L10
      rw [rf_0_1 hr, rf_4_4 hr, aL_9, show nI k + (1 : Int32) = nI (k + 1) from nI_add _ _, inb_nI (by omega), ck_d (by omega), nI_clamp (by omega), f1, if_pos (by rw [Int32.le_iff_toInt_le, nI_toInt (by omega), nI_toInt (by omega)]; omega)]
      rfl
  obtain ⟨v, e, hv⟩ := key
  rw [e, hv.v hD]
/-- the class's loop -/
theorem s_mkTab {σ : Sg} (hr : RefI σ) (b1 : Bl c o g) (b2 : Bn n tm pt ls) (p1 : P1 σ c o g) (p2 : P2 σ n tm pt ls) (p3 : P3 σ n tm ls nk fs) (hd : ∀ i, i < n → gI σ 46 i = nI (d i) ∧ d i < c) (hp : ∀ i, i < n → o (d i) ≤ pt i) (hD : ∀ k, k < nk → Dif fs d k) (h0 : gI σ 37 1 = nI 0) : ∃ τ, fx (f_X8_makeTablature_L26 0) FU (nI 0, σ) = some (1, τ) ∧ Ag S37 (fun _ _ => False) σ τ ∧ HsC τ (tabA c o tm pt fs d nk) := by
  have hn := b2.1
  have hc5 := b1.2.1
  have hnk := p3.1.nk_le
  refine fx_inv2 (I := fun k s => ∃ υ, s = (nI k, υ) ∧ Ag S37 (fun _ _ => False) σ υ ∧ HsC υ (tabA c o tm pt fs d k)) (Q := fun e => ∃ τ, e = some (1, τ) ∧ Ag S37 (fun _ _ => False) σ τ ∧ HsC τ (tabA c o tm pt fs d nk)) (n := nk) ?_ ?_ nk 0 FU _ (by omega) (by unfold FU; omega) ⟨σ, rfl, Ag.rf, h0, fun i hi => absurd hi (Nat.not_lt_zero _)⟩
  · rintro k s hk ⟨υ, rfl, hA, hH⟩ rec
    have hr2 : RefI υ := hA.ref hr
    have hf := p3.1.2.2.1 k hk
    have hM := p3.1.le (k := k + 1) (by omega)
    have hl := tabA_len (o := o) (tm := tm) (pt := pt) (fs := fs) (d := d) hc5 k
    have fr1 : ∀ p k, ¬ (p = 37 ∨ p = 38) → gI υ p k = gI σ p k := fun p k y => hA.2.1 p k (by unfold S37; omega)
    have t7 : gI υ 4 7 = nI nk := (fr1 4 7 (by omega)).trans p3.2.1
    have et := s_X2_timeOfChord (σ := υ) (n := n) (k := k) (tm := tm) (pt := pt) (ls := ls) (fs := fs) hr2 (p2.c.ag hA (by unfold S37; omega) (fun p k h1 h2 y => by unfold S37 at y; omega)) hn (by omega) ((fr1 9 k (by omega)).trans (p3.2.2.1 k (by omega))) (by omega)
    obtain ⟨υ1, e1, a1, q1⟩ := s_figs (t := tm (fs k)) hr2 (b2.2.1 (fs k) (by omega)).1 hH (by omega)
    have hl1 := figA_len (tabA c o tm pt fs d k) (tm (fs k))
    obtain ⟨υ2, e2, a2, q2⟩ := s_append (v := 58) (a1.ref hr2) q1 (by omega)
    have hA2 := (hA.tr a1).tr a2
    have hr4 : RefI υ2 := hA2.ref hr
    -- the letters
    have lets : ∃ υ3, fx (f_X8_makeTablature_L63 rec 0 (nI k)) FU (nI 0, υ2) = rec (nI (k + 1), υ3) ∧ Ag S37 (fun _ _ => False) σ υ3 ∧ HsC υ3 (tabA c o tm pt fs d (k + 1)) := by
      refine fx_inv2 (I := fun j s => ∃ ω, s = (nI j, ω) ∧ Ag S37 (fun _ _ => False) σ ω ∧ HsC ω (letA o pt fs d k (apS (figA (tabA c o tm pt fs d k) (tm (fs k))) 58) j)) (Q := fun e => ∃ υ3, e = rec (nI (k + 1), υ3) ∧ Ag S37 (fun _ _ => False) σ υ3 ∧ HsC υ3 (tabA c o tm pt fs d (k + 1))) (n := c) ?_ ?_ c 0 FU _ (by omega) (by unfold FU; omega) ⟨υ2, rfl, hA2, q2⟩
      · rintro j s hj ⟨ω, rfl, hB, hW⟩ rec'
        have hr5 : RefI ω := hB.ref hr
        have fr2 : ∀ p k, ¬ (p = 37 ∨ p = 38) → gI ω p k = gI σ p k := fun p k y => hB.2.1 p k (by unfold S37; omega)
        have el := s_letterAt (σ := ω) (k := k) (j := j) hr5 b1 b2 (p1.fr (fun p k y => fr2 p k (by unfold S1 at y; omega))) (p2.fr (fun p k y => fr2 p k (by unfold S2 at y; omega))) (p3.fr (fun p k y => fr2 p k (by unfold S3 at y; omega))) hk hj (fun i hi => ⟨(fr2 46 i (by omega)).trans (hd i hi).1, (hd i hi).2⟩) hp (hD k hk)
        have ll := letA_len o pt fs d k (apS (figA (tabA c o tm pt fs d k) (tm (fs k))) 58) j
        have ll2 : (apS (figA (tabA c o tm pt fs d k) (tm (fs k))) 58).1 = (figA (tabA c o tm pt fs d k) (tm (fs k))).1 + 1 := rfl
        obtain ⟨ω', e5, a5, q5⟩ := s_append (v := letV o pt fs d k j) hr5 hW (by omega)
        have t0 : gI ω 1 0 = nI c := (fr2 1 0 (by omega)).trans p1.1
        left
        refine ⟨(nI (j + 1), ω'), ⟨ω', rfl, hB.tr a5, q5⟩, ?_⟩
        unfold f_X8_makeTablature_L63
        dsimp only
        rw [rf_0_0 hr5, t0, if_neg (by rw [Int32.le_iff_toInt_le, nI_toInt (by omega), nI_toInt (by omega)]; omega), el, bd_eq, rf_0_6 hr5, e5, bd_eq, lB_eq, nI_1]
      · rintro s ⟨ω, rfl, hB, hW⟩ rec'
        have hr5 : RefI ω := hB.ref hr
        have t0 : gI ω 1 0 = nI c := (hB.2.1 1 0 (by unfold S37; omega)).trans p1.1
        have ll := letA_len o pt fs d k (apS (figA (tabA c o tm pt fs d k) (tm (fs k))) 58) c
        have ll2 : (apS (figA (tabA c o tm pt fs d k) (tm (fs k))) 58).1 = (figA (tabA c o tm pt fs d k) (tm (fs k))).1 + 1 := rfl
        obtain ⟨ω', e5, a5, q5⟩ := s_append (v := 59) hr5 hW (by omega)
        refine ⟨rec (nI (k + 1), ω'), ⟨ω', rfl, hB.tr a5, q5⟩, ?_⟩
        have e5' : f_X4_append 37 59 ω = some ((), ω') := e5
        unfold f_X8_makeTablature_L63
        dsimp only
        rw [rf_0_0 hr5, t0, if_pos (by rw [Int32.le_iff_toInt_le]; exact Int.le_refl _), rf_0_6 hr5, e5', bd_eq, lB_eq, nI_1]
    obtain ⟨υ3, e3, a3, q3⟩ := lets
    left
    refine ⟨(nI (k + 1), υ3), ⟨υ3, rfl, a3, q3⟩, ?_⟩
    rw [← e3]
    have e2' : f_X4_append 37 58 υ1 = some ((), υ2) := e2
    unfold f_X8_makeTablature_L26
    dsimp only
    rw [rf_0_1 hr2, t7, if_neg (by rw [Int32.le_iff_toInt_le, nI_toInt (by omega), nI_toInt (by omega)]; omega), et, bd_eq, rf_0_6 hr2, e1, bd_eq, rf_0_6 (a1.ref hr2), e2', bd_eq]
    rfl
  · rintro s ⟨υ, rfl, hA, hH⟩ rec
    have hr2 : RefI υ := hA.ref hr
    have t7 : gI υ 4 7 = nI nk := (hA.2.1 4 7 (by unfold S37; omega)).trans p3.2.1
    refine ⟨some (1, υ), ⟨υ, rfl, hA, hH⟩, ?_⟩
    unfold f_X8_makeTablature_L26
    dsimp only
    rw [rf_0_1 hr2, t7, if_pos (by rw [Int32.le_iff_toInt_le]; exact Int.le_refl _), ck_of b01_1]
/-- the reference's loop -/
theorem s_tab {σ : Sg} (hr : RefI σ) (b1 : Bl c o g) (b2 : Bn n tm pt ls) (p1 : P1 σ c o g) (p2 : P2 σ n tm pt ls) (hC : Ch n tm nk fs) (rc : RC σ n tm ls nk fs) (h20 : gI σ 55 20 = nI 0) (hd : ∀ i, i < n → gI σ 60 i = nI (d i) ∧ d i < c) (h66 : ∀ i, i < n → gI σ 66 i = nI (d i)) (hp : ∀ i, i < n → o (d i) ≤ pt i) (hD : ∀ k, k < nk → Dif fs d k) (h0 : gI σ 55 37 = nI 0) : ∃ τ, fx (f_X9_tablature_L17 55) FU (nI 0, σ) = some (nI (tabA c o tm pt fs d nk).1, τ) ∧ Ag S76 (fun _ _ => False) σ τ ∧ HsM τ (tabA c o tm pt fs d nk) := by
  have hn := b2.1
  have hc5 := b1.2.1
  have hnk := hC.nk_le
  refine fx_inv2 (I := fun k s => ∃ υ, s = (nI k, υ) ∧ Ag S76 (fun _ _ => False) σ υ ∧ HsM υ (tabA c o tm pt fs d k)) (Q := fun e => ∃ τ, e = some (nI (tabA c o tm pt fs d nk).1, τ) ∧ Ag S76 (fun _ _ => False) σ τ ∧ HsM τ (tabA c o tm pt fs d nk)) (n := nk) ?_ ?_ nk 0 FU _ (by omega) (by unfold FU; omega) ⟨σ, rfl, Ag.rf, h0, fun i hi => absurd hi (Nat.not_lt_zero _)⟩
  · rintro k s hk ⟨υ, rfl, hA, hH⟩ rec
    have hr2 : RefI υ := hA.ref hr
    have hf := hC.2.2.1 k hk
    have hM := hC.le (k := k + 1) (by omega)
    have hl := tabA_len (o := o) (tm := tm) (pt := pt) (fs := fs) (d := d) hc5 k
    have t16 : gI υ 55 16 = nI nk := (hA.2.1 55 16 (by unfold S76; omega)).trans rc.1
    have t63 : gI υ 63 k = nI (tm (fs k)) := (hA.2.1 63 k (by unfold S76; omega)).trans (rc.2.1 k hk)
    have btk := (b2.2.1 (fs k) (by omega)).1
    obtain ⟨υ1, e1, a1, q1⟩ := s_wtime (t := tm (fs k)) hr2 btk hH (by omega)
    have hl1 := figA_len (tabA c o tm pt fs d k) (tm (fs k))
    obtain ⟨υ2, e2, a2, q2⟩ := s_writes (v := 58) (a1.ref hr2) q1 (by omega)
    have hA2 := (hA.tr a1).tr a2
    have lets : ∃ υ3, fx (f_X9_tablature_L43 rec 55 (nI k)) FU (nI 0, υ2) = rec (nI (k + 1), υ3) ∧ Ag S76 (fun _ _ => False) σ υ3 ∧ HsM υ3 (tabA c o tm pt fs d (k + 1)) := by
      refine fx_inv2 (I := fun j s => ∃ ω, s = (nI j, ω) ∧ Ag S76 (fun _ _ => False) σ ω ∧ HsM ω (letA o pt fs d k (apS (figA (tabA c o tm pt fs d k) (tm (fs k))) 58) j)) (Q := fun e => ∃ υ3, e = rec (nI (k + 1), υ3) ∧ Ag S76 (fun _ _ => False) σ υ3 ∧ HsM υ3 (tabA c o tm pt fs d (k + 1))) (n := c) ?_ ?_ c 0 FU _ (by omega) (by unfold FU; omega) ⟨υ2, rfl, hA2, q2⟩
      · rintro j s hj ⟨ω, rfl, hB, hW⟩ rec'
        have hr5 : RefI ω := hB.ref hr
        have fr2 : ∀ p k, ¬ ((p = 55 ∧ k = 37) ∨ p = 76) → gI ω p k = gI σ p k := fun p k y => hB.2.1 p k (by unfold S76; omega)
        have t0 : gI ω 55 0 = nI c := (fr2 55 0 (by omega)).trans p1.2.1
        have t10 : gI ω 55 10 = nI n := (fr2 55 10 (by omega)).trans p2.2.1
        have w63 : gI ω 63 k = nI (tm (fs k)) := (fr2 63 k (by omega)).trans (rc.2.1 k hk)
        have ll := letA_len o pt fs d k (apS (figA (tabA c o tm pt fs d k) (tm (fs k))) 58) j
        have ll2 : (apS (figA (tabA c o tm pt fs d k) (tm (fs k))) 58).1 = (figA (tabA c o tm pt fs d k) (tm (fs k))).1 + 1 := rfl
        obtain ⟨ω', e5, a5, q5⟩ := s_writes (v := letV o pt fs d k j) hr5 hW (by omega)
        have inner : fx (f_X9_tablature_L57 rec rec' 55 (nI k) (nI j)) FU (nI 45, nI 0, ω) = rec' (nI (j + 1), ω') := by
          have key : ∃ v, LetP o pt fs d k j v ∧ fx (f_X9_tablature_L57 rec rec' 55 (nI k) (nI j)) FU (nI 45, nI 0, ω) = bd (f_X9_writes 55 (nI v) ω) (fun _ s1 => lB (nI j + (1 : Int32)) fun v2 => rec' (v2, s1)) := by
            refine fx_inv2 (I := fun m s => ∃ v, s = (nI v, nI m, ω) ∧ ((∃ i, i < m ∧ tm i = tm (fs k) ∧ d i = j ∧ v = 97 + (pt i - o j)) ∨ ((∀ i, i < m → tm i = tm (fs k) → d i ≠ j) ∧ v = 45))) (Q := fun e => ∃ v, LetP o pt fs d k j v ∧ e = bd (f_X9_writes 55 (nI v) ω) (fun _ s1 => lB (nI j + (1 : Int32)) fun v2 => rec' (v2, s1))) (n := n) ?_ ?_ n 0 FU _ (by omega) (by unfold FU; omega) ⟨45, rfl, Or.inr ⟨fun i hi => by omega, rfl⟩⟩
            · rintro m s hm ⟨v, rfl, hv⟩ rec''
              obtain ⟨_, _, _, m1, m2, _⟩ := p2.2.2 m hm
              have bm := b2.2.1 m hm
              have w57 : gI ω 57 m = nI (tm m) := (fr2 57 m (by omega)).trans m1
              have w58 : gI ω 58 m = nI (pt m) := (fr2 58 m (by omega)).trans m2
              obtain ⟨d1, d2⟩ := hd m hm
              have w60 : gI ω 60 m = nI (d m) := (fr2 60 m (by omega)).trans d1
              have w66 : gI ω 66 m = nI (d m) := (fr2 66 m (by omega)).trans (h66 m hm)
              have w56 : gI ω 56 (d m) = nI (o (d m)) := (fr2 56 _ (by omega)).trans (p1.2.2.1 (d m) (by omega)).2
              have w20 : gI ω 55 20 = nI 0 := (fr2 55 20 (by omega)).trans h20
              have hpm := hp m hm
              left
              by_cases q1 : tm m = tm (fs k)
              · by_cases q2 : d m = j
                · have ef : f_X9_fretOf 55 (nI m) ω = some (nI (pt m - o j), ω) := by
                    have hpj : o j ≤ pt m := by rw [← q2]; exact hpm
                    rw [q2] at w66 w56
                    unfold f_X9_fretOf
                    simp (disch := first | assumption | omega) only [↓lB_eq, ↓bd_m, ck_tt, gI_pI, gI_pL, gI_pR, gL_pI, gL_pL, gL_pR, gR_pI, gR_pL, rf_0_0, rf_0_1, rf_0_2, rf_0_3, rf_0_4, rf_0_5, rf_0_6, rf_0_7, rf_0_8, rf_0_9, rf_0_10, rf_1_1, rf_1_2, rf_4_0, rf_4_1, rf_4_2, rf_4_3, rf_4_4, rf_4_5, rf_11_0, rf_11_1, rf_12_0, rf_12_1, rf_12_2, rf_12_6, rf_12_7, rf_12_8, rf_13_0, rf_13_1, rf_13_2, rf_13_3, rf_18_0, rf_18_1, rf_18_2, rf_18_3, rf_23_0, rf_23_1, rf_23_2, rf_23_3, rf_31_0, rf_33_0, rf_33_2, rf_33_3, rf_33_4, rf_37_0, rf_39_0, rf_39_1, rf_39_2, rf_39_3, rf_40_0, rf_40_1, rf_40_2, rf_40_3, rf_47_3, rf_49_3, rf_51_3, rf_53_3, rf_55_1, rf_55_7, rf_55_8, rf_55_9, rf_55_11, rf_55_13, rf_55_14, rf_55_15, rf_55_17, rf_55_18, rf_55_19, rf_55_27, rf_55_28, rf_55_29, rf_55_30, rf_55_31, rf_55_32, rf_55_33, rf_55_34, rf_55_35, rf_55_36, rf_55_38, rf_55_44, rf_55_45, rf_55_46, rf_55_47, aL_2, aL_3, aL_5, aL_6, aL_7, aL_8, aL_9, aL_10, aL_14, aL_15, aL_16, aL_17, aL_19, aL_20, aL_21, aL_22, aL_24, aL_25, aL_26, aL_27, aL_28, aL_29, aL_30, aL_32, aL_34, aL_35, aL_36, aL_38, aL_39, aL_40, aL_41, aL_42, aL_43, aL_44, aL_45, aL_46, aL_48, aL_50, aL_52, aL_54, aL_56, aL_57, aL_58, aL_59, aL_60, aL_61, aL_62, aL_63, aL_64, aL_65, aL_66, aL_67, aL_68, aL_69, aL_70, aL_71, aL_72, aL_73, aL_74, aL_75, aL_76, aL_77, aL_78, aL_79, aL_80, aL_81, inb_nI, lit32, nI_clamp, nI_1, nI_add, if_pos, if_neg, b01_0, b01_1, Nat.add_sub_cancel, if_true, if_false, not_true_eq_false, not_false_eq_true, true_and, and_true, false_and, and_false, pk_sub, b01_n0, b01_n1, bI_t, bI_f, ofNat_nI, ck_d, Int32.lt_iff_toInt_lt, Int32.le_iff_toInt_le, i32_eq, nI_toInt, bI_b01, bI_0, decide_eq_true_eq, bI_tt, bI_ff, nI_prd, ↓reduceIte, iltT, iltF, ileT, ileF, ieqT, ieqF, dcT, dcF, or_true, or_false, true_or, false_or, w66, w56, w58, w20, Nat.add_zero]
                  refine ⟨(nI (97 + (pt m - o j)), nI (m + 1), ω), ⟨_, rfl, Or.inl ⟨m, by omega, q1, q2, rfl⟩⟩, ?_⟩
                  unfold f_X9_tablature_L57 f_X9_tablature_L106
                  dsimp only
                  rw [t10, if_neg (by rw [Int32.le_iff_toInt_le, nI_toInt (by omega), nI_toInt (by omega)]; omega), rf_55_7 hr5, aL_57, inb_nI (by omega), ck_d (by omega), rf_55_15 hr5, aL_63, inb_nI (by omega), ck_d (by omega), nI_clamp (by omega), nI_clamp (by omega), w57, w63, if_pos (by rw [q1]), rf_55_11 hr5, aL_60, inb_nI (by omega), ck_d (by omega), w60, if_pos (by rw [q2]), ef, bd_eq, lB_eq, nI_1, show (97 : Int32) + nI (pt m - o j) = nI (97 + (pt m - o j)) from nI_add 97 _]
                · refine ⟨(nI v, nI (m + 1), ω), ⟨v, rfl, ?_⟩, ?_⟩
                  · rcases hv with ⟨i, y1, y2, y3, y4⟩ | ⟨y1, y2⟩
                    · exact Or.inl ⟨i, by omega, y2, y3, y4⟩
                    · refine Or.inr ⟨fun i hi ht => ?_, y2⟩
                      by_cases e : i = m
                      · rw [e]; exact q2
                      · exact y1 i (by omega) ht
                  · unfold f_X9_tablature_L57 f_X9_tablature_L105 f_X9_tablature_L106
                    dsimp only
                    rw [t10, if_neg (by rw [Int32.le_iff_toInt_le, nI_toInt (by omega), nI_toInt (by omega)]; omega), rf_55_7 hr5, aL_57, inb_nI (by omega), ck_d (by omega), rf_55_15 hr5, aL_63, inb_nI (by omega), ck_d (by omega), nI_clamp (by omega), nI_clamp (by omega), w57, w63, if_pos (by rw [q1]), rf_55_11 hr5, aL_60, inb_nI (by omega), ck_d (by omega), w60, if_neg (fun y => q2 ((nI_eq (by omega) (by omega)).1 y)), lB_eq, nI_1]
              · refine ⟨(nI v, nI (m + 1), ω), ⟨v, rfl, ?_⟩, ?_⟩
                · rcases hv with ⟨i, y1, y2, y3, y4⟩ | ⟨y1, y2⟩
                  · exact Or.inl ⟨i, by omega, y2, y3, y4⟩
                  · refine Or.inr ⟨fun i hi ht => ?_, y2⟩
                    by_cases e : i = m
                    · rw [e] at ht; exact absurd ht q1
                    · exact y1 i (by omega) ht
                · unfold f_X9_tablature_L57 f_X9_tablature_L105 f_X9_tablature_L106
                  dsimp only
                  rw [t10, if_neg (by rw [Int32.le_iff_toInt_le, nI_toInt (by omega), nI_toInt (by omega)]; omega), rf_55_7 hr5, aL_57, inb_nI (by omega), ck_d (by omega), rf_55_15 hr5, aL_63, inb_nI (by omega), ck_d (by omega), nI_clamp (by omega), nI_clamp (by omega), w57, w63, if_neg (fun y => q1 ((nI_eq (by omega) (by omega)).1 y)), lB_eq, nI_1]
            · rintro s ⟨v, rfl, hv⟩ rec''
              refine ⟨_, ⟨v, ?_, rfl⟩, ?_⟩
              · have at' : ∀ i, i < n → (tm i = tm (fs k) ↔ fs k ≤ i ∧ i < fs (k + 1)) := fun i hi => by
                  obtain ⟨j', hj', j1, j2⟩ := hC.find hi
                  have h := (hC.at hj' j1 j2 hk).2
                  constructor
                  · intro y; rw [← h.1 y]; exact ⟨j1, j2⟩
                  · rintro ⟨y1, y2⟩
                    exact hC.2.2.2.1 k hk i y1 y2
                rcases hv with ⟨i, y1, y2, y3, y4⟩ | ⟨y1, y2⟩
                · obtain ⟨z1, z2⟩ := (at' i y1).1 y2
                  exact Or.inl ⟨i, z1, z2, y3, y4⟩
                · exact Or.inr ⟨fun i z1 z2 => y1 i (by omega) ((at' i (by omega)).2 ⟨z1, z2⟩), y2⟩
              · unfold f_X9_tablature_L57
                dsimp only
                rw [t10, if_pos (by rw [Int32.le_iff_toInt_le]; exact Int.le_refl _)]
          obtain ⟨v, hv, e⟩ := key
          rw [e, hv.v (hD k hk), e5, bd_eq, lB_eq, nI_1]
        left
        refine ⟨(nI (j + 1), ω'), ⟨ω', rfl, hB.tr a5, q5⟩, ?_⟩
        rw [← inner]
        unfold f_X9_tablature_L43
        dsimp only
        rw [t0, if_neg (by rw [Int32.le_iff_toInt_le, nI_toInt (by omega), nI_toInt (by omega)]; omega)]
        rfl
      · rintro s ⟨ω, rfl, hB, hW⟩ rec'
        have hr5 : RefI ω := hB.ref hr
        have t0 : gI ω 55 0 = nI c := (hB.2.1 55 0 (by unfold S76; omega)).trans p1.2.1
        have ll := letA_len o pt fs d k (apS (figA (tabA c o tm pt fs d k) (tm (fs k))) 58) c
        have ll2 : (apS (figA (tabA c o tm pt fs d k) (tm (fs k))) 58).1 = (figA (tabA c o tm pt fs d k) (tm (fs k))).1 + 1 := rfl
        obtain ⟨ω', e5, a5, q5⟩ := s_writes (v := 59) hr5 hW (by omega)
        refine ⟨rec (nI (k + 1), ω'), ⟨ω', rfl, hB.tr a5, q5⟩, ?_⟩
        have e5' : f_X9_writes 55 59 ω = some ((), ω') := e5
        unfold f_X9_tablature_L43
        dsimp only
        rw [t0, if_pos (by rw [Int32.le_iff_toInt_le]; exact Int.le_refl _), e5', bd_eq, lB_eq, nI_1]
    obtain ⟨υ3, e3, a3, q3⟩ := lets
    left
    refine ⟨(nI (k + 1), υ3), ⟨υ3, rfl, a3, q3⟩, ?_⟩
    rw [← e3]
    have e2' : f_X9_writes 55 58 υ1 = some ((), υ2) := e2
    unfold f_X9_tablature_L17
    dsimp only
    rw [t16, if_neg (by rw [Int32.le_iff_toInt_le, nI_toInt (by omega), nI_toInt (by omega)]; omega), rf_55_15 hr2, aL_63, inb_nI (by omega), ck_d (by omega), nI_clamp (by omega), t63, e1, bd_eq, e2', bd_eq]
    rfl
  · rintro s ⟨υ, rfl, hA, hH⟩ rec
    have t16 : gI υ 55 16 = nI nk := (hA.2.1 55 16 (by unfold S76; omega)).trans rc.1
    refine ⟨some (nI (tabA c o tm pt fs d nk).1, υ), ⟨υ, rfl, hA, hH⟩, ?_⟩
    unfold f_X9_tablature_L17
    dsimp only
    rw [t16, if_pos (by rw [Int32.le_iff_toInt_le]; exact Int.le_refl _), hH.1]
end
