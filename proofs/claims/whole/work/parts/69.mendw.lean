/-! mend, write -/
theorem s_X8_mendLoop {τ : Sg} {c n nk V : Nat} {o g tm pt ls fs d : Nat → Nat} {v : Int64} (hr : RefI τ) (b1 : Bl c o g) (b2 : Bn n tm pt ls) (hC : Ch n tm nk fs) (hd : GoodTo c o g tm pt ls fs 0 99 nk d) (h46 : gI τ 4 6 = nI n) (hv : v = lN (keyD o g tm pt ls fs 0 nk d)) (hco : ∀ σ, f_X5_costOf v σ = some (nI V, σ)) : ∃ υ, fx (f_X8_mend_L20 0 v) FU (nI 0, τ) = some (nI V, pI υ 0 11 1) ∧ Ag (fun p _ => p = 46) (fun _ _ => False) τ υ ∧ ∀ i, i < n → gI υ 46 i = nI (d i) := by
  have hn := b2.1
  have hfn : fs nk = n := hC.2.1
  obtain ⟨cb, _, d5⟩ := key_bd b1 b2 hC (by omega) (Nat.le_refl _) hd
  rw [keyD_dg (by omega), hfn] at hv
  refine fx_inv2 (I := fun i s => s.1 = nI i ∧ Ag (fun p _ => p = 46) (fun _ _ => False) τ s.2 ∧ ∀ j, j < i → gI s.2 46 j = nI (d j)) (Q := fun e => ∃ υ, e = some (nI V, pI υ 0 11 1) ∧ Ag (fun p _ => p = 46) (fun _ _ => False) τ υ ∧ ∀ i, i < n → gI υ 46 i = nI (d i)) (n := n) ?_ ?_ n 0 FU _ (by omega) (by unfold FU; omega) ⟨rfl, Ag.rf, fun j hj => by omega⟩
  · rintro i ⟨x, υ⟩ hi ⟨rfl, hA, hz⟩ rec
    dsimp only at hA hz
    have hr2 : RefI υ := hA.ref hr
    have t46 : gI υ 4 6 = nI n := (hA.2.1 4 6 (by omega)).trans h46
    have ec := s_X5_courseIn (σ := υ) (A := costTo o g tm pt ls fs 0 nk d) (i := i) (f := dg allB d n) (fun j _ => dg_lt (fun j hj _ => by have := d5 j (by omega); omega) j) (by omega) (by omega)
    rw [← hv, dg_t (S := allB) hi rfl] at ec
    left
    refine ⟨(nI (i + 1), pI υ 46 i (nI (d i))), ⟨rfl, hA.pI rfl, fun j hj => ?_⟩, ?_⟩
    · rw [gI_pI]
      by_cases e : j = i
      · subst e; rw [if_pos ⟨rfl, rfl⟩]
      · rw [if_neg (by omega)]; exact hz j (by omega)
    · unfold f_X8_mend_L20
      dsimp only
      simp (disch := first | assumption | omega) only [↓lB_eq, ↓bd_m, ck_tt, gI_pI, gI_pL, gI_pR, gL_pI, gL_pL, gL_pR, gR_pI, gR_pL, rf_0_0, rf_0_1, rf_0_2, rf_0_3, rf_0_4, rf_0_5, rf_0_6, rf_0_7, rf_0_8, rf_0_9, rf_0_10, rf_1_1, rf_1_2, rf_4_0, rf_4_1, rf_4_2, rf_4_3, rf_4_4, rf_4_5, rf_11_0, rf_11_1, rf_12_0, rf_12_1, rf_12_2, rf_12_6, rf_12_7, rf_12_8, rf_13_0, rf_13_1, rf_13_2, rf_13_3, rf_18_0, rf_18_1, rf_18_2, rf_18_3, rf_23_0, rf_23_1, rf_23_2, rf_23_3, rf_31_0, rf_33_0, rf_33_2, rf_33_3, rf_33_4, rf_37_0, rf_39_0, rf_39_1, rf_39_2, rf_39_3, rf_40_0, rf_40_1, rf_40_2, rf_40_3, rf_47_3, rf_49_3, rf_51_3, rf_53_3, rf_55_1, rf_55_7, rf_55_8, rf_55_9, rf_55_11, rf_55_13, rf_55_14, rf_55_15, rf_55_17, rf_55_18, rf_55_19, rf_55_27, rf_55_28, rf_55_29, rf_55_30, rf_55_31, rf_55_32, rf_55_33, rf_55_34, rf_55_35, rf_55_36, rf_55_38, rf_55_44, rf_55_45, rf_55_46, rf_55_47, aL_2, aL_3, aL_5, aL_6, aL_7, aL_8, aL_9, aL_10, aL_14, aL_15, aL_16, aL_17, aL_19, aL_20, aL_21, aL_22, aL_24, aL_25, aL_26, aL_27, aL_28, aL_29, aL_30, aL_32, aL_34, aL_35, aL_36, aL_38, aL_39, aL_40, aL_41, aL_42, aL_43, aL_44, aL_45, aL_46, aL_48, aL_50, aL_52, aL_54, aL_56, aL_57, aL_58, aL_59, aL_60, aL_61, aL_62, aL_63, aL_64, aL_65, aL_66, aL_67, aL_68, aL_69, aL_70, aL_71, aL_72, aL_73, aL_74, aL_75, aL_76, aL_77, aL_78, aL_79, aL_80, aL_81, inb_nI, lit32, nI_clamp, nI_1, nI_add, if_pos, if_neg, b01_0, b01_1, Nat.add_sub_cancel, if_true, if_false, not_true_eq_false, not_false_eq_true, true_and, and_true, false_and, and_false, pk_sub, b01_n0, b01_n1, bI_t, bI_f, ofNat_nI, ck_d, Int32.lt_iff_toInt_lt, Int32.le_iff_toInt_le, i32_eq, nI_toInt, bI_b01, bI_0, decide_eq_true_eq, bI_tt, bI_ff, nI_prd, ↓reduceIte, iltT, iltF, ileT, ileF, ieqT, ieqF, dcT, dcF, or_true, or_false, true_or, false_or, t46, ec]
  · rintro ⟨x, υ⟩ ⟨rfl, hA, hz⟩ rec
    dsimp only at hA hz
    have hr2 : RefI υ := hA.ref hr
    have t46 : gI υ 4 6 = nI n := (hA.2.1 4 6 (by omega)).trans h46
    refine ⟨some (nI V, pI υ 0 11 1), ⟨υ, rfl, hA, hz⟩, ?_⟩
    unfold f_X8_mend_L20
    dsimp only
    rw [rf_0_1 hr2, t46, if_pos (by rw [Int32.le_iff_toInt_le]; exact Int.le_refl _), ck_of b01_1, lB_eq, hco, bd_eq]
theorem m_mend {σ : Sg} (h : Rel σ) : Both σ (f_X8_mend 0) (f_X9_mend 55) := by
  obtain ⟨hr, c, n, nk, t, o, g, tm, pt, ls, fs, d, tb, il, b1, b2, p1, p2, p3, p4, p5, p6, p7, p8, p9⟩ := id h
  have hn := b2.1
  have hfn : fs nk = n := p3.1.2.1
  have hE : EnvS σ c n nk t o g tm pt ls fs d tb il := ⟨hr, b1, b2, p1, p2, p3, p4, p6, p8, p9⟩
  obtain ⟨v, τ, e1, f1, q1, ha⟩ := s_X5_inKey (x := 0) hE (by decide)
  rw [show (0 : Int32).toInt = 0 from rfl] at ha
  have hE1 := hE.fr f1 q1
  have hl := ha.lb b1 b2 p3.1 (by omega)
  rcases ha with ⟨d', g1, g2, g3⟩ | ⟨k, g1, g2, g3, g4⟩
  · have hpos : 0 ≤ v.toInt := by rw [g2]; exact Int.natCast_nonneg _
    rcases hl with ⟨_, V, hV, hlv, hco⟩ | ⟨hneg, _⟩
    · have kb := (key_bd b1 b2 p3.1 (z := 0) (by omega) (Nat.le_refl _) g1).2.1
      have hv : v = lN (keyD o g tm pt ls fs 0 nk d') := Int64.toInt_inj.mp (by rw [g2, pk_lT (by omega)])
      obtain ⟨υ, e2, a2, l2⟩ := s_X8_mendLoop hE1.1 b1 b2 p3.1 g1 hE1.2.2.2.2.1.1 hv hco
      have hr2 : RefI (pI υ 0 11 1) := a2.ref hE1.1
      have key2 : ∀ p k, ¬ (p = 46 ∨ (p = 0 ∧ k = 11)) → gI (pI υ 0 11 1) p k = gI τ p k := fun p k y => by
        rw [gI_pI, if_neg (by omega)]; exact a2.2.1 p k (by omega)
      obtain ⟨τ3, M, DD, e3, a3, _, hRE, hT, hR⟩ := s_X9_now2 hr2 b1 b2 (hE1.2.2.2.1.fr (fun p k y => key2 p k (by unfold S1 at y; omega))) (hE1.2.2.2.2.1.fr (fun p k y => key2 p k (by unfold S2 at y; omega))) p3.1 ((key2 55 20 (by omega)).trans hE1.2.2.2.2.2.2.2.2.1.2)
      obtain ⟨υ4, e4, a4, l4⟩ := s_X9_mendLoop (x1 := nI V) hRE b1 b2 p3.1 hT hR ⟨g1, g3⟩
      have key3 : ∀ p k, ¬ (p = 46 ∨ p = 60 ∨ (p = 0 ∧ k = 11) ∨ (p = 55 ∧ (k = 12 ∨ k = 16 ∨ (21 ≤ k ∧ k ≤ 26))) ∨ (63 ≤ p ∧ p ≤ 75)) → gI (pI υ4 55 12 1) p k = gI τ p k := fun p k y => by
        rw [gI_pI, if_neg (by omega), a4.2.1 p k (by omega), a3.2.1 p k (by unfold SR FM SL; omega)]
        exact key2 p k (by omega)
      have key : ∀ p k, ¬ (p = 11 ∨ (13 ≤ p ∧ p ≤ 28) ∨ (33 ≤ p ∧ p ≤ 38) ∨ (63 ≤ p ∧ p ≤ 76) ∨ p = 30 ∨ p = 46 ∨ p = 60 ∨ (p = 0 ∧ k = 11) ∨ (p = 55 ∧ (k = 12 ∨ k = 16 ∨ (21 ≤ k ∧ k ≤ 26) ∨ k = 37 ∨ (40 ≤ k ∧ k ≤ 43)))) → gI (pI υ4 55 12 1) p k = gI σ p k := fun p k y => by
        rw [key3 p k (by omega)]; exact f1.1 p k (by unfold Sc; omega)
      have keyL0 : ∀ p k, gL (pI υ4 55 12 1) p k = gL τ p k := fun p k => by
        rw [gL_pI, a4.2.2.1 p k id, a3.2.2.1 p k id, gL_pI]; exact a2.2.2.1 p k id
      have keyL : ∀ p k, ¬ (p = 14 ∨ p = 17 ∨ p = 19 ∨ p = 22 ∨ p = 24 ∨ p = 27 ∨ p = 81 ∨ p = 29) → gL (pI υ4 55 12 1) p k = gL σ p k := fun p k y => by
        rw [keyL0]; exact f1.2.1 p k (by unfold ScL; omega)
      refine ⟨nI V, pI υ 0 11 1, pI υ4 55 12 1, ?_, ?_, a4.ref (a3.ref hr2), c, n, nk, t, o, g, tm, pt, ls, fs, d', tb, true, b1, b2, (p1.fr fun p k z => key p k (by unfold S1 at z; omega)), (p2.fr fun p k z => key p k (by unfold S2 at z; omega)), (p3.fr fun p k z => key p k (by unfold S3 at z; omega)), ⟨?_, ?_, fun _ i hi => ⟨?_, ?_, g1.lt p3.1 (Nat.le_refl _) (by omega)⟩⟩, (p5.fr fun p k z => key p k (by unfold S5 at z; omega)), (p6.fr fun p k z => key p k (by unfold S6 at z; omega)), (p7.fr (fun p k z => key p k (by unfold S7 at z; omega)) (fun p k z => keyL p k (by unfold S7L at z; omega))), (p8.fr fun p k z => key p k (by unfold S8 at z; omega)), q1.fr (fun k => key3 30 k (by omega)) (fun k => keyL0 29 k)⟩
      · unfold f_X8_mend
        rw [rf_0_3 hr, e1, bd_eq, if_pos (lg0p hpos)]
        exact e2
      · unfold f_X9_mend
        rw [e3, bd_eq, hlv, if_neg (nI_m1 hV)]
        exact e4
      · rw [gI_pI, if_neg (by omega), a4.2.1 0 11 (by omega), a3.2.1 0 11 (by unfold SR FM SL; omega), gI_pI, if_pos ⟨rfl, rfl⟩]; rfl
      · rw [gI_pI, if_pos ⟨rfl, rfl⟩]; rfl
      · rw [gI_pI, if_neg (by omega), a4.2.1 46 i (by omega), a3.2.1 46 i (by unfold SR FM SL; omega), gI_pI, if_neg (by omega)]; exact l2 i hi
      · rw [gI_pI, if_neg (by omega)]; exact l4 i hi
    · omega
  · rcases hl with ⟨hpos, _⟩ | ⟨hneg, hlv⟩
    · omega
    · obtain ⟨υ, e2, f2, q2⟩ := v_leastNow (σ0 := σ) τ hE1 f1
      refine ⟨-3, τ, υ, ?_, ?_, Rel.back hE p5 p7 (f1.tr f2) q2⟩
      · unfold f_X8_mend
        rw [rf_0_3 hr, e1, bd_eq, if_neg (lg0n hneg)]
      · unfold f_X9_mend
        rw [e2, bd_eq, hlv, if_pos rfl]
/-! write -/
def mx (σ τ : Sg) : Sg := (σ.1, τ.2.1, σ.2.2.1, σ.2.2.2)
theorem s_fretLaid {σ : Sg} {c n i : Nat} {o g tm pt ls d : Nat → Nat} (hr : RefI σ) (hc : c ≤ 5) (hn : n ≤ 14) (ho : ∀ k, k < 5 → gI σ 2 k = nI (o k)) (hp : gI σ 6 i = nI (pt i)) (hi : i < n) (hd : gI σ 46 i = nI (d i) ∧ d i < c) : f_X8_fretOfLaid 0 (nI i) σ = some (nI (pt i) - nI (o (d i)), σ) := by
  have ho2 := ho (d i) (by omega)
  unfold f_X8_fretOfLaid
  rw [rf_0_1 hr, rf_4_1 hr, rf_0_10 hr, rf_0_0 hr, rf_1_1 hr, nI_clamp (by omega), hd.1, nI_clamp (by omega), hp, ho2, inb_nI (by omega), inb_nI (by omega), inb_nI (by omega), aL_6, aL_46, aL_2, ck_d (by omega), ck_d (by omega), ck_d (by omega)]
theorem m_write {σ : Sg} (h : Rel σ) (x : Int32) : Both σ (f_X8_write 0 x) (f_X9_write 55 x) := by
  obtain ⟨hr, c, n, nk, t, o, g, tm, pt, ls, fs, d, tb, il, b1, b2, p1, p2, p3, p4, p5, p6, p7, p8, p9⟩ := id h
  have hn := b2.1
  have hc5 := b1.2.1
  by_cases hx : 0 ≤ x.toInt ∧ x.toInt ≤ 3
  · obtain ⟨s, hs, rfl⟩ : ∃ a, a < 4 ∧ x = nI a := ⟨x.toInt.toNat, by omega, i32_nI (by omega)⟩
    have r47 := rf47 hr hs
    have r39 := rf39 hr hs
    rcases p7 s hs with ⟨q1, q2⟩ | ⟨q1, f, z, hf, hz, q2, q3, q4, q5, q6⟩
    · refine ⟨-10 - 1, pI σ 0 12 1, pI (pI σ 0 12 1) 55 48 1, ?_, ?_, h.find 1⟩
      · unfold f_X8_write
        rw [s_X8_refusal_l hr hs q1, bd_eq, if_neg (by decide)]
      · unfold f_X9_write
        have hr1 : RefI (pI σ 0 12 1) := hr
        have g78 : gI (pI σ 0 12 1) 78 s = -1 := by rw [gI_pI, if_neg (by omega)]; exact q2
        rw [s_X9_isSheet, bd_eq, nI_toInt (by omega), decide_eq_true (by omega), if_neg (by decide), rf_55_44 hr1, aL_78, inb_nI (by omega), ck_d (by omega), nI_clamp (by omega), g78, if_pos rfl, s_X9_meets, bd_eq]
    · have f1n : ¬ nI f = -1 := nI_m1 (by omega)
      cases il with
      | false =>
        refine ⟨-3, σ, σ, ?_, ?_, h⟩
        · unfold f_X8_write
          rw [s_X8_refusal_o hr hs q1, bd_eq, if_pos rfl, p4.1, if_pos (by decide)]
        · unfold f_X9_write
          rw [s_X9_isSheet, bd_eq, nI_toInt (by omega), decide_eq_true (by omega), if_neg (by decide), rf_55_44 hr, aL_78, inb_nI (by omega), ck_d (by omega), nI_clamp (by omega), q3, if_neg f1n, p4.2.1, if_pos (by decide)]
      | true =>
        let u : Nat → Int64 := fun i => inForm f (nI (pt i) - nI (o (d i))).toInt64
        have k48 := aL48 hs
        -- the class
        have hC : ∃ σ1, fx (f_X8_write_L45 0 (nI s) (nI (min z n))) FU (nI 0, σ) = some (nI (min z n), σ1) ∧ Ag (fun _ _ => False) (fun p _ => p = 48 + 2 * s) σ σ1 ∧ (∀ i, i < min z n → gL σ1 (48 + 2 * s) i = u i) ∧ ∀ i, min z n ≤ i → gL σ1 (48 + 2 * s) i = gL σ (48 + 2 * s) i := by
          refine fx_inv2 (I := fun i w => w.1 = nI i ∧ Ag (fun _ _ => False) (fun p _ => p = 48 + 2 * s) σ w.2 ∧ (∀ j, j < i → gL w.2 (48 + 2 * s) j = u j) ∧ ∀ j, i ≤ j → gL w.2 (48 + 2 * s) j = gL σ (48 + 2 * s) j) (Q := fun e => ∃ σ1, e = some (nI (min z n), σ1) ∧ Ag (fun _ _ => False) (fun p _ => p = 48 + 2 * s) σ σ1 ∧ (∀ i, i < min z n → gL σ1 (48 + 2 * s) i = u i) ∧ ∀ i, min z n ≤ i → gL σ1 (48 + 2 * s) i = gL σ (48 + 2 * s) i) (n := min z n) ?_ ?_ (min z n) 0 FU _ (by omega) (by unfold FU; omega) ⟨rfl, Ag.rf, fun j hj => by omega, fun _ _ => rfl⟩
          · rintro i ⟨y, υ⟩ hi ⟨rfl, hA, hz1, hz2⟩ rec
            dsimp only at hA hz1 hz2
            have hr2 : RefI υ := hA.ref hr
            have ef := s_fretLaid (σ := υ) (n := n) (i := i) (pt := pt) (o := o) (d := d) (g := g) (tm := tm) (ls := ls) hr2 hc5 hn (fun k hk => (hA.2.1 2 k id).trans (p1.2.2.1 k hk).1) ((hA.2.1 6 i id).trans (p2.2.2 i (by omega)).2.1) (by omega) ⟨(hA.2.1 46 i id).trans (p4.2.2 rfl i (by omega)).1, (p4.2.2 rfl i (by omega)).2.2⟩
            have es := s_X6_store (i := i) hr2 hs hf ((hA.2.1 _ 1 id).trans q2) (by omega) (nI (pt i) - nI (o (d i))).toInt64
            left
            refine ⟨(nI (i + 1), pL υ (48 + 2 * s) i (u i)), ⟨rfl, hA.pL rfl, fun j hj => ?_, fun j hj => ?_⟩, ?_⟩
            · rw [gL_pL]
              by_cases e : j = i
              · subst e; rw [if_pos ⟨rfl, rfl⟩]
              · rw [if_neg (by omega)]; exact hz1 j (by omega)
            · rw [gL_pL, if_neg (by omega)]; exact hz2 j (by omega)
            · unfold f_X8_write_L45
              dsimp only
              rw [if_neg (by rw [Int32.le_iff_toInt_le, nI_toInt (by omega), nI_toInt (by omega)]; omega), rf_0_7 hr2, aL_39, inb_nI (by omega), ck_d (by omega), ef, bd_eq, nI_clamp (by omega), rf39 hr2 hs, es, bd_eq, lB_eq, nI_1]
          · rintro ⟨y, υ⟩ ⟨rfl, hA, hz1, hz2⟩ rec
            dsimp only at hA hz1 hz2
            refine ⟨some (nI (min z n), υ), ⟨υ, rfl, hA, hz1, hz2⟩, ?_⟩
            unfold f_X8_write_L45
            dsimp only
            rw [if_pos (by rw [Int32.le_iff_toInt_le]; exact Int.le_refl _)]
        obtain ⟨σ1, e1, a1, l1, l1'⟩ := hC
        have hr1 : RefI σ1 := a1.ref hr
        obtain ⟨σ2, e2, a2, l2⟩ := s_X9_laysAll (n := n) (d := d) hr1 hn ((a1.2.1 55 10 id).trans p2.2.1) (fun i hi => (a1.2.1 60 i id).trans (p4.2.2 rfl i hi).2.1)
        have hr2 : RefI σ2 := a2.ref hr1
        have key2 : ∀ p k, p ≠ 66 → gI σ2 p k = gI σ p k := fun p k y => (a2.2.1 p k y).trans (a1.2.1 p k id)
        have hM : ∃ σ3, fx (f_X9_write_L42 55 (nI s)) FU (nI 0, σ2) = some (nI (min z n), σ3) ∧ Ag (fun _ _ => False) (fun p k => p = 80 ∧ 48 * s ≤ k ∧ k < 48 * s + 48) σ2 σ3 ∧ (∀ i, i < min z n → gL σ3 80 (48 * s + i) = u i) ∧ ∀ i, min z n ≤ i → gL σ3 80 (48 * s + i) = gL σ2 80 (48 * s + i) := by
          refine fx_inv2 (I := fun i w => w.1 = nI i ∧ Ag (fun _ _ => False) (fun p k => p = 80 ∧ 48 * s ≤ k ∧ k < 48 * s + 48) σ2 w.2 ∧ (∀ j, j < i → gL w.2 80 (48 * s + j) = u j) ∧ ∀ j, i ≤ j → gL w.2 80 (48 * s + j) = gL σ2 80 (48 * s + j)) (Q := fun e => ∃ σ3, e = some (nI (min z n), σ3) ∧ Ag (fun _ _ => False) (fun p k => p = 80 ∧ 48 * s ≤ k ∧ k < 48 * s + 48) σ2 σ3 ∧ (∀ i, i < min z n → gL σ3 80 (48 * s + i) = u i) ∧ ∀ i, min z n ≤ i → gL σ3 80 (48 * s + i) = gL σ2 80 (48 * s + i)) (n := min z n) ?_ ?_ (min z n) 0 FU _ (by omega) (by unfold FU; omega) ⟨rfl, Ag.rf, fun j hj => by omega, fun _ _ => rfl⟩
          · rintro i ⟨y, υ⟩ hi ⟨rfl, hA, hz1, hz2⟩ rec
            dsimp only at hA hz1 hz2
            have hr3 : RefI υ := hA.ref hr2
            have ku : ∀ p k, p ≠ 66 → gI υ p k = gI σ p k := fun p k y => (hA.2.1 p k id).trans (key2 p k y)
            have u79 := (ku 79 s (by omega)).trans q5
            have u78 := (ku 78 s (by omega)).trans q3
            have u10 := (ku 55 10 (by omega)).trans p2.2.1
            have hdi := (p4.2.2 rfl i (by omega)).2.2
            have u66 : gI υ 66 i = nI (d i) := (hA.2.1 66 i id).trans (l2 i (by omega))
            have u58 := (ku 58 i (by omega)).trans (p2.2.2 i (by omega)).2.2.2.2.1
            have u20 := (ku 55 20 (by omega)).trans p8.2
            have u56 := (ku 56 (d i) (by omega)).trans (p1.2.2.1 (d i) (by omega)).2
            have ef : f_X9_fretOf 55 (nI i) υ = some (nI (pt i) - nI (o (d i)), υ) := by
              unfold f_X9_fretOf
              simp (disch := first | assumption | omega) only [↓lB_eq, ↓bd_m, ck_tt, gI_pI, gI_pL, gI_pR, gL_pI, gL_pL, gL_pR, gR_pI, gR_pL, rf_0_0, rf_0_1, rf_0_2, rf_0_3, rf_0_4, rf_0_5, rf_0_6, rf_0_7, rf_0_8, rf_0_9, rf_0_10, rf_1_1, rf_1_2, rf_4_0, rf_4_1, rf_4_2, rf_4_3, rf_4_4, rf_4_5, rf_11_0, rf_11_1, rf_12_0, rf_12_1, rf_12_2, rf_12_6, rf_12_7, rf_12_8, rf_13_0, rf_13_1, rf_13_2, rf_13_3, rf_18_0, rf_18_1, rf_18_2, rf_18_3, rf_23_0, rf_23_1, rf_23_2, rf_23_3, rf_31_0, rf_33_0, rf_33_2, rf_33_3, rf_33_4, rf_37_0, rf_39_0, rf_39_1, rf_39_2, rf_39_3, rf_40_0, rf_40_1, rf_40_2, rf_40_3, rf_47_3, rf_49_3, rf_51_3, rf_53_3, rf_55_1, rf_55_7, rf_55_8, rf_55_9, rf_55_11, rf_55_13, rf_55_14, rf_55_15, rf_55_17, rf_55_18, rf_55_19, rf_55_27, rf_55_28, rf_55_29, rf_55_30, rf_55_31, rf_55_32, rf_55_33, rf_55_34, rf_55_35, rf_55_36, rf_55_38, rf_55_44, rf_55_45, rf_55_46, rf_55_47, aL_2, aL_3, aL_5, aL_6, aL_7, aL_8, aL_9, aL_10, aL_14, aL_15, aL_16, aL_17, aL_19, aL_20, aL_21, aL_22, aL_24, aL_25, aL_26, aL_27, aL_28, aL_29, aL_30, aL_32, aL_34, aL_35, aL_36, aL_38, aL_39, aL_40, aL_41, aL_42, aL_43, aL_44, aL_45, aL_46, aL_48, aL_50, aL_52, aL_54, aL_56, aL_57, aL_58, aL_59, aL_60, aL_61, aL_62, aL_63, aL_64, aL_65, aL_66, aL_67, aL_68, aL_69, aL_70, aL_71, aL_72, aL_73, aL_74, aL_75, aL_76, aL_77, aL_78, aL_79, aL_80, aL_81, inb_nI, lit32, nI_clamp, nI_1, nI_add, if_pos, if_neg, b01_0, b01_1, Nat.add_sub_cancel, if_true, if_false, not_true_eq_false, not_false_eq_true, true_and, and_true, false_and, and_false, pk_sub, b01_n0, b01_n1, bI_t, bI_f, ofNat_nI, ck_d, Int32.lt_iff_toInt_lt, Int32.le_iff_toInt_le, i32_eq, nI_toInt, bI_b01, bI_0, decide_eq_true_eq, bI_tt, bI_ff, nI_prd, ↓reduceIte, iltT, iltF, ileT, ileF, ieqT, ieqF, dcT, dcF, or_true, or_false, true_or, false_or, u66, u56, u58, u20, Nat.add_zero]
            left
            refine ⟨(nI (i + 1), pL υ 80 (48 * s + i) (u i)), ⟨rfl, hA.pL ⟨rfl, by omega, by omega⟩, fun j hj => ?_, fun j hj => ?_⟩, ?_⟩
            · rw [gL_pL]
              by_cases e : j = i
              · subst e; rw [if_pos ⟨rfl, rfl⟩]
              · rw [if_neg (by omega)]; exact hz1 j (by omega)
            · rw [gL_pL, if_neg (by omega)]; exact hz2 j (by omega)
            · unfold f_X9_write_L42 f_X9_write_L95
              dsimp only
              rw [rf_55_45 hr3, aL_79, inb_nI (by omega), ck_d (by omega), nI_clamp (by omega), u79, if_neg (by rw [Int32.le_iff_toInt_le, nI_toInt (by omega), nI_toInt (by omega)]; omega), u10, if_neg (by rw [Int32.le_iff_toInt_le, nI_toInt (by omega), nI_toInt (by omega)]; omega), rf_55_44 hr3, aL_78, inb_nI (by omega), ck_d (by omega), u78]
              have e48 : (48 : Int32) * nI s + nI i = nI (48 * s + i) := by rw [show (48 : Int32) = nI 48 from rfl, nI_mul, nI_add]
              by_cases h0 : f = 0
              · have eu : u i = (nI (pt i) - nI (o (d i))).toInt8.toInt32.toInt64 := by
                  show inForm f _ = _
                  unfold inForm
                  rw [if_pos h0, Int32.toInt32_toInt64]
                rw [if_pos (by rw [h0]; rfl), ef, bd_eq, rf_55_46 hr3, e48, aL_80, inb_nI (by omega), ck_d (by omega), nI_clamp (by omega), lB_eq, lB_eq, nI_1, ← eu]
              · have eu : u i = (nI (pt i) - nI (o (d i))).toInt64 := by
                  show inForm f _ = _
                  unfold inForm
                  rw [if_neg h0]
                rw [if_neg (show ¬ nI f = (0 : Int32) from fun y => h0 ((nI_eq (b := 0) (by omega) (by omega)).1 y)), ef, bd_eq, rf_55_46 hr3, e48, aL_80, inb_nI (by omega), ck_d (by omega), nI_clamp (by omega), lB_eq, lB_eq, nI_1, ← eu]
          · rintro ⟨y, υ⟩ ⟨rfl, hA, hz1, hz2⟩ rec
            dsimp only at hA hz1 hz2
            have hr3 : RefI υ := hA.ref hr2
            have ku : ∀ p k, p ≠ 66 → gI υ p k = gI σ p k := fun p k y => (hA.2.1 p k id).trans (key2 p k y)
            have u79 := (ku 79 s (by omega)).trans q5
            have u10 := (ku 55 10 (by omega)).trans p2.2.1
            refine ⟨some (nI (min z n), υ), ⟨υ, rfl, hA, hz1, hz2⟩, ?_⟩
            unfold f_X9_write_L42 f_X9_write_L102
            dsimp only
            rw [rf_55_45 hr3, aL_79, inb_nI (by omega), ck_d (by omega), nI_clamp (by omega), u79]
            by_cases hzn : z ≤ min z n
            · rw [if_pos (by rw [Int32.le_iff_toInt_le, nI_toInt (by omega), nI_toInt (by omega)]; omega)]
            · rw [if_neg (by rw [Int32.le_iff_toInt_le, nI_toInt (by omega), nI_toInt (by omega)]; omega), u10, if_pos (by rw [Int32.le_iff_toInt_le, nI_toInt (by omega), nI_toInt (by omega)]; omega)]
        obtain ⟨σ3, e3, a3, l3, l3'⟩ := hM
        have hr3 : RefI σ3 := a3.ref hr2
        have hlk : Rel (mx σ σ3) := h.lk ⟨fun p k y => by
          show gI σ3 p k = _
          rw [a3.2.1 p k id]
          exact key2 p k (fun e => y (by unfold Sc; omega)), fun p k _ => rfl, fun q => q⟩
        have g48 : ∀ k, k < 48 → gL σ3 (48 + 2 * s) k = gL σ3 80 (48 * s + k) := fun k hk => by
          rw [a3.2.2.1 (48 + 2 * s) k (by omega), a2.2.2.1 _ _ id]
          by_cases e : k < min z n
          · rw [l1 k e, l3 k e]
          · rw [l1' k (by omega), l3' k (by omega), a2.2.2.1 _ _ id, a1.2.2.1 80 _ (by omega)]
            exact q6 k hk
        have k3 : ∀ p k, p ≠ 66 → gI σ3 p k = gI σ p k := fun p k y => (a3.2.1 p k id).trans (key2 p k y)
        refine ⟨nI (min z n), σ1, σ3, ?_, ?_, Rel.sht hlk hr3 hs (Or.inr ⟨(k3 _ 0 (by omega)).trans q1, f, z, hf, hz, (k3 _ 1 (by omega)).trans q2, (k3 78 s (by omega)).trans q3, (k3 _ 2 (by omega)).trans q4, (k3 79 s (by omega)).trans q5, g48⟩) (fun p k _ => rfl) (fun p k y => ?_)⟩
        · unfold f_X8_write
          rw [s_X8_refusal_o hr hs q1, bd_eq, if_pos rfl, p4.1, if_neg (by decide), rf_0_7 hr, aL_39, inb_nI (by omega), ck_d (by omega), lB_eq, nI_clamp (by omega), r39, q4, rf_0_1 hr, p2.1, mnI_nI (by omega) (by omega)]
          exact e1
        · unfold f_X9_write
          rw [s_X9_isSheet, bd_eq, nI_toInt (by omega), decide_eq_true (by omega), if_neg (by decide), rf_55_44 hr1, aL_78, inb_nI (by omega), ck_d (by omega), nI_clamp (by omega), (a1.2.1 78 s id).trans q3, if_neg f1n, (a1.2.1 55 12 id).trans p4.2.1, if_neg (by decide), e2, bd_eq]
          exact e3
        · show gL σ3 p k = gL σ p k
          unfold WL at y
          rw [a3.2.2.1 p k (by omega), a2.2.2.1 p k id]
          exact a1.2.2.1 p k (by omega)
  · refine ⟨-2, σ, σ, ?_, ?_, h⟩
    · unfold f_X8_write
      rw [s_X8_refusal_b hx, bd_eq, if_neg (by decide)]
    · unfold f_X9_write
      rw [s_X9_isSheet, bd_eq, decide_eq_false hx, if_pos (by decide)]
