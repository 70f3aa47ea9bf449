/-! the class's ways: those that the hand is able to do and to come to -/
section
variable {c n nk : Nat} {o g tm pt ls fs : Nat → Nat} {z : Int} {ban : Nat}
theorem pas_snd {k : Nat} {a e : Nat → Nat} (ag : ∀ i, i < fs k → sndB tm ls fs k i = true → a i = e i) : ∀ i, sndB tm ls fs k i = true → pas (fs k) a e i = e i := fun i hs => by
  by_cases q : i < fs k
  · rw [pas_lt q]; exact ag i q hs
  · exact pas_ge (by omega)
theorem sP_lt {k i : Nat} (h : sP tm ls fs k i = true) : i < fs k := by
  cases k with
  | zero => cases h
  | succ j => exact snd_lt h
theorem pas_good {k : Nat} {a e : Nat → Nat} (hC : Ch n tm nk fs) (hk : k < nk) (hG : GoodTo c o g tm pt ls fs z ban k a) (hE : Gd c o g tm pt ls fs z ban k e) (ag : ∀ i, i < fs k → sndB tm ls fs k i = true → a i = e i) : GoodTo c o g tm pt ls fs z ban (k + 1) (pas (fs k) a e) :=
  (hG.cg hC (by omega) (fun i hi => (pas_lt hi).symm)).suc (hE.cg (fun i hs => (pas_snd ag i hs).symm))
theorem pas_cost {k : Nat} {a e : Nat → Nat} (hC : Ch n tm nk fs) (hk : k < nk) (ag : ∀ i, i < fs k → sndB tm ls fs k i = true → a i = e i) : costTo o g tm pt ls fs z (k + 1) (pas (fs k) a e) = costTo o g tm pt ls fs z k a + (ownK o g tm pt ls fs z k e + shK g (prevL o tm pt ls fs z a k) (lowK o tm pt ls fs z k e)) := by
  rw [cost_eq, costTo_cg hC (d' := a) (by omega) (fun i hi => pas_lt hi), ownK_cg (pas_snd ag), lowK_cg (pas_snd ag), prevL_cg (d' := a) (fun i hs => pas_lt (sP_lt hs))]
theorem pas_val {k : Nat} {a e : Nat → Nat} (b1 : Bl c o g) (b2 : Bn n tm pt ls) (hC : Ch n tm nk fs) (hz : -12 ≤ z ∧ z ≤ 12) (hk : k < nk) (hG : GoodTo c o g tm pt ls fs z ban k a) (he : ∀ i, i < fs (k + 1) → sndB tm ls fs k i = true → e i < 5) (ag : ∀ i, i < fs k → sndB tm ls fs k i = true → a i = e i) (hob : ownK o g tm pt ls fs z k e < 2 ^ 20) : (lN (kvA o g tm pt ls fs z k e a) + (nI (ownK o g tm pt ls fs z k e)).toInt64 <<< ((nI 42).toInt64 &&& 63)) ||| lN (hg 0 (dg (sndB tm ls fs k) e (fs (k + 1))) 14) = lN (keyD o g tm pt ls fs z (k + 1) (pas (fs k) a e)) := by
  have hn := b2.1
  have hf1 := hC.2.2.1 k hk
  have hfn := hC.le (k := k + 1) (by omega)
  obtain ⟨_, _, d5⟩ := key_bd b1 b2 hC hz (by omega) hG
  unfold kvA
  rw [nI_l (by omega), wb_shl _ (by omega), lN_add, fb_orL, keyD_dg (k := k) (by omega), keyD_dg (k := k + 1) (by omega), pas_cost hC hk ag]
  have e1 : hg (costTo o g tm pt ls fs z k a) (dg allB a (fs k)) 14 + shK g (prevL o tm pt ls fs z a k) (lowK o tm pt ls fs z k e) * 2 ^ 42 + ownK o g tm pt ls fs z k e * 2 ^ 42 = hg (costTo o g tm pt ls fs z k a + (ownK o g tm pt ls fs z k e + shK g (prevL o tm pt ls fs z a k) (lowK o tm pt ls fs z k e))) (dg allB a (fs k)) 14 := by
    rw [hg_add, hg_add (costTo o g tm pt ls fs z k a + (ownK o g tm pt ls fs z k e + shK g (prevL o tm pt ls fs z a k) (lowK o tm pt ls fs z k e))), p842]
    omega
  rw [e1, hg_or (fun i _ => ⟨dg_lt (fun i hi _ => by have := d5 i hi; omega) i, dg_lt (fun i hi hs => by have := he i hi hs; omega) i⟩), Nat.or_zero]
  congr 1
  refine hg_cg (fun i _ => ?_)
  by_cases q1 : i < fs k
  · rw [dg_t (S := allB) q1 rfl, dg_t (S := allB) (show i < fs (k + 1) by omega) rfl, pas_lt q1]
    by_cases q2 : sndB tm ls fs k i = true
    · rw [dg_t (by omega) q2, ag i q1 q2, Nat.or_self]
    · rw [dg_n (fun z => q2 z.2), Nat.or_zero]
  · rw [dg_n (S := allB) (fun z => q1 z.1), Nat.zero_or]
    by_cases q2 : i < fs (k + 1)
    · rw [dg_t q2 (snd_new (by omega) q2), dg_t (S := allB) q2 rfl, pas_ge (by omega)]
    · rw [dg_n (fun z => q2 z.1), dg_n (fun z => q2 z.1)]
theorem pm_lin {T ca cb cd ow sa sd ba bb bd pM dM : Nat} (h2 : cb * T + bb ≤ cd * T + bd) (h3 : ca * T + ba + sa * T ≤ cb * T + bb + sd * T) (h4 : pM + bd = dM + ba) : (ca + (ow + sa)) * T + pM ≤ (cd + (ow + sd)) * T + dM := by
  rw [Nat.add_mul, Nat.add_mul, Nat.add_mul, Nat.add_mul]
  generalize ca * T = x1 at *
  generalize cb * T = x2 at *
  generalize cd * T = x3 at *
  generalize sa * T = x4 at *
  generalize sd * T = x5 at *
  generalize ow * T = x6 at *
  omega
/-- of all that end alike none is less -/
theorem pas_min {k m : Nat} {D : Nat → Nat → Nat} {a : Nat} {e d : Nat → Nat} (hC : Ch n tm nk fs) (hk : k < nk) (hP : AhP c o g tm pt ls fs z ban k m D) (ag : ∀ i, i < fs k → sndB tm ls fs k i = true → D a i = e i) (hmin : ∀ b, b < m → (∀ i, i < fs k → sndB tm ls fs k i = true → D b i = e i) → kvA o g tm pt ls fs z k e (D a) ≤ kvA o g tm pt ls fs z k e (D b)) (hd : GoodTo c o g tm pt ls fs z ban (k + 1) d) (hde : ∀ i, sndB tm ls fs k i = true → e i = d i) : keyD o g tm pt ls fs z (k + 1) (pas (fs k) (D a) e) ≤ keyD o g tm pt ls fs z (k + 1) d := by
  have hf1 := hC.2.2.1 k hk
  obtain ⟨b, hb, h1, h2⟩ := hP.2.2 d hd.pre
  have h3 := hmin b hb (fun i hi hs => by rw [h1 i (hC.hsP hk hi hs), hde i hs])
  unfold kvA at h3
  rw [prevL_cg (d := D b) (d' := d) h1, lowK_cg (d := e) (d' := d) hde] at h3
  have h4 := bitsD_dif (d := pas (fs k) (D a) e) (d' := d) (a := fs k) (b := fs (k + 1)) (by omega) (fun i q1 q2 => by rw [pas_ge q1]; exact hde i (snd_new q1 q2))
  rw [bitsD_cg (d := pas (fs k) (D a) e) (d' := D a) (b := fs k) (fun i hi => pas_lt hi)] at h4
  unfold keyD at h2 h3 ⊢
  rw [pas_cost hC hk ag, cost_eq, ownK_cg (d := e) (d' := d) hde, lowK_cg (d := e) (d' := d) hde]
  exact pm_lin h2 h3 h4
theorem ah_some {k m : Nat} {D : Nat → Nat → Nat} {e d : Nat → Nat} (hC : Ch n tm nk fs) (hk : k < nk) (hP : AhP c o g tm pt ls fs z ban k m D) (hd : GoodTo c o g tm pt ls fs z ban (k + 1) d) (hde : ∀ i, sndB tm ls fs k i = true → e i = d i) : ∃ b, b < m ∧ ∀ i, i < fs k → sndB tm ls fs k i = true → D b i = e i := by
  obtain ⟨b, hb, h1, h2⟩ := hP.2.2 d hd.pre
  exact ⟨b, hb, fun i hi hs => by rw [h1 i (hC.hsP hk hi hs), hde i hs]⟩
theorem Gd_iff {k : Nat} {e : Nat → Nat} (h : PLm c o g pt z ban (sndB tm ls fs k) e (fs (k + 1))) : wrK o g tm pt ls fs z k e = 0 ↔ Gd c o g tm pt ls fs z ban k e := by
  unfold wrK Gd
  rw [h.2]
  cases q : wdB (sndB tm ls fs k) (fret o pt z e) (lowK o tm pt ls fs z k e + g 1) (fs (k + 1)) with
  | true =>
    constructor
    · intro w
      rw [if_pos rfl] at w
      omega
    · rintro ⟨_, _, _, w⟩; cases w
  | false =>
    by_cases f : 4 < finK o tm pt ls fs z k e
    · constructor
      · intro w; rw [if_pos f] at w; omega
      · rintro ⟨_, _, w, _⟩; omega
    · constructor
      · intro _
        exact ⟨fun i hs => h.1 i (snd_lt hs) hs, rfl, by omega, rfl⟩
      · intro _
        rw [if_neg f]; rfl
end
def kgC (rec12 : Int32 × Int32 × Sg → Option (Unit × Sg)) (x1 x2 : Int32) (x3 : Int64) (x5 x6 : Int32) (x7 : Int64) (τ : Sg) : Option (Unit × Sg) :=
  bd (f_X0_look (gR τ 12 2) x1 (gR τ 12 6) x2 τ) fun _ s5 => bd (f_X0_wrongs (gR s5 12 2) s5) fun r8 s7 => (if r8 = 0 then bd (f_X5_bestAhead 12 x7 x3 (gI s7 (gR s7 12 2) 2) s7) fun r11 s10 => f_X5_keepGood_L118 rec12 12 x1 x2 x3 x5 x6 x7 r11 s10 else f_X5_keepGood_L118 rec12 12 x1 x2 x3 x5 x6 x7 (-1 : Int64) s7)
theorem s_kgFill {υ : Sg} {k M : Nat} {f : Nat → Nat} {rec12 : Int32 × Int32 × Sg → Option (Unit × Sg)} {x2 : Int32} {x3 : Int64} {x5 x6 : Int32} {x7 : Int64} (hr : RefI υ) (hk : k < 14) (f1 : gI υ 9 (k + 1) = nI M) (hM : M ≤ 14) (hf : ∀ i, i < 14 → f i < 8) (hx7 : x7 = lN (hg 0 f 14)) : ∃ υ1, fx (f_X5_keepGood_L39 rec12 12 (nI k) x2 x3 x5 x6 x7) FU (nI 0, υ) = kgC rec12 (nI k) x2 x3 x5 x6 x7 υ1 ∧ Ag (fun p _ => p = 28) (fun _ _ => False) υ υ1 ∧ ∀ i, i < M → gI υ1 28 i = nI (f i) := by
  refine fx_inv2 (I := fun i s => s.1 = nI i ∧ Ag (fun p _ => p = 28) (fun _ _ => False) υ s.2 ∧ ∀ j, j < i → gI s.2 28 j = nI (f j)) (Q := fun e => ∃ υ1, e = kgC rec12 (nI k) x2 x3 x5 x6 x7 υ1 ∧ Ag (fun p _ => p = 28) (fun _ _ => False) υ υ1 ∧ ∀ i, i < M → gI υ1 28 i = nI (f i)) (n := M) ?_ ?_ M 0 FU _ (by omega) (by unfold FU; omega) ⟨rfl, Ag.rf, fun j hj => by omega⟩
  · rintro i ⟨x, τ⟩ hi ⟨rfl, hA, hz⟩ rec
    dsimp only at hA hz
    have hr2 : RefI τ := hA.ref hr
    have t1 : gI τ 9 (k + 1) = nI M := (hA.2.1 9 (k + 1) (by omega)).trans f1
    have ec := s_X5_courseIn (σ := τ) (A := 0) (i := i) hf (by decide) (by omega)
    rw [← hx7] at ec
    left
    refine ⟨(nI (i + 1), pI τ 28 i (nI (f i))), ⟨rfl, hA.pI rfl, fun j hj => ?_⟩, ?_⟩
    · rw [gI_pI]
      by_cases e : j = i
      · subst e; rw [if_pos ⟨rfl, rfl⟩]
      · rw [if_neg (by omega)]; exact hz j (by omega)
    · unfold f_X5_keepGood_L39
      dsimp only
      simp (disch := first | assumption | omega) only [↓lB_eq, ↓bd_m, ck_tt, gI_pI, gI_pL, gI_pR, gL_pI, gL_pL, gL_pR, gR_pI, gR_pL, rf_0_0, rf_0_1, rf_0_2, rf_0_3, rf_0_4, rf_0_5, rf_0_6, rf_0_7, rf_0_8, rf_0_9, rf_0_10, rf_1_1, rf_1_2, rf_4_0, rf_4_1, rf_4_2, rf_4_3, rf_4_4, rf_4_5, rf_11_0, rf_11_1, rf_12_0, rf_12_1, rf_12_2, rf_12_6, rf_12_7, rf_12_8, rf_13_0, rf_13_1, rf_13_2, rf_13_3, rf_18_0, rf_18_1, rf_18_2, rf_18_3, rf_23_0, rf_23_1, rf_23_2, rf_23_3, rf_31_0, rf_33_0, rf_33_2, rf_33_3, rf_33_4, rf_37_0, rf_39_0, rf_39_1, rf_39_2, rf_39_3, rf_40_0, rf_40_1, rf_40_2, rf_40_3, rf_47_3, rf_49_3, rf_51_3, rf_53_3, rf_55_1, rf_55_7, rf_55_8, rf_55_9, rf_55_11, rf_55_13, rf_55_14, rf_55_15, rf_55_17, rf_55_18, rf_55_19, rf_55_27, rf_55_28, rf_55_29, rf_55_30, rf_55_31, rf_55_32, rf_55_33, rf_55_34, rf_55_35, rf_55_36, rf_55_38, rf_55_44, rf_55_45, rf_55_46, rf_55_47, aL_2, aL_3, aL_5, aL_6, aL_7, aL_8, aL_9, aL_10, aL_14, aL_15, aL_16, aL_17, aL_19, aL_20, aL_21, aL_22, aL_24, aL_25, aL_26, aL_27, aL_28, aL_29, aL_30, aL_32, aL_34, aL_35, aL_36, aL_38, aL_39, aL_40, aL_41, aL_42, aL_43, aL_44, aL_45, aL_46, aL_48, aL_50, aL_52, aL_54, aL_56, aL_57, aL_58, aL_59, aL_60, aL_61, aL_62, aL_63, aL_64, aL_65, aL_66, aL_67, aL_68, aL_69, aL_70, aL_71, aL_72, aL_73, aL_74, aL_75, aL_76, aL_77, aL_78, aL_79, aL_80, aL_81, inb_nI, lit32, nI_clamp, nI_1, nI_add, if_pos, if_neg, b01_0, b01_1, Nat.add_sub_cancel, if_true, if_false, not_true_eq_false, not_false_eq_true, true_and, and_true, false_and, and_false, pk_sub, b01_n0, b01_n1, bI_t, bI_f, ofNat_nI, ck_d, Int32.lt_iff_toInt_lt, Int32.le_iff_toInt_le, i32_eq, nI_toInt, bI_b01, bI_0, decide_eq_true_eq, bI_tt, bI_ff, nI_prd, ↓reduceIte, iltT, iltF, ileT, ileF, ieqT, ieqF, dcT, dcF, or_true, or_false, true_or, false_or, t1, ec]
  · rintro ⟨x, τ⟩ ⟨rfl, hA, hz⟩ rec
    dsimp only at hA hz
    have hr2 : RefI τ := hA.ref hr
    have t1 : gI τ 9 (k + 1) = nI M := (hA.2.1 9 (k + 1) (by omega)).trans f1
    refine ⟨kgC rec12 (nI k) x2 x3 x5 x6 x7 τ, ⟨τ, rfl, hA, hz⟩, ?_⟩
    unfold f_X5_keepGood_L39
    dsimp only
    rw [rf_12_1 hr2, rf_4_4 hr2, aL_9, show nI k + (1 : Int32) = nI (k + 1) from nI_add _ _, inb_nI (by omega), ck_d (by omega), nI_clamp (by omega), t1, if_pos (by rw [Int32.le_iff_toInt_le]; exact Int.le_refl _)]
    rfl
/-- what keepGood changes of the object at w -/
def Kp (w p k : Nat) : Prop := p = 11 ∨ p = 28 ∨ p = w + 3
def KLp (w p : Nat) (_ : Nat) : Prop := p = w + 1 ∨ p = w + 4
def KgI (c : Nat) (o g tm pt ls fs : Nat → Nat) (z : Int) (ban k w q : Nat) (E : Nat → Nat → Nat) (σ : Sg) (a good : Nat) (τ : Sg) : Prop := Ag (Kp w) (KLp w) σ τ ∧ good ≤ a ∧ (∀ b, a ≤ b → b < q → gL τ (w + 1) b = gL σ (w + 1) b) ∧ ∃ D' : Nat → Nat → Nat, (∀ b, b < good → (gL τ (w + 1) b = lN (hg 0 (dg (sndB tm ls fs k) (D' b) (fs (k + 1))) 14) ∧ (gI τ (w + 3) b).toInt = lowK o tm pt ls fs z k (D' b) ∧ gL τ (w + 4) b = lN (keyD o g tm pt ls fs z (k + 1) (D' b))) ∧ GoodTo c o g tm pt ls fs z ban (k + 1) (D' b)) ∧ ∀ d, GoodTo c o g tm pt ls fs z ban (k + 1) d → ∀ b, b < a → (∀ i, sndB tm ls fs k i = true → E b i = d i) → ∃ b', b' < good ∧ (∀ i, sndB tm ls fs k i = true → D' b' i = d i) ∧ keyD o g tm pt ls fs z (k + 1) (D' b') ≤ keyD o g tm pt ls fs z (k + 1) d
theorem KgI.skip {c : Nat} {o g tm pt ls fs : Nat → Nat} {z : Int} {ban k w q : Nat} {E : Nat → Nat → Nat} {σ τ τ' : Sg} {a good : Nat} (h : KgI c o g tm pt ls fs z ban k w q E σ a good τ) (hA : Ag (fun p _ => p = 11 ∨ p = 28) (fun _ _ => False) τ τ') (hwb : 13 ≤ w ∧ w ≤ 23) (hno : ∀ d, GoodTo c o g tm pt ls fs z ban (k + 1) d → ¬ ∀ i, sndB tm ls fs k i = true → E a i = d i) : KgI c o g tm pt ls fs z ban k w q E σ (a + 1) good τ' := by
  obtain ⟨h1, h2, h3, D', h4, h5⟩ := h
  refine ⟨h1.tr (hA.mono (fun p k y => by unfold Kp; omega) (fun _ _ y => y.elim)), by omega, fun b x y => by rw [hA.2.2.1 _ _ id]; exact h3 b (by omega) y, D', fun b hb => ?_, fun d hd b hb hE => ?_⟩
  · obtain ⟨⟨e1, e2, e3⟩, e4⟩ := h4 b hb
    exact ⟨⟨by rw [hA.2.2.1 _ _ id]; exact e1, by rw [hA.2.1 (w + 3) b (by omega)]; exact e2, by rw [hA.2.2.1 _ _ id]; exact e3⟩, e4⟩
  · by_cases e : b = a
    · rw [e] at hE; exact absurd hE (hno d hd)
    · exact h5 d hd b (by omega) hE
