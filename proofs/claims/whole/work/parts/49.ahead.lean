/-! the class's ways: what is held, the best ahead -/
theorem lgc_eq (a b : Int64) : (lg_cmp a b).toInt = 0 ↔ a = b := by
  have h1 := lgc_lt a b
  have h2 := lgc_gt a b
  rw [← Int64.toInt_inj]
  omega
theorem lgc_ge (a b : Int64) : 0 ≤ (lg_cmp a b).toInt ↔ b.toInt ≤ a.toInt := by
  have h1 := lgc_lt a b
  omega
theorem p842 : (8 : Nat) ^ 14 = 2 ^ 42 := by decide
theorem hg_bd {A : Nat} {f : Nat → Nat} (hf : ∀ i, i < 14 → f i < 8) (hA : A < 2 ^ 20) : hg A f 14 < 2 ^ 62 := by
  have h1 := hg_lt hf
  rw [hg_add, p842]
  rw [p842] at h1
  omega
theorem x87 : ∀ x, x < 8 → ∀ y, y < 8 → (((x ^^^ y) &&& 7 = 0) ↔ x = y) := by decide
def c7 (_ : Nat) : Nat := 7
theorem c7_lt (i : Nat) : c7 i < 8 := by show 7 < 8; omega
theorem match_iff {S P : Nat → Bool} {d e : Nat → Nat} {a M : Nat} (ha : a ≤ M) (hM : M ≤ 14) (hP : ∀ i, i < a → S i = true → P i = true) (hd : ∀ i, i < a → P i = true → d i < 8) (he : ∀ i, i < M → S i = true → e i < 8) : ((lN (hg 0 (dg P d a) 14) ^^^ lN (hg 0 (dg S e M) 14)) &&& lN (hg 0 (dg S c7 a) 14)) = 0 ↔ ∀ i, i < a → S i = true → d i = e i := by
  have h7 : ∀ i, i < a → S i = true → c7 i < 8 := fun i _ _ => c7_lt i
  rw [fb_xorL, fb_andL]
  have e1 := hg_xor (A := 0) (B := 0) (f := dg P d a) (h := dg S e M) (m := 14) (fun i _ => ⟨dg_lt hd i, dg_lt he i⟩)
  have e2 := hg_and (A := 0 ^^^ 0) (B := 0) (f := fun i => dg P d a i ^^^ dg S e M i) (h := dg S c7 a) (m := 14) (fun i _ => ⟨Nat.xor_lt_two_pow (n := 3) (dg_lt hd i) (dg_lt he i), dg_lt h7 i⟩)
  have hlt : hg 0 (fun i => (dg P d a i ^^^ dg S e M i) &&& dg S c7 a i) 14 < 2 ^ 62 := hg_bd (fun i _ => Nat.and_lt_two_pow (n := 3) _ (dg_lt h7 i)) (by decide)
  rw [e1, e2, show (0 ^^^ 0) &&& 0 = 0 from rfl, show (0 : Int64) = lN 0 from rfl, pk_lEQ (by omega) (by omega), hg_0]
  constructor
  · intro h i hi hs
    have h1 := h i (by omega)
    rw [dg_t hi (hP i hi hs), dg_t (by omega) hs, dg_t hi hs] at h1
    exact (x87 (d i) (hd i hi (hP i hi hs)) (e i) (he i (by omega) hs)).1 h1
  · intro h i hi
    by_cases q : i < a ∧ S i = true
    · rw [dg_t q.1 (hP i q.1 q.2), dg_t (by omega) q.2, dg_t q.1 q.2, h i q.1 q.2, Nat.xor_self, Nat.zero_and]
    · rw [dg_n (S := S) (d := c7) q, Nat.and_zero]
theorem s_X5_heldBits {σ : Sg} {n nk k : Nat} {tm ls fs : Nat → Nat} (hr : RefI σ) (hn : n ≤ 14) (p3 : P3 σ n tm ls nk fs) (hk : k < nk) : f_X5_heldBits 12 (nI k) σ = some (lN (hg 0 (dg (sndB tm ls fs k) c7 (fs k)) 14), σ) := by
  have hC := p3.1
  have hnk := hC.nk_le
  have hM := hC.le (k := k) (by omega)
  have hm := hC.2.2.1 k hk
  have f0 := p3.2.2.1 k (by omega)
  obtain ⟨b, hb, e10, tb⟩ := p3.2.2.2.2 k hk
  have z0 : (0 : Int64) = lN (hg 0 (dg (sndB tm ls fs k) c7 0) 14) := by
    rw [(hg_0 (f := dg (sndB tm ls fs k) c7 0)).2 (fun i _ => dg_n (by omega))]; rfl
  unfold f_X5_heldBits
  refine fx_for0 (fun i => (lN (hg 0 (dg (sndB tm ls fs k) c7 i) 14), nI i, σ)) (by rw [z0]; rfl) (n := fs k) (fun i hi rec => ?_) (fun rec => ?_) (by unfold FU; omega)
  · have hbt := bit_t (b := b) (i := i) (by omega) (by omega)
    have hbo := s_X5_bitsOf (σ := σ) (i := i) (by omega)
    unfold f_X5_heldBits_L5 f_X5_heldBits_L49
    dsimp only
    by_cases q : sndB tm ls fs k i = true
    · rw [tb i, if_pos q] at hbt
      have e1 : lN (hg 0 (dg (sndB tm ls fs k) c7 i) 14) ||| ((7 : Int64) <<< ((nI (3 * (13 - i))).toInt64 &&& 63)) = lN (hg 0 (dg (sndB tm ls fs k) c7 (i + 1)) 14) := by
        rw [show (7 : Int64) = lN 7 from rfl, lsh (by omega), fb_orL, hg_new (by omega) (fun i _ _ => c7_lt i) (by decide) q]
        congr 1
        refine hg_cg (fun j _ => ?_)
        unfold dg upN c7
        split
        · split <;> rfl
        · rfl
      simp (disch := first | assumption | omega) only [↓lB_eq, ↓bd_m, ck_tt, gI_pI, gI_pL, gI_pR, gL_pI, gL_pL, gL_pR, gR_pI, gR_pL, rf_0_0, rf_0_1, rf_0_2, rf_0_3, rf_0_4, rf_0_5, rf_0_6, rf_0_7, rf_0_8, rf_0_9, rf_0_10, rf_1_1, rf_1_2, rf_4_0, rf_4_1, rf_4_2, rf_4_3, rf_4_4, rf_4_5, rf_11_0, rf_11_1, rf_12_0, rf_12_1, rf_12_2, rf_12_6, rf_12_7, rf_12_8, rf_13_0, rf_13_1, rf_13_2, rf_13_3, rf_18_0, rf_18_1, rf_18_2, rf_18_3, rf_23_0, rf_23_1, rf_23_2, rf_23_3, rf_31_0, rf_33_0, rf_33_2, rf_33_3, rf_33_4, rf_37_0, rf_39_0, rf_39_1, rf_39_2, rf_39_3, rf_40_0, rf_40_1, rf_40_2, rf_40_3, rf_47_3, rf_49_3, rf_51_3, rf_53_3, rf_55_1, rf_55_7, rf_55_8, rf_55_9, rf_55_11, rf_55_13, rf_55_14, rf_55_15, rf_55_17, rf_55_18, rf_55_19, rf_55_27, rf_55_28, rf_55_29, rf_55_30, rf_55_31, rf_55_32, rf_55_33, rf_55_34, rf_55_35, rf_55_36, rf_55_38, rf_55_44, rf_55_45, rf_55_46, rf_55_47, aL_2, aL_3, aL_5, aL_6, aL_7, aL_8, aL_9, aL_10, aL_14, aL_15, aL_16, aL_17, aL_19, aL_20, aL_21, aL_22, aL_24, aL_25, aL_26, aL_27, aL_28, aL_29, aL_30, aL_32, aL_34, aL_35, aL_36, aL_38, aL_39, aL_40, aL_41, aL_42, aL_43, aL_44, aL_45, aL_46, aL_48, aL_50, aL_52, aL_54, aL_56, aL_57, aL_58, aL_59, aL_60, aL_61, aL_62, aL_63, aL_64, aL_65, aL_66, aL_67, aL_68, aL_69, aL_70, aL_71, aL_72, aL_73, aL_74, aL_75, aL_76, aL_77, aL_78, aL_79, aL_80, aL_81, inb_nI, lit32, nI_clamp, nI_1, nI_add, if_pos, if_neg, b01_0, b01_1, Nat.add_sub_cancel, if_true, if_false, not_true_eq_false, not_false_eq_true, true_and, and_true, false_and, and_false, pk_sub, b01_n0, b01_n1, bI_t, bI_f, ofNat_nI, ck_d, Int32.lt_iff_toInt_lt, Int32.le_iff_toInt_le, i32_eq, nI_toInt, bI_b01, bI_0, decide_eq_true_eq, bI_tt, bI_ff, nI_prd, ↓reduceIte, iltT, iltF, ileT, ileF, ieqT, ieqF, dcT, dcF, or_true, or_false, true_or, false_or, f0, e10, hbo, e1]
    · rw [tb i, if_neg q] at hbt
      have e1 : lN (hg 0 (dg (sndB tm ls fs k) c7 (i + 1)) 14) = lN (hg 0 (dg (sndB tm ls fs k) c7 i) 14) := by
        congr 1
        refine hg_cg (fun j _ => ?_)
        by_cases r : j < i ∧ sndB tm ls fs k j = true
        · rw [dg_t r.1 r.2, dg_t (by omega) r.2]
        · rw [dg_n r, dg_n]
          rintro ⟨r1, r2⟩
          by_cases e : j = i
          · subst e; exact q r2
          · exact r ⟨by omega, r2⟩
      simp (disch := first | assumption | omega) only [↓lB_eq, ↓bd_m, ck_tt, gI_pI, gI_pL, gI_pR, gL_pI, gL_pL, gL_pR, gR_pI, gR_pL, rf_0_0, rf_0_1, rf_0_2, rf_0_3, rf_0_4, rf_0_5, rf_0_6, rf_0_7, rf_0_8, rf_0_9, rf_0_10, rf_1_1, rf_1_2, rf_4_0, rf_4_1, rf_4_2, rf_4_3, rf_4_4, rf_4_5, rf_11_0, rf_11_1, rf_12_0, rf_12_1, rf_12_2, rf_12_6, rf_12_7, rf_12_8, rf_13_0, rf_13_1, rf_13_2, rf_13_3, rf_18_0, rf_18_1, rf_18_2, rf_18_3, rf_23_0, rf_23_1, rf_23_2, rf_23_3, rf_31_0, rf_33_0, rf_33_2, rf_33_3, rf_33_4, rf_37_0, rf_39_0, rf_39_1, rf_39_2, rf_39_3, rf_40_0, rf_40_1, rf_40_2, rf_40_3, rf_47_3, rf_49_3, rf_51_3, rf_53_3, rf_55_1, rf_55_7, rf_55_8, rf_55_9, rf_55_11, rf_55_13, rf_55_14, rf_55_15, rf_55_17, rf_55_18, rf_55_19, rf_55_27, rf_55_28, rf_55_29, rf_55_30, rf_55_31, rf_55_32, rf_55_33, rf_55_34, rf_55_35, rf_55_36, rf_55_38, rf_55_44, rf_55_45, rf_55_46, rf_55_47, aL_2, aL_3, aL_5, aL_6, aL_7, aL_8, aL_9, aL_10, aL_14, aL_15, aL_16, aL_17, aL_19, aL_20, aL_21, aL_22, aL_24, aL_25, aL_26, aL_27, aL_28, aL_29, aL_30, aL_32, aL_34, aL_35, aL_36, aL_38, aL_39, aL_40, aL_41, aL_42, aL_43, aL_44, aL_45, aL_46, aL_48, aL_50, aL_52, aL_54, aL_56, aL_57, aL_58, aL_59, aL_60, aL_61, aL_62, aL_63, aL_64, aL_65, aL_66, aL_67, aL_68, aL_69, aL_70, aL_71, aL_72, aL_73, aL_74, aL_75, aL_76, aL_77, aL_78, aL_79, aL_80, aL_81, inb_nI, lit32, nI_clamp, nI_1, nI_add, if_pos, if_neg, b01_0, b01_1, Nat.add_sub_cancel, if_true, if_false, not_true_eq_false, not_false_eq_true, true_and, and_true, false_and, and_false, pk_sub, b01_n0, b01_n1, bI_t, bI_f, ofNat_nI, ck_d, Int32.lt_iff_toInt_lt, Int32.le_iff_toInt_le, i32_eq, nI_toInt, bI_b01, bI_0, decide_eq_true_eq, bI_tt, bI_ff, nI_prd, ↓reduceIte, iltT, iltF, ileT, ileF, ieqT, ieqF, dcT, dcF, or_true, or_false, true_or, false_or, f0, e10, e1]
  · unfold f_X5_heldBits_L5
    dsimp only
    simp (disch := first | assumption | omega) only [↓lB_eq, ↓bd_m, ck_tt, gI_pI, gI_pL, gI_pR, gL_pI, gL_pL, gL_pR, gR_pI, gR_pL, rf_0_0, rf_0_1, rf_0_2, rf_0_3, rf_0_4, rf_0_5, rf_0_6, rf_0_7, rf_0_8, rf_0_9, rf_0_10, rf_1_1, rf_1_2, rf_4_0, rf_4_1, rf_4_2, rf_4_3, rf_4_4, rf_4_5, rf_11_0, rf_11_1, rf_12_0, rf_12_1, rf_12_2, rf_12_6, rf_12_7, rf_12_8, rf_13_0, rf_13_1, rf_13_2, rf_13_3, rf_18_0, rf_18_1, rf_18_2, rf_18_3, rf_23_0, rf_23_1, rf_23_2, rf_23_3, rf_31_0, rf_33_0, rf_33_2, rf_33_3, rf_33_4, rf_37_0, rf_39_0, rf_39_1, rf_39_2, rf_39_3, rf_40_0, rf_40_1, rf_40_2, rf_40_3, rf_47_3, rf_49_3, rf_51_3, rf_53_3, rf_55_1, rf_55_7, rf_55_8, rf_55_9, rf_55_11, rf_55_13, rf_55_14, rf_55_15, rf_55_17, rf_55_18, rf_55_19, rf_55_27, rf_55_28, rf_55_29, rf_55_30, rf_55_31, rf_55_32, rf_55_33, rf_55_34, rf_55_35, rf_55_36, rf_55_38, rf_55_44, rf_55_45, rf_55_46, rf_55_47, aL_2, aL_3, aL_5, aL_6, aL_7, aL_8, aL_9, aL_10, aL_14, aL_15, aL_16, aL_17, aL_19, aL_20, aL_21, aL_22, aL_24, aL_25, aL_26, aL_27, aL_28, aL_29, aL_30, aL_32, aL_34, aL_35, aL_36, aL_38, aL_39, aL_40, aL_41, aL_42, aL_43, aL_44, aL_45, aL_46, aL_48, aL_50, aL_52, aL_54, aL_56, aL_57, aL_58, aL_59, aL_60, aL_61, aL_62, aL_63, aL_64, aL_65, aL_66, aL_67, aL_68, aL_69, aL_70, aL_71, aL_72, aL_73, aL_74, aL_75, aL_76, aL_77, aL_78, aL_79, aL_80, aL_81, inb_nI, lit32, nI_clamp, nI_1, nI_add, if_pos, if_neg, b01_0, b01_1, Nat.add_sub_cancel, if_true, if_false, not_true_eq_false, not_false_eq_true, true_and, and_true, false_and, and_false, pk_sub, b01_n0, b01_n1, bI_t, bI_f, ofNat_nI, ck_d, Int32.lt_iff_toInt_lt, Int32.le_iff_toInt_le, i32_eq, nI_toInt, bI_b01, bI_0, decide_eq_true_eq, bI_tt, bI_ff, nI_prd, ↓reduceIte, iltT, iltF, ileT, ileF, ieqT, ieqF, dcT, dcF, or_true, or_false, true_or, false_or, f0]
section
variable {c n nk : Nat} {o g tm pt ls fs : Nat → Nat} {z : Int} {ban : Nat}
/-- how the ways ahead of chord k are held in the object at u -/
def AhM (σ : Sg) (o g tm pt ls fs : Nat → Nat) (z : Int) (u k m : Nat) (D : Nat → Nat → Nat) : Prop := gI σ u 4 = nI m ∧ ∀ a, a < m → gL σ (u + 1) a = lN (hg 0 (dg (sP tm ls fs k) (D a) (fs k)) 14) ∧ (gI σ (u + 3) a).toInt = prevL o tm pt ls fs z (D a) k ∧ gL σ (u + 4) a = lN (keyD o g tm pt ls fs z k (D a))
/-- of all layings that end alike the best one is there -/
def AhP (c : Nat) (o g tm pt ls fs : Nat → Nat) (z : Int) (ban k m : Nat) (D : Nat → Nat → Nat) : Prop := m ≤ 120 ∧ (∀ a, a < m → GoodTo c o g tm pt ls fs z ban k (D a)) ∧ ∀ d, GoodTo c o g tm pt ls fs z ban k d → ∃ a, a < m ∧ (∀ i, sP tm ls fs k i = true → D a i = d i) ∧ keyD o g tm pt ls fs z k (D a) ≤ keyD o g tm pt ls fs z k d
theorem key_bd {k : Nat} {d : Nat → Nat} (b1 : Bl c o g) (b2 : Bn n tm pt ls) (hC : Ch n tm nk fs) (hz : -12 ≤ z ∧ z ≤ 12) (hk : k ≤ nk) (q : GoodTo c o g tm pt ls fs z ban k d) : costTo o g tm pt ls fs z k d < 2 ^ 19 ∧ keyD o g tm pt ls fs z k d < 2 ^ 61 ∧ ∀ i, i < fs k → d i < 5 := by
  have hn := b2.1
  have hc5 := b1.2.1
  have hnk := hC.nk_le
  have hM := hC.le hk
  have h5 : ∀ i, i < fs k → d i < 5 := fun i hi => by have := q.lt hC hk hi; omega
  have h1 := cost_bd b1 b2 hC hz hk h5
  have h2 := hg_lt (f := dg allB d (fs k)) (m := 14) (fun i _ => dg_lt (fun i hi _ => by have := h5 i hi; omega) i)
  refine ⟨by omega, ?_, h5⟩
  rw [keyD_dg (by omega), hg_add, p842]
  rw [p842] at h2
  omega
theorem prevG {k : Nat} {d : Nat → Nat} (b1 : Bl c o g) (b2 : Bn n tm pt ls) (hC : Ch n tm nk fs) (hk : k < nk) (hz : -12 ≤ z ∧ z ≤ 12) (q : GoodTo c o g tm pt ls fs z ban k d) : 0 ≤ prevL o tm pt ls fs z d k ∧ prevL o tm pt ls fs z d k ≤ 82 := by
  obtain ⟨_, _, d5⟩ := key_bd b1 b2 hC hz (by omega) q
  let e' : Nat → Nat := fun i => if i < fs k then d i else 0
  have h5 : ∀ i, i < n → e' i < 5 := fun i _ => by
    show (if i < fs k then d i else 0) < 5
    split
    · rename_i q; exact d5 i q
    · omega
  have h6 := prevL_bd (d := e') b1 b2 hC hk hz h5
  rw [prevL_cg (d' := d)] at h6
  · exact h6
  · intro i hs
    have hik : i < fs k := by
      cases k with
      | zero => cases hs
      | succ j => exact snd_lt hs
    exact if_pos hik
theorem sh_bd {a b : Int} (g2 : g 2 ≤ 9) (ha : 0 ≤ a ∧ a ≤ 82) (hb : 0 ≤ b ∧ b ≤ 82) : shK g a b ≤ 738 := by
  unfold shK
  split
  · have h1 : g 2 * (b - a).natAbs ≤ 9 * 82 := Nat.mul_le_mul g2 (by omega)
    omega
  · omega
/-- the key of a laying ahead, with the shift from it -/
def kvA (o g tm pt ls fs : Nat → Nat) (z : Int) (k : Nat) (e d : Nat → Nat) : Nat := keyD o g tm pt ls fs z k d + shK g (prevL o tm pt ls fs z d k) (lowK o tm pt ls fs z k e) * 2 ^ 42
theorem kvA_bd {k : Nat} {d e : Nat → Nat} (b1 : Bl c o g) (b2 : Bn n tm pt ls) (hC : Ch n tm nk fs) (hk : k < nk) (hz : -12 ≤ z ∧ z ≤ 12) (q : GoodTo c o g tm pt ls fs z ban k d) (hlb : 0 ≤ lowK o tm pt ls fs z k e ∧ lowK o tm pt ls fs z k e ≤ 82) : kvA o g tm pt ls fs z k e d < 2 ^ 62 := by
  have h1 := (key_bd b1 b2 hC hz (by omega) q).2.1
  have h2 := sh_bd b1.2.2.2.2.2.2.1 (prevG b1 b2 hC hk hz q) hlb
  unfold kvA
  omega
theorem s_X5_bestAhead {σ : Sg} {u k m : Nat} {D : Nat → Nat → Nat} {e : Nat → Nat} {x1 x3 : Int64} {x5 : Int32} (hr : RefI σ) (b1 : Bl c o g) (b2 : Bn n tm pt ls) (hC : Ch n tm nk fs) (hk : k < nk) (hz : -12 ≤ z ∧ z ≤ 12) (r3 : gR σ 12 3 = u) (hu : isW u) (hM : AhM σ o g tm pt ls fs z u k m D) (hP : AhP c o g tm pt ls fs z ban k m D) (he : ∀ i, i < fs (k + 1) → sndB tm ls fs k i = true → e i < 5) (hx1 : x1 = lN (hg 0 (dg (sndB tm ls fs k) e (fs (k + 1))) 14)) (hx3 : x3 = lN (hg 0 (dg (sndB tm ls fs k) c7 (fs k)) 14)) (hx5 : x5.toInt = lowK o tm pt ls fs z k e) (hlb : 0 ≤ lowK o tm pt ls fs z k e ∧ lowK o tm pt ls fs z k e ≤ 82) (hg2 : gI σ 3 2 = nI (g 2)) : ∃ v, f_X5_bestAhead 12 x1 x3 x5 σ = some (v, σ) ∧ ((v = -1 ∧ ∀ a, a < m → ¬ ∀ i, i < fs k → sndB tm ls fs k i = true → D a i = e i) ∨ ∃ a, a < m ∧ (∀ i, i < fs k → sndB tm ls fs k i = true → D a i = e i) ∧ v = lN (kvA o g tm pt ls fs z k e (D a)) ∧ ∀ b, b < m → (∀ i, i < fs k → sndB tm ls fs k i = true → D b i = e i) → kvA o g tm pt ls fs z k e (D a) ≤ kvA o g tm pt ls fs z k e (D b)) := by
  have hn := b2.1
  have hc5 := b1.2.1
  have hnk := hC.nk_le
  have hm120 := hP.1
  have hf1 := hC.2.2.1 k hk
  have hfn := hC.le (k := k + 1) (by omega)
  have g2 := b1.2.2.2.2.2.2.1
  have q0 := wr0 hr hu
  have q2 := wr2 hr hu
  have q3 := wr3 hr hu
  have k1 := aw1 hu
  have k3 := aw3 hu
  have k4 := aw4 hu
  have h4 := hM.1
  have m1 : (-1 : Int64).toInt = -1 := rfl
  unfold f_X5_bestAhead
  refine fx_inv2 (I := fun w s => ∃ v, s = (v, nI w, σ) ∧ ((v = -1 ∧ ∀ a, a < w → ¬ ∀ i, i < fs k → sndB tm ls fs k i = true → D a i = e i) ∨ ∃ a, a < w ∧ (∀ i, i < fs k → sndB tm ls fs k i = true → D a i = e i) ∧ v = lN (kvA o g tm pt ls fs z k e (D a)) ∧ ∀ b, b < w → (∀ i, i < fs k → sndB tm ls fs k i = true → D b i = e i) → kvA o g tm pt ls fs z k e (D a) ≤ kvA o g tm pt ls fs z k e (D b))) (Q := fun r => ∃ v, r = some (v, σ) ∧ ((v = -1 ∧ ∀ a, a < m → ¬ ∀ i, i < fs k → sndB tm ls fs k i = true → D a i = e i) ∨ ∃ a, a < m ∧ (∀ i, i < fs k → sndB tm ls fs k i = true → D a i = e i) ∧ v = lN (kvA o g tm pt ls fs z k e (D a)) ∧ ∀ b, b < m → (∀ i, i < fs k → sndB tm ls fs k i = true → D b i = e i) → kvA o g tm pt ls fs z k e (D a) ≤ kvA o g tm pt ls fs z k e (D b))) (n := m) ?_ ?_ m 0 FU _ (by omega) (by unfold FU; omega) ⟨-1, rfl, Or.inl ⟨rfl, fun a ha => by omega⟩⟩
  · rintro w s hw ⟨v, rfl, hv⟩ rec
    obtain ⟨a1, a2, a3⟩ := hM.2 w hw
    have hgw := hP.2.1 w hw
    obtain ⟨cb, kb, d5⟩ := key_bd b1 b2 hC hz (by omega) hgw
    have mi := match_iff (S := sndB tm ls fs k) (P := sP tm ls fs k) (d := D w) (e := e) (a := fs k) (M := fs (k + 1)) (by omega) (by omega) (fun i hi hs => hC.hsP hk hi hs) (fun i hi _ => by have := d5 i hi; omega) (fun i hi hs => by have := he i hi hs; omega)
    rw [← hx1, ← hx3] at mi
    have lc := lgc_eq ((lN (hg 0 (dg (sP tm ls fs k) (D w) (fs k)) 14) ^^^ x1) &&& x3) 0
    left
    by_cases ag : ∀ i, i < fs k → sndB tm ls fs k i = true → D w i = e i
    · have lc0 := lc.2 (mi.2 ag)
      have pb := prevG b1 b2 hC hk hz hgw
      have e3 := s_X1_shift (g := g) (x := gI σ (u + 3) w) (y := x5) hr hg2 (by omega) (by omega)
      rw [a2, hx5] at e3
      have shb := sh_bd g2 pb hlb
      have ev : lN (keyD o g tm pt ls fs z k (D w)) + (nI (shK g (prevL o tm pt ls fs z (D w) k) (lowK o tm pt ls fs z k e))).toInt64 <<< ((nI 42).toInt64 &&& 63) = lN (kvA o g tm pt ls fs z k e (D w)) := by
        rw [nI_l (by omega), wb_shl _ (by omega), lN_add]; rfl
      have nv := kvA_bd (e := e) b1 b2 hC hk hz hgw hlb
      have tv := pk_lT (n := kvA o g tm pt ls fs z k e (D w)) (by omega)
      unfold f_X5_bestAhead_L8 f_X5_bestAhead_L96 f_X5_bestAhead_L100
      dsimp only
      rcases hv with ⟨v1, v2⟩ | ⟨a, v1, v2, v3, v4⟩
      · refine ⟨(lN (kvA o g tm pt ls fs z k e (D w)), nI (w + 1), σ), ⟨_, rfl, Or.inr ⟨w, by omega, ag, rfl, fun b hb hab => ?_⟩⟩, ?_⟩
        · by_cases q : b = w
          · rw [q]; exact Nat.le_refl _
          · exact absurd hab (v2 b (by omega))
        · have l2 := (lgc_eq v (-1)).2 v1
          simp (disch := first | assumption | omega) only [↓lB_eq, ↓bd_m, ck_tt, gI_pI, gI_pL, gI_pR, gL_pI, gL_pL, gL_pR, gR_pI, gR_pL, rf_0_0, rf_0_1, rf_0_2, rf_0_3, rf_0_4, rf_0_5, rf_0_6, rf_0_7, rf_0_8, rf_0_9, rf_0_10, rf_1_1, rf_1_2, rf_4_0, rf_4_1, rf_4_2, rf_4_3, rf_4_4, rf_4_5, rf_11_0, rf_11_1, rf_12_0, rf_12_1, rf_12_2, rf_12_6, rf_12_7, rf_12_8, rf_13_0, rf_13_1, rf_13_2, rf_13_3, rf_18_0, rf_18_1, rf_18_2, rf_18_3, rf_23_0, rf_23_1, rf_23_2, rf_23_3, rf_31_0, rf_33_0, rf_33_2, rf_33_3, rf_33_4, rf_37_0, rf_39_0, rf_39_1, rf_39_2, rf_39_3, rf_40_0, rf_40_1, rf_40_2, rf_40_3, rf_47_3, rf_49_3, rf_51_3, rf_53_3, rf_55_1, rf_55_7, rf_55_8, rf_55_9, rf_55_11, rf_55_13, rf_55_14, rf_55_15, rf_55_17, rf_55_18, rf_55_19, rf_55_27, rf_55_28, rf_55_29, rf_55_30, rf_55_31, rf_55_32, rf_55_33, rf_55_34, rf_55_35, rf_55_36, rf_55_38, rf_55_44, rf_55_45, rf_55_46, rf_55_47, aL_2, aL_3, aL_5, aL_6, aL_7, aL_8, aL_9, aL_10, aL_14, aL_15, aL_16, aL_17, aL_19, aL_20, aL_21, aL_22, aL_24, aL_25, aL_26, aL_27, aL_28, aL_29, aL_30, aL_32, aL_34, aL_35, aL_36, aL_38, aL_39, aL_40, aL_41, aL_42, aL_43, aL_44, aL_45, aL_46, aL_48, aL_50, aL_52, aL_54, aL_56, aL_57, aL_58, aL_59, aL_60, aL_61, aL_62, aL_63, aL_64, aL_65, aL_66, aL_67, aL_68, aL_69, aL_70, aL_71, aL_72, aL_73, aL_74, aL_75, aL_76, aL_77, aL_78, aL_79, aL_80, aL_81, inb_nI, lit32, nI_clamp, nI_1, nI_add, if_pos, if_neg, b01_0, b01_1, Nat.add_sub_cancel, if_true, if_false, not_true_eq_false, not_false_eq_true, true_and, and_true, false_and, and_false, pk_sub, b01_n0, b01_n1, bI_t, bI_f, ofNat_nI, ck_d, Int32.lt_iff_toInt_lt, Int32.le_iff_toInt_le, i32_eq, nI_toInt, bI_b01, bI_0, decide_eq_true_eq, bI_tt, bI_ff, nI_prd, ↓reduceIte, iltT, iltF, ileT, ileF, ieqT, ieqF, dcT, dcF, or_true, or_false, true_or, false_or, r3, h4, q0, q2, q3, k1, k3, k4, a1, a3, e3, ev]
      · obtain ⟨cb', kb', _⟩ := key_bd b1 b2 hC hz (by omega) (hP.2.1 a (by omega))
        have nv' := kvA_bd (e := e) b1 b2 hC hk hz (hP.2.1 a (by omega)) hlb
        have tv' := pk_lT (n := kvA o g tm pt ls fs z k e (D a)) (by omega)
        rw [← v3] at tv'
        have l2 : ¬ (lg_cmp v (-1)).toInt = 0 := fun q => by
          have := (lgc_eq v (-1)).1 q
          rw [this, m1] at tv'
          omega
        have lg := lgc_ge (lN (kvA o g tm pt ls fs z k e (D w))) v
        rw [tv, tv'] at lg
        by_cases le : kvA o g tm pt ls fs z k e (D a) ≤ kvA o g tm pt ls fs z k e (D w)
        · have l3 := lg.2 (Int.ofNat_le.2 le)
          refine ⟨(v, nI (w + 1), σ), ⟨v, rfl, Or.inr ⟨a, by omega, v2, v3, fun b hb hab => ?_⟩⟩, ?_⟩
          · by_cases q : b = w
            · rw [q]; exact le
            · exact v4 b (by omega) hab
          · simp (disch := first | assumption | omega) only [↓lB_eq, ↓bd_m, ck_tt, gI_pI, gI_pL, gI_pR, gL_pI, gL_pL, gL_pR, gR_pI, gR_pL, rf_0_0, rf_0_1, rf_0_2, rf_0_3, rf_0_4, rf_0_5, rf_0_6, rf_0_7, rf_0_8, rf_0_9, rf_0_10, rf_1_1, rf_1_2, rf_4_0, rf_4_1, rf_4_2, rf_4_3, rf_4_4, rf_4_5, rf_11_0, rf_11_1, rf_12_0, rf_12_1, rf_12_2, rf_12_6, rf_12_7, rf_12_8, rf_13_0, rf_13_1, rf_13_2, rf_13_3, rf_18_0, rf_18_1, rf_18_2, rf_18_3, rf_23_0, rf_23_1, rf_23_2, rf_23_3, rf_31_0, rf_33_0, rf_33_2, rf_33_3, rf_33_4, rf_37_0, rf_39_0, rf_39_1, rf_39_2, rf_39_3, rf_40_0, rf_40_1, rf_40_2, rf_40_3, rf_47_3, rf_49_3, rf_51_3, rf_53_3, rf_55_1, rf_55_7, rf_55_8, rf_55_9, rf_55_11, rf_55_13, rf_55_14, rf_55_15, rf_55_17, rf_55_18, rf_55_19, rf_55_27, rf_55_28, rf_55_29, rf_55_30, rf_55_31, rf_55_32, rf_55_33, rf_55_34, rf_55_35, rf_55_36, rf_55_38, rf_55_44, rf_55_45, rf_55_46, rf_55_47, aL_2, aL_3, aL_5, aL_6, aL_7, aL_8, aL_9, aL_10, aL_14, aL_15, aL_16, aL_17, aL_19, aL_20, aL_21, aL_22, aL_24, aL_25, aL_26, aL_27, aL_28, aL_29, aL_30, aL_32, aL_34, aL_35, aL_36, aL_38, aL_39, aL_40, aL_41, aL_42, aL_43, aL_44, aL_45, aL_46, aL_48, aL_50, aL_52, aL_54, aL_56, aL_57, aL_58, aL_59, aL_60, aL_61, aL_62, aL_63, aL_64, aL_65, aL_66, aL_67, aL_68, aL_69, aL_70, aL_71, aL_72, aL_73, aL_74, aL_75, aL_76, aL_77, aL_78, aL_79, aL_80, aL_81, inb_nI, lit32, nI_clamp, nI_1, nI_add, if_pos, if_neg, b01_0, b01_1, Nat.add_sub_cancel, if_true, if_false, not_true_eq_false, not_false_eq_true, true_and, and_true, false_and, and_false, pk_sub, b01_n0, b01_n1, bI_t, bI_f, ofNat_nI, ck_d, Int32.lt_iff_toInt_lt, Int32.le_iff_toInt_le, i32_eq, nI_toInt, bI_b01, bI_0, decide_eq_true_eq, bI_tt, bI_ff, nI_prd, ↓reduceIte, iltT, iltF, ileT, ileF, ieqT, ieqF, dcT, dcF, or_true, or_false, true_or, false_or, r3, h4, q0, q2, q3, k1, k3, k4, a1, a3, e3, ev]
        · have l3 : ¬ 0 ≤ (lg_cmp (lN (kvA o g tm pt ls fs z k e (D w))) v).toInt := fun q => le (Int.ofNat_le.1 (lg.1 q))
          refine ⟨(lN (kvA o g tm pt ls fs z k e (D w)), nI (w + 1), σ), ⟨_, rfl, Or.inr ⟨w, by omega, ag, rfl, fun b hb hab => ?_⟩⟩, ?_⟩
          · by_cases q : b = w
            · rw [q]; exact Nat.le_refl _
            · exact Nat.le_trans (Nat.le_of_lt (Nat.lt_of_not_le le)) (v4 b (Nat.lt_of_le_of_ne (Nat.lt_succ_iff.1 hb) q) hab)
          · simp (disch := first | assumption | omega) only [↓lB_eq, ↓bd_m, ck_tt, gI_pI, gI_pL, gI_pR, gL_pI, gL_pL, gL_pR, gR_pI, gR_pL, rf_0_0, rf_0_1, rf_0_2, rf_0_3, rf_0_4, rf_0_5, rf_0_6, rf_0_7, rf_0_8, rf_0_9, rf_0_10, rf_1_1, rf_1_2, rf_4_0, rf_4_1, rf_4_2, rf_4_3, rf_4_4, rf_4_5, rf_11_0, rf_11_1, rf_12_0, rf_12_1, rf_12_2, rf_12_6, rf_12_7, rf_12_8, rf_13_0, rf_13_1, rf_13_2, rf_13_3, rf_18_0, rf_18_1, rf_18_2, rf_18_3, rf_23_0, rf_23_1, rf_23_2, rf_23_3, rf_31_0, rf_33_0, rf_33_2, rf_33_3, rf_33_4, rf_37_0, rf_39_0, rf_39_1, rf_39_2, rf_39_3, rf_40_0, rf_40_1, rf_40_2, rf_40_3, rf_47_3, rf_49_3, rf_51_3, rf_53_3, rf_55_1, rf_55_7, rf_55_8, rf_55_9, rf_55_11, rf_55_13, rf_55_14, rf_55_15, rf_55_17, rf_55_18, rf_55_19, rf_55_27, rf_55_28, rf_55_29, rf_55_30, rf_55_31, rf_55_32, rf_55_33, rf_55_34, rf_55_35, rf_55_36, rf_55_38, rf_55_44, rf_55_45, rf_55_46, rf_55_47, aL_2, aL_3, aL_5, aL_6, aL_7, aL_8, aL_9, aL_10, aL_14, aL_15, aL_16, aL_17, aL_19, aL_20, aL_21, aL_22, aL_24, aL_25, aL_26, aL_27, aL_28, aL_29, aL_30, aL_32, aL_34, aL_35, aL_36, aL_38, aL_39, aL_40, aL_41, aL_42, aL_43, aL_44, aL_45, aL_46, aL_48, aL_50, aL_52, aL_54, aL_56, aL_57, aL_58, aL_59, aL_60, aL_61, aL_62, aL_63, aL_64, aL_65, aL_66, aL_67, aL_68, aL_69, aL_70, aL_71, aL_72, aL_73, aL_74, aL_75, aL_76, aL_77, aL_78, aL_79, aL_80, aL_81, inb_nI, lit32, nI_clamp, nI_1, nI_add, if_pos, if_neg, b01_0, b01_1, Nat.add_sub_cancel, if_true, if_false, not_true_eq_false, not_false_eq_true, true_and, and_true, false_and, and_false, pk_sub, b01_n0, b01_n1, bI_t, bI_f, ofNat_nI, ck_d, Int32.lt_iff_toInt_lt, Int32.le_iff_toInt_le, i32_eq, nI_toInt, bI_b01, bI_0, decide_eq_true_eq, bI_tt, bI_ff, nI_prd, ↓reduceIte, iltT, iltF, ileT, ileF, ieqT, ieqF, dcT, dcF, or_true, or_false, true_or, false_or, r3, h4, q0, q2, q3, k1, k3, k4, a1, a3, e3, ev]
    · have lc0 : ¬ (lg_cmp ((lN (hg 0 (dg (sP tm ls fs k) (D w) (fs k)) 14) ^^^ x1) &&& x3) 0).toInt = 0 := fun q => ag (mi.1 (lc.1 q))
      refine ⟨(v, nI (w + 1), σ), ⟨v, rfl, ?_⟩, ?_⟩
      · rcases hv with ⟨v1, v2⟩ | ⟨a, v1, v2, v3, v4⟩
        · refine Or.inl ⟨v1, fun a ha => ?_⟩
          by_cases q : a = w
          · rw [q]; exact ag
          · exact v2 a (by omega)
        · refine Or.inr ⟨a, by omega, v2, v3, fun b hb hab => ?_⟩
          by_cases q : b = w
          · rw [q] at hab; exact absurd hab ag
          · exact v4 b (by omega) hab
      · unfold f_X5_bestAhead_L8 f_X5_bestAhead_L100
        dsimp only
        simp (disch := first | assumption | omega) only [↓lB_eq, ↓bd_m, ck_tt, gI_pI, gI_pL, gI_pR, gL_pI, gL_pL, gL_pR, gR_pI, gR_pL, rf_0_0, rf_0_1, rf_0_2, rf_0_3, rf_0_4, rf_0_5, rf_0_6, rf_0_7, rf_0_8, rf_0_9, rf_0_10, rf_1_1, rf_1_2, rf_4_0, rf_4_1, rf_4_2, rf_4_3, rf_4_4, rf_4_5, rf_11_0, rf_11_1, rf_12_0, rf_12_1, rf_12_2, rf_12_6, rf_12_7, rf_12_8, rf_13_0, rf_13_1, rf_13_2, rf_13_3, rf_18_0, rf_18_1, rf_18_2, rf_18_3, rf_23_0, rf_23_1, rf_23_2, rf_23_3, rf_31_0, rf_33_0, rf_33_2, rf_33_3, rf_33_4, rf_37_0, rf_39_0, rf_39_1, rf_39_2, rf_39_3, rf_40_0, rf_40_1, rf_40_2, rf_40_3, rf_47_3, rf_49_3, rf_51_3, rf_53_3, rf_55_1, rf_55_7, rf_55_8, rf_55_9, rf_55_11, rf_55_13, rf_55_14, rf_55_15, rf_55_17, rf_55_18, rf_55_19, rf_55_27, rf_55_28, rf_55_29, rf_55_30, rf_55_31, rf_55_32, rf_55_33, rf_55_34, rf_55_35, rf_55_36, rf_55_38, rf_55_44, rf_55_45, rf_55_46, rf_55_47, aL_2, aL_3, aL_5, aL_6, aL_7, aL_8, aL_9, aL_10, aL_14, aL_15, aL_16, aL_17, aL_19, aL_20, aL_21, aL_22, aL_24, aL_25, aL_26, aL_27, aL_28, aL_29, aL_30, aL_32, aL_34, aL_35, aL_36, aL_38, aL_39, aL_40, aL_41, aL_42, aL_43, aL_44, aL_45, aL_46, aL_48, aL_50, aL_52, aL_54, aL_56, aL_57, aL_58, aL_59, aL_60, aL_61, aL_62, aL_63, aL_64, aL_65, aL_66, aL_67, aL_68, aL_69, aL_70, aL_71, aL_72, aL_73, aL_74, aL_75, aL_76, aL_77, aL_78, aL_79, aL_80, aL_81, inb_nI, lit32, nI_clamp, nI_1, nI_add, if_pos, if_neg, b01_0, b01_1, Nat.add_sub_cancel, if_true, if_false, not_true_eq_false, not_false_eq_true, true_and, and_true, false_and, and_false, pk_sub, b01_n0, b01_n1, bI_t, bI_f, ofNat_nI, ck_d, Int32.lt_iff_toInt_lt, Int32.le_iff_toInt_le, i32_eq, nI_toInt, bI_b01, bI_0, decide_eq_true_eq, bI_tt, bI_ff, nI_prd, ↓reduceIte, iltT, iltF, ileT, ileF, ieqT, ieqF, dcT, dcF, or_true, or_false, true_or, false_or, r3, h4, q0, k1, a1]
  · rintro s ⟨v, rfl, hv⟩ rec
    refine ⟨some (v, σ), ⟨v, rfl, hv⟩, ?_⟩
    unfold f_X5_bestAhead_L8
    dsimp only
    simp (disch := first | assumption | omega) only [↓lB_eq, ↓bd_m, ck_tt, gI_pI, gI_pL, gI_pR, gL_pI, gL_pL, gL_pR, gR_pI, gR_pL, rf_0_0, rf_0_1, rf_0_2, rf_0_3, rf_0_4, rf_0_5, rf_0_6, rf_0_7, rf_0_8, rf_0_9, rf_0_10, rf_1_1, rf_1_2, rf_4_0, rf_4_1, rf_4_2, rf_4_3, rf_4_4, rf_4_5, rf_11_0, rf_11_1, rf_12_0, rf_12_1, rf_12_2, rf_12_6, rf_12_7, rf_12_8, rf_13_0, rf_13_1, rf_13_2, rf_13_3, rf_18_0, rf_18_1, rf_18_2, rf_18_3, rf_23_0, rf_23_1, rf_23_2, rf_23_3, rf_31_0, rf_33_0, rf_33_2, rf_33_3, rf_33_4, rf_37_0, rf_39_0, rf_39_1, rf_39_2, rf_39_3, rf_40_0, rf_40_1, rf_40_2, rf_40_3, rf_47_3, rf_49_3, rf_51_3, rf_53_3, rf_55_1, rf_55_7, rf_55_8, rf_55_9, rf_55_11, rf_55_13, rf_55_14, rf_55_15, rf_55_17, rf_55_18, rf_55_19, rf_55_27, rf_55_28, rf_55_29, rf_55_30, rf_55_31, rf_55_32, rf_55_33, rf_55_34, rf_55_35, rf_55_36, rf_55_38, rf_55_44, rf_55_45, rf_55_46, rf_55_47, aL_2, aL_3, aL_5, aL_6, aL_7, aL_8, aL_9, aL_10, aL_14, aL_15, aL_16, aL_17, aL_19, aL_20, aL_21, aL_22, aL_24, aL_25, aL_26, aL_27, aL_28, aL_29, aL_30, aL_32, aL_34, aL_35, aL_36, aL_38, aL_39, aL_40, aL_41, aL_42, aL_43, aL_44, aL_45, aL_46, aL_48, aL_50, aL_52, aL_54, aL_56, aL_57, aL_58, aL_59, aL_60, aL_61, aL_62, aL_63, aL_64, aL_65, aL_66, aL_67, aL_68, aL_69, aL_70, aL_71, aL_72, aL_73, aL_74, aL_75, aL_76, aL_77, aL_78, aL_79, aL_80, aL_81, inb_nI, lit32, nI_clamp, nI_1, nI_add, if_pos, if_neg, b01_0, b01_1, Nat.add_sub_cancel, if_true, if_false, not_true_eq_false, not_false_eq_true, true_and, and_true, false_and, and_false, pk_sub, b01_n0, b01_n1, bI_t, bI_f, ofNat_nI, ck_d, Int32.lt_iff_toInt_lt, Int32.le_iff_toInt_le, i32_eq, nI_toInt, bI_b01, bI_0, decide_eq_true_eq, bI_tt, bI_ff, nI_prd, ↓reduceIte, iltT, iltF, ileT, ileF, ieqT, ieqF, dcT, dcF, or_true, or_false, true_or, false_or, r3, h4]
end
