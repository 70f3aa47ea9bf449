/-! the class's ways: one note more is spread over the courses -/
def isW (w : Nat) : Prop := w = 13 ∨ w = 18 ∨ w = 23
theorem wr0 {σ : Sg} {w : Nat} (hr : RefI σ) (h : isW w) : gR σ w 0 = w + 1 := by
  rcases h with rfl | rfl | rfl
  · exact rf_13_0 hr
  · exact rf_18_0 hr
  · exact rf_23_0 hr
theorem wr1 {σ : Sg} {w : Nat} (hr : RefI σ) (h : isW w) : gR σ w 1 = w + 2 := by
  rcases h with rfl | rfl | rfl
  · exact rf_13_1 hr
  · exact rf_18_1 hr
  · exact rf_23_1 hr
theorem wr2 {σ : Sg} {w : Nat} (hr : RefI σ) (h : isW w) : gR σ w 2 = w + 3 := by
  rcases h with rfl | rfl | rfl
  · exact rf_13_2 hr
  · exact rf_18_2 hr
  · exact rf_23_2 hr
theorem wr3 {σ : Sg} {w : Nat} (hr : RefI σ) (h : isW w) : gR σ w 3 = w + 4 := by
  rcases h with rfl | rfl | rfl
  · exact rf_13_3 hr
  · exact rf_18_3 hr
  · exact rf_23_3 hr
theorem aw1 {w : Nat} (h : isW w) : aL (w + 1) = 120 := by rcases h with rfl | rfl | rfl <;> rfl
theorem aw2 {w : Nat} (h : isW w) : aL (w + 2) = 120 := by rcases h with rfl | rfl | rfl <;> rfl
theorem aw3 {w : Nat} (h : isW w) : aL (w + 3) = 120 := by rcases h with rfl | rfl | rfl <;> rfl
theorem aw4 {w : Nat} (h : isW w) : aL (w + 4) = 120 := by rcases h with rfl | rfl | rfl <;> rfl
theorem isW.bd {w : Nat} (h : isW w) : 13 ≤ w ∧ w ≤ 23 := by rcases h with rfl | rfl | rfl <;> decide
theorem isW.ne {w v : Nat} (h : isW w) (q : isW v) (e : w ≠ v) : w + 5 ≤ v ∨ v + 5 ≤ w := by
  rcases h with rfl | rfl | rfl <;> rcases q with rfl | rfl | rfl <;> omega
theorem perm3.w {a b c : Nat} (h : perm3 a b c) : isW a ∧ isW b ∧ isW c ∧ a ≠ b ∧ a ≠ c ∧ b ≠ c := by
  unfold perm3 at h
  unfold isW
  omega
theorem RefI.pR3 {σ : Sg} (hr : RefI σ) {k a : Nat} (hk : k = 3 ∨ k = 4 ∨ k = 5) (h : perm3 (gR (pR σ 12 k a) 12 3) (gR (pR σ 12 k a) 12 4) (gR (pR σ 12 k a) 12 5)) : RefI (pR σ 12 k a) := by
  refine ⟨fun p j hj => ?_, h⟩
  rw [gR_pR]
  by_cases e : p = 12 ∧ j = k
  · obtain ⟨rfl, rfl⟩ := e
    rcases hk with rfl | rfl | rfl
    · exact absurd hj (by decide)
    · exact absurd hj (by decide)
    · exact absurd hj (by decide)
  · rw [if_neg e]; exact hr.1 p j hj
/-- two of the three are changed about -/
theorem RefI.sw {σ : Sg} (hr : RefI σ) {i j a b : Nat} (hi : i = 3 ∨ i = 4 ∨ i = 5) (hj : j = 3 ∨ j = 4 ∨ j = 5) (h : perm3 (gR (pR (pR σ 12 i a) 12 j b) 12 3) (gR (pR (pR σ 12 i a) 12 j b) 12 4) (gR (pR (pR σ 12 i a) 12 j b) 12 5)) : RefI (pR (pR σ 12 i a) 12 j b) := by
  refine ⟨fun p k hk => ?_, h⟩
  have h0 : ∀ i, (i = 3 ∨ i = 4 ∨ i = 5) → ¬ (p = 12 ∧ k = i) := by
    rintro i hi ⟨rfl, rfl⟩
    rcases hi with rfl | rfl | rfl
    · exact absurd hk (by decide)
    · exact absurd hk (by decide)
    · exact absurd hk (by decide)
  rw [gR_pR, if_neg (h0 j hj), gR_pR, if_neg (h0 i hi)]
  exact hr.1 p k hk
theorem s_X7_start {σ : Sg} {w : Nat} (hr : RefI σ) (hw : isW w) : f_X7_startWithNothingLaid w σ = some ((), pL (pI (pI (pL (pI σ w 4 1) (w + 1) 0 0) (w + 2) 0 0) (w + 3) 0 0) (w + 4) 0 0) := by
  have r0 := wr0 hr hw
  have r1 := wr1 hr hw
  have r2 := wr2 hr hw
  have r3 := wr3 hr hw
  unfold f_X7_startWithNothingLaid
  simp only [lB_eq, gR_pI, gR_pL, r0, r1, r2, r3, aw1 hw, aw2 hw, aw3 hw, aw4 hw]
  rfl
theorem s_X7_add {σ : Sg} {w q : Nat} (hr : RefI σ) (hw : isW w) (hq : q < 120) (h4 : gI σ w 4 = nI q) (x : Int64) (y : Int32) : f_X7_add w x y σ = some ((), pI (pI (pL σ (w + 1) q x) (w + 2) q y) w 4 (nI (q + 1))) := by
  have r0 := wr0 hr hw
  have r1 := wr1 hr hw
  have a1 := aw1 hw
  have a2 := aw2 hw
  unfold f_X7_add f_X7_add_L39
  simp (disch := first | assumption | omega) only [↓lB_eq, ↓bd_m, ck_tt, gI_pI, gI_pL, gI_pR, gL_pI, gL_pL, gL_pR, gR_pI, gR_pL, rf_0_0, rf_0_1, rf_0_2, rf_0_3, rf_0_4, rf_0_5, rf_0_6, rf_0_7, rf_0_8, rf_0_9, rf_0_10, rf_1_1, rf_1_2, rf_4_0, rf_4_1, rf_4_2, rf_4_3, rf_4_4, rf_4_5, rf_11_0, rf_11_1, rf_12_0, rf_12_1, rf_12_2, rf_12_6, rf_12_7, rf_12_8, rf_13_0, rf_13_1, rf_13_2, rf_13_3, rf_18_0, rf_18_1, rf_18_2, rf_18_3, rf_23_0, rf_23_1, rf_23_2, rf_23_3, rf_31_0, rf_33_0, rf_33_2, rf_33_3, rf_33_4, rf_37_0, rf_39_0, rf_39_1, rf_39_2, rf_39_3, rf_40_0, rf_40_1, rf_40_2, rf_40_3, rf_47_3, rf_49_3, rf_51_3, rf_53_3, rf_55_1, rf_55_7, rf_55_8, rf_55_9, rf_55_11, rf_55_13, rf_55_14, rf_55_15, rf_55_17, rf_55_18, rf_55_19, rf_55_27, rf_55_28, rf_55_29, rf_55_30, rf_55_31, rf_55_32, rf_55_33, rf_55_34, rf_55_35, rf_55_36, rf_55_38, rf_55_44, rf_55_45, rf_55_46, rf_55_47, aL_2, aL_3, aL_5, aL_6, aL_7, aL_8, aL_9, aL_10, aL_14, aL_15, aL_16, aL_17, aL_19, aL_20, aL_21, aL_22, aL_24, aL_25, aL_26, aL_27, aL_28, aL_29, aL_30, aL_32, aL_34, aL_35, aL_36, aL_38, aL_39, aL_40, aL_41, aL_42, aL_43, aL_44, aL_45, aL_46, aL_48, aL_50, aL_52, aL_54, aL_56, aL_57, aL_58, aL_59, aL_60, aL_61, aL_62, aL_63, aL_64, aL_65, aL_66, aL_67, aL_68, aL_69, aL_70, aL_71, aL_72, aL_73, aL_74, aL_75, aL_76, aL_77, aL_78, aL_79, aL_80, aL_81, inb_nI, lit32, nI_clamp, nI_1, nI_add, if_pos, if_neg, b01_0, b01_1, Nat.add_sub_cancel, if_true, if_false, not_true_eq_false, not_false_eq_true, true_and, and_true, false_and, and_false, pk_sub, b01_n0, b01_n1, bI_t, bI_f, ofNat_nI, ck_d, Int32.lt_iff_toInt_lt, Int32.le_iff_toInt_le, i32_eq, nI_toInt, bI_b01, bI_0, decide_eq_true_eq, bI_tt, bI_ff, nI_prd, ↓reduceIte, iltT, iltF, ileT, ileF, ieqT, ieqF, dcT, dcF, or_true, or_false, true_or, false_or, r0, r1, a1, a2, h4]
/-- a laying of what sounds among the first m, as far as each note by itself, and no two on one course -/
def PLm (c : Nat) (o g pt : Nat → Nat) (z : Int) (ban : Nat) (S : Nat → Bool) (d : Nat → Nat) (m : Nat) : Prop := (∀ i, i < m → S i = true → d i < c ∧ d i ≠ ban ∧ 0 ≤ fret o pt z d i ∧ fret o pt z d i ≤ (g 0 : Int)) ∧ twB S d m = false
/-- how a way is held -/
def Wc (σ : Sg) (w : Nat) (S : Nat → Bool) (e : Nat → Nat) (m b : Nat) : Prop := gL σ (w + 1) b = lN (hg 0 (dg S e m) 14) ∧ ∃ u, u < 32 ∧ gI σ (w + 2) b = nI u ∧ ∀ j, u.testBit j = anyB S e j m
def ffc (c : Nat) : Nat → Nat
  | 0 => 1
  | t + 1 => ffc c t * (c - t)
theorem ffc_le : ∀ c, c < 6 → ∀ t, t < 16 → ffc c t ≤ 120 := by decide
def upE (E : Nat → Nat → Nat) (q : Nat) (e : Nat → Nat) : Nat → Nat → Nat := fun b => if b = q then e else E b
theorem upE_eq {E : Nat → Nat → Nat} {q : Nat} {e : Nat → Nat} : upE E q e q = e := if_pos rfl
theorem upE_ne {E : Nat → Nat → Nat} {q b : Nat} {e : Nat → Nat} (h : b ≠ q) : upE E q e b = E b := if_neg h
def Wp (v p k : Nat) : Prop := (p = v ∧ k = 4) ∨ p = v + 2
def WLp (v p : Nat) (_ : Nat) : Prop := p = v + 1
def okj (c : Nat) (o g pt : Nat → Nat) (z : Int) (ban : Nat) (S : Nat → Bool) (i0 : Nat) (e : Nat → Nat) (j : Nat) : Prop := (j < c ∧ j ≠ ban) ∧ anyB S e j i0 = false ∧ 0 ≤ (pt i0 : Int) + z - (o j : Int) ∧ (pt i0 : Int) + z - (o j : Int) ≤ (g 0 : Int)
def SpI (c : Nat) (o g pt : Nat → Nat) (z : Int) (ban : Nat) (S : Nat → Bool) (i0 : Nat) (D : Nat → Nat → Nat) (v : Nat) (σ1 : Sg) (B : Nat) (C : Nat → Nat → Prop) (τ : Sg) : Prop := Ag (Wp v) (WLp v) σ1 τ ∧ ∃ (q : Nat) (E : Nat → Nat → Nat), gI τ v 4 = nI q ∧ q ≤ B ∧ (∀ b, b < q → Wc τ v S (E b) (i0 + 1) b ∧ PLm c o g pt z ban S (E b) (i0 + 1)) ∧ ∀ a j, C a j → okj c o g pt z ban S i0 (D a) j → ∃ b, b < q ∧ ∀ i, i < i0 + 1 → S i = true → E b i = upN (D a) i0 j i
section
variable {c : Nat} {o g pt : Nat → Nat} {z : Int} {ban : Nat} {S : Nat → Bool} {i0 : Nat} {D : Nat → Nat → Nat} {v : Nat} {σ1 : Sg}
theorem SpI.skip {B B' : Nat} {C C' : Nat → Nat → Prop} {τ : Sg} (h : SpI c o g pt z ban S i0 D v σ1 B C τ) (hB : B ≤ B') (hC : ∀ a j, C' a j → okj c o g pt z ban S i0 (D a) j → C a j) : SpI c o g pt z ban S i0 D v σ1 B' C' τ := by
  obtain ⟨hA, q, E, h1, h2, h3, h4⟩ := h
  exact ⟨hA, q, E, h1, by omega, h3, fun a j hc hk => h4 a j (hC a j hc hk) hk⟩
theorem PLm.new {e : Nat → Nat} {j : Nat} (hs : S i0 = true) (h : PLm c o g pt z ban S e i0) (hk : okj c o g pt z ban S i0 e j) : PLm c o g pt z ban S (upN e i0 j) (i0 + 1) := by
  have eq1 : ∀ i, i < i0 → S i = true → upN e i0 j i = e i := fun i hi _ => upN_ne (by omega)
  refine ⟨fun i hi hsi => ?_, ?_⟩
  · by_cases q : i = i0
    · subst q
      unfold fret
      rw [upN_eq]
      exact ⟨hk.1.1, hk.1.2, hk.2.2.1, hk.2.2.2⟩
    · have := h.1 i (by omega) hsi
      unfold fret at this ⊢
      rw [upN_ne q]; exact this
  · rw [twB_suc, twB_cg (d' := e) eq1, h.2, upN_eq, anyB_cg (d' := e) eq1, hk.2.1, Bool.and_false]; rfl
theorem Wc.new {τ : Sg} {w a j q : Nat} {e : Nat → Nat} {u : Nat} (hi : i0 < 14) (hs : S i0 = true) (hj : j < 5) (he : ∀ i, i < i0 → S i = true → e i < 8) (hu : u < 32) (ht : ∀ j, u.testBit j = anyB S e j i0) (h1 : gL τ (w + 1) q = lN (hg 0 (dg S e i0) 14 ||| j * 8 ^ (13 - i0))) (h2 : gI τ (w + 2) q = nI (u ||| 2 ^ j)) : Wc τ w S (upN e i0 j) (i0 + 1) q := by
  have eq1 : ∀ i, i < i0 → S i = true → upN e i0 j i = e i := fun i hi _ => upN_ne (by omega)
  refine ⟨?_, u ||| 2 ^ j, or_lt (m := 5) hu hj, h2, fun k => ?_⟩
  · rw [h1, hg_new hi he (by omega) hs]
  · rw [tb_or, ht, anyB_suc, hs, Bool.true_and, upN_eq, anyB_cg (d' := e) eq1]
theorem s_spreadIn {τ : Sg} {w q0 a : Nat} {x2 x3 : Int32} {rec11 : Int32 × Sg → Option (Unit × Sg)} (hr : RefI σ1) (hw : isW w) (hv : isW v) (hne : w ≠ v) (r4 : gR σ1 12 4 = w) (r5 : gR σ1 12 5 = v) (hc : c ≤ 5) (c0 : gI σ1 1 0 = nI c) (ho : ∀ j, j < 5 → gI σ1 2 j = nI (o j) ∧ o j ≤ 60) (hg0 : gI σ1 3 0 = nI (g 0)) (hg9 : g 0 ≤ 9) (hi : i0 < 14) (hs : S i0 = true) (hx2 : x2.toInt = (pt i0 : Int) + z) (hxb : -100 ≤ x2.toInt ∧ x2.toInt ≤ 100) (hx3 : ∀ j : Nat, j < 5 → ((j : Int) = x3.toInt ↔ j = ban)) (hq0 : q0 ≤ ffc c (cntB S i0)) (ha : a < q0) (hD : ∀ a, a < q0 → Wc σ1 w S (D a) i0 a ∧ PLm c o g pt z ban S (D a) i0) (h : SpI c o g pt z ban S i0 D v σ1 (a * (c - cntB S i0)) (fun b j => b < a ∧ j < c) τ) : ∃ τ', fx (f_X5_spread_L26 rec11 12 (nI i0) x2 x3 (nI a)) FU (nI 0, τ) = rec11 (nI (a + 1), τ') ∧ SpI c o g pt z ban S i0 D v σ1 ((a + 1) * (c - cntB S i0)) (fun b j => b < a + 1 ∧ j < c) τ' := by
  obtain ⟨⟨d1, u, hu, d2, d3⟩, hPL⟩ := hD a ha
  have hwb := hw.bd
  have hvb := hv.bd
  have hwv := hw.ne hv hne
  have hcn : cntB S i0 < 15 := by have := cntB_le S i0; omega
  have hff := ffc_le c (by omega) (cntB S i0 + 1) (by omega)
  have hff0 := ffc_le c (by omega) (cntB S i0) (by omega)
  have hmul : (a + 1) * (c - cntB S i0) ≤ 120 := by
    refine Nat.le_trans ?_ hff
    show _ ≤ ffc c (cntB S i0) * (c - cntB S i0)
    exact Nat.mul_le_mul_right _ (by omega)
  have hfree : cntB (fun j => !u.testBit j) c = c - cntB S i0 := by
    have h1 := cnt_not (P := fun j => u.testBit j) c
    have h2 := used_cnt (c := c) hPL.2 (fun i hi hsi => (hPL.1 i hi hsi).1)
    rw [← cntB_cg (P := fun j => u.testBit j) (fun j _ => d3 j)] at h2
    omega
  refine fx_inv2 (I := fun j s => ∃ υ, s = (nI j, υ) ∧ SpI c o g pt z ban S i0 D v σ1 (a * (c - cntB S i0) + cntB (fun j => !u.testBit j) j) (fun b k => (b < a ∧ k < c) ∨ (b = a ∧ k < j)) υ) (Q := fun e => ∃ τ', e = rec11 (nI (a + 1), τ') ∧ SpI c o g pt z ban S i0 D v σ1 ((a + 1) * (c - cntB S i0)) (fun b j => b < a + 1 ∧ j < c) τ') (n := c) ?_ ?_ c 0 FU _ (by omega) (by unfold FU; omega) ⟨τ, rfl, h.skip (Nat.le_add_right _ _) (fun b j hc _ => by omega)⟩
  · rintro j s hj ⟨υ, rfl, hI⟩ rec
    have hA := hI.1
    have hr2 : RefI υ := hA.ref hr
    have t4 : gR υ 12 4 = w := (hA.2.2.2 12 4).trans r4
    have t5 : gR υ 12 5 = v := (hA.2.2.2 12 5).trans r5
    have t0 : gI υ 1 0 = nI c := (hA.2.1 1 0 (by unfold Wp; omega)).trans c0
    have to := (hA.2.1 2 j (by unfold Wp; omega)).trans (ho j (by omega)).1
    have bo := (ho j (by omega)).2
    have tg : gI υ 3 0 = nI (g 0) := (hA.2.1 3 0 (by unfold Wp; omega)).trans hg0
    have e1 : gL υ (w + 1) a = lN (hg 0 (dg S (D a) i0) 14) := (hA.2.2.1 (w + 1) a (by unfold WLp; omega)).trans d1
    have e2 : gI υ (w + 2) a = nI u := (hA.2.1 (w + 2) a (by unfold Wp; omega)).trans d2
    have r0 := wr0 hr2 hw
    have r1 := wr1 hr2 hw
    have k1 := aw1 hw
    have k2 := aw2 hw
    have h3 := hx3 j (by omega)
    have hbt := bit_t (b := u) (i := j) (by omega) (by omega)
    left
    by_cases q1 : j = ban
    · refine ⟨(nI (j + 1), υ), ⟨υ, rfl, hI.skip (by have := cntB_mono (fun j => !u.testBit j) (show j ≤ j + 1 by omega); omega) (fun b k hc hk => ?_)⟩, ?_⟩
      · rcases hc with hc | ⟨rfl, hc⟩
        · exact Or.inl hc
        · refine Or.inr ⟨rfl, ?_⟩
          by_cases e : k = j
          · exact absurd (e.trans q1) hk.1.2
          · omega
      · have h3' := h3.2 q1
        unfold f_X5_spread_L26 f_X5_spread_L66 f_X5_spread_L67 f_X5_spread_L137
        dsimp only
        simp (disch := first | assumption | omega) only [↓lB_eq, ↓bd_m, ck_tt, gI_pI, gI_pL, gI_pR, gL_pI, gL_pL, gL_pR, gR_pI, gR_pL, rf_0_0, rf_0_1, rf_0_2, rf_0_3, rf_0_4, rf_0_5, rf_0_6, rf_0_7, rf_0_8, rf_0_9, rf_0_10, rf_1_1, rf_1_2, rf_4_0, rf_4_1, rf_4_2, rf_4_3, rf_4_4, rf_4_5, rf_11_0, rf_11_1, rf_12_0, rf_12_1, rf_12_2, rf_12_6, rf_12_7, rf_12_8, rf_13_0, rf_13_1, rf_13_2, rf_13_3, rf_18_0, rf_18_1, rf_18_2, rf_18_3, rf_23_0, rf_23_1, rf_23_2, rf_23_3, rf_31_0, rf_33_0, rf_33_2, rf_33_3, rf_33_4, rf_37_0, rf_39_0, rf_39_1, rf_39_2, rf_39_3, rf_40_0, rf_40_1, rf_40_2, rf_40_3, rf_47_3, rf_49_3, rf_51_3, rf_53_3, rf_55_1, rf_55_7, rf_55_8, rf_55_9, rf_55_11, rf_55_13, rf_55_14, rf_55_15, rf_55_17, rf_55_18, rf_55_19, rf_55_27, rf_55_28, rf_55_29, rf_55_30, rf_55_31, rf_55_32, rf_55_33, rf_55_34, rf_55_35, rf_55_36, rf_55_38, rf_55_44, rf_55_45, rf_55_46, rf_55_47, aL_2, aL_3, aL_5, aL_6, aL_7, aL_8, aL_9, aL_10, aL_14, aL_15, aL_16, aL_17, aL_19, aL_20, aL_21, aL_22, aL_24, aL_25, aL_26, aL_27, aL_28, aL_29, aL_30, aL_32, aL_34, aL_35, aL_36, aL_38, aL_39, aL_40, aL_41, aL_42, aL_43, aL_44, aL_45, aL_46, aL_48, aL_50, aL_52, aL_54, aL_56, aL_57, aL_58, aL_59, aL_60, aL_61, aL_62, aL_63, aL_64, aL_65, aL_66, aL_67, aL_68, aL_69, aL_70, aL_71, aL_72, aL_73, aL_74, aL_75, aL_76, aL_77, aL_78, aL_79, aL_80, aL_81, inb_nI, lit32, nI_clamp, nI_1, nI_add, if_pos, if_neg, b01_0, b01_1, Nat.add_sub_cancel, if_true, if_false, not_true_eq_false, not_false_eq_true, true_and, and_true, false_and, and_false, pk_sub, b01_n0, b01_n1, bI_t, bI_f, ofNat_nI, ck_d, Int32.lt_iff_toInt_lt, Int32.le_iff_toInt_le, i32_eq, nI_toInt, bI_b01, bI_0, decide_eq_true_eq, bI_tt, bI_ff, nI_prd, ↓reduceIte, iltT, iltF, ileT, ileF, ieqT, ieqF, dcT, dcF, or_true, or_false, true_or, false_or, t0]
    · have h3' : ¬ (j : Int) = x3.toInt := fun e => q1 (h3.1 e)
      by_cases q2 : u.testBit j = true
      · rw [if_pos q2] at hbt
        refine ⟨(nI (j + 1), υ), ⟨υ, rfl, hI.skip (by have := cntB_mono (fun j => !u.testBit j) (show j ≤ j + 1 by omega); omega) (fun b k hc hk => ?_)⟩, ?_⟩
        · rcases hc with hc | ⟨rfl, hc⟩
          · exact Or.inl hc
          · refine Or.inr ⟨rfl, ?_⟩
            by_cases e : k = j
            · subst e
              have := hk.2.1
              rw [← d3, q2] at this
              cases this
            · omega
        · unfold f_X5_spread_L26 f_X5_spread_L66 f_X5_spread_L67 f_X5_spread_L137
          dsimp only
          simp (disch := first | assumption | omega) only [↓lB_eq, ↓bd_m, ck_tt, gI_pI, gI_pL, gI_pR, gL_pI, gL_pL, gL_pR, gR_pI, gR_pL, rf_0_0, rf_0_1, rf_0_2, rf_0_3, rf_0_4, rf_0_5, rf_0_6, rf_0_7, rf_0_8, rf_0_9, rf_0_10, rf_1_1, rf_1_2, rf_4_0, rf_4_1, rf_4_2, rf_4_3, rf_4_4, rf_4_5, rf_11_0, rf_11_1, rf_12_0, rf_12_1, rf_12_2, rf_12_6, rf_12_7, rf_12_8, rf_13_0, rf_13_1, rf_13_2, rf_13_3, rf_18_0, rf_18_1, rf_18_2, rf_18_3, rf_23_0, rf_23_1, rf_23_2, rf_23_3, rf_31_0, rf_33_0, rf_33_2, rf_33_3, rf_33_4, rf_37_0, rf_39_0, rf_39_1, rf_39_2, rf_39_3, rf_40_0, rf_40_1, rf_40_2, rf_40_3, rf_47_3, rf_49_3, rf_51_3, rf_53_3, rf_55_1, rf_55_7, rf_55_8, rf_55_9, rf_55_11, rf_55_13, rf_55_14, rf_55_15, rf_55_17, rf_55_18, rf_55_19, rf_55_27, rf_55_28, rf_55_29, rf_55_30, rf_55_31, rf_55_32, rf_55_33, rf_55_34, rf_55_35, rf_55_36, rf_55_38, rf_55_44, rf_55_45, rf_55_46, rf_55_47, aL_2, aL_3, aL_5, aL_6, aL_7, aL_8, aL_9, aL_10, aL_14, aL_15, aL_16, aL_17, aL_19, aL_20, aL_21, aL_22, aL_24, aL_25, aL_26, aL_27, aL_28, aL_29, aL_30, aL_32, aL_34, aL_35, aL_36, aL_38, aL_39, aL_40, aL_41, aL_42, aL_43, aL_44, aL_45, aL_46, aL_48, aL_50, aL_52, aL_54, aL_56, aL_57, aL_58, aL_59, aL_60, aL_61, aL_62, aL_63, aL_64, aL_65, aL_66, aL_67, aL_68, aL_69, aL_70, aL_71, aL_72, aL_73, aL_74, aL_75, aL_76, aL_77, aL_78, aL_79, aL_80, aL_81, inb_nI, lit32, nI_clamp, nI_1, nI_add, if_pos, if_neg, b01_0, b01_1, Nat.add_sub_cancel, if_true, if_false, not_true_eq_false, not_false_eq_true, true_and, and_true, false_and, and_false, pk_sub, b01_n0, b01_n1, bI_t, bI_f, ofNat_nI, ck_d, Int32.lt_iff_toInt_lt, Int32.le_iff_toInt_le, i32_eq, nI_toInt, bI_b01, bI_0, decide_eq_true_eq, bI_tt, bI_ff, nI_prd, ↓reduceIte, iltT, iltF, ileT, ileF, ieqT, ieqF, dcT, dcF, or_true, or_false, true_or, false_or, t0, t4, r1, k2, e2]
      · rw [if_neg q2] at hbt
        have hf := s_X1_hasFret hr2 (x2 - nI (o j))
        have hso : (x2 - nI (o j)).toInt = (pt i0 : Int) + z - (o j : Int) := by
          rw [i32_sub (by omega) (by rw [nI_toInt (by omega)]; omega), nI_toInt (by omega), hx2]
        rw [hso, tg, nI_toInt (by omega)] at hf
        by_cases q3 : 0 ≤ (pt i0 : Int) + z - (o j : Int) ∧ (pt i0 : Int) + z - (o j : Int) ≤ (g 0 : Int)
        · rw [decide_eq_true q3] at hf
          obtain ⟨_, q, E, i1, i2, i3, i4⟩ := hI
          have hnb : (fun j => !u.testBit j) j = true := by show (!u.testBit j) = true; rw [Bool.not_eq_true] at q2; rw [q2]; rfl
          have hcs : cntB (fun j => !u.testBit j) (j + 1) = cntB (fun j => !u.testBit j) j + 1 := cntB_t hnb
          have hcm := cntB_mono (fun j => !u.testBit j) (show j + 1 ≤ c by omega)
          have hq : q < 120 := by
            rw [Nat.add_mul, Nat.one_mul] at hmul
            omega
          have hok : okj c o g pt z ban S i0 (D a) j := ⟨⟨hj, q1⟩, by rw [← d3]; rw [Bool.not_eq_true] at q2; exact q2, q3.1, q3.2⟩
          have hadd := s_X7_add hr2 hv hq i1 (lN (hg 0 (dg S (D a) i0) 14) ||| ((nI j).toInt64 <<< ((nI (3 * (13 - i0))).toInt64 &&& 63))) (nI u ||| (nI 1 <<< (nI j &&& nI 31)))
          have hbo := s_X5_bitsOf (σ := υ) hi
          have hva : lN (hg 0 (dg S (D a) i0) 14) ||| ((nI j).toInt64 <<< ((nI (3 * (13 - i0))).toInt64 &&& 63)) = lN (hg 0 (dg S (D a) i0) 14 ||| j * 8 ^ (13 - i0)) := by
            rw [nI_l (by omega), lsh hi, fb_orL]
          have hvb2 : nI u ||| (nI 1 <<< (nI j &&& nI 31)) = nI (u ||| 2 ^ j) := or_bit (by omega)
          rw [hva, hvb2] at hadd
          let υ' : Sg := pI (pI (pL υ (v + 1) q (lN (hg 0 (dg S (D a) i0) 14 ||| j * 8 ^ (13 - i0)))) (v + 2) q (nI (u ||| 2 ^ j))) v 4 (nI (q + 1))
          refine ⟨(nI (j + 1), υ'), ⟨υ', rfl, ((hA.pL rfl).pI (Or.inr rfl)).pI (Or.inl ⟨rfl, rfl⟩), q + 1, upE E q (upN (D a) i0 j), ?_, by omega, fun b hb => ?_, fun b k hc hk => ?_⟩, ?_⟩
          · show gI (pI _ v 4 _) v 4 = _
            rw [gI_pI, if_pos ⟨rfl, rfl⟩]
          · by_cases e : b = q
            · subst e
              rw [upE_eq]
              refine ⟨Wc.new (a := a) hi hs (by omega) (fun i hi hsi => by have := (hPL.1 i hi hsi).1; omega) hu d3 ?_ ?_, hPL.new hs hok⟩
              · show gL (pI (pI (pL υ (v + 1) b _) (v + 2) b _) v 4 _) (v + 1) b = _
                rw [gL_pI, gL_pI, gL_pL, if_pos ⟨rfl, rfl⟩]
              · show gI (pI (pI _ (v + 2) b _) v 4 _) (v + 2) b = _
                rw [gI_pI, if_neg (by omega), gI_pI, if_pos ⟨rfl, rfl⟩]
            · rw [upE_ne e]
              obtain ⟨⟨w1, u', w2, w3, w4⟩, w5⟩ := i3 b (by omega)
              refine ⟨⟨?_, u', w2, ?_, w4⟩, w5⟩
              · show gL (pI (pI (pL υ (v + 1) q _) (v + 2) q _) v 4 _) (v + 1) b = _
                rw [gL_pI, gL_pI, gL_pL, if_neg (by omega)]; exact w1
              · show gI (pI (pI (pL υ (v + 1) q _) (v + 2) q _) v 4 _) (v + 2) b = _
                rw [gI_pI, if_neg (by omega), gI_pI, if_neg (by omega), gI_pL]; exact w3
          · by_cases e : b = a ∧ k = j
            · obtain ⟨rfl, rfl⟩ := e
              exact ⟨q, by omega, fun i _ _ => by rw [upE_eq]⟩
            · obtain ⟨b', l1, l2⟩ := i4 b k (by omega) hk
              exact ⟨b', by omega, fun i hi hsi => by rw [upE_ne (by omega)]; exact l2 i hi hsi⟩
          · unfold f_X5_spread_L26 f_X5_spread_L67 f_X5_spread_L137
            dsimp only
            have hv1 : nI u ||| nI 1 <<< (nI j &&& nI 31) = nI (u ||| 2 ^ j) := hvb2
            simp (disch := first | assumption | omega) only [↓lB_eq, ↓bd_m, ck_tt, gI_pI, gI_pL, gI_pR, gL_pI, gL_pL, gL_pR, gR_pI, gR_pL, rf_0_0, rf_0_1, rf_0_2, rf_0_3, rf_0_4, rf_0_5, rf_0_6, rf_0_7, rf_0_8, rf_0_9, rf_0_10, rf_1_1, rf_1_2, rf_4_0, rf_4_1, rf_4_2, rf_4_3, rf_4_4, rf_4_5, rf_11_0, rf_11_1, rf_12_0, rf_12_1, rf_12_2, rf_12_6, rf_12_7, rf_12_8, rf_13_0, rf_13_1, rf_13_2, rf_13_3, rf_18_0, rf_18_1, rf_18_2, rf_18_3, rf_23_0, rf_23_1, rf_23_2, rf_23_3, rf_31_0, rf_33_0, rf_33_2, rf_33_3, rf_33_4, rf_37_0, rf_39_0, rf_39_1, rf_39_2, rf_39_3, rf_40_0, rf_40_1, rf_40_2, rf_40_3, rf_47_3, rf_49_3, rf_51_3, rf_53_3, rf_55_1, rf_55_7, rf_55_8, rf_55_9, rf_55_11, rf_55_13, rf_55_14, rf_55_15, rf_55_17, rf_55_18, rf_55_19, rf_55_27, rf_55_28, rf_55_29, rf_55_30, rf_55_31, rf_55_32, rf_55_33, rf_55_34, rf_55_35, rf_55_36, rf_55_38, rf_55_44, rf_55_45, rf_55_46, rf_55_47, aL_2, aL_3, aL_5, aL_6, aL_7, aL_8, aL_9, aL_10, aL_14, aL_15, aL_16, aL_17, aL_19, aL_20, aL_21, aL_22, aL_24, aL_25, aL_26, aL_27, aL_28, aL_29, aL_30, aL_32, aL_34, aL_35, aL_36, aL_38, aL_39, aL_40, aL_41, aL_42, aL_43, aL_44, aL_45, aL_46, aL_48, aL_50, aL_52, aL_54, aL_56, aL_57, aL_58, aL_59, aL_60, aL_61, aL_62, aL_63, aL_64, aL_65, aL_66, aL_67, aL_68, aL_69, aL_70, aL_71, aL_72, aL_73, aL_74, aL_75, aL_76, aL_77, aL_78, aL_79, aL_80, aL_81, inb_nI, lit32, nI_clamp, nI_1, nI_add, if_pos, if_neg, b01_0, b01_1, Nat.add_sub_cancel, if_true, if_false, not_true_eq_false, not_false_eq_true, true_and, and_true, false_and, and_false, pk_sub, b01_n0, b01_n1, bI_t, bI_f, ofNat_nI, ck_d, Int32.lt_iff_toInt_lt, Int32.le_iff_toInt_le, i32_eq, nI_toInt, bI_b01, bI_0, decide_eq_true_eq, bI_tt, bI_ff, nI_prd, ↓reduceIte, iltT, iltF, ileT, ileF, ieqT, ieqF, dcT, dcF, or_true, or_false, true_or, false_or, t0, t4, t5, r0, r1, k1, k2, e1, e2, to, hf, hbo, hva, hv1, hadd]
            rfl
        · rw [decide_eq_false q3] at hf
          refine ⟨(nI (j + 1), υ), ⟨υ, rfl, hI.skip (by have := cntB_mono (fun j => !u.testBit j) (show j ≤ j + 1 by omega); omega) (fun b k hc hk => ?_)⟩, ?_⟩
          · rcases hc with hc | ⟨rfl, hc⟩
            · exact Or.inl hc
            · refine Or.inr ⟨rfl, ?_⟩
              by_cases e : k = j
              · subst e
                exact absurd hk.2.2 q3
              · omega
          · unfold f_X5_spread_L26 f_X5_spread_L67 f_X5_spread_L137
            dsimp only
            simp (disch := first | assumption | omega) only [↓lB_eq, ↓bd_m, ck_tt, gI_pI, gI_pL, gI_pR, gL_pI, gL_pL, gL_pR, gR_pI, gR_pL, rf_0_0, rf_0_1, rf_0_2, rf_0_3, rf_0_4, rf_0_5, rf_0_6, rf_0_7, rf_0_8, rf_0_9, rf_0_10, rf_1_1, rf_1_2, rf_4_0, rf_4_1, rf_4_2, rf_4_3, rf_4_4, rf_4_5, rf_11_0, rf_11_1, rf_12_0, rf_12_1, rf_12_2, rf_12_6, rf_12_7, rf_12_8, rf_13_0, rf_13_1, rf_13_2, rf_13_3, rf_18_0, rf_18_1, rf_18_2, rf_18_3, rf_23_0, rf_23_1, rf_23_2, rf_23_3, rf_31_0, rf_33_0, rf_33_2, rf_33_3, rf_33_4, rf_37_0, rf_39_0, rf_39_1, rf_39_2, rf_39_3, rf_40_0, rf_40_1, rf_40_2, rf_40_3, rf_47_3, rf_49_3, rf_51_3, rf_53_3, rf_55_1, rf_55_7, rf_55_8, rf_55_9, rf_55_11, rf_55_13, rf_55_14, rf_55_15, rf_55_17, rf_55_18, rf_55_19, rf_55_27, rf_55_28, rf_55_29, rf_55_30, rf_55_31, rf_55_32, rf_55_33, rf_55_34, rf_55_35, rf_55_36, rf_55_38, rf_55_44, rf_55_45, rf_55_46, rf_55_47, aL_2, aL_3, aL_5, aL_6, aL_7, aL_8, aL_9, aL_10, aL_14, aL_15, aL_16, aL_17, aL_19, aL_20, aL_21, aL_22, aL_24, aL_25, aL_26, aL_27, aL_28, aL_29, aL_30, aL_32, aL_34, aL_35, aL_36, aL_38, aL_39, aL_40, aL_41, aL_42, aL_43, aL_44, aL_45, aL_46, aL_48, aL_50, aL_52, aL_54, aL_56, aL_57, aL_58, aL_59, aL_60, aL_61, aL_62, aL_63, aL_64, aL_65, aL_66, aL_67, aL_68, aL_69, aL_70, aL_71, aL_72, aL_73, aL_74, aL_75, aL_76, aL_77, aL_78, aL_79, aL_80, aL_81, inb_nI, lit32, nI_clamp, nI_1, nI_add, if_pos, if_neg, b01_0, b01_1, Nat.add_sub_cancel, if_true, if_false, not_true_eq_false, not_false_eq_true, true_and, and_true, false_and, and_false, pk_sub, b01_n0, b01_n1, bI_t, bI_f, ofNat_nI, ck_d, Int32.lt_iff_toInt_lt, Int32.le_iff_toInt_le, i32_eq, nI_toInt, bI_b01, bI_0, decide_eq_true_eq, bI_tt, bI_ff, nI_prd, ↓reduceIte, iltT, iltF, ileT, ileF, ieqT, ieqF, dcT, dcF, or_true, or_false, true_or, false_or, t0, t4, r1, k2, e2, to, hf]
  · rintro s ⟨υ, rfl, hI⟩ rec
    have hA := hI.1
    have hr2 : RefI υ := hA.ref hr
    have t0 : gI υ 1 0 = nI c := (hA.2.1 1 0 (by unfold Wp; omega)).trans c0
    refine ⟨rec11 (nI (a + 1), υ), ⟨υ, rfl, hI.skip (by rw [hfree, Nat.add_mul, Nat.one_mul]; omega) (fun b k hc _ => by omega)⟩, ?_⟩
    unfold f_X5_spread_L26
    dsimp only
    simp (disch := first | assumption | omega) only [↓lB_eq, ↓bd_m, ck_tt, gI_pI, gI_pL, gI_pR, gL_pI, gL_pL, gL_pR, gR_pI, gR_pL, rf_0_0, rf_0_1, rf_0_2, rf_0_3, rf_0_4, rf_0_5, rf_0_6, rf_0_7, rf_0_8, rf_0_9, rf_0_10, rf_1_1, rf_1_2, rf_4_0, rf_4_1, rf_4_2, rf_4_3, rf_4_4, rf_4_5, rf_11_0, rf_11_1, rf_12_0, rf_12_1, rf_12_2, rf_12_6, rf_12_7, rf_12_8, rf_13_0, rf_13_1, rf_13_2, rf_13_3, rf_18_0, rf_18_1, rf_18_2, rf_18_3, rf_23_0, rf_23_1, rf_23_2, rf_23_3, rf_31_0, rf_33_0, rf_33_2, rf_33_3, rf_33_4, rf_37_0, rf_39_0, rf_39_1, rf_39_2, rf_39_3, rf_40_0, rf_40_1, rf_40_2, rf_40_3, rf_47_3, rf_49_3, rf_51_3, rf_53_3, rf_55_1, rf_55_7, rf_55_8, rf_55_9, rf_55_11, rf_55_13, rf_55_14, rf_55_15, rf_55_17, rf_55_18, rf_55_19, rf_55_27, rf_55_28, rf_55_29, rf_55_30, rf_55_31, rf_55_32, rf_55_33, rf_55_34, rf_55_35, rf_55_36, rf_55_38, rf_55_44, rf_55_45, rf_55_46, rf_55_47, aL_2, aL_3, aL_5, aL_6, aL_7, aL_8, aL_9, aL_10, aL_14, aL_15, aL_16, aL_17, aL_19, aL_20, aL_21, aL_22, aL_24, aL_25, aL_26, aL_27, aL_28, aL_29, aL_30, aL_32, aL_34, aL_35, aL_36, aL_38, aL_39, aL_40, aL_41, aL_42, aL_43, aL_44, aL_45, aL_46, aL_48, aL_50, aL_52, aL_54, aL_56, aL_57, aL_58, aL_59, aL_60, aL_61, aL_62, aL_63, aL_64, aL_65, aL_66, aL_67, aL_68, aL_69, aL_70, aL_71, aL_72, aL_73, aL_74, aL_75, aL_76, aL_77, aL_78, aL_79, aL_80, aL_81, inb_nI, lit32, nI_clamp, nI_1, nI_add, if_pos, if_neg, b01_0, b01_1, Nat.add_sub_cancel, if_true, if_false, not_true_eq_false, not_false_eq_true, true_and, and_true, false_and, and_false, pk_sub, b01_n0, b01_n1, bI_t, bI_f, ofNat_nI, ck_d, Int32.lt_iff_toInt_lt, Int32.le_iff_toInt_le, i32_eq, nI_toInt, bI_b01, bI_0, decide_eq_true_eq, bI_tt, bI_ff, nI_prd, ↓reduceIte, iltT, iltF, ileT, ileF, ieqT, ieqF, dcT, dcF, or_true, or_false, true_or, false_or, t0]
end
theorem s_X5_spread {σ : Sg} {c : Nat} {o g pt : Nat → Nat} {z : Int} {ban : Nat} {S : Nat → Bool} {i0 : Nat} {D : Nat → Nat → Nat} {u v w q0 : Nat} {x2 x3 : Int32} (hr : RefI σ) (r3 : gR σ 12 3 = u) (r4 : gR σ 12 4 = w) (r5 : gR σ 12 5 = v) (hc : c ≤ 5) (c0 : gI σ 1 0 = nI c) (ho : ∀ j, j < 5 → gI σ 2 j = nI (o j) ∧ o j ≤ 60) (hg0 : gI σ 3 0 = nI (g 0)) (hg9 : g 0 ≤ 9) (hi : i0 < 14) (hs : S i0 = true) (hx2 : x2.toInt = (pt i0 : Int) + z) (hxb : -100 ≤ x2.toInt ∧ x2.toInt ≤ 100) (hx3 : ∀ j : Nat, j < 5 → ((j : Int) = x3.toInt ↔ j = ban)) (h4 : gI σ w 4 = nI q0) (hq0 : q0 ≤ ffc c (cntB S i0)) (hD : ∀ a, a < q0 → Wc σ w S (D a) i0 a ∧ PLm c o g pt z ban S (D a) i0) (hcm : ∀ d, PLm c o g pt z ban S d i0 → ∃ a, a < q0 ∧ ∀ i, i < i0 → S i = true → D a i = d i) : ∃ (τ : Sg) (q : Nat) (E : Nat → Nat → Nat), f_X5_spread 12 (nI i0) x2 x3 σ = some ((), pR (pR τ 12 4 v) 12 5 w) ∧ Ag (Wp v) (WLp v) σ τ ∧ gI τ v 4 = nI q ∧ q ≤ ffc c (cntB S (i0 + 1)) ∧ (∀ a, a < q → Wc τ v S (E a) (i0 + 1) a ∧ PLm c o g pt z ban S (E a) (i0 + 1)) ∧ ∀ d, PLm c o g pt z ban S d (i0 + 1) → ∃ a, a < q ∧ ∀ i, i < i0 + 1 → S i = true → E a i = d i := by
  have hp := hr.2
  rw [r3, r4, r5] at hp
  obtain ⟨hu, hw, hv, _, _, hne⟩ := hp.w
  have hwb := hw.bd
  have hvb := hv.bd
  have hwv := hw.ne hv hne
  have hcn : cntB S i0 < 15 := by have := cntB_le S i0; omega
  have hff0 := ffc_le c (by omega) (cntB S i0) (by omega)
  let σ1 : Sg := pI σ v 4 0
  have hA1 : Ag (Wp v) (WLp v) σ σ1 := Ag.rf.pI (Or.inl ⟨rfl, rfl⟩)
  have hr1 : RefI σ1 := hr
  have hD1 : ∀ a, a < q0 → Wc σ1 w S (D a) i0 a ∧ PLm c o g pt z ban S (D a) i0 := fun a ha => by
    obtain ⟨⟨w1, u', w2, w3, w4⟩, w5⟩ := hD a ha
    exact ⟨⟨w1, u', w2, (hA1.2.1 (w + 2) a (by unfold Wp; omega)).trans w3, w4⟩, w5⟩
  have loop : ∃ τ, fx (f_X5_spread_L11 12 (nI i0) x2 x3) FU (nI 0, σ1) = some ((), pR (pR τ 12 4 v) 12 5 w) ∧ SpI c o g pt z ban S i0 D v σ1 (q0 * (c - cntB S i0)) (fun b j => b < q0 ∧ j < c) τ := by
    refine fx_inv2 (I := fun a s => ∃ τ, s = (nI a, τ) ∧ SpI c o g pt z ban S i0 D v σ1 (a * (c - cntB S i0)) (fun b j => b < a ∧ j < c) τ) (Q := fun e => ∃ τ, e = some ((), pR (pR τ 12 4 v) 12 5 w) ∧ SpI c o g pt z ban S i0 D v σ1 (q0 * (c - cntB S i0)) (fun b j => b < q0 ∧ j < c) τ) (n := q0) ?_ ?_ q0 0 FU _ (by omega) (by unfold FU; omega) ⟨σ1, rfl, Ag.rf, 0, fun _ _ => 0, ?_, by omega, fun b hb => by omega, fun b j hc => by omega⟩
    · rintro a s ha ⟨τ, rfl, hI⟩ rec
      obtain ⟨τ', e1, hI'⟩ := s_spreadIn (rec11 := rec) (x2 := x2) (x3 := x3) hr1 hw hv hne r4 r5 hc ((hA1.2.1 1 0 (by unfold Wp; omega)).trans c0) (fun j hj => ⟨(hA1.2.1 2 j (by unfold Wp; omega)).trans (ho j hj).1, (ho j hj).2⟩) ((hA1.2.1 3 0 (by unfold Wp; omega)).trans hg0) hg9 hi hs hx2 hxb hx3 hq0 ha hD1 hI
      have t4 : gR τ 12 4 = w := (hI.1.2.2.2 12 4).trans r4
      have t44 : gI τ w 4 = nI q0 := ((hI.1.2.1 w 4 (by unfold Wp; omega)).trans (hA1.2.1 w 4 (by unfold Wp; omega))).trans h4
      left
      refine ⟨(nI (a + 1), τ'), ⟨τ', rfl, hI'⟩, ?_⟩
      rw [← e1]
      unfold f_X5_spread_L11
      dsimp only
      rw [t4, t44, if_neg (by rw [Int32.le_iff_toInt_le, nI_toInt (by omega), nI_toInt (by omega)]; omega)]
      rfl
    · rintro s ⟨τ, rfl, hI⟩ rec
      have t4 : gR τ 12 4 = w := (hI.1.2.2.2 12 4).trans r4
      have t5 : gR τ 12 5 = v := (hI.1.2.2.2 12 5).trans r5
      have t44 : gI τ w 4 = nI q0 := ((hI.1.2.1 w 4 (by unfold Wp; omega)).trans (hA1.2.1 w 4 (by unfold Wp; omega))).trans h4
      refine ⟨some ((), pR (pR τ 12 4 v) 12 5 w), ⟨τ, rfl, hI⟩, ?_⟩
      unfold f_X5_spread_L11
      dsimp only
      rw [t4, t44, if_pos (by rw [Int32.le_iff_toInt_le]; exact Int.le_refl _), t5]
      rfl
    · show gI (pI σ v 4 0) v 4 = nI 0
      rw [gI_pI, if_pos ⟨rfl, rfl⟩]; rfl
  obtain ⟨τ, e, hA, q, E, i1, i2, i3, i4⟩ := loop
  refine ⟨τ, q, E, ?_, hA1.tr hA, i1, ?_, i3, fun d hd => ?_⟩
  · unfold f_X5_spread
    rw [lB_eq, r5]
    exact e
  · rw [cntB_t hs]
    exact Nat.le_trans i2 (Nat.mul_le_mul_right _ hq0)
  · obtain ⟨a, ha, hl⟩ := hcm d ⟨fun i hi hsi => hd.1 i (by omega) hsi, by have := hd.2; rw [twB_suc, Bool.or_eq_false_iff] at this; exact this.1⟩
    have hdi := hd.1 i0 (by omega) hs
    have htw := hd.2
    rw [twB_suc, Bool.or_eq_false_iff, hs, Bool.true_and] at htw
    obtain ⟨b, hb, hE⟩ := i4 a (d i0) ⟨ha, hdi.1⟩ ⟨⟨hdi.1, hdi.2.1⟩, by rw [anyB_cg (d' := d) (fun i hi hsi => hl i hi hsi)]; exact htw.2, hdi.2.2⟩
    refine ⟨b, hb, fun i hi hsi => ?_⟩
    rw [hE i hi hsi]
    by_cases q : i = i0
    · subst q; exact upN_eq
    · rw [upN_ne q]; exact hl i (by omega) hsi
