/-! flaw: one sign, all signs -/
def R33 (p k : Nat) : Prop := (p = 33 ∧ (k = 1 ∨ (5 ≤ k ∧ k ≤ 8))) ∨ (34 ≤ p ∧ p ≤ 36)
/-- which note a letter tells: time, course, fret -/
def isL (c F : Nat) (s : PS) (b : Nat) : Bool := decide (0 ≤ s.2.2.1 ∧ s.2.2.1 < (c : Int) ∧ 97 ≤ b ∧ b ≤ 97 + F ∧ s.2.2.2 < 3)
/-- the notes that the class's reader has found -/
def FdC (σ : Sg) (q : Nat) (N : Nat → Nat × Nat × Nat) : Prop := gI σ 33 1 = nI q ∧ ∀ i, i < q → i < 14 → gI σ 34 i = nI (N i).1 ∧ gI σ 35 i = nI (N i).2.1 ∧ gI σ 36 i = nI (N i).2.2
def upT (N : Nat → Nat × Nat × Nat) (q : Nat) (v : Nat × Nat × Nat) : Nat → Nat × Nat × Nat := fun i => if i = q then v else N i
theorem toI {x : Int32} {v : Int} (h : x.toInt = v) (hv : 0 ≤ v) : x = nI v.toNat := low_nI h hv
theorem s_takes {σ : Sg} {c b q : Nat} {g : Nat → Nat} {s : PS} {N : Nat → Nat × Nat × Nat} (hr : RefI σ) (hc : 2 ≤ c ∧ c ≤ 5) (c0 : gI σ 1 0 = nI c) (hg : gI σ 3 0 = nI (g 0)) (hg9 : g 0 ≤ 9) (hb : b < 256) (hs : PSo c s) (hR : RdC σ s) (hq : q ≤ 100) (hN : FdC σ q N) : ∃ σ', f_X3_takes 33 (nI b) σ = some (bI (psS c (g 0) s b).isSome, σ') ∧ Ag R33 (fun _ _ => False) σ σ' ∧ ∀ s', psS c (g 0) s b = some s' → RdC σ' s' ∧ (isL c (g 0) s b = true → FdC σ' (q + 1) (upT N q (s.2.1.toNat, s.2.2.1.toNat, b - 97))) ∧ (isL c (g 0) s b = false → FdC σ' q N) := by
  obtain ⟨ah, ti, col, le⟩ := s
  obtain ⟨h1, h2, h3, h4, h5, h6, h7⟩ := hs
  obtain ⟨r1, r2, r3, r4⟩ := hR
  dsimp only at h1 h2 h3 h4 h5 h6 h7 r1 r2 r3 r4
  have em1 : (-1 : Int32).toInt = -1 := rfl
  have z0 : (0 : Int32).toInt = 0 := rfl
  have fd : ∀ τ, gI τ 33 1 = gI σ 33 1 → (∀ p k, 34 ≤ p → p ≤ 36 → gI τ p k = gI σ p k) → FdC τ q N := fun τ y1 y2 => ⟨y1.trans hN.1, fun i a1 a2 => by rw [y2 34 i (by omega) (by omega), y2 35 i (by omega) (by omega), y2 36 i (by omega) (by omega)]; exact hN.2 i a1 a2⟩
  have bt : (nI b).toInt = (b : Int) := nI_toInt (by omega)
  unfold f_X3_takes f_X3_takes_L26 f_X3_takes_L62
  by_cases k0 : col = -1
  · have nl : isL c (g 0) (ah, ti, col, le) b = false := decide_eq_false (fun y => by have := y.1; dsimp only at this; omega)
    rw [if_pos (by rw [i32_eq, r3, em1]; exact k0)]
    by_cases k1 : b = 58
    · rw [if_pos (by rw [k1]; rfl)]
      unfold f_X3_takesColon
      by_cases k2 : ah < ti
      · have ep : psS c (g 0) (ah, ti, col, le) b = some (ah, ti, 0, 0) := by unfold psS; rw [if_pos k0, if_pos k1, if_pos k2]
        rw [if_pos (by rw [Int32.lt_iff_toInt_lt, r1, r2]; exact k2), lB_eq, ck_of b01_1, bd_eq, ck_of b01_1, ep]
        refine ⟨pI σ 33 7 0, rfl, Ag.rf.pI (by unfold R33; omega), fun s' hs' => ?_⟩
        injection hs' with hs'
        subst hs'
        refine ⟨⟨?_, ?_, ?_, ?_⟩, fun y => (by rw [nl] at y; cases y), fun _ => fd _ ?_ (fun p k a1 a2 => ?_)⟩
        · rw [gI_pI, if_neg (by omega)]; exact r1
        · rw [gI_pI, if_neg (by omega)]; exact r2
        · rw [gI_pI, if_pos ⟨rfl, rfl⟩]; rfl
        · rw [gI_pI, if_neg (by omega), r4, h5 k0]
        · rw [gI_pI, if_neg (by omega)]
        · rw [gI_pI, if_neg (by omega)]
      · have ep : psS c (g 0) (ah, ti, col, le) b = none := by unfold psS; rw [if_pos k0, if_pos k1, if_neg k2]
        rw [if_neg (by rw [Int32.lt_iff_toInt_lt, r1, r2]; exact k2), ck_of b01_0, bd_eq, ck_of b01_0, ep]
        exact ⟨σ, rfl, Ag.rf, fun s' hs' => by cases hs'⟩
    · rw [if_neg (show ¬ nI b = (58 : Int32) from fun y => k1 ((nI_eq (b := 58) (by omega) (by omega)).1 y))]
      unfold f_X3_takesFigure f_X3_takesFigure_L19
      have bad : psS c (g 0) (ah, ti, col, le) b = none → ∃ σ', some (bI (psS c (g 0) (ah, ti, col, le) b).isSome, σ) = some (bI (psS c (g 0) (ah, ti, col, le) b).isSome, σ') ∧ Ag R33 (fun _ _ => False) σ σ' ∧ ∀ s', psS c (g 0) (ah, ti, col, le) b = some s' → RdC σ' s' ∧ (isL c (g 0) (ah, ti, col, le) b = true → FdC σ' (q + 1) (upT N q (ti.toNat, col.toNat, b - 97))) ∧ (isL c (g 0) (ah, ti, col, le) b = false → FdC σ' q N) := fun y => ⟨σ, rfl, Ag.rf, fun s' hs' => by rw [y] at hs'; cases hs'⟩
      have no : ∀ P : Prop, (P → 48 ≤ b ∧ b ≤ 57 ∧ ti ≠ 0 ∧ mayT ah ((if ti = -1 then 0 else 10 * ti) + (b : Int) - 48) = true → False) → P → psS c (g 0) (ah, ti, col, le) b = none := fun P y p => by unfold psS; rw [if_pos k0, if_neg k1, if_neg (y p)]
      by_cases k2 : b < 48
      · have ep := no _ (fun (p : b < 48) y => by omega) k2
        rw [if_pos (by rw [Int32.lt_iff_toInt_lt, bt]; have : (48 : Int32).toInt = 48 := rfl; omega), ck_of b01_0, bd_eq, ck_of b01_0]
        have := bad ep
        rw [ep] at this ⊢
        exact this
      · rw [if_neg (by rw [Int32.lt_iff_toInt_lt, bt]; have : (48 : Int32).toInt = 48 := rfl; omega)]
        by_cases k3 : 57 < b
        · have ep := no _ (fun (p : 57 < b) y => by omega) k3
          rw [if_pos (by rw [Int32.lt_iff_toInt_lt, bt]; have : (57 : Int32).toInt = 57 := rfl; omega), ck_of b01_0, bd_eq, ck_of b01_0]
          have := bad ep
          rw [ep] at this ⊢
          exact this
        · rw [if_neg (by rw [Int32.lt_iff_toInt_lt, bt]; have : (57 : Int32).toInt = 57 := rfl; omega)]
          by_cases k4 : ti = 0
          · have ep := no _ (fun (p : ti = 0) y => y.2.2.1 p) k4
            rw [if_pos (by rw [i32_eq, r2, z0]; exact k4), ck_of b01_0, bd_eq, ck_of b01_0]
            have := bad ep
            rw [ep] at this ⊢
            exact this
          · rw [if_neg (by rw [i32_eq, r2, z0]; exact k4)]
            obtain ⟨w, hw⟩ : ∃ w : Int, w = (if ti = -1 then 0 else 10 * ti) := ⟨_, rfl⟩
            have hwb : 0 ≤ w ∧ w ≤ 1990 := by rw [hw]; split <;> omega
            -- both branches
            have br : ∀ y : Int32, y.toInt = w → ∃ σ', (bd (f_X3_takesFigure_L40 33 (nI b) y σ) fun r8 s7 => ck (b01 r8) (some (r8, s7))) = some (bI (psS c (g 0) (ah, ti, col, le) b).isSome, σ') ∧ Ag R33 (fun _ _ => False) σ σ' ∧ ∀ s', psS c (g 0) (ah, ti, col, le) b = some s' → RdC σ' s' ∧ (isL c (g 0) (ah, ti, col, le) b = true → FdC σ' (q + 1) (upT N q (ti.toNat, col.toNat, b - 97))) ∧ (isL c (g 0) (ah, ti, col, le) b = false → FdC σ' q N) := by
              intro y hy
              have e48 : (48 : Int32).toInt = 48 := rfl
              have vt : (y + nI b - 48).toInt = w + (b : Int) - 48 := by
                rw [i32_subB (by rw [i32_addB (by omega) (by omega), hy, bt]; omega) (by omega), i32_addB (by omega) (by omega), hy, bt, e48]
              have em := s_mayBecome (σ := σ) (x := y + nI b - 48) (by rw [vt]; omega) (by rw [r1]; exact h1)
              rw [r1, vt] at em
              unfold f_X3_takesFigure_L40
              rw [lB_eq, em, bd_eq]
              by_cases k5 : mayT ah (w + (b : Int) - 48) = true
              · have ep : psS c (g 0) (ah, ti, col, le) b = some (ah, w + (b : Int) - 48, -1, 0) := by unfold psS; rw [if_pos k0, if_neg k1, if_pos ⟨by omega, by omega, k4, by rw [← hw]; exact k5⟩, ← hw]
                rw [k5, if_neg (by decide), lB_eq, ck_of b01_1, bd_eq, ck_of b01_1, ep]
                refine ⟨pI σ 33 6 (y + nI b - 48), rfl, Ag.rf.pI (by unfold R33; omega), fun s' hs' => ?_⟩
                injection hs' with hs'
                subst hs'
                refine ⟨⟨?_, ?_, ?_, ?_⟩, fun y => (by rw [nl] at y; cases y), fun _ => fd _ ?_ (fun p k a1 a2 => ?_)⟩
                · rw [gI_pI, if_neg (by omega)]; exact r1
                · rw [gI_pI, if_pos ⟨rfl, rfl⟩]; exact vt
                · rw [gI_pI, if_neg (by omega), r3]; exact k0
                · rw [gI_pI, if_neg (by omega), r4, h5 k0]
                · rw [gI_pI, if_neg (by omega)]
                · rw [gI_pI, if_neg (by omega)]
              · have ep := no _ (fun (p : ¬ mayT ah (w + (b : Int) - 48) = true) y => p (by rw [hw]; exact y.2.2.2)) k5
                rw [Bool.not_eq_true] at k5
                rw [k5, if_pos (by decide), ck_of b01_0, bd_eq, ck_of b01_0]
                have := bad ep
                rw [ep] at this ⊢
                exact this
            by_cases k5 : ti = -1
            · rw [if_pos (by rw [i32_eq, r2, em1]; exact k5)]
              exact br 0 (by rw [hw, if_pos k5]; rfl)
            · rw [if_neg (by rw [i32_eq, r2, em1]; exact k5)]
              exact br _ (by rw [i32_mul (by rw [r2, show (10 : Int32).toInt = 10 from rfl]; omega), r2, hw, if_neg k5]; rfl)
  · rw [if_neg (by rw [i32_eq, r3, em1]; exact k0), rf_33_0 hr, c0]
    by_cases k1 : col < (c : Int)
    · rw [if_neg (by rw [Int32.le_iff_toInt_le, r3, nI_toInt (by omega)]; omega)]
      have ec := toI r3 (by omega)
      by_cases k2 : b = 45
      · have nl : isL c (g 0) (ah, ti, col, le) b = false := decide_eq_false (fun y => by have := y.2.2.1; omega)
        rw [if_pos (by rw [k2]; rfl)]
        unfold f_X3_takesDash f_X3_takesDash_L25
        rw [rf_33_0 hr, c0, show nI c - (1 : Int32) = nI (c - 1) from pk_sub (a := c) (b := 1) (by omega)]
        by_cases k3 : col = (c : Int) - 1 ∧ le = 0
        · have ep : psS c (g 0) (ah, ti, col, le) b = none := by unfold psS; rw [if_neg k0, if_pos k1, if_pos k2, if_pos k3]
          rw [if_pos (by rw [i32_eq, r3, nI_toInt (by omega)]; omega), if_pos (by rw [r4, k3.2]; rfl), ck_of b01_0, bd_eq, ck_of b01_0, ep]
          exact ⟨σ, rfl, Ag.rf, fun s' hs' => by cases hs'⟩
        · have ep : psS c (g 0) (ah, ti, col, le) b = some (ah, ti, col + 1, le) := by unfold psS; rw [if_neg k0, if_pos k1, if_pos k2, if_neg k3]
          have main : ∃ σ', (bd (lB (pI σ 33 7 ((gI σ 33 7) + (1 : Int32))) fun s1 => ck (b01 (1 : Int32)) (some ((1 : Int32), s1))) fun r6 s5 => ck (b01 r6) (some (r6, s5))) = some (bI (psS c (g 0) (ah, ti, col, le) b).isSome, σ') ∧ Ag R33 (fun _ _ => False) σ σ' ∧ ∀ s', psS c (g 0) (ah, ti, col, le) b = some s' → RdC σ' s' ∧ (isL c (g 0) (ah, ti, col, le) b = true → FdC σ' (q + 1) (upT N q (ti.toNat, col.toNat, b - 97))) ∧ (isL c (g 0) (ah, ti, col, le) b = false → FdC σ' q N) := by
            rw [lB_eq, ck_of b01_1, bd_eq, ck_of b01_1, ep]
            refine ⟨_, rfl, Ag.rf.pI (by unfold R33; omega), fun s' hs' => ?_⟩
            injection hs' with hs'
            subst hs'
            refine ⟨⟨?_, ?_, ?_, ?_⟩, fun y => (by rw [nl] at y; cases y), fun _ => fd _ ?_ (fun p k a1 a2 => ?_)⟩
            · rw [gI_pI, if_neg (by omega)]; exact r1
            · rw [gI_pI, if_neg (by omega)]; exact r2
            · rw [gI_pI, if_pos ⟨rfl, rfl⟩, ec, nI_1, nI_toInt (by omega)]; dsimp only; omega
            · rw [gI_pI, if_neg (by omega)]; exact r4
            · rw [gI_pI, if_neg (by omega)]
            · rw [gI_pI, if_neg (by omega)]
          by_cases k4 : col = (c : Int) - 1
          · rw [if_pos (by rw [i32_eq, r3, nI_toInt (by omega)]; omega), if_neg (by rw [r4]; exact fun y => k3 ⟨k4, (nI_eq (b := 0) (by omega) (by omega)).1 y⟩)]
            exact main
          · rw [if_neg (by rw [i32_eq, r3, nI_toInt (by omega)]; omega)]
            exact main
      · rw [if_neg (show ¬ nI b = (45 : Int32) from fun y => k2 ((nI_eq (b := 45) (by omega) (by omega)).1 y))]
        have vt : (nI b - 97).toInt = (b : Int) - 97 := by
          rw [i32_subB (by omega) (by decide), bt]; rfl
        have hf := s_X1_hasFret hr (nI b - 97)
        rw [vt, hg, nI_toInt (by omega)] at hf
        unfold f_X3_takesLetter f_X3_takesLetter_L19 f_X3_takesLetter_L66
        rw [rf_33_0 hr, hf, bd_eq]
        by_cases k3 : 97 ≤ b ∧ b ≤ 97 + g 0
        · rw [decide_eq_true (by omega), if_neg (by decide)]
          by_cases k4 : le = 3
          · have ep : psS c (g 0) (ah, ti, col, le) b = none := by unfold psS; rw [if_neg k0, if_pos k1, if_neg k2, if_neg (by dsimp only; omega)]
            rw [if_pos (by rw [r4, k4]; rfl), ck_of b01_0, bd_eq, ck_of b01_0, ep]
            exact ⟨σ, rfl, Ag.rf, fun s' hs' => by cases hs'⟩
          · have ep : psS c (g 0) (ah, ti, col, le) b = some (ah, ti, col + 1, le + 1) := by unfold psS; rw [if_neg k0, if_pos k1, if_neg k2, if_pos ⟨k3.1, k3.2, by dsimp only; omega⟩]
            have yl : isL c (g 0) (ah, ti, col, le) b = true := decide_eq_true ⟨by dsimp only; omega, by dsimp only; omega, k3.1, k3.2, by dsimp only; omega⟩
            have et := toI r2 (by have := h6 (by omega); omega)
            have eb : nI b - 97 = nI (b - 97) := pk_sub (a := b) (b := 97) (by omega)
            rw [if_neg (by rw [r4]; exact fun y => k4 ((nI_eq (b := 3) (by omega) (by omega)).1 y)), ep]
            have hq1 := hN.1
            by_cases k5 : q < 14
            · rw [if_neg (by rw [hq1, Int32.le_iff_toInt_le, nI_toInt (by omega)]; have : (14 : Int32).toInt = 14 := rfl; omega)]
              refine ⟨pI (pI (pI (pI (pI (pI σ 34 q (nI ti.toNat)) 35 q (nI col.toNat)) 36 q (nI (b - 97))) 33 1 (nI (q + 1))) 33 8 (nI (le + 1))) 33 7 (nI (col.toNat + 1)), ?_, ?_, fun s' hs' => ?_⟩
              · simp (disch := first | assumption | omega) only [↓lB_eq, ↓bd_m, ck_tt, gI_pI, gI_pL, gI_pR, gL_pI, gL_pL, gL_pR, gR_pI, gR_pL, rf_0_0, rf_0_1, rf_0_2, rf_0_3, rf_0_4, rf_0_5, rf_0_6, rf_0_7, rf_0_8, rf_0_9, rf_0_10, rf_1_1, rf_1_2, rf_4_0, rf_4_1, rf_4_2, rf_4_3, rf_4_4, rf_4_5, rf_11_0, rf_11_1, rf_12_0, rf_12_1, rf_12_2, rf_12_6, rf_12_7, rf_12_8, rf_13_0, rf_13_1, rf_13_2, rf_13_3, rf_18_0, rf_18_1, rf_18_2, rf_18_3, rf_23_0, rf_23_1, rf_23_2, rf_23_3, rf_31_0, rf_33_0, rf_33_2, rf_33_3, rf_33_4, rf_37_0, rf_39_0, rf_39_1, rf_39_2, rf_39_3, rf_40_0, rf_40_1, rf_40_2, rf_40_3, rf_47_3, rf_49_3, rf_51_3, rf_53_3, rf_55_1, rf_55_7, rf_55_8, rf_55_9, rf_55_11, rf_55_13, rf_55_14, rf_55_15, rf_55_17, rf_55_18, rf_55_19, rf_55_27, rf_55_28, rf_55_29, rf_55_30, rf_55_31, rf_55_32, rf_55_33, rf_55_34, rf_55_35, rf_55_36, rf_55_38, rf_55_44, rf_55_45, rf_55_46, rf_55_47, aL_2, aL_3, aL_5, aL_6, aL_7, aL_8, aL_9, aL_10, aL_14, aL_15, aL_16, aL_17, aL_19, aL_20, aL_21, aL_22, aL_24, aL_25, aL_26, aL_27, aL_28, aL_29, aL_30, aL_32, aL_34, aL_35, aL_36, aL_38, aL_39, aL_40, aL_41, aL_42, aL_43, aL_44, aL_45, aL_46, aL_48, aL_50, aL_52, aL_54, aL_56, aL_57, aL_58, aL_59, aL_60, aL_61, aL_62, aL_63, aL_64, aL_65, aL_66, aL_67, aL_68, aL_69, aL_70, aL_71, aL_72, aL_73, aL_74, aL_75, aL_76, aL_77, aL_78, aL_79, aL_80, aL_81, inb_nI, lit32, nI_clamp, nI_1, nI_add, if_pos, if_neg, b01_0, b01_1, Nat.add_sub_cancel, if_true, if_false, not_true_eq_false, not_false_eq_true, true_and, and_true, false_and, and_false, pk_sub, b01_n0, b01_n1, bI_t, bI_f, ofNat_nI, ck_d, Int32.lt_iff_toInt_lt, Int32.le_iff_toInt_le, i32_eq, nI_toInt, bI_b01, bI_0, decide_eq_true_eq, bI_tt, bI_ff, nI_prd, ↓reduceIte, iltT, iltF, ileT, ileF, ieqT, ieqF, dcT, dcF, or_true, or_false, true_or, false_or, hq1, et, ec, eb, r4]
                rfl
              · exact Ag.pI (Ag.pI (Ag.pI (Ag.pI (Ag.pI (Ag.pI Ag.rf (by unfold R33; omega)) (by unfold R33; omega)) (by unfold R33; omega)) (by unfold R33; omega)) (by unfold R33; omega)) (by unfold R33; omega)
              · injection hs' with hs'
                subst hs'
                refine ⟨⟨?_, ?_, ?_, ?_⟩, fun _ => ⟨?_, fun i a1 a2 => ?_⟩, fun y => (by rw [yl] at y; cases y)⟩
                · simp only [gI_pI]; rw [if_neg (by omega), if_neg (by omega), if_neg (by omega), if_neg (by omega), if_neg (by omega), if_neg (by omega)]; exact r1
                · simp only [gI_pI]; rw [if_neg (by omega), if_neg (by omega), if_neg (by omega), if_neg (by omega), if_neg (by omega), if_neg (by omega)]; exact r2
                · rw [gI_pI, if_pos ⟨rfl, rfl⟩, nI_toInt (by omega)]; dsimp only; omega
                · rw [gI_pI, if_neg (by omega), gI_pI, if_pos ⟨rfl, rfl⟩]
                · rw [gI_pI, if_neg (by omega), gI_pI, if_neg (by omega), gI_pI, if_pos ⟨rfl, rfl⟩]
                · unfold upT
                  by_cases e : i = q
                  · subst e
                    rw [if_pos rfl]
                    refine ⟨?_, ?_, ?_⟩
                    · rw [gI_pI, if_neg (by omega), gI_pI, if_neg (by omega), gI_pI, if_neg (by omega), gI_pI, if_neg (by omega), gI_pI, if_neg (by omega), gI_pI, if_pos ⟨rfl, rfl⟩]
                    · rw [gI_pI, if_neg (by omega), gI_pI, if_neg (by omega), gI_pI, if_neg (by omega), gI_pI, if_neg (by omega), gI_pI, if_pos ⟨rfl, rfl⟩]
                    · rw [gI_pI, if_neg (by omega), gI_pI, if_neg (by omega), gI_pI, if_neg (by omega), gI_pI, if_pos ⟨rfl, rfl⟩]
                  · rw [if_neg e]
                    obtain ⟨z1, z2, z3⟩ := hN.2 i (by omega) a2
                    refine ⟨?_, ?_, ?_⟩
                    · simp only [gI_pI]; rw [if_neg (by omega), if_neg (by omega), if_neg (by omega), if_neg (by omega), if_neg (by omega), if_neg (by omega)]; exact z1
                    · simp only [gI_pI]; rw [if_neg (by omega), if_neg (by omega), if_neg (by omega), if_neg (by omega), if_neg (by omega), if_neg (by omega)]; exact z2
                    · simp only [gI_pI]; rw [if_neg (by omega), if_neg (by omega), if_neg (by omega), if_neg (by omega), if_neg (by omega), if_neg (by omega)]; exact z3
            · rw [if_pos (by rw [hq1, Int32.le_iff_toInt_le, nI_toInt (by omega)]; have : (14 : Int32).toInt = 14 := rfl; omega)]
              refine ⟨pI (pI (pI σ 33 1 (nI (q + 1))) 33 8 (nI (le + 1))) 33 7 (nI (col.toNat + 1)), ?_, ?_, fun s' hs' => ?_⟩
              · simp (disch := first | assumption | omega) only [↓lB_eq, ↓bd_m, ck_tt, gI_pI, gI_pL, gI_pR, gL_pI, gL_pL, gL_pR, gR_pI, gR_pL, rf_0_0, rf_0_1, rf_0_2, rf_0_3, rf_0_4, rf_0_5, rf_0_6, rf_0_7, rf_0_8, rf_0_9, rf_0_10, rf_1_1, rf_1_2, rf_4_0, rf_4_1, rf_4_2, rf_4_3, rf_4_4, rf_4_5, rf_11_0, rf_11_1, rf_12_0, rf_12_1, rf_12_2, rf_12_6, rf_12_7, rf_12_8, rf_13_0, rf_13_1, rf_13_2, rf_13_3, rf_18_0, rf_18_1, rf_18_2, rf_18_3, rf_23_0, rf_23_1, rf_23_2, rf_23_3, rf_31_0, rf_33_0, rf_33_2, rf_33_3, rf_33_4, rf_37_0, rf_39_0, rf_39_1, rf_39_2, rf_39_3, rf_40_0, rf_40_1, rf_40_2, rf_40_3, rf_47_3, rf_49_3, rf_51_3, rf_53_3, rf_55_1, rf_55_7, rf_55_8, rf_55_9, rf_55_11, rf_55_13, rf_55_14, rf_55_15, rf_55_17, rf_55_18, rf_55_19, rf_55_27, rf_55_28, rf_55_29, rf_55_30, rf_55_31, rf_55_32, rf_55_33, rf_55_34, rf_55_35, rf_55_36, rf_55_38, rf_55_44, rf_55_45, rf_55_46, rf_55_47, aL_2, aL_3, aL_5, aL_6, aL_7, aL_8, aL_9, aL_10, aL_14, aL_15, aL_16, aL_17, aL_19, aL_20, aL_21, aL_22, aL_24, aL_25, aL_26, aL_27, aL_28, aL_29, aL_30, aL_32, aL_34, aL_35, aL_36, aL_38, aL_39, aL_40, aL_41, aL_42, aL_43, aL_44, aL_45, aL_46, aL_48, aL_50, aL_52, aL_54, aL_56, aL_57, aL_58, aL_59, aL_60, aL_61, aL_62, aL_63, aL_64, aL_65, aL_66, aL_67, aL_68, aL_69, aL_70, aL_71, aL_72, aL_73, aL_74, aL_75, aL_76, aL_77, aL_78, aL_79, aL_80, aL_81, inb_nI, lit32, nI_clamp, nI_1, nI_add, if_pos, if_neg, b01_0, b01_1, Nat.add_sub_cancel, if_true, if_false, not_true_eq_false, not_false_eq_true, true_and, and_true, false_and, and_false, pk_sub, b01_n0, b01_n1, bI_t, bI_f, ofNat_nI, ck_d, Int32.lt_iff_toInt_lt, Int32.le_iff_toInt_le, i32_eq, nI_toInt, bI_b01, bI_0, decide_eq_true_eq, bI_tt, bI_ff, nI_prd, ↓reduceIte, iltT, iltF, ileT, ileF, ieqT, ieqF, dcT, dcF, or_true, or_false, true_or, false_or, hq1, ec, r4]
                rfl
              · exact Ag.pI (Ag.pI (Ag.pI Ag.rf (by unfold R33; omega)) (by unfold R33; omega)) (by unfold R33; omega)
              · injection hs' with hs'
                subst hs'
                refine ⟨⟨?_, ?_, ?_, ?_⟩, fun _ => ⟨?_, fun i a1 a2 => ?_⟩, fun y => (by rw [yl] at y; cases y)⟩
                · rw [gI_pI, if_neg (by omega), gI_pI, if_neg (by omega), gI_pI, if_neg (by omega)]; exact r1
                · rw [gI_pI, if_neg (by omega), gI_pI, if_neg (by omega), gI_pI, if_neg (by omega)]; exact r2
                · rw [gI_pI, if_pos ⟨rfl, rfl⟩, nI_toInt (by omega)]; dsimp only; omega
                · rw [gI_pI, if_neg (by omega), gI_pI, if_pos ⟨rfl, rfl⟩]
                · rw [gI_pI, if_neg (by omega), gI_pI, if_neg (by omega), gI_pI, if_pos ⟨rfl, rfl⟩]
                · unfold upT
                  rw [if_neg (by omega)]
                  obtain ⟨z1, z2, z3⟩ := hN.2 i (by omega) a2
                  rw [gI_pI, if_neg (by omega), gI_pI, if_neg (by omega), gI_pI, if_neg (by omega), gI_pI, if_neg (by omega), gI_pI, if_neg (by omega), gI_pI, if_neg (by omega), gI_pI, if_neg (by omega), gI_pI, if_neg (by omega), gI_pI, if_neg (by omega)]
                  exact ⟨z1, z2, z3⟩
        · have ep : psS c (g 0) (ah, ti, col, le) b = none := by unfold psS; rw [if_neg k0, if_pos k1, if_neg k2, if_neg (by omega)]
          rw [decide_eq_false (by omega), if_pos (by decide), ck_of b01_0, bd_eq, ck_of b01_0, ep]
          exact ⟨σ, rfl, Ag.rf, fun s' hs' => by cases hs'⟩
    · have nl : isL c (g 0) (ah, ti, col, le) b = false := decide_eq_false (fun y => k1 y.2.1)
      rw [if_pos (by rw [Int32.le_iff_toInt_le, r3, nI_toInt (by omega)]; omega)]
      by_cases k2 : b = 59
      · have ep : psS c (g 0) (ah, ti, col, le) b = some (ti, -1, -1, 0) := by unfold psS; rw [if_neg k0, if_neg k1, if_pos k2]
        rw [if_pos (by rw [k2]; rfl), ep]
        unfold f_X3_endChord
        rw [lB_eq, lB_eq, lB_eq, lB_eq, bd_eq, ck_of b01_1]
        refine ⟨_, rfl, Ag.pI (Ag.pI (Ag.pI (Ag.pI Ag.rf (by unfold R33; omega)) (by unfold R33; omega)) (by unfold R33; omega)) (by unfold R33; omega), fun s' hs' => ?_⟩
        injection hs' with hs'
        subst hs'
        refine ⟨⟨?_, ?_, ?_, ?_⟩, fun y => (by rw [nl] at y; cases y), fun _ => fd _ ?_ (fun p k a1 a2 => ?_)⟩
        · rw [gI_pI, if_neg (by omega), gI_pI, if_neg (by omega), gI_pI, if_neg (by omega), gI_pI, if_pos ⟨rfl, rfl⟩]; exact r2
        · rw [gI_pI, if_neg (by omega), gI_pI, if_neg (by omega), gI_pI, if_pos ⟨rfl, rfl⟩]; rfl
        · rw [gI_pI, if_neg (by omega), gI_pI, if_pos ⟨rfl, rfl⟩]; rfl
        · rw [gI_pI, if_pos ⟨rfl, rfl⟩]; rfl
        · rw [gI_pI, if_neg (by omega), gI_pI, if_neg (by omega), gI_pI, if_neg (by omega), gI_pI, if_neg (by omega)]
        · rw [gI_pI, if_neg (by omega), gI_pI, if_neg (by omega), gI_pI, if_neg (by omega), gI_pI, if_neg (by omega)]
      · have ep : psS c (g 0) (ah, ti, col, le) b = none := by unfold psS; rw [if_neg k0, if_neg k1, if_neg k2]
        rw [if_neg (show ¬ nI b = (59 : Int32) from fun y => k2 ((nI_eq (b := 59) (by omega) (by omega)).1 y)), ck_of b01_0, ep]
        exact ⟨σ, rfl, Ag.rf, fun s' hs' => by cases hs'⟩
