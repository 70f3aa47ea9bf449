/-! tablature: the signs; the class -/
/-- a row of signs that grows -/
def apS (x : Nat × (Nat → Nat)) (v : Nat) : Nat × (Nat → Nat) := (x.1 + 1, upN x.2 x.1 v)
def figA (x : Nat × (Nat → Nat)) (t : Nat) : Nat × (Nat → Nat) := apS (if 10 ≤ t then apS (if 100 ≤ t then apS x (48 + t / 100) else x) (48 + t / 10 % 10) else (if 100 ≤ t then apS x (48 + t / 100) else x)) (48 + t % 10)
/-- the letter of a course at a chord -/
def LetP (o pt fs d : Nat → Nat) (k j v : Nat) : Prop := (∃ n, fs k ≤ n ∧ n < fs (k + 1) ∧ d n = j ∧ v = 97 + (pt n - o j)) ∨ ((∀ n, fs k ≤ n → n < fs (k + 1) → d n ≠ j) ∧ v = 45)
noncomputable def letV (o pt fs d : Nat → Nat) (k j : Nat) : Nat := Classical.epsilon (LetP o pt fs d k j)
def Dif (fs d : Nat → Nat) (k : Nat) : Prop := ∀ a b, fs k ≤ a → a < fs (k + 1) → fs k ≤ b → b < fs (k + 1) → d a = d b → a = b
theorem LetP.v {o pt fs d : Nat → Nat} {k j v : Nat} (hD : Dif fs d k) (h : LetP o pt fs d k j v) : v = letV o pt fs d k j := by
  have q := Classical.epsilon_spec (p := LetP o pt fs d k j) ⟨v, h⟩
  have q' : LetP o pt fs d k j (letV o pt fs d k j) := q
  rcases h with ⟨n, h1, h2, h3, h4⟩ | ⟨h1, h2⟩
  · rcases q' with ⟨m, q1, q2, q3, q4⟩ | ⟨q1, _⟩
    · have e := hD n m h1 h2 q1 q2 (by omega)
      rw [h4, q4, e]
    · exact absurd h3 (q1 n h1 h2)
  · rcases q' with ⟨m, q1, q2, q3, q4⟩ | ⟨_, q2⟩
    · exact absurd q3 (h1 m q1 q2)
    · rw [h2, q2]
noncomputable def letA (o pt fs d : Nat → Nat) (k : Nat) (x : Nat × (Nat → Nat)) : Nat → Nat × (Nat → Nat)
  | 0 => x
  | j + 1 => apS (letA o pt fs d k x j) (letV o pt fs d k j)
noncomputable def tabA (c : Nat) (o tm pt fs d : Nat → Nat) : Nat → Nat × (Nat → Nat)
  | 0 => (0, fun _ => 0)
  | k + 1 => apS (letA o pt fs d k (apS (figA (tabA c o tm pt fs d k) (tm (fs k))) 58) c) 59
theorem figA_len (x : Nat × (Nat → Nat)) (t : Nat) : (figA x t).1 ≤ x.1 + 3 := by
  unfold figA apS
  dsimp only
  split <;> split <;> (try dsimp only) <;> omega
theorem letA_len (o pt fs d : Nat → Nat) (k : Nat) (x : Nat × (Nat → Nat)) : ∀ j, (letA o pt fs d k x j).1 = x.1 + j
  | 0 => rfl
  | j + 1 => by
    show (letA o pt fs d k x j).1 + 1 = _
    rw [letA_len o pt fs d k x j]; omega
theorem tabA_len {c : Nat} {o tm pt fs d : Nat → Nat} (hc : c ≤ 5) : ∀ k, (tabA c o tm pt fs d k).1 ≤ 10 * k
  | 0 => Nat.le_refl _
  | k + 1 => by
    have ih := tabA_len (o := o) (tm := tm) (pt := pt) (fs := fs) (d := d) hc k
    have h1 := figA_len (tabA c o tm pt fs d k) (tm (fs k))
    show (letA o pt fs d k (apS (figA (tabA c o tm pt fs d k) (tm (fs k))) 58) c).1 + 1 ≤ _
    rw [letA_len]
    show (figA (tabA c o tm pt fs d k) (tm (fs k))).1 + 1 + c + 1 ≤ _
    omega
def HsC (σ : Sg) (x : Nat × (Nat → Nat)) : Prop := gI σ 37 1 = nI x.1 ∧ ∀ i, i < x.1 → gI σ 38 i = nI (x.2 i)
def HsM (σ : Sg) (x : Nat × (Nat → Nat)) : Prop := gI σ 55 37 = nI x.1 ∧ ∀ i, i < x.1 → gI σ 76 i = nI (x.2 i)
def S37 (p k : Nat) : Prop := (p = 37 ∧ k = 1) ∨ p = 38
def S76 (p k : Nat) : Prop := (p = 55 ∧ k = 37) ∨ p = 76
theorem s_append {σ : Sg} {x : Nat × (Nat → Nat)} {v : Nat} (hr : RefI σ) (h : HsC σ x) (hl : x.1 < 140) : ∃ σ', f_X4_append 37 (nI v) σ = some ((), σ') ∧ Ag S37 (fun _ _ => False) σ σ' ∧ HsC σ' (apS x v) := by
  refine ⟨pI (pI σ 38 x.1 (nI v)) 37 1 (nI (x.1 + 1)), ?_, Ag.pI (Ag.pI Ag.rf (by unfold S37; omega)) (by unfold S37; omega), ?_, fun i hi => ?_⟩
  · have h1 := h.1
    unfold f_X4_append f_X4_append_L32
    simp (disch := first | assumption | omega) only [↓lB_eq, ↓bd_m, ck_tt, gI_pI, gI_pL, gI_pR, gL_pI, gL_pL, gL_pR, gR_pI, gR_pL, rf_0_0, rf_0_1, rf_0_2, rf_0_3, rf_0_4, rf_0_5, rf_0_6, rf_0_7, rf_0_8, rf_0_9, rf_0_10, rf_1_1, rf_1_2, rf_4_0, rf_4_1, rf_4_2, rf_4_3, rf_4_4, rf_4_5, rf_11_0, rf_11_1, rf_12_0, rf_12_1, rf_12_2, rf_12_6, rf_12_7, rf_12_8, rf_13_0, rf_13_1, rf_13_2, rf_13_3, rf_18_0, rf_18_1, rf_18_2, rf_18_3, rf_23_0, rf_23_1, rf_23_2, rf_23_3, rf_31_0, rf_33_0, rf_33_2, rf_33_3, rf_33_4, rf_37_0, rf_39_0, rf_39_1, rf_39_2, rf_39_3, rf_40_0, rf_40_1, rf_40_2, rf_40_3, rf_47_3, rf_49_3, rf_51_3, rf_53_3, rf_55_1, rf_55_7, rf_55_8, rf_55_9, rf_55_11, rf_55_13, rf_55_14, rf_55_15, rf_55_17, rf_55_18, rf_55_19, rf_55_27, rf_55_28, rf_55_29, rf_55_30, rf_55_31, rf_55_32, rf_55_33, rf_55_34, rf_55_35, rf_55_36, rf_55_38, rf_55_44, rf_55_45, rf_55_46, rf_55_47, aL_2, aL_3, aL_5, aL_6, aL_7, aL_8, aL_9, aL_10, aL_14, aL_15, aL_16, aL_17, aL_19, aL_20, aL_21, aL_22, aL_24, aL_25, aL_26, aL_27, aL_28, aL_29, aL_30, aL_32, aL_34, aL_35, aL_36, aL_38, aL_39, aL_40, aL_41, aL_42, aL_43, aL_44, aL_45, aL_46, aL_48, aL_50, aL_52, aL_54, aL_56, aL_57, aL_58, aL_59, aL_60, aL_61, aL_62, aL_63, aL_64, aL_65, aL_66, aL_67, aL_68, aL_69, aL_70, aL_71, aL_72, aL_73, aL_74, aL_75, aL_76, aL_77, aL_78, aL_79, aL_80, aL_81, inb_nI, lit32, nI_clamp, nI_1, nI_add, if_pos, if_neg, b01_0, b01_1, Nat.add_sub_cancel, if_true, if_false, not_true_eq_false, not_false_eq_true, true_and, and_true, false_and, and_false, pk_sub, b01_n0, b01_n1, bI_t, bI_f, ofNat_nI, ck_d, Int32.lt_iff_toInt_lt, Int32.le_iff_toInt_le, i32_eq, nI_toInt, bI_b01, bI_0, decide_eq_true_eq, bI_tt, bI_ff, nI_prd, ↓reduceIte, iltT, iltF, ileT, ileF, ieqT, ieqF, dcT, dcF, or_true, or_false, true_or, false_or, h1]
  · rw [gI_pI, if_pos ⟨rfl, rfl⟩]; rfl
  · have hi' : i < x.1 + 1 := hi
    show _ = nI (upN x.2 x.1 v i)
    rw [gI_pI, if_neg (by omega), gI_pI]
    by_cases e : i = x.1
    · subst e; rw [if_pos ⟨rfl, rfl⟩, upN_eq]
    · rw [if_neg (by omega), upN_ne e]; exact h.2 i (by omega)
theorem s_writes {σ : Sg} {x : Nat × (Nat → Nat)} {v : Nat} (hr : RefI σ) (h : HsM σ x) (hl : x.1 < 140) : ∃ σ', f_X9_writes 55 (nI v) σ = some ((), σ') ∧ Ag S76 (fun _ _ => False) σ σ' ∧ HsM σ' (apS x v) := by
  refine ⟨pI (pI σ 76 x.1 (nI v)) 55 37 (nI (x.1 + 1)), ?_, Ag.pI (Ag.pI Ag.rf (by unfold S76; omega)) (by unfold S76; omega), ?_, fun i hi => ?_⟩
  · have h1 := h.1
    unfold f_X9_writes
    simp (disch := first | assumption | omega) only [↓lB_eq, ↓bd_m, ck_tt, gI_pI, gI_pL, gI_pR, gL_pI, gL_pL, gL_pR, gR_pI, gR_pL, rf_0_0, rf_0_1, rf_0_2, rf_0_3, rf_0_4, rf_0_5, rf_0_6, rf_0_7, rf_0_8, rf_0_9, rf_0_10, rf_1_1, rf_1_2, rf_4_0, rf_4_1, rf_4_2, rf_4_3, rf_4_4, rf_4_5, rf_11_0, rf_11_1, rf_12_0, rf_12_1, rf_12_2, rf_12_6, rf_12_7, rf_12_8, rf_13_0, rf_13_1, rf_13_2, rf_13_3, rf_18_0, rf_18_1, rf_18_2, rf_18_3, rf_23_0, rf_23_1, rf_23_2, rf_23_3, rf_31_0, rf_33_0, rf_33_2, rf_33_3, rf_33_4, rf_37_0, rf_39_0, rf_39_1, rf_39_2, rf_39_3, rf_40_0, rf_40_1, rf_40_2, rf_40_3, rf_47_3, rf_49_3, rf_51_3, rf_53_3, rf_55_1, rf_55_7, rf_55_8, rf_55_9, rf_55_11, rf_55_13, rf_55_14, rf_55_15, rf_55_17, rf_55_18, rf_55_19, rf_55_27, rf_55_28, rf_55_29, rf_55_30, rf_55_31, rf_55_32, rf_55_33, rf_55_34, rf_55_35, rf_55_36, rf_55_38, rf_55_44, rf_55_45, rf_55_46, rf_55_47, aL_2, aL_3, aL_5, aL_6, aL_7, aL_8, aL_9, aL_10, aL_14, aL_15, aL_16, aL_17, aL_19, aL_20, aL_21, aL_22, aL_24, aL_25, aL_26, aL_27, aL_28, aL_29, aL_30, aL_32, aL_34, aL_35, aL_36, aL_38, aL_39, aL_40, aL_41, aL_42, aL_43, aL_44, aL_45, aL_46, aL_48, aL_50, aL_52, aL_54, aL_56, aL_57, aL_58, aL_59, aL_60, aL_61, aL_62, aL_63, aL_64, aL_65, aL_66, aL_67, aL_68, aL_69, aL_70, aL_71, aL_72, aL_73, aL_74, aL_75, aL_76, aL_77, aL_78, aL_79, aL_80, aL_81, inb_nI, lit32, nI_clamp, nI_1, nI_add, if_pos, if_neg, b01_0, b01_1, Nat.add_sub_cancel, if_true, if_false, not_true_eq_false, not_false_eq_true, true_and, and_true, false_and, and_false, pk_sub, b01_n0, b01_n1, bI_t, bI_f, ofNat_nI, ck_d, Int32.lt_iff_toInt_lt, Int32.le_iff_toInt_le, i32_eq, nI_toInt, bI_b01, bI_0, decide_eq_true_eq, bI_tt, bI_ff, nI_prd, ↓reduceIte, iltT, iltF, ileT, ileF, ieqT, ieqF, dcT, dcF, or_true, or_false, true_or, false_or, h1]
  · rw [gI_pI, if_pos ⟨rfl, rfl⟩]; rfl
  · have hi' : i < x.1 + 1 := hi
    show _ = nI (upN x.2 x.1 v i)
    rw [gI_pI, if_neg (by omega), gI_pI]
    by_cases e : i = x.1
    · subst e; rw [if_pos ⟨rfl, rfl⟩, upN_eq]
    · rw [if_neg (by omega), upN_ne e]; exact h.2 i (by omega)
theorem ck10 : decide (¬ (10 : Int32) = 0) = true := by decide
theorem ck100 : decide (¬ (100 : Int32) = 0) = true := by decide
theorem fg1 {t : Nat} (ht : t ≤ 199) : (48 : Int32) + (nI t - nI t / (10 : Int32) * (10 : Int32)) = nI (48 + t % 10) := by
  rw [show (10 : Int32) = nI 10 from rfl, pk_rem (by omega) (by omega) (by omega)]; exact nI_add 48 _
theorem fg2 {t : Nat} (ht : t ≤ 199) : (48 : Int32) + ((nI t / (10 : Int32)) - (nI t / (10 : Int32)) / (10 : Int32) * (10 : Int32)) = nI (48 + t / 10 % 10) := by
  rw [show (10 : Int32) = nI 10 from rfl, pk_div (by omega) (by omega) (by omega), pk_rem (by omega) (by omega) (by omega)]; exact nI_add 48 _
theorem fg3 {t : Nat} (ht : t ≤ 199) : (48 : Int32) + (nI t / (100 : Int32)) = nI (48 + t / 100) := by
  rw [show (100 : Int32) = nI 100 from rfl, pk_div (by omega) (by omega) (by omega)]; exact nI_add 48 _
theorem s_figs {σ : Sg} {x : Nat × (Nat → Nat)} {t : Nat} (hr : RefI σ) (ht : t ≤ 199) (h : HsC σ x) (hl : x.1 + 3 ≤ 140) : ∃ σ', f_X4_appendFigures 37 (nI t) σ = some ((), σ') ∧ Ag S37 (fun _ _ => False) σ σ' ∧ HsC σ' (figA x t) := by
  have L37 : ∀ (σ : Sg) (x : Nat × (Nat → Nat)), RefI σ → HsC σ x → x.1 < 140 → ∃ σ', f_X4_appendFigures_L37 37 (nI t) σ = some ((), σ') ∧ Ag S37 (fun _ _ => False) σ σ' ∧ HsC σ' (apS x (48 + t % 10)) := fun σ x hr h hl => by
    obtain ⟨σ', e, a, q⟩ := s_append (v := 48 + t % 10) hr h hl
    refine ⟨σ', ?_, a, q⟩
    unfold f_X4_appendFigures_L37
    rw [ck10, ck_tt, fg1 ht, e, bd_eq]
  have L17 : ∀ (σ : Sg) (x : Nat × (Nat → Nat)), RefI σ → HsC σ x → x.1 + 1 < 140 → ∃ σ', f_X4_appendFigures_L17 37 (nI t) σ = some ((), σ') ∧ Ag S37 (fun _ _ => False) σ σ' ∧ HsC σ' (apS (if 10 ≤ t then apS x (48 + t / 10 % 10) else x) (48 + t % 10)) := fun σ x hr h hl => by
    unfold f_X4_appendFigures_L17
    by_cases q : 10 ≤ t
    · obtain ⟨σ1, e1, a1, q1⟩ := s_append (v := 48 + t / 10 % 10) hr h (by omega)
      obtain ⟨σ2, e2, a2, q2⟩ := L37 σ1 _ (a1.ref hr) q1 (by show x.1 + 1 < 140; omega)
      rw [if_neg (by rw [Int32.lt_iff_toInt_lt, nI_toInt (by omega), show (10 : Int32).toInt = 10 from rfl]; omega), ck10, ck_tt, ck_tt, fg2 ht, e1, bd_eq, if_pos q]
      exact ⟨σ2, e2, a1.tr a2, q2⟩
    · rw [if_pos (by rw [Int32.lt_iff_toInt_lt, nI_toInt (by omega), show (10 : Int32).toInt = 10 from rfl]; omega), if_neg q]
      exact L37 σ x hr h (by omega)
  unfold f_X4_appendFigures figA
  by_cases q : 100 ≤ t
  · obtain ⟨σ1, e1, a1, q1⟩ := s_append (v := 48 + t / 100) hr h (by omega)
    obtain ⟨σ2, e2, a2, q2⟩ := L17 σ1 _ (a1.ref hr) q1 (by show x.1 + 1 + 1 < 140; omega)
    rw [if_neg (by rw [Int32.lt_iff_toInt_lt, nI_toInt (by omega), show (100 : Int32).toInt = 100 from rfl]; omega), ck100, ck_tt, fg3 ht, e1, bd_eq, if_pos q]
    exact ⟨σ2, e2, a1.tr a2, q2⟩
  · rw [if_pos (by rw [Int32.lt_iff_toInt_lt, nI_toInt (by omega), show (100 : Int32).toInt = 100 from rfl]; omega), if_neg q]
    exact L17 σ x hr h (by omega)
theorem s_wtime {σ : Sg} {x : Nat × (Nat → Nat)} {t : Nat} (hr : RefI σ) (ht : t ≤ 199) (h : HsM σ x) (hl : x.1 + 3 ≤ 140) : ∃ σ', f_X9_writesTime 55 (nI t) σ = some ((), σ') ∧ Ag S76 (fun _ _ => False) σ σ' ∧ HsM σ' (figA x t) := by
  have L37 : ∀ (σ : Sg) (x : Nat × (Nat → Nat)), RefI σ → HsM σ x → x.1 < 140 → ∃ σ', f_X9_writesTime_L37 55 (nI t) σ = some ((), σ') ∧ Ag S76 (fun _ _ => False) σ σ' ∧ HsM σ' (apS x (48 + t % 10)) := fun σ x hr h hl => by
    obtain ⟨σ', e, a, q⟩ := s_writes (v := 48 + t % 10) hr h hl
    refine ⟨σ', ?_, a, q⟩
    unfold f_X9_writesTime_L37
    rw [ck10, ck_tt, fg1 ht, e, bd_eq]
  have L17 : ∀ (σ : Sg) (x : Nat × (Nat → Nat)), RefI σ → HsM σ x → x.1 + 1 < 140 → ∃ σ', f_X9_writesTime_L17 55 (nI t) σ = some ((), σ') ∧ Ag S76 (fun _ _ => False) σ σ' ∧ HsM σ' (apS (if 10 ≤ t then apS x (48 + t / 10 % 10) else x) (48 + t % 10)) := fun σ x hr h hl => by
    unfold f_X9_writesTime_L17
    by_cases q : 10 ≤ t
    · obtain ⟨σ1, e1, a1, q1⟩ := s_writes (v := 48 + t / 10 % 10) hr h (by omega)
      obtain ⟨σ2, e2, a2, q2⟩ := L37 σ1 _ (a1.ref hr) q1 (by show x.1 + 1 < 140; omega)
      rw [if_neg (by rw [Int32.le_iff_toInt_le, nI_toInt (by omega), show (9 : Int32).toInt = 9 from rfl]; omega), ck10, ck_tt, ck_tt, fg2 ht, e1, bd_eq, if_pos q]
      exact ⟨σ2, e2, a1.tr a2, q2⟩
    · rw [if_pos (by rw [Int32.le_iff_toInt_le, nI_toInt (by omega), show (9 : Int32).toInt = 9 from rfl]; omega), if_neg q]
      exact L37 σ x hr h (by omega)
  unfold f_X9_writesTime figA
  by_cases q : 100 ≤ t
  · obtain ⟨σ1, e1, a1, q1⟩ := s_writes (v := 48 + t / 100) hr h (by omega)
    obtain ⟨σ2, e2, a2, q2⟩ := L17 σ1 _ (a1.ref hr) q1 (by show x.1 + 1 + 1 < 140; omega)
    rw [if_neg (by rw [Int32.le_iff_toInt_le, nI_toInt (by omega), show (99 : Int32).toInt = 99 from rfl]; omega), ck100, ck_tt, fg3 ht, e1, bd_eq, if_pos q]
    exact ⟨σ2, e2, a1.tr a2, q2⟩
  · rw [if_pos (by rw [Int32.le_iff_toInt_le, nI_toInt (by omega), show (99 : Int32).toInt = 99 from rfl]; omega), if_neg q]
    exact L17 σ x hr h (by omega)
/-- nothing is wrong: no two on one course, all frets are there -/
theorem wr_0 {n nk : Nat} {o g tm pt ls fs d : Nat → Nat} (hC : Ch n tm nk fs) (h : cntB (outB o g pt d) n + wrS o g tm pt ls fs d nk = 0) : (∀ i, i < n → o (d i) ≤ pt i) ∧ ∀ k, k < nk → Dif fs d k := by
  constructor
  · intro i hi
    have h1 : ∀ m, m ≤ n → cntB (outB o g pt d) m = 0 := fun m hm => by have := cntB_mono (outB o g pt d) hm; omega
    have h2 := h1 (i + 1) (by omega)
    have h3 : ¬ outB o g pt d i = true := fun y => by rw [cntB_t y] at h2; omega
    unfold outB at h3
    rw [Bool.not_eq_true, Bool.not_eq_false'] at h3
    have h4 := of_decide_eq_true h3
    omega
  · intro k hk
    have w : ∀ m, m ≤ nk → wrS o g tm pt ls fs d m = 0 → ∀ j, j < m → wrK o g tm pt ls fs 0 j d = 0 := by
      intro m
      induction m with
      | zero => intro _ _ j hj; omega
      | succ m ih =>
        intro hm h0 j hj
        have h0' : wrS o g tm pt ls fs d m + wrK o g tm pt ls fs 0 m d = 0 := h0
        by_cases e : j = m
        · rw [e]; omega
        · exact ih (by omega) (by omega) j (by omega)
    have hw := w nk (Nat.le_refl _) (by omega) k hk
    have htw : twB (sndB tm ls fs k) d (fs (k + 1)) = false := by
      cases q : twB (sndB tm ls fs k) d (fs (k + 1)) with
      | false => rfl
      | true => unfold wrK at hw; rw [q, if_pos rfl] at hw; omega
    have key : ∀ a b, fs k ≤ a → a < b → b < fs (k + 1) → d a ≠ d b := fun a b h1 h2 h3 e => by
      have : twB (sndB tm ls fs k) d (fs (k + 1)) = true := by
        unfold twB
        rw [any_iff]
        refine ⟨b, h3, ?_⟩
        rw [snd_new (by omega) h3, Bool.true_and, any_iff]
        exact ⟨a, h2, by rw [snd_new h1 (by omega), Bool.true_and]; exact decide_eq_true e⟩
      rw [htw] at this; cases this
    intro a b h1 h2 h3 h4 e
    rcases Nat.lt_trichotomy a b with y | y | y
    · exact absurd e (key a b h1 y h4)
    · exact y
    · exact absurd e.symm (key b a h3 y h2)
