/-! flaw, whole -/
section
variable {c t : Nat} {g tb : Nat → Nat}
theorem PSo0 (hc : 2 ≤ c ∧ c ≤ 5) : PSo c (-1, -1, -1, 0) := by
  unfold PSo
  dsimp only
  omega
theorem s_X3_flawOf {σ : Sg} (hr : RefI σ) (hc : 2 ≤ c ∧ c ≤ 5) (c0 : gI σ 1 0 = nI c) (hg : gI σ 3 0 = nI (g 0)) (hg9 : g 0 ≤ 9) (p6 : P6 σ t tb) : ∃ r τ, f_X3_flawOf 33 31 σ = some (r, τ) ∧ Ag R33 (fun _ _ => False) σ τ ∧ FlP c (g 0) t tb r ∧ ∀ x, prs c (g 0) tb t = some x → FdC τ x.2.1 x.2.2 := by
  obtain ⟨ht, h31, _, htb⟩ := p6
  let σ1 : Sg := pI (pI (pI (pI (pI (pI σ 33 1 0) 33 6 (-1)) 33 5 (gI (pI (pI σ 33 1 0) 33 6 (-1)) 33 6)) 33 6 (-1)) 33 7 (-1)) 33 8 0
  have hA1 : Ag R33 (fun _ _ => False) σ σ1 := Ag.pI (Ag.pI (Ag.pI (Ag.pI (Ag.pI (Ag.pI Ag.rf (by unfold R33; omega)) (by unfold R33; omega)) (by unfold R33; omega)) (by unfold R33; omega)) (by unfold R33; omega)) (by unfold R33; omega)
  have hR1 : RdC σ1 (-1, -1, -1, 0) := by
    refine ⟨?_, ?_, ?_, ?_⟩
    · show (gI (pI (pI (pI (pI (pI (pI σ 33 1 0) 33 6 (-1)) 33 5 _) 33 6 (-1)) 33 7 (-1)) 33 8 0) 33 5).toInt = -1
      rw [gI_pI, if_neg (by omega), gI_pI, if_neg (by omega), gI_pI, if_neg (by omega), gI_pI, if_pos ⟨rfl, rfl⟩, gI_pI, if_pos ⟨rfl, rfl⟩]; rfl
    · show (gI (pI (pI (pI (pI (pI (pI σ 33 1 0) 33 6 (-1)) 33 5 _) 33 6 (-1)) 33 7 (-1)) 33 8 0) 33 6).toInt = -1
      rw [gI_pI, if_neg (by omega), gI_pI, if_neg (by omega), gI_pI, if_pos ⟨rfl, rfl⟩]; rfl
    · show (gI (pI (pI (pI (pI (pI (pI σ 33 1 0) 33 6 (-1)) 33 5 _) 33 6 (-1)) 33 7 (-1)) 33 8 0) 33 7).toInt = -1
      rw [gI_pI, if_neg (by omega), gI_pI, if_pos ⟨rfl, rfl⟩]; rfl
    · show gI (pI (pI (pI (pI (pI (pI σ 33 1 0) 33 6 (-1)) 33 5 _) 33 6 (-1)) 33 7 (-1)) 33 8 0) 33 8 = nI 0
      rw [gI_pI, if_pos ⟨rfl, rfl⟩]; rfl
  have hF1 : FdC σ1 0 (fun _ => (0, 0, 0)) := by
    refine ⟨?_, fun i hi => by omega⟩
    show gI (pI (pI (pI (pI (pI (pI σ 33 1 0) 33 6 (-1)) 33 5 _) 33 6 (-1)) 33 7 (-1)) 33 8 0) 33 1 = nI 0
    rw [gI_pI, if_neg (by omega), gI_pI, if_neg (by omega), gI_pI, if_neg (by omega), gI_pI, if_neg (by omega), gI_pI, if_neg (by omega), gI_pI, if_pos ⟨rfl, rfl⟩]; rfl
  have unf : f_X3_flawOf 33 31 σ = fx (f_X3_flawOf_L16 33 31) FU (nI 0, σ1) := by
    unfold f_X3_flawOf f_X3_endChord
    rw [lB_eq, lB_eq, lB_eq, lB_eq, lB_eq, lB_eq, bd_eq]
    rfl
  rw [unf]
  have z0 : (0 : Int32).toInt = 0 := rfl
  have em1 : (-1 : Int32).toInt = -1 := rfl
  refine fx_inv2 (I := fun i s => ∃ (τ : Sg) (x : PS × Nat × (Nat → Nat × Nat × Nat)), s = (nI i, τ) ∧ Ag R33 (fun _ _ => False) σ τ ∧ prs c (g 0) tb i = some x ∧ PSo c x.1 ∧ RdC τ x.1 ∧ FdC τ x.2.1 x.2.2 ∧ x.2.1 ≤ i) (Q := fun e => ∃ r τ, e = some (r, τ) ∧ Ag R33 (fun _ _ => False) σ τ ∧ FlP c (g 0) t tb r ∧ ∀ x, prs c (g 0) tb t = some x → FdC τ x.2.1 x.2.2) (n := t) ?_ ?_ t 0 FU _ (by omega) (by unfold FU; omega) ⟨σ1, _, rfl, hA1, rfl, PSo0 hc, hR1, hF1, Nat.le_refl _⟩
  · rintro i s hi ⟨τ, x, rfl, hA, hp, ho, hR, hF, hq⟩ rec
    obtain ⟨b1, b2, _⟩ := htb i hi
    have hr2 : RefI τ := hA.ref hr
    have t31 : gI τ 31 1 = nI t := (hA.2.1 31 1 (by unfold R33; omega)).trans h31
    have t32 : gI τ 32 i = nI (tb i) := (hA.2.1 32 i (by unfold R33; omega)).trans b2
    obtain ⟨τ', e1, a1, k1⟩ := s_takes (b := tb i) hr2 hc ((hA.2.1 1 0 (by unfold R33; omega)).trans c0) ((hA.2.1 3 0 (by unfold R33; omega)).trans hg) hg9 b1 ho hR (by omega) hF
    have head : f_X3_flawOf_L16 33 31 rec (nI i, τ) = (if bI (psS c (g 0) x.1 (tb i)).isSome = 0 then some (nI i, τ') else rec (nI (i + 1), τ')) := by
      unfold f_X3_flawOf_L16
      dsimp only
      rw [t31, if_neg (by rw [Int32.le_iff_toInt_le, nI_toInt (by omega), nI_toInt (by omega)]; omega), rf_31_0 hr2, aL_32, inb_nI (by omega), ck_d (by omega), nI_clamp (by omega), t32, e1, bd_eq, lB_eq, nI_1]
    rw [head]
    cases hps : psS c (g 0) x.1 (tb i) with
    | none =>
      right
      refine ⟨some (nI i, τ'), ⟨nI i, τ', rfl, hA.tr a1, Or.inl ⟨i, hi, ⟨x, hp⟩, prs_none hp hps, rfl⟩, fun y hy => ?_⟩, by rw [if_pos (by decide)]⟩
      have := prs_mono (prs_none hp hps) t (by omega)
      rw [hy] at this; cases this
    | some s' =>
      left
      obtain ⟨y1, y2, y3⟩ := k1 s' hps
      have hp1 := prs_some hp hps
      refine ⟨(nI (i + 1), τ'), ⟨τ', _, rfl, hA.tr a1, hp1, ?_, ?_, ?_, ?_⟩, by rw [if_neg (show ¬ bI (some s').isSome = (0 : Int32) from (by decide : ¬ bI true = (0 : Int32)))]⟩
      · by_cases hl : isL c (g 0) x.1 (tb i) = true
        · rw [if_pos hl]; exact psS_ok ho hps
        · rw [if_neg hl]; exact psS_ok ho hps
      · by_cases hl : isL c (g 0) x.1 (tb i) = true
        · rw [if_pos hl]; exact y1
        · rw [if_neg hl]; exact y1
      · by_cases hl : isL c (g 0) x.1 (tb i) = true
        · rw [if_pos hl]; exact y2 hl
        · rw [if_neg hl]; exact y3 (by rw [Bool.not_eq_true] at hl; exact hl)
      · by_cases hl : isL c (g 0) x.1 (tb i) = true
        · rw [if_pos hl]; show x.2.1 + 1 ≤ i + 1; omega
        · rw [if_neg hl]; show x.2.1 ≤ i + 1; omega
  · rintro s ⟨τ, x, rfl, hA, hp, ho, hR, hF, hq⟩ rec
    have t31 : gI τ 31 1 = nI t := (hA.2.1 31 1 (by unfold R33; omega)).trans h31
    refine ⟨some ((if x.1.2.2.1 = -1 ∧ x.1.2.1 = -1 ∧ 0 < t then -1 else nI t), τ), ⟨_, τ, rfl, hA, Or.inr ⟨x, hp, rfl⟩, fun y hy => ?_⟩, ?_⟩
    · rw [hp] at hy; injection hy with hy; rw [← hy]; exact hF
    · unfold f_X3_flawOf_L16 f_X3_flawOf_L65 f_X3_flawOf_L66 f_X3_flawOf_L82 f_X3_flawOf_L86
      dsimp only
      rw [t31, if_pos (by rw [Int32.le_iff_toInt_le]; exact Int.le_refl _)]
      by_cases k1 : x.1.2.2.1 = -1
      · rw [if_pos (by rw [i32_eq, hR.2.2.1, em1]; exact k1)]
        by_cases k2 : x.1.2.1 = -1
        · rw [if_pos (by rw [i32_eq, hR.2.1, em1]; exact k2), if_neg (by decide)]
          by_cases k3 : 0 < t
          · rw [if_neg (by rw [Int32.le_iff_toInt_le, nI_toInt (by omega), z0]; omega), if_pos ⟨k1, k2, k3⟩]
          · rw [if_pos (by rw [Int32.le_iff_toInt_le, nI_toInt (by omega), z0]; omega), if_neg (fun y => k3 y.2.2)]
        · rw [if_neg (by rw [i32_eq, hR.2.1, em1]; exact k2), if_pos (by decide), if_neg (fun y => k2 y.2.1)]
      · rw [if_neg (by rw [i32_eq, hR.2.2.1, em1]; exact k1), if_pos (by decide), if_neg (fun y => k1 y.1)]
theorem s_X9_flawNow {σ : Sg} (hr : RefI σ) (hc : 2 ≤ c ∧ c ≤ 5) (c0 : gI σ 55 0 = nI c) (hg : gI σ 55 2 = nI (g 0)) (hg9 : g 0 ≤ 9) (p6 : P6 σ t tb) : ∃ r τ, f_X9_flawNow 55 σ = some (r, τ) ∧ Ag R55 (fun _ _ => False) σ τ ∧ FlP c (g 0) t tb r := by
  obtain ⟨ht, _, h39, htb⟩ := p6
  let σ1 : Sg := pI (pI (pI σ 55 40 (-1)) 55 41 (-1)) 55 42 (-1)
  have hA1 : Ag R55 (fun _ _ => False) σ σ1 := Ag.pI (Ag.pI (Ag.pI Ag.rf (by unfold R55; omega)) (by unfold R55; omega)) (by unfold R55; omega)
  have hR1 : RdM σ1 (-1, -1, -1, 0) := by
    refine ⟨?_, ?_, ?_, fun y => absurd y (by dsimp only; omega)⟩
    · show (gI (pI (pI (pI σ 55 40 (-1)) 55 41 (-1)) 55 42 (-1)) 55 40).toInt = -1
      rw [gI_pI, if_neg (by omega), gI_pI, if_neg (by omega), gI_pI, if_pos ⟨rfl, rfl⟩]; rfl
    · show (gI (pI (pI (pI σ 55 40 (-1)) 55 41 (-1)) 55 42 (-1)) 55 41).toInt = -1
      rw [gI_pI, if_neg (by omega), gI_pI, if_pos ⟨rfl, rfl⟩]; rfl
    · show (gI (pI (pI (pI σ 55 40 (-1)) 55 41 (-1)) 55 42 (-1)) 55 42).toInt = -1
      rw [gI_pI, if_pos ⟨rfl, rfl⟩]; rfl
  have unf : f_X9_flawNow 55 σ = fx (f_X9_flawNow_L17 55) FU (nI 0, σ1) := by
    unfold f_X9_flawNow
    rw [lB_eq, lB_eq, lB_eq]
    rfl
  rw [unf]
  have z0 : (0 : Int32).toInt = 0 := rfl
  have em1 : (-1 : Int32).toInt = -1 := rfl
  refine fx_inv2 (I := fun i s => ∃ (τ : Sg) (x : PS × Nat × (Nat → Nat × Nat × Nat)), s = (nI i, τ) ∧ Ag R55 (fun _ _ => False) σ τ ∧ prs c (g 0) tb i = some x ∧ PSo c x.1 ∧ RdM τ x.1) (Q := fun e => ∃ r τ, e = some (r, τ) ∧ Ag R55 (fun _ _ => False) σ τ ∧ FlP c (g 0) t tb r) (n := t) ?_ ?_ t 0 FU _ (by omega) (by unfold FU; omega) ⟨σ1, _, rfl, hA1, rfl, PSo0 hc, hR1⟩
  · rintro i s hi ⟨τ, x, rfl, hA, hp, ho, hR⟩ rec
    obtain ⟨b1, _, b2⟩ := htb i hi
    have hr2 : RefI τ := hA.ref hr
    have t39 : gI τ 55 39 = nI t := (hA.2.1 55 39 (by unfold R55; omega)).trans h39
    have t77 : gI τ 77 i = nI (tb i) := (hA.2.1 77 i (by unfold R55; omega)).trans b2
    obtain ⟨τ', e1, a1, k1⟩ := s_reads (b := tb i) hc ((hA.2.1 55 0 (by unfold R55; omega)).trans c0) ((hA.2.1 55 2 (by unfold R55; omega)).trans hg) hg9 b1 ho hR
    have head : f_X9_flawNow_L17 55 rec (nI i, τ) = (if bI (psS c (g 0) x.1 (tb i)).isSome = 0 then some (nI i, τ') else rec (nI (i + 1), τ')) := by
      unfold f_X9_flawNow_L17 f_X9_flawNow_L56
      dsimp only
      rw [t39, if_neg (by rw [Int32.le_iff_toInt_le, nI_toInt (by omega), nI_toInt (by omega)]; omega), rf_55_38 hr2, aL_77, inb_nI (by omega), ck_d (by omega), nI_clamp (by omega), t77]
      by_cases q : gI τ 55 42 = (-1 : Int32)
      · rw [if_pos q] at e1
        rw [if_pos q, e1, bd_eq, lB_eq, nI_1]
      · rw [if_neg q] at e1
        rw [if_neg q, ck_d (by omega), e1, bd_eq, lB_eq, nI_1]
    rw [head]
    cases hps : psS c (g 0) x.1 (tb i) with
    | none =>
      right
      exact ⟨some (nI i, τ'), ⟨nI i, τ', rfl, hA.tr a1, Or.inl ⟨i, hi, ⟨x, hp⟩, prs_none hp hps, rfl⟩⟩, by rw [if_pos (by decide)]⟩
    | some s' =>
      left
      have y1 := k1 s' hps
      have hp1 := prs_some hp hps
      refine ⟨(nI (i + 1), τ'), ⟨τ', _, rfl, hA.tr a1, hp1, ?_, ?_⟩, by rw [if_neg (show ¬ bI (some s').isSome = (0 : Int32) from (by decide : ¬ bI true = (0 : Int32)))]⟩
      · by_cases hl : isL c (g 0) x.1 (tb i) = true
        · rw [if_pos hl]; exact psS_ok ho hps
        · rw [if_neg hl]; exact psS_ok ho hps
      · by_cases hl : isL c (g 0) x.1 (tb i) = true
        · rw [if_pos hl]; exact y1
        · rw [if_neg hl]; exact y1
  · rintro s ⟨τ, x, rfl, hA, hp, ho, hR⟩ rec
    have t39 : gI τ 55 39 = nI t := (hA.2.1 55 39 (by unfold R55; omega)).trans h39
    refine ⟨some ((if x.1.2.2.1 = -1 ∧ x.1.2.1 = -1 ∧ 0 < t then -1 else nI t), τ), ⟨_, τ, rfl, hA, Or.inr ⟨x, hp, rfl⟩⟩, ?_⟩
    unfold f_X9_flawNow_L17 f_X9_flawNow_L96 f_X9_flawNow_L100
    dsimp only
    rw [t39, if_pos (by rw [Int32.le_iff_toInt_le]; exact Int.le_refl _)]
    by_cases k3 : 0 < t
    · rw [if_neg (by rw [Int32.le_iff_toInt_le, nI_toInt (by omega), z0]; omega)]
      by_cases k1 : x.1.2.2.1 = -1
      · rw [if_pos (by rw [i32_eq, hR.2.2.1, em1]; exact k1)]
        by_cases k2 : x.1.2.1 = -1
        · rw [if_pos (by rw [i32_eq, hR.2.1, em1]; exact k2), if_pos ⟨k1, k2, k3⟩]
        · rw [if_neg (by rw [i32_eq, hR.2.1, em1]; exact k2), if_neg (fun y => k2 y.2.1)]
      · rw [if_neg (by rw [i32_eq, hR.2.2.1, em1]; exact k1), if_neg (fun y => k1 y.1)]
    · rw [if_pos (by rw [Int32.le_iff_toInt_le, nI_toInt (by omega), z0]; omega), if_neg (fun y => k3 y.2.2)]
end
section
variable {c n nk t : Nat} {o g tm pt ls fs d tb : Nat → Nat} {il : Bool} {σ0 : Sg}
theorem v_X8_flaw : CV σ0 c n nk t o g tm pt ls fs d tb il (f_X8_flaw 0) (flV c (g 0) t tb) := CV.ag (P := R33) (PL := fun _ _ => False) (fun p k y => by unfold R33 at y; unfold Sc; omega) (fun _ _ y => False.elim y) (fun σ hE _ => by
  obtain ⟨hr, b1, b2, p1, p2, p3, p4, p6, p8, p9⟩ := hE
  obtain ⟨r, τ, e, a, hv, _⟩ := s_X3_flawOf hr ⟨b1.1, b1.2.1⟩ p1.1 (p1.2.2.2 0 (by omega)).1 b1.2.2.2.2.1 p6
  refine ⟨τ, ?_, a⟩
  unfold f_X8_flaw
  rw [rf_0_5 hr, rf_0_4 hr, e, bd_eq, hv.v])
theorem v_flawNow : CV σ0 c n nk t o g tm pt ls fs d tb il (f_X9_flawNow 55) (flV c (g 0) t tb) := CV.ag (P := R55) (PL := fun _ _ => False) (fun p k y => by unfold R55 at y; unfold Sc; omega) (fun _ _ y => False.elim y) (fun σ hE _ => by
  obtain ⟨hr, b1, b2, p1, p2, p3, p4, p6, p8, p9⟩ := hE
  obtain ⟨r, τ, e, a, hv⟩ := s_X9_flawNow hr ⟨b1.1, b1.2.1⟩ p1.2.1 (p1.2.2.2 0 (by omega)).2 b1.2.2.2.2.1 p6
  exact ⟨τ, by rw [e, hv.v], a⟩)
end
theorem m_flaw {σ : Sg} (h : Rel σ) : Both σ (f_X8_flaw 0) (f_X9_flaw 55) := h.cv (fun _ _ => ⟨_, v_X8_flaw, v_flawNow.eq (fun σ _ _ => bd_id _)⟩)
