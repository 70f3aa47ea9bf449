/-! back, whole -/
theorem FlP.right {c F t : Nat} {tb : Nat → Nat} (ht : t ≤ 80) (h : FlP c F t tb (-1)) : ∃ x, prs c F tb t = some x := by
  rcases h with ⟨i, h1, h2, h3, h4⟩ | ⟨x, h1, _⟩
  · exact absurd h4.symm (nI_m1 (by omega))
  · exact ⟨x, h1⟩
theorem m_back {σ : Sg} (h : Rel σ) : Both σ (f_X8_back 0) (f_X9_back 55) := by
  obtain ⟨hr, c, n, nk, t, o, g, tm, pt, ls, fs, d, tb, il, b1, b2, p1, p2, p3, p4, p5, p6, p7, p8, p9⟩ := id h
  have hc : 2 ≤ c ∧ c ≤ 5 := ⟨b1.1, b1.2.1⟩
  have ht := p6.1
  obtain ⟨r, σ1, e1, a1, hf1, hfd⟩ := s_X3_flawOf hr hc p1.1 (p1.2.2.2 0 (by omega)).1 b1.2.2.2.2.1 p6
  have hr1 : RefI σ1 := a1.ref hr
  have key1 : ∀ p k, ¬ (p = 33 ∨ (34 ≤ p ∧ p ≤ 36)) → gI σ1 p k = gI σ p k := fun p k y => a1.2.1 p k (by unfold R33; omega)
  by_cases hr0 : r = -1
  · subst hr0
    obtain ⟨x, hx⟩ := hf1.right ht
    have hFd := hfd x hx
    have hVP := prs_VP hc hx
    have hcn := prs_cnt hc hx
    have hct := cntB_le (fun j => decide (97 ≤ tb j)) t
    by_cases hq : x.2.1 ≤ 14
    · obtain ⟨σ2, nk0, fs0, e2, a2, w1, w2⟩ := s_X2_removeAll hr1
      have hr2 : RefI σ2 := a2.ref hr1
      obtain ⟨σ3, e3, a3, z1, z2, z3⟩ := s_X8_startAnew hr2
      have hr3 : RefI σ3 := a3.ref hr2
      have key3 : ∀ p k, ¬ (p = 33 ∨ (34 ≤ p ∧ p ≤ 36) ∨ (p = 4 ∧ (k = 6 ∨ k = 7)) ∨ (5 ≤ p ∧ p ≤ 10) ∨ (p = 0 ∧ k = 11) ∨ p = 45 ∨ p = 30) → gI σ3 p k = gI σ p k := fun p k y => by
        rw [a3.2.1 p k (by unfold PA; omega), a2.2.1 p k (by unfold SA; omega)]; exact key1 p k (by omega)
      have f3 : FdC σ3 x.2.1 x.2.2 := by
        have k3 : ∀ p k, 33 ≤ p → p ≤ 36 → gI σ3 p k = gI σ1 p k := fun p k y1 y2 => by rw [a3.2.1 p k (by unfold PA; omega), a2.2.1 p k (by unfold SA; omega)]
        exact ⟨(k3 33 1 (by omega) (by omega)).trans hFd.1, fun i y1 y2 => by rw [k3 34 i (by omega) (by omega), k3 35 i (by omega) (by omega), k3 36 i (by omega) (by omega)]; exact hFd.2 i y1 y2⟩
      obtain ⟨σ4, nk', fs', e4, a4, v1, v2, v3⟩ := s_X8_backLoop hr3 b1 (fun j hj => (key3 2 j (by omega)).trans (p1.2.2.1 j hj).1) f3 hq hVP.2.1 (w1.ag a3 (by unfold PA; omega) (fun p k h1 h2 y => by unfold PA at y; omega)) (w2.fr (fun p k y => a3.2.1 p k (by unfold S3 at y; unfold PA; omega)))
      have hr4 : RefI (pI σ4 0 11 1) := a4.ref hr3
      have key4 : ∀ p k, ¬ (p = 33 ∨ (34 ≤ p ∧ p ≤ 36) ∨ (p = 4 ∧ (k = 6 ∨ k = 7)) ∨ (5 ≤ p ∧ p ≤ 10) ∨ (p = 0 ∧ k = 11) ∨ p = 45 ∨ p = 30 ∨ p = 46) → gI (pI σ4 0 11 1) p k = gI σ p k := fun p k y => by
        rw [gI_pI, if_neg (by omega), a4.2.1 p k (by unfold SB SA; omega)]; exact key3 p k (by omega)
      have p6' : P6 (pI σ4 0 11 1) t tb := p6.fr (fun p k y => key4 p k (by unfold S6 at y; omega))
      obtain ⟨r', σ5, e5, a5, hf5⟩ := s_X9_flawNow hr4 hc ((key4 55 0 (by omega)).trans p1.2.1) ((key4 55 2 (by omega)).trans (p1.2.2.2 0 (by omega)).2) b1.2.2.2.2.1 p6'
      have er' : r' = -1 := hf5.uni hf1
      subst er'
      have hr5 : RefI σ5 := a5.ref hr4
      have e6 := s_lettersTyped hr5 (p6'.fr (fun p k y => a5.2.1 p k (by unfold S6 at y; unfold R55; omega)))
      rw [← hcn] at e6
      obtain ⟨σ6, e7, a7, y2, y3⟩ := s_X9_forgets hr5
      have hr6 : RefI (pI σ6 55 10 0) := a7.ref hr5
      have key6 : ∀ p k, ¬ (p = 33 ∨ (34 ≤ p ∧ p ≤ 36) ∨ (p = 4 ∧ (k = 6 ∨ k = 7)) ∨ (5 ≤ p ∧ p ≤ 10) ∨ (p = 0 ∧ k = 11) ∨ p = 45 ∨ p = 30 ∨ p = 46 ∨ p = 62 ∨ (p = 55 ∧ (k = 10 ∨ k = 12 ∨ (40 ≤ k ∧ k ≤ 43)))) → gI (pI σ6 55 10 0) p k = gI σ p k := fun p k y => by
        rw [gI_pI, if_neg (by omega), a7.2.1 p k (by unfold PM; omega), a5.2.1 p k (by unfold R55; omega)]; exact key4 p k (by omega)
      obtain ⟨σ7, e8, a8, n1, n2⟩ := s_X9_backLoop (o := o) hr6 b1 (fun j hj => (key6 56 j (by omega)).trans (p1.2.2.1 j hj).2) (p6.fr (fun p k y => key6 p k (by unfold S6 at y; omega))) hx hq (by rw [gI_pI, if_pos ⟨rfl, rfl⟩]; rfl)
      have key7 : ∀ p k, ¬ ((57 ≤ p ∧ p ≤ 60) ∨ p = 62 ∨ (p = 55 ∧ (k = 10 ∨ k = 12 ∨ (40 ≤ k ∧ k ≤ 43)))) → gI (pI σ7 55 12 1) p k = gI (pI σ4 0 11 1) p k := fun p k y => by
        rw [gI_pI, if_neg (by omega), a8.2.1 p k (by unfold SPt; omega), gI_pI, if_neg (by omega), a7.2.1 p k (by unfold PM; omega), a5.2.1 p k (by unfold R55; omega)]
      have key : ∀ p k, ¬ (p = 33 ∨ (34 ≤ p ∧ p ≤ 36) ∨ (p = 4 ∧ (k = 6 ∨ k = 7)) ∨ (5 ≤ p ∧ p ≤ 10) ∨ (p = 0 ∧ k = 11) ∨ p = 45 ∨ p = 30 ∨ p = 46 ∨ p = 62 ∨ (57 ≤ p ∧ p ≤ 60) ∨ (p = 55 ∧ (k = 10 ∨ k = 12 ∨ (40 ≤ k ∧ k ≤ 43)))) → gI (pI σ7 55 12 1) p k = gI σ p k := fun p k y => by
        rw [key7 p k (by omega)]; exact key4 p k (by omega)
      have keyL : ∀ p k, p ≠ 999 → gL (pI σ7 55 12 1) p k = gL σ p k := fun p k _ => by
        rw [gL_pI, a8.2.2.1 p k id, gL_pI, a7.2.2.1 p k id, a5.2.2.1 p k id, gL_pI, a4.2.2.1 p k id, a3.2.2.1 p k id, a2.2.2.1 p k id]; exact a1.2.2.1 p k id
      obtain ⟨hBn, hdc⟩ := bkS_ok (o := o) b1 hq hVP.2.1 x.2.1 (Nat.le_refl _)
      have c4 : ∀ p k, ¬ (p = 0 ∧ k = 11) → ¬ ((57 ≤ p ∧ p ≤ 60) ∨ p = 62 ∨ (p = 55 ∧ (k = 10 ∨ k = 12 ∨ (40 ≤ k ∧ k ≤ 43)))) → gI (pI σ7 55 12 1) p k = gI σ4 p k := fun p k y1 y2 => by
        rw [key7 p k y2, gI_pI, if_neg y1]
      refine ⟨nI x.2.1, pI σ4 0 11 1, pI σ7 55 12 1, ?_, ?_, a8.ref hr6, c, x.2.1, nk', t, o, g, (bkS o x.2.2 x.2.1).1, (bkS o x.2.2 x.2.1).2.1, (bkS o x.2.2 x.2.1).2.2.1, fs', (bkS o x.2.2 x.2.1).2.2.2, tb, true, b1, hBn, (p1.fr fun p k z => key p k (by unfold S1 at z; omega)), P2.of ⟨?_, fun i hi => ?_⟩ ⟨?_, fun i hi => ?_⟩, v2.fr (fun p k y => c4 p k (by unfold S3 at y; omega) (by unfold S3 at y; omega)), ⟨?_, ?_, fun _ i hi => ⟨?_, ?_, hdc i hi⟩⟩, fun s hs => ⟨false, ?_, ?_, fun y => (by cases y)⟩, (p6.fr fun p k z => key p k (by unfold S6 at z; omega)), (p7.fr (fun p k z => key p k (by unfold S7 at z; omega)) (fun p k z => keyL p k (by unfold S7L at z; omega))), (p8.fr fun p k z => key p k (by unfold S8 at z; omega)), P9.zero (fun k hk => ?_)⟩
      · unfold f_X8_back
        rw [rf_0_5 hr, rf_0_4 hr, e1, bd_eq, if_pos rfl, rf_0_5 hr1, hFd.1, if_pos (by rw [Int32.le_iff_toInt_le, nI_toInt (by omega), show (14 : Int32).toInt = 14 from rfl]; omega), rf_0_1 hr1, e2, bd_eq, e3, bd_eq]
        exact e4
      · unfold f_X9_back
        rw [e5, bd_eq, if_pos rfl, e6, bd_eq, if_pos (by rw [Int32.le_iff_toInt_le, nI_toInt (by omega), show (14 : Int32).toInt = 14 from rfl]; omega), e7, bd_eq, lB_eq]
        exact e8
      · rw [c4 4 6 (by omega) (by omega)]; exact v1.1
      · rw [c4 5 i (by omega) (by omega), c4 6 i (by omega) (by omega), c4 7 i (by omega) (by omega)]; exact v1.2 i hi
      · rw [gI_pI, if_neg (by omega)]; exact n1.1
      · rw [gI_pI, if_neg (by omega), gI_pI, if_neg (by omega), gI_pI, if_neg (by omega)]; exact n1.2 i hi
      · rw [key7 0 11 (by omega), gI_pI, if_pos ⟨rfl, rfl⟩]; rfl
      · rw [gI_pI, if_pos ⟨rfl, rfl⟩]; rfl
      · rw [c4 46 i (by omega) (by omega)]; exact v3 i hi
      · rw [gI_pI, if_neg (by omega)]; exact n2 i hi
      · rw [c4 45 s (by omega) (by omega), a4.2.1 45 s (by unfold SB SA; omega)]; exact z2 s hs
      · rw [gI_pI, if_neg (by omega), a8.2.1 62 s (by unfold SPt; omega), gI_pI, if_neg (by omega)]; exact y3 s hs
      · rw [c4 30 k (by omega) (by omega), a4.2.1 30 k (by unfold SB SA; omega)]; exact z3 k hk
    · have p6' : P6 σ1 t tb := p6.fr (fun p k y => key1 p k (by unfold S6 at y; omega))
      obtain ⟨r', σ5, e5, a5, hf5⟩ := s_X9_flawNow hr1 hc ((key1 55 0 (by omega)).trans p1.2.1) ((key1 55 2 (by omega)).trans (p1.2.2.2 0 (by omega)).2) b1.2.2.2.2.1 p6'
      have er' : r' = -1 := hf5.uni hf1
      subst er'
      have hr5 : RefI σ5 := a5.ref hr1
      have e6 := s_lettersTyped hr5 (p6'.fr (fun p k y => a5.2.1 p k (by unfold S6 at y; unfold R55; omega)))
      rw [← hcn] at e6
      refine ⟨-4, σ1, σ5, ?_, ?_, h.lk (Lk.tr (Lk.ag a1 (fun p k y => by unfold R33 at y; unfold Sc; omega) (fun _ _ y => y.elim)) (Lk.ag a5 (fun p k y => by unfold R55 at y; unfold Sc; omega) (fun _ _ y => y.elim)))⟩
      · unfold f_X8_back
        rw [rf_0_5 hr, rf_0_4 hr, e1, bd_eq, if_pos rfl, rf_0_5 hr1, hFd.1, if_neg (by rw [Int32.le_iff_toInt_le, nI_toInt (by omega), show (14 : Int32).toInt = 14 from rfl]; omega)]
      · unfold f_X9_back
        rw [e5, bd_eq, if_pos rfl, e6, bd_eq, if_neg (by rw [Int32.le_iff_toInt_le, nI_toInt (by omega), show (14 : Int32).toInt = 14 from rfl]; omega)]
  · have p6' : P6 σ1 t tb := p6.fr (fun p k y => key1 p k (by unfold S6 at y; omega))
    obtain ⟨r', σ5, e5, a5, hf5⟩ := s_X9_flawNow hr1 hc ((key1 55 0 (by omega)).trans p1.2.1) ((key1 55 2 (by omega)).trans (p1.2.2.2 0 (by omega)).2) b1.2.2.2.2.1 p6'
    have er' : r' = r := hf5.uni hf1
    subst er'
    refine ⟨-3, σ1, σ5, ?_, ?_, h.lk (Lk.tr (Lk.ag a1 (fun p k y => by unfold R33 at y; unfold Sc; omega) (fun _ _ y => y.elim)) (Lk.ag a5 (fun p k y => by unfold R55 at y; unfold Sc; omega) (fun _ _ y => y.elim)))⟩
    · unfold f_X8_back
      rw [rf_0_5 hr, rf_0_4 hr, e1, bd_eq, if_neg hr0]
    · unfold f_X9_back
      rw [e5, bd_eq, if_neg hr0]
