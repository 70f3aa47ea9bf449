/-! without, easiest, count -/
theorem bd_id {α : Type} (o : Option (α × Sg)) : bd o (fun r s => some (r, s)) = o := by
  cases o with
  | none => rfl
  | some q => rfl
theorem m_without {σ : Sg} (h : Rel σ) (x : Int32) : Both σ (f_X8_without 0 x) (f_X9_without 55 x) := by
  obtain ⟨hr, c, n, nk, t, o, g, tm, pt, ls, fs, d, tb, il, b1, b2, p1, p2, p3, p4, p5, p6, p7, p8, p9⟩ := id h
  have hc5 := b1.2.1
  by_cases hx : 0 ≤ x.toInt ∧ x.toInt < (c : Int)
  · obtain ⟨j, hj, rfl⟩ : ∃ a, a < c ∧ x = nI a := ⟨x.toInt.toNat, by omega, i32_nI (by omega)⟩
    have hE : EnvS σ c n nk t o g tm pt ls fs d tb il := ⟨hr, b1, b2, p1, p2, p3, p4, p6, p8, p9⟩
    obtain ⟨τ, e1, f1, q1⟩ := v_X8_without (σ0 := σ) hj σ hE (FrD.rf hr)
    have hE1 := hE.fr f1 q1
    obtain ⟨υ, e2, f2, q2⟩ := v_without (σ0 := σ) (j := j) (by omega) τ hE1 f1
    refine ⟨_, τ, υ, e1, ?_, Rel.back hE p5 p7 (f1.tr f2) q2⟩
    unfold f_X9_without f_X9_without_L19
    rw [s_X9_isCourse hE1.2.2.2.1.2.1 hc5, bd_eq, nI_toInt (by omega), decide_eq_true (by omega), if_neg (by decide), e2, bd_eq]
  · refine ⟨-2, σ, σ, ?_, ?_, h⟩
    · have hh := s_X1_has (σ := σ) x
      rw [p1.1, nI_toInt (by omega), decide_eq_false hx] at hh
      unfold f_X8_without
      rw [rf_0_0 hr, hh, bd_eq, if_pos (by decide)]
    · unfold f_X9_without f_X9_without_L19
      rw [s_X9_isCourse p1.2.1 hc5, bd_eq, decide_eq_false hx, if_pos (by decide)]
theorem m_easiest {σ : Sg} (h : Rel σ) (x : Int32) : Both σ (f_X8_easiest 0 x) (f_X9_easiest 55 x) := by
  have a0 : (0 : Int32).toInt = 0 := rfl
  have a1 : (1 : Int32).toInt = 1 := rfl
  by_cases hx : 0 ≤ x.toInt ∧ x.toInt ≤ 1
  · refine h.cv (fun _ _ => ⟨_, (v_X8_ez (x := x)).eq (fun σ hE _ => ?_), (v_X9_ez (x := x)).eq (fun σ hE _ => ?_)⟩)
    · unfold f_X8_easiest
      by_cases h0 : x = 0
      · rw [if_pos h0]
      · rw [if_neg h0, if_pos]
        rw [i32_eq, a0] at h0
        rw [i32_eq, a1]; omega
    · unfold f_X9_easiest f_X9_easiest_L20
      rw [s_X9_in, bd_eq, decide_eq_true (by rw [a0, a1]; exact hx), if_neg (by decide)]
      exact bd_id _
  · refine ⟨-2147483648, σ, σ, ?_, ?_, h⟩
    · unfold f_X8_easiest
      rw [if_neg (fun y => hx (by rw [y, a0]; omega)), if_neg (fun y => hx (by rw [y, a1]; omega))]
    · unfold f_X9_easiest f_X9_easiest_L20
      rw [s_X9_in, bd_eq, decide_eq_false (by rw [a0, a1]; exact hx), if_pos (by decide)]
/-- what count tells -/
noncomputable def ctV (σ0 : Sg) (c n nk t : Nat) (o g tm pt ls fs d : Nat → Nat) (il : Bool) (f : Nat → Bool) (w : Nat) : Int32 :=
  if w = 0 then nI n else if w = 1 then nI nk else if w = 2 then nI c else if w = 3 then (if lbV c nk o g tm pt ls fs 0 99 = -1 then 0 else 1) else if w = 4 then bI il else if w = 5 then (if il = true then nI (cntB (outB o g pt d) n + wrS o g tm pt ls fs d nk) else -1) else if w = 6 then nI (cntB f 4) else if w = 7 then nI t else gI σ0 0 12
section
variable {c n nk t : Nat} {o g tm pt ls fs d tb : Nat → Nat} {il : Bool} {σ0 : Sg} {f : Nat → Bool}
theorem v_X8_count {w : Nat} (hf : ∀ s, s < 4 → gI σ0 45 s = bI (f s)) (hw : w ≤ 8) : CV σ0 c n nk t o g tm pt ls fs d tb il (f_X8_count 0 (nI w)) (ctV σ0 c n nk t o g tm pt ls fs d il f w) := fun σ hE hF => by
  have hE' := hE
  obtain ⟨hr, b1, b2, p1, p2, p3, p4, p6, p8, p9⟩ := hE'
  have unf : f_X8_count 0 (nI w) σ = swt [some (nI n, σ), some (nI nk, σ), some (nI c, σ), bd (f_X5_inKey 12 0 σ) fun r6 s5 => (if 0 ≤ (lg_cmp r6 (0 : Int64)) then f_X8_count_L94 (1 : Int32) s5 else f_X8_count_L94 (0 : Int32) s5), (if (gI σ 0 11) = 0 then f_X8_count_L107 (0 : Int32) σ else f_X8_count_L107 (1 : Int32) σ), (if (gI σ 0 11) = 0 then f_X8_count_L123 (-1 : Int32) σ else bd (f_X8_wrongs 0 σ) fun r8 s7 => f_X8_count_L123 r8 s7), bd (f_X8_slotsKept 0 σ) fun r10 s9 => some (r10, s9), some (nI t, σ), some (gI σ 0 12, σ)] w := by
    unfold f_X8_count
    rw [nI_toInt (by omega), if_neg (by omega), rf_0_1 hr, rf_0_0 hr, rf_0_3 hr, rf_0_4 hr, p2.1, p3.2.1, p1.1, p6.2.1, show ((w : Int) - 0).toNat = w by omega]
  rw [unf]
  have stay : ∀ r, ctV σ0 c n nk t o g tm pt ls fs d il f w = r → ∃ τ, some (r, σ) = some (ctV σ0 c n nk t o g tm pt ls fs d il f w, τ) ∧ FrD σ τ ∧ P9 τ c o g tm pt ls nk fs := fun r h => ⟨σ, by rw [h], FrD.rf hr, p9⟩
  rcases (show w = 0 ∨ w = 1 ∨ w = 2 ∨ w = 3 ∨ w = 4 ∨ w = 5 ∨ w = 6 ∨ w = 7 ∨ w = 8 by omega) with rfl | rfl | rfl | rfl | rfl | rfl | rfl | rfl | rfl
  · exact stay _ rfl
  · exact stay _ rfl
  · exact stay _ rfl
  · obtain ⟨v, τ, e, f1, q, h⟩ := c_inKey (x := 0) hE (by decide)
    rw [show (0 : Int32).toInt = 0 from rfl] at h
    refine ⟨τ, ?_, f1, q⟩
    show bd (f_X5_inKey 12 0 σ) _ = some ((if lbV c nk o g tm pt ls fs 0 99 = -1 then 0 else 1), τ)
    unfold f_X8_count_L94
    rw [e, bd_eq]
    rcases h with ⟨h1, V, hV, h2, h3⟩ | ⟨h1, h2⟩
    · rw [if_pos (lg0p h1), h2, if_neg (nI_m1 hV)]
    · rw [if_neg (lg0n h1), h2, if_pos rfl]
  · show ∃ τ, (if (gI σ 0 11) = 0 then f_X8_count_L107 (0 : Int32) σ else f_X8_count_L107 (1 : Int32) σ) = _ ∧ _
    unfold f_X8_count_L107
    rw [p4.1]
    cases il with
    | true => rw [if_neg (by decide)]; exact stay _ rfl
    | false => rw [if_pos (by decide)]; exact stay _ rfl
  · show ∃ τ, (if (gI σ 0 11) = 0 then f_X8_count_L123 (-1 : Int32) σ else bd (f_X8_wrongs 0 σ) fun r8 s7 => f_X8_count_L123 r8 s7) = _ ∧ _
    unfold f_X8_count_L123
    rw [p4.1]
    cases il with
    | false => rw [if_pos (by decide)]; exact stay _ rfl
    | true =>
      rw [if_neg (by decide)]
      obtain ⟨τ, e, a⟩ := s_X8_wrongs hr b1 b2 p1 p2 p3 (fun i hi => let ⟨x, _, y⟩ := p4.2.2 rfl i hi; ⟨x, y⟩)
      rw [e, bd_eq]
      exact ⟨τ, rfl, FrD.ag hr a (fun p k y => by unfold S11 at y; unfold Sc; omega) (fun _ _ y => y.elim), (hE.ag a (fun p k y => by unfold S11 at y; unfold Sc; omega) (fun _ _ y => y.elim)).2.2.2.2.2.2.2.2.2⟩
  · show ∃ τ, bd (f_X8_slotsKept 0 σ) _ = _ ∧ _
    rw [s_X8_slotsKept hr (f := f) (fun s hs => (hF.1 45 s (by unfold Sc; omega)).trans (hf s hs)), bd_eq]
    exact stay _ rfl
  · exact stay _ rfl
  · show ∃ τ, some (gI σ 0 12, σ) = _ ∧ _
    rw [hF.1 0 12 (by unfold Sc; omega)]
    exact stay _ rfl
theorem v_X9_count {w : Nat} (hf : ∀ s, s < 4 → gI σ0 62 s = bI (f s)) (hw : w ≤ 8) : CV σ0 c n nk t o g tm pt ls fs d tb il (f_X9_count 55 (nI w)) (ctV σ0 c n nk t o g tm pt ls fs d il f w) := fun σ hE hF => by
  have hE' := hE
  obtain ⟨hr, b1, b2, p1, p2, p3, p4, p6, p8, p9⟩ := hE'
  have unf : f_X9_count 55 (nI w) σ = swt [some (nI n, σ), bd (f_X9_findsChords 55 σ) fun _ s1 => some ((gI s1 55 16), s1), some (nI c, σ), bd (f_X9_leastNow 55 σ) fun r3 s2 => (if r3 = (-1 : Int32) then f_X9_count_L84 (0 : Int32) s2 else f_X9_count_L84 (1 : Int32) s2), (if (gI σ 55 12) = 0 then f_X9_count_L97 (0 : Int32) σ else f_X9_count_L97 (1 : Int32) σ), (if (gI σ 55 12) = 0 then f_X9_count_L113 (-1 : Int32) σ else bd (f_X9_wrongNow 55 σ) fun r5 s4 => f_X9_count_L113 r5 s4), bd (f_X9_fullSlots 55 σ) fun r7 s6 => some (r7, s6), some (nI t, σ), some (gI σ 0 12, σ)] w := by
    unfold f_X9_count
    rw [nI_toInt (by omega), if_neg (by omega), p2.2.1, p1.2.1, p6.2.2.1, ← p8.1, show ((w : Int) - 0).toNat = w by omega]
  rw [unf]
  have stay : ∀ r, ctV σ0 c n nk t o g tm pt ls fs d il f w = r → ∃ τ, some (r, σ) = some (ctV σ0 c n nk t o g tm pt ls fs d il f w, τ) ∧ FrD σ τ ∧ P9 τ c o g tm pt ls nk fs := fun r h => ⟨σ, by rw [h], FrD.rf hr, p9⟩
  rcases (show w = 0 ∨ w = 1 ∨ w = 2 ∨ w = 3 ∨ w = 4 ∨ w = 5 ∨ w = 6 ∨ w = 7 ∨ w = 8 by omega) with rfl | rfl | rfl | rfl | rfl | rfl | rfl | rfl | rfl
  · exact stay _ rfl
  · show ∃ τ, bd (f_X9_findsChords 55 σ) _ = _ ∧ _
    obtain ⟨τ, e, a, rc⟩ := s_X9_findsChords hr p2.m b2 p3.1
    rw [e, bd_eq, rc.1]
    exact ⟨τ, rfl, FrD.ag hr a (fun p k y => by unfold SR at y; unfold Sc; omega) (fun _ _ y => y.elim), (hE.ag a (fun p k y => by unfold SR at y; unfold Sc; omega) (fun _ _ y => y.elim)).2.2.2.2.2.2.2.2.2⟩
  · exact stay _ rfl
  · show ∃ τ, bd (f_X9_leastNow 55 σ) _ = some ((if lbV c nk o g tm pt ls fs 0 99 = -1 then 0 else 1), τ) ∧ _
    obtain ⟨τ, e, f1, q⟩ := v_leastNow σ hE hF
    unfold f_X9_count_L84
    rw [e, bd_eq]
    refine ⟨τ, ?_, f1, q⟩
    by_cases h : lbV c nk o g tm pt ls fs 0 99 = -1
    · rw [if_pos h, if_pos h]
    · rw [if_neg h, if_neg h]
  · show ∃ τ, (if (gI σ 55 12) = 0 then f_X9_count_L97 (0 : Int32) σ else f_X9_count_L97 (1 : Int32) σ) = _ ∧ _
    unfold f_X9_count_L97
    rw [p4.2.1]
    cases il with
    | true => rw [if_neg (by decide)]; exact stay _ rfl
    | false => rw [if_pos (by decide)]; exact stay _ rfl
  · show ∃ τ, (if (gI σ 55 12) = 0 then f_X9_count_L113 (-1 : Int32) σ else bd (f_X9_wrongNow 55 σ) fun r8 s7 => f_X9_count_L113 r8 s7) = _ ∧ _
    unfold f_X9_count_L113
    rw [p4.2.1]
    cases il with
    | false => rw [if_pos (by decide)]; exact stay _ rfl
    | true =>
      rw [if_neg (by decide)]
      obtain ⟨τ, e, a, _⟩ := s_X9_wrongNow (d := d) hr b1 b2 p1 p2 p3.1 (fun i hi => let ⟨_, x, y⟩ := p4.2.2 rfl i hi; ⟨x, y⟩) p4.2.1 p8.2
      rw [e, bd_eq]
      exact ⟨τ, rfl, FrD.ag hr a (fun p k y => by unfold SR SL at y; unfold Sc; omega) (fun _ _ y => y.elim), (hE.ag a (fun p k y => by unfold SR SL at y; unfold Sc; omega) (fun _ _ y => y.elim)).2.2.2.2.2.2.2.2.2⟩
  · show ∃ τ, bd (f_X9_fullSlots 55 σ) _ = _ ∧ _
    rw [s_X9_fullSlots hr (f := f) (fun s hs => (hF.1 62 s (by unfold Sc; omega)).trans (hf s hs)), bd_eq]
    exact stay _ rfl
  · exact stay _ rfl
  · show ∃ τ, some (gI σ 0 12, σ) = _ ∧ _
    rw [hF.1 0 12 (by unfold Sc; omega)]
    exact stay _ rfl
end
theorem m_count {σ : Sg} (h : Rel σ) (x : Int32) : Both σ (f_X8_count 0 x) (f_X9_count 55 x) := by
  by_cases hx : 0 ≤ x.toInt ∧ x.toInt ≤ 8
  · obtain ⟨w, hw, rfl⟩ : ∃ a, a ≤ 8 ∧ x = nI a := ⟨x.toInt.toNat, by omega, i32_nI (by omega)⟩
    refine h.cv (fun _ p5 => ?_)
    obtain ⟨f, hf⟩ := p5.fn
    exact ⟨_, v_X8_count (f := f) (fun s hs => (hf s hs).1) hw, v_X9_count (f := f) (fun s hs => (hf s hs).2.1) hw⟩
  · refine ⟨-2, σ, σ, ?_, ?_, h⟩
    · unfold f_X8_count
      rw [if_pos (by omega)]
    · unfold f_X9_count
      rw [if_pos (by omega)]
