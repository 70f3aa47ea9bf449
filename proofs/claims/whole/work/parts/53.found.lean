/-! the class's search, whole -/
section
variable {c n nk : Nat} {o g tm pt ls fs : Nat → Nat} {z : Int} {ban : Nat}
/-- the state behind startWithNothingLaid -/
def st0 (τ : Sg) (w : Nat) : Sg := pL (pI (pI (pL (pI τ w 4 1) (w + 1) 0 0) (w + 2) 0 0) (w + 3) 0 0) (w + 4) 0 0
theorem st0_ag {τ : Sg} {w : Nat} : Ag (fun p _ => p = w ∨ p = w + 2 ∨ p = w + 3) (fun p _ => p = w + 1 ∨ p = w + 4) τ (st0 τ w) := Ag.pL (Ag.pI (Ag.pI (Ag.pL (Ag.pI Ag.rf (Or.inl rfl)) (Or.inl rfl)) (Or.inr (Or.inl rfl))) (Or.inr (Or.inr rfl))) (Or.inr rfl)
theorem hg_z {S : Nat → Bool} {d : Nat → Nat} : hg 0 (dg S d 0) 14 = 0 := hg_0.2 (fun i _ => dg_n (by omega))
theorem key0 {d : Nat → Nat} (h : fs 0 = 0) : keyD o g tm pt ls fs z 0 d = 0 := by
  unfold keyD
  rw [h]
  show 0 * 2 ^ 42 + 0 = 0
  rw [Nat.zero_mul]
theorem s_X5_find {σ : Sg} {x1 x2 : Int32} (hr : RefI σ) (b1 : Bl c o g) (b2 : Bn n tm pt ls) (p1 : P1 σ c o g) (p2 : P2 σ n tm pt ls) (p3 : P3 σ n tm ls nk fs) (hz : -12 ≤ z ∧ z ≤ 12) (hx1 : x1.toInt = z) (hx2 : ∀ j : Nat, j < 5 → ((j : Int) = x2.toInt ↔ j = ban)) : ∃ v τ, f_X5_find 12 x1 x2 σ = some (v, τ) ∧ FrS σ τ ∧ AnsP c o g tm pt ls fs z ban nk v := by
  have hn := b2.1
  have hC := p3.1
  have hnk := hC.nk_le
  have hp0 := hr.2
  obtain ⟨wu, ww, wv, n1, n2, n3⟩ := hp0.w
  have e0 := s_X7_start hr wu
  have hub := wu.bd
  have hF0 : FrS σ (st0 σ (gR σ 12 3)) := (show FrS σ σ from ⟨fun _ _ _ => rfl, fun _ _ _ => rfl, hr⟩).ag st0_ag (fun p k y => by omega) (fun p k y => wu.scl y)
  have hM0 : AhM (st0 σ (gR σ 12 3)) o g tm pt ls fs z (gR σ 12 3) 0 1 (fun _ _ => 0) := by
    refine ⟨?_, fun a ha => ?_⟩
    · show gI (pL (pI (pI (pL (pI σ _ 4 1) _ 0 0) _ 0 0) _ 0 0) _ 0 0) _ 4 = _
      rw [gI_pL, gI_pI, if_neg (by omega), gI_pI, if_neg (by omega), gI_pL, gI_pI, if_pos ⟨rfl, rfl⟩]; rfl
    · have ha0 : a = 0 := by omega
      subst ha0
      refine ⟨?_, ?_, ?_⟩
      · rw [hC.1, hg_z]
        show gL (pL (pI (pI (pL (pI σ _ 4 1) _ 0 0) _ 0 0) _ 0 0) _ 0 0) _ 0 = _
        rw [gL_pL, if_neg (by omega), gL_pI, gL_pI, gL_pL, if_pos ⟨rfl, rfl⟩]; rfl
      · show (gI (pL (pI (pI (pL (pI σ _ 4 1) _ 0 0) _ 0 0) _ 0 0) _ 0 0) _ 0).toInt = 0
        rw [gI_pL, gI_pI, if_pos ⟨rfl, rfl⟩]; rfl
      · rw [key0 hC.1]
        show gL (pL (pI (pI (pL (pI σ _ 4 1) _ 0 0) _ 0 0) _ 0 0) _ 0 0) _ 0 = _
        rw [gL_pL, if_pos ⟨rfl, rfl⟩]; rfl
  have hP0 : AhP c o g tm pt ls fs z ban 0 1 (fun _ _ => 0) := by
    refine ⟨by omega, fun a _ j hj => by omega, fun d _ => ⟨0, by omega, fun i hs => (by cases hs), ?_⟩⟩
    rw [key0 hC.1]; exact Nat.zero_le _
  unfold f_X5_find
  rw [e0, bd_eq]
  refine fx_inv2 (I := fun k s => ∃ (τ : Sg) (m : Nat) (D : Nat → Nat → Nat), s = (nI k, τ) ∧ FrS σ τ ∧ 0 < m ∧ AhM τ o g tm pt ls fs z (gR τ 12 3) k m D ∧ AhP c o g tm pt ls fs z ban k m D) (Q := fun e => ∃ v τ, e = some (v, τ) ∧ FrS σ τ ∧ AnsP c o g tm pt ls fs z ban nk v) (n := nk) ?_ ?_ nk 0 FU _ (by omega) (by unfold FU; omega) ⟨st0 σ (gR σ 12 3), 1, fun _ _ => 0, rfl, hF0, by omega, hM0, hP0⟩
  · rintro k s hk ⟨τ, m, D, rfl, hF, hm, hM, hP⟩ rec
    have hr' := hF.2.2
    have hp := hr'.2
    obtain ⟨wu', ww', wv', k1, k2, k3⟩ := hp.w
    have hub' := wu'.bd
    have hwb' := ww'.bd
    have huw := wu'.ne ww' k1
    have t7 : gI τ 4 7 = nI nk := (hF.1 4 7 (by omega)).trans p3.2.1
    have es := s_X7_start hr' ww'
    have hF1 : FrS σ (st0 τ (gR τ 12 4)) := hF.ag st0_ag (fun p k y => by omega) (fun p k y => ww'.scl y)
    have hM1 : AhM (st0 τ (gR τ 12 4)) o g tm pt ls fs z (gR τ 12 3) k m D := hM.ag st0_ag (by omega) (fun a => by omega) (fun a => by omega) (fun a => by omega)
    have hL1 : LsI c o g pt z ban (sndB tm ls fs k) (st0 τ (gR τ 12 4)) (gR τ 12 4) 0 1 (fun _ _ => 0) := by
      refine ⟨?_, Nat.le_refl _, fun a ha => ?_, fun d _ => ⟨0, by omega, fun j hj => by omega⟩⟩
      · show gI (pL (pI (pI (pL (pI τ _ 4 1) _ 0 0) _ 0 0) _ 0 0) _ 0 0) _ 4 = _
        rw [gI_pL, gI_pI, if_neg (by omega), gI_pI, if_neg (by omega), gI_pL, gI_pI, if_pos ⟨rfl, rfl⟩]; rfl
      · have ha0 : a = 0 := by omega
        subst ha0
        refine ⟨⟨?_, 0, by omega, ?_, fun j => by rw [Nat.zero_testBit]; rfl⟩, fun i hi => by omega, rfl⟩
        · rw [hg_z]
          show gL (pL (pI (pI (pL (pI τ _ 4 1) _ 0 0) _ 0 0) _ 0 0) _ 0 0) _ 0 = _
          rw [gL_pL, if_neg (by omega), gL_pI, gL_pI, gL_pL, if_pos ⟨rfl, rfl⟩]; rfl
        · show gI (pL (pI (pI (pL (pI τ _ 4 1) _ 0 0) _ 0 0) _ 0 0) _ 0 0) _ 0 = _
          rw [gI_pL, gI_pI, if_neg (by omega), gI_pI, if_pos ⟨rfl, rfl⟩]; rfl
    have hT := s_findIn (rec9 := rec) (x1 := x1) (x2 := x2) b1 b2 p1 p2 p3 hk hz hx1 hx2 hF1 hM1 hP hL1
    have eB : f_X5_find_L9 12 x1 x2 rec (nI k, τ) = fx (f_X5_find_L30 rec 12 x1 x2 (nI k)) FU (nI 0, st0 τ (gR τ 12 4)) := by
      unfold f_X5_find_L9
      dsimp only
      rw [rf_12_1 hr', t7, if_neg (by rw [Int32.le_iff_toInt_le, nI_toInt (by omega), nI_toInt (by omega)]; omega), es, bd_eq]
      rfl
    rcases hT with ⟨τ3, y1, y2, y3⟩ | ⟨τ4, m', D', y1, y2, y3, y4, y5⟩
    · right
      refine ⟨_, ⟨((-1 : Int32) - nI k).toInt64, τ3, rfl, y2, Or.inr ⟨k, hk, ?_, y3, D 0, hP.2.1 0 hm⟩⟩, eB.trans y1⟩
      rw [Int32.toInt_toInt64, i32_sub (by decide) (by rw [nI_toInt (by omega)]; omega), nI_toInt (by omega)]
      rfl
    · left
      exact ⟨(nI (k + 1), τ4), ⟨τ4, m', D', rfl, y2, y3, y4, y5⟩, eB.trans y1⟩
  · rintro s ⟨τ, m, D, rfl, hF, hm, hM, hP⟩ rec
    have hr' := hF.2.2
    obtain ⟨wu', _⟩ := hr'.2.w
    have t7 : gI τ 4 7 = nI nk := (hF.1 4 7 (by omega)).trans p3.2.1
    obtain ⟨a, ha, el, hl⟩ := s_X7_leastBest (K := fun a => keyD o g tm pt ls fs z nk (D a)) hr' wu' hm hP.1 hM.1 (fun a ha => ⟨(hM.2 a ha).2.2, by have := (key_bd b1 b2 hC hz (Nat.le_refl _) (hP.2.1 a ha)).2.1; omega⟩)
    refine ⟨some (lN (keyD o g tm pt ls fs z nk (D a)), τ), ⟨_, τ, rfl, hF, Or.inl ⟨D a, hP.2.1 a ha, ?_, fun d' hd' => ?_⟩⟩, ?_⟩
    · exact pk_lT (by have := (key_bd b1 b2 hC hz (Nat.le_refl _) (hP.2.1 a ha)).2.1; omega)
    · obtain ⟨b, hb, _, hle⟩ := hP.2.2 d' hd'
      exact Nat.le_trans (hl b hb) hle
    · unfold f_X5_find_L9
      dsimp only
      rw [rf_12_1 hr', t7, if_pos (by rw [Int32.le_iff_toInt_le]; exact Int.le_refl _), el, bd_eq]
end
