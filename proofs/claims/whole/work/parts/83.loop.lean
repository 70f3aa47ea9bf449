/-! the law's loop, and the start -/
theorem lw_case {σ : Sg} {fC fM : Sg → Option (Int32 × Sg)} {α : Type} (h : Both σ fC fM) (K Z : Sg → Option α) : ∃ σ2, Rel σ2 ∧ (bd (fC σ) fun r s => bd (fM s) fun r2 s2 => if r = r2 then K s2 else Z s2) = K σ2 := by
  obtain ⟨r, σ1, σ2, e1, e2, hr⟩ := h
  refine ⟨σ2, hr, ?_⟩
  rw [e1, bd_eq, e2, bd_eq, if_pos rfl]
theorem lw_caseL {σ : Sg} {fC fM : Sg → Option (Int64 × Sg)} {α : Type} (h : BothL σ fC fM) (K Z : Sg → Option α) : ∃ σ2, Rel σ2 ∧ (bd (fC σ) fun r s => bd (fM s) fun r2 s2 => if lg_cmp r r2 = 0 then K s2 else Z s2) = K σ2 := by
  obtain ⟨r, σ1, σ2, e1, e2, hr⟩ := h
  refine ⟨σ2, hr, ?_⟩
  have e : lg_cmp r r = 0 := by
    unfold lg_cmp
    rw [if_neg (fun y => by have := Int64.lt_iff_toInt_lt.mp y; omega), if_pos rfl]
  rw [e1, bd_eq, e2, bd_eq, if_pos e]
theorem swt_all {α : Type} {P : Option α → Prop} {l : List (Option α)} {n : Nat} (hn : n < l.length) (h : ∀ o ∈ l, P o) : P (swt l n) := by
  unfold swt
  rw [List.getD_eq_getElem?_getD, List.getElem?_eq_getElem hn]
  exact h _ (List.getElem_mem hn)
theorem lw_in5 {m L j : Nat} (hL : L ≤ 3072) (hm : 6 * m + 6 ≤ L) (hj : j < 6) : inb (nI (6 * m) + nI j) L = true := by
  rw [nI_add, inb_nI (by omega)]
  exact decide_eq_true (by omega)
set_option maxRecDepth 10000 in
theorem lw_turn {L : Nat} {xs : Nat → Int32} {m : Nat} {σ : Sg} (hL : L ≤ 3072) (hm : 6 * m + 6 ≤ L) (h : Rel σ) (rec : Int32 × Sg → Option (Int32 × Sg)) : ∃ σ2, Rel σ2 ∧ f_L_law_L18 L xs rec (nI (6 * m), σ) = f_L_law_L1075 L xs rec (nI (6 * m)) σ2 := by
  have h0 : inb (nI (6 * m)) L = true := by
    rw [inb_nI (by omega)]
    exact decide_eq_true (by omega)
  have h1 : inb (nI (6 * m) + (1 : Int32)) L = true := lw_in5 hL hm (j := 1) (by decide)
  have h2 : inb (nI (6 * m) + (2 : Int32)) L = true := lw_in5 hL hm (j := 2) (by decide)
  have h3 : inb (nI (6 * m) + (3 : Int32)) L = true := lw_in5 hL hm (j := 3) (by decide)
  have h4 : inb (nI (6 * m) + (4 : Int32)) L = true := lw_in5 hL hm (j := 4) (by decide)
  have h5 : inb (nI (6 * m) + (5 : Int32)) L = true := lw_in5 hL hm (j := 5) (by decide)
  have hx : ¬ (Int32.ofNat L - (6 : Int32)) < nI (6 * m) := by
    have e : Int32.ofNat L = nI (L - 6) + nI 6 := by rw [nI_add]; show nI L = _; congr 1; omega
    rw [e, show (6 : Int32) = nI 6 from rfl, Int32.add_sub_cancel, Int32.lt_iff_toInt_lt, nI_toInt (by omega), nI_toInt (by omega)]
    omega
  unfold f_L_law_L18
  dsimp only
  simp only [h0, h1, h2, h3, h4, h5, ck_tt]
  rw [if_neg hx]
  generalize (xs (nI (6 * m)).toNatClampNeg &&& (63 : Int32)).toInt = v
  by_cases hv : v < 0 ∨ 34 < v
  · rw [if_pos hv]
    exact ⟨σ, h, rfl⟩
  rw [if_neg hv]
  refine swt_all (P := fun o => ∃ σ2, Rel σ2 ∧ o = f_L_law_L1075 L xs rec (nI (6 * m)) σ2) ?_ ?_
  · show (v - 0).toNat < 35
    omega
  refine List.forall_mem_cons.mpr ⟨lw_case (m_courses h _) _ _, ?_⟩
  refine List.forall_mem_cons.mpr ⟨lw_case (m_tune h _ _) _ _, ?_⟩
  refine List.forall_mem_cons.mpr ⟨lw_case (m_set h _ _) _ _, ?_⟩
  refine List.forall_mem_cons.mpr ⟨lw_case (m_note h _ _ _) _ _, ?_⟩
  refine List.forall_mem_cons.mpr ⟨lw_case (m_gone h _) _ _, ?_⟩
  refine List.forall_mem_cons.mpr ⟨lw_case (m_clear h) _ _, ?_⟩
  refine List.forall_mem_cons.mpr ⟨lw_case (m_read h _) _ _, ?_⟩
  refine List.forall_mem_cons.mpr ⟨lw_case (m_info h _ _) _ _, ?_⟩
  refine List.forall_mem_cons.mpr ⟨lw_case (m_course h _ _) _ _, ?_⟩
  refine List.forall_mem_cons.mpr ⟨lw_case (m_least h) _ _, ?_⟩
  refine List.forall_mem_cons.mpr ⟨lw_case (m_fault h) _ _, ?_⟩
  refine List.forall_mem_cons.mpr ⟨lw_case (m_mend h) _ _, ?_⟩
  refine List.forall_mem_cons.mpr ⟨lw_case (m_lay h _ _) _ _, ?_⟩
  refine List.forall_mem_cons.mpr ⟨lw_case (m_wrong h) _ _, ?_⟩
  refine List.forall_mem_cons.mpr ⟨lw_case (m_cost h) _ _, ?_⟩
  refine List.forall_mem_cons.mpr ⟨lw_case (m_chord h _ _) _ _, ?_⟩
  refine List.forall_mem_cons.mpr ⟨lw_case (m_without h _) _ _, ?_⟩
  refine List.forall_mem_cons.mpr ⟨lw_case (m_key h _) _ _, ?_⟩
  refine List.forall_mem_cons.mpr ⟨lw_case (m_easiest h _) _ _, ?_⟩
  refine List.forall_mem_cons.mpr ⟨lw_case (m_keep h _) _ _, ?_⟩
  refine List.forall_mem_cons.mpr ⟨lw_case (m_go h _) _ _, ?_⟩
  refine List.forall_mem_cons.mpr ⟨lw_case (m_differ h _) _ _, ?_⟩
  refine List.forall_mem_cons.mpr ⟨lw_case (m_text h _) _ _, ?_⟩
  refine List.forall_mem_cons.mpr ⟨lw_case (m_type h _) _ _, ?_⟩
  refine List.forall_mem_cons.mpr ⟨lw_case (m_wipe h) _ _, ?_⟩
  refine List.forall_mem_cons.mpr ⟨lw_case (m_flaw h) _ _, ?_⟩
  refine List.forall_mem_cons.mpr ⟨lw_case (m_back h) _ _, ?_⟩
  refine List.forall_mem_cons.mpr ⟨lw_case (m_sheet h _ _ _) _ _, ?_⟩
  refine List.forall_mem_cons.mpr ⟨lw_case (m_lose h _) _ _, ?_⟩
  refine List.forall_mem_cons.mpr ⟨lw_case (m_put h _ _ _ _) _ _, ?_⟩
  refine List.forall_mem_cons.mpr ⟨lw_caseL (m_get h _ _) _ _, ?_⟩
  refine List.forall_mem_cons.mpr ⟨lw_case (m_copy h _ _ _ _ _) _ _, ?_⟩
  refine List.forall_mem_cons.mpr ⟨lw_case (m_write h _) _ _, ?_⟩
  refine List.forall_mem_cons.mpr ⟨lw_case (m_count h _) _ _, ?_⟩
  refine List.forall_mem_cons.mpr ⟨lw_caseL (m_digest h) _ _, ?_⟩
  exact fun o ho => by cases ho
theorem lw_out {L : Nat} {xs : Nat → Int32} {m : Nat} {σ : Sg} (hL : L ≤ 3072) (hm : m = L / 6) (rec : Int32 × Sg → Option (Int32 × Sg)) : f_L_law_L18 L xs rec (nI (6 * m), σ) = some (1, σ) := by
  have hx : (Int32.ofNat L - (6 : Int32)) < nI (6 * m) := by
    show nI L - nI 6 < nI (6 * m)
    rw [Int32.lt_iff_toInt_lt, Int32.toInt_sub, nI_toInt (by omega), nI_toInt (by omega), nI_toInt (by omega)]
    rw [Int.bmod_eq_of_le (by omega) (by omega)]
    omega
  unfold f_L_law_L18
  dsimp only
  rw [if_pos hx]
  rfl
theorem pure_fx {L : Nat} {xs : Nat → Int32} (hL : L ≤ 3072) {σ0 : Sg} (h : Rel σ0) {N : Nat} (hN : L / 6 < N) : ∃ σ', fx (f_L_law_L18 L xs) N (nI (6 * 0), σ0) = some ((1 : Int32), σ') := by
  have key := fx_inv2 (B := f_L_law_L18 L xs) (fun m s => s.1 = nI (6 * m) ∧ Rel s.2) (fun o => ∃ σ', o = some ((1 : Int32), σ')) (n := L / 6) (fun i s hi hI rec => by
    obtain ⟨x, σ⟩ := s
    obtain ⟨rfl, hr⟩ := hI
    obtain ⟨σ2, r2, e⟩ := lw_turn (xs := xs) (m := i) hL (by omega) hr rec
    refine Or.inl ⟨(nI (6 * (i + 1)), σ2), ⟨rfl, r2⟩, ?_⟩
    rw [e]
    unfold f_L_law_L1075
    rw [lB_eq, show (6 : Int32) = nI 6 from rfl, nI_add, Nat.mul_succ]) (fun s hI rec => by
    obtain ⟨x, σ⟩ := s
    obtain ⟨rfl, hr⟩ := hI
    exact ⟨_, ⟨σ, rfl⟩, lw_out hL rfl rec⟩) (L / 6) 0 N (nI (6 * 0), σ0) (by omega) hN ⟨rfl, h⟩
  exact key
theorem FU_lt {L : Nat} (hL : L ≤ 3072) : L / 6 < FU := by
  unfold FU
  omega
theorem pure_of {L : Nat} {xs : Nat → Int32} (hL : L ≤ 3072) (h : Rel σd) : Pure L xs := pure_fx hL h (FU_lt hL)
