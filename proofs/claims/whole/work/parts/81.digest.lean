/-! digest -/
def ixk (i : Nat) : Int32 := if i = 0 then -2 else if i = 1 then -1 else nI (i - 2)
theorem ixk_s : ∀ i, i < 5 → ixk i + 1 = ixk (i + 1) := by decide
theorem ixk_t : ∀ i, i < 6 → (ixk i).toInt = (i : Int) - 2 := by decide
theorem s_mixed (h x : Int64) (σ : Sg) : f_X8_mixed h x σ = some (31 * h + x, σ) := rfl
section
variable {c n nk t : Nat} {o g tm pt ls fs d tb : Nat → Nat} {il : Bool} {σ0 : Sg}
/-- the row of signs, mixed into h -/
noncomputable def tbG (c n nk : Nat) (o g tm pt ls fs d : Nat → Nat) (il : Bool) (h : Int64) : Int64 := if okT n nk o g tm pt ls fs d il = true then itG (mxG (fun i => nI ((tabA c o tm pt fs d nk).2 i))) (31 * h + (nI (tabA c o tm pt fs d nk).1).toInt64) (tabA c o tm pt fs d nk).1 else 31 * h + (-3)
theorem d_tabC {h : Int64} : CV σ0 c n nk t o g tm pt ls fs d tb il (f_X8_mixedTablature 0 h) (tbG c n nk o g tm pt ls fs d il h) := CV.ag (P := fun p k => p = 11 ∨ S37 p k) (PL := fun _ _ => False) (fun p k y => c37 y) (fun _ _ y => False.elim y) (fun σ hE _ => by
  have hc5 := hE.2.1.2.1
  have hn := hE.2.2.1.1
  have hnk := hE.2.2.2.2.2.1.1.nk_le
  have hlen := tabA_len (o := o) (tm := tm) (pt := pt) (fs := fs) (d := d) hc5 nk
  obtain ⟨τ, e, a, hH⟩ := t_make hE
  have hr1 : RefI τ := a.ref hE.1
  refine ⟨τ, ?_, a⟩
  unfold f_X8_mixedTablature tbG
  rw [e, bd_eq]
  by_cases q : okT n nk o g tm pt ls fs d il = true
  · obtain ⟨h1, h2⟩ := hH q
    rw [q, if_neg (show ¬ bI true = (0 : Int32) by decide), if_pos rfl, rf_0_6 hr1, h1, s_mixed, bd_eq]
    refine fx_for0 (fun i => (itG (mxG (fun i => nI ((tabA c o tm pt fs d nk).2 i))) (31 * h + (nI (tabA c o tm pt fs d nk).1).toInt64) i, nI i, τ)) rfl (n := (tabA c o tm pt fs d nk).1) (fun i hi rec => ?_) (fun rec => ?_) (by unfold FU; omega)
    · unfold f_X8_mixedTablature_L31
      dsimp only
      rw [rf_0_6 hr1, h1, if_neg (by rw [Int32.le_iff_toInt_le, nI_toInt (by omega), nI_toInt (by omega)]; omega), rf_37_0 hr1, aL_38, inb_nI (by omega), ck_d (by omega), nI_clamp (by omega), h2 i hi, s_mixed, bd_eq, lB_eq, nI_1]
      rfl
    · unfold f_X8_mixedTablature_L31
      dsimp only
      rw [rf_0_6 hr1, h1, if_pos (by rw [Int32.le_iff_toInt_le]; exact Int.le_refl _)]
  · have q' : okT n nk o g tm pt ls fs d il = false := by rw [Bool.not_eq_true] at q; exact q
    rw [q', if_pos (show bI false = (0 : Int32) by decide), s_mixed, bd_eq, if_neg (show ¬ false = true by decide)])
/-- the slots, mixed into h -/
def slG (f : Nat → Bool) (dv : Nat → Int32) (s : Nat) (h : Int64) : Int64 := if f s = true then 31 * h + (dv s).toInt64 else h
noncomputable def dg2 (σ0 : Sg) (c n nk t : Nat) (o g tm pt ls fs d : Nat → Nat) (il : Bool) (f : Nat → Bool) (cs : Int32) : Int64 := 31 * (31 * (31 * itG (mxG (ctV σ0 c n nk t o g tm pt ls fs d il f)) 17 8 + (lsV c nk o g tm pt ls fs).toInt64) + (fpV c nk o g tm pt ls fs).toInt64) + cs.toInt64
noncomputable def dg3 (c n nk : Nat) (o g tm pt ls fs d : Nat → Nat) (il : Bool) (h : Int64) : Int64 := itG (fun j h => 31 * (itG (mxG (fun w => nI (if w = 0 then o j else cntB (crsB o g pt d il w j) n))) h 3) + (lbV c nk o g tm pt ls fs 0 j).toInt64) h c
def dg4 (n : Nat) (iv : Nat → Nat → Int32) (h : Int64) : Int64 := itG (fun i h => itG (mxG (iv i)) h 6) h n
def dg5 (n nk : Nat) (o g tm pt ls fs d : Nat → Nat) (il : Bool) (h : Int64) : Int64 := itG (fun k h => itG (mxG (chV n o g tm pt ls fs d il k)) h 7) h nk
noncomputable def dg6 (c nk : Nat) (o g tm pt ls fs : Nat → Nat) (h : Int64) : Int64 := itG (fun i h => 31 * h + (lbV c nk o g tm pt ls fs ((i : Int) - 2) 99).toInt64) h 5
noncomputable def dg7 (c nk t : Nat) (o g tm pt ls fs tb : Nat → Nat) (h : Int64) : Int64 := 31 * (31 * (31 * h + (ezV c nk o g tm pt ls fs 0).toInt64) + (ezV c nk o g tm pt ls fs 1).toInt64) + (flV c (g 0) t tb).toInt64
/-- the number -/
noncomputable def dgV (σ0 : Sg) (c n nk t : Nat) (o g tm pt ls fs d tb : Nat → Nat) (il : Bool) (f : Nat → Bool) (cs : Int32) (iv : Nat → Nat → Int32) (dv : Nat → Int32) : Int64 :=
  itG (slG f dv) (tbG c n nk o g tm pt ls fs d il (dg7 c nk t o g tm pt ls fs tb (dg6 c nk o g tm pt ls fs (dg5 n nk o g tm pt ls fs d il (dg4 n iv (dg3 c n nk o g tm pt ls fs d il (dg2 σ0 c n nk t o g tm pt ls fs d il f cs))))))) 4
theorem lt_k {i m : Nat} (h : i < m) (hm : m < 1000) (x : Int32) (hx : x.toInt = (m : Int) - 1) : ¬ x < nI i := by
  rw [Int32.lt_iff_toInt_lt, nI_toInt (by omega), hx]; omega
theorem ge_k {m : Nat} (hm : m < 1000) (x : Int32) (hx : x.toInt = (m : Int) - 1) : x < nI m := by
  rw [Int32.lt_iff_toInt_lt, nI_toInt (by omega), hx]; omega
theorem d_notesC {h : Int64} {iv : Nat → Nat → Int32} (hn : n ≤ 14) (hiv : ∀ i, i < n → ∀ w, w ≤ 5 → CV σ0 c n nk t o g tm pt ls fs d tb il (f_X8_info 0 (nI i) (nI w)) (iv i w)) : CV σ0 c n nk t o g tm pt ls fs d tb il (f_X8_mixedNotes 0 h) (dg4 n iv h) := fun σ hE hF => by
  unfold f_X8_mixedNotes
  refine mixL (σ0 := σ0) (B := f_X8_mixedNotes_L5 0) n nI (fun i h => itG (mxG (iv i)) h 6) (fun h σ => some (h, σ)) (by omega) (fun i hi h σ hE hF rec => ?_) (fun h σ hE hF rec => ?_) h σ hE hF
  · obtain ⟨τ, e, f, q⟩ := mixL (σ0 := σ0) (B := f_X8_mixedNotes_L20 rec 0 (nI i)) 6 nI (mxG (iv i)) (fun h σ => rec (h, nI (i + 1), σ)) (by omega) (fun w hw h σ hE hF rec' => by
      obtain ⟨τ, e, f, q⟩ := hiv i hi w (by omega) σ hE hF
      refine ⟨τ, ?_, f, q⟩
      unfold f_X8_mixedNotes_L20
      dsimp only
      rw [if_neg (lt_k hw (by omega) 5 rfl), e, bd_eq, s_mixed, bd_eq, lB_eq, nI_1]
      rfl) (fun h σ hE hF rec' => by
      unfold f_X8_mixedNotes_L20
      dsimp only
      rw [if_pos (ge_k (m := 6) (by omega) 5 rfl), lB_eq, nI_1]) h σ hE hF
    refine ⟨τ, ?_, f, q⟩
    rw [← e]
    unfold f_X8_mixedNotes_L5
    dsimp only
    rw [rf_0_1 hE.1, hE.2.2.2.2.1.1, if_neg (by rw [Int32.le_iff_toInt_le, nI_toInt (by omega), nI_toInt (by omega)]; omega)]
    rfl
  · unfold f_X8_mixedNotes_L5
    dsimp only
    rw [rf_0_1 hE.1, hE.2.2.2.2.1.1, if_pos (by rw [Int32.le_iff_toInt_le]; exact Int.le_refl _)]
theorem d_chordsC {h : Int64} (hnk : nk ≤ 14) : CV σ0 c n nk t o g tm pt ls fs d tb il (f_X8_mixedChords 0 h) (dg5 n nk o g tm pt ls fs d il h) := fun σ hE hF => by
  unfold f_X8_mixedChords
  refine mixL (σ0 := σ0) (B := f_X8_mixedChords_L5 0) nk nI (fun k h => itG (mxG (chV n o g tm pt ls fs d il k)) h 7) (fun h σ => some (h, σ)) (by omega) (fun i hi h σ hE hF rec => ?_) (fun h σ hE hF rec => ?_) h σ hE hF
  · obtain ⟨τ, e, f, q⟩ := mixL (σ0 := σ0) (B := f_X8_mixedChords_L20 rec 0 (nI i)) 7 nI (mxG (chV n o g tm pt ls fs d il i)) (fun h σ => rec (h, nI (i + 1), σ)) (by omega) (fun w hw h σ hE hF rec' => by
      obtain ⟨τ, e, f, q⟩ := (e_chord (σ0 := σ0) hi (show w ≤ 6 by omega)).1 σ hE hF
      refine ⟨τ, ?_, f, q⟩
      unfold f_X8_mixedChords_L20
      dsimp only
      rw [if_neg (lt_k hw (by omega) 6 rfl), e, bd_eq, s_mixed, bd_eq, lB_eq, nI_1]
      rfl) (fun h σ hE hF rec' => by
      unfold f_X8_mixedChords_L20
      dsimp only
      rw [if_pos (ge_k (m := 7) (by omega) 6 rfl), lB_eq, nI_1]) h σ hE hF
    refine ⟨τ, ?_, f, q⟩
    rw [← e]
    unfold f_X8_mixedChords_L5
    dsimp only
    rw [rf_0_1 hE.1, hE.2.2.2.2.2.1.2.1, if_neg (by rw [Int32.le_iff_toInt_le, nI_toInt (by omega), nI_toInt (by omega)]; omega)]
    rfl
  · unfold f_X8_mixedChords_L5
    dsimp only
    rw [rf_0_1 hE.1, hE.2.2.2.2.2.1.2.1, if_pos (by rw [Int32.le_iff_toInt_le]; exact Int.le_refl _)]
theorem v_X8_easiest {w : Nat} (hw : w ≤ 1) : CV σ0 c n nk t o g tm pt ls fs d tb il (f_X8_easiest 0 (nI w)) (ezV c nk o g tm pt ls fs (nI w)) := (v_X8_ez (x := nI w)).eq (fun σ _ _ => by
  unfold f_X8_easiest
  rcases (show w = 0 ∨ w = 1 by omega) with rfl | rfl
  · rw [if_pos (by decide)]
  · rw [if_neg (by decide), if_pos (by decide)])
theorem d_class {f : Nat → Bool} {cs : Int32} {iv : Nat → Nat → Int32} {dv : Nat → Int32} (hn : n ≤ 14) (hnk : nk ≤ n) (hc5 : c ≤ 5) (hf : ∀ s, s < 4 → gI σ0 45 s = bI (f s)) (hcs : CV σ0 c n nk t o g tm pt ls fs d tb il (f_X8_cost 0) cs) (hiv : ∀ i, i < n → ∀ w, w ≤ 5 → CV σ0 c n nk t o g tm pt ls fs d tb il (f_X8_info 0 (nI i) (nI w)) (iv i w)) (hdv : ∀ s, s < 4 → f s = true → CV σ0 c n nk t o g tm pt ls fs d tb il (f_X8_differ 0 (nI s)) (dv s)) : CV σ0 c n nk t o g tm pt ls fs d tb il (f_X8_digest 0) (dgV σ0 c n nk t o g tm pt ls fs d tb il f cs iv dv) := fun σ hE hF => by
  unfold f_X8_digest dgV
  -- count
  obtain ⟨τ1, e1, f1, q1⟩ := mixL (σ0 := σ0) (B := f_X8_digest_L6 0) 8 nI (mxG (ctV σ0 c n nk t o g tm pt ls fs d il f)) (fun h σ => bd (f_X8_least 0 σ) fun r2 s1 => bd (f_X8_mixed h (r2.toInt64) s1) fun r4 s3 => bd (f_X8_fault 0 s3) fun r6 s5 => bd (f_X8_mixed r4 (r6.toInt64) s5) fun r8 s7 => bd (f_X8_cost 0 s7) fun r10 s9 => bd (f_X8_mixed r8 (r10.toInt64) s9) fun r12 s11 => fx (f_X8_digest_L61 0) FU (r12, (0 : Int32), s11)) (by omega) (fun w hw h σ hE hF rec => by
      obtain ⟨τ, e, ff, q⟩ := v_X8_count (σ0 := σ0) (f := f) hf (show w ≤ 8 by omega) σ hE hF
      refine ⟨τ, ?_, ff, q⟩
      unfold f_X8_digest_L6
      dsimp only
      rw [if_neg (lt_k hw (by omega) 7 rfl), e, bd_eq, s_mixed, bd_eq, lB_eq, nI_1]
      rfl) (fun h σ hE hF rec => by
      unfold f_X8_digest_L6
      dsimp only
      rw [if_pos (ge_k (m := 8) (by omega) 7 rfl)]) 17 σ hE hF
  have hE1 := hE.fr f1 q1
  have hF1 := hF.tr f1
  obtain ⟨τ2, e2, f2, q2⟩ := v_X8_least (σ0 := σ0) τ1 hE1 hF1
  have hE2 := hE1.fr f2 q2
  have hF2 := hF1.tr f2
  obtain ⟨τ3, e3, f3, q3⟩ := v_X8_fault (σ0 := σ0) τ2 hE2 hF2
  have hE3 := hE2.fr f3 q3
  have hF3 := hF2.tr f3
  obtain ⟨τ4, e4, f4, q4⟩ := hcs τ3 hE3 hF3
  have hE4 := hE3.fr f4 q4
  have hF4 := hF3.tr f4
  rw [e2, bd_eq, s_mixed, bd_eq, e3, bd_eq, s_mixed, bd_eq, e4, bd_eq, s_mixed, bd_eq] at e1
  -- courses
  obtain ⟨τ5, e5, f5, q5⟩ := mixL (σ0 := σ0) (B := f_X8_digest_L61 0) c nI (fun j h => 31 * (itG (mxG (fun w => nI (if w = 0 then o j else cntB (crsB o g pt d il w j) n))) h 3) + (lbV c nk o g tm pt ls fs 0 j).toInt64) (fun h σ => bd (f_X8_mixedNotes 0 h σ) fun r3 s2 => bd (f_X8_mixedChords 0 r3 s2) fun r5 s4 => fx (f_X8_digest_L132 0) FU (r5, (-2 : Int32), s4)) (by omega) (fun j hj h σ hE hF rec => by
      obtain ⟨τ, e, ff, q⟩ := mixL (σ0 := σ0) (B := f_X8_digest_L75 rec 0 (nI j)) 3 nI (mxG (fun w => nI (if w = 0 then o j else cntB (crsB o g pt d il w j) n))) (fun h σ => bd (f_X8_without 0 (nI j) σ) fun r2 s1 => bd (f_X8_mixed h (r2.toInt64) s1) fun r4 s3 => lB (nI j + (1 : Int32)) fun v5 => rec (r4, v5, s3)) (by omega) (fun w hw h σ hE hF rec' => by
          obtain ⟨τ, e, ff, q⟩ := (e_course (σ0 := σ0) hj (show w ≤ 2 by omega)).1 σ hE hF
          refine ⟨τ, ?_, ff, q⟩
          unfold f_X8_digest_L75
          dsimp only
          rw [if_neg (lt_k hw (by omega) 2 rfl), e, bd_eq, s_mixed, bd_eq, lB_eq, nI_1]
          rfl) (fun h σ hE hF rec' => by
          unfold f_X8_digest_L75
          dsimp only
          rw [if_pos (ge_k (m := 3) (by omega) 2 rfl)]) h σ hE hF
      obtain ⟨τ', e', ff', q'⟩ := v_X8_without (σ0 := σ0) hj τ (hE.fr ff q) (hF.tr ff)
      rw [e', bd_eq, s_mixed, bd_eq, lB_eq, nI_1] at e
      refine ⟨τ', ?_, ff.tr ff', q'⟩
      rw [← e]
      unfold f_X8_digest_L61
      dsimp only
      rw [rf_0_0 hE.1, hE.2.2.2.1.1, if_neg (by rw [Int32.le_iff_toInt_le, nI_toInt (by omega), nI_toInt (by omega)]; omega)]
      rfl) (fun h σ hE hF rec => by
      unfold f_X8_digest_L61
      dsimp only
      rw [rf_0_0 hE.1, hE.2.2.2.1.1, if_pos (by rw [Int32.le_iff_toInt_le]; exact Int.le_refl _)]) (dg2 σ0 c n nk t o g tm pt ls fs d il f cs) τ4 hE4 hF4
  have hE5 := hE4.fr f5 q5
  have hF5 := hF4.tr f5
  have e1' : fx (f_X8_digest_L6 0) FU (17, nI 0, σ) = fx (f_X8_digest_L61 0) FU (dg2 σ0 c n nk t o g tm pt ls fs d il f cs, nI 0, τ4) := e1
  generalize dg2 σ0 c n nk t o g tm pt ls fs d il f cs = H2 at e1' e5 ⊢
  have e5' : fx (f_X8_digest_L61 0) FU (H2, nI 0, τ4) = bd (f_X8_mixedNotes 0 (dg3 c n nk o g tm pt ls fs d il H2) τ5) fun r3 s2 => bd (f_X8_mixedChords 0 r3 s2) fun r5 s4 => fx (f_X8_digest_L132 0) FU (r5, (-2 : Int32), s4) := e5
  generalize dg3 c n nk o g tm pt ls fs d il H2 = H3 at e5' ⊢
  obtain ⟨τ6, e6, f6, q6⟩ := d_notesC (σ0 := σ0) (h := H3) hn hiv τ5 hE5 hF5
  have hE6 := hE5.fr f6 q6
  have hF6 := hF5.tr f6
  rw [e6, bd_eq] at e5'
  generalize dg4 n iv H3 = H4 at e5' ⊢
  obtain ⟨τ7, e7, f7, q7⟩ := d_chordsC (σ0 := σ0) (h := H4) (by omega) τ6 hE6 hF6
  have hE7 := hE6.fr f7 q7
  have hF7 := hF6.tr f7
  rw [e7, bd_eq] at e5'
  generalize dg5 n nk o g tm pt ls fs d il H4 = H5 at e5' ⊢
  obtain ⟨τ8, e8, f8, q8⟩ := mixL (σ0 := σ0) (B := f_X8_digest_L132 0) 5 ixk (fun i h => 31 * h + (lbV c nk o g tm pt ls fs ((i : Int) - 2) 99).toInt64) (fun h σ => bd (f_X8_easiest 0 (0 : Int32) σ) fun r2 s1 => bd (f_X8_mixed h (r2.toInt64) s1) fun r4 s3 => bd (f_X8_easiest 0 (1 : Int32) s3) fun r6 s5 => bd (f_X8_mixed r4 (r6.toInt64) s5) fun r8 s7 => bd (f_X8_flaw 0 s7) fun r10 s9 => bd (f_X8_mixed r8 (r10.toInt64) s9) fun r12 s11 => bd (f_X8_mixedTablature 0 r12 s11) fun r14 s13 => fx (f_X8_digest_L194 0) FU (r14, (0 : Int32), s13)) (by omega) (fun i hi h σ hE hF rec => by
      have ti := ixk_t i (by omega)
      obtain ⟨τ, e, ff, q⟩ := v_X8_key (σ0 := σ0) (x := ixk i) (by omega) σ hE hF
      refine ⟨τ, ?_, ff, q⟩
      rw [ti] at e
      unfold f_X8_digest_L132
      dsimp only
      rw [if_neg (by rw [Int32.lt_iff_toInt_lt, ti, show (2 : Int32).toInt = 2 from rfl]; omega), e, bd_eq, s_mixed, bd_eq, lB_eq, ixk_s i hi]) (fun h σ hE hF rec => by
      unfold f_X8_digest_L132
      dsimp only
      rw [if_pos (by decide)]) H5 τ7 hE7 hF7
  have hE8 := hE7.fr f8 q8
  have hF8 := hF7.tr f8
  obtain ⟨τ9, e9, f9, q9⟩ := v_X8_easiest (σ0 := σ0) (w := 0) (by omega) τ8 hE8 hF8
  have hE9 := hE8.fr f9 q9
  have hF9 := hF8.tr f9
  obtain ⟨τ10, e10, f10, q10⟩ := v_X8_easiest (σ0 := σ0) (w := 1) (by omega) τ9 hE9 hF9
  have hE10 := hE9.fr f10 q10
  have hF10 := hF9.tr f10
  obtain ⟨τ11, e11, f11, q11⟩ := v_X8_flaw (σ0 := σ0) τ10 hE10 hF10
  have hE11 := hE10.fr f11 q11
  have hF11 := hF10.tr f11
  have e9' : f_X8_easiest 0 (0 : Int32) τ8 = some (ezV c nk o g tm pt ls fs 0, τ9) := e9
  have e10' : f_X8_easiest 0 (1 : Int32) τ9 = some (ezV c nk o g tm pt ls fs 1, τ10) := e10
  have e8' : fx (f_X8_digest_L132 0) FU (H5, (-2 : Int32), τ7) = bd (f_X8_easiest 0 (0 : Int32) τ8) fun r2 s1 => bd (f_X8_mixed (dg6 c nk o g tm pt ls fs H5) (r2.toInt64) s1) fun r4 s3 => bd (f_X8_easiest 0 (1 : Int32) s3) fun r6 s5 => bd (f_X8_mixed r4 (r6.toInt64) s5) fun r8 s7 => bd (f_X8_flaw 0 s7) fun r10 s9 => bd (f_X8_mixed r8 (r10.toInt64) s9) fun r12 s11 => bd (f_X8_mixedTablature 0 r12 s11) fun r14 s13 => fx (f_X8_digest_L194 0) FU (r14, (0 : Int32), s13) := e8
  generalize dg6 c nk o g tm pt ls fs H5 = H6 at e8' ⊢
  obtain ⟨τ12, e12, f12, q12⟩ := d_tabC (σ0 := σ0) (h := 31 * (31 * (31 * H6 + (ezV c nk o g tm pt ls fs 0).toInt64) + (ezV c nk o g tm pt ls fs 1).toInt64) + (flV c (g 0) t tb).toInt64) τ11 hE11 hF11
  have hE12 := hE11.fr f12 q12
  have hF12 := hF11.tr f12
  rw [e9', bd_eq, s_mixed, bd_eq, e10', bd_eq, s_mixed, bd_eq, e11, bd_eq, s_mixed, bd_eq, e12, bd_eq] at e8'
  obtain ⟨τ13, e13, f13, q13⟩ := mixL (σ0 := σ0) (B := f_X8_digest_L194 0) 4 nI (slG f dv) (fun h σ => some (h, σ)) (by omega) (fun s hs h σ hE hF rec => by
      have c45 : gI σ 45 s = bI (f s) := (hF.1 45 s (by unfold Sc; omega)).trans (hf s hs)
      by_cases q : f s = true
      · obtain ⟨τ, e, ff, qq⟩ := hdv s hs q σ hE hF
        refine ⟨τ, ?_, ff, qq⟩
        unfold f_X8_digest_L194 f_X8_digest_L219 slG
        dsimp only
        rw [if_neg (by rw [Int32.le_iff_toInt_le, nI_toInt (by omega), show (4 : Int32).toInt = 4 from rfl]; omega), rf_0_9 hE.1, aL_45, inb_nI (by omega), ck_d (by omega), nI_clamp (by omega), c45, q, if_neg (show ¬ bI true = (0 : Int32) by decide), e, bd_eq, s_mixed, bd_eq, lB_eq, nI_1, if_pos rfl]
      · have q' : f s = false := by rw [Bool.not_eq_true] at q; exact q
        refine ⟨σ, ?_, FrD.rf hE.1, hE.2.2.2.2.2.2.2.2.2⟩
        unfold f_X8_digest_L194 f_X8_digest_L219 slG
        dsimp only
        rw [if_neg (by rw [Int32.le_iff_toInt_le, nI_toInt (by omega), show (4 : Int32).toInt = 4 from rfl]; omega), rf_0_9 hE.1, aL_45, inb_nI (by omega), ck_d (by omega), nI_clamp (by omega), c45, q', if_pos (show bI false = (0 : Int32) by decide), lB_eq, nI_1, if_neg (show ¬ false = true by decide)]) (fun h σ hE hF rec => by
      unfold f_X8_digest_L194
      dsimp only
      rw [if_pos (by decide)]) (tbG c n nk o g tm pt ls fs d il (31 * (31 * (31 * H6 + (ezV c nk o g tm pt ls fs 0).toInt64) + (ezV c nk o g tm pt ls fs 1).toInt64) + (flV c (g 0) t tb).toInt64)) τ12 hE12 hF12
  unfold dg7
  refine ⟨τ13, ?_, (((((((((((f1.tr f2).tr f3).tr f4).tr f5).tr f6).tr f7).tr f8).tr f9).tr f10).tr f11).tr f12).tr f13, q13⟩
  exact (e1'.trans e5').trans (e8'.trans e13)
end
