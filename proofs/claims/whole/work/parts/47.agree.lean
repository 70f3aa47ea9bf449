/-! layings that are alike on what sounds -/
theorem any_cg {p q : Nat → Bool} : ∀ {m : Nat}, (∀ i, i < m → p i = q i) → (List.range m).any p = (List.range m).any q
  | 0, _ => rfl
  | m + 1, e => by rw [any_suc, any_suc, any_cg (fun i hi => e i (by omega)), e m (by omega)]
theorem and_cg {a b c : Bool} (h : a = true → b = c) : (a && b) = (a && c) := by
  cases a with
  | false => rfl
  | true => rw [h rfl]
theorem lowF_cg {S : Nat → Bool} {F F' : Nat → Int} : ∀ {m : Nat}, (∀ i, i < m → S i = true → F i = F' i) → lowF S F m = lowF S F' m
  | 0, _ => rfl
  | m + 1, e => by
    have ih := lowF_cg (S := S) (F := F) (F' := F') (m := m) (fun i hi => e i (by omega))
    show (if S m = true ∧ 0 < F m ∧ (lowF S F m = 0 ∨ F m < lowF S F m) then F m else lowF S F m) = (if S m = true ∧ 0 < F' m ∧ (lowF S F' m = 0 ∨ F' m < lowF S F' m) then F' m else lowF S F' m)
    rw [ih]
    by_cases hs : S m = true
    · rw [e m (by omega) hs]
    · rw [if_neg (fun h => hs h.1), if_neg (fun h => hs h.1)]
section
variable {S : Nat → Bool} {F F' : Nat → Int} {d d' : Nat → Nat} {m : Nat}
theorem posC_cg (hF : ∀ i, i < m → S i = true → F i = F' i) : posC S F m = posC S F' m := cntB_cg (fun i hi => and_cg (fun hs => by rw [hF i hi hs]))
theorem atlC_cg (hF : ∀ i, i < m → S i = true → F i = F' i) : atlC S F m = atlC S F' m := by
  unfold atlC
  rw [lowF_cg hF]
  exact cntB_cg (fun i hi => and_cg (fun hs => by rw [hF i hi hs]))
theorem prsC_cg {b : Nat} (hF : ∀ i, i < m → S i = true → F i = F' i) : prsC S F b m = prsC S F' b m := by
  unfold prsC
  refine cntB_cg (fun i hi => ?_)
  by_cases hs : S i = true
  · rw [hF i hi hs]
  · rw [Bool.not_eq_true] at hs; rw [hs, Bool.and_false, Bool.false_and, Bool.false_and]
theorem twB_cg (hd : ∀ i, i < m → S i = true → d i = d' i) : twB S d m = twB S d' m := by
  unfold twB
  refine any_cg (fun i hi => and_cg (fun hs => any_cg (fun j hj => and_cg (fun ht => ?_))))
  rw [hd i hi hs, hd j (by omega) ht]
theorem wdB_cg {L : Int} (hF : ∀ i, i < m → S i = true → F i = F' i) : wdB S F L m = wdB S F' L m := by
  unfold wdB
  exact any_cg (fun i hi => and_cg (fun hs => by rw [hF i hi hs]))
theorem nutB_cg {L : Int} (hF : ∀ i, i < m → S i = true → F i = F' i) (hd : ∀ i, i < m → S i = true → d i = d' i) : nutB S F d L m = nutB S F' d' L m := by
  unfold nutB
  refine any_cg (fun i hi => ?_)
  by_cases hs : S i = true
  · rw [hF i hi hs, hd i hi hs]
    congr 1
    · congr 1
      refine any_cg (fun a ha => ?_)
      by_cases ht : S a = true
      · rw [hF a ha ht, hd a ha ht]
      · rw [Bool.not_eq_true] at ht; rw [ht, Bool.false_and, Bool.false_and, Bool.false_and, Bool.false_and]
    · refine any_cg (fun a ha => ?_)
      by_cases ht : S a = true
      · rw [hF a ha ht, hd a ha ht]
      · rw [Bool.not_eq_true] at ht; rw [ht, Bool.false_and, Bool.false_and, Bool.false_and, Bool.false_and]
  · rw [Bool.not_eq_true] at hs; simp only [hs, Bool.false_and]
theorem barB_cg (hF : ∀ i, i < m → S i = true → F i = F' i) (hd : ∀ i, i < m → S i = true → d i = d' i) : barB S F d m = barB S F' d' m := by
  unfold barB
  rw [atlC_cg hF, lowF_cg hF, nutB_cg hF hd]
theorem finC_cg (hF : ∀ i, i < m → S i = true → F i = F' i) (hd : ∀ i, i < m → S i = true → d i = d' i) : finC S F d m = finC S F' d' m := by
  unfold finC
  rw [posC_cg hF, barB_cg hF hd, atlC_cg hF]
/-- as many courses are used as notes sound, if no two are on one -/
theorem cnt_or1 {P : Nat → Bool} {a : Nat} : ∀ {c : Nat}, P a = false → cntB (fun j => P j || decide (a = j)) c = cntB P c + if a < c then 1 else 0
  | 0, _ => by rw [if_neg (by omega)]; rfl
  | c + 1, h => by
    have ih := cnt_or1 (P := P) (a := a) (c := c) h
    show cntB (fun j => P j || decide (a = j)) c + (if (P c || decide (a = c)) = true then 1 else 0) = cntB P c + (if P c = true then 1 else 0) + _
    rw [ih]
    by_cases e : a = c
    · subst e
      rw [h, if_neg (Nat.lt_irrefl _), if_pos (show a < a + 1 by omega), decide_eq_true rfl]; rfl
    · rw [decide_eq_false e, Bool.or_false]
      by_cases q : a < c
      · rw [if_pos q, if_pos (show a < c + 1 by omega)]; omega
      · rw [if_neg q, if_neg (show ¬ a < c + 1 by omega)]; omega
theorem anyB_iff {P : Nat → Bool} {c : Nat} : anyB P d c m = true ↔ ∃ i, i < m ∧ P i = true ∧ d i = c := by
  unfold anyB
  rw [any_iff]
  constructor
  · rintro ⟨i, h1, h2⟩
    rw [Bool.and_eq_true] at h2
    exact ⟨i, h1, h2.1, of_decide_eq_true h2.2⟩
  · rintro ⟨i, h1, h2, h3⟩
    exact ⟨i, h1, by rw [h2, decide_eq_true h3]; rfl⟩
theorem anyB_cg {c : Nat} (hd : ∀ i, i < m → S i = true → d i = d' i) : anyB S d c m = anyB S d' c m := by
  unfold anyB
  exact any_cg (fun i hi => and_cg (fun hs => by rw [hd i hi hs]))
end
theorem used_cnt {S : Nat → Bool} {d : Nat → Nat} {c : Nat} : ∀ {m : Nat}, twB S d m = false → (∀ i, i < m → S i = true → d i < c) → cntB (fun j => anyB S d j m) c = cntB S m
  | 0, _, _ => by
    have : ∀ c, cntB (fun j => anyB S d j 0) c = 0 := by
      intro c
      induction c with
      | zero => rfl
      | succ c ih => rw [cntB_f (by show ¬ false = true; decide), ih]
    exact this c
  | m + 1, h, hd => by
    rw [twB_suc, Bool.or_eq_false_iff] at h
    have ih := used_cnt (c := c) h.1 (fun i hi => hd i (by omega))
    by_cases hs : S m = true
    · have h2 : anyB S d (d m) m = false := by have := h.2; rw [hs, Bool.true_and] at this; exact this
      rw [cntB_t hs, cntB_cg (Q := fun j => anyB S d j m || decide (d m = j)) (fun j _ => by rw [anyB_suc, hs, Bool.true_and])]
      rw [cnt_or1 (P := fun j => anyB S d j m) h2, ih, if_pos (hd m (by omega) hs)]
    · rw [cntB_f hs, ← ih]
      rw [Bool.not_eq_true] at hs
      exact cntB_cg (fun j _ => by rw [anyB_suc, hs, Bool.false_and, Bool.or_false])
theorem cnt_not {P : Nat → Bool} : ∀ c, cntB (fun j => !P j) c + cntB P c = c
  | 0 => rfl
  | c + 1 => by
    have ih := cnt_not (P := P) c
    cases q : P c with
    | true => rw [cntB_t q, cntB_f (P := fun j => !P j) (by rw [q]; decide)]; omega
    | false => rw [cntB_f (P := P) (by rw [q]; decide), cntB_t (P := fun j => !P j) (by rw [q]; rfl)]; omega
section
variable {c n nk : Nat} {o g tm pt ls fs : Nat → Nat} {z : Int} {ban : Nat} {d d' : Nat → Nat}
theorem fret_cg {i : Nat} (h : d i = d' i) : fret o pt z d i = fret o pt z d' i := by unfold fret; rw [h]
theorem lowK_cg {k : Nat} (h : ∀ i, sndB tm ls fs k i = true → d i = d' i) : lowK o tm pt ls fs z k d = lowK o tm pt ls fs z k d' := lowF_cg (fun i _ hs => fret_cg (h i hs))
theorem barK_cg {k : Nat} (h : ∀ i, sndB tm ls fs k i = true → d i = d' i) : barK o tm pt ls fs z k d = barK o tm pt ls fs z k d' := barB_cg (fun i _ hs => fret_cg (h i hs)) (fun i _ hs => h i hs)
theorem finK_cg {k : Nat} (h : ∀ i, sndB tm ls fs k i = true → d i = d' i) : finK o tm pt ls fs z k d = finK o tm pt ls fs z k d' := finC_cg (fun i _ hs => fret_cg (h i hs)) (fun i _ hs => h i hs)
theorem ownK_cg {k : Nat} (h : ∀ i, sndB tm ls fs k i = true → d i = d' i) : ownK o g tm pt ls fs z k d = ownK o g tm pt ls fs z k d' := by
  unfold ownK
  rw [barK_cg h, prsC_cg (F' := fret o pt z d') (fun i _ hs => fret_cg (h i hs))]
theorem Gd.cg {k : Nat} (h : ∀ i, sndB tm ls fs k i = true → d i = d' i) (q : Gd c o g tm pt ls fs z ban k d) : Gd c o g tm pt ls fs z ban k d' := by
  obtain ⟨q1, q2, q3, q4⟩ := q
  refine ⟨fun i hs => ?_, ?_, ?_, ?_⟩
  · rw [← h i hs, ← fret_cg (o := o) (pt := pt) (z := z) (h i hs)]; exact q1 i hs
  · rw [← twB_cg (fun i _ hs => h i hs)]; exact q2
  · rw [← finK_cg h]; exact q3
  · rw [← lowK_cg h, ← wdB_cg (fun i _ hs => fret_cg (h i hs))]; exact q4
theorem snd_lt {k i : Nat} (h : sndB tm ls fs k i = true) : i < fs (k + 1) := (of_decide_eq_true h).1
theorem snd_new {k i : Nat} (h1 : fs k ≤ i) (h2 : i < fs (k + 1)) : sndB tm ls fs k i = true := decide_eq_true ⟨h2, Or.inl h1⟩
theorem Ch.held {k i : Nat} (hC : Ch n tm nk fs) (hk : k + 1 < nk) (hi : i < fs (k + 1)) (hs : sndB tm ls fs (k + 1) i = true) : sndB tm ls fs k i = true := by
  have h1 := (of_decide_eq_true hs).2
  have h2 := hC.2.2.2.2 k hk
  exact decide_eq_true ⟨hi, Or.inr (by omega)⟩
theorem GoodTo.cg {k : Nat} (hC : Ch n tm nk fs) (hk : k ≤ nk) (h : ∀ i, i < fs k → d i = d' i) (q : GoodTo c o g tm pt ls fs z ban k d) : GoodTo c o g tm pt ls fs z ban k d' := fun j hj => (q j hj).cg (fun i hs => h i (Nat.lt_of_lt_of_le (snd_lt hs) (hC.mono (by omega) hk)))
theorem costTo_cg (hC : Ch n tm nk fs) : ∀ {k : Nat}, k ≤ nk → (∀ i, i < fs k → d i = d' i) → costTo o g tm pt ls fs z k d = costTo o g tm pt ls fs z k d'
  | 0, _, _ => rfl
  | k + 1, hk, h => by
    have hm := hC.2.2.1 k (by omega)
    have e1 : ∀ i, sndB tm ls fs k i = true → d i = d' i := fun i hs => h i (snd_lt hs)
    rw [cost_eq, cost_eq, costTo_cg hC (k := k) (by omega) (fun i hi => h i (by omega)), ownK_cg e1, lowK_cg e1]
    congr 2
    cases k with
    | zero => rfl
    | succ j =>
      show shK g (lowK o tm pt ls fs z j d) _ = shK g (lowK o tm pt ls fs z j d') _
      rw [lowK_cg (d' := d') (fun i hs => h i (by have := snd_lt hs; omega))]
theorem GoodTo.lt {k : Nat} (hC : Ch n tm nk fs) (hk : k ≤ nk) (q : GoodTo c o g tm pt ls fs z ban k d) {i : Nat} (hi : i < fs k) : d i < c := by
  have hn := hC.le hk
  obtain ⟨j, hj, j1, j2⟩ := hC.find (i := i) (by omega)
  have hjk : j < k := by
    by_cases e : j < k
    · exact e
    · have := hC.mono (a := k) (b := j) (by omega) (by omega); omega
  exact ((q j hjk).1 i (snd_new j1 j2)).1
theorem GoodTo.suc {k : Nat} (q : GoodTo c o g tm pt ls fs z ban k d) (h : Gd c o g tm pt ls fs z ban k d) : GoodTo c o g tm pt ls fs z ban (k + 1) d := fun j hj => by
  by_cases e : j = k
  · rw [e]; exact h
  · exact q j (by omega)
theorem GoodTo.pre {k : Nat} (q : GoodTo c o g tm pt ls fs z ban (k + 1) d) : GoodTo c o g tm pt ls fs z ban k d := fun j hj => q j (by omega)
/-- d up to p, then d' -/
def pas (p : Nat) (d d' : Nat → Nat) (i : Nat) : Nat := if i < p then d i else d' i
theorem pas_lt {p i : Nat} (h : i < p) : pas p d d' i = d i := if_pos h
theorem pas_ge {p i : Nat} (h : p ≤ i) : pas p d d' i = d' i := if_neg (by omega)
theorem bitsD_dif {a : Nat} : ∀ {b : Nat}, a ≤ b → (∀ i, a ≤ i → i < b → d i = d' i) → bitsD d b + bitsD d' a = bitsD d' b + bitsD d a
  | 0, h, _ => by rw [show a = 0 by omega]; omega
  | b + 1, h, e => by
    by_cases q : a = b + 1
    · rw [q]; omega
    · have ih := bitsD_dif (a := a) (b := b) (by omega) (fun i x y => e i x (by omega))
      show bitsD d b + d b * 8 ^ (13 - b) + _ = bitsD d' b + d' b * 8 ^ (13 - b) + _
      rw [e b (by omega) (by omega)]; omega
theorem bitsD_cg : ∀ {b : Nat}, (∀ i, i < b → d i = d' i) → bitsD d b = bitsD d' b
  | 0, _ => rfl
  | b + 1, e => by
    show bitsD d b + d b * 8 ^ (13 - b) = bitsD d' b + d' b * 8 ^ (13 - b)
    rw [bitsD_cg (fun i hi => e i (by omega)), e b (by omega)]
theorem prs_le {S : Nat → Bool} {F : Nat → Int} {b m : Nat} : prsC S F b m ≤ m := cntB_le _ _
theorem step_bd {k : Nat} (b1 : Bl c o g) (b2 : Bn n tm pt ls) (hC : Ch n tm nk fs) (hk : k < nk) (hz : -12 ≤ z ∧ z ≤ 12) (hd : ∀ i, i < fs (k + 1) → d i < 5) : ownK o g tm pt ls fs z k d ≤ 135 ∧ shK g (prevL o tm pt ls fs z d k) (lowK o tm pt ls fs z k d) ≤ 738 := by
  have hn := b2.1
  have hM := hC.le (k := k + 1) (by omega)
  let e : Nat → Nat := fun i => if i < fs (k + 1) then d i else 0
  have he5 : ∀ i, i < n → e i < 5 := fun i _ => by
    show (if i < fs (k + 1) then d i else 0) < 5
    split
    · rename_i q; exact hd i q
    · omega
  have ed : ∀ i, i < fs (k + 1) → d i = e i := fun i hi => (if_pos hi).symm
  have l1 := lowK_bd (d := e) b1 b2 hC hk hz he5
  rw [← lowK_cg (d := d) (fun i hs => ed i (snd_lt hs))] at l1
  have l2 := prevL_bd (d := e) b1 b2 hC hk hz he5
  have ep : prevL o tm pt ls fs z e k = prevL o tm pt ls fs z d k := by
    cases k with
    | zero => rfl
    | succ j =>
      have := hC.2.2.1 (j + 1) hk
      exact (lowK_cg (fun i hs => ed i (by have := snd_lt hs; omega))).symm
  rw [ep] at l2
  have g2 := b1.2.2.2.2.2.2.1
  have g3 := b1.2.2.2.2.2.2.2.1
  have g4 := b1.2.2.2.2.2.2.2.2
  have hp := prs_le (S := sndB tm ls fs k) (F := fret o pt z d) (b := fs k) (m := fs (k + 1))
  constructor
  · unfold ownK
    have h1 : g 3 * prsC (sndB tm ls fs k) (fret o pt z d) (fs k) (fs (k + 1)) ≤ 9 * 14 := Nat.mul_le_mul g3 (by omega)
    split <;> omega
  · unfold shK
    split
    · have h1 : g 2 * (lowK o tm pt ls fs z k d - prevL o tm pt ls fs z d k).natAbs ≤ 9 * 82 := Nat.mul_le_mul g2 (by omega)
      omega
    · omega
theorem cost_bd (b1 : Bl c o g) (b2 : Bn n tm pt ls) (hC : Ch n tm nk fs) (hz : -12 ≤ z ∧ z ≤ 12) : ∀ {k : Nat}, k ≤ nk → (∀ i, i < fs k → d i < 5) → costTo o g tm pt ls fs z k d ≤ 873 * k
  | 0, _, _ => Nat.le_refl _
  | k + 1, hk, hd => by
    have hm := hC.2.2.1 k (by omega)
    have ih := cost_bd b1 b2 hC hz (k := k) (by omega) (fun i hi => hd i (by omega))
    have hs := step_bd b1 b2 hC (show k < nk by omega) hz hd
    rw [cost_eq]; omega
/-- what sounds at the chord ahead -/
def sP (tm ls fs : Nat → Nat) : Nat → Nat → Bool
  | 0, _ => false
  | j + 1, i => sndB tm ls fs j i
theorem prevL_cg {k : Nat} (h : ∀ i, sP tm ls fs k i = true → d i = d' i) : prevL o tm pt ls fs z d k = prevL o tm pt ls fs z d' k := by
  cases k with
  | zero => rfl
  | succ j => exact lowK_cg h
theorem Ch.hsP {k i : Nat} (hC : Ch n tm nk fs) (hk : k < nk) (hi : i < fs k) (hs : sndB tm ls fs k i = true) : sP tm ls fs k i = true := by
  cases k with
  | zero => rw [hC.1] at hi; omega
  | succ j => exact hC.held hk hi hs
end
