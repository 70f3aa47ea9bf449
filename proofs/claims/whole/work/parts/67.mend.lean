/-! mend: the mathematics -/
section
variable {c n nk : Nat} {o g tm pt ls fs : Nat → Nat}
/-- of the good layings the one with the least key -/
def Bst (c nk : Nat) (o g tm pt ls fs d : Nat → Nat) : Prop := GoodTo c o g tm pt ls fs 0 99 nk d ∧ ∀ d', GoodTo c o g tm pt ls fs 0 99 nk d' → keyD o g tm pt ls fs 0 nk d ≤ keyD o g tm pt ls fs 0 nk d'
theorem pas_from {k b : Nat} {d e d' : Nat → Nat} (hC : Ch n tm nk fs) (hk : k < nk) (hG : GoodTo c o g tm pt ls fs 0 99 nk d) (ag : ∀ i, i < fs k → sndB tm ls fs k i = true → d i = e i) (h1 : ∀ i, sndB tm ls fs k i = true → d' i = e i) (h2 : ∀ j, k ≤ j → j < nk → Gd c o g tm pt ls fs 0 99 j d') : GoodTo c o g tm pt ls fs 0 99 nk (pas (fs k) d d') ∧ costTo o g tm pt ls fs 0 nk (pas (fs k) d d') = costTo o g tm pt ls fs 0 k d + (shK g (prevL o tm pt ls fs 0 d k) (lowK o tm pt ls fs 0 k e) + (ownK o g tm pt ls fs 0 k e + cF o g tm pt ls fs 0 d' (nk - 1 - k) (k + 1))) := by
  have hf := hC.2.2.1 k hk
  have eL : ∀ j, k ≤ j → j < nk → ∀ i, sndB tm ls fs j i = true → pas (fs k) d d' i = d' i := fun j a b i hs => by
    by_cases q : i < fs k
    · have s1 := hC.heldm (k := k) a b (show i < fs (k + 1) by omega) hs
      rw [pas_lt q, ag i q s1, h1 i s1]
    · exact pas_ge (by omega)
  have e1 : ∀ i, sndB tm ls fs k i = true → pas (fs k) d d' i = e i := fun i hs => by rw [eL k (by omega) hk i hs]; exact h1 i hs
  refine ⟨fun j hj => ?_, ?_⟩
  · by_cases q : j < k
    · have := hC.mono (a := j + 1) (b := k) (by omega) (by omega)
      exact (hG j hj).cg (fun i hs => (pas_lt (by have := snd_lt hs; omega)).symm)
    · exact (h2 j (by omega) hj).cg (fun i hs => (eL j (by omega) hj i hs).symm)
  · have h := cF_to (o := o) (g := g) (tm := tm) (pt := pt) (ls := ls) (fs := fs) (z := 0) (d := pas (fs k) d d') ((nk - 1 - k) + 1) k
    rw [show k + ((nk - 1 - k) + 1) = nk by omega] at h
    rw [h, costTo_cg hC (d' := d) (by omega) (fun i hi => pas_lt hi)]
    show _ + ((ownK o g tm pt ls fs 0 k (pas (fs k) d d') + shK g (prevL o tm pt ls fs 0 (pas (fs k) d d') k) (lowK o tm pt ls fs 0 k (pas (fs k) d d'))) + cF o g tm pt ls fs 0 (pas (fs k) d d') (nk - 1 - k) (k + 1)) = _
    rw [ownK_cg e1, lowK_cg e1, prevL_cg (d := pas (fs k) d d') (d' := d) (fun i hs => pas_lt (sP_lt hs)), cF_cg (d := pas (fs k) d d') (d' := d') (nk - 1 - k) k (fun j a b i hs => eL j a (by omega) i hs)]
    omega
theorem key_cost {d d' : Nat → Nat} (b1 : Bl c o g) (b2 : Bn n tm pt ls) (hC : Ch n tm nk fs) (h : Bst c nk o g tm pt ls fs d) (hd' : GoodTo c o g tm pt ls fs 0 99 nk d') : costTo o g tm pt ls fs 0 nk d ≤ costTo o g tm pt ls fs 0 nk d' := by
  have h5 := Nat.div_le_div_right (c := 2 ^ 42) (h.2 d' hd')
  rw [key_top b1 b2 hC (by omega) h.1, key_top b1 b2 hC (by omega) hd'] at h5
  exact h5
theorem bits_lex {d d' : Nat → Nat} {p : Nat} (hn : n ≤ 14) (hp : p < n) (h5 : ∀ i, i < n → d i < 8 ∧ d' i < 8) (he : ∀ i, i < p → d i = d' i) (hl : d p < d' p) : bitsD d n < bitsD d' n := by
  rw [bitsD_dg hn, bitsD_dg hn]
  refine hg_lex (p := p) (by omega) (fun i _ => ⟨dg_lt (fun i hi _ => (h5 i hi).1) i, dg_lt (fun i hi _ => (h5 i hi).2) i⟩) (fun i hi => ?_) ?_
  · rw [dg_t (S := allB) (by omega) rfl, dg_t (S := allB) (by omega) rfl]; exact he i hi
  · rw [dg_t (S := allB) hp rfl, dg_t (S := allB) hp rfl]; exact hl
/-- the first of the cheapest ways is the best laying's -/
theorem mend_pick {k m b0 : Nat} {d : Nat → Nat} {D : Nat → Nat → Nat} {R : Nat → Nat} {bv : Nat → Nat} (b1 : Bl c o g) (b2 : Bn n tm pt ls) (hC : Ch n tm nk fs) (hk : k < nk) (hd : Bst c nk o g tm pt ls fs d) (hD : RWP c o g tm pt ls fs 0 99 k m D) (hR : ∀ b, b < m → RsP c o g tm pt ls fs 0 99 nk k (D b) (R b)) (hbv : ∀ b, b < m → ((bv b = R b + shK g (prevL o tm pt ls fs 0 d k) (lowK o tm pt ls fs 0 k (D b)) ∧ ∀ i, i < fs k → sndB tm ls fs k i = true → d i = D b i) ∨ (bv b = 1000000 ∧ ¬ ∀ i, i < fs k → sndB tm ls fs k i = true → d i = D b i))) (h0 : b0 < m) (hmin : ∀ b, b < m → bv b0 ≤ bv b) (hfst : ∀ b, b < b0 → bv b0 < bv b) : ∀ i, sndB tm ls fs k i = true → D b0 i = d i := by
  have hn := b2.1
  have hc5 := b1.2.1
  have hnk := hC.nk_le
  have hf := hC.2.2.1 k hk
  have hM := hC.le (k := k + 1) (by omega)
  have hfn : fs nk = n := hC.2.1
  obtain ⟨b', hb', hl⟩ := hD.2.1 d (hd.1 k hk)
  -- the best laying's own way
  have cs : Cmp c o g tm pt ls fs 0 99 nk k (D b') (ownK o g tm pt ls fs 0 k (D b') + cF o g tm pt ls fs 0 d (nk - 1 - k) (k + 1)) := ⟨d, fun i hs => (hl i hs).symm, fun j _ hj => hd.1 j hj, rfl⟩
  have csb := cs.bd b1 b2 hC hk
  have tot := (pas_from (b := 0) hC hk hd.1 (e := D b') (d' := d) (fun i _ hs => (hl i hs).symm) (fun i hs => (hl i hs).symm) (fun j _ hj => hd.1 j hj)).2
  have ep : costTo o g tm pt ls fs 0 nk (pas (fs k) d d) = costTo o g tm pt ls fs 0 nk d := costTo_cg hC (Nat.le_refl _) (fun i _ => by unfold pas; split <;> rfl)
  rw [ep] at tot
  have r' : R b' ≤ ownK o g tm pt ls fs 0 k (D b') + cF o g tm pt ls fs 0 d (nk - 1 - k) (k + 1) := by
    rcases hR b' hb' with ⟨_, q⟩ | ⟨_, _, q⟩
    · exact absurd cs (q _)
    · exact q _ cs
  have v' : bv b' = R b' + shK g (prevL o tm pt ls fs 0 d k) (lowK o tm pt ls fs 0 k (D b')) := by
    rcases hbv b' hb' with ⟨q, _⟩ | ⟨_, q⟩
    · exact q
    · exact absurd (fun i _ hs => (hl i hs).symm) q
  have sh' : shK g (prevL o tm pt ls fs 0 d k) (lowK o tm pt ls fs 0 k (D b')) ≤ 81 := by
    refine shG b1 ?_ (lowG b1 (hD.1 b' hb'))
    cases k with
    | zero => exact ⟨Int.le_refl _, by show (0 : Int) ≤ 9; omega⟩
    | succ j => exact lowG b1 (hd.1 j (by omega))
  have hb0 := hmin b' hb'
  -- the way that was picked
  rcases hbv b0 h0 with ⟨q1, q2⟩ | ⟨q1, _⟩
  · rcases hR b0 h0 with ⟨q3, _⟩ | ⟨_, ⟨d', y1, y2, y3⟩, _⟩
    · omega
    · obtain ⟨t1, t2⟩ := pas_from (b := 0) hC hk hd.1 (e := D b0) q2 y1 y2
      rw [← y3] at t2
      have km := key_cost b1 b2 hC hd t1
      have eqc : costTo o g tm pt ls fs 0 nk (pas (fs k) d d') = costTo o g tm pt ls fs 0 nk d := by omega
      have bve : bv b0 = bv b' := by omega
      have hle : ¬ b' < b0 := fun y => by have := hfst b' y; omega
      by_cases hlt : b0 < b'
      · exfalso
        obtain ⟨p, p1, p2, p3⟩ := hD.2.2 b0 b' hlt hb'
        have hp := snd_lt p1
        have hpk : fs k ≤ p := by
          by_cases y : fs k ≤ p
          · exact y
          · have a1 := q2 p (by omega) p1
            have a2 := hl p p1
            omega
        have hsame : ∀ i, i < p → pas (fs k) d d' i = d i := fun i hi => by
          by_cases y : i < fs k
          · exact pas_lt y
          · have s1 := snd_new (tm := tm) (ls := ls) (show fs k ≤ i by omega) (show i < fs (k + 1) by omega)
            rw [pas_ge (by omega), y1 i s1, p3 i hi s1, hl i s1]
        have hless : pas (fs k) d d' p < d p := by
          rw [pas_ge hpk, y1 p p1, ← hl p p1]; exact p2
        have h8 : ∀ i, i < n → pas (fs k) d d' i < 8 ∧ d i < 8 := fun i hi => by
          have a1 := t1.lt hC (Nat.le_refl _) (show i < fs nk by omega)
          have a2 := hd.1.lt hC (Nat.le_refl _) (show i < fs nk by omega)
          omega
        have hbit := bits_lex hn (show p < n by omega) h8 hsame hless
        have hkey := hd.2 _ t1
        unfold keyD at hkey
        rw [eqc, hfn] at hkey
        have := Nat.le_of_add_le_add_left hkey
        omega
      · have e : b0 = b' := by omega
        rw [e]; exact hl
  · omega
end
