/-! what is left from a chord on: the mathematics -/
section
variable {c n nk : Nat} {o g tm pt ls fs : Nat → Nat} {z : Int} {ban : Nat}
/-- the cost of r chords from k on -/
def cF (o g tm pt ls fs : Nat → Nat) (z : Int) (d : Nat → Nat) : Nat → Nat → Nat
  | 0, _ => 0
  | r + 1, k => (ownK o g tm pt ls fs z k d + shK g (prevL o tm pt ls fs z d k) (lowK o tm pt ls fs z k d)) + cF o g tm pt ls fs z d r (k + 1)
theorem cF_to {d : Nat → Nat} : ∀ (r k : Nat), costTo o g tm pt ls fs z (k + r) d = costTo o g tm pt ls fs z k d + cF o g tm pt ls fs z d r k
  | 0, k => rfl
  | r + 1, k => by
    rw [show k + (r + 1) = (k + 1) + r by omega, cF_to r (k + 1), cost_eq]
    show _ = _ + (_ + _)
    omega
theorem lowG {k : Nat} {d : Nat → Nat} (b1 : Bl c o g) (q : Gd c o g tm pt ls fs z ban k d) : 0 ≤ lowK o tm pt ls fs z k d ∧ lowK o tm pt ls fs z k d ≤ 9 := by
  have g0 := b1.2.2.2.2.1
  refine ⟨lowF_nn _, ?_⟩
  by_cases h : 0 < lowK o tm pt ls fs z k d
  · obtain ⟨i, _, h2, h3⟩ := lowF_at h
    have h4 := (q.1 i h2).2.2.2
    rw [h3] at h4
    have h5 : lowK o tm pt ls fs z k d ≤ (g 0 : Int) := h4
    omega
  · omega
theorem ownG {k : Nat} {d : Nat → Nat} (b1 : Bl c o g) (hn : fs (k + 1) ≤ 14) : ownK o g tm pt ls fs z k d ≤ 135 := by
  have g3 := b1.2.2.2.2.2.2.2.1
  have g4 := b1.2.2.2.2.2.2.2.2
  have hp := prs_le (S := sndB tm ls fs k) (F := fret o pt z d) (b := fs k) (m := fs (k + 1))
  unfold ownK
  have h1 : g 3 * prsC (sndB tm ls fs k) (fret o pt z d) (fs k) (fs (k + 1)) ≤ 9 * 14 := Nat.mul_le_mul g3 (by omega)
  split <;> omega
theorem shG {a b : Int} (b1 : Bl c o g) (ha : 0 ≤ a ∧ a ≤ 9) (hb : 0 ≤ b ∧ b ≤ 9) : shK g a b ≤ 81 := by
  have g2 := b1.2.2.2.2.2.2.1
  unfold shK
  split
  · have h1 : g 2 * (b - a).natAbs ≤ 9 * 9 := Nat.mul_le_mul g2 (by omega)
    omega
  · omega
/-- v is the cost, from chord k on, of a laying that is good there and lies as e at k -/
def Cmp (c : Nat) (o g tm pt ls fs : Nat → Nat) (z : Int) (ban nk k : Nat) (e : Nat → Nat) (v : Nat) : Prop := ∃ d, (∀ i, sndB tm ls fs k i = true → d i = e i) ∧ (∀ j, k ≤ j → j < nk → Gd c o g tm pt ls fs z ban j d) ∧ v = ownK o g tm pt ls fs z k e + cF o g tm pt ls fs z d (nk - 1 - k) (k + 1)
def RsP (c : Nat) (o g tm pt ls fs : Nat → Nat) (z : Int) (ban nk k : Nat) (e : Nat → Nat) (v : Nat) : Prop := (v = 1000000 ∧ ∀ w, ¬ Cmp c o g tm pt ls fs z ban nk k e w) ∨ (v < 1000000 ∧ Cmp c o g tm pt ls fs z ban nk k e v ∧ ∀ w, Cmp c o g tm pt ls fs z ban nk k e w → v ≤ w)
theorem cF_bd {d : Nat → Nat} (b1 : Bl c o g) (b2 : Bn n tm pt ls) (hC : Ch n tm nk fs) : ∀ (r k : Nat), k + r < nk → (∀ j, k ≤ j → j < nk → Gd c o g tm pt ls fs z ban j d) → cF o g tm pt ls fs z d r (k + 1) ≤ 216 * r
  | 0, k, _, _ => Nat.le_refl _
  | r + 1, k, h, hG => by
    have hn := b2.1
    have ih := cF_bd b1 b2 hC r (k + 1) (by omega) (fun j a b => hG j (by omega) b)
    have hM := hC.le (k := k + 1 + 1) (by omega)
    have h1 := ownG (z := z) (d := d) (tm := tm) (pt := pt) (ls := ls) (k := k + 1) b1 (show fs (k + 1 + 1) ≤ 14 by omega)
    have h2 := shG b1 (lowG b1 (hG k (by omega) (by omega))) (lowG b1 (hG (k + 1) (by omega) (by omega)))
    show (_ + shK g (lowK o tm pt ls fs z k d) _) + _ ≤ _
    omega
theorem Cmp.bd {k : Nat} {e : Nat → Nat} {v : Nat} (b1 : Bl c o g) (b2 : Bn n tm pt ls) (hC : Ch n tm nk fs) (hk : k < nk) (h : Cmp c o g tm pt ls fs z ban nk k e v) : v ≤ 135 + 216 * (nk - 1 - k) := by
  obtain ⟨d, h1, h2, h3⟩ := h
  have hn := b2.1
  have hM := hC.le (k := k + 1) (by omega)
  have h4 := cF_bd b1 b2 hC (nk - 1 - k) k (by omega) h2
  have h5 := ownG (z := z) (d := e) (tm := tm) (pt := pt) (ls := ls) (k := k) b1 (show fs (k + 1) ≤ 14 by omega)
  omega
/-- one that sounds at a later chord has sounded since it began -/
theorem Ch.heldm {k j i : Nat} (hC : Ch n tm nk fs) (hkj : k ≤ j) (hj : j < nk) (hi : i < fs (k + 1)) (hs : sndB tm ls fs j i = true) : sndB tm ls fs k i = true := by
  by_cases e : k = j
  · rw [e]; exact hs
  · have h1 := (of_decide_eq_true hs).2
    have h2 := hC.tlt (a := k) (b := j) (by omega) hj
    have h3 := hC.mono (a := k + 1) (b := j) (by omega) (by omega)
    exact decide_eq_true ⟨hi, Or.inr (by omega)⟩
theorem cF_cg {d d' : Nat → Nat} : ∀ (r k : Nat), (∀ j, k ≤ j → j < k + r + 1 → ∀ i, sndB tm ls fs j i = true → d i = d' i) → cF o g tm pt ls fs z d r (k + 1) = cF o g tm pt ls fs z d' r (k + 1)
  | 0, k, _ => rfl
  | r + 1, k, h => by
    show (ownK o g tm pt ls fs z (k + 1) d + shK g (lowK o tm pt ls fs z k d) (lowK o tm pt ls fs z (k + 1) d)) + cF o g tm pt ls fs z d r (k + 1 + 1) = (ownK o g tm pt ls fs z (k + 1) d' + shK g (lowK o tm pt ls fs z k d') (lowK o tm pt ls fs z (k + 1) d')) + cF o g tm pt ls fs z d' r (k + 1 + 1)
    rw [cF_cg r (k + 1) (fun j a b => h j (by omega) (by omega)), ownK_cg (h (k + 1) (by omega) (by omega)), lowK_cg (h (k + 1) (by omega) (by omega)), lowK_cg (h k (by omega) (by omega))]
theorem Cmp.ext {k : Nat} {e e' : Nat → Nat} {v : Nat} (hC : Ch n tm nk fs) (hk : k + 1 < nk) (hG : Gd c o g tm pt ls fs z ban k e) (ag : ∀ x, x < n → sndB tm ls fs k x = true → sndB tm ls fs (k + 1) x = true → e x = e' x) (h : Cmp c o g tm pt ls fs z ban nk (k + 1) e' v) : Cmp c o g tm pt ls fs z ban nk k e (ownK o g tm pt ls fs z k e + (shK g (lowK o tm pt ls fs z k e) (lowK o tm pt ls fs z (k + 1) e') + v)) := by
  obtain ⟨d, h1, h2, h3⟩ := h
  have hM := hC.le (k := k + 1) (by omega)
  have eS : ∀ i, sndB tm ls fs k i = true → pas (fs (k + 1)) e d i = e i := fun i hs => pas_lt (snd_lt hs)
  have eL : ∀ j, k + 1 ≤ j → j < nk → ∀ i, sndB tm ls fs j i = true → pas (fs (k + 1)) e d i = d i := fun j a b i hs => by
    by_cases q : i < fs (k + 1)
    · have q2 := hC.2.2.1 (k + 1) hk
      have s1 := hC.heldm (k := k) (by omega) b q hs
      have s2 := hC.heldm (k := k + 1) a b (show i < fs (k + 1 + 1) by omega) hs
      rw [pas_lt q, ag i (by omega) s1 s2, h1 i s2]
    · exact pas_ge (by omega)
  have e1 : ∀ i, sndB tm ls fs (k + 1) i = true → pas (fs (k + 1)) e d i = e' i := fun i hs => by rw [eL (k + 1) (by omega) hk i hs]; exact h1 i hs
  refine ⟨pas (fs (k + 1)) e d, eS, fun j a b => ?_, ?_⟩
  · by_cases q : j = k
    · rw [q]; exact hG.cg (fun i hs => (eS i hs).symm)
    · exact (h2 j (by omega) b).cg (fun i hs => (eL j (by omega) b i hs).symm)
  · rw [show nk - 1 - k = (nk - 1 - (k + 1)) + 1 by omega, h3]
    show _ = _ + ((ownK o g tm pt ls fs z (k + 1) (pas (fs (k + 1)) e d) + shK g (lowK o tm pt ls fs z k (pas (fs (k + 1)) e d)) (lowK o tm pt ls fs z (k + 1) (pas (fs (k + 1)) e d))) + cF o g tm pt ls fs z (pas (fs (k + 1)) e d) (nk - 1 - (k + 1)) (k + 1 + 1))
    rw [ownK_cg e1, lowK_cg e1, lowK_cg eS, cF_cg (d := pas (fs (k + 1)) e d) (d' := d) (nk - 1 - (k + 1)) (k + 1) (fun j a b i hs => eL j a (by omega) i hs)]
    omega
theorem Cmp.cut {k : Nat} {e e' d : Nat → Nat} (hk : k + 1 < nk) (h1 : ∀ i, sndB tm ls fs k i = true → d i = e i) (h2 : ∀ j, k ≤ j → j < nk → Gd c o g tm pt ls fs z ban j d) (he : ∀ i, sndB tm ls fs (k + 1) i = true → e' i = d i) : Cmp c o g tm pt ls fs z ban nk (k + 1) e' (ownK o g tm pt ls fs z (k + 1) e' + cF o g tm pt ls fs z d (nk - 1 - (k + 1)) (k + 1 + 1)) ∧ ownK o g tm pt ls fs z k e + cF o g tm pt ls fs z d (nk - 1 - k) (k + 1) = ownK o g tm pt ls fs z k e + (shK g (lowK o tm pt ls fs z k e) (lowK o tm pt ls fs z (k + 1) e') + (ownK o g tm pt ls fs z (k + 1) e' + cF o g tm pt ls fs z d (nk - 1 - (k + 1)) (k + 1 + 1))) := by
  refine ⟨⟨d, fun i hs => (he i hs).symm, fun j a b => h2 j (by omega) b, rfl⟩, ?_⟩
  rw [show nk - 1 - k = (nk - 1 - (k + 1)) + 1 by omega]
  show _ + ((ownK o g tm pt ls fs z (k + 1) d + shK g (lowK o tm pt ls fs z k d) (lowK o tm pt ls fs z (k + 1) d)) + cF o g tm pt ls fs z d (nk - 1 - (k + 1)) (k + 1 + 1)) = _
  rw [ownK_cg (d := d) (d' := e') (fun i hs => (he i hs).symm), lowK_cg (d := d) (d' := e') (k := k + 1) (fun i hs => (he i hs).symm), lowK_cg (d := d) (d' := e) h1]
  omega
theorem RsP.last {k : Nat} {e : Nat → Nat} (b1 : Bl c o g) (hn : fs (k + 1) ≤ 14) (hk : k + 1 = nk) (hG : Gd c o g tm pt ls fs z ban k e) : RsP c o g tm pt ls fs z ban nk k e (ownK o g tm pt ls fs z k e) := by
  have h5 := ownG (z := z) (d := e) (tm := tm) (pt := pt) (ls := ls) (k := k) b1 hn
  refine Or.inr ⟨by omega, ⟨e, fun _ _ => rfl, fun j a b => by rw [show j = k by omega]; exact hG, ?_⟩, ?_⟩
  · rw [show nk - 1 - k = 0 by omega]; rfl
  · rintro w ⟨d, _, _, rfl⟩
    omega
/-- a way of the next chord, joined to e: FAR, if they don't lie alike -/
def jv (g : Nat → Nat) (b : Bool) (R : Nat) (x y : Int) : Nat := if b = true then R + shK g x y else 1000000
theorem RsP.step {k m L : Nat} {e : Nat → Nat} {D : Nat → Nat → Nat} {R : Nat → Nat} {B : Nat → Bool} (b1 : Bl c o g) (b2 : Bn n tm pt ls) (hC : Ch n tm nk fs) (hk : k + 1 < nk) (hG : Gd c o g tm pt ls fs z ban k e) (hD : RWP c o g tm pt ls fs z ban (k + 1) m D) (hR : ∀ b, b < m → RsP c o g tm pt ls fs z ban nk (k + 1) (D b) (R b)) (hB : ∀ b, b < m → (B b = true ↔ ∀ x, x < n → sndB tm ls fs k x = true → sndB tm ls fs (k + 1) x = true → e x = D b x)) (hL1 : ∀ b, b < m → L ≤ jv g (B b) (R b) (lowK o tm pt ls fs z k e) (lowK o tm pt ls fs z (k + 1) (D b))) (hL2 : L = 1000000 ∨ (L < 1000000 ∧ ∃ b, b < m ∧ jv g (B b) (R b) (lowK o tm pt ls fs z k e) (lowK o tm pt ls fs z (k + 1) (D b)) = L)) : RsP c o g tm pt ls fs z ban nk k e (if L < 1000000 then L + ownK o g tm pt ls fs z k e else 1000000) := by
  have hn := b2.1
  have hnk := hC.nk_le
  have low : ∀ w, Cmp c o g tm pt ls fs z ban nk k e w → L < 1000000 ∧ L + ownK o g tm pt ls fs z k e ≤ w := by
    rintro w hw
    have hwb := hw.bd b1 b2 hC (by omega)
    obtain ⟨d, d1, d2, rfl⟩ := hw
    obtain ⟨b, hb, hl⟩ := hD.2.1 d (d2 (k + 1) (by omega) hk)
    obtain ⟨y1, y2⟩ := Cmp.cut (e' := D b) hk d1 d2 hl
    have hBb := (hB b hb).2 (fun x _ s1 s2 => by rw [hl x s2]; exact (d1 x s1).symm)
    have h1 := hL1 b hb
    unfold jv at h1
    rw [hBb, if_pos rfl] at h1
    rcases hR b hb with ⟨_, r2⟩ | ⟨r1, r2, r3⟩
    · exact absurd y1 (r2 _)
    · have r4 := r3 _ y1
      rw [y2] at hwb ⊢
      omega
  by_cases q : L < 1000000
  · rw [if_pos q]
    rcases hL2 with h | ⟨_, b, hb, hj⟩
    · omega
    · unfold jv at hj
      by_cases hBb : B b = true
      · rw [if_pos hBb] at hj
        rcases hR b hb with ⟨r1, _⟩ | ⟨r1, r2, r3⟩
        · omega
        · have hx := r2.ext hC hk hG ((hB b hb).1 hBb)
          have e1 : ownK o g tm pt ls fs z k e + (shK g (lowK o tm pt ls fs z k e) (lowK o tm pt ls fs z (k + 1) (D b)) + R b) = L + ownK o g tm pt ls fs z k e := by omega
          rw [e1] at hx
          have hb2 := hx.bd b1 b2 hC (by omega)
          exact Or.inr ⟨by omega, hx, fun w hw => (low w hw).2⟩
      · rw [if_neg hBb] at hj
        omega
  · rw [if_neg q]
    exact Or.inl ⟨rfl, fun w hw => q (low w hw).1⟩
end
