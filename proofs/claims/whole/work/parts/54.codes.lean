/-! the reference's codes: a number for each laying of what sounds -/
def dgs (c T j t : Nat) : Nat := j / c ^ (T - 1 - t) % c
/-- the laying that a code means -/
def plc (c T : Nat) (S : Nat → Bool) (j i : Nat) : Nat := dgs c T j (cntB S i)
def cod (c : Nat) (S : Nat → Bool) (d : Nat → Nat) : Nat → Nat
  | 0 => 0
  | m + 1 => if S m = true then cod c S d m * c + d m else cod c S d m
theorem cod_t {c : Nat} {S : Nat → Bool} {d : Nat → Nat} {m : Nat} (h : S m = true) : cod c S d (m + 1) = cod c S d m * c + d m := if_pos h
theorem cod_f {c : Nat} {S : Nat → Bool} {d : Nat → Nat} {m : Nat} (h : ¬ S m = true) : cod c S d (m + 1) = cod c S d m := if_neg h
theorem cod_lt {c : Nat} {S : Nat → Bool} {d : Nat → Nat} : ∀ {m : Nat}, (∀ i, i < m → S i = true → d i < c) → cod c S d m < c ^ cntB S m
  | 0, _ => by show 0 < 1; omega
  | m + 1, h => by
    have ih := cod_lt (c := c) (S := S) (d := d) (m := m) (fun i hi => h i (by omega))
    by_cases q : S m = true
    · have hm := h m (by omega) q
      rw [cod_t q, cntB_t q, Nat.pow_succ]
      have h1 : (cod c S d m + 1) * c ≤ c ^ cntB S m * c := Nat.mul_le_mul_right _ ih
      rw [Nat.add_mul, Nat.one_mul] at h1
      omega
    · rw [cod_f q, cntB_f q]; exact ih
theorem cod_dig {c : Nat} {S : Nat → Bool} {d : Nat → Nat} (hc : 0 < c) : ∀ {m : Nat}, (∀ i, i < m → S i = true → d i < c) → ∀ i, i < m → S i = true → cod c S d m / c ^ (cntB S m - 1 - cntB S i) % c = d i
  | 0, _, i, hi, _ => by omega
  | m + 1, h, i, hi, hs => by
    have ih := cod_dig (c := c) (S := S) (d := d) hc (m := m) (fun i hi => h i (by omega))
    by_cases q : S m = true
    · have hm := h m (by omega) q
      rw [cod_t q, cntB_t q]
      by_cases e : i = m
      · subst e
        rw [show cntB S i + 1 - 1 - cntB S i = 0 by omega, Nat.pow_zero, Nat.div_one, Nat.mul_comm, Nat.mul_add_mod, Nat.mod_eq_of_lt hm]
      · have hlt : cntB S i < cntB S m := (cnt_lt hs).2 (by omega)
        rw [show cntB S m + 1 - 1 - cntB S i = (cntB S m - 1 - cntB S i) + 1 by omega, Nat.pow_succ, Nat.mul_comm (c ^ (cntB S m - 1 - cntB S i)) c, ← Nat.div_div_eq_div_mul, Nat.mul_comm (cod c S d m) c, Nat.mul_add_div hc, Nat.div_eq_of_lt hm, Nat.add_zero]
        exact ih i (by omega) hs
    · have e : i ≠ m := fun e => by rw [e] at hs; exact q hs
      rw [cod_f q, cntB_f q, Nat.add_zero]
      exact ih i (by omega) hs
theorem plc_cod {c m : Nat} {S : Nat → Bool} {d : Nat → Nat} (hc : 0 < c) (h : ∀ i, i < m → S i = true → d i < c) {i : Nat} (hi : i < m) (hs : S i = true) : plc c (cntB S m) S (cod c S d m) i = d i := cod_dig hc h i hi hs
/-- codes in their order are layings in theirs -/
theorem dgs_lex {c : Nat} (hc : 0 < c) : ∀ {T j j' : Nat}, j < j' → j' < c ^ T → ∃ t, t < T ∧ dgs c T j t < dgs c T j' t ∧ ∀ s, s < t → dgs c T j s = dgs c T j' s
  | 0, j, j', h1, h2 => by rw [Nat.pow_zero] at h2; omega
  | T + 1, j, j', h1, h2 => by
    have up : ∀ x s, s < T → dgs c (T + 1) x s = dgs c T (x / c) s := fun x s hs => by
      unfold dgs
      rw [show T + 1 - 1 - s = (T - 1 - s) + 1 by omega, Nat.pow_succ, Nat.mul_comm (c ^ (T - 1 - s)) c, ← Nat.div_div_eq_div_mul]
    have la : ∀ x, dgs c (T + 1) x T = x % c := fun x => by
      unfold dgs
      rw [show T + 1 - 1 - T = 0 by omega, Nat.pow_zero, Nat.div_one]
    have hle : j / c ≤ j' / c := Nat.div_le_div_right (by omega)
    by_cases q : j / c < j' / c
    · have hq : j' / c < c ^ T := by
        rw [Nat.pow_succ, Nat.mul_comm] at h2
        exact Nat.div_lt_of_lt_mul h2
      obtain ⟨t, t1, t2, t3⟩ := dgs_lex hc q hq
      exact ⟨t, by omega, by rw [up _ _ t1, up _ _ t1]; exact t2, fun s hs => by rw [up _ _ (by omega), up _ _ (by omega)]; exact t3 s hs⟩
    · have e : j / c = j' / c := by omega
      refine ⟨T, by omega, ?_, fun s hs => by rw [up _ _ hs, up _ _ hs, e]⟩
      rw [la, la]
      have a1 := Nat.div_add_mod j c
      have a2 := Nat.div_add_mod j' c
      rw [e] at a1
      omega
theorem dgs_lt {c T j t : Nat} (hc : 0 < c) : dgs c T j t < c := Nat.mod_lt _ hc
def dstB (c T j : Nat) : Bool := (List.range T).all (fun t => (List.range t).all (fun s => decide (dgs c T j s ≠ dgs c T j t)))
def sumN (f : Nat → Nat) : Nat → Nat
  | 0 => 0
  | m + 1 => sumN f m + f m
theorem cntB_add (P : Nat → Bool) (x : Nat) : ∀ y, cntB P (x + y) = cntB P x + cntB (fun i => P (x + i)) y
  | 0 => rfl
  | y + 1 => by
    show cntB P (x + y) + _ = cntB P x + (cntB (fun i => P (x + i)) y + _)
    rw [cntB_add P x y, Nat.add_assoc]; rfl
theorem cntB_mul (P : Nat → Bool) (y : Nat) : ∀ x, cntB P (y * x) = sumN (fun u => cntB (fun i => P (y * u + i)) y) x
  | 0 => rfl
  | x + 1 => by
    rw [Nat.mul_succ, cntB_add, cntB_mul P y x]; rfl
theorem dst_d : ∀ c, c < 6 → ∀ T, T < 6 → T ≤ c → sumN (fun u => cntB (fun i => dstB c T (c ^ (T / 2) * u + i)) (c ^ (T / 2))) (c ^ (T - T / 2)) ≤ 120 := by decide +kernel
theorem dst_le {c T : Nat} (hc : c < 6) (hT : T ≤ c) : cntB (dstB c T) (c ^ T) ≤ 120 := by
  have h := dst_d c hc T (by omega) hT
  rw [← cntB_mul, ← Nat.pow_add, show T / 2 + (T - T / 2) = T by omega] at h
  exact h
theorem dst_of {c n M j : Nat} {S : Nat → Bool} (hS : ∀ i, S i = true → i < M) (hM : M ≤ n) (h : twB S (plc c (cntB S n) S j) M = false) : dstB c (cntB S n) j = true := by
  unfold dstB
  rw [List.all_eq_true]
  intro t ht
  rw [List.mem_range] at ht
  rw [List.all_eq_true]
  intro s hs
  rw [List.mem_range] at hs
  obtain ⟨i, i1, i2, i3⟩ := nth_ex ht
  obtain ⟨k, k1, k2, k3⟩ := nth_ex (S := S) (n := n) (t := s) (by omega)
  refine decide_eq_true (fun e => ?_)
  have hki : k < i := (cnt_lt (S := S) (j := k) (a := i) k2).1 (by omega)
  have : twB S (plc c (cntB S n) S j) M = true := by
    unfold twB
    rw [any_iff]
    refine ⟨i, hS i i2, ?_⟩
    rw [i2, Bool.true_and, any_iff]
    refine ⟨k, hki, ?_⟩
    rw [k2, Bool.true_and]
    refine decide_eq_true ?_
    show dgs c (cntB S n) j (cntB S k) = dgs c (cntB S n) j (cntB S i)
    rw [k3, i3]; exact e
  rw [h] at this
  cases this
/-- W holds the courses of what sounds, three bits each -/
def WY (S : Nat → Bool) (d : Nat → Nat) (n W : Nat) : Prop := W < 2 ^ 15 ∧ ∀ i, i < n → S i = true → W / 8 ^ cntB S i % 8 = d i
theorem s_X9_courseIn {σ : Sg} {W t : Nat} (hW : W < 2 ^ 15) (ht : t < 10) : f_X9_courseIn (nI W) (nI t) σ = some (nI (W / 8 ^ t % 8), σ) := by
  unfold f_X9_courseIn
  show some ((nI W >>> (nI 3 * nI t &&& nI 31)) &&& nI 7, σ) = _
  rw [nI_mul, sh_r (by omega) (by omega), and7, Nat.pow_mul]
theorem hg_WY {S : Nat → Bool} {n : Nat} {f : Nat → Nat} (hT : cntB S n ≤ 5) (hf : ∀ t, f t < 8) : WY S (fun i => f (cntB S i)) n (hg 0 (fun s => f (cntB S n - 1 - s)) (cntB S n)) := by
  refine ⟨?_, fun i hi hs => ?_⟩
  · have h1 := hg_lt (f := fun s => f (cntB S n - 1 - s)) (m := cntB S n) (fun i _ => hf _)
    have h2 : (8 : Nat) ^ cntB S n ≤ 8 ^ 5 := Nat.pow_le_pow_right (by omega) hT
    have h3 : (8 : Nat) ^ 5 = 2 ^ 15 := by decide
    omega
  · have hlt : cntB S i < cntB S n := (cnt_lt hs).2 hi
    have h1 := hg_dig (A := 0) (f := fun s => f (cntB S n - 1 - s)) (m := cntB S n) (fun i _ => hf _) (cntB S n - 1 - cntB S i) (by omega)
    rw [show cntB S n - 1 - (cntB S n - 1 - cntB S i) = cntB S i by omega] at h1
    exact h1
/-- more sound than there are courses: nothing is good -/
theorem Gd.cnt {c n : Nat} {o g tm pt ls fs : Nat → Nat} {z : Int} {ban k : Nat} {d : Nat → Nat} (hf : fs (k + 1) ≤ n) (q : Gd c o g tm pt ls fs z ban k d) : cntB (sndB tm ls fs k) n ≤ c := by
  have h1 := used_cnt (c := c) q.2.1 (fun i _ hs => (q.1 i hs).1)
  have h2 := cntB_le (fun j => anyB (sndB tm ls fs k) d j (fs (k + 1))) c
  rw [cnt_past hf]
  omega
