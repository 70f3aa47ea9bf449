/-! longs as rows of digits, three bits each -/
theorem wb_tb (n : Nat) : (lN n).toBitVec = BitVec.ofNat 64 n := rfl
theorem wb_inj {a b : Int64} (h : a.toBitVec = b.toBitVec) : a = b := Int64.toBitVec_inj.mp h
theorem wb_c : ∀ k, k < 64 → ((nI k).toInt64 &&& 63) = lN k := by decide +kernel
theorem wb_sm : ∀ k, k < 64 → (BitVec.ofNat 64 k).smod 64 = BitVec.ofNat 64 k := by decide +kernel
theorem wb_shl (n : Nat) {k : Nat} (hk : k < 64) : lN n <<< ((nI k).toInt64 &&& 63) = lN (n * 2 ^ k) := by
  rw [wb_c k hk]
  apply wb_inj
  rw [Int64.toBitVec_shiftLeft, wb_tb, wb_tb, wb_tb, wb_sm k hk]
  apply BitVec.eq_of_toNat_eq
  rw [BitVec.shiftLeft_eq', BitVec.toNat_shiftLeft, BitVec.toNat_ofNat, BitVec.toNat_ofNat, BitVec.toNat_ofNat, Nat.mod_eq_of_lt (show k < 2 ^ 64 by omega), Nat.shiftLeft_eq, Nat.mul_mod, Nat.mod_mod, ← Nat.mul_mod]
theorem pf_lI {a : Nat} (h : a < 2 ^ 63) : (lN a).toInt = (a : Int) := lg_ofNat_toInt h
theorem pf_shr {a d : Nat} {D : Int64} (hD : (D.toBitVec.smod 64).toNat = d) (h : a < 2 ^ 62) : lN a >>> D = lN (a / 2 ^ d) := by
  have hd : a / 2 ^ d ≤ a := Nat.div_le_self _ _
  apply Int64.toInt_inj.mp
  have e : (lN a >>> D).toInt = (lN a).toInt >>> d := by
    rw [← hD]
    exact BitVec.toInt_sshiftRight ..
  rw [e, Int.shiftRight_eq_div_pow, pf_lI (by omega), pf_lI (by omega)]
  rfl
/-- A ahead of the digits f 0, f 1, .. f (m - 1) -/
def hg (A : Nat) (f : Nat → Nat) : Nat → Nat
  | 0 => A
  | m + 1 => hg A f m * 8 + f m
theorem hg_cg {A : Nat} {f h : Nat → Nat} : ∀ {m : Nat}, (∀ i, i < m → f i = h i) → hg A f m = hg A h m
  | 0, _ => rfl
  | m + 1, e => by
    show hg A f m * 8 + f m = hg A h m * 8 + h m
    rw [hg_cg (fun i hi => e i (by omega)), e m (by omega)]
theorem hg_add (A : Nat) (f : Nat → Nat) : ∀ m, hg A f m = A * 8 ^ m + hg 0 f m
  | 0 => by show A = A * 1 + 0; omega
  | m + 1 => by
    show hg A f m * 8 + f m = A * 8 ^ (m + 1) + (hg 0 f m * 8 + f m)
    rw [hg_add A f m, Nat.pow_succ, Nat.add_mul, ← Nat.mul_assoc]; omega
theorem hg_lt {f : Nat → Nat} : ∀ {m : Nat}, (∀ i, i < m → f i < 8) → hg 0 f m < 8 ^ m
  | 0, _ => by show 0 < 1; omega
  | m + 1, e => by
    have h1 := hg_lt (f := f) (m := m) (fun i hi => e i (by omega))
    have h2 := e m (by omega)
    show hg 0 f m * 8 + f m < 8 ^ (m + 1)
    rw [Nat.pow_succ]; omega
theorem hg_dig {A : Nat} {f : Nat → Nat} : ∀ {m : Nat}, (∀ i, i < m → f i < 8) → ∀ i, i < m → hg A f m / 8 ^ (m - 1 - i) % 8 = f i
  | 0, _, i, hi => by omega
  | m + 1, e, i, hi => by
    show (hg A f m * 8 + f m) / 8 ^ (m + 1 - 1 - i) % 8 = f i
    have h2 := e m (by omega)
    by_cases q : i = m
    · subst q
      rw [show i + 1 - 1 - i = 0 by omega, Nat.pow_zero, Nat.div_one]; omega
    · have ih := hg_dig (A := A) (f := f) (m := m) (fun i hi => e i (by omega)) i (by omega)
      rw [show m + 1 - 1 - i = (m - 1 - i) + 1 by omega, Nat.pow_succ, Nat.mul_comm (8 ^ (m - 1 - i)) 8, ← Nat.div_div_eq_div_mul, show (hg A f m * 8 + f m) / 8 = hg A f m by omega]
      exact ih
theorem hg_top {A : Nat} {f : Nat → Nat} {m : Nat} (e : ∀ i, i < m → f i < 8) : hg A f m / 8 ^ m = A := by
  have h1 := hg_lt e
  rw [hg_add, Nat.add_comm, Nat.add_mul_div_right _ _ (Nat.pow_pos (by omega)), Nat.div_eq_of_lt h1]; omega
theorem dg_or {a b x y : Nat} (hx : x < 8) (hy : y < 8) : (a * 8 + x) ||| (b * 8 + y) = (a ||| b) * 8 + (x ||| y) := by
  have hxy : x ||| y < 2 ^ 3 := Nat.or_lt_two_pow hx hy
  rw [Nat.mul_comm a, Nat.mul_comm b, Nat.mul_comm (a ||| b), show (8 : Nat) = 2 ^ 3 from rfl]
  apply Nat.eq_of_testBit_eq
  intro i
  rw [Nat.testBit_or, Nat.testBit_two_pow_mul_add _ hx, Nat.testBit_two_pow_mul_add _ hy, Nat.testBit_two_pow_mul_add _ hxy]
  split
  · rw [Nat.testBit_or]
  · rw [Nat.testBit_or]
theorem dg_xor {a b x y : Nat} (hx : x < 8) (hy : y < 8) : (a * 8 + x) ^^^ (b * 8 + y) = (a ^^^ b) * 8 + (x ^^^ y) := by
  have hxy : x ^^^ y < 2 ^ 3 := Nat.xor_lt_two_pow hx hy
  rw [Nat.mul_comm a, Nat.mul_comm b, Nat.mul_comm (a ^^^ b), show (8 : Nat) = 2 ^ 3 from rfl]
  apply Nat.eq_of_testBit_eq
  intro i
  rw [Nat.testBit_xor, Nat.testBit_two_pow_mul_add _ hx, Nat.testBit_two_pow_mul_add _ hy, Nat.testBit_two_pow_mul_add _ hxy]
  split
  · rw [Nat.testBit_xor]
  · rw [Nat.testBit_xor]
theorem dg_and {a b x y : Nat} (hx : x < 8) (hy : y < 8) : (a * 8 + x) &&& (b * 8 + y) = (a &&& b) * 8 + (x &&& y) := by
  have hxy : x &&& y < 2 ^ 3 := Nat.and_lt_two_pow x hy
  rw [Nat.mul_comm a, Nat.mul_comm b, Nat.mul_comm (a &&& b), show (8 : Nat) = 2 ^ 3 from rfl]
  apply Nat.eq_of_testBit_eq
  intro i
  rw [Nat.testBit_and, Nat.testBit_two_pow_mul_add _ hx, Nat.testBit_two_pow_mul_add _ hy, Nat.testBit_two_pow_mul_add _ hxy]
  split
  · rw [Nat.testBit_and]
  · rw [Nat.testBit_and]
theorem hg_or {A B : Nat} {f h : Nat → Nat} : ∀ {m : Nat}, (∀ i, i < m → f i < 8 ∧ h i < 8) → hg A f m ||| hg B h m = hg (A ||| B) (fun i => f i ||| h i) m
  | 0, _ => rfl
  | m + 1, e => by
    show (hg A f m * 8 + f m) ||| (hg B h m * 8 + h m) = hg (A ||| B) (fun i => f i ||| h i) m * 8 + (f m ||| h m)
    rw [dg_or (e m (by omega)).1 (e m (by omega)).2, hg_or (fun i hi => e i (by omega))]
theorem hg_xor {A B : Nat} {f h : Nat → Nat} : ∀ {m : Nat}, (∀ i, i < m → f i < 8 ∧ h i < 8) → hg A f m ^^^ hg B h m = hg (A ^^^ B) (fun i => f i ^^^ h i) m
  | 0, _ => rfl
  | m + 1, e => by
    show (hg A f m * 8 + f m) ^^^ (hg B h m * 8 + h m) = hg (A ^^^ B) (fun i => f i ^^^ h i) m * 8 + (f m ^^^ h m)
    rw [dg_xor (e m (by omega)).1 (e m (by omega)).2, hg_xor (fun i hi => e i (by omega))]
theorem hg_and {A B : Nat} {f h : Nat → Nat} : ∀ {m : Nat}, (∀ i, i < m → f i < 8 ∧ h i < 8) → hg A f m &&& hg B h m = hg (A &&& B) (fun i => f i &&& h i) m
  | 0, _ => rfl
  | m + 1, e => by
    show (hg A f m * 8 + f m) &&& (hg B h m * 8 + h m) = hg (A &&& B) (fun i => f i &&& h i) m * 8 + (f m &&& h m)
    rw [dg_and (e m (by omega)).1 (e m (by omega)).2, hg_and (fun i hi => e i (by omega))]
theorem hg_0 {f : Nat → Nat} : ∀ {m : Nat}, hg 0 f m = 0 ↔ ∀ i, i < m → f i = 0
  | 0 => ⟨fun _ i hi => by omega, fun _ => rfl⟩
  | m + 1 => by
    have ih := hg_0 (f := f) (m := m)
    constructor
    · intro h i hi
      have h' : hg 0 f m * 8 + f m = 0 := h
      by_cases q : i = m
      · subst q; omega
      · exact ih.1 (by omega) i (by omega)
    · intro h
      show hg 0 f m * 8 + f m = 0
      rw [ih.2 (fun i hi => h i (by omega)), h m (by omega)]
/-- the first digit that differs decides -/
theorem hg_lex {A : Nat} {f h : Nat → Nat} {p : Nat} : ∀ {m : Nat}, p < m → (∀ i, i < m → f i < 8 ∧ h i < 8) → (∀ i, i < p → f i = h i) → f p < h p → hg A f m < hg A h m
  | 0, hp, _, _, _ => by omega
  | m + 1, hp, e, h1, h2 => by
    show hg A f m * 8 + f m < hg A h m * 8 + h m
    have b := e m (by omega)
    by_cases q : p = m
    · subst q
      rw [hg_cg h1]; omega
    · have := hg_lex (A := A) (f := f) (h := h) (p := p) (m := m) (by omega) (fun i hi => e i (by omega)) h1 h2
      omega
theorem hg_tail {A : Nat} {f : Nat → Nat} {m : Nat} : ∀ {j : Nat}, (∀ i, m ≤ i → i < m + j → f i = 0) → hg A f (m + j) = hg A f m * 8 ^ j
  | 0, _ => by rw [Nat.pow_zero, Nat.mul_one]; rfl
  | j + 1, e => by
    show hg A f (m + j) * 8 + f (m + j) = _
    rw [hg_tail (fun i a b => e i a (by omega)), e (m + j) (by omega) (by omega), Nat.pow_succ, Nat.mul_assoc]; omega
/-- the digits of what sounds among the first m -/
def dg (S : Nat → Bool) (d : Nat → Nat) (m i : Nat) : Nat := if i < m ∧ S i = true then d i else 0
def allB (_ : Nat) : Bool := true
theorem dg_lt {S : Nat → Bool} {d : Nat → Nat} {m : Nat} (h : ∀ i, i < m → S i = true → d i < 8) (i : Nat) : dg S d m i < 8 := by
  unfold dg
  split
  · rename_i q; exact h i q.1 q.2
  · omega
theorem dg_t {S : Nat → Bool} {d : Nat → Nat} {m i : Nat} (h1 : i < m) (h2 : S i = true) : dg S d m i = d i := if_pos ⟨h1, h2⟩
theorem dg_n {S : Nat → Bool} {d : Nat → Nat} {m i : Nat} (h : ¬ (i < m ∧ S i = true)) : dg S d m i = 0 := if_neg h
theorem bitsD_hg {d : Nat → Nat} : ∀ {m : Nat}, m ≤ 14 → bitsD d m = hg 0 d m * 8 ^ (14 - m)
  | 0, _ => by show 0 = 0 * _; omega
  | m + 1, h => by
    show bitsD d m + d m * 8 ^ (13 - m) = (hg 0 d m * 8 + d m) * 8 ^ (14 - (m + 1))
    rw [bitsD_hg (by omega), show 14 - m = (13 - m) + 1 by omega, Nat.pow_succ, show 14 - (m + 1) = 13 - m by omega, Nat.add_mul, Nat.mul_comm (8 ^ (13 - m)) 8, Nat.mul_assoc]
theorem bitsD_dg {d : Nat → Nat} {m : Nat} (h : m ≤ 14) : bitsD d m = hg 0 (dg allB d m) 14 := by
  have e := hg_tail (A := 0) (f := dg allB d m) (m := m) (j := 14 - m) (fun i a b => dg_n (by omega))
  rw [show m + (14 - m) = 14 by omega] at e
  rw [e, bitsD_hg h, hg_cg (fun i hi => dg_t (S := allB) (d := d) (m := m) hi rfl)]
theorem keyD_dg {o g tm pt ls fs : Nat → Nat} {z : Int} {k : Nat} {d : Nat → Nat} (h : fs k ≤ 14) : keyD o g tm pt ls fs z k d = hg (costTo o g tm pt ls fs z k d) (dg allB d (fs k)) 14 := by
  unfold keyD
  rw [bitsD_dg h, hg_add (costTo o g tm pt ls fs z k d)]
/-- the course of a note in a long -/
theorem s_X5_courseIn {σ : Sg} {A i : Nat} {f : Nat → Nat} (hf : ∀ i, i < 14 → f i < 8) (hA : A < 2 ^ 20) (hi : i < 14) : f_X5_courseIn (lN (hg A f 14)) (nI i) σ = some (nI (f i), σ) := by
  have h1 := hg_lt hf
  have hb : hg A f 14 < 2 ^ 62 := by
    rw [hg_add]
    have : (8 : Nat) ^ 14 = 2 ^ 42 := by decide
    omega
  have hs : ∀ i, i < 14 → (((nI (3 * (13 - i))).toInt64 &&& 63).toBitVec.smod 64).toNat = 3 * (13 - i) := by decide +kernel
  have e1 : nI 13 - nI i = nI (13 - i) := pk_sub (by omega)
  unfold f_X5_courseIn f_X5_bitsOf
  show some (((lN (hg A f 14) >>> ((nI 3 * (nI 13 - nI i)).toInt64 &&& 63)).toInt32 &&& nI 7), σ) = _
  rw [e1, nI_mul, pf_shr (hs i hi) hb, lN_i, and7]
  have hd := hg_dig (A := A) hf i hi
  rw [show 2 ^ (3 * (13 - i)) = 8 ^ (14 - 1 - i) by rw [Nat.pow_mul], hd]
theorem s_X5_bitsOf {σ : Sg} {i : Nat} (hi : i < 14) : f_X5_bitsOf (nI i) σ = some (nI (3 * (13 - i)), σ) := by
  unfold f_X5_bitsOf
  show some (nI 3 * (nI 13 - nI i), σ) = _
  rw [pk_sub (by omega), nI_mul]
theorem lsh {a i : Nat} (hi : i < 14) : lN a <<< ((nI (3 * (13 - i))).toInt64 &&& 63) = lN (a * 8 ^ (13 - i)) := by
  rw [wb_shl a (by omega), Nat.pow_mul]
/-- a digit comes behind the others -/
theorem hg_new {S : Nat → Bool} {d : Nat → Nat} {m c : Nat} (hm : m < 14) (hd : ∀ i, i < m → S i = true → d i < 8) (hc : c < 8) (hs : S m = true) : hg 0 (dg S d m) 14 ||| c * 8 ^ (13 - m) = hg 0 (dg S (upN d m c) (m + 1)) 14 := by
  have e1 : c * 8 ^ (13 - m) = hg 0 (fun i => if i = m then c else 0) 14 := by
    have e := hg_tail (A := 0) (f := fun i => if i = m then c else 0) (m := m + 1) (j := 13 - m) (fun i a b => if_neg (by omega))
    rw [show m + 1 + (13 - m) = 14 by omega] at e
    rw [e]
    congr 1
    show c = hg 0 (fun i => if i = m then c else 0) m * 8 + (if m = m then c else 0)
    rw [if_pos rfl, (hg_0 (f := fun i => if i = m then c else 0) (m := m)).2 (fun i hi => if_neg (by omega))]; omega
  rw [e1, hg_or (fun i _ => ⟨dg_lt hd i, by split <;> omega⟩)]
  refine hg_cg (fun i _ => ?_)
  by_cases q : i = m
  · subst q
    rw [dg_n (by omega), if_pos rfl, dg_t (by omega) hs, upN_eq, Nat.zero_or]
  · rw [if_neg q, Nat.or_zero]
    by_cases r : i < m ∧ S i = true
    · rw [dg_t r.1 r.2, dg_t (by omega) r.2, upN_ne q]
    · rw [dg_n r, dg_n (fun y => r ⟨by omega, y.2⟩)]
