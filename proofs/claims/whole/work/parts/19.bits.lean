/-! bits of ints and longs (the first rows began as kit/laws/NUMBERS, COUNTS, BITS) -/
theorem fa_and (a b : Nat) : nI a &&& nI b = nI (a &&& b) := by
  apply Int32.toBitVec_inj.1
  show BitVec.ofNat 32 a &&& BitVec.ofNat 32 b = BitVec.ofNat 32 (a &&& b)
  apply BitVec.eq_of_getLsbD_eq
  intro i hi
  simp [hi]
theorem fa_or (a b : Nat) : nI a ||| nI b = nI (a ||| b) := by
  apply Int32.toBitVec_inj.1
  show BitVec.ofNat 32 a ||| BitVec.ofNat 32 b = BitVec.ofNat 32 (a ||| b)
  apply BitVec.eq_of_getLsbD_eq
  intro i hi
  simp [hi]
theorem fb_andL (a b : Nat) : lN a &&& lN b = lN (a &&& b) := by
  apply Int64.toBitVec_inj.1
  show BitVec.ofNat 64 a &&& BitVec.ofNat 64 b = BitVec.ofNat 64 (a &&& b)
  apply BitVec.eq_of_getLsbD_eq
  intro i hi
  simp [hi]
theorem fb_orL (a b : Nat) : lN a ||| lN b = lN (a ||| b) := by
  apply Int64.toBitVec_inj.1
  show BitVec.ofNat 64 a ||| BitVec.ofNat 64 b = BitVec.ofNat 64 (a ||| b)
  apply BitVec.eq_of_getLsbD_eq
  intro i hi
  simp [hi]
theorem fb_xorL (a b : Nat) : lN a ^^^ lN b = lN (a ^^^ b) := by
  apply Int64.toBitVec_inj.1
  show BitVec.ofNat 64 a ^^^ BitVec.ofNat 64 b = BitVec.ofNat 64 (a ^^^ b)
  apply BitVec.eq_of_getLsbD_eq
  intro i hi
  simp [hi]
theorem sh_am : ∀ n, n < 32 → ((nI n &&& nI 31).toBitVec.smod 32).toNat = n := by decide +kernel
theorem sh_l1 : ∀ i, i < 31 → nI 1 <<< (nI i &&& nI 31) = nI (2 ^ i) := by decide +kernel
theorem sh_r {b i : Nat} (hb : b < 2 ^ 31) (hi : i < 32) : nI b >>> (nI i &&& nI 31) = nI (b / 2 ^ i) := pk_shrN hb _ i (sh_am i hi)
theorem and1 (a : Nat) : nI a &&& nI 1 = nI (a % 2) := by
  rw [fa_and, show (1 : Nat) = 2 ^ 1 - 1 from rfl, Nat.and_two_pow_sub_one_eq_mod]
theorem and7 (a : Nat) : nI a &&& nI 7 = nI (a % 8) := by
  rw [fa_and, show (7 : Nat) = 2 ^ 3 - 1 from rfl, Nat.and_two_pow_sub_one_eq_mod]
theorem bit_t {b i : Nat} (hb : b < 2 ^ 31) (hi : i < 32) : ((nI b >>> (nI i &&& nI 31)) &&& nI 1).toInt = if b.testBit i = true then 1 else 0 := by
  rw [sh_r hb hi, and1, nI_toInt (by omega)]
  have : b.testBit i = decide (b / 2 ^ i % 2 = 1) := by rw [Nat.testBit_eq_decide_div_mod_eq]
  rw [this]
  by_cases h : b / 2 ^ i % 2 = 1
  · rw [decide_eq_true h, h]; rfl
  · rw [decide_eq_false h, show b / 2 ^ i % 2 = 0 by omega]; rfl
theorem or_bit {b i : Nat} (hi : i < 31) : nI b ||| (nI 1 <<< (nI i &&& nI 31)) = nI (b ||| 2 ^ i) := by rw [sh_l1 i hi, fa_or]
theorem tb_or (b i j : Nat) : (b ||| 2 ^ i).testBit j = (b.testBit j || decide (i = j)) := by rw [Nat.testBit_or, Nat.testBit_two_pow]
theorem or_lt {b i m : Nat} (hb : b < 2 ^ m) (hi : i < m) : b ||| 2 ^ i < 2 ^ m := Nat.or_lt_two_pow hb (Nat.pow_lt_pow_right (by decide) hi)
