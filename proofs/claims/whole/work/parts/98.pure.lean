/-! every script -/
theorem pure_all (L : Nat) (xs : Nat → Int32) (hL : L ≤ 3072) : Pure L xs := pure_of hL σd_Rel
