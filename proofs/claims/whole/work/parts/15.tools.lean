/-! the pure side: rows to work with -/
def RT : List (List Nat) := [[1, 4, 11, 12, 31, 33, 37, 39, 40, 45, 46], [0, 2, 3], [], [], [5, 6, 7, 8, 9, 10], [], [], [], [], [], [], [1, 4], [1, 4, 11, 13, 18, 23, 28, 29, 30], [14, 15, 16, 17], [], [], [], [], [19, 20, 21, 22], [], [], [], [], [24, 25, 26, 27], [], [], [], [], [], [], [], [32], [], [1, 0, 34, 35, 36], [], [], [], [38], [], [47, 49, 51, 53], [41, 42, 43, 44], [], [], [], [], [], [], [0, 0, 0, 48], [], [0, 0, 0, 50], [], [0, 0, 0, 52], [], [0, 0, 0, 54], [], [0, 56, 0, 0, 0, 0, 0, 57, 58, 59, 0, 60, 0, 61, 62, 63, 0, 64, 65, 66, 0, 0, 0, 0, 0, 0, 0, 67, 68, 69, 70, 71, 72, 73, 74, 75, 76, 0, 77, 0, 0, 0, 0, 0, 78, 79, 80, 81], [], [], [], [], [], [], [], [], [], [], [], [], [], [], [], [], [], [], [], [], [], [], [], [], [], []]
def RV (p k : Nat) : Nat := (RT.getD p []).getD k 0
def RB : List (List Bool) := [[true, true, true, true, true, true, true, true, true, true, true], [false, true, true], [], [], [true, true, true, true, true, true], [], [], [], [], [], [], [true, true], [true, true, true, false, false, false, true, true, true], [true, true, true, true], [], [], [], [], [true, true, true, true], [], [], [], [], [true, true, true, true], [], [], [], [], [], [], [], [true], [], [true, false, true, true, true], [], [], [], [true], [], [true, true, true, true], [true, true, true, true], [], [], [], [], [], [], [false, false, false, true], [], [false, false, false, true], [], [false, false, false, true], [], [false, false, false, true], [], [false, true, false, false, false, false, false, true, true, true, false, true, false, true, true, true, false, true, true, true, false, false, false, false, false, false, false, true, true, true, true, true, true, true, true, true, true, false, true, false, false, false, false, false, true, true, true, true], [], [], [], [], [], [], [], [], [], [], [], [], [], [], [], [], [], [], [], [], [], [], [], [], [], []]
def Rk (p k : Nat) : Bool := (RB.getD p []).getD k false
def perm3 (a b c : Nat) : Prop := (a = 13 ∧ b = 18 ∧ c = 23) ∨ (a = 13 ∧ b = 23 ∧ c = 18) ∨ (a = 18 ∧ b = 13 ∧ c = 23) ∨ (a = 18 ∧ b = 23 ∧ c = 13) ∨ (a = 23 ∧ b = 13 ∧ c = 18) ∨ (a = 23 ∧ b = 18 ∧ c = 13)
/-- the references stand as the constructors left them, but for the three Ways -/
def RefI (σ : Sg) : Prop := (∀ p k, Rk p k = true → gR σ p k = RV p k) ∧ perm3 (gR σ 12 3) (gR σ 12 4) (gR σ 12 5)
theorem rf_0_0 {σ : Sg} (h : RefI σ) : gR σ 0 0 = 1 := h.1 0 0 rfl
theorem rf_0_1 {σ : Sg} (h : RefI σ) : gR σ 0 1 = 4 := h.1 0 1 rfl
theorem rf_0_2 {σ : Sg} (h : RefI σ) : gR σ 0 2 = 11 := h.1 0 2 rfl
theorem rf_0_3 {σ : Sg} (h : RefI σ) : gR σ 0 3 = 12 := h.1 0 3 rfl
theorem rf_0_4 {σ : Sg} (h : RefI σ) : gR σ 0 4 = 31 := h.1 0 4 rfl
theorem rf_0_5 {σ : Sg} (h : RefI σ) : gR σ 0 5 = 33 := h.1 0 5 rfl
theorem rf_0_6 {σ : Sg} (h : RefI σ) : gR σ 0 6 = 37 := h.1 0 6 rfl
theorem rf_0_7 {σ : Sg} (h : RefI σ) : gR σ 0 7 = 39 := h.1 0 7 rfl
theorem rf_0_8 {σ : Sg} (h : RefI σ) : gR σ 0 8 = 40 := h.1 0 8 rfl
theorem rf_0_9 {σ : Sg} (h : RefI σ) : gR σ 0 9 = 45 := h.1 0 9 rfl
theorem rf_0_10 {σ : Sg} (h : RefI σ) : gR σ 0 10 = 46 := h.1 0 10 rfl
theorem rf_1_1 {σ : Sg} (h : RefI σ) : gR σ 1 1 = 2 := h.1 1 1 rfl
theorem rf_1_2 {σ : Sg} (h : RefI σ) : gR σ 1 2 = 3 := h.1 1 2 rfl
theorem rf_4_0 {σ : Sg} (h : RefI σ) : gR σ 4 0 = 5 := h.1 4 0 rfl
theorem rf_4_1 {σ : Sg} (h : RefI σ) : gR σ 4 1 = 6 := h.1 4 1 rfl
theorem rf_4_2 {σ : Sg} (h : RefI σ) : gR σ 4 2 = 7 := h.1 4 2 rfl
theorem rf_4_3 {σ : Sg} (h : RefI σ) : gR σ 4 3 = 8 := h.1 4 3 rfl
theorem rf_4_4 {σ : Sg} (h : RefI σ) : gR σ 4 4 = 9 := h.1 4 4 rfl
theorem rf_4_5 {σ : Sg} (h : RefI σ) : gR σ 4 5 = 10 := h.1 4 5 rfl
theorem rf_11_0 {σ : Sg} (h : RefI σ) : gR σ 11 0 = 1 := h.1 11 0 rfl
theorem rf_11_1 {σ : Sg} (h : RefI σ) : gR σ 11 1 = 4 := h.1 11 1 rfl
theorem rf_12_0 {σ : Sg} (h : RefI σ) : gR σ 12 0 = 1 := h.1 12 0 rfl
theorem rf_12_1 {σ : Sg} (h : RefI σ) : gR σ 12 1 = 4 := h.1 12 1 rfl
theorem rf_12_2 {σ : Sg} (h : RefI σ) : gR σ 12 2 = 11 := h.1 12 2 rfl
theorem rf_12_6 {σ : Sg} (h : RefI σ) : gR σ 12 6 = 28 := h.1 12 6 rfl
theorem rf_12_7 {σ : Sg} (h : RefI σ) : gR σ 12 7 = 29 := h.1 12 7 rfl
theorem rf_12_8 {σ : Sg} (h : RefI σ) : gR σ 12 8 = 30 := h.1 12 8 rfl
theorem rf_13_0 {σ : Sg} (h : RefI σ) : gR σ 13 0 = 14 := h.1 13 0 rfl
theorem rf_13_1 {σ : Sg} (h : RefI σ) : gR σ 13 1 = 15 := h.1 13 1 rfl
theorem rf_13_2 {σ : Sg} (h : RefI σ) : gR σ 13 2 = 16 := h.1 13 2 rfl
theorem rf_13_3 {σ : Sg} (h : RefI σ) : gR σ 13 3 = 17 := h.1 13 3 rfl
theorem rf_18_0 {σ : Sg} (h : RefI σ) : gR σ 18 0 = 19 := h.1 18 0 rfl
theorem rf_18_1 {σ : Sg} (h : RefI σ) : gR σ 18 1 = 20 := h.1 18 1 rfl
theorem rf_18_2 {σ : Sg} (h : RefI σ) : gR σ 18 2 = 21 := h.1 18 2 rfl
theorem rf_18_3 {σ : Sg} (h : RefI σ) : gR σ 18 3 = 22 := h.1 18 3 rfl
theorem rf_23_0 {σ : Sg} (h : RefI σ) : gR σ 23 0 = 24 := h.1 23 0 rfl
theorem rf_23_1 {σ : Sg} (h : RefI σ) : gR σ 23 1 = 25 := h.1 23 1 rfl
theorem rf_23_2 {σ : Sg} (h : RefI σ) : gR σ 23 2 = 26 := h.1 23 2 rfl
theorem rf_23_3 {σ : Sg} (h : RefI σ) : gR σ 23 3 = 27 := h.1 23 3 rfl
theorem rf_31_0 {σ : Sg} (h : RefI σ) : gR σ 31 0 = 32 := h.1 31 0 rfl
theorem rf_33_0 {σ : Sg} (h : RefI σ) : gR σ 33 0 = 1 := h.1 33 0 rfl
theorem rf_33_2 {σ : Sg} (h : RefI σ) : gR σ 33 2 = 34 := h.1 33 2 rfl
theorem rf_33_3 {σ : Sg} (h : RefI σ) : gR σ 33 3 = 35 := h.1 33 3 rfl
theorem rf_33_4 {σ : Sg} (h : RefI σ) : gR σ 33 4 = 36 := h.1 33 4 rfl
theorem rf_37_0 {σ : Sg} (h : RefI σ) : gR σ 37 0 = 38 := h.1 37 0 rfl
theorem rf_39_0 {σ : Sg} (h : RefI σ) : gR σ 39 0 = 47 := h.1 39 0 rfl
theorem rf_39_1 {σ : Sg} (h : RefI σ) : gR σ 39 1 = 49 := h.1 39 1 rfl
theorem rf_39_2 {σ : Sg} (h : RefI σ) : gR σ 39 2 = 51 := h.1 39 2 rfl
theorem rf_39_3 {σ : Sg} (h : RefI σ) : gR σ 39 3 = 53 := h.1 39 3 rfl
theorem rf_40_0 {σ : Sg} (h : RefI σ) : gR σ 40 0 = 41 := h.1 40 0 rfl
theorem rf_40_1 {σ : Sg} (h : RefI σ) : gR σ 40 1 = 42 := h.1 40 1 rfl
theorem rf_40_2 {σ : Sg} (h : RefI σ) : gR σ 40 2 = 43 := h.1 40 2 rfl
theorem rf_40_3 {σ : Sg} (h : RefI σ) : gR σ 40 3 = 44 := h.1 40 3 rfl
theorem rf_47_3 {σ : Sg} (h : RefI σ) : gR σ 47 3 = 48 := h.1 47 3 rfl
theorem rf_49_3 {σ : Sg} (h : RefI σ) : gR σ 49 3 = 50 := h.1 49 3 rfl
theorem rf_51_3 {σ : Sg} (h : RefI σ) : gR σ 51 3 = 52 := h.1 51 3 rfl
theorem rf_53_3 {σ : Sg} (h : RefI σ) : gR σ 53 3 = 54 := h.1 53 3 rfl
theorem rf_55_1 {σ : Sg} (h : RefI σ) : gR σ 55 1 = 56 := h.1 55 1 rfl
theorem rf_55_7 {σ : Sg} (h : RefI σ) : gR σ 55 7 = 57 := h.1 55 7 rfl
theorem rf_55_8 {σ : Sg} (h : RefI σ) : gR σ 55 8 = 58 := h.1 55 8 rfl
theorem rf_55_9 {σ : Sg} (h : RefI σ) : gR σ 55 9 = 59 := h.1 55 9 rfl
theorem rf_55_11 {σ : Sg} (h : RefI σ) : gR σ 55 11 = 60 := h.1 55 11 rfl
theorem rf_55_13 {σ : Sg} (h : RefI σ) : gR σ 55 13 = 61 := h.1 55 13 rfl
theorem rf_55_14 {σ : Sg} (h : RefI σ) : gR σ 55 14 = 62 := h.1 55 14 rfl
theorem rf_55_15 {σ : Sg} (h : RefI σ) : gR σ 55 15 = 63 := h.1 55 15 rfl
theorem rf_55_17 {σ : Sg} (h : RefI σ) : gR σ 55 17 = 64 := h.1 55 17 rfl
theorem rf_55_18 {σ : Sg} (h : RefI σ) : gR σ 55 18 = 65 := h.1 55 18 rfl
theorem rf_55_19 {σ : Sg} (h : RefI σ) : gR σ 55 19 = 66 := h.1 55 19 rfl
theorem rf_55_27 {σ : Sg} (h : RefI σ) : gR σ 55 27 = 67 := h.1 55 27 rfl
theorem rf_55_28 {σ : Sg} (h : RefI σ) : gR σ 55 28 = 68 := h.1 55 28 rfl
theorem rf_55_29 {σ : Sg} (h : RefI σ) : gR σ 55 29 = 69 := h.1 55 29 rfl
theorem rf_55_30 {σ : Sg} (h : RefI σ) : gR σ 55 30 = 70 := h.1 55 30 rfl
theorem rf_55_31 {σ : Sg} (h : RefI σ) : gR σ 55 31 = 71 := h.1 55 31 rfl
theorem rf_55_32 {σ : Sg} (h : RefI σ) : gR σ 55 32 = 72 := h.1 55 32 rfl
theorem rf_55_33 {σ : Sg} (h : RefI σ) : gR σ 55 33 = 73 := h.1 55 33 rfl
theorem rf_55_34 {σ : Sg} (h : RefI σ) : gR σ 55 34 = 74 := h.1 55 34 rfl
theorem rf_55_35 {σ : Sg} (h : RefI σ) : gR σ 55 35 = 75 := h.1 55 35 rfl
theorem rf_55_36 {σ : Sg} (h : RefI σ) : gR σ 55 36 = 76 := h.1 55 36 rfl
theorem rf_55_38 {σ : Sg} (h : RefI σ) : gR σ 55 38 = 77 := h.1 55 38 rfl
theorem rf_55_44 {σ : Sg} (h : RefI σ) : gR σ 55 44 = 78 := h.1 55 44 rfl
theorem rf_55_45 {σ : Sg} (h : RefI σ) : gR σ 55 45 = 79 := h.1 55 45 rfl
theorem rf_55_46 {σ : Sg} (h : RefI σ) : gR σ 55 46 = 80 := h.1 55 46 rfl
theorem rf_55_47 {σ : Sg} (h : RefI σ) : gR σ 55 47 = 81 := h.1 55 47 rfl
theorem aL_2 : aL 2 = 5 := rfl
theorem aL_3 : aL 3 = 5 := rfl
theorem aL_5 : aL 5 = 14 := rfl
theorem aL_6 : aL 6 = 14 := rfl
theorem aL_7 : aL 7 = 14 := rfl
theorem aL_8 : aL 8 = 14 := rfl
theorem aL_9 : aL 9 = 15 := rfl
theorem aL_10 : aL 10 = 14 := rfl
theorem aL_14 : aL 14 = 120 := rfl
theorem aL_15 : aL 15 = 120 := rfl
theorem aL_16 : aL 16 = 120 := rfl
theorem aL_17 : aL 17 = 120 := rfl
theorem aL_19 : aL 19 = 120 := rfl
theorem aL_20 : aL 20 = 120 := rfl
theorem aL_21 : aL 21 = 120 := rfl
theorem aL_22 : aL 22 = 120 := rfl
theorem aL_24 : aL 24 = 120 := rfl
theorem aL_25 : aL 25 = 120 := rfl
theorem aL_26 : aL 26 = 120 := rfl
theorem aL_27 : aL 27 = 120 := rfl
theorem aL_28 : aL 28 = 14 := rfl
theorem aL_29 : aL 29 = 30 := rfl
theorem aL_30 : aL 30 = 30 := rfl
theorem aL_32 : aL 32 = 80 := rfl
theorem aL_34 : aL 34 = 14 := rfl
theorem aL_35 : aL 35 = 14 := rfl
theorem aL_36 : aL 36 = 14 := rfl
theorem aL_38 : aL 38 = 140 := rfl
theorem aL_39 : aL 39 = 4 := rfl
theorem aL_40 : aL 40 = 4 := rfl
theorem aL_41 : aL 41 = 14 := rfl
theorem aL_42 : aL 42 = 14 := rfl
theorem aL_43 : aL 43 = 14 := rfl
theorem aL_44 : aL 44 = 14 := rfl
theorem aL_45 : aL 45 = 4 := rfl
theorem aL_46 : aL 46 = 14 := rfl
theorem aL_48 : aL 48 = 48 := rfl
theorem aL_50 : aL 50 = 48 := rfl
theorem aL_52 : aL 52 = 48 := rfl
theorem aL_54 : aL 54 = 48 := rfl
theorem aL_56 : aL 56 = 5 := rfl
theorem aL_57 : aL 57 = 14 := rfl
theorem aL_58 : aL 58 = 14 := rfl
theorem aL_59 : aL 59 = 14 := rfl
theorem aL_60 : aL 60 = 14 := rfl
theorem aL_61 : aL 61 = 56 := rfl
theorem aL_62 : aL 62 = 4 := rfl
theorem aL_63 : aL 63 = 14 := rfl
theorem aL_64 : aL 64 = 196 := rfl
theorem aL_65 : aL 65 = 14 := rfl
theorem aL_66 : aL 66 = 14 := rfl
theorem aL_67 : aL 67 = 1792 := rfl
theorem aL_68 : aL 68 = 14 := rfl
theorem aL_69 : aL 69 = 1792 := rfl
theorem aL_70 : aL 70 = 1792 := rfl
theorem aL_71 : aL 71 = 1792 := rfl
theorem aL_72 : aL 72 = 70 := rfl
theorem aL_73 : aL 73 = 70 := rfl
theorem aL_74 : aL 74 = 14 := rfl
theorem aL_75 : aL 75 = 1792 := rfl
theorem aL_76 : aL 76 = 256 := rfl
theorem aL_77 : aL 77 = 80 := rfl
theorem aL_78 : aL 78 = 4 := rfl
theorem aL_79 : aL 79 = 4 := rfl
theorem aL_80 : aL 80 = 192 := rfl
theorem aL_81 : aL 81 = 48 := rfl
theorem lB_eq {α β : Type} (e : α) (k : α → β) : lB e k = k e := rfl
theorem bd_eq {α β : Type} (r : α) (σ : Sg) (k : α → Sg → Option β) : bd (some (r, σ)) k = k r σ := rfl
theorem ck_tt {α : Type} (k : Option α) : ck true k = k := rfl
theorem ck_of {α : Type} {b : Bool} (h : b = true) (k : Option α) : ck b k = k := by rw [h]; rfl
theorem gI_pI (σ : Sg) (p k : Nat) (v : Int32) (a b : Nat) : gI (pI σ p k v) a b = if a = p ∧ b = k then v else gI σ a b := rfl
theorem gI_pL (σ : Sg) (p k : Nat) (v : Int64) (a b : Nat) : gI (pL σ p k v) a b = gI σ a b := rfl
theorem gI_pR (σ : Sg) (p k v : Nat) (a b : Nat) : gI (pR σ p k v) a b = gI σ a b := rfl
theorem gL_pI (σ : Sg) (p k : Nat) (v : Int32) (a b : Nat) : gL (pI σ p k v) a b = gL σ a b := rfl
theorem gL_pL (σ : Sg) (p k : Nat) (v : Int64) (a b : Nat) : gL (pL σ p k v) a b = if a = p ∧ b = k then v else gL σ a b := rfl
theorem gL_pR (σ : Sg) (p k v : Nat) (a b : Nat) : gL (pR σ p k v) a b = gL σ a b := rfl
theorem gR_pI (σ : Sg) (p k : Nat) (v : Int32) (a b : Nat) : gR (pI σ p k v) a b = gR σ a b := rfl
theorem gR_pL (σ : Sg) (p k : Nat) (v : Int64) (a b : Nat) : gR (pL σ p k v) a b = gR σ a b := rfl
theorem gR_pR (σ : Sg) (p k v : Nat) (a b : Nat) : gR (pR σ p k v) a b = if a = p ∧ b = k then v else gR σ a b := rfl
theorem RefI_pI {σ : Sg} {p k : Nat} {v : Int32} (h : RefI σ) : RefI (pI σ p k v) := h
theorem RefI_pL {σ : Sg} {p k : Nat} {v : Int64} (h : RefI σ) : RefI (pL σ p k v) := h
theorem lit32 (n : Nat) : (OfNat.ofNat n : Int32) = nI n := rfl
theorem inb_nI {i n : Nat} (hi : i < 2 ^ 31) : inb (nI i) n = decide (i < n) := by
  unfold inb
  rw [nI_clamp hi]
  have h : ¬ nI i < 0 := nI_pos hi
  by_cases hn : i < n
  · rw [decide_eq_true hn]; exact decide_eq_true (fun z => z.elim h (fun z => by omega))
  · rw [decide_eq_false hn]; exact decide_eq_false (fun z => z (Or.inr (by omega)))
theorem b01_0 : b01 0 = true := rfl
theorem b01_1 : b01 1 = true := rfl
theorem b01_i {c : Prop} [Decidable c] : b01 (if c then 1 else 0) = true := by by_cases h : c <;> simp [h, b01]
theorem fx_go {S R : Type} {B : (S → Option R) → S → Option R} (st : Nat → S) {e : Option R} {n : Nat} (hs : ∀ i, i < n → ∀ rec, B rec (st i) = rec (st (i + 1))) (he : ∀ rec, B rec (st n) = e) : ∀ (d m N : Nat), n = m + d → d < N → fx B N (st m) = e
  | 0, m, N + 1, h, _ => by
    have : m = n := by omega
    subst this
    exact he _
  | d + 1, m, N + 1, h, hN => by
    show B (fx B N) (st m) = e
    rw [hs m (by omega)]
    exact fx_go st hs he d (m + 1) N (by omega) (by omega)
/-- a loop whose state at the i-th turn is known -/
theorem fx_for {S R : Type} {B : (S → Option R) → S → Option R} (st : Nat → S) {e : Option R} {n N : Nat} (hs : ∀ i, i < n → ∀ rec, B rec (st i) = rec (st (i + 1))) (he : ∀ rec, B rec (st n) = e) (hN : n < N) : fx B N (st 0) = e := fx_go st hs he n 0 N (by omega) hN
/-- a loop by an invariant: it ends with an e of which Q holds -/
theorem fx_inv {S R : Type} {B : (S → Option R) → S → Option R} (I : Nat → S → Prop) (Q : Option R → Prop) {n : Nat} (hs : ∀ i s, i < n → I i s → (∃ s', I (i + 1) s' ∧ ∀ rec, B rec s = rec s') ∨ (∃ e, Q e ∧ ∀ rec, B rec s = e)) (he : ∀ s, I n s → ∃ e, Q e ∧ ∀ rec, B rec s = e) : ∀ (d m N : Nat) (s : S), n = m + d → d < N → I m s → Q (fx B N s)
  | 0, m, N + 1, s, h, _, hI => by
    have : m = n := by omega
    subst this
    obtain ⟨e, hq, hb⟩ := he s hI
    show Q (B (fx B N) s)
    rw [hb]; exact hq
  | d + 1, m, N + 1, s, h, hN, hI => by
    show Q (B (fx B N) s)
    rcases hs m s (by omega) hI with ⟨s', hI', hb⟩ | ⟨e, hq, hb⟩
    · rw [hb]; exact fx_inv I Q hs he d (m + 1) N s' (by omega) (by omega) hI'
    · rw [hb]; exact hq
theorem FU_eq : FU = 1000000 := rfl
theorem i32_eq (x y : Int32) : x = y ↔ x.toInt = y.toInt := Int32.toInt_inj.symm
def bI (b : Bool) : Int32 := if b = true then 1 else 0
theorem bI_b01 (b : Bool) : b01 (bI b) = true := by cases b <;> rfl
theorem bI_toInt (b : Bool) : (bI b).toInt = if b = true then 1 else 0 := by cases b <;> rfl
theorem bI_0 (b : Bool) : bI b = 0 ↔ ¬ b = true := by cases b <;> decide
theorem fx_for0 {S R : Type} {B : (S → Option R) → S → Option R} (st : Nat → S) {s0 : S} (h0 : s0 = st 0) {e : Option R} {n N : Nat} (hs : ∀ i, i < n → ∀ rec, B rec (st i) = rec (st (i + 1))) (he : ∀ rec, B rec (st n) = e) (hN : n < N) : fx B N s0 = e := by rw [h0]; exact fx_for st hs he hN
/-- the same but for the ints of P and the longs of PL -/
def Ag (P PL : Nat → Nat → Prop) (σ σ' : Sg) : Prop := σ'.1 = σ.1 ∧ (∀ p k, ¬ P p k → gI σ' p k = gI σ p k) ∧ (∀ p k, ¬ PL p k → gL σ' p k = gL σ p k) ∧ ∀ p k, gR σ' p k = gR σ p k
theorem Ag.rf {P PL : Nat → Nat → Prop} {σ : Sg} : Ag P PL σ σ := ⟨rfl, fun _ _ _ => rfl, fun _ _ _ => rfl, fun _ _ => rfl⟩
theorem Ag.tr {P PL : Nat → Nat → Prop} {σ τ υ : Sg} (h : Ag P PL σ τ) (q : Ag P PL τ υ) : Ag P PL σ υ := ⟨q.1.trans h.1, fun p k z => (q.2.1 p k z).trans (h.2.1 p k z), fun p k z => (q.2.2.1 p k z).trans (h.2.2.1 p k z), fun p k => (q.2.2.2 p k).trans (h.2.2.2 p k)⟩
theorem Ag.mono {P PL Q QL : Nat → Nat → Prop} {σ τ : Sg} (h : Ag P PL σ τ) (h1 : ∀ p k, P p k → Q p k) (h2 : ∀ p k, PL p k → QL p k) : Ag Q QL σ τ := ⟨h.1, fun p k z => h.2.1 p k (fun y => z (h1 p k y)), fun p k z => h.2.2.1 p k (fun y => z (h2 p k y)), h.2.2.2⟩
theorem Ag.pI {P PL : Nat → Nat → Prop} {σ τ : Sg} (h : Ag P PL σ τ) {p k : Nat} {v : Int32} (hp : P p k) : Ag P PL σ (pI τ p k v) := ⟨h.1, fun a b z => by rw [gI_pI, if_neg (fun e => z (by rw [e.1, e.2]; exact hp))]; exact h.2.1 a b z, h.2.2.1, h.2.2.2⟩
theorem Ag.pL {P PL : Nat → Nat → Prop} {σ τ : Sg} (h : Ag P PL σ τ) {p k : Nat} {v : Int64} (hp : PL p k) : Ag P PL σ (pL τ p k v) := ⟨h.1, h.2.1, fun a b z => by rw [gL_pL, if_neg (fun e => z (by rw [e.1, e.2]; exact hp))]; exact h.2.2.1 a b z, h.2.2.2⟩
theorem Ag.ref {P PL : Nat → Nat → Prop} {σ τ : Sg} (h : Ag P PL σ τ) (q : RefI σ) : RefI τ := ⟨fun p k z => (h.2.2.2 p k).trans (q.1 p k z), by rw [h.2.2.2, h.2.2.2, h.2.2.2]; exact q.2⟩
theorem b01_n0 : b01 (nI 0) = true := rfl
theorem b01_n1 : b01 (nI 1) = true := rfl
theorem bI_t {P : Prop} [Decidable P] (h : P) : bI (decide P) = nI 1 := by rw [decide_eq_true h]; rfl
theorem bI_f {P : Prop} [Decidable P] (h : ¬ P) : bI (decide P) = nI 0 := by rw [decide_eq_false h]; rfl
theorem ofNat_nI (n : Nat) : Int32.ofNat n = nI n := rfl
theorem ck_d {α : Type} {P : Prop} [Decidable P] (h : P) (k : Option α) : ck (decide P) k = k := by rw [decide_eq_true h]; rfl
