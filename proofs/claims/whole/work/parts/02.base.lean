/-! the pictures: what the cells hold, by place (the order in which they were made) and number -/
abbrev Sg : Type := List (Nat × Nat) × (Nat → Nat → Int32) × (Nat → Nat → Int64) × (Nat → Nat → Nat)
def gI (σ : Sg) (p k : Nat) : Int32 := σ.2.1 p k
def gL (σ : Sg) (p k : Nat) : Int64 := σ.2.2.1 p k
def gR (σ : Sg) (p k : Nat) : Nat := σ.2.2.2 p k
def u2 {α : Type} (f : Nat → Nat → α) (p k : Nat) (v : α) : Nat → Nat → α := fun a b => if a = p ∧ b = k then v else f a b
def pI (σ : Sg) (p k : Nat) (v : Int32) : Sg := (σ.1, u2 σ.2.1 p k v, σ.2.2.1, σ.2.2.2)
def pL (σ : Sg) (p k : Nat) (v : Int64) : Sg := (σ.1, σ.2.1, u2 σ.2.2.1 p k v, σ.2.2.2)
def pR (σ : Sg) (p k : Nat) (v : Nat) : Sg := (σ.1, σ.2.1, σ.2.2.1, u2 σ.2.2.2 p k v)
/-- places from here on are no cells of the world: the script, the two static arrays -/
def SP : Nat := 1000000000
def NUL : Nat := 2000000000
def ro (ad : Nat → Nat) (r : Nat) : Option Nat := if r = NUL then none else some (ad r)
def clT (c : Nat) : vw_C := match c with
  | 0 => (RX0, TX0, 13)
  | 1 => (RX1, TX1, 3)
  | 2 => (RX2, TX2, 8)
  | 3 => (RX3, TX3, 9)
  | 4 => (RX4, TX4, 2)
  | 5 => (RX5, TX5, 9)
  | 6 => (RX6, TX6, 4)
  | 7 => (RX7, TX7, 5)
  | 8 => (RX8, TX8, 13)
  | _ => (RX9, TX9, 49)
def fty (c : Nat) : Nat → FieldType := match c with
  | 0 => tyX0
  | 1 => tyX1
  | 2 => tyX2
  | 3 => tyX3
  | 4 => tyX4
  | 5 => tyX5
  | 6 => tyX6
  | 7 => tyX7
  | 8 => tyX8
  | _ => tyX9
def nfc (c : Nat) : Nat := (clT c).2.2
def isRt (t : FieldType) : Bool := match t with
  | .object _ => true
  | .array _ => true
  | _ => false
def isR (c k : Nat) : Bool := isRt (fty c k)
def fv (ad : Nat → Nat) (σ : Sg) (p c k : Nat) : Value := if isR c k = true then va_rf (ro ad (gR σ p k)) else .int (gI σ p k)
def cel (cy : Nat → ClassId) (ad : Nat → Nat) (σ : Sg) (p : Nat) (q : Nat × Nat) : va_E :=
  if q.1 < 10 then .inr (q.1, (List.range (nfc q.1)).map (fv ad σ p q.1))
  else if q.1 = 11 then .inl (cy q.1, q.2, .inr (.inl (fun i => gL σ p i)))
  else if q.1 = 10 ∨ q.1 = 12 then .inl (cy q.1, q.2, .inl (fun i => gI σ p i))
  else .inl (cy q.1, q.2, .inr (.inr (.inr (.inr (fun i => ro ad (gR σ p i))))))
def wof (cy : Nat → ClassId) (ad : Nat → Nat) (σ : Sg) : va_W := σ.1.mapIdx (fun p q => (ad p, cel cy ad σ p q))
theorem wof_at {cy : Nat → ClassId} {ad : Nat → Nat} {σ : Sg} {p : Nat} {q : Nat × Nat} (h : σ.1[p]? = some q) : (wof cy ad σ)[p]? = some (ad p, cel cy ad σ p q) := by
  unfold wof
  rw [List.getElem?_mapIdx, h]
  rfl
theorem wof_len {cy : Nat → ClassId} {ad : Nat → Nat} {σ : Sg} : (wof cy ad σ).length = σ.1.length := by
  unfold wof
  rw [List.length_mapIdx]
theorem cel_o {cy : Nat → ClassId} {ad : Nat → Nat} {σ : Sg} {p c n : Nat} (h : c < 10) : cel cy ad σ p (c, n) = .inr (c, (List.range (nfc c)).map (fv ad σ p c)) := if_pos h
theorem cel_i {cy : Nat → ClassId} {ad : Nat → Nat} {σ : Sg} {p n : Nat} : cel cy ad σ p (10, n) = .inl (cy 10, n, .inl (fun i => gI σ p i)) := rfl
theorem cel_z {cy : Nat → ClassId} {ad : Nat → Nat} {σ : Sg} {p n : Nat} : cel cy ad σ p (12, n) = .inl (cy 12, n, .inl (fun i => gI σ p i)) := rfl
theorem cel_l {cy : Nat → ClassId} {ad : Nat → Nat} {σ : Sg} {p n : Nat} : cel cy ad σ p (11, n) = .inl (cy 11, n, .inr (.inl (fun i => gL σ p i))) := rfl
theorem cel_13 {cy : Nat → ClassId} {ad : Nat → Nat} {σ : Sg} {p n : Nat} : cel cy ad σ p (13, n) = .inl (cy 13, n, .inr (.inr (.inr (.inr (fun i => ro ad (gR σ p i)))))) := rfl
theorem cel_14 {cy : Nat → ClassId} {ad : Nat → Nat} {σ : Sg} {p n : Nat} : cel cy ad σ p (14, n) = .inl (cy 14, n, .inr (.inr (.inr (.inr (fun i => ro ad (gR σ p i)))))) := rfl
theorem u2_ne {α : Type} {f : Nat → Nat → α} {p k a b : Nat} {v : α} (h : a ≠ p) : u2 f p k v a b = f a b := if_neg (fun q => h q.1)
theorem u2_nk {α : Type} {f : Nat → Nat → α} {p k a b : Nat} {v : α} (h : b ≠ k) : u2 f p k v a b = f a b := if_neg (fun q => h q.2)
theorem u2_eq {α : Type} {f : Nat → Nat → α} {p k : Nat} {v : α} : u2 f p k v p k = v := if_pos ⟨rfl, rfl⟩
/-- two pictures of the same shape that are alike but at one place -/
theorem wof_set {cy : Nat → ClassId} {ad : Nat → Nat} {σ τ : Sg} {p : Nat} {q : Nat × Nat} (h : σ.1[p]? = some q) (hs : τ.1 = σ.1) (hI : ∀ a, a ≠ p → ∀ k, gI τ a k = gI σ a k) (hL : ∀ a, a ≠ p → ∀ k, gL τ a k = gL σ a k) (hR : ∀ a, a ≠ p → ∀ k, gR τ a k = gR σ a k) : wof cy ad τ = (wof cy ad σ).set p (ad p, cel cy ad τ p q) := by
  apply List.ext_getElem?
  intro i
  by_cases hi : i = p
  · subst hi
    rw [List.getElem?_set_self (by rw [wof_len]; exact (List.getElem?_eq_some_iff.mp h).1)]
    exact wof_at (by rw [hs]; exact h)
  · rw [List.getElem?_set_ne (Ne.symm hi)]
    unfold wof
    rw [List.getElem?_mapIdx, List.getElem?_mapIdx, hs]
    cases σ.1[i]? with
    | none => rfl
    | some x =>
      have e : cel cy ad τ i x = cel cy ad σ i x := by
        have h1 : fv ad τ i x.1 = fv ad σ i x.1 := funext fun k => by unfold fv; rw [hI i hi, hR i hi]
        unfold cel
        rw [h1]
        simp only [hI i hi, hL i hi, hR i hi]
      show some (ad i, cel cy ad τ i x) = some (ad i, cel cy ad σ i x)
      rw [e]
theorem pI_set {cy : Nat → ClassId} {ad : Nat → Nat} {σ : Sg} {p k : Nat} {v : Int32} {q : Nat × Nat} (h : σ.1[p]? = some q) : wof cy ad (pI σ p k v) = (wof cy ad σ).set p (ad p, cel cy ad (pI σ p k v) p q) :=
  wof_set h rfl (fun _ ha _ => u2_ne ha) (fun _ _ _ => rfl) (fun _ _ _ => rfl)
theorem pL_set {cy : Nat → ClassId} {ad : Nat → Nat} {σ : Sg} {p k : Nat} {v : Int64} {q : Nat × Nat} (h : σ.1[p]? = some q) : wof cy ad (pL σ p k v) = (wof cy ad σ).set p (ad p, cel cy ad (pL σ p k v) p q) :=
  wof_set h rfl (fun _ _ _ => rfl) (fun _ ha _ => u2_ne ha) (fun _ _ _ => rfl)
theorem pR_set {cy : Nat → ClassId} {ad : Nat → Nat} {σ : Sg} {p k : Nat} {v : Nat} {q : Nat × Nat} (h : σ.1[p]? = some q) : wof cy ad (pR σ p k v) = (wof cy ad σ).set p (ad p, cel cy ad (pR σ p k v) p q) :=
  wof_set h rfl (fun _ _ _ => rfl) (fun _ _ _ => rfl) (fun _ ha _ => u2_ne ha)
theorem range_set {f g : Nat → Value} {N k : Nat} {v : Value} (hk : g k = v) (h : ∀ j, j ≠ k → g j = f j) : (List.range N).map g = ((List.range N).map f).set k v := by
  apply List.ext_getElem?
  intro i
  by_cases hi : i = k
  · subst hi
    by_cases hl : i < N
    · rw [List.getElem?_set_self (by simp [hl]), List.getElem?_map, List.getElem?_range hl, ← hk]
      rfl
    · rw [List.getElem?_eq_none (by simp; omega), List.getElem?_eq_none (by simp; omega)]
  · rw [List.getElem?_set_ne (Ne.symm hi), List.getElem?_map, List.getElem?_map]
    by_cases hl : i < N
    · rw [List.getElem?_range hl]
      show some (g i) = some (f i)
      rw [h i hi]
    · rw [List.getElem?_eq_none (by simp; omega)]
      rfl
theorem cel_pI {cy : Nat → ClassId} {ad : Nat → Nat} {σ : Sg} {p c n k : Nat} {v : Int32} (h : c < 10) (hr : isR c k = false) : cel cy ad (pI σ p k v) p (c, n) = .inr (c, ((List.range (nfc c)).map (fv ad σ p c)).set k (.int v)) := by
  rw [cel_o h, range_set (f := fv ad σ p c) (k := k) (v := .int v)]
  · unfold fv gI pI; rw [hr]; simp [u2]
  · intro j hj
    unfold fv gI gR pI
    simp [u2, hj]
theorem cel_pR {cy : Nat → ClassId} {ad : Nat → Nat} {σ : Sg} {p c n k r : Nat} (h : c < 10) (hr : isR c k = true) : cel cy ad (pR σ p k r) p (c, n) = .inr (c, ((List.range (nfc c)).map (fv ad σ p c)).set k (va_rf (ro ad r))) := by
  rw [cel_o h, range_set (f := fv ad σ p c) (k := k) (v := va_rf (ro ad r))]
  · unfold fv gR pR; rw [hr]; simp [u2]
  · intro j hj
    unfold fv gI gR pR
    simp [u2, hj]
theorem upd_pI {σ : Sg} {p k : Nat} {v : Int32} : (fun i => gI (pI σ p k v) p i) = upd (fun i => gI σ p i) k v := by
  funext i
  unfold gI pI upd u2
  by_cases h : i = k <;> simp [h]
theorem upd_pL {σ : Sg} {p k : Nat} {v : Int64} : (fun i => gL (pL σ p k v) p i) = vp_updL (fun i => gL σ p i) k v := by
  funext i
  unfold gL pL vp_updL u2
  by_cases h : i = k <;> simp [h]
theorem upd_pR {ad : Nat → Nat} {σ : Sg} {p k r : Nat} (hr : r ≠ NUL) : (fun i => ro ad (gR (pR σ p k r) p i)) = va_up (fun i => ro ad (gR σ p i)) k (some (ad r)) := by
  funext i
  unfold gR pR va_up u2
  by_cases h : i = k <;> simp [h, ro, hr]
/-! what the tables say of the classes -/
def gw_tbl : List Cond := lw_tbl.filter goodWord
theorem mw {i : Nat} {w : Cond} (h : tables_1[i]? = some w) (hg : goodWord w = true) : w ∈ gw_tbl := List.mem_filter.mpr ⟨List.mem_append_right _ (List.mem_of_getElem? h), hg⟩
theorem ms {i : Nat} {w : Cond} (h : (k2_sels lw_privs)[i]? = some w) (hg : goodWord w = true) : w ∈ gw_tbl := List.mem_filter.mpr ⟨List.mem_append_left _ (List.mem_of_getElem? h), hg⟩
theorem gw_gin {ws : List Cond} (h : ∀ w ∈ ws, w ∈ gw_tbl) : GoodIn gw_tbl ws := fun w hw => ⟨h w hw, good_of_word (List.mem_filter.mp (h w hw)).2⟩
theorem inX0 : ∀ w ∈ u_ws RX0 TX0 13, w ∈ gw_tbl := by decide +kernel
theorem inX1 : ∀ w ∈ u_ws RX1 TX1 3, w ∈ gw_tbl := by decide +kernel
theorem inX2 : ∀ w ∈ u_ws RX2 TX2 8, w ∈ gw_tbl := by decide +kernel
theorem inX3 : ∀ w ∈ u_ws RX3 TX3 9, w ∈ gw_tbl := by decide +kernel
theorem inX4 : ∀ w ∈ u_ws RX4 TX4 2, w ∈ gw_tbl := by decide +kernel
theorem inX5 : ∀ w ∈ u_ws RX5 TX5 9, w ∈ gw_tbl := by decide +kernel
theorem inX6 : ∀ w ∈ u_ws RX6 TX6 4, w ∈ gw_tbl := by decide +kernel
theorem inX7 : ∀ w ∈ u_ws RX7 TX7 5, w ∈ gw_tbl := by decide +kernel
theorem inX8 : ∀ w ∈ u_ws RX8 TX8 13, w ∈ gw_tbl := by decide +kernel
theorem inX9 : ∀ w ∈ u_ws RX9 TX9 49, w ∈ gw_tbl := by decide +kernel
theorem lt10 {P : Nat → Prop} (h0 : P 0) (h1 : P 1) (h2 : P 2) (h3 : P 3) (h4 : P 4) (h5 : P 5) (h6 : P 6) (h7 : P 7) (h8 : P 8) (h9 : P 9) (c : Nat) (h : c < 10) : P c := by
  match c, h with
  | 0, _ => exact h0
  | 1, _ => exact h1
  | 2, _ => exact h2
  | 3, _ => exact h3
  | 4, _ => exact h4
  | 5, _ => exact h5
  | 6, _ => exact h6
  | 7, _ => exact h7
  | 8, _ => exact h8
  | 9, _ => exact h9
  | c + 10, h => exact absurd h (by omega)
theorem cl_in : ∀ c, c < 10 → ∀ w ∈ u_ws (clT c).1 (clT c).2.1 (clT c).2.2, w ∈ gw_tbl := lt10 inX0 inX1 inX2 inX3 inX4 inX5 inX6 inX7 inX8 inX9
theorem cl_at : ∀ c, c < 10 → vwCl[c]? = some (clT c) := lt10 rfl rfl rfl rfl rfl rfl rfl rfl rfl rfl
theorem cl_ty : ∀ c, c < 10 → ∀ k, k < (clT c).2.2 → parseFieldDescriptor ((clT c).2.1 k).2.2.1 = some (fty c k) := lt10 tyX0_ok tyX1_ok tyX2_ok tyX3_ok tyX4_ok tyX5_ok tyX6_ok tyX7_ok tyX8_ok tyX9_ok
theorem cl_nm : ∀ c, c < 10 → ∀ a, a < (clT c).2.2 → ∀ b, b < (clT c).2.2 → a ≠ b → ((clT c).2.1 a).2.1 ≠ ((clT c).2.1 b).2.1 := lt10 nmX0 nmX1 nmX2 nmX3 nmX4 nmX5 nmX6 nmX7 nmX8 nmX9
/-! the cells of the steady world: kind (0 to 9 an object of that class, 10 ints, 11 longs, 12 booleans, 13 Sheets, 14 rows of ints) and size -/
def SH : List (Nat × Nat) := [(8, 13), (1, 3), (10, 5), (10, 5), (2, 8), (10, 14), (10, 14), (10, 14), (10, 14), (10, 15), (10, 14), (0, 13), (5, 9), (7, 5), (11, 120), (10, 120), (10, 120), (11, 120), (7, 5), (11, 120), (10, 120), (10, 120), (11, 120), (7, 5), (11, 120), (10, 120), (10, 120), (11, 120), (10, 14), (11, 30), (12, 30), (4, 2), (10, 80), (3, 9), (10, 14), (10, 14), (10, 14), (4, 2), (10, 140), (13, 4), (14, 4), (10, 14), (10, 14), (10, 14), (10, 14), (12, 4), (10, 14), (6, 4), (11, 48), (6, 4), (11, 48), (6, 4), (11, 48), (6, 4), (11, 48), (9, 49), (10, 5), (10, 14), (10, 14), (10, 14), (10, 14), (10, 56), (12, 4), (10, 14), (10, 196), (10, 14), (10, 14), (10, 1792), (10, 14), (10, 1792), (10, 1792), (10, 1792), (10, 70), (10, 70), (10, 14), (12, 1792), (10, 256), (10, 80), (10, 4), (10, 4), (11, 192), (11, 48)]
def kd (p c : Nat) : Prop := ∃ n, SH[p]? = some (c, n)
def aL (p : Nat) : Nat := (SH.getD p (0, 0)).2
theorem aL_of {p c n : Nat} (h : SH[p]? = some (c, n)) : aL p = n := by
  unfold aL
  rw [List.getD_eq_getElem?_getD, h]
  rfl
/-- the kind that a field or an element must refer to -/
def fkT (t : FieldType) : Nat := match t with
  | .object s => if s = RX0 then 0 else if s = RX1 then 1 else if s = RX2 then 2 else if s = RX3 then 3 else if s = RX4 then 4 else if s = RX5 then 5 else if s = RX6 then 6 else if s = RX7 then 7 else 99
  | .array .int => 10
  | .array .long => 11
  | .array .boolean => 12
  | .array (.object _) => 13
  | .array (.array _) => 14
  | _ => 99
def fk (c k : Nat) : Nat := if c = 13 then 6 else if c = 14 then 10 else fkT (fty c k)
/-- the steady world: its shape, and every reference of the kind that is due -/
def St (σ : Sg) : Prop := σ.1 = SH ∧ ∀ p c n k, SH[p]? = some (c, n) → k < n → (c = 13 ∨ c = 14 ∨ (c < 10 ∧ isR c k = true)) → kd (gR σ p k) (fk c k)
def wfS (σ : Sg) : Prop := σ.1.length ≤ SP ∧ ∀ p k, gR σ p k < σ.1.length ∨ gR σ p k = NUL
def PP (ad : Nat → Nat) (n : Nat) (ad' : Nat → Nat) : Prop := ∀ i, i < n ∨ SP ≤ i → ad' i = ad i
def tysC (cy : Nat → ClassId) : List (ClassId × FieldType) := [(cy 10, .int), (cy 11, .long), (cy 12, .boolean), (cy 13, .object RX6), (cy 14, .array .int)]
/-- the class of rows of ints, as the tables have it -/
def AOA (U : State) : Prop := (Cond.arrayOver (.array .int)).before #[] U = true
theorem AOA.spec {U : State} (h : AOA U) : ∃ comp c k, U.vm.findClass (FieldType.array .int).toString = some comp ∧ (U.vm.classes.findIdx? fun x => match x.kind with | .array component _ => component == comp | _ => false) = some c ∧ U.vm.classes[c]? = some k ∧ k.kind = .array comp (.array .int) ∧ U.vm.findClass ("[" ++ (FieldType.array .int).toString) = some c := by
  unfold AOA at h
  simp only [Cond.before, Cond.holds, Cond.value, beq_iff_eq] at h
  cases hc : U.vm.findClass (FieldType.array .int).toString with
  | none => simp [hc] at h
  | some comp =>
    simp only [hc, Option.bind_some, Option.bind_eq_some_iff, Option.map_eq_some_iff] at h
    obtain ⟨c, hi, k, hk, hb⟩ := h
    obtain ⟨hlt, hp, -⟩ := Array.findIdx?_eq_some_iff_getElem.mp hi
    have hkk : U.vm.classes[c] = k := (Array.getElem?_eq_some_iff.mp hk).2
    rw [hkk] at hp
    cases hkind : k.kind with
    | array component ty =>
      rw [hkind] at hb hp
      simp at hb hp
      exact ⟨comp, c, k, rfl, hi, hk, by rw [hkind, hp, hb.1], hb.2⟩
    | _ => rw [hkind] at hb; simp at hb
theorem AOA.moved {u U : State} (hvm : u.vm.Alike U.vm) (h : AOA u) : AOA U := by
  obtain ⟨comp, c, k, h1, h2, h3, h4, h5⟩ := h.spec
  obtain ⟨k', hk', he⟩ := hvm.2.2 _ _ h3
  have hi : (U.vm.classes.findIdx? fun (x : Class) => match x.kind with | .array component _ => component == comp | _ => false) = some c := by
    have e1 := va_idx_bare U.vm comp
    have e2 := va_idx_bare u.vm comp
    have e3 : U.vm.bare = u.vm.bare := by first | exact hvm.bare_eq | exact hvm.bare_eq.symm
    rw [e3] at e1
    exact (e1.symm.trans e2).trans h2
  have hkind : k'.kind = .array comp (.array .int) := by rw [he]; exact h4
  have f1 : U.vm.findClass (FieldType.array .int).toString = some comp := by rw [hvm.findClass]; exact h1
  have f2 : U.vm.findClass ("[" ++ (FieldType.array .int).toString) = some c := by rw [hvm.findClass]; exact h5
  unfold AOA Cond.before Cond.holds
  simp only [Cond.value]
  rw [f1, Option.bind_some]
  refine (congrArg (fun o : Option Nat => (o.bind (fun c => (U.vm.classes[c]?).map fun (k : Class) => match k.kind with | .array _ ty => decide (ty = FieldType.array .int) && decide (U.vm.findClass ("[" ++ (FieldType.array .int).toString) = some c) | _ => false) == some true)) hi).trans ?_
  simp [hk', hkind, f2]
/-- what the tables say that no method's words may hold -/
def XF (U : State) : Prop := va_AO RX6 U ∧ AOA U ∧ va_Nw (.methodLinkNest RX8 9 yX1_init RX8) U ∧ va_Nw (.methodLinkNest RX8 18 yX2_init RX8) U ∧ va_Nw (.methodLinkNest RX5 15 yX7_init RX8) U ∧ va_Nw (.methodLinkNest RX8 89 yX6_init RX8) U
theorem XF.same {u U : State} (h : u.vm = U.vm) (q : XF u) : XF U := ⟨va_AO.moved (by rw [h]; exact Vm.Alike.refl U.vm) q.1, AOA.moved (by rw [h]; exact Vm.Alike.refl U.vm) q.2.1, va_Nw.same rfl h q.2.2.1, va_Nw.same rfl h q.2.2.2.1, va_Nw.same rfl h q.2.2.2.2.1, va_Nw.same rfl h q.2.2.2.2.2⟩
theorem XF.warm {u U : State} (h : u.WarmedH U.vm) (q : XF u) : XF U := ⟨va_AO.moved h.alike q.1, AOA.moved h.alike q.2.1, va_Nw.warmM h q.2.2.1, va_Nw.warmM h q.2.2.2.1, va_Nw.warmM h q.2.2.2.2.1, va_Nw.warmM h q.2.2.2.2.2⟩
/-- what stands outside the world: the two static arrays -/
def SF (base : Nat) (ad : Nat → Nat) (U : State) : Prop :=
  va_Z "LuteTabs$Lute" "LEAST_SETTING" "[I" (.ref (ad (SP + 1))) (fun q => base ≤ q) U U.heap ∧ va_Z "LuteTabs$Lute" "GREATEST_SETTING" "[I" (.ref (ad (SP + 2))) (fun q => base ≤ q) U U.heap ∧
  va_T .int (ad (SP + 1)) 5 (fun j => .int (if j = 0 then 1 else 0)) (fun q => base ≤ q) U U.heap ∧ va_T .int (ad (SP + 2)) 5 (fun j => .int (if j = 1 then 6 else 9)) (fun q => base ≤ q) U U.heap ∧ XF U
abbrev Cx : Type := Program × Launch × Env × Room × State × MethodId × Array Value × List Frame × Method × Code × va_G × (Nat → ClassId) × (Nat → Prop) × Nat × Nat × (Nat → Nat) × Nat × Nat × (Sg → Prop)
abbrev kp (K : Cx) : Program := K.1
abbrev kl (K : Cx) : Launch := K.2.1
abbrev ke (K : Cx) : Env := K.2.2.1
abbrev kR (K : Cx) : Room := K.2.2.2.1
abbrev ks (K : Cx) : State := K.2.2.2.2.1
abbrev km (K : Cx) : MethodId := K.2.2.2.2.2.1
abbrev ka (K : Cx) : Array Value := K.2.2.2.2.2.2.1
abbrev kb (K : Cx) : List Frame := K.2.2.2.2.2.2.2.1
abbrev kme (K : Cx) : Method := K.2.2.2.2.2.2.2.2.1
abbrev kc (K : Cx) : Code := K.2.2.2.2.2.2.2.2.2.1
abbrev kD (K : Cx) : va_G := K.2.2.2.2.2.2.2.2.2.2.1
abbrev kcy (K : Cx) : Nat → ClassId := K.2.2.2.2.2.2.2.2.2.2.2.1
abbrev kA (K : Cx) : Nat → Prop := K.2.2.2.2.2.2.2.2.2.2.2.2.1
abbrev kmc (K : Cx) : Nat := K.2.2.2.2.2.2.2.2.2.2.2.2.2.1
abbrev kms (K : Cx) : Nat := K.2.2.2.2.2.2.2.2.2.2.2.2.2.2.1
abbrev kad (K : Cx) : Nat → Nat := K.2.2.2.2.2.2.2.2.2.2.2.2.2.2.2.1
abbrev kn (K : Cx) : Nat := K.2.2.2.2.2.2.2.2.2.2.2.2.2.2.2.2.1
abbrev kba (K : Cx) : Nat := K.2.2.2.2.2.2.2.2.2.2.2.2.2.2.2.2.2.1
abbrev kiv (K : Cx) : Sg → Prop := K.2.2.2.2.2.2.2.2.2.2.2.2.2.2.2.2.2.2
def Inv (K : Cx) (σ : Sg) (ad : Nat → Nat) (H : Heap) (locs : List Loc) : Prop :=
  va_P (kD K) vwCl (wof (kcy K) ad σ) H ∧ va_D (kA K) (wof (kcy K) ad σ) ∧ wfS σ ∧ kiv K σ ∧ va_S (kA K) (ks K).heap H locs ∧ PP (kad K) (kn K) ad ∧ kn K ≤ σ.1.length
def okv (σ : Sg) (v : Value) : Prop := match v with
  | .ref a => a < σ.1.length ∨ SP ≤ a
  | _ => True
def oks (σ : Sg) (lv : List (Nat × Value)) (st : List Value) : Prop := (∀ q ∈ lv, okv σ q.2) ∧ ∀ v ∈ st, okv σ v
def cv (ad : Nat → Nat) (v : Value) : Value := match v with
  | .ref a => .ref (ad a)
  | v => v
def cvp (ad : Nat → Nat) (q : Nat × Value) : Nat × Value := (q.1, cv ad q.2)
abbrev WK (K : Cx) (H : Heap) (locs : List Loc) (c1 s1 : Nat) (Q : State → Prop) (g : JFrame) : Prop := W (kp K) (kl K) (ke K) (kR K) (ks K) (km K) (ka K) (kb K) (kme K) (kc K) H locs c1 s1 Q g
/-- from pc on, with these locals, this stack and this picture, the method comes to its end as o says (o none: nothing is said) -/
def T {ρ : Type} (K : Cx) (QQ : ρ → Sg → Array Value → State → Outcome → State → Prop) (pc : Nat) (lv : List (Nat × Value)) (st : List Value) (c1 s1 : Nat) (σ : Sg) (o : Option (ρ × Sg)) : Prop :=
  ∀ (r : ρ) (σ' : Sg), o = some (r, σ') → ∀ (ad : Nat → Nat) (H : Heap) (locs : List Loc) (ls : Array Slot), Inv K σ ad H locs → oks σ lv st → lv_has ls (kc K).maxLocals (lv.map (cvp ad)) →
    WK K H locs c1 s1 (MQ (kb K) (QQ r σ') (ka K) (ks K) (kmc K) (kms K) (kA K)) (F0 (km K) pc ls (st.map (cv ad)))
/-- what a method may count on -/
def Ok (K : Cx) (cc : ByteArray) (own : String) (nL : Nat) (rm : Room) (ret : Option FieldType) : Prop :=
  (kp K).tables.exec = Jvm.exec ∧ (kc K).code = cc ∧ (kc K).maxLocals = nL ∧ (ks K).vm.findClass own = some (km K).cls ∧ (∀ w ∈ gw_tbl, w.before (ka K) (ks K) = true) ∧ (kme K).locks = false ∧ (kme K).sig.returnType = ret ∧ kR K = rm ∧
  va_K (kD K) vwCl (tysC (kcy K)) (ks K) ∧ (∀ q, (ks K).heap.size ≤ q → kA K q) ∧ (∀ q, kA K q → kba K ≤ q) ∧ SF (kba K) (kad K) (ks K) ∧ kba K ≤ (ks K).heap.size
/-! the words that the printed functions are made of -/
def ck {α : Type} (b : Bool) (k : Option α) : Option α := if b = true then k else none
def bd {α β : Type} (o : Option (α × Sg)) (k : α → Sg → Option β) : Option β := match o with
  | none => none
  | some (r, σ) => k r σ
def lB {α β : Type} (e : α) (k : α → β) : β := k e
def inb (i : Int32) (n : Nat) : Bool := decide (¬ (i < 0 ∨ n ≤ i.toNatClampNeg))
def fx {S R : Type} (B : (S → Option R) → S → Option R) : Nat → S → Option R
  | 0, _ => none
  | n + 1, s => B (fx B n) s
/-- enough turns for every loop -/
def FU : Nat := 1000000
def swt {α : Type} (l : List (Option α)) (n : Nat) : Option α := l.getD n none
