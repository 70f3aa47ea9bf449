/-! rules of the growing world: for the constructors, and the law's own start -/
def Gr (_ : Sg) : Prop := True
def newS (σ : Sg) (q : Nat × Nat) : Sg := (σ.1 ++ [q], fun a b => if a = σ.1.length then 0 else σ.2.1 a b, fun a b => if a = σ.1.length then 0 else σ.2.2.1 a b, fun a b => if a = σ.1.length then NUL else σ.2.2.2 a b)
def gup (ad : Nat → Nat) (n a : Nat) : Nat → Nat := fun i => if i = n then a else ad i
theorem gup_ne {ad : Nat → Nat} {n a i : Nat} (h : i ≠ n) : gup ad n a i = ad i := if_neg h
theorem gup_eq {ad : Nat → Nat} {n a : Nat} : gup ad n a n = a := if_pos rfl
theorem gup_PP {ad : Nat → Nat} {n a : Nat} (h : n < SP) : PP ad n (gup ad n a) := fun i hi => gup_ne (by rcases hi with z | z <;> omega)
theorem newS_wof {cy : Nat → ClassId} {ad : Nat → Nat} {σ : Sg} {q : Nat × Nat} {a : Nat} (hw : wfS σ) (hl : σ.1.length < SP) : wof cy (gup ad σ.1.length a) (newS σ q) = wof cy ad σ ++ [(a, cel cy (gup ad σ.1.length a) (newS σ q) σ.1.length q)] := by
  apply List.ext_getElem?
  intro i
  by_cases h1 : i < σ.1.length
  · rw [List.getElem?_append_left (by rw [wof_len]; exact h1)]
    obtain ⟨x, hx⟩ : ∃ x, σ.1[i]? = some x := ⟨_, List.getElem?_eq_getElem h1⟩
    have hx2 : (newS σ q).1[i]? = some x := by
      show (σ.1 ++ [q])[i]? = some x
      rw [List.getElem?_append_left h1]; exact hx
    rw [wof_at hx, wof_at hx2, gup_ne (Nat.ne_of_lt h1)]
    have hI : ∀ k, gI (newS σ q) i k = gI σ i k := fun k => if_neg (Nat.ne_of_lt h1)
    have hL : ∀ k, gL (newS σ q) i k = gL σ i k := fun k => if_neg (Nat.ne_of_lt h1)
    have hR : ∀ k, gR (newS σ q) i k = gR σ i k := fun k => if_neg (Nat.ne_of_lt h1)
    have hr : ∀ k, ro (gup ad σ.1.length a) (gR σ i k) = ro ad (gR σ i k) := fun k => by
      unfold ro
      rcases hw.2 i k with z | z
      · rw [gup_ne (Nat.ne_of_lt z)]
      · rw [if_pos z, if_pos z]
    have e : cel cy (gup ad σ.1.length a) (newS σ q) i x = cel cy ad σ i x := by
      have h2 : fv (gup ad σ.1.length a) (newS σ q) i x.1 = fv ad σ i x.1 := funext fun k => by unfold fv; rw [hI, hR, hr]
      unfold cel
      rw [h2]
      simp only [hI, hL, hR, hr]
    rw [e]
  · by_cases h2 : i = σ.1.length
    · subst h2
      rw [List.getElem?_append_right (by rw [wof_len]; exact Nat.le_refl _), wof_len, Nat.sub_self]
      have hx2 : (newS σ q).1[σ.1.length]? = some q := by
        show (σ.1 ++ [q])[σ.1.length]? = some q
        rw [List.getElem?_append_right (Nat.le_refl _), Nat.sub_self]; rfl
      rw [wof_at hx2, gup_eq]
      rfl
    · rw [List.getElem?_eq_none (by rw [wof_len]; show (σ.1 ++ [q]).length ≤ i; rw [List.length_append]; show σ.1.length + 1 ≤ i; omega), List.getElem?_eq_none (by rw [List.length_append, wof_len]; show σ.1.length + 1 ≤ i; omega)]
theorem newS_wf {σ : Sg} {q : Nat × Nat} (hw : wfS σ) (hl : σ.1.length < SP) : wfS (newS σ q) := by
  have e : (newS σ q).1.length = σ.1.length + 1 := by show (σ.1 ++ [q]).length = _; rw [List.length_append]; rfl
  refine ⟨by rw [e]; exact hl, fun p k => ?_⟩
  rw [e]
  show (if p = σ.1.length then NUL else σ.2.2.2 p k) < _ ∨ (if p = σ.1.length then NUL else σ.2.2.2 p k) = NUL
  by_cases h : p = σ.1.length
  · rw [if_pos h]; exact Or.inr rfl
  · rw [if_neg h]
    rcases hw.2 p k with z | z
    · exact Or.inl (Nat.lt_succ_of_lt z)
    · exact Or.inr z
theorem newS_len {σ : Sg} {q : Nat × Nat} : (newS σ q).1.length = σ.1.length + 1 := by show (σ.1 ++ [q]).length = _; rw [List.length_append]; rfl
theorem cl_dv : ∀ c, c < 10 → ∀ j, j < (clT c).2.2 → defaultValue (fty c j) = if isR c j = true then .null else .int 0 := lt10 (by decide) (by decide) (by decide) (by decide) (by decide) (by decide) (by decide) (by decide) (by decide) (by decide)
def gk (σ : Sg) (p c : Nat) : Bool := decide (σ.1[p]? = some (c, nfc c))
def gi (σ : Sg) (p : Nat) (i : Int32) : Bool := match σ.1[p]? with
  | some q => q.1 == 10 && inb i q.2
  | none => false
def ga (σ : Sg) (p : Nat) (i : Int32) (v : Nat) : Bool := (match σ.1[p]? with
  | some q => q.1 == 13 && inb i q.2
  | none => false) && decide (σ.1[v]? = some (6, 4))
def glt (σ : Sg) (q : Nat) : Bool := decide (q < σ.1.length)
def gnew (σ : Sg) : Bool := decide (σ.1.length < SP)
section TG
variable {ρ : Type} {K : Cx} {QQ : ρ → Sg → Array Value → State → Outcome → State → Prop} {cc : ByteArray} {own : String} {nL : Nat} {rm : Room} {ret : Option FieldType} {pc : Nat} {lv lv' : List (Nat × Value)} {st : List Value} {c1 s1 : Nat} {σ : Sg} {o : Option (ρ × Sg)}
theorem In_grow {ad : Nat → Nat} {H H1 : Heap} {locs locs1 : List Loc} {q : Nat × Nat} {a : Nat} {e : va_E} (hg : kiv K = Gr) (hI : Inv K σ ad H locs) (hl : σ.1.length < SP) (he : cel (kcy K) (gup ad σ.1.length a) (newS σ q) σ.1.length q = e) (hP : va_P (kD K) vwCl (wof (kcy K) ad σ ++ [(a, e)]) H1) (hD : va_D (kA K) (wof (kcy K) ad σ ++ [(a, e)])) (hS : va_S (kA K) (ks K).heap H1 locs1) : Inv K (newS σ q) (gup ad σ.1.length a) H1 locs1 := by
  refine ⟨?_, ?_, newS_wf hI.2.2.1 hl, by rw [hg]; trivial, hS, fun i hi => ?_, ?_⟩
  · rw [newS_wof hI.2.2.1 hl, he]; exact hP
  · rw [newS_wof hI.2.2.1 hl, he]; exact hD
  · rw [gup_ne (by have := hI.2.2.2.2.2.2; rcases hi with z | z <;> omega)]
    exact hI.2.2.2.2.2.1 i hi
  · rw [newS_len]; exact Nat.le_succ_of_le hI.2.2.2.2.2.2
theorem W_grow {ad : Nat → Nat} {H1 : Heap} {locs1 : List Loc} {ls : Array Slot} {q : Nat × Nat} {a pc' c2 s2 : Nat} {r : ρ} {σ' : Sg} (kk : T K QQ pc' lv (.ref σ.1.length :: st) c2 s2 (newS σ q) o) (ho : o = some (r, σ')) (hl : σ.1.length < SP) (hI : Inv K (newS σ q) (gup ad σ.1.length a) H1 locs1) (hok : oks σ lv st) (hh : lv_has ls (kc K).maxLocals (lv.map (cvp ad))) : WK K H1 locs1 c2 s2 (MQ (kb K) (QQ r σ') (ka K) (ks K) (kmc K) (kms K) (kA K)) (F0 (km K) pc' ls (.ref a :: st.map (cv ad))) := by
  have hle : σ.1.length ≤ (newS σ q).1.length := by rw [newS_len]; omega
  have hw := kk r σ' ho (gup ad σ.1.length a) H1 locs1 ls hI (oks_p (v := .ref σ.1.length) (Or.inl (Nat.lt_of_lt_of_eq (Nat.lt_succ_self _) newS_len.symm)) (ok_back hle hok)) (lv_back (gup_PP hl) hok hh)
  rw [List.map_cons, st_back (gup_PP hl) hok] at hw
  have e : cv (gup ad σ.1.length a) (.ref σ.1.length) = .ref a := congrArg Value.ref gup_eq
  rw [e] at hw
  exact hw
theorem T_new {c idx : Nat} (h : Ok K cc own nL rm ret) (hg : kiv K = Gr) (hc : c < 10) (hcl : Cond.classLink own idx (clT c).1 ∈ gw_tbl) (hin : Cond.instantiable (clT c).1 (clT c).2.2 ∈ gw_tbl) (hini : Cond.initialized (clT c).1 ∈ gw_tbl) (hf : c1 + 1 ≤ rm.cells ∧ s1 + (clT c).2.2 ≤ rm.slots) (hd : decode cc pc = .ok (.new idx, 3)) (kk : T K QQ (pc + 3) lv (.ref σ.1.length :: st) (c1 + 1) (s1 + (clT c).2.2) (newS σ (c, nfc c)) o) : T K QQ pc lv st c1 s1 σ (ck (gnew σ) o) := by
  intro r σ' ho ad H locs ls hI hok hh
  obtain ⟨hb, ho⟩ := ck_t ho
  have hl : σ.1.length < SP := of_decide_eq_true hb
  have hRR : kR K = rm := h.2.2.2.2.2.2.2.1
  refine va_new (D := kD K) (cl := vwCl) (tys := tysC (kcy K)) (ws := wof (kcy K) ad σ) (A := kA K) (H0 := (ks K).heap) (ci := c) (C := (clT c).1) (T := (clT c).2.1) (N := (clT c).2.2) (fs := (List.range (nfc c)).map (fun k => if isR c k = true then .null else .int 0)) h.1 h.2.1 h.2.2.2.2.1 (cl_in c hc) (fty c) (cl_ty c hc) h.2.2.2.1 (h.2.2.2.2.1 _ hcl) (h.2.2.2.2.1 _ hin) (h.2.2.2.2.1 _ hini) h.2.2.2.2.2.2.2.2.1 hI.1 hI.2.1 hI.2.2.2.2.1 h.2.2.2.2.2.2.2.2.2.1 (cl_at c hc) (fun j hj => ?_) (by rw [hRR]; exact hf.1) (by rw [hRR]; exact hf.2) hd (fun q H1 hP hD hS => ?_)
  · rw [cl_dv c hc j hj]
    unfold vp_V
    rw [List.getD_eq_getElem?_getD, List.getElem?_map, List.getElem?_range (show j < nfc c from hj)]
    rfl
  · refine W_grow kk ho hl (In_grow hg hI hl ?_ hP hD hS) hok hh
    rw [cel_o hc]
    have e : fv (gup ad σ.1.length q) (newS σ (c, nfc c)) σ.1.length c = fun k => if isR c k = true then .null else .int 0 := funext fun k => by
      unfold fv
      have e1 : gR (newS σ (c, nfc c)) σ.1.length k = NUL := if_pos rfl
      have e2 : gI (newS σ (c, nfc c)) σ.1.length k = 0 := if_pos rfl
      rw [e1, e2]
      rfl
    rw [e]
theorem cy_of {ty : FieldType} {cA : ClassId} {i : Nat} {x : ClassId} (hne : ∀ C, ty ≠ .object C) (h : Ok K cc own nL rm ret) (hK : va_K (kD K) vwCl (tysC (kcy K) ++ [(cA, ty)]) (ks K)) (hi : (tysC (kcy K))[i]? = some (x, ty)) : cA = x := by
  have h1 := (hK.2 5 (cA, ty) rfl).2
  have h2 := (h.2.2.2.2.2.2.2.2.1.2 i (x, ty) hi).2
  have h3 : (ks K).vm.findClass ("[" ++ ty.toString) = some cA := by cases ty <;> first | exact h1 | exact absurd rfl (hne _)
  have h4 : (ks K).vm.findClass ("[" ++ ty.toString) = some x := by cases ty <;> first | exact h2 | exact absurd rfl (hne _)
  rw [h3] at h4
  exact Option.some.inj h4
theorem T_newI {n : Int32} {N : Nat} (h : Ok K cc own nL rm ret) (hg : kiv K = Gr) (harr : Cond.arrayClass .int ∈ gw_tbl) (hn : ¬ n < 0) (hN : n.toNatClampNeg = N) (hby : N * 4 ≤ 536870912) (hf : c1 + 1 ≤ rm.cells ∧ s1 + N ≤ rm.slots) (hd : decode cc pc = .ok (.newarray .int, 2)) (kk : T K QQ (pc + 2) lv (.ref σ.1.length :: st) (c1 + 1) (s1 + N) (newS σ (10, N)) o) : T K QQ pc lv (.int n :: st) c1 s1 σ (ck (gnew σ) o) := by
  intro r σ' ho ad H locs ls hI hok hh
  obtain ⟨hb, ho⟩ := ck_t ho
  have hl : σ.1.length < SP := of_decide_eq_true hb
  have hRR : kR K = rm := h.2.2.2.2.2.2.2.1
  refine va_newa (D := kD K) (cl := vwCl) (tys := tysC (kcy K)) (ws := wof (kcy K) ad σ) (A := kA K) (H0 := (ks K).heap) (atype := .int) (ty := .int) (N' := N) (a0 := (N, .inl (fun _ => 0))) h.1 h.2.1 (h.2.2.2.2.1 _ harr) rfl h.2.2.2.2.2.2.2.2.1 hI.1 hI.2.1 hI.2.2.2.2.1 h.2.2.2.2.2.2.2.2.2.1 (fun _ => rfl) hn hN hby (by rw [hRR]; exact hf.1) (by rw [hRR]; exact hf.2) hd (fun q cA H1 hK hP hD hS => ?_)
  have e := cy_of (i := 0) (x := kcy K 10) (fun _ z => by cases z) h hK rfl
  subst e
  refine W_grow kk ho hl (In_grow hg hI hl ?_ hP hD hS) (oks_t hok) hh
  rw [cel_i]
  have e1 : (fun i => gI (newS σ (10, N)) σ.1.length i) = fun _ => 0 := funext fun i => if_pos rfl
  rw [e1]
theorem T_newZ {n : Int32} {N : Nat} (h : Ok K cc own nL rm ret) (hg : kiv K = Gr) (harr : Cond.arrayClass .boolean ∈ gw_tbl) (hn : ¬ n < 0) (hN : n.toNatClampNeg = N) (hby : N * 1 ≤ 536870912) (hf : c1 + 1 ≤ rm.cells ∧ s1 + N ≤ rm.slots) (hd : decode cc pc = .ok (.newarray .boolean, 2)) (kk : T K QQ (pc + 2) lv (.ref σ.1.length :: st) (c1 + 1) (s1 + N) (newS σ (12, N)) o) : T K QQ pc lv (.int n :: st) c1 s1 σ (ck (gnew σ) o) := by
  intro r σ' ho ad H locs ls hI hok hh
  obtain ⟨hb, ho⟩ := ck_t ho
  have hl : σ.1.length < SP := of_decide_eq_true hb
  have hRR : kR K = rm := h.2.2.2.2.2.2.2.1
  refine va_newa (D := kD K) (cl := vwCl) (tys := tysC (kcy K)) (ws := wof (kcy K) ad σ) (A := kA K) (H0 := (ks K).heap) (atype := .boolean) (ty := .boolean) (N' := N) (a0 := (N, .inl (fun _ => 0))) h.1 h.2.1 (h.2.2.2.2.1 _ harr) rfl h.2.2.2.2.2.2.2.2.1 hI.1 hI.2.1 hI.2.2.2.2.1 h.2.2.2.2.2.2.2.2.2.1 (fun _ => rfl) hn hN hby (by rw [hRR]; exact hf.1) (by rw [hRR]; exact hf.2) hd (fun q cA H1 hK hP hD hS => ?_)
  have e := cy_of (i := 2) (x := kcy K 12) (fun _ z => by cases z) h hK rfl
  subst e
  refine W_grow kk ho hl (In_grow hg hI hl ?_ hP hD hS) (oks_t hok) hh
  rw [cel_z]
  have e1 : (fun i => gI (newS σ (12, N)) σ.1.length i) = fun _ => 0 := funext fun i => if_pos rfl
  rw [e1]
theorem T_newL {n : Int32} {N : Nat} (h : Ok K cc own nL rm ret) (hg : kiv K = Gr) (harr : Cond.arrayClass .long ∈ gw_tbl) (hn : ¬ n < 0) (hN : n.toNatClampNeg = N) (hby : N * 8 ≤ 536870912) (hf : c1 + 1 ≤ rm.cells ∧ s1 + N ≤ rm.slots) (hd : decode cc pc = .ok (.newarray .long, 2)) (kk : T K QQ (pc + 2) lv (.ref σ.1.length :: st) (c1 + 1) (s1 + N) (newS σ (11, N)) o) : T K QQ pc lv (.int n :: st) c1 s1 σ (ck (gnew σ) o) := by
  intro r σ' ho ad H locs ls hI hok hh
  obtain ⟨hb, ho⟩ := ck_t ho
  have hl : σ.1.length < SP := of_decide_eq_true hb
  have hRR : kR K = rm := h.2.2.2.2.2.2.2.1
  refine va_newa (D := kD K) (cl := vwCl) (tys := tysC (kcy K)) (ws := wof (kcy K) ad σ) (A := kA K) (H0 := (ks K).heap) (atype := .long) (ty := .long) (N' := N) (a0 := (N, .inr (.inl (fun _ => 0)))) h.1 h.2.1 (h.2.2.2.2.1 _ harr) rfl h.2.2.2.2.2.2.2.2.1 hI.1 hI.2.1 hI.2.2.2.2.1 h.2.2.2.2.2.2.2.2.2.1 (fun _ => rfl) hn hN hby (by rw [hRR]; exact hf.1) (by rw [hRR]; exact hf.2) hd (fun q cA H1 hK hP hD hS => ?_)
  have e := cy_of (i := 1) (x := kcy K 11) (fun _ z => by cases z) h hK rfl
  subst e
  refine W_grow kk ho hl (In_grow hg hI hl ?_ hP hD hS) (oks_t hok) hh
  rw [cel_l]
  have e1 : (fun i => gL (newS σ (11, N)) σ.1.length i) = fun _ => 0 := funext fun i => if_pos rfl
  rw [e1]
theorem T_newQ {n : Int32} {N idx : Nat} (h : Ok K cc own nL rm ret) (hg : kiv K = Gr) (hcl : Cond.classLink own idx RX6 ∈ gw_tbl) (hn : ¬ n < 0) (hN : n.toNatClampNeg = N) (hby : N * 4 ≤ 536870912) (hf : c1 + 1 ≤ rm.cells ∧ s1 + N ≤ rm.slots) (hd : decode cc pc = .ok (.anewarray idx, 3)) (kk : T K QQ (pc + 3) lv (.ref σ.1.length :: st) (c1 + 1) (s1 + N) (newS σ (13, N)) o) : T K QQ pc lv (.int n :: st) c1 s1 σ (ck (gnew σ) o) := by
  intro r σ' ho ad H locs ls hI hok hh
  obtain ⟨hb, ho⟩ := ck_t ho
  have hl : σ.1.length < SP := of_decide_eq_true hb
  have hRR : kR K = rm := h.2.2.2.2.2.2.2.1
  have hX : XF (ks K) := h.2.2.2.2.2.2.2.2.2.2.2.1.2.2.2.2
  refine va_newq (D := kD K) (cl := vwCl) (tys := tysC (kcy K)) (ws := wof (kcy K) ad σ) (A := kA K) (H0 := (ks K).heap) (C := RX6) (N' := N) h.1 h.2.1 h.2.2.2.1 (h.2.2.2.2.1 _ hcl) hX.1 h.2.2.2.2.2.2.2.2.1 hI.1 hI.2.1 hI.2.2.2.2.1 h.2.2.2.2.2.2.2.2.2.1 hn hN hby (by rw [hRR]; exact hf.1) (by rw [hRR]; exact hf.2) hd (fun q cA H1 hK hP hD hS => ?_)
  have e : cA = kcy K 13 := by
    obtain ⟨-, -, -, -, -, h3⟩ := (hK.2 5 (cA, .object RX6) rfl).2
    obtain ⟨-, -, -, -, -, h4⟩ := (h.2.2.2.2.2.2.2.2.1.2 3 (kcy K 13, .object RX6) rfl).2
    rw [h3] at h4
    exact Option.some.inj h4
  subst e
  refine W_grow kk ho hl (In_grow hg hI hl ?_ hP hD hS) (oks_t hok) hh
  rw [cel_13]
  have e1 : (fun i => ro (gup ad σ.1.length q) (gR (newS σ (13, N)) σ.1.length i)) = fun _ => none := funext fun i => by
    have e2 : gR (newS σ (13, N)) σ.1.length i = NUL := if_pos rfl
    rw [e2]; rfl
  rw [e1]
theorem T_objI {p idx : Nat} (h : Ok K cc own nL rm ret) (hlk : Cond.methodLink own idx Lib.objectInit ∈ gw_tbl) (hin : Cond.instanceMethod Lib.objectInit ∈ gw_tbl) (hcd : Cond.code Lib.objectInit ⟨#[0xb1]⟩ 1 none ∈ gw_tbl) (hR : 1 ≤ rm.frames ∧ 8 + 12 ≤ rm.locals) (hW : (st.map fun v => v.category).sum ≤ 8) (hd : decode cc pc = .ok (.invokespecial idx, 3)) (kk : T K QQ (pc + 3) lv st c1 s1 σ o) : T K QQ pc lv (.ref p :: st) c1 s1 σ o := by
  have hRR : kR K = rm := h.2.2.2.2.2.2.2.1
  refine T_go oks_t (fun ad H locs ls Q hI hk' hl kw => ?_) kk
  exact W.objInit h.1 h.2.1 h.2.2.2.1 (h.2.2.2.2.1 _ hlk) (h.2.2.2.2.1 _ hin) (h.2.2.2.2.1 _ hcd) rfl hl.1 rfl hd (by rw [hRR]; exact hR.1) (by rw [hRR]; have := lv_room (m := km K) (pc := pc) (ls := ls) (rest := (Value.ref p :: st).map (cv ad)) (st_room ad hW); have := hR.2; omega) kw
theorem T_putXG {p c k idx : Nat} {v : Int32} {ty : FieldType} (h : Ok K cc own nL rm ret) (hg : kiv K = Gr) (hf : FL own idx c k) (hfin : ((clT c).2.1 k).2.2.2 = false ∨ (((clT c).2.1 k).2.2.2 = true ∧ (kme K).name = "<init>" ∧ ((clT c).2.1 k).1 = own)) (hr : isR c k = false) (hty : fty c k = ty) (hnar : narrow ty (.int v) = .int v) (hfit : fits ty (.int v) = true) (hd : decode cc pc = .ok (.putfield idx, 3)) (kk : T K QQ (pc + 3) lv st c1 s1 (pI σ p k v) o) : T K QQ pc lv (.int v :: .ref p :: st) c1 s1 σ (ck (gk σ p c) o) := by
  intro r σ' ho ad H locs ls hI hok hl
  obtain ⟨hb, ho⟩ := ck_t ho
  have h1 : σ.1[p]? = some (c, nfc c) := of_decide_eq_true hb
  have hat : (wof (kcy K) ad σ)[p]? = some (ad p, .inr (c, (List.range (nfc c)).map (fv ad σ p c))) := by rw [wof_at h1, cel_o hf.1]
  have hlen : k < ((List.range (nfc c)).map (fv ad σ p c)).length := by rw [List.length_map, List.length_range]; exact hf.2.1
  have key : ∀ (H1 : Heap) (locs1 : List Loc), va_P (kD K) vwCl ((wof (kcy K) ad σ).set p (ad p, .inr (c, ((List.range (nfc c)).map (fv ad σ p c)).set k (.int v)))) H1 → va_D (kA K) ((wof (kcy K) ad σ).set p (ad p, .inr (c, ((List.range (nfc c)).map (fv ad σ p c)).set k (.int v)))) → va_S (kA K) (ks K).heap H1 locs1 → WK K H1 locs1 c1 s1 (MQ (kb K) (QQ r σ') (ka K) (ks K) (kmc K) (kms K) (kA K)) (F0 (km K) (pc + 3) ls (st.map (cv ad))) := fun H1 locs1 hP hD hS =>
    kk r σ' ho ad H1 locs1 ls ⟨by rw [pI_set h1, cel_pI hf.1 hr]; exact hP, by rw [pI_set h1, cel_pI hf.1 hr]; exact hD, hI.2.2.1, by rw [hg]; trivial, hS, hI.2.2.2.2.2⟩ (oks_t (oks_t hok)) hl
  rcases hfin with hfin | ⟨hfin, hin2, hdc⟩
  · exact va_put (D := kD K) (cl := vwCl) (tys := tysC (kcy K)) (ws := wof (kcy K) ad σ) (A := kA K) (H0 := (ks K).heap) (ci := c) (C := (clT c).1) (T := (clT c).2.1) (N := (clT c).2.2) (fs := (List.range (nfc c)).map (fv ad σ p c)) (v := .int v) (ty := ty) h.1 h.2.1 h.2.2.2.2.1 (cl_in c hf.1) (fty c) (cl_ty c hf.1) (cl_nm c hf.1) h.2.2.2.1 h.2.2.2.2.2.2.2.2.1 hI.1 hI.2.1 hI.2.2.2.2.1 p hat (cl_at c hf.1) k hf.2.1 (h.2.2.2.2.1 _ hf.2.2) (fun _ q => q) hfin (by rw [cl_ty c hf.1 k hf.2.1, hty]) hnar hfit hlen hd key
  · exact va_putF (D := kD K) (cl := vwCl) (tys := tysC (kcy K)) (ws := wof (kcy K) ad σ) (A := kA K) (H0 := (ks K).heap) (ci := c) (C := (clT c).1) (T := (clT c).2.1) (N := (clT c).2.2) (fs := (List.range (nfc c)).map (fv ad σ p c)) (v := .int v) (ty := ty) h.1 h.2.1 h.2.2.2.2.1 (cl_in c hf.1) (fty c) (cl_ty c hf.1) (cl_nm c hf.1) h.2.2.2.1 h.2.2.2.2.2.2.2.2.1 hI.1 hI.2.1 hI.2.2.2.2.1 p hat (cl_at c hf.1) k hf.2.1 (h.2.2.2.2.1 _ hf.2.2) (fun _ q => q) hfin hin2 hdc (by rw [cl_ty c hf.1 k hf.2.1, hty]) hnar hfit hlen hd key
theorem T_putRG {p c k idx q : Nat} {ty : FieldType} (h : Ok K cc own nL rm ret) (hg : kiv K = Gr) (hf : FL own idx c k) (hfin : ((clT c).2.1 k).2.2.2 = false ∨ (((clT c).2.1 k).2.2.2 = true ∧ (kme K).name = "<init>" ∧ ((clT c).2.1 k).1 = own)) (hr : isR c k = true) (hty : fty c k = ty) (hnar : ∀ a, narrow ty (.ref a) = .ref a) (hfit : ∀ a, fits ty (.ref a) = true) (hd : decode cc pc = .ok (.putfield idx, 3)) (kk : T K QQ (pc + 3) lv st c1 s1 (pR σ p k q) o) : T K QQ pc lv (.ref q :: .ref p :: st) c1 s1 σ (ck (gk σ p c) (ck (glt σ q) o)) := by
  intro r σ' ho ad H locs ls hI hok hl
  obtain ⟨hb, ho⟩ := ck_t ho
  obtain ⟨hb2, ho⟩ := ck_t ho
  have h1 : σ.1[p]? = some (c, nfc c) := of_decide_eq_true hb
  have hq : q < σ.1.length := of_decide_eq_true hb2
  have hqn : q ≠ NUL := by have := hI.2.2.1.1; unfold SP at this; unfold NUL; omega
  have hro : va_rf (ro ad q) = .ref (ad q) := by unfold ro; rw [if_neg hqn]; rfl
  have hat : (wof (kcy K) ad σ)[p]? = some (ad p, .inr (c, (List.range (nfc c)).map (fv ad σ p c))) := by rw [wof_at h1, cel_o hf.1]
  have hlen : k < ((List.range (nfc c)).map (fv ad σ p c)).length := by rw [List.length_map, List.length_range]; exact hf.2.1
  have hwf : wfS (pR σ p k q) := ⟨hI.2.2.1.1, fun a b => by
    show u2 σ.2.2.2 p k q a b < σ.1.length ∨ u2 σ.2.2.2 p k q a b = NUL
    by_cases e : a = p ∧ b = k
    · rw [show u2 σ.2.2.2 p k q a b = q from if_pos e]
      exact Or.inl hq
    · rw [show u2 σ.2.2.2 p k q a b = σ.2.2.2 a b from if_neg e]
      exact hI.2.2.1.2 a b⟩
  have key : ∀ (H1 : Heap) (locs1 : List Loc), va_P (kD K) vwCl ((wof (kcy K) ad σ).set p (ad p, .inr (c, ((List.range (nfc c)).map (fv ad σ p c)).set k (.ref (ad q))))) H1 → va_D (kA K) ((wof (kcy K) ad σ).set p (ad p, .inr (c, ((List.range (nfc c)).map (fv ad σ p c)).set k (.ref (ad q))))) → va_S (kA K) (ks K).heap H1 locs1 → WK K H1 locs1 c1 s1 (MQ (kb K) (QQ r σ') (ka K) (ks K) (kmc K) (kms K) (kA K)) (F0 (km K) (pc + 3) ls (st.map (cv ad))) := fun H1 locs1 hP hD hS =>
    kk r σ' ho ad H1 locs1 ls ⟨by rw [pR_set h1, cel_pR hf.1 hr, hro]; exact hP, by rw [pR_set h1, cel_pR hf.1 hr, hro]; exact hD, hwf, by rw [hg]; trivial, hS, hI.2.2.2.2.2⟩ (oks_t (oks_t hok)) hl
  rcases hfin with hfin | ⟨hfin, hin2, hdc⟩
  · exact va_put (D := kD K) (cl := vwCl) (tys := tysC (kcy K)) (ws := wof (kcy K) ad σ) (A := kA K) (H0 := (ks K).heap) (ci := c) (C := (clT c).1) (T := (clT c).2.1) (N := (clT c).2.2) (fs := (List.range (nfc c)).map (fv ad σ p c)) (v := .ref (ad q)) (ty := ty) h.1 h.2.1 h.2.2.2.2.1 (cl_in c hf.1) (fty c) (cl_ty c hf.1) (cl_nm c hf.1) h.2.2.2.1 h.2.2.2.2.2.2.2.2.1 hI.1 hI.2.1 hI.2.2.2.2.1 p hat (cl_at c hf.1) k hf.2.1 (h.2.2.2.2.1 _ hf.2.2) (fun _ q => q) hfin (by rw [cl_ty c hf.1 k hf.2.1, hty]) (hnar _) (hfit _) hlen hd key
  · exact va_putF (D := kD K) (cl := vwCl) (tys := tysC (kcy K)) (ws := wof (kcy K) ad σ) (A := kA K) (H0 := (ks K).heap) (ci := c) (C := (clT c).1) (T := (clT c).2.1) (N := (clT c).2.2) (fs := (List.range (nfc c)).map (fv ad σ p c)) (v := .ref (ad q)) (ty := ty) h.1 h.2.1 h.2.2.2.2.1 (cl_in c hf.1) (fty c) (cl_ty c hf.1) (cl_nm c hf.1) h.2.2.2.1 h.2.2.2.2.2.2.2.2.1 hI.1 hI.2.1 hI.2.2.2.2.1 p hat (cl_at c hf.1) k hf.2.1 (h.2.2.2.2.1 _ hf.2.2) (fun _ q => q) hfin hin2 hdc (by rw [cl_ty c hf.1 k hf.2.1, hty]) (hnar _) (hfit _) hlen hd key
theorem T_getRG {p c k idx : Nat} (h : Ok K cc own nL rm ret) (hf : FL own idx c k) (hr : isR c k = true) (hd : decode cc pc = .ok (.getfield idx, 3)) (kk : T K QQ (pc + 3) lv (.ref (gR σ p k) :: st) c1 s1 σ o) : T K QQ pc lv (.ref p :: st) c1 s1 σ (ck (gk σ p c) (ck (glt σ (gR σ p k)) o)) := by
  intro r σ' ho ad H locs ls hI hok hl
  obtain ⟨hb, ho⟩ := ck_t ho
  obtain ⟨hb2, ho⟩ := ck_t ho
  have h1 : σ.1[p]? = some (c, nfc c) := of_decide_eq_true hb
  have hq : gR σ p k < σ.1.length := of_decide_eq_true hb2
  have hqn : gR σ p k ≠ NUL := by have := hI.2.2.1.1; unfold SP at this; unfold NUL; omega
  have hro : va_rf (ro ad (gR σ p k)) = .ref (ad (gR σ p k)) := by unfold ro; rw [if_neg hqn]; rfl
  refine va_get (D := kD K) (cl := vwCl) (tys := tysC (kcy K)) (ws := wof (kcy K) ad σ) (ci := c) (C := (clT c).1) (T := (clT c).2.1) (N := (clT c).2.2) (fs := (List.range (nfc c)).map (fv ad σ p c)) (v := .ref (ad (gR σ p k))) h.1 h.2.1 h.2.2.2.2.1 (cl_in c hf.1) h.2.2.2.1 h.2.2.2.2.2.2.2.2.1 hI.1 p ?_ (cl_at c hf.1) k hf.2.1 (h.2.2.2.2.1 _ hf.2.2) (fun _ q => q) ?_ hd (kk r σ' ho ad H locs ls hI (oks_p (v := .ref (gR σ p k)) (Or.inl hq) (oks_t hok)) hl)
  · rw [wof_at h1, cel_o hf.1]
  · rw [fv_at hf.2.1]
    unfold fv
    rw [hr, ← hro]
    rfl
theorem T_iastG {p : Nat} {i x : Int32} (h : Ok K cc own nL rm ret) (hg : kiv K = Gr) (hd : decode cc pc = .ok (.iastore, 1)) (kk : T K QQ (pc + 1) lv st c1 s1 (pI σ p i.toNatClampNeg x) o) : T K QQ pc lv (.int x :: .int i :: .ref p :: st) c1 s1 σ (ck (gi σ p i) o) := by
  intro r σ' ho ad H locs ls hI hok hl
  obtain ⟨hb, ho⟩ := ck_t ho
  unfold gi at hb
  cases h0 : σ.1[p]? with
  | none => rw [h0] at hb; cases hb
  | some q =>
    obtain ⟨c, n⟩ := q
    rw [h0] at hb
    obtain ⟨hb1, hb2⟩ := Bool.and_eq_true_iff.mp hb
    have hc : c = 10 := beq_iff_eq.mp hb1
    subst hc
    refine va_iast (D := kD K) (cl := vwCl) (tys := tysC (kcy K)) (ws := wof (kcy K) ad σ) (A := kA K) (H0 := (ks K).heap) h.1 h.2.1 h.2.2.2.2.2.2.2.2.1 hI.1 hI.2.1 hI.2.2.2.2.1 p 0 (wof_at h0) rfl (inb_t hb2) hd (fun H1 locs1 hP hD hS => kk r σ' ho ad H1 locs1 ls ⟨?_, ?_, hI.2.2.1, by rw [hg]; trivial, hS, hI.2.2.2.2.2⟩ (oks_t (oks_t (oks_t hok))) hl)
    · rw [pI_set h0, cel_i, upd_pI]; exact hP
    · rw [pI_set h0, cel_i, upd_pI]; exact hD
theorem T_aastG {p v : Nat} {i : Int32} (h : Ok K cc own nL rm ret) (hg : kiv K = Gr) (hd : decode cc pc = .ok (.aastore, 1)) (kk : T K QQ (pc + 1) lv st c1 s1 (pR σ p i.toNatClampNeg v) o) : T K QQ pc lv (.ref v :: .int i :: .ref p :: st) c1 s1 σ (ck (ga σ p i v) o) := by
  intro r σ' ho ad H locs ls hI hok hl
  obtain ⟨hb, ho⟩ := ck_t ho
  unfold ga at hb
  obtain ⟨hb, hv⟩ := Bool.and_eq_true_iff.mp hb
  have hv : σ.1[v]? = some (6, 4) := of_decide_eq_true hv
  cases h0 : σ.1[p]? with
  | none => rw [h0] at hb; cases hb
  | some q =>
    obtain ⟨c, n⟩ := q
    rw [h0] at hb
    obtain ⟨hb1, hb2⟩ := Bool.and_eq_true_iff.mp hb
    have hc : c = 13 := beq_iff_eq.mp hb1
    subst hc
    have hvl : v < σ.1.length := (List.getElem?_eq_some_iff.mp hv).1
    have hqn : v ≠ NUL := by have := hI.2.2.1.1; unfold SP at this; unfold NUL; omega
    have hatv : (wof (kcy K) ad σ)[v]? = some (ad v, .inr (6, (List.range (nfc 6)).map (fv ad σ v 6))) := by rw [wof_at hv, cel_o (by decide)]
    refine va_astq (D := kD K) (cl := vwCl) (tys := tysC (kcy K)) (ws := wof (kcy K) ad σ) (A := kA K) (H0 := (ks K).heap) (r := clT 6) h.1 h.2.1 h.2.2.2.2.2.2.2.2.1 hI.1 hI.2.1 hI.2.2.2.2.1 p 3 v 6 (wof_at h0) rfl hatv (cl_at 6 (by decide)) (inb_t hb2) hd (fun H1 locs1 hP hD hS => kk r σ' ho ad H1 locs1 ls ⟨?_, ?_, ⟨hI.2.2.1.1, fun a b => ?_⟩, by rw [hg]; trivial, hS, hI.2.2.2.2.2⟩ (oks_t (oks_t (oks_t hok))) hl)
    · rw [pR_set h0, cel_13, upd_pR hqn]; exact hP
    · rw [pR_set h0, cel_13, upd_pR hqn]; exact hD
    · show u2 σ.2.2.2 p i.toNatClampNeg v a b < σ.1.length ∨ u2 σ.2.2.2 p i.toNatClampNeg v a b = NUL
      by_cases e : a = p ∧ b = i.toNatClampNeg
      · rw [show u2 σ.2.2.2 p i.toNatClampNeg v a b = v from if_pos e]
        exact Or.inl hvl
      · rw [show u2 σ.2.2.2 p i.toNatClampNeg v a b = σ.2.2.2 a b from if_neg e]
        exact hI.2.2.1.2 a b
end TG
