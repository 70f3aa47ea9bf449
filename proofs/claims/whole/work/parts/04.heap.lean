/-! rules on cells, in the steady world -/
def FL (own : String) (idx c k : Nat) : Prop := c < 10 ∧ k < nfc c ∧ Cond.fieldLink own idx ((clT c).2.1 k).1 ((clT c).2.1 k).2.1 ((clT c).2.1 k).2.2.1 ∈ gw_tbl
def b01 (v : Int32) : Bool := decide (v = 0 ∨ v = 1)
theorem b01_n {v : Int32} (h : b01 v = true) : narrow .boolean (.int v) = .int v := by
  rcases of_decide_eq_true h with rfl | rfl <;> decide +kernel
theorem b01_f {v : Int32} (h : b01 v = true) : fits .boolean (.int v) = true := by
  rcases of_decide_eq_true h with rfl | rfl <;> decide +kernel
theorem b01_v {v : Int32} (h : b01 v = true) : vp_nar .boolean v = v := by
  rcases of_decide_eq_true h with rfl | rfl <;> decide +kernel
theorem ck_t {α : Type} {b : Bool} {k : Option α} {x : α} (h : ck b k = some x) : b = true ∧ k = some x := by
  unfold ck at h
  by_cases hb : b = true
  · rw [if_pos hb] at h; exact ⟨hb, h⟩
  · rw [if_neg hb] at h; cases h
theorem inb_t {i : Int32} {n : Nat} (h : inb i n = true) : vp_in i n := of_decide_eq_true (p := ¬ (i < 0 ∨ n ≤ i.toNatClampNeg)) h
theorem inb_lt {i : Int32} {n : Nat} (h : inb i n = true) : i.toNatClampNeg < n := Nat.not_le.mp fun q => (of_decide_eq_true h) (Or.inr q)
theorem kd_lt {p c : Nat} (h : kd p c) : p < 82 := by
  obtain ⟨n, hn⟩ := h
  have := (List.getElem?_eq_some_iff.mp hn).1
  exact this
theorem kd_nn {p c : Nat} (h : kd p c) : p ≠ NUL := by
  have := kd_lt h
  unfold NUL
  omega
theorem ro_kd {ad : Nat → Nat} {p c : Nat} (h : kd p c) : va_rf (ro ad p) = .ref (ad p) := by
  unfold ro
  rw [if_neg (kd_nn h)]
  rfl
theorem fv_at {ad : Nat → Nat} {σ : Sg} {p c k : Nat} (hk : k < nfc c) : ((List.range (nfc c)).map (fv ad σ p c))[k]? = some (fv ad σ p c k) := by
  rw [List.getElem?_map, List.getElem?_range hk]
  rfl
section TH
variable {ρ : Type} {K : Cx} {QQ : ρ → Sg → Array Value → State → Outcome → State → Prop} {cc : ByteArray} {own : String} {nL : Nat} {rm : Room} {ret : Option FieldType} {pc : Nat} {lv lv' : List (Nat × Value)} {st : List Value} {c1 s1 : Nat} {σ : Sg} {o o1 o2 : Option (ρ × Sg)}
theorem In_st {ad : Nat → Nat} {H : Heap} {locs : List Loc} (hs : kiv K = St) (hI : Inv K σ ad H locs) : St σ := by
  have := hI.2.2.2.1
  rw [hs] at this
  exact this
theorem In_at {ad : Nat → Nat} {H : Heap} {locs : List Loc} {p c n : Nat} (hs : kiv K = St) (hI : Inv K σ ad H locs) (hk : SH[p]? = some (c, n)) : σ.1[p]? = some (c, n) := by
  rw [(In_st hs hI).1]
  exact hk
theorem In_ok {ad : Nat → Nat} {H : Heap} {locs : List Loc} {p c : Nat} (hs : kiv K = St) (hI : Inv K σ ad H locs) (hk : kd p c) : okv σ (.ref p) := by
  obtain ⟨n, hn⟩ := hk
  exact Or.inl (List.getElem?_eq_some_iff.mp (In_at hs hI hn)).1
theorem In_pI {ad : Nat → Nat} {H H1 : Heap} {locs locs1 : List Loc} {p k : Nat} {v : Int32} (hs : kiv K = St) (hI : Inv K σ ad H locs) (hP : va_P (kD K) vwCl (wof (kcy K) ad (pI σ p k v)) H1) (hD : va_D (kA K) (wof (kcy K) ad (pI σ p k v))) (hS : va_S (kA K) (ks K).heap H1 locs1) : Inv K (pI σ p k v) ad H1 locs1 :=
  ⟨hP, hD, hI.2.2.1, by have q : St σ := In_st hs hI; rw [hs]; exact q, hS, hI.2.2.2.2.2⟩
theorem In_pL {ad : Nat → Nat} {H H1 : Heap} {locs locs1 : List Loc} {p k : Nat} {v : Int64} (hs : kiv K = St) (hI : Inv K σ ad H locs) (hP : va_P (kD K) vwCl (wof (kcy K) ad (pL σ p k v)) H1) (hD : va_D (kA K) (wof (kcy K) ad (pL σ p k v))) (hS : va_S (kA K) (ks K).heap H1 locs1) : Inv K (pL σ p k v) ad H1 locs1 :=
  ⟨hP, hD, hI.2.2.1, by have q : St σ := In_st hs hI; rw [hs]; exact q, hS, hI.2.2.2.2.2⟩
theorem T_getI (h : Ok K cc own nL rm ret) (hs : kiv K = St) {p c k idx : Nat} (hk : kd p c) (hf : FL own idx c k) (hr : isR c k = false) (hd : decode cc pc = .ok (.getfield idx, 3)) (kk : T K QQ (pc + 3) lv (.int (gI σ p k) :: st) c1 s1 σ o) : T K QQ pc lv (.ref p :: st) c1 s1 σ o := by
  refine T_go (fun q => oks_i (oks_t q)) (fun ad H locs ls Q hI hk' hl kw => ?_) kk
  obtain ⟨n, hn⟩ := hk
  have h1 := In_at hs hI hn
  refine va_get (D := kD K) (cl := vwCl) (tys := tysC (kcy K)) (ws := wof (kcy K) ad σ) (ci := c) (C := (clT c).1) (T := (clT c).2.1) (N := (clT c).2.2) (fs := (List.range (nfc c)).map (fv ad σ p c)) (v := .int (gI σ p k)) h.1 h.2.1 h.2.2.2.2.1 (cl_in c hf.1) h.2.2.2.1 h.2.2.2.2.2.2.2.2.1 hI.1 p ?_ (cl_at c hf.1) k hf.2.1 (h.2.2.2.2.1 _ hf.2.2) (fun _ q => q) ?_ hd kw
  · rw [wof_at h1, cel_o hf.1]
  · rw [fv_at hf.2.1]
    unfold fv
    rw [hr]
    rfl
theorem T_getR (h : Ok K cc own nL rm ret) (hs : kiv K = St) {p c k c' idx : Nat} (hk : kd p c) (hf : FL own idx c k) (hr : isR c k = true) (hfk : fk c k = c') (hn0 : ∃ n, SH[p]? = some (c, n) ∧ k < n) (hd : decode cc pc = .ok (.getfield idx, 3)) (kk : kd (gR σ p k) c' → T K QQ (pc + 3) lv (.ref (gR σ p k) :: st) c1 s1 σ o) : T K QQ pc lv (.ref p :: st) c1 s1 σ o := by
  intro r σ' ho ad H locs ls hI hok hl
  obtain ⟨n, hn, hkn⟩ := hn0
  have h1 := In_at hs hI hn
  have hq : kd (gR σ p k) c' := hfk ▸ (In_st hs hI).2 p c n k hn hkn (Or.inr (Or.inr ⟨hf.1, hr⟩))
  refine va_get (D := kD K) (cl := vwCl) (tys := tysC (kcy K)) (ws := wof (kcy K) ad σ) (ci := c) (C := (clT c).1) (T := (clT c).2.1) (N := (clT c).2.2) (fs := (List.range (nfc c)).map (fv ad σ p c)) (v := .ref (ad (gR σ p k))) h.1 h.2.1 h.2.2.2.2.1 (cl_in c hf.1) h.2.2.2.1 h.2.2.2.2.2.2.2.2.1 hI.1 p ?_ (cl_at c hf.1) k hf.2.1 (h.2.2.2.2.1 _ hf.2.2) (fun _ q => q) ?_ hd (kk hq r σ' ho ad H locs ls hI (oks_p (In_ok hs hI hq) (oks_t hok)) hl)
  · rw [wof_at h1, cel_o hf.1]
  · rw [fv_at hf.2.1]
    unfold fv
    rw [hr, ← ro_kd hq]
    rfl
theorem T_putX (h : Ok K cc own nL rm ret) (hs : kiv K = St) {p c k idx : Nat} {v : Int32} {ty : FieldType} (hk : kd p c) (hf : FL own idx c k) (hfin : ((clT c).2.1 k).2.2.2 = false) (hr : isR c k = false) (hty : fty c k = ty) (hnar : narrow ty (.int v) = .int v) (hfit : fits ty (.int v) = true) (hd : decode cc pc = .ok (.putfield idx, 3)) (kk : T K QQ (pc + 3) lv st c1 s1 (pI σ p k v) o) : T K QQ pc lv (.int v :: .ref p :: st) c1 s1 σ o := by
  intro r σ' ho ad H locs ls hI hok hl
  obtain ⟨n, hn⟩ := hk
  have h1 := In_at hs hI hn
  refine va_put (D := kD K) (cl := vwCl) (tys := tysC (kcy K)) (ws := wof (kcy K) ad σ) (A := kA K) (H0 := (ks K).heap) (ci := c) (C := (clT c).1) (T := (clT c).2.1) (N := (clT c).2.2) (fs := (List.range (nfc c)).map (fv ad σ p c)) (v := .int v) (ty := ty) h.1 h.2.1 h.2.2.2.2.1 (cl_in c hf.1) (fty c) (cl_ty c hf.1) (cl_nm c hf.1) h.2.2.2.1 h.2.2.2.2.2.2.2.2.1 hI.1 hI.2.1 hI.2.2.2.2.1 p ?_ (cl_at c hf.1) k hf.2.1 (h.2.2.2.2.1 _ hf.2.2) (fun _ q => q) hfin (by rw [cl_ty c hf.1 k hf.2.1, hty]) hnar hfit ?_ hd (fun H1 locs1 hP hD hS => kk r σ' ho ad H1 locs1 ls (In_pI hs hI ?_ ?_ hS) (oks_t (oks_t hok)) hl)
  · rw [wof_at h1, cel_o hf.1]
  · rw [List.length_map, List.length_range]; exact hf.2.1
  · rw [pI_set h1, cel_pI hf.1 hr]; exact hP
  · rw [pI_set h1, cel_pI hf.1 hr]; exact hD
theorem T_putI (h : Ok K cc own nL rm ret) (hs : kiv K = St) {p c k idx : Nat} {v : Int32} (hk : kd p c) (hf : FL own idx c k) (hfin : ((clT c).2.1 k).2.2.2 = false) (hty : fty c k = .int) (hd : decode cc pc = .ok (.putfield idx, 3)) (kk : T K QQ (pc + 3) lv st c1 s1 (pI σ p k v) o) : T K QQ pc lv (.int v :: .ref p :: st) c1 s1 σ o :=
  T_putX h hs hk hf hfin (by unfold isR; rw [hty]; rfl) hty rfl rfl hd kk
theorem T_putZ (h : Ok K cc own nL rm ret) (hs : kiv K = St) {p c k idx : Nat} {v : Int32} (hk : kd p c) (hf : FL own idx c k) (hfin : ((clT c).2.1 k).2.2.2 = false) (hty : fty c k = .boolean) (hd : decode cc pc = .ok (.putfield idx, 3)) (kk : T K QQ (pc + 3) lv st c1 s1 (pI σ p k v) o) : T K QQ pc lv (.int v :: .ref p :: st) c1 s1 σ (ck (b01 v) o) := by
  intro r σ' ho
  obtain ⟨hb, ho⟩ := ck_t ho
  exact T_putX h hs hk hf hfin (by unfold isR; rw [hty]; rfl) hty (b01_n hb) (b01_f hb) hd kk r σ' ho
theorem T_putR (h : Ok K cc own nL rm ret) (hs : kiv K = St) {p c k idx q c' : Nat} {C0 : String} (hk : kd p c) (hf : FL own idx c k) (hfin : ((clT c).2.1 k).2.2.2 = false) (hty : fty c k = .object C0) (hfk : fk c k = c') (hq : kd q c') (hd : decode cc pc = .ok (.putfield idx, 3)) (kk : T K QQ (pc + 3) lv st c1 s1 (pR σ p k q) o) : T K QQ pc lv (.ref q :: .ref p :: st) c1 s1 σ o := by
  intro r σ' ho ad H locs ls hI hok hl
  obtain ⟨n, hn⟩ := hk
  have h1 := In_at hs hI hn
  have hr : isR c k = true := by unfold isR; rw [hty]; rfl
  have hS0 := In_st hs hI
  have hql : q < σ.1.length := by
    obtain ⟨z, hz⟩ := hq
    exact (List.getElem?_eq_some_iff.mp (In_at hs hI hz)).1
  refine va_put (D := kD K) (cl := vwCl) (tys := tysC (kcy K)) (ws := wof (kcy K) ad σ) (A := kA K) (H0 := (ks K).heap) (ci := c) (C := (clT c).1) (T := (clT c).2.1) (N := (clT c).2.2) (fs := (List.range (nfc c)).map (fv ad σ p c)) (v := .ref (ad q)) (ty := .object C0) h.1 h.2.1 h.2.2.2.2.1 (cl_in c hf.1) (fty c) (cl_ty c hf.1) (cl_nm c hf.1) h.2.2.2.1 h.2.2.2.2.2.2.2.2.1 hI.1 hI.2.1 hI.2.2.2.2.1 p ?_ (cl_at c hf.1) k hf.2.1 (h.2.2.2.2.1 _ hf.2.2) (fun _ q => q) hfin (by rw [cl_ty c hf.1 k hf.2.1, hty]) rfl rfl ?_ hd (fun H1 locs1 hP hD hS => kk r σ' ho ad H1 locs1 ls ⟨?_, ?_, ?_, ?_, hS, hI.2.2.2.2.2⟩ (oks_t (oks_t hok)) hl)
  · rw [wof_at h1, cel_o hf.1]
  · rw [List.length_map, List.length_range]; exact hf.2.1
  · rw [pR_set h1, cel_pR hf.1 hr, ro_kd hq]; exact hP
  · rw [pR_set h1, cel_pR hf.1 hr, ro_kd hq]; exact hD
  · refine ⟨hI.2.2.1.1, fun a b => ?_⟩
    show u2 σ.2.2.2 p k q a b < σ.1.length ∨ u2 σ.2.2.2 p k q a b = NUL
    by_cases e : a = p ∧ b = k
    · rw [show u2 σ.2.2.2 p k q a b = q from if_pos e]
      exact Or.inl hql
    · rw [show u2 σ.2.2.2 p k q a b = σ.2.2.2 a b from if_neg e]
      exact hI.2.2.1.2 a b
  · rw [hs]
    refine ⟨hS0.1, fun a c2 n2 b ha hb hc => ?_⟩
    show kd (u2 σ.2.2.2 p k q a b) (fk c2 b)
    by_cases e : a = p ∧ b = k
    · rw [show u2 σ.2.2.2 p k q a b = q from if_pos e]
      obtain ⟨rfl, rfl⟩ := e
      rw [hn] at ha
      cases ha
      rw [hfk]
      exact hq
    · rw [show u2 σ.2.2.2 p k q a b = σ.2.2.2 a b from if_neg e]
      exact hS0.2 a c2 n2 b ha hb hc
theorem T_iald (h : Ok K cc own nL rm ret) (hs : kiv K = St) {p : Nat} {i : Int32} (hk : kd p 10) (hd : decode cc pc = .ok (.iaload, 1)) (kk : T K QQ (pc + 1) lv (.int (gI σ p i.toNatClampNeg) :: st) c1 s1 σ o) : T K QQ pc lv (.int i :: .ref p :: st) c1 s1 σ (ck (inb i (aL p)) o) := by
  intro r σ' ho ad H locs ls hI hok hl
  obtain ⟨hb, ho⟩ := ck_t ho
  obtain ⟨n, hn⟩ := hk
  rw [aL_of hn] at hb
  exact va_iald (D := kD K) (cl := vwCl) (tys := tysC (kcy K)) (ws := wof (kcy K) ad σ) h.1 h.2.1 h.2.2.2.2.2.2.2.2.1 hI.1 p 0 (wof_at (In_at hs hI hn)) rfl (inb_t hb) hd (kk r σ' ho ad H locs ls hI (oks_i (oks_t (oks_t hok))) hl)
theorem T_zald (h : Ok K cc own nL rm ret) (hs : kiv K = St) {p : Nat} {i : Int32} (hk : kd p 12) (hd : decode cc pc = .ok (.baload, 1)) (kk : T K QQ (pc + 1) lv (.int (gI σ p i.toNatClampNeg) :: st) c1 s1 σ o) : T K QQ pc lv (.int i :: .ref p :: st) c1 s1 σ (ck (inb i (aL p)) o) := by
  intro r σ' ho ad H locs ls hI hok hl
  obtain ⟨hb, ho⟩ := ck_t ho
  obtain ⟨n, hn⟩ := hk
  rw [aL_of hn] at hb
  exact va_zald (D := kD K) (cl := vwCl) (tys := tysC (kcy K)) (ws := wof (kcy K) ad σ) h.1 h.2.1 h.2.2.2.2.2.2.2.2.1 hI.1 p 2 (wof_at (In_at hs hI hn)) rfl (inb_t hb) hd (kk r σ' ho ad H locs ls hI (oks_i (oks_t (oks_t hok))) hl)
theorem T_lald (h : Ok K cc own nL rm ret) (hs : kiv K = St) {p : Nat} {i : Int32} (hk : kd p 11) (hd : decode cc pc = .ok (.laload, 1)) (kk : T K QQ (pc + 1) lv (.long (gL σ p i.toNatClampNeg) :: st) c1 s1 σ o) : T K QQ pc lv (.int i :: .ref p :: st) c1 s1 σ (ck (inb i (aL p)) o) := by
  intro r σ' ho ad H locs ls hI hok hl
  obtain ⟨hb, ho⟩ := ck_t ho
  obtain ⟨n, hn⟩ := hk
  rw [aL_of hn] at hb
  exact va_lald (D := kD K) (cl := vwCl) (tys := tysC (kcy K)) (ws := wof (kcy K) ad σ) h.1 h.2.1 h.2.2.2.2.2.2.2.2.1 hI.1 p 1 (wof_at (In_at hs hI hn)) rfl (inb_t hb) hd (kk r σ' ho ad H locs ls hI (oks_l (oks_t (oks_t hok))) hl)
theorem T_aald {c c' : Nat} (h : Ok K cc own nL rm ret) (hs : kiv K = St) {p : Nat} {i : Int32} (hk : kd p c) (hc : c = 13 ∧ c' = 6 ∨ c = 14 ∧ c' = 10) (hd : decode cc pc = .ok (.aaload, 1)) (kk : kd (gR σ p i.toNatClampNeg) c' → T K QQ (pc + 1) lv (.ref (gR σ p i.toNatClampNeg) :: st) c1 s1 σ o) : T K QQ pc lv (.int i :: .ref p :: st) c1 s1 σ (ck (inb i (aL p)) o) := by
  intro r σ' ho ad H locs ls hI hok hl
  obtain ⟨hb, ho⟩ := ck_t ho
  obtain ⟨n, hn⟩ := hk
  rw [aL_of hn] at hb
  have hlt := inb_lt hb
  have hq : kd (gR σ p i.toNatClampNeg) c' := by
    have := (In_st hs hI).2 p c n i.toNatClampNeg hn hlt (by rcases hc with e | e; exact Or.inl e.1; exact Or.inr (Or.inl e.1))
    rcases hc with ⟨rfl, rfl⟩ | ⟨rfl, rfl⟩
    · exact this
    · exact this
  have hv := ro_kd (ad := ad) hq
  have hw := kk hq r σ' ho ad H locs ls hI (oks_p (In_ok hs hI hq) (oks_t (oks_t hok))) hl
  rcases hc with ⟨rfl, rfl⟩ | ⟨rfl, rfl⟩
  · refine va_aldq (D := kD K) (cl := vwCl) (tys := tysC (kcy K)) (ws := wof (kcy K) ad σ) (C := RX6) (f := fun i => ro ad (gR σ p i)) h.1 h.2.1 h.2.2.2.2.2.2.2.2.1 hI.1 p 3 (wof_at (In_at hs hI hn)) rfl (inb_t hb) hd ?_
    rw [hv]
    exact hw
  · have hat : (wof (kcy K) ad σ)[p]? = some (ad p, .inl (kcy K 14, n, .inr (.inr (.inr (.inr (fun i => ro ad (gR σ p i))))))) := wof_at (In_at hs hI hn)
    have hin := inb_t hb
    refine W.aald (v := va_rf (ro ad (gR σ p i.toNatClampNeg))) (ty := .array .int) h.1 h.2.1 (hI.1 p _ hat) ((h.2.2.2.2.2.2.2.2.1.2 4 _ rfl).1 n (fun j => va_rf (ro ad (gR σ p j)))) rfl (fun q => by cases q) (by show ¬ (i < 0 ∨ (arrV _ _ _).slots.size ≤ _); rw [arrV_size]; exact hin) (by show (arrV _ _ _).slots[_]? = _; rw [arrV_read _ _ hlt]) rfl rfl hd ?_
    rw [hv]
    exact hw
theorem T_iast (h : Ok K cc own nL rm ret) (hs : kiv K = St) {p : Nat} {i x : Int32} (hk : kd p 10) (hd : decode cc pc = .ok (.iastore, 1)) (kk : T K QQ (pc + 1) lv st c1 s1 (pI σ p i.toNatClampNeg x) o) : T K QQ pc lv (.int x :: .int i :: .ref p :: st) c1 s1 σ (ck (inb i (aL p)) o) := by
  intro r σ' ho ad H locs ls hI hok hl
  obtain ⟨hb, ho⟩ := ck_t ho
  obtain ⟨n, hn⟩ := hk
  rw [aL_of hn] at hb
  have h1 := In_at hs hI hn
  refine va_iast (D := kD K) (cl := vwCl) (tys := tysC (kcy K)) (ws := wof (kcy K) ad σ) (A := kA K) (H0 := (ks K).heap) h.1 h.2.1 h.2.2.2.2.2.2.2.2.1 hI.1 hI.2.1 hI.2.2.2.2.1 p 0 (wof_at h1) rfl (inb_t hb) hd (fun H1 locs1 hP hD hS => kk r σ' ho ad H1 locs1 ls (In_pI hs hI ?_ ?_ hS) (oks_t (oks_t (oks_t hok))) hl)
  · rw [pI_set h1, cel_i, upd_pI]; exact hP
  · rw [pI_set h1, cel_i, upd_pI]; exact hD
theorem T_zast (h : Ok K cc own nL rm ret) (hs : kiv K = St) {p : Nat} {i x : Int32} (hk : kd p 12) (hd : decode cc pc = .ok (.bastore, 1)) (kk : T K QQ (pc + 1) lv st c1 s1 (pI σ p i.toNatClampNeg x) o) : T K QQ pc lv (.int x :: .int i :: .ref p :: st) c1 s1 σ (ck (inb i (aL p)) (ck (b01 x) o)) := by
  intro r σ' ho ad H locs ls hI hok hl
  obtain ⟨hb, ho⟩ := ck_t ho
  obtain ⟨hb1, ho⟩ := ck_t ho
  obtain ⟨n, hn⟩ := hk
  rw [aL_of hn] at hb
  have h1 := In_at hs hI hn
  refine va_zast (D := kD K) (cl := vwCl) (tys := tysC (kcy K)) (ws := wof (kcy K) ad σ) (A := kA K) (H0 := (ks K).heap) h.1 h.2.1 h.2.2.2.2.2.2.2.2.1 hI.1 hI.2.1 hI.2.2.2.2.1 p 2 (wof_at h1) rfl (inb_t hb) hd (fun H1 locs1 hP hD hS => kk r σ' ho ad H1 locs1 ls (In_pI hs hI ?_ ?_ hS) (oks_t (oks_t (oks_t hok))) hl)
  · rw [b01_v hb1] at hP; rw [pI_set h1, cel_z, upd_pI]; exact hP
  · rw [b01_v hb1] at hD; rw [pI_set h1, cel_z, upd_pI]; exact hD
theorem T_last (h : Ok K cc own nL rm ret) (hs : kiv K = St) {p : Nat} {i : Int32} {x : Int64} (hk : kd p 11) (hd : decode cc pc = .ok (.lastore, 1)) (kk : T K QQ (pc + 1) lv st c1 s1 (pL σ p i.toNatClampNeg x) o) : T K QQ pc lv (.long x :: .int i :: .ref p :: st) c1 s1 σ (ck (inb i (aL p)) o) := by
  intro r σ' ho ad H locs ls hI hok hl
  obtain ⟨hb, ho⟩ := ck_t ho
  obtain ⟨n, hn⟩ := hk
  rw [aL_of hn] at hb
  have h1 := In_at hs hI hn
  refine va_last (D := kD K) (cl := vwCl) (tys := tysC (kcy K)) (ws := wof (kcy K) ad σ) (A := kA K) (H0 := (ks K).heap) h.1 h.2.1 h.2.2.2.2.2.2.2.2.1 hI.1 hI.2.1 hI.2.2.2.2.1 p 1 (wof_at h1) rfl (inb_t hb) hd (fun H1 locs1 hP hD hS => kk r σ' ho ad H1 locs1 ls (In_pL hs hI ?_ ?_ hS) (oks_t (oks_t (oks_t hok))) hl)
  · rw [pL_set h1, cel_l, upd_pL]; exact hP
  · rw [pL_set h1, cel_l, upd_pL]; exact hD
theorem T_alen {c : Nat} (h : Ok K cc own nL rm ret) (hs : kiv K = St) {p : Nat} (hk : kd p c) (hc : c = 10 ∨ c = 11 ∨ c = 12) (hd : decode cc pc = .ok (.arraylength, 1)) (kk : T K QQ (pc + 1) lv (.int (Int32.ofNat (aL p)) :: st) c1 s1 σ o) : T K QQ pc lv (.ref p :: st) c1 s1 σ o := by
  intro r σ' ho ad H locs ls hI hok hl
  obtain ⟨n, hn⟩ := hk
  have h1 := wof_at (cy := kcy K) (ad := ad) (In_at hs hI hn)
  have hw := kk r σ' ho ad H locs ls hI (oks_i (oks_t hok)) hl
  rw [aL_of hn] at hw
  rcases hc with rfl | rfl | rfl
  · exact va_alen (D := kD K) (cl := vwCl) (tys := tysC (kcy K)) (ws := wof (kcy K) ad σ) h.1 h.2.1 h.2.2.2.2.2.2.2.2.1 hI.1 p 0 h1 rfl rfl hd hw
  · exact va_alen (D := kD K) (cl := vwCl) (tys := tysC (kcy K)) (ws := wof (kcy K) ad σ) h.1 h.2.1 h.2.2.2.2.2.2.2.2.1 hI.1 p 1 h1 rfl rfl hd hw
  · exact va_alen (D := kD K) (cl := vwCl) (tys := tysC (kcy K)) (ws := wof (kcy K) ad σ) h.1 h.2.1 h.2.2.2.2.2.2.2.2.1 hI.1 p 2 h1 rfl rfl hd hw
end TH
