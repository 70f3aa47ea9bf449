section TT
variable {ρ : Type} {K : Cx} {QQ : ρ → Sg → Array Value → State → Outcome → State → Prop} {cc : ByteArray} {own : String} {nL : Nat} {rm : Room} {ret : Option FieldType} {pc : Nat} {lv lv' : List (Nat × Value)} {st : List Value} {c1 s1 : Nat} {σ : Sg} {o o1 o2 : Option (ρ × Sg)}

theorem oks_p {v : Value} (h : okv σ v) (q : oks σ lv st) : oks σ lv (v :: st) := ⟨q.1, fun x hx => (List.mem_cons.mp hx).elim (fun e => e ▸ h) (q.2 x)⟩
theorem oks_t {v : Value} (q : oks σ lv (v :: st)) : oks σ lv st := ⟨q.1, fun x hx => q.2 x (List.mem_cons_of_mem _ hx)⟩
theorem oks_h {v : Value} (q : oks σ lv (v :: st)) : okv σ v := q.2 v List.mem_cons_self
theorem oks_i {x : Int32} (q : oks σ lv st) : oks σ lv (.int x :: st) := oks_p (v := .int x) trivial q
theorem oks_l {x : Int64} (q : oks σ lv st) : oks σ lv (.long x :: st) := oks_p (v := .long x) trivial q
theorem T_go {st' : List Value} {pc' : Nat} (hok : oks σ lv st → oks σ lv st') (hW : ∀ (ad : Nat → Nat) (H : Heap) (locs : List Loc) (ls : Array Slot) (Q : State → Prop), Inv K σ ad H locs → oks σ lv st → lv_has ls (kc K).maxLocals (lv.map (cvp ad)) → WK K H locs c1 s1 Q (F0 (km K) pc' ls (st'.map (cv ad))) → WK K H locs c1 s1 Q (F0 (km K) pc ls (st.map (cv ad)))) (k : T K QQ pc' lv st' c1 s1 σ o) : T K QQ pc lv st c1 s1 σ o :=
  fun r σ' ho ad H locs ls hI hk hl => hW ad H locs ls _ hI hk hl (k r σ' ho ad H locs ls hI (hok hk) hl)
theorem T_sub (ks : List Nat) (hl : lv_pick lv ks = lv') (k : T K QQ pc lv' st c1 s1 σ o) : T K QQ pc lv st c1 s1 σ o := by
  intro r σ' ho ad H locs ls hI hk h
  have hm : ∀ q ∈ lv', q ∈ lv := fun q hq => by
    rw [← hl] at hq
    obtain ⟨i, -, hi⟩ := List.mem_filterMap.mp hq
    exact List.mem_of_getElem? hi
  refine k r σ' ho ad H locs ls hI ⟨fun q hq => hk.1 q (hm q hq), hk.2⟩ ⟨h.1, h.2.1, fun q hq => ?_⟩
  obtain ⟨x, hx, rfl⟩ := List.mem_map.mp hq
  exact h.2.2 _ (List.mem_map.mpr ⟨x, hm x hx, rfl⟩)
theorem T_none : T K QQ pc lv st c1 s1 σ none := fun r σ' ho => by cases ho
theorem T_let {α : Type} {e : α} {k : α → Option (ρ × Sg)} {fl : α → List (Nat × Value)} {fs : α → List Value} {f : α → Sg} (kk : ∀ x, T K QQ pc (fl x) (fs x) c1 s1 (f x) (k x)) : T K QQ pc (fl e) (fs e) c1 s1 (f e) (lB e k) := kk e
theorem T_letI {e : Int32} {k : Int32 → Option (ρ × Sg)} (kk : ∀ x, T K QQ pc lv (.int x :: st) c1 s1 σ (k x)) : T K QQ pc lv (.int e :: st) c1 s1 σ (lB e k) := kk e
theorem T_letL {e : Int64} {k : Int64 → Option (ρ × Sg)} (kk : ∀ x, T K QQ pc lv (.long x :: st) c1 s1 σ (k x)) : T K QQ pc lv (.long e :: st) c1 s1 σ (lB e k) := kk e
theorem T_letS {e : Sg} {k : Sg → Option (ρ × Sg)} (kk : ∀ x, T K QQ pc lv st c1 s1 x (k x)) : T K QQ pc lv st c1 s1 e (lB e k) := kk e
theorem T_fx {S : Type} {B : (S → Option (ρ × Sg)) → S → Option (ρ × Sg)} {fl : S → List (Nat × Value)} {f : S → Sg} (hB : ∀ rec, (∀ s, T K QQ pc (fl s) st c1 s1 (f s) (rec s)) → ∀ s, T K QQ pc (fl s) st c1 s1 (f s) (B rec s)) : ∀ (N : Nat) (s : S), T K QQ pc (fl s) st c1 s1 (f s) (fx B N s)
  | 0, s => T_none
  | N + 1, s => hB (fx B N) (T_fx hB N) s
theorem cat_cv (ad : Nat → Nat) (v : Value) : (cv ad v).category = v.category := by cases v <;> rfl
theorem flt_cv (ad : Nat → Nat) (F : Nat → Nat → Bool) (l : List (Nat × Value)) : (l.map (cvp ad)).filter (fun q => F q.1 q.2.category) = (l.filter (fun q => F q.1 q.2.category)).map (cvp ad) := by
  rw [List.filter_map]
  congr 1
  apply List.filter_congr
  intro q _
  show F q.1 (cv ad q.2).category = F q.1 q.2.category
  rw [cat_cv]
theorem at_cv {ad : Nat → Nat} {j i : Nat} {v : Value} (h : lv[j]? = some (i, v)) : (lv.map (cvp ad))[j]? = some (i, cv ad v) := by
  rw [List.getElem?_map, h]
  rfl
theorem ok_at {j i : Nat} {v : Value} (h : lv[j]? = some (i, v)) (q : oks σ lv st) : okv σ v := q.1 (i, v) (List.mem_of_getElem? h)

theorem T_iconst (h : Ok K cc own nL rm ret) {n : Int} {v : Int32} (hd : decode cc pc = .ok (.iconst n, 1)) (hv : Int32.ofInt n = v) (k : T K QQ (pc + 1) lv (.int v :: st) c1 s1 σ o) : T K QQ pc lv st c1 s1 σ o :=
  T_go oks_i (fun _ _ _ _ _ _ _ _ k => lv_iconst h.1 h.2.1 hd hv k) k
theorem T_bipush (h : Ok K cc own nL rm ret) {n : Int} {v : Int32} (hd : decode cc pc = .ok (.bipush n, 2)) (hv : (Int8.ofInt n).toInt32 = v) (k : T K QQ (pc + 2) lv (.int v :: st) c1 s1 σ o) : T K QQ pc lv st c1 s1 σ o :=
  T_go oks_i (fun _ _ _ _ _ _ _ _ k => lv_bipush h.1 h.2.1 hd hv k) k
theorem T_sipush (h : Ok K cc own nL rm ret) {n : Int} {v : Int32} (hd : decode cc pc = .ok (.sipush n, 3)) (hv : (Int16.ofInt n).toInt32 = v) (k : T K QQ (pc + 3) lv (.int v :: st) c1 s1 σ o) : T K QQ pc lv st c1 s1 σ o :=
  T_go oks_i (fun _ _ _ _ _ _ _ _ k => lv_sipush h.1 h.2.1 hd hv k) k
theorem T_lconst (h : Ok K cc own nL rm ret) {n : Fin 2} {v : Int64} (hd : decode cc pc = .ok (.lconst n, 1)) (hv : Int64.ofNat (n : Nat) = v) (k : T K QQ (pc + 1) lv (.long v :: st) c1 s1 σ o) : T K QQ pc lv st c1 s1 σ o :=
  T_go oks_l (fun _ _ _ _ _ _ _ _ k => lv_lconst h.1 h.2.1 hd hv k) k
theorem T_ldc (h : Ok K cc own nL rm ret) {idx : Nat} {v : Int32} (hm : Cond.constant own idx v ∈ gw_tbl) (hd : decode cc pc = .ok (.ldc idx, 2)) (k : T K QQ (pc + 2) lv (.int v :: st) c1 s1 σ o) : T K QQ pc lv st c1 s1 σ o :=
  T_go oks_i (fun _ _ _ _ _ _ _ _ k => lv_ldc h.1 h.2.1 h.2.2.2.1 (h.2.2.2.2.1 _ hm) hd k) k
theorem T_ldcw (h : Ok K cc own nL rm ret) {idx : Nat} {v : Int32} (hm : Cond.constant own idx v ∈ gw_tbl) (hd : decode cc pc = .ok (.ldc_w idx, 3)) (k : T K QQ (pc + 3) lv (.int v :: st) c1 s1 σ o) : T K QQ pc lv st c1 s1 σ o :=
  T_go oks_i (fun _ _ _ _ _ _ _ _ k => lv_ldcw h.1 h.2.1 h.2.2.2.1 (h.2.2.2.2.1 _ hm) hd k) k
theorem T_ldc2 (h : Ok K cc own nL rm ret) {idx : Nat} {v : Int64} (hm : Cond.constantLong own idx v ∈ gw_tbl) (hd : decode cc pc = .ok (.ldc2_w idx, 3)) (k : T K QQ (pc + 3) lv (.long v :: st) c1 s1 σ o) : T K QQ pc lv st c1 s1 σ o :=
  T_go oks_l (fun _ _ _ _ _ _ _ _ k => lv_ldc2 h.1 h.2.1 h.2.2.2.1 (h.2.2.2.2.1 _ hm) hd k) k
theorem T_iload_n (h : Ok K cc own nL rm ret) {f : Fin 4} {i : Nat} {x : Int32} (hd : decode cc pc = .ok (.iload_n f, 1)) (hi : (f : Nat) = i) (j : Nat) (hj : lv[j]? = some (i, .int x)) (k : T K QQ (pc + 1) lv (.int x :: st) c1 s1 σ o) : T K QQ pc lv st c1 s1 σ o :=
  T_go oks_i (fun ad _ _ _ _ _ _ hl k => lv_iload_n h.1 h.2.1 hd hi (lv_at hl j (at_cv hj)) k) k
theorem T_iload (h : Ok K cc own nL rm ret) {i : Nat} {x : Int32} (hd : decode cc pc = .ok (.iload i, 2)) (j : Nat) (hj : lv[j]? = some (i, .int x)) (k : T K QQ (pc + 2) lv (.int x :: st) c1 s1 σ o) : T K QQ pc lv st c1 s1 σ o :=
  T_go oks_i (fun ad _ _ _ _ _ _ hl k => lv_iload h.1 h.2.1 hd (lv_at hl j (at_cv hj)) k) k
theorem T_lload_n (h : Ok K cc own nL rm ret) {f : Fin 4} {i : Nat} {x : Int64} (hd : decode cc pc = .ok (.lload_n f, 1)) (hi : (f : Nat) = i) (j : Nat) (hj : lv[j]? = some (i, .long x)) (k : T K QQ (pc + 1) lv (.long x :: st) c1 s1 σ o) : T K QQ pc lv st c1 s1 σ o :=
  T_go oks_l (fun ad _ _ _ _ _ _ hl k => lv_lload_n h.1 h.2.1 hd hi (lv_at hl j (at_cv hj)) k) k
theorem T_lload (h : Ok K cc own nL rm ret) {i : Nat} {x : Int64} (hd : decode cc pc = .ok (.lload i, 2)) (j : Nat) (hj : lv[j]? = some (i, .long x)) (k : T K QQ (pc + 2) lv (.long x :: st) c1 s1 σ o) : T K QQ pc lv st c1 s1 σ o :=
  T_go oks_l (fun ad _ _ _ _ _ _ hl k => lv_lload h.1 h.2.1 hd (lv_at hl j (at_cv hj)) k) k
theorem T_aload_n (h : Ok K cc own nL rm ret) {f : Fin 4} {i : Nat} {x : Nat} (hd : decode cc pc = .ok (.aload_n f, 1)) (hi : (f : Nat) = i) (j : Nat) (hj : lv[j]? = some (i, .ref x)) (k : T K QQ (pc + 1) lv (.ref x :: st) c1 s1 σ o) : T K QQ pc lv st c1 s1 σ o :=
  T_go (fun q => oks_p (v := .ref x) (ok_at hj q) q) (fun ad _ _ _ _ _ _ hl k => lv_aload_n h.1 h.2.1 hd hi (lv_at hl j (at_cv hj)) k) k
theorem T_aload (h : Ok K cc own nL rm ret) {i : Nat} {x : Nat} (hd : decode cc pc = .ok (.aload i, 2)) (j : Nat) (hj : lv[j]? = some (i, .ref x)) (k : T K QQ (pc + 2) lv (.ref x :: st) c1 s1 σ o) : T K QQ pc lv st c1 s1 σ o :=
  T_go (fun q => oks_p (v := .ref x) (ok_at hj q) q) (fun ad _ _ _ _ _ _ hl k => lv_aload h.1 h.2.1 hd (lv_at hl j (at_cv hj)) k) k
theorem T_istore_n (h : Ok K cc own nL rm ret) {f : Fin 4} {i : Nat} {x : Int32} (hd : decode cc pc = .ok (.istore_n f, 1)) (hi : (f : Nat) = i) (hn : i < nL) (hl : (i, Value.int x) :: lv.filter (fun q => !(q.1 == i) && !(q.1 + 1 == i && q.2.category == 2)) = lv') (k : T K QQ (pc + 1) lv' st c1 s1 σ o) : T K QQ pc lv (.int x :: st) c1 s1 σ o := by
  intro r σ' ho ad H locs ls hI hk hh
  refine lv_istore_n (lv' := lv'.map (cvp ad)) h.1 h.2.1 hd hi hh (by rw [h.2.2.1]; exact hn) ?_ (fun ls' hh' => k r σ' ho ad H locs ls' hI ⟨fun q hq => ?_, (oks_t hk).2⟩ hh')
  · rw [← hl]
    exact congrArg (fun z => (i, Value.int x) :: z) (flt_cv ad (fun a c => !(a == i) && !(a + 1 == i && c == 2)) lv)
  · rw [← hl] at hq
    rcases List.mem_cons.mp hq with e | e
    · rw [e]; exact trivial
    · exact hk.1 q (List.mem_filter.mp e).1
theorem T_istore (h : Ok K cc own nL rm ret) {i : Nat} {x : Int32} (hd : decode cc pc = .ok (.istore i, 2)) (hn : i < nL) (hl : (i, Value.int x) :: lv.filter (fun q => !(q.1 == i) && !(q.1 + 1 == i && q.2.category == 2)) = lv') (k : T K QQ (pc + 2) lv' st c1 s1 σ o) : T K QQ pc lv (.int x :: st) c1 s1 σ o := by
  intro r σ' ho ad H locs ls hI hk hh
  refine lv_istore (lv' := lv'.map (cvp ad)) h.1 h.2.1 hd hh (by rw [h.2.2.1]; exact hn) ?_ (fun ls' hh' => k r σ' ho ad H locs ls' hI ⟨fun q hq => ?_, (oks_t hk).2⟩ hh')
  · rw [← hl]
    exact congrArg (fun z => (i, Value.int x) :: z) (flt_cv ad (fun a c => !(a == i) && !(a + 1 == i && c == 2)) lv)
  · rw [← hl] at hq
    rcases List.mem_cons.mp hq with e | e
    · rw [e]; exact trivial
    · exact hk.1 q (List.mem_filter.mp e).1
theorem T_lstore_n (h : Ok K cc own nL rm ret) {f : Fin 4} {i : Nat} {x : Int64} (hd : decode cc pc = .ok (.lstore_n f, 1)) (hi : (f : Nat) = i) (hn : i + 1 < nL) (hl : (i, Value.long x) :: lv.filter (fun q => !(q.1 == i) && (!(q.1 == i + 1) && !(q.1 + 1 == i && q.2.category == 2))) = lv') (k : T K QQ (pc + 1) lv' st c1 s1 σ o) : T K QQ pc lv (.long x :: st) c1 s1 σ o := by
  intro r σ' ho ad H locs ls hI hk hh
  refine lv_lstore_n (lv' := lv'.map (cvp ad)) h.1 h.2.1 hd hi hh (by rw [h.2.2.1]; exact hn) ?_ (fun ls' hh' => k r σ' ho ad H locs ls' hI ⟨fun q hq => ?_, (oks_t hk).2⟩ hh')
  · rw [← hl]
    exact congrArg (fun z => (i, Value.long x) :: z) (flt_cv ad (fun a c => !(a == i) && (!(a == i + 1) && !(a + 1 == i && c == 2))) lv)
  · rw [← hl] at hq
    rcases List.mem_cons.mp hq with e | e
    · rw [e]; exact trivial
    · exact hk.1 q (List.mem_filter.mp e).1
theorem T_lstore (h : Ok K cc own nL rm ret) {i : Nat} {x : Int64} (hd : decode cc pc = .ok (.lstore i, 2)) (hn : i + 1 < nL) (hl : (i, Value.long x) :: lv.filter (fun q => !(q.1 == i) && (!(q.1 == i + 1) && !(q.1 + 1 == i && q.2.category == 2))) = lv') (k : T K QQ (pc + 2) lv' st c1 s1 σ o) : T K QQ pc lv (.long x :: st) c1 s1 σ o := by
  intro r σ' ho ad H locs ls hI hk hh
  refine lv_lstore (lv' := lv'.map (cvp ad)) h.1 h.2.1 hd hh (by rw [h.2.2.1]; exact hn) ?_ (fun ls' hh' => k r σ' ho ad H locs ls' hI ⟨fun q hq => ?_, (oks_t hk).2⟩ hh')
  · rw [← hl]
    exact congrArg (fun z => (i, Value.long x) :: z) (flt_cv ad (fun a c => !(a == i) && (!(a == i + 1) && !(a + 1 == i && c == 2))) lv)
  · rw [← hl] at hq
    rcases List.mem_cons.mp hq with e | e
    · rw [e]; exact trivial
    · exact hk.1 q (List.mem_filter.mp e).1
theorem T_astore_n (h : Ok K cc own nL rm ret) {f : Fin 4} {i : Nat} {x : Nat} (hd : decode cc pc = .ok (.astore_n f, 1)) (hi : (f : Nat) = i) (hn : i < nL) (hl : (i, Value.ref x) :: lv.filter (fun q => !(q.1 == i) && !(q.1 + 1 == i && q.2.category == 2)) = lv') (k : T K QQ (pc + 1) lv' st c1 s1 σ o) : T K QQ pc lv (.ref x :: st) c1 s1 σ o := by
  intro r σ' ho ad H locs ls hI hk hh
  refine lv_astore_n (lv' := lv'.map (cvp ad)) h.1 h.2.1 hd hi hh (by rw [h.2.2.1]; exact hn) ?_ (fun ls' hh' => k r σ' ho ad H locs ls' hI ⟨fun q hq => ?_, (oks_t hk).2⟩ hh')
  · rw [← hl]
    exact congrArg (fun z => (i, Value.ref (ad x)) :: z) (flt_cv ad (fun a c => !(a == i) && !(a + 1 == i && c == 2)) lv)
  · rw [← hl] at hq
    rcases List.mem_cons.mp hq with e | e
    · rw [e]; exact oks_h hk
    · exact hk.1 q (List.mem_filter.mp e).1
theorem T_astore (h : Ok K cc own nL rm ret) {i : Nat} {x : Nat} (hd : decode cc pc = .ok (.astore i, 2)) (hn : i < nL) (hl : (i, Value.ref x) :: lv.filter (fun q => !(q.1 == i) && !(q.1 + 1 == i && q.2.category == 2)) = lv') (k : T K QQ (pc + 2) lv' st c1 s1 σ o) : T K QQ pc lv (.ref x :: st) c1 s1 σ o := by
  intro r σ' ho ad H locs ls hI hk hh
  refine lv_astore (lv' := lv'.map (cvp ad)) h.1 h.2.1 hd hh (by rw [h.2.2.1]; exact hn) ?_ (fun ls' hh' => k r σ' ho ad H locs ls' hI ⟨fun q hq => ?_, (oks_t hk).2⟩ hh')
  · rw [← hl]
    exact congrArg (fun z => (i, Value.ref (ad x)) :: z) (flt_cv ad (fun a c => !(a == i) && !(a + 1 == i && c == 2)) lv)
  · rw [← hl] at hq
    rcases List.mem_cons.mp hq with e | e
    · rw [e]; exact oks_h hk
    · exact hk.1 q (List.mem_filter.mp e).1
theorem T_iinc (h : Ok K cc own nL rm ret) {i : Nat} {n : Int} {v x : Int32} {kf : Int32 → Option (ρ × Sg)} {fl : Int32 → List (Nat × Value)} (hd : decode cc pc = .ok (.iinc i n, 3)) (j : Nat) (hj : lv[j]? = some (i, .int x)) (hv : Int32.ofInt n = v) (hn : i < nL) (hl : ∀ y, (i, Value.int y) :: lv.filter (fun q => !(q.1 == i) && !(q.1 + 1 == i && q.2.category == 2)) = fl y) (k : ∀ y, T K QQ (pc + 3) (fl y) st c1 s1 σ (kf y)) : T K QQ pc lv st c1 s1 σ (lB (x + v) kf) := by
  intro r σ' ho ad H locs ls hI hk hh
  refine lv_iinc (v := x + v) (lv' := (fl (x + v)).map (cvp ad)) h.1 h.2.1 hd hh (at_cv hj) (by rw [hv]) (by rw [h.2.2.1]; exact hn) ?_ (fun ls' hh' => k (x + v) r σ' ho ad H locs ls' hI ⟨fun q hq => ?_, hk.2⟩ hh')
  · rw [← hl]
    exact congrArg (fun z => (i, Value.int (x + v)) :: z) (flt_cv ad (fun a c => !(a == i) && !(a + 1 == i && c == 2)) lv)
  · rw [← hl] at hq
    rcases List.mem_cons.mp hq with e | e
    · rw [e]; exact trivial
    · exact hk.1 q (List.mem_filter.mp e).1
theorem T_iadd (h : Ok K cc own nL rm ret) {x y : Int32} (hd : decode cc pc = .ok (.iadd, 1)) (k : T K QQ (pc + 1) lv (.int (x + y) :: st) c1 s1 σ o) : T K QQ pc lv (.int y :: .int x :: st) c1 s1 σ o :=
  T_go (fun q => oks_i (oks_t (oks_t q))) (fun _ _ _ _ _ _ _ _ k => lv_iadd h.1 h.2.1 hd k) k
theorem T_isub (h : Ok K cc own nL rm ret) {x y : Int32} (hd : decode cc pc = .ok (.isub, 1)) (k : T K QQ (pc + 1) lv (.int (x - y) :: st) c1 s1 σ o) : T K QQ pc lv (.int y :: .int x :: st) c1 s1 σ o :=
  T_go (fun q => oks_i (oks_t (oks_t q))) (fun _ _ _ _ _ _ _ _ k => lv_isub h.1 h.2.1 hd k) k
theorem T_imul (h : Ok K cc own nL rm ret) {x y : Int32} (hd : decode cc pc = .ok (.imul, 1)) (k : T K QQ (pc + 1) lv (.int (x * y) :: st) c1 s1 σ o) : T K QQ pc lv (.int y :: .int x :: st) c1 s1 σ o :=
  T_go (fun q => oks_i (oks_t (oks_t q))) (fun _ _ _ _ _ _ _ _ k => lv_imul h.1 h.2.1 hd k) k
theorem T_iand (h : Ok K cc own nL rm ret) {x y : Int32} (hd : decode cc pc = .ok (.iand, 1)) (k : T K QQ (pc + 1) lv (.int (x &&& y) :: st) c1 s1 σ o) : T K QQ pc lv (.int y :: .int x :: st) c1 s1 σ o :=
  T_go (fun q => oks_i (oks_t (oks_t q))) (fun _ _ _ _ _ _ _ _ k => lv_iand h.1 h.2.1 hd k) k
theorem T_ior (h : Ok K cc own nL rm ret) {x y : Int32} (hd : decode cc pc = .ok (.ior, 1)) (k : T K QQ (pc + 1) lv (.int (x ||| y) :: st) c1 s1 σ o) : T K QQ pc lv (.int y :: .int x :: st) c1 s1 σ o :=
  T_go (fun q => oks_i (oks_t (oks_t q))) (fun _ _ _ _ _ _ _ _ k => lv_ior h.1 h.2.1 hd k) k
theorem T_ishl (h : Ok K cc own nL rm ret) {x y : Int32} (hd : decode cc pc = .ok (.ishl, 1)) (k : T K QQ (pc + 1) lv (.int (x <<< (y &&& 31)) :: st) c1 s1 σ o) : T K QQ pc lv (.int y :: .int x :: st) c1 s1 σ o :=
  T_go (fun q => oks_i (oks_t (oks_t q))) (fun _ _ _ _ _ _ _ _ k => lv_ishl h.1 h.2.1 hd k) k
theorem T_ishr (h : Ok K cc own nL rm ret) {x y : Int32} (hd : decode cc pc = .ok (.ishr, 1)) (k : T K QQ (pc + 1) lv (.int (x >>> (y &&& 31)) :: st) c1 s1 σ o) : T K QQ pc lv (.int y :: .int x :: st) c1 s1 σ o :=
  T_go (fun q => oks_i (oks_t (oks_t q))) (fun _ _ _ _ _ _ _ _ k => lv_ishr h.1 h.2.1 hd k) k
theorem T_iushr (h : Ok K cc own nL rm ret) {x y : Int32} (hd : decode cc pc = .ok (.iushr, 1)) (k : T K QQ (pc + 1) lv (.int ((x.toUInt32 >>> (y.toUInt32 &&& Int32.toUInt32 31)).toInt32) :: st) c1 s1 σ o) : T K QQ pc lv (.int y :: .int x :: st) c1 s1 σ o :=
  T_go (fun q => oks_i (oks_t (oks_t q))) (fun _ _ _ _ _ _ _ _ k => lv_iushr h.1 h.2.1 hd rfl k) k
theorem T_idiv (h : Ok K cc own nL rm ret) {x y : Int32} (hd : decode cc pc = .ok (.idiv, 1)) (k : T K QQ (pc + 1) lv (.int (x / y) :: st) c1 s1 σ o) : T K QQ pc lv (.int y :: .int x :: st) c1 s1 σ (ck (decide (¬ y = 0)) o) := by
  intro r σ' ho
  by_cases hy : y = 0
  · rw [hy] at ho; cases ho
  · rw [decide_eq_true hy] at ho
    exact T_go (fun q => oks_i (oks_t (oks_t q))) (fun _ _ _ _ _ _ _ _ k => lv_idiv h.1 h.2.1 hd hy k) k r σ' ho
theorem T_irem (h : Ok K cc own nL rm ret) {x y : Int32} (hd : decode cc pc = .ok (.irem, 1)) (k : T K QQ (pc + 1) lv (.int (x - x / y * y) :: st) c1 s1 σ o) : T K QQ pc lv (.int y :: .int x :: st) c1 s1 σ (ck (decide (¬ y = 0)) o) := by
  intro r σ' ho
  by_cases hy : y = 0
  · rw [hy] at ho; cases ho
  · rw [decide_eq_true hy] at ho
    exact T_go (fun q => oks_i (oks_t (oks_t q))) (fun _ _ _ _ _ _ _ _ k => lv_irem h.1 h.2.1 hd hy k) k r σ' ho
theorem T_ineg (h : Ok K cc own nL rm ret) {x : Int32} (hd : decode cc pc = .ok (.ineg, 1)) (k : T K QQ (pc + 1) lv (.int (-x) :: st) c1 s1 σ o) : T K QQ pc lv (.int x :: st) c1 s1 σ o :=
  T_go (fun q => oks_i (oks_t q)) (fun _ _ _ _ _ _ _ _ k => lv_ineg h.1 h.2.1 hd k) k
theorem T_ladd (h : Ok K cc own nL rm ret) {x y : Int64} (hd : decode cc pc = .ok (.ladd, 1)) (k : T K QQ (pc + 1) lv (.long (x + y) :: st) c1 s1 σ o) : T K QQ pc lv (.long y :: .long x :: st) c1 s1 σ o :=
  T_go (fun q => oks_l (oks_t (oks_t q))) (fun _ _ _ _ _ _ _ _ k => lv_ladd h.1 h.2.1 hd k) k
theorem T_lsub (h : Ok K cc own nL rm ret) {x y : Int64} (hd : decode cc pc = .ok (.lsub, 1)) (k : T K QQ (pc + 1) lv (.long (x - y) :: st) c1 s1 σ o) : T K QQ pc lv (.long y :: .long x :: st) c1 s1 σ o :=
  T_go (fun q => oks_l (oks_t (oks_t q))) (fun _ _ _ _ _ _ _ _ k => lv_lsub h.1 h.2.1 hd k) k
theorem T_lmul (h : Ok K cc own nL rm ret) {x y : Int64} (hd : decode cc pc = .ok (.lmul, 1)) (k : T K QQ (pc + 1) lv (.long (x * y) :: st) c1 s1 σ o) : T K QQ pc lv (.long y :: .long x :: st) c1 s1 σ o :=
  T_go (fun q => oks_l (oks_t (oks_t q))) (fun _ _ _ _ _ _ _ _ k => lv_lmul h.1 h.2.1 hd k) k
theorem T_land (h : Ok K cc own nL rm ret) {x y : Int64} (hd : decode cc pc = .ok (.land, 1)) (k : T K QQ (pc + 1) lv (.long (x &&& y) :: st) c1 s1 σ o) : T K QQ pc lv (.long y :: .long x :: st) c1 s1 σ o :=
  T_go (fun q => oks_l (oks_t (oks_t q))) (fun _ _ _ _ _ _ _ _ k => lv_land h.1 h.2.1 hd k) k
theorem T_lor (h : Ok K cc own nL rm ret) {x y : Int64} (hd : decode cc pc = .ok (.lor, 1)) (k : T K QQ (pc + 1) lv (.long (x ||| y) :: st) c1 s1 σ o) : T K QQ pc lv (.long y :: .long x :: st) c1 s1 σ o :=
  T_go (fun q => oks_l (oks_t (oks_t q))) (fun _ _ _ _ _ _ _ _ k => lv_lor h.1 h.2.1 hd k) k
theorem T_lxor (h : Ok K cc own nL rm ret) {x y : Int64} (hd : decode cc pc = .ok (.lxor, 1)) (k : T K QQ (pc + 1) lv (.long (x ^^^ y) :: st) c1 s1 σ o) : T K QQ pc lv (.long y :: .long x :: st) c1 s1 σ o :=
  T_go (fun q => oks_l (oks_t (oks_t q))) (fun _ _ _ _ _ _ _ _ k => lv_lxor h.1 h.2.1 hd k) k
theorem T_lshl (h : Ok K cc own nL rm ret) {x : Int64} {y : Int32} (hd : decode cc pc = .ok (.lshl, 1)) (k : T K QQ (pc + 1) lv (.long (x <<< (y.toInt64 &&& 63)) :: st) c1 s1 σ o) : T K QQ pc lv (.int y :: .long x :: st) c1 s1 σ o :=
  T_go (fun q => oks_l (oks_t (oks_t q))) (fun _ _ _ _ _ _ _ _ k => lv_lshl h.1 h.2.1 hd rfl k) k
theorem T_lshr (h : Ok K cc own nL rm ret) {x : Int64} {y : Int32} (hd : decode cc pc = .ok (.lshr, 1)) (k : T K QQ (pc + 1) lv (.long (x >>> (y.toInt64 &&& 63)) :: st) c1 s1 σ o) : T K QQ pc lv (.int y :: .long x :: st) c1 s1 σ o :=
  T_go (fun q => oks_l (oks_t (oks_t q))) (fun _ _ _ _ _ _ _ _ k => lv_lshr h.1 h.2.1 hd rfl k) k
theorem T_i2l (h : Ok K cc own nL rm ret) {x : Int32} (hd : decode cc pc = .ok (.i2l, 1)) (k : T K QQ (pc + 1) lv (.long x.toInt64 :: st) c1 s1 σ o) : T K QQ pc lv (.int x :: st) c1 s1 σ o :=
  T_go (fun q => oks_l (oks_t q)) (fun _ _ _ _ _ _ _ _ k => lv_i2l h.1 h.2.1 hd rfl k) k
theorem T_l2i (h : Ok K cc own nL rm ret) {x : Int64} (hd : decode cc pc = .ok (.l2i, 1)) (k : T K QQ (pc + 1) lv (.int x.toInt32 :: st) c1 s1 σ o) : T K QQ pc lv (.long x :: st) c1 s1 σ o :=
  T_go (fun q => oks_i (oks_t q)) (fun _ _ _ _ _ _ _ _ k => lv_l2i h.1 h.2.1 hd rfl k) k
theorem T_i2b (h : Ok K cc own nL rm ret) {x : Int32} (hd : decode cc pc = .ok (.i2b, 1)) (k : T K QQ (pc + 1) lv (.int x.toInt8.toInt32 :: st) c1 s1 σ o) : T K QQ pc lv (.int x :: st) c1 s1 σ o :=
  T_go (fun q => oks_i (oks_t q)) (fun _ _ _ _ _ _ _ _ k => lv_i2b h.1 h.2.1 hd rfl k) k
theorem T_lcmp (h : Ok K cc own nL rm ret) {x y : Int64} (hd : decode cc pc = .ok (.lcmp, 1)) (k : T K QQ (pc + 1) lv (.int (lg_cmp x y) :: st) c1 s1 σ o) : T K QQ pc lv (.long y :: .long x :: st) c1 s1 σ o :=
  T_go (fun q => oks_i (oks_t (oks_t q))) (fun _ _ _ _ _ _ _ _ k => W.lcmp h.1 h.2.1 hd k) k
theorem T_dup (h : Ok K cc own nL rm ret) {v : Value} (hd : decode cc pc = .ok (.dup, 1)) (hv : v.category = 1) (k : T K QQ (pc + 1) lv (v :: v :: st) c1 s1 σ o) : T K QQ pc lv (v :: st) c1 s1 σ o :=
  T_go (fun q => oks_p (oks_h q) q) (fun ad _ _ _ _ _ _ _ k => lv_dup h.1 h.2.1 hd ((cat_cv ad v).trans hv) k) k
theorem T_pop (h : Ok K cc own nL rm ret) {v : Value} (hd : decode cc pc = .ok (.pop, 1)) (hv : v.category = 1) (k : T K QQ (pc + 1) lv st c1 s1 σ o) : T K QQ pc lv (v :: st) c1 s1 σ o :=
  T_go oks_t (fun ad _ _ _ _ _ _ _ k => lv_pop h.1 h.2.1 hd ((cat_cv ad v).trans hv) k) k
theorem T_dup2 (h : Ok K cc own nL rm ret) {u v : Value} (hd : decode cc pc = .ok (.dup2, 1)) (hu : u.category = 1) (hv : v.category = 1) (k : T K QQ (pc + 1) lv (u :: v :: u :: v :: st) c1 s1 σ o) : T K QQ pc lv (u :: v :: st) c1 s1 σ o :=
  T_go (fun q => oks_p (oks_h q) (oks_p (oks_h (oks_t q)) q)) (fun ad _ _ _ _ _ _ _ k => lv_dup2_11 h.1 h.2.1 hd ((cat_cv ad u).trans hu) ((cat_cv ad v).trans hv) k) k
theorem T_goto (h : Ok K cc own nL rm ret) {off : Int} {tgt : Nat} (hd : decode cc pc = .ok (.goto off, 3)) (ht : (pc : Int) + off = (tgt : Int)) (k : T K QQ tgt lv st c1 s1 σ o) : T K QQ pc lv st c1 s1 σ o :=
  T_go id (fun _ _ _ _ _ _ _ _ k => lv_goto h.1 h.2.1 hd ht k) k
theorem T_if_eq (h : Ok K cc own nL rm ret) {x : Int32} {off : Int} {tgt : Nat} (hd : decode cc pc = .ok (.ifCond .eq off, 3)) (ht : (pc : Int) + off = (tgt : Int)) (kt : T K QQ tgt lv st c1 s1 σ o1) (kf : T K QQ (pc + 3) lv st c1 s1 σ o2) : T K QQ pc lv (.int x :: st) c1 s1 σ (if x = 0 then o1 else o2) := by
  intro r σ' ho ad H locs ls hI hk hl
  exact lv_if_eq h.1 h.2.1 hd ht (fun hc => kt r σ' (by rw [if_pos hc] at ho; exact ho) ad H locs ls hI (oks_t hk) hl) (fun hc => kf r σ' (by rw [if_neg hc] at ho; exact ho) ad H locs ls hI (oks_t hk) hl)
theorem T_if_ne (h : Ok K cc own nL rm ret) {x : Int32} {off : Int} {tgt : Nat} (hd : decode cc pc = .ok (.ifCond .ne off, 3)) (ht : (pc : Int) + off = (tgt : Int)) (kt : T K QQ tgt lv st c1 s1 σ o1) (kf : T K QQ (pc + 3) lv st c1 s1 σ o2) : T K QQ pc lv (.int x :: st) c1 s1 σ (if x = 0 then o2 else o1) := by
  intro r σ' ho ad H locs ls hI hk hl
  exact lv_if_ne h.1 h.2.1 hd ht (fun hc => kt r σ' (by rw [if_neg hc] at ho; exact ho) ad H locs ls hI (oks_t hk) hl) (fun hc => kf r σ' (by rw [if_pos hc] at ho; exact ho) ad H locs ls hI (oks_t hk) hl)
theorem T_if_lt (h : Ok K cc own nL rm ret) {x : Int32} {off : Int} {tgt : Nat} (hd : decode cc pc = .ok (.ifCond .lt off, 3)) (ht : (pc : Int) + off = (tgt : Int)) (kt : T K QQ tgt lv st c1 s1 σ o1) (kf : T K QQ (pc + 3) lv st c1 s1 σ o2) : T K QQ pc lv (.int x :: st) c1 s1 σ (if x < 0 then o1 else o2) := by
  intro r σ' ho ad H locs ls hI hk hl
  exact lv_if_lt h.1 h.2.1 hd ht (fun hc => kt r σ' (by rw [if_pos hc] at ho; exact ho) ad H locs ls hI (oks_t hk) hl) (fun hc => kf r σ' (by rw [if_neg hc] at ho; exact ho) ad H locs ls hI (oks_t hk) hl)
theorem T_if_ge (h : Ok K cc own nL rm ret) {x : Int32} {off : Int} {tgt : Nat} (hd : decode cc pc = .ok (.ifCond .ge off, 3)) (ht : (pc : Int) + off = (tgt : Int)) (kt : T K QQ tgt lv st c1 s1 σ o1) (kf : T K QQ (pc + 3) lv st c1 s1 σ o2) : T K QQ pc lv (.int x :: st) c1 s1 σ (if 0 ≤ x then o1 else o2) := by
  intro r σ' ho ad H locs ls hI hk hl
  exact lv_if_ge h.1 h.2.1 hd ht (fun hc => kt r σ' (by rw [if_pos hc] at ho; exact ho) ad H locs ls hI (oks_t hk) hl) (fun hc => kf r σ' (by rw [if_neg hc] at ho; exact ho) ad H locs ls hI (oks_t hk) hl)
theorem T_if_gt (h : Ok K cc own nL rm ret) {x : Int32} {off : Int} {tgt : Nat} (hd : decode cc pc = .ok (.ifCond .gt off, 3)) (ht : (pc : Int) + off = (tgt : Int)) (kt : T K QQ tgt lv st c1 s1 σ o1) (kf : T K QQ (pc + 3) lv st c1 s1 σ o2) : T K QQ pc lv (.int x :: st) c1 s1 σ (if 0 < x then o1 else o2) := by
  intro r σ' ho ad H locs ls hI hk hl
  exact lv_if_gt h.1 h.2.1 hd ht (fun hc => kt r σ' (by rw [if_pos hc] at ho; exact ho) ad H locs ls hI (oks_t hk) hl) (fun hc => kf r σ' (by rw [if_neg hc] at ho; exact ho) ad H locs ls hI (oks_t hk) hl)
theorem T_if_le (h : Ok K cc own nL rm ret) {x : Int32} {off : Int} {tgt : Nat} (hd : decode cc pc = .ok (.ifCond .le off, 3)) (ht : (pc : Int) + off = (tgt : Int)) (kt : T K QQ tgt lv st c1 s1 σ o1) (kf : T K QQ (pc + 3) lv st c1 s1 σ o2) : T K QQ pc lv (.int x :: st) c1 s1 σ (if x ≤ 0 then o1 else o2) := by
  intro r σ' ho ad H locs ls hI hk hl
  exact lv_if_le h.1 h.2.1 hd ht (fun hc => kt r σ' (by rw [if_pos hc] at ho; exact ho) ad H locs ls hI (oks_t hk) hl) (fun hc => kf r σ' (by rw [if_neg hc] at ho; exact ho) ad H locs ls hI (oks_t hk) hl)
theorem T_icmp_eq (h : Ok K cc own nL rm ret) {x y : Int32} {off : Int} {tgt : Nat} (hd : decode cc pc = .ok (.if_icmp .eq off, 3)) (ht : (pc : Int) + off = (tgt : Int)) (kt : T K QQ tgt lv st c1 s1 σ o1) (kf : T K QQ (pc + 3) lv st c1 s1 σ o2) : T K QQ pc lv (.int y :: .int x :: st) c1 s1 σ (if x = y then o1 else o2) := by
  intro r σ' ho ad H locs ls hI hk hl
  exact lv_icmp_eq h.1 h.2.1 hd ht (fun hc => kt r σ' (by rw [if_pos hc] at ho; exact ho) ad H locs ls hI (oks_t (oks_t hk)) hl) (fun hc => kf r σ' (by rw [if_neg hc] at ho; exact ho) ad H locs ls hI (oks_t (oks_t hk)) hl)
theorem T_icmp_ne (h : Ok K cc own nL rm ret) {x y : Int32} {off : Int} {tgt : Nat} (hd : decode cc pc = .ok (.if_icmp .ne off, 3)) (ht : (pc : Int) + off = (tgt : Int)) (kt : T K QQ tgt lv st c1 s1 σ o1) (kf : T K QQ (pc + 3) lv st c1 s1 σ o2) : T K QQ pc lv (.int y :: .int x :: st) c1 s1 σ (if x = y then o2 else o1) := by
  intro r σ' ho ad H locs ls hI hk hl
  exact lv_icmp_ne h.1 h.2.1 hd ht (fun hc => kt r σ' (by rw [if_neg hc] at ho; exact ho) ad H locs ls hI (oks_t (oks_t hk)) hl) (fun hc => kf r σ' (by rw [if_pos hc] at ho; exact ho) ad H locs ls hI (oks_t (oks_t hk)) hl)
theorem T_icmp_lt (h : Ok K cc own nL rm ret) {x y : Int32} {off : Int} {tgt : Nat} (hd : decode cc pc = .ok (.if_icmp .lt off, 3)) (ht : (pc : Int) + off = (tgt : Int)) (kt : T K QQ tgt lv st c1 s1 σ o1) (kf : T K QQ (pc + 3) lv st c1 s1 σ o2) : T K QQ pc lv (.int y :: .int x :: st) c1 s1 σ (if x < y then o1 else o2) := by
  intro r σ' ho ad H locs ls hI hk hl
  exact lv_icmp_lt h.1 h.2.1 hd ht (fun hc => kt r σ' (by rw [if_pos hc] at ho; exact ho) ad H locs ls hI (oks_t (oks_t hk)) hl) (fun hc => kf r σ' (by rw [if_neg hc] at ho; exact ho) ad H locs ls hI (oks_t (oks_t hk)) hl)
theorem T_icmp_ge (h : Ok K cc own nL rm ret) {x y : Int32} {off : Int} {tgt : Nat} (hd : decode cc pc = .ok (.if_icmp .ge off, 3)) (ht : (pc : Int) + off = (tgt : Int)) (kt : T K QQ tgt lv st c1 s1 σ o1) (kf : T K QQ (pc + 3) lv st c1 s1 σ o2) : T K QQ pc lv (.int y :: .int x :: st) c1 s1 σ (if y ≤ x then o1 else o2) := by
  intro r σ' ho ad H locs ls hI hk hl
  exact lv_icmp_ge h.1 h.2.1 hd ht (fun hc => kt r σ' (by rw [if_pos hc] at ho; exact ho) ad H locs ls hI (oks_t (oks_t hk)) hl) (fun hc => kf r σ' (by rw [if_neg hc] at ho; exact ho) ad H locs ls hI (oks_t (oks_t hk)) hl)
theorem T_icmp_gt (h : Ok K cc own nL rm ret) {x y : Int32} {off : Int} {tgt : Nat} (hd : decode cc pc = .ok (.if_icmp .gt off, 3)) (ht : (pc : Int) + off = (tgt : Int)) (kt : T K QQ tgt lv st c1 s1 σ o1) (kf : T K QQ (pc + 3) lv st c1 s1 σ o2) : T K QQ pc lv (.int y :: .int x :: st) c1 s1 σ (if y < x then o1 else o2) := by
  intro r σ' ho ad H locs ls hI hk hl
  exact lv_icmp_gt h.1 h.2.1 hd ht (fun hc => kt r σ' (by rw [if_pos hc] at ho; exact ho) ad H locs ls hI (oks_t (oks_t hk)) hl) (fun hc => kf r σ' (by rw [if_neg hc] at ho; exact ho) ad H locs ls hI (oks_t (oks_t hk)) hl)
theorem T_icmp_le (h : Ok K cc own nL rm ret) {x y : Int32} {off : Int} {tgt : Nat} (hd : decode cc pc = .ok (.if_icmp .le off, 3)) (ht : (pc : Int) + off = (tgt : Int)) (kt : T K QQ tgt lv st c1 s1 σ o1) (kf : T K QQ (pc + 3) lv st c1 s1 σ o2) : T K QQ pc lv (.int y :: .int x :: st) c1 s1 σ (if x ≤ y then o1 else o2) := by
  intro r σ' ho ad H locs ls hI hk hl
  exact lv_icmp_le h.1 h.2.1 hd ht (fun hc => kt r σ' (by rw [if_pos hc] at ho; exact ho) ad H locs ls hI (oks_t (oks_t hk)) hl) (fun hc => kf r σ' (by rw [if_neg hc] at ho; exact ho) ad H locs ls hI (oks_t (oks_t hk)) hl)
theorem T_tsw (h : Ok K cc own nL rm ret) {x : Int32} {dflt lo hi : Int} {offs : Array Int} {len tgt : Nat} {ol : List (Option (ρ × Sg))} (hd : decode cc pc = .ok (.tableswitch dflt lo hi offs, len)) (ht : (pc : Int) + dflt = (tgt : Int)) (tl : List Nat) (hn : offs.size = tl.length) (hr : hi - lo < tl.length) (hlen : ol.length = tl.length) (hoff : ∀ j : Nat, j < tl.length → offs[j]?.map (fun z => (pc : Int) + z) = some ((tl.getD j 0 : Nat) : Int))
    (kd : T K QQ tgt lv st c1 s1 σ o1) (kk : ∀ q ∈ tl.zip ol, T K QQ q.1 lv st c1 s1 σ q.2) : T K QQ pc lv (.int x :: st) c1 s1 σ (if x.toInt < lo ∨ hi < x.toInt then o1 else swt ol (x.toInt - lo).toNat) := by
  intro r σ' ho ad H locs ls hI hk hl
  by_cases hc : x.toInt < lo ∨ hi < x.toInt
  · rw [if_pos hc] at ho
    exact lv_tableOut h.1 h.2.1 hd hc ht (kd r σ' ho ad H locs ls hI (oks_t hk) hl)
  · rw [if_neg hc] at ho
    obtain ⟨hlo, hhi⟩ := not_or.mp hc
    have hj : (x.toInt - lo).toNat < tl.length := by omega
    have ho2 := hoff _ hj
    cases hof : offs[(x.toInt - lo).toNat]? with
    | none => rw [hof] at ho2; cases ho2
    | some off =>
      rw [hof] at ho2
      refine lv_tableIn h.1 h.2.1 hd hlo hhi hof (Option.some.inj ho2) ?_
      have hm : (tl.getD (x.toInt - lo).toNat 0, ol.getD (x.toInt - lo).toNat none) ∈ tl.zip ol := by
        have e1 : tl[(x.toInt - lo).toNat]? = some (tl.getD (x.toInt - lo).toNat 0) := by rw [List.getD_eq_getElem?_getD, List.getElem?_eq_getElem hj]; rfl
        have hj2 : (x.toInt - lo).toNat < ol.length := by rw [hlen]; exact hj
        have e2 : ol[(x.toInt - lo).toNat]? = some (ol.getD (x.toInt - lo).toNat none) := by rw [List.getD_eq_getElem?_getD, List.getElem?_eq_getElem hj2]; rfl
        exact List.mem_of_getElem? (i := (x.toInt - lo).toNat) (List.getElem?_zip_eq_some.mpr ⟨e1, e2⟩)
      exact kk _ hm r σ' ho ad H locs ls hI (oks_t hk) hl
end TT
