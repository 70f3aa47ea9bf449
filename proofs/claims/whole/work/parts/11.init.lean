/-! calls of constructors; loops of known length; the law's script -/
def MI (y : MethodName) (cc : ByteArray) (maxL n : Nat) : Prop :=
  y.name = "<init>" ∧ (y.cls ≠ "java/lang/invoke/MethodHandle" ∧ y.cls ≠ "java/lang/invoke/VarHandle" ∧ (parseMethodDescriptor y.desc).map (fun d => d.parameters.length) = some n) ∧ Cond.instanceMethod y ∈ gw_tbl ∧ Cond.initialized y.cls ∈ gw_tbl ∧ Cond.code y cc maxL none ∈ gw_tbl
theorem gin1 {e : Cond} {l : List Cond} (he : e ∈ gw_tbl) (hl : ∀ w ∈ l, w ∈ gw_tbl) : ∀ w ∈ e :: l, w ∈ gw_tbl := by
  intro w hw
  rcases List.mem_cons.mp hw with rfl | hw
  · exact he
  · exact hl w hw
def SX (K : Cx) (L : Nat) (xs : Nat → Int32) : Prop := va_X (kad K SP) L xs (ks K) (ks K).heap ∧ kad K SP < (ks K).heap.size ∧ ¬ kA K (kad K SP)
section TI
variable {ρ : Type} {K : Cx} {QQ : ρ → Sg → Array Value → State → Outcome → State → Prop} {cc : ByteArray} {own : String} {nL : Nat} {rm : Room} {ret : Option FieldType} {pc : Nat} {lv lv' : List (Nat × Value)} {st : List Value} {c1 s1 : Nat} {σ : Sg} {o : Option (ρ × Sg)}
theorem T_callI (h : Ok K cc own nL rm ret) {p : Nat} {y : MethodName} {cc2 : ByteArray} {maxL2 n2 idx : Nat} {rm2 : Room} {avs : List Value} {stk : List Value} {o2 : Option (Unit × Sg)} {kf : Unit → Sg → Option (ρ × Sg)} (hM : CTv (kl K) y cc2 maxL2 none rm2 (kiv K) (.ref p :: avs) σ o2) (hm : MI y cc2 maxL2 n2) (hlk : Cond.methodLink own idx y ∈ gw_tbl) (hn : avs.length = n2) (hR : rm2.frames + 1 ≤ rm.frames ∧ 8 + (maxL2 + 11) + rm2.locals ≤ rm.locals) (hf : c1 + rm2.cells ≤ rm.cells ∧ s1 + rm2.slots ≤ rm.slots) (hW : (st.map fun v => v.category).sum ≤ 8) (hd : decode cc pc = .ok (.invokespecial idx, 3)) (hst : avs.reverse ++ .ref p :: st = stk) (kk : ∀ (r : Unit) (σ' : Sg), T K QQ (pc + 3) lv st (c1 + rm2.cells) (s1 + rm2.slots) σ' (kf r σ')) : T K QQ pc lv stk c1 s1 σ (bd o2 kf) := by
  intro r σ' ho ad H locs ls hI hok hl
  obtain ⟨r2, σ2, ho2, ho⟩ := bd_some ho
  subst hst
  have hokA : ∀ v ∈ .ref p :: avs, okv σ v := fun v hv => hok.2 v (by
    simp only [List.mem_append, List.mem_reverse, List.mem_cons] at hv ⊢
    rcases hv with e | e; exact Or.inr (Or.inl e); exact Or.inl e)
  have hokS : oks σ lv st := ⟨hok.1, fun v hv => hok.2 v (by simp only [List.mem_append, List.mem_cons]; exact Or.inr (Or.inr hv))⟩
  have hMet := hM (kD K) (kcy K) (kba K) ad H.size r2 σ2 ho2 hokA
  have hFc := In_free h hI
  have hRR : kR K = rm := h.2.2.2.2.2.2.2.1
  refine va_callv (va_runI (As := avs.map (cv ad)) (rest := st.map (cv ad)) (b := ad p) ⟨h.1, h.2.1, h.2.2.1, h.2.2.2.1, h.2.2.2.2.1⟩ hMet (cwI n2 h.2.2.2.2.1 (gw_gin (gin1 hm.2.2.2.2 (fun _ z => z))) rfl rfl rfl (h.2.2.2.2.1 _ hm.2.2.2.1) (h.2.2.2.2.1 _ hlk) (h.2.2.2.2.1 _ hm.2.2.1) hm.1 hm.2.1 (by rw [hRR]; exact hR)) ⟨PU_blind, fun U hU hWu => ⟨rfl, In_PU h hI hU hWu⟩⟩ rfl (by rw [List.length_map]; exact hn) (by rw [← h.2.2.1]; exact hl.1) (by show (avs.reverse ++ .ref p :: st).map (cv ad) = _; rw [List.map_append, List.map_reverse]; rfl) (lv_room (st_room ad hW)) hd (by rw [hRR]; exact hf)) hI.2.2.2.2.1 (fun q _ z => hFc q z) hFc (fun ad' t H1 locs1 ht hvm hp hB hz1 hk1 hS1 => ?_)
  have hw := kk r2 σ2 r σ' ho ad' H1 locs1 ls (In_back h hI ht hp hB hS1) (ok_back hp.2 hokS) (lv_back hp.1 hokS hl)
  rw [st_back hp.1 hokS] at hw
  exact hw
theorem T_callIN (h : Ok K cc own nL rm ret) {p : Nat} {y : MethodName} {host : String} {cc2 : ByteArray} {maxL2 n2 idx : Nat} {rm2 : Room} {avs : List Value} {stk : List Value} {o2 : Option (Unit × Sg)} {kf : Unit → Sg → Option (ρ × Sg)} (hM : CTv (kl K) y cc2 maxL2 none rm2 (kiv K) (.ref p :: avs) σ o2) (hm : MI y cc2 maxL2 n2) (hlk : va_Nw (.methodLinkNest own idx y host) (ks K)) (hn : avs.length = n2) (hR : rm2.frames + 1 ≤ rm.frames ∧ 8 + (maxL2 + 11) + rm2.locals ≤ rm.locals) (hf : c1 + rm2.cells ≤ rm.cells ∧ s1 + rm2.slots ≤ rm.slots) (hW : (st.map fun v => v.category).sum ≤ 8) (hd : decode cc pc = .ok (.invokespecial idx, 3)) (hst : avs.reverse ++ .ref p :: st = stk) (kk : ∀ (r : Unit) (σ' : Sg), T K QQ (pc + 3) lv st (c1 + rm2.cells) (s1 + rm2.slots) σ' (kf r σ')) : T K QQ pc lv stk c1 s1 σ (bd o2 kf) := by
  intro r σ' ho ad H locs ls hI hok hl
  obtain ⟨r2, σ2, ho2, ho⟩ := bd_some ho
  subst hst
  have hokA : ∀ v ∈ .ref p :: avs, okv σ v := fun v hv => hok.2 v (by
    simp only [List.mem_append, List.mem_reverse, List.mem_cons] at hv ⊢
    rcases hv with e | e; exact Or.inr (Or.inl e); exact Or.inl e)
  have hokS : oks σ lv st := ⟨hok.1, fun v hv => hok.2 v (by simp only [List.mem_append, List.mem_cons]; exact Or.inr (Or.inr hv))⟩
  have hMet := hM (kD K) (kcy K) (kba K) ad H.size r2 σ2 ho2 hokA
  have hFc := In_free h hI
  have hRR : kR K = rm := h.2.2.2.2.2.2.2.1
  refine va_callv (va_runIN (host := host) (As := avs.map (cv ad)) (rest := st.map (cv ad)) (b := ad p) ⟨h.1, h.2.1, h.2.2.1, h.2.2.2.1, h.2.2.2.2.1⟩ hMet ⟨va_cnB n2 h.2.2.2.2.1 (gw_gin (gin1 hm.2.2.2.2 (fun _ z => z))) rfl rfl rfl hlk (h.2.2.2.2.1 _ hm.2.2.2.1) hm.2.1 (by rw [hRR]; exact hR), hm.1, h.2.2.2.2.1 _ hm.2.2.1⟩ ⟨PU_blind, fun U hU hWu => ⟨rfl, In_PU h hI hU hWu⟩⟩ rfl (by rw [List.length_map]; exact hn) (by rw [← h.2.2.1]; exact hl.1) (by show (avs.reverse ++ .ref p :: st).map (cv ad) = _; rw [List.map_append, List.map_reverse]; rfl) (lv_room (st_room ad hW)) hd (by rw [hRR]; exact hf)) hI.2.2.2.2.1 (fun q _ z => hFc q z) hFc (fun ad' t H1 locs1 ht hvm hp hB hz1 hk1 hS1 => ?_)
  have hw := kk r2 σ2 r σ' ho ad' H1 locs1 ls (In_back h hI ht hp hB hS1) (ok_back hp.2 hokS) (lv_back hp.1 hokS hl)
  rw [st_back hp.1 hokS] at hw
  exact hw
theorem T_iincC {i : Nat} {n : Int} {w x : Int32} (h : Ok K cc own nL rm ret) (hd : decode cc pc = .ok (.iinc i n, 3)) (j : Nat) (hj : lv[j]? = some (i, .int x)) (hv : x + Int32.ofInt n = w) (hn : i < nL) (hl : (i, Value.int w) :: lv.filter (fun q => !(q.1 == i) && !(q.1 + 1 == i && q.2.category == 2)) = lv') (k : T K QQ (pc + 3) lv' st c1 s1 σ o) : T K QQ pc lv st c1 s1 σ o := by
  intro r σ' ho ad H locs ls hI hk hh
  refine lv_iinc (v := w) (lv' := lv'.map (cvp ad)) h.1 h.2.1 hd hh (at_cv hj) hv (by rw [h.2.2.1]; exact hn) ?_ (fun ls' hh' => k r σ' ho ad H locs ls' hI ⟨fun q hq => ?_, hk.2⟩ hh')
  · rw [← hl]
    exact congrArg (fun z => (i, Value.int w) :: z) (flt_cv ad (fun a c => !(a == i) && !(a + 1 == i && c == 2)) lv)
  · rw [← hl] at hq
    rcases List.mem_cons.mp hq with e | e
    · rw [e]; exact trivial
    · exact hk.1 q (List.mem_filter.mp e).1
theorem T_geT {x y : Int32} {off : Int} {tgt : Nat} (h : Ok K cc own nL rm ret) (hd : decode cc pc = .ok (.if_icmp .ge off, 3)) (ht : (pc : Int) + off = (tgt : Int)) (hc : y ≤ x) (k : T K QQ tgt lv st c1 s1 σ o) : T K QQ pc lv (.int y :: .int x :: st) c1 s1 σ o := by
  intro r σ' ho ad H locs ls hI hk hl
  exact lv_icmp_ge h.1 h.2.1 hd ht (fun _ => k r σ' ho ad H locs ls hI (oks_t (oks_t hk)) hl) (fun z => absurd hc z)
theorem T_geF {x y : Int32} {off : Int} {tgt : Nat} (h : Ok K cc own nL rm ret) (hd : decode cc pc = .ok (.if_icmp .ge off, 3)) (ht : (pc : Int) + off = (tgt : Int)) (hc : ¬ y ≤ x) (k : T K QQ (pc + 3) lv st c1 s1 σ o) : T K QQ pc lv (.int y :: .int x :: st) c1 s1 σ o := by
  intro r σ' ho ad H locs ls hI hk hl
  exact lv_icmp_ge h.1 h.2.1 hd ht (fun z => absurd z hc) (fun _ => k r σ' ho ad H locs ls hI (oks_t (oks_t hk)) hl)
theorem T_sld {L : Nat} {xs : Nat → Int32} {i : Int32} (h : Ok K cc own nL rm ret) (hX : SX K L xs) (hd : decode cc pc = .ok (.iaload, 1)) (kk : T K QQ (pc + 1) lv (.int (xs i.toNatClampNeg) :: st) c1 s1 σ o) : T K QQ pc lv (.int i :: .ref SP :: st) c1 s1 σ (ck (inb i L) o) := by
  intro r σ' ho ad H locs ls hI hok hl
  obtain ⟨hb, ho⟩ := ck_t ho
  have e : ad SP = kad K SP := In_sp hI 0
  refine va_sld (A := kA K) (H0 := (ks K).heap) (b := ad SP) h.1 h.2.1 (by rw [e]; exact hX.1) (by rw [e]; exact hX.2.1) (by rw [e]; exact hX.2.2) hI.2.2.2.2.1 (inb_t hb) hd (kk r σ' ho ad H locs ls hI (oks_i (oks_t (oks_t hok))) hl)
theorem T_slen {L : Nat} {xs : Nat → Int32} (h : Ok K cc own nL rm ret) (hX : SX K L xs) (hd : decode cc pc = .ok (.arraylength, 1)) (kk : T K QQ (pc + 1) lv (.int (Int32.ofNat L) :: st) c1 s1 σ o) : T K QQ pc lv (.ref SP :: st) c1 s1 σ o := by
  intro r σ' ho ad H locs ls hI hok hl
  have e : ad SP = kad K SP := In_sp hI 0
  refine va_slen (A := kA K) (H0 := (ks K).heap) (b := ad SP) h.1 h.2.1 (by rw [e]; exact hX.1) (by rw [e]; exact hX.2.1) (by rw [e]; exact hX.2.2) hI.2.2.2.2.1 hd (kk r σ' ho ad H locs ls hI (oks_i (oks_t hok)) hl)
end TI
