/-! contracts, returns, calls -/
def Bd (D : va_G) (cy : Nat → ClassId) (A : Nat → Prop) (iv : Sg → Prop) (σ : Sg) (ad : Nat → Nat) (t : State) : Prop := va_P D vwCl (wof cy ad σ) t.heap ∧ va_D A (wof cy ad σ) ∧ wfS σ ∧ iv σ
def Qi (D : va_G) (cy : Nat → ClassId) (A : Nat → Prop) (iv : Sg → Prop) (ad : Nat → Nat) (n : Nat) (r : Int32) (σ' : Sg) : Array Value → State → Outcome → State → Prop := va_Qi (fun x (ad' : Nat → Nat) => x = r ∧ PP ad n ad' ∧ n ≤ σ'.1.length) (fun ad' t => Bd D cy A iv σ' ad' t) A
def Ql (D : va_G) (cy : Nat → ClassId) (A : Nat → Prop) (iv : Sg → Prop) (ad : Nat → Nat) (n : Nat) (r : Int64) (σ' : Sg) : Array Value → State → Outcome → State → Prop := va_Ql (fun x (ad' : Nat → Nat) => x = r ∧ PP ad n ad' ∧ n ≤ σ'.1.length) (fun ad' t => Bd D cy A iv σ' ad' t) A
def Qv (D : va_G) (cy : Nat → ClassId) (A : Nat → Prop) (iv : Sg → Prop) (ad : Nat → Nat) (n : Nat) (_ : Unit) (σ' : Sg) : Array Value → State → Outcome → State → Prop := va_Qv (fun (ad' : Nat → Nat) => PP ad n ad' ∧ n ≤ σ'.1.length) (fun ad' t => Bd D cy A iv σ' ad' t) A
abbrev QI (K : Cx) : Int32 → Sg → Array Value → State → Outcome → State → Prop := Qi (kD K) (kcy K) (kA K) (kiv K) (kad K) (kn K)
abbrev QL (K : Cx) : Int64 → Sg → Array Value → State → Outcome → State → Prop := Ql (kD K) (kcy K) (kA K) (kiv K) (kad K) (kn K)
abbrev QV (K : Cx) : Unit → Sg → Array Value → State → Outcome → State → Prop := Qv (kD K) (kcy K) (kA K) (kiv K) (kad K) (kn K)
def PU (D : va_G) (cy : Nat → ClassId) (base : Nat) (ad : Nat → Nat) (iv : Sg → Prop) (σ : Sg) (sz : Nat) (U : State) : Prop :=
  U.heap.size = sz ∧ va_P D vwCl (wof cy ad σ) U.heap ∧ va_D (fun q => base ≤ q) (wof cy ad σ) ∧ wfS σ ∧ iv σ ∧ va_K D vwCl (tysC cy) U ∧ SF base ad U ∧ base ≤ sz
def CTq {ρ : Type} (QF : va_G → (Nat → ClassId) → (Nat → Prop) → (Sg → Prop) → (Nat → Nat) → Nat → ρ → Sg → Array Value → State → Outcome → State → Prop) (l : Launch) (y : MethodName) (cc : ByteArray) (maxL : Nat) (ret : Option FieldType) (rm : Room) (iv : Sg → Prop) (avs : List Value) (σ : Sg) (o : Option (ρ × Sg)) : Prop :=
  ∀ (D : va_G) (cy : Nat → ClassId) (base : Nat) (ad : Nat → Nat) (sz : Nat) (r : ρ) (σ' : Sg), o = some (r, σ') → (∀ v ∈ avs, okv σ v) → Met l y (.code y cc maxL ret :: gw_tbl) rm (va_Pc (avs.map (cv ad)) (PU D cy base ad iv σ sz)) (QF D cy (va_A (wof cy ad σ) sz) iv ad σ.1.length r σ') rm.cells rm.slots (va_A (wof cy ad σ) sz)
abbrev CTi := @CTq Int32 Qi
abbrev CTl := @CTq Int64 Ql
abbrev CTv := @CTq Unit Qv
theorem SF_moved {base : Nat} {ad ad' : Nat → Nat} {s U : State} (A : Nat → Prop) (hvm : s.vm.Alike U.vm) (hX : XF s → XF U) (hA : ∀ q, A q → base ≤ q) (hk : ∀ q : Nat, q < s.heap.size → ¬ A q → U.heap[q]? = s.heap[q]?) (h1 : ad' (SP + 1) = ad (SP + 1)) (h2 : ad' (SP + 2) = ad (SP + 2)) (h : SF base ad s) : SF base ad' U := by
  obtain ⟨a, b, c, d, e⟩ := h
  have kk : ∀ q : Nat, q < s.heap.size → ¬ base ≤ q → U.heap[q]? = s.heap[q]? := fun q hq hb => hk q hq (fun z => hb (hA q z))
  unfold SF
  rw [h1, h2]
  exact ⟨(va_Z.moved hvm a).kept kk, (va_Z.moved hvm b).kept kk, (va_T.moved hvm c).kept kk, (va_T.moved hvm d).kept kk, hX e⟩
theorem PU_blind {D : va_G} {cy : Nat → ClassId} {base : Nat} {ad : Nat → Nat} {iv : Sg → Prop} {σ : Sg} {sz : Nat} {av : List Value} : FrameBlind (va_Pc av (PU D cy base ad iv σ sz)) := by
  intro a U g mk q
  obtain ⟨q0, q1, q2, q3, q4, q5, q6, q7, q8⟩ := q
  exact ⟨q0, q1, q2, q3, q4, q5, va_K.moved (u := U) (U := U.calling g mk a) (Vm.Alike.refl U.vm) q6, SF_moved (fun _ => False) (s := U) (U := U.calling g mk a) (Vm.Alike.refl U.vm) (XF.same rfl) (fun _ h => h.elim) (fun _ _ _ => rfl) rfl rfl q7, q8⟩
theorem args_cv (ad : Nat → Nat) : ∀ (vs : List Value) (i : Nat), lv_args i (vs.map (cv ad)) = (lv_args i vs).map (cvp ad)
  | [], _ => rfl
  | v :: vs, i => by
    show (i, cv ad v) :: lv_args (if (cv ad v).category = 2 then i + 2 else i + 1) (vs.map (cv ad)) = (i, cv ad v) :: (lv_args (if v.category = 2 then i + 2 else i + 1) vs).map (cvp ad)
    rw [cat_cv, args_cv ad vs]
theorem args_in : ∀ (vs : List Value) (i : Nat) (q : Nat × Value), q ∈ lv_args i vs → q.2 ∈ vs
  | [], _, q, h => by cases h
  | v :: vs, i, q, h => by
    rcases List.mem_cons.mp h with e | e
    · rw [e]; exact List.mem_cons_self
    · exact List.mem_cons_of_mem _ (args_in vs _ q e)
theorem sl_cv (ad : Nat → Nat) : ∀ vs : List Value, (lg_sl (vs.map (cv ad))).length = (lg_sl vs).length
  | [] => rfl
  | v :: vs => by
    have ih := sl_cv ad vs
    unfold lg_sl at ih ⊢
    simp only [List.map_cons, List.flatMap_cons, List.length_append, ih]
    congr 1
    cases v <;> rfl
theorem cv_eq {σ : Sg} {ad ad' : Nat → Nat} (hp : PP ad σ.1.length ad') {v : Value} (h : okv σ v) : cv ad' v = cv ad v := by
  cases v with
  | ref a => exact congrArg Value.ref (hp a h)
  | _ => rfl
theorem okv_le {σ σ' : Sg} (h : σ.1.length ≤ σ'.1.length) {v : Value} (hv : okv σ v) : okv σ' v := by
  cases v with
  | ref a => exact hv.elim (fun z => Or.inl (Nat.lt_of_lt_of_le z h)) Or.inr
  | _ => trivial
section TC
variable {ρ : Type} {K : Cx} {QQ : ρ → Sg → Array Value → State → Outcome → State → Prop} {cc : ByteArray} {own : String} {nL : Nat} {rm : Room} {ret : Option FieldType} {pc : Nat} {lv lv' : List (Nat × Value)} {st : List Value} {c1 s1 : Nat} {σ : Sg} {o : Option (ρ × Sg)}
theorem T_ireturn {v : Int32} (h : Ok K cc own nL rm (some .int)) (hc : c1 ≤ kmc K) (hs : s1 ≤ kms K) (hd : decode cc pc = .ok (.ireturn, 1)) : T K (QI K) pc lv [.int v] c1 s1 σ (some (v, σ)) := by
  intro r σ' ho ad H locs ls hI hok hl
  cases ho
  refine W.widen hc hs ?_
  exact W.iret (v := v) h.1 h.2.1 h.2.2.2.2.2.2.1 (fun t ht hW => ⟨⟨v, ad, rfl, ⟨rfl, hI.2.2.2.2.2⟩, ⟨by rw [ht]; exact hI.1, hI.2.1, hI.2.2.1, hI.2.2.2.1⟩⟩, hI.2.2.2.2.1.F ht⟩) hI.2.2.2.2.1.2.2 hd h.2.2.2.2.2.1
theorem T_zreturn {v : Int32} (h : Ok K cc own nL rm (some .boolean)) (hc : c1 ≤ kmc K) (hs : s1 ≤ kms K) (hd : decode cc pc = .ok (.ireturn, 1)) : T K (QI K) pc lv [.int v] c1 s1 σ (ck (b01 v) (some (v, σ))) := by
  intro r σ' ho ad H locs ls hI hok hl
  obtain ⟨hb, ho⟩ := ck_t ho
  cases ho
  refine W.widen hc hs ?_
  exact W.zret (v := v) h.1 h.2.1 h.2.2.2.2.2.2.1 (b01_n hb) (fun t ht hW => ⟨⟨v, ad, rfl, ⟨rfl, hI.2.2.2.2.2⟩, ⟨by rw [ht]; exact hI.1, hI.2.1, hI.2.2.1, hI.2.2.2.1⟩⟩, hI.2.2.2.2.1.F ht⟩) hI.2.2.2.2.1.2.2 hd h.2.2.2.2.2.1
theorem T_lreturn {v : Int64} (h : Ok K cc own nL rm (some .long)) (hc : c1 ≤ kmc K) (hs : s1 ≤ kms K) (hd : decode cc pc = .ok (.lreturn, 1)) : T K (QL K) pc lv [.long v] c1 s1 σ (some (v, σ)) := by
  intro r σ' ho ad H locs ls hI hok hl
  cases ho
  refine W.widen hc hs ?_
  exact W.lret (v := v) h.1 h.2.1 h.2.2.2.2.2.2.1 (fun t ht hW => ⟨⟨v, ad, rfl, ⟨rfl, hI.2.2.2.2.2⟩, ⟨by rw [ht]; exact hI.1, hI.2.1, hI.2.2.1, hI.2.2.2.1⟩⟩, hI.2.2.2.2.1.F ht⟩) hI.2.2.2.2.1.2.2 hd h.2.2.2.2.2.1
theorem T_return (h : Ok K cc own nL rm none) (hc : c1 ≤ kmc K) (hs : s1 ≤ kms K) (hd : decode cc pc = .ok (.return_, 1)) : T K (QV K) pc lv [] c1 s1 σ (some ((), σ)) := by
  intro r σ' ho ad H locs ls hI hok hl
  cases ho
  refine W.widen hc hs ?_
  exact W.vret h.1 h.2.1 h.2.2.2.2.2.2.1 (fun t ht hW => ⟨⟨ad, rfl, hI.2.2.2.2.2, ⟨by rw [ht]; exact hI.1, hI.2.1, hI.2.2.1, hI.2.2.2.1⟩⟩, hI.2.2.2.2.1.F ht⟩) hI.2.2.2.2.1.2.2 hd h.2.2.2.2.2.1
/-- a contract out of the walk from the method's entry -/
theorem CT_of {QF : va_G → (Nat → ClassId) → (Nat → Prop) → (Sg → Prop) → (Nat → Nat) → Nat → ρ → Sg → Array Value → State → Outcome → State → Prop} {l : Launch} {y : MethodName} {maxL : Nat} {iv : Sg → Prop} {avs : List Value} (hy : plainName y.cls = true) (hn : (lg_sl avs).length ≤ maxL)
    (hT : ∀ K : Cx, kl K = l → Ok K cc y.cls maxL rm ret → (y.name = "<init>" → (kme K).name = "<init>") → kiv K = iv → kmc K = rm.cells → kms K = rm.slots → T K (QF (kD K) (kcy K) (kA K) (kiv K) (kad K) (kn K)) 0 (lv_args 0 avs) [] 0 0 σ o) : CTq QF l y cc maxL ret rm iv avs σ o := by
  intro D cy base ad sz r σ' ho hok
  refine Met.ofW (cc := cc) (maxL := maxL) (ret := ret) hy rfl ?_
  intro p e s m args below meth c s₁ B hml hv
  obtain ⟨rfl, hsz, hP, hD, hwf, hiv, hK, hSF, hb⟩ := hv
  have hA : ∀ q : Nat, s.heap.size ≤ q → va_A (wof cy ad σ) sz q := fun q h => Or.inr (by rw [← hsz]; exact h)
  have hAb : ∀ q, va_A (wof cy ad σ) sz q → base ≤ q := fun q h => by
    rcases h with ⟨k, e, h⟩ | h
    · exact hD.2 k (q, e) h
    · exact Nat.le_trans hb h
  have hts : ∀ w ∈ gw_tbl, w.before (avs.map (cv ad)).toArray s = true := fun w hw => atoms_spec (ws := .code y cc maxL ret :: gw_tbl) B.pre w (List.mem_cons_of_mem _ hw)
  have hown : s.vm.findClass y.cls = some m.cls := findClass_of_methodNamed B.named
  have key := hT (p, l, e, (headSpec (.code y cc maxL ret :: gw_tbl) rm).room, s, m, (avs.map (cv ad)).toArray, below, meth, c, D, cy, va_A (wof cy ad σ) sz, rm.cells, rm.slots, ad, σ.1.length, base, iv) rfl
    ⟨B.exec, B.bytes, hml, hown, hts, B.notSynchronized, B.returns, rfl, hK, hA, hAb, hSF, by show base ≤ s.heap.size; rw [hsz]; exact hb⟩ (fun hi => ((name_of_methodNamed B.named B.method).1).trans hi) rfl rfl rfl
  have hl := lv_entry (avs.map (cv ad)) (n := maxL) (by rw [sl_cv]; exact hn)
  rw [lg_entry_eq]
  generalize (lg_sl (avs.map (cv ad)) ++ List.replicate (maxL - (lg_sl (avs.map (cv ad))).length) Slot.unset).toArray = ls at hl ⊢
  rw [args_cv] at hl
  exact key r σ' ho ad s.heap [] ls ⟨hP, hD.self, hwf, hiv, va_S.rf, fun _ _ => rfl, Nat.le_refl _⟩ ⟨fun q hq => hok _ (args_in _ _ q hq), fun v hv => by cases hv⟩ (by show lv_has ls c.maxLocals _; rw [hml]; exact hl)
theorem In_free {ad : Nat → Nat} {H : Heap} {locs : List Loc} (h : Ok K cc own nL rm ret) (hI : Inv K σ ad H locs) : ∀ q, va_A (wof (kcy K) ad σ) H.size q → kA K q := by
  intro q hq
  rcases hq with ⟨k, e, hq⟩ | hq
  · exact hI.2.1.2 k (q, e) hq
  · exact h.2.2.2.2.2.2.2.2.2.1 q (Nat.le_trans hI.2.2.2.2.1.1 hq)
theorem In_PU {ad : Nat → Nat} {H : Heap} {locs : List Loc} (h : Ok K cc own nL rm ret) (hI : Inv K σ ad H locs) {U : State} (hU : U.heap = H) (hW : (ks K).WarmedH U.vm) : PU (kD K) (kcy K) (kba K) ad (kiv K) σ H.size U := by
  obtain ⟨hP, hD, hwf, hiv, hS, hPP, hn⟩ := hI
  have hb := h.2.2.2.2.2.2.2.2.2.2
  refine ⟨by rw [hU], by rw [hU]; exact hP, hD.weaken (fun _ q _ z => hb.1 _ z), hwf, hiv, va_K.moved hW.alike h.2.2.2.2.2.2.2.2.1, ?_, Nat.le_trans hb.2.2 hS.1⟩
  exact SF_moved (kA K) hW.alike (XF.warm hW) hb.1 (fun q h1 h2 => by rw [hU]; exact hS.2.1 q h1 h2) (hPP _ (Or.inr (by unfold SP; omega))) (hPP _ (Or.inr (by unfold SP; omega))) hb.2.1
theorem In_back {ad ad' : Nat → Nat} {H H1 : Heap} {locs locs1 : List Loc} {σ2 : Sg} {t : State} (h : Ok K cc own nL rm ret) (hI : Inv K σ ad H locs) (ht : t.heap = H1) (hp : PP ad σ.1.length ad' ∧ σ.1.length ≤ σ2.1.length) (hB : Bd (kD K) (kcy K) (va_A (wof (kcy K) ad σ) H.size) (kiv K) σ2 ad' t) (hS : va_S (kA K) (ks K).heap H1 locs1) : Inv K σ2 ad' H1 locs1 := by
  obtain ⟨b1, b2, b3, b4⟩ := hB
  refine ⟨by rw [← ht]; exact b1, b2.weaken (fun _ q _ z => In_free h hI _ z), b3, b4, hS, fun i hi => ?_, Nat.le_trans hI.2.2.2.2.2.2 hp.2⟩
  rw [hp.1 i (hi.elim (fun z => Or.inl (Nat.lt_of_lt_of_le z hI.2.2.2.2.2.2)) Or.inr)]
  exact hI.2.2.2.2.2.1 i hi
theorem ok_back {σ2 : Sg} (hle : σ.1.length ≤ σ2.1.length) (q : oks σ lv st) : oks σ2 lv st := ⟨fun x hx => okv_le hle (q.1 x hx), fun x hx => okv_le hle (q.2 x hx)⟩
theorem lv_back {ad ad' : Nat → Nat} {ls : Array Slot} {n : Nat} (hp : PP ad σ.1.length ad') (q : oks σ lv st) (hl : lv_has ls n (lv.map (cvp ad))) : lv_has ls n (lv.map (cvp ad')) := by
  have e : lv.map (cvp ad') = lv.map (cvp ad) := List.map_congr_left (fun x hx => by unfold cvp; rw [cv_eq hp (q.1 x hx)])
  rw [e]
  exact hl
theorem st_back {ad ad' : Nat → Nat} (hp : PP ad σ.1.length ad') (q : oks σ lv st) : st.map (cv ad') = st.map (cv ad) := List.map_congr_left (fun x hx => cv_eq hp (q.2 x hx))
theorem bd_some {α β : Type} {o2 : Option (α × Sg)} {kf : α → Sg → Option β} {x : β} (h : bd o2 kf = some x) : ∃ r σ, o2 = some (r, σ) ∧ kf r σ = some x := by
  cases o2 with
  | none => cases h
  | some q => exact ⟨q.1, q.2, rfl, h⟩
def MV (y : MethodName) (c : Nat) (cc : ByteArray) (maxL : Nat) (ret : Option FieldType) (n : Nat) : Prop :=
  c < 10 ∧ (y.cls = (clT c).1 ∧ y.cls ≠ "java/lang/invoke/MethodHandle" ∧ y.cls ≠ "java/lang/invoke/VarHandle" ∧ (parseMethodDescriptor y.desc).map (fun d => d.parameters.length) = some n) ∧ Cond.instanceMethod y ∈ gw_tbl ∧ Cond.selects (clT c).1 y y ∈ gw_tbl ∧ Cond.initialized (clT c).1 ∈ gw_tbl ∧ Cond.code y cc maxL ret ∈ gw_tbl
def MS (y : MethodName) (cc : ByteArray) (maxL : Nat) (ret : Option FieldType) (n : Nat) : Prop :=
  (y.cls ≠ "java/lang/invoke/MethodHandle" ∧ y.cls ≠ "java/lang/invoke/VarHandle" ∧ (parseMethodDescriptor y.desc).map (fun d => d.parameters.length) = some n) ∧ Cond.static y ∈ gw_tbl ∧ Cond.initialized y.cls ∈ gw_tbl ∧ Cond.code y cc maxL ret ∈ gw_tbl
theorem gin4 {a b c d e : Cond} {l : List Cond} (ha : a ∈ gw_tbl) (hb : b ∈ gw_tbl) (hc : c ∈ gw_tbl) (hd : d ∈ gw_tbl) (he : e ∈ gw_tbl) (hl : ∀ w ∈ l, w ∈ gw_tbl) : ∀ w ∈ [a, b, c, d] ++ (e :: l), w ∈ gw_tbl := by
  intro w hw
  simp only [List.cons_append, List.nil_append, List.mem_cons] at hw
  rcases hw with rfl | rfl | rfl | rfl | rfl | hw
  · exact ha
  · exact hb
  · exact hc
  · exact hd
  · exact he
  · exact hl w hw
theorem gin3 {a b c e : Cond} {l : List Cond} (ha : a ∈ gw_tbl) (hb : b ∈ gw_tbl) (hc : c ∈ gw_tbl) (he : e ∈ gw_tbl) (hl : ∀ w ∈ l, w ∈ gw_tbl) : ∀ w ∈ [a, b, c] ++ (e :: l), w ∈ gw_tbl := by
  intro w hw
  simp only [List.cons_append, List.nil_append, List.mem_cons] at hw
  rcases hw with rfl | rfl | rfl | rfl | hw
  · exact ha
  · exact hb
  · exact hc
  · exact he
  · exact hl w hw
theorem st_room (ad : Nat → Nat) (hW : (st.map fun v => v.category).sum ≤ 8) : ((st.map (cv ad)).map fun v => v.category).sum ≤ 8 := by
  have e : ((st.map (cv ad)).map fun v => v.category) = st.map fun v => v.category := by
    rw [List.map_map]
    exact List.map_congr_left (fun v _ => cat_cv ad v)
  rw [e]
  exact hW
theorem T_callVi (h : Ok K cc own nL rm ret) {c p : Nat} {y : MethodName} {cc2 : ByteArray} {maxL2 n2 idx : Nat} {ret2 : Option FieldType} {rm2 : Room} {avs : List Value} {stk : List Value} {o2 : Option (Int32 × Sg)} {kf : Int32 → Sg → Option (ρ × Sg)} (hM : CTi (kl K) y cc2 maxL2 ret2 rm2 (kiv K) (.ref p :: avs) σ o2) (hm : MV y c cc2 maxL2 ret2 n2) (hs : kiv K = St) (hk : kd p c) (hlk : Cond.methodLink own idx y ∈ gw_tbl) (hn : avs.length = n2) (hR : rm2.frames + 1 ≤ rm.frames ∧ 8 + (maxL2 + 11) + rm2.locals ≤ rm.locals) (hf : c1 + rm2.cells ≤ rm.cells ∧ s1 + rm2.slots ≤ rm.slots) (hW : (st.map fun v => v.category).sum ≤ 8) (hd : decode cc pc = .ok (.invokevirtual idx, 3)) (hst : avs.reverse ++ .ref p :: st = stk) (kk : ∀ (r : Int32) (σ' : Sg), T K QQ (pc + 3) lv (.int r :: st) (c1 + rm2.cells) (s1 + rm2.slots) σ' (kf r σ')) : T K QQ pc lv stk c1 s1 σ (bd o2 kf) := by
  intro r σ' ho ad H locs ls hI hok hl
  obtain ⟨r2, σ2, ho2, ho⟩ := bd_some ho
  subst hst
  have hokA : ∀ v ∈ .ref p :: avs, okv σ v := fun v hv => hok.2 v (by
    simp only [List.mem_append, List.mem_reverse, List.mem_cons] at hv ⊢
    rcases hv with e | e; exact Or.inr (Or.inl e); exact Or.inl e)
  have hokS : oks σ lv st := ⟨hok.1, fun v hv => hok.2 v (by simp only [List.mem_append, List.mem_cons]; exact Or.inr (Or.inr hv))⟩
  have hMet := hM (kD K) (kcy K) (kba K) ad H.size r2 σ2 ho2 hokA
  have hFc := In_free h hI
  have hRR : kR K = rm := h.2.2.2.2.2.2.2.1
  obtain ⟨n, hkn⟩ := hk
  have hat : (wof (kcy K) ad σ)[p]? = some (ad p, .inr (c, (List.range (nfc c)).map (fv ad σ p c))) := by rw [wof_at (In_at hs hI hkn), cel_o hm.1]
  refine va_calli (va_runV (As := avs.map (cv ad)) (rest := st.map (cv ad)) (C := (clT c).1) (b := ad p) ⟨h.1, h.2.1, h.2.2.1, h.2.2.2.1, h.2.2.2.2.1⟩ hMet (cwV n2 h.2.2.2.2.1 (gw_gin (gin4 hlk hm.2.2.1 hm.2.2.2.1 hm.2.2.2.2.1 hm.2.2.2.2.2 (fun _ z => z))) rfl rfl rfl hm.2.1 (by rw [hRR]; exact hR)) ⟨PU_blind, va_recv h.2.2.2.2.2.2.2.2.1 hI.1 (cl_at c hm.1) hat, fun U hU hWu => ⟨rfl, In_PU h hI hU hWu⟩⟩ rfl (by rw [List.length_map]; exact hn) (by rw [← h.2.2.1]; exact hl.1) (by show (avs.reverse ++ .ref p :: st).map (cv ad) = _; rw [List.map_append, List.map_reverse]; rfl) (lv_room (st_room ad hW)) hd (by rw [hRR]; exact hf)) hI.2.2.2.2.1 (fun q _ z => hFc q z) hFc (fun x ad' t H1 locs1 ht hvm hp hB hz1 hk1 hS1 => ?_)
  obtain ⟨rfl, hp⟩ := hp
  have hw := kk x σ2 r σ' ho ad' H1 locs1 ls (In_back h hI ht hp hB hS1) (oks_i (ok_back hp.2 hokS)) (lv_back hp.1 hokS hl)
  rw [List.map_cons, st_back hp.1 hokS] at hw
  exact hw
theorem T_callSi (h : Ok K cc own nL rm ret) {y : MethodName} {cc2 : ByteArray} {maxL2 n2 idx : Nat} {ret2 : Option FieldType} {rm2 : Room} {avs : List Value} {stk : List Value} {o2 : Option (Int32 × Sg)} {kf : Int32 → Sg → Option (ρ × Sg)} (hM : CTi (kl K) y cc2 maxL2 ret2 rm2 (kiv K) (avs) σ o2) (hm : MS y cc2 maxL2 ret2 n2) (hlk : Cond.methodLink own idx y ∈ gw_tbl) (hn : avs.length = n2) (hR : rm2.frames + 1 ≤ rm.frames ∧ 8 + (maxL2 + 11) + rm2.locals ≤ rm.locals) (hf : c1 + rm2.cells ≤ rm.cells ∧ s1 + rm2.slots ≤ rm.slots) (hW : (st.map fun v => v.category).sum ≤ 8) (hd : decode cc pc = .ok (.invokestatic idx, 3)) (hst : avs.reverse ++ st = stk) (kk : ∀ (r : Int32) (σ' : Sg), T K QQ (pc + 3) lv (.int r :: st) (c1 + rm2.cells) (s1 + rm2.slots) σ' (kf r σ')) : T K QQ pc lv stk c1 s1 σ (bd o2 kf) := by
  intro r σ' ho ad H locs ls hI hok hl
  obtain ⟨r2, σ2, ho2, ho⟩ := bd_some ho
  subst hst
  have hokA : ∀ v ∈ avs, okv σ v := fun v hv => hok.2 v (by
    simp only [List.mem_append, List.mem_reverse, List.mem_cons] at hv ⊢
    exact Or.inl hv)
  have hokS : oks σ lv st := ⟨hok.1, fun v hv => hok.2 v (by simp only [List.mem_append, List.mem_cons]; exact Or.inr hv)⟩
  have hMet := hM (kD K) (kcy K) (kba K) ad H.size r2 σ2 ho2 hokA
  have hFc := In_free h hI
  have hRR : kR K = rm := h.2.2.2.2.2.2.2.1
  refine va_calli (va_runS (As := avs.map (cv ad)) (rest := st.map (cv ad)) ⟨h.1, h.2.1, h.2.2.1, h.2.2.2.1, h.2.2.2.2.1⟩ hMet (va_cwS n2 h.2.2.2.2.1 (gw_gin (gin3 hlk hm.2.1 hm.2.2.1 hm.2.2.2 (fun _ z => z))) rfl rfl rfl hm.1 (by rw [hRR]; exact hR)) ⟨PU_blind, fun U hU hWu => ⟨rfl, In_PU h hI hU hWu⟩⟩ rfl (by rw [List.length_map]; exact hn) (by rw [← h.2.2.1]; exact hl.1) (by show (avs.reverse ++ st).map (cv ad) = _; rw [List.map_append, List.map_reverse]) (lv_room (st_room ad hW)) hd (by rw [hRR]; exact hf)) hI.2.2.2.2.1 (fun q _ z => hFc q z) hFc (fun x ad' t H1 locs1 ht hvm hp hB hz1 hk1 hS1 => ?_)
  obtain ⟨rfl, hp⟩ := hp
  have hw := kk x σ2 r σ' ho ad' H1 locs1 ls (In_back h hI ht hp hB hS1) (oks_i (ok_back hp.2 hokS)) (lv_back hp.1 hokS hl)
  rw [List.map_cons, st_back hp.1 hokS] at hw
  exact hw
theorem T_callVl (h : Ok K cc own nL rm ret) {c p : Nat} {y : MethodName} {cc2 : ByteArray} {maxL2 n2 idx : Nat} {ret2 : Option FieldType} {rm2 : Room} {avs : List Value} {stk : List Value} {o2 : Option (Int64 × Sg)} {kf : Int64 → Sg → Option (ρ × Sg)} (hM : CTl (kl K) y cc2 maxL2 ret2 rm2 (kiv K) (.ref p :: avs) σ o2) (hm : MV y c cc2 maxL2 ret2 n2) (hs : kiv K = St) (hk : kd p c) (hlk : Cond.methodLink own idx y ∈ gw_tbl) (hn : avs.length = n2) (hR : rm2.frames + 1 ≤ rm.frames ∧ 8 + (maxL2 + 11) + rm2.locals ≤ rm.locals) (hf : c1 + rm2.cells ≤ rm.cells ∧ s1 + rm2.slots ≤ rm.slots) (hW : (st.map fun v => v.category).sum ≤ 8) (hd : decode cc pc = .ok (.invokevirtual idx, 3)) (hst : avs.reverse ++ .ref p :: st = stk) (kk : ∀ (r : Int64) (σ' : Sg), T K QQ (pc + 3) lv (.long r :: st) (c1 + rm2.cells) (s1 + rm2.slots) σ' (kf r σ')) : T K QQ pc lv stk c1 s1 σ (bd o2 kf) := by
  intro r σ' ho ad H locs ls hI hok hl
  obtain ⟨r2, σ2, ho2, ho⟩ := bd_some ho
  subst hst
  have hokA : ∀ v ∈ .ref p :: avs, okv σ v := fun v hv => hok.2 v (by
    simp only [List.mem_append, List.mem_reverse, List.mem_cons] at hv ⊢
    rcases hv with e | e; exact Or.inr (Or.inl e); exact Or.inl e)
  have hokS : oks σ lv st := ⟨hok.1, fun v hv => hok.2 v (by simp only [List.mem_append, List.mem_cons]; exact Or.inr (Or.inr hv))⟩
  have hMet := hM (kD K) (kcy K) (kba K) ad H.size r2 σ2 ho2 hokA
  have hFc := In_free h hI
  have hRR : kR K = rm := h.2.2.2.2.2.2.2.1
  obtain ⟨n, hkn⟩ := hk
  have hat : (wof (kcy K) ad σ)[p]? = some (ad p, .inr (c, (List.range (nfc c)).map (fv ad σ p c))) := by rw [wof_at (In_at hs hI hkn), cel_o hm.1]
  refine va_calll (va_runV (As := avs.map (cv ad)) (rest := st.map (cv ad)) (C := (clT c).1) (b := ad p) ⟨h.1, h.2.1, h.2.2.1, h.2.2.2.1, h.2.2.2.2.1⟩ hMet (cwV n2 h.2.2.2.2.1 (gw_gin (gin4 hlk hm.2.2.1 hm.2.2.2.1 hm.2.2.2.2.1 hm.2.2.2.2.2 (fun _ z => z))) rfl rfl rfl hm.2.1 (by rw [hRR]; exact hR)) ⟨PU_blind, va_recv h.2.2.2.2.2.2.2.2.1 hI.1 (cl_at c hm.1) hat, fun U hU hWu => ⟨rfl, In_PU h hI hU hWu⟩⟩ rfl (by rw [List.length_map]; exact hn) (by rw [← h.2.2.1]; exact hl.1) (by show (avs.reverse ++ .ref p :: st).map (cv ad) = _; rw [List.map_append, List.map_reverse]; rfl) (lv_room (st_room ad hW)) hd (by rw [hRR]; exact hf)) hI.2.2.2.2.1 (fun q _ z => hFc q z) hFc (fun x ad' t H1 locs1 ht hvm hp hB hz1 hk1 hS1 => ?_)
  obtain ⟨rfl, hp⟩ := hp
  have hw := kk x σ2 r σ' ho ad' H1 locs1 ls (In_back h hI ht hp hB hS1) (oks_l (ok_back hp.2 hokS)) (lv_back hp.1 hokS hl)
  rw [List.map_cons, st_back hp.1 hokS] at hw
  exact hw
theorem T_callSl (h : Ok K cc own nL rm ret) {y : MethodName} {cc2 : ByteArray} {maxL2 n2 idx : Nat} {ret2 : Option FieldType} {rm2 : Room} {avs : List Value} {stk : List Value} {o2 : Option (Int64 × Sg)} {kf : Int64 → Sg → Option (ρ × Sg)} (hM : CTl (kl K) y cc2 maxL2 ret2 rm2 (kiv K) (avs) σ o2) (hm : MS y cc2 maxL2 ret2 n2) (hlk : Cond.methodLink own idx y ∈ gw_tbl) (hn : avs.length = n2) (hR : rm2.frames + 1 ≤ rm.frames ∧ 8 + (maxL2 + 11) + rm2.locals ≤ rm.locals) (hf : c1 + rm2.cells ≤ rm.cells ∧ s1 + rm2.slots ≤ rm.slots) (hW : (st.map fun v => v.category).sum ≤ 8) (hd : decode cc pc = .ok (.invokestatic idx, 3)) (hst : avs.reverse ++ st = stk) (kk : ∀ (r : Int64) (σ' : Sg), T K QQ (pc + 3) lv (.long r :: st) (c1 + rm2.cells) (s1 + rm2.slots) σ' (kf r σ')) : T K QQ pc lv stk c1 s1 σ (bd o2 kf) := by
  intro r σ' ho ad H locs ls hI hok hl
  obtain ⟨r2, σ2, ho2, ho⟩ := bd_some ho
  subst hst
  have hokA : ∀ v ∈ avs, okv σ v := fun v hv => hok.2 v (by
    simp only [List.mem_append, List.mem_reverse, List.mem_cons] at hv ⊢
    exact Or.inl hv)
  have hokS : oks σ lv st := ⟨hok.1, fun v hv => hok.2 v (by simp only [List.mem_append, List.mem_cons]; exact Or.inr hv)⟩
  have hMet := hM (kD K) (kcy K) (kba K) ad H.size r2 σ2 ho2 hokA
  have hFc := In_free h hI
  have hRR : kR K = rm := h.2.2.2.2.2.2.2.1
  refine va_calll (va_runS (As := avs.map (cv ad)) (rest := st.map (cv ad)) ⟨h.1, h.2.1, h.2.2.1, h.2.2.2.1, h.2.2.2.2.1⟩ hMet (va_cwS n2 h.2.2.2.2.1 (gw_gin (gin3 hlk hm.2.1 hm.2.2.1 hm.2.2.2 (fun _ z => z))) rfl rfl rfl hm.1 (by rw [hRR]; exact hR)) ⟨PU_blind, fun U hU hWu => ⟨rfl, In_PU h hI hU hWu⟩⟩ rfl (by rw [List.length_map]; exact hn) (by rw [← h.2.2.1]; exact hl.1) (by show (avs.reverse ++ st).map (cv ad) = _; rw [List.map_append, List.map_reverse]) (lv_room (st_room ad hW)) hd (by rw [hRR]; exact hf)) hI.2.2.2.2.1 (fun q _ z => hFc q z) hFc (fun x ad' t H1 locs1 ht hvm hp hB hz1 hk1 hS1 => ?_)
  obtain ⟨rfl, hp⟩ := hp
  have hw := kk x σ2 r σ' ho ad' H1 locs1 ls (In_back h hI ht hp hB hS1) (oks_l (ok_back hp.2 hokS)) (lv_back hp.1 hokS hl)
  rw [List.map_cons, st_back hp.1 hokS] at hw
  exact hw
theorem T_callVv (h : Ok K cc own nL rm ret) {c p : Nat} {y : MethodName} {cc2 : ByteArray} {maxL2 n2 idx : Nat} {ret2 : Option FieldType} {rm2 : Room} {avs : List Value} {stk : List Value} {o2 : Option (Unit × Sg)} {kf : Unit → Sg → Option (ρ × Sg)} (hM : CTv (kl K) y cc2 maxL2 ret2 rm2 (kiv K) (.ref p :: avs) σ o2) (hm : MV y c cc2 maxL2 ret2 n2) (hs : kiv K = St) (hk : kd p c) (hlk : Cond.methodLink own idx y ∈ gw_tbl) (hn : avs.length = n2) (hR : rm2.frames + 1 ≤ rm.frames ∧ 8 + (maxL2 + 11) + rm2.locals ≤ rm.locals) (hf : c1 + rm2.cells ≤ rm.cells ∧ s1 + rm2.slots ≤ rm.slots) (hW : (st.map fun v => v.category).sum ≤ 8) (hd : decode cc pc = .ok (.invokevirtual idx, 3)) (hst : avs.reverse ++ .ref p :: st = stk) (kk : ∀ (r : Unit) (σ' : Sg), T K QQ (pc + 3) lv (st) (c1 + rm2.cells) (s1 + rm2.slots) σ' (kf r σ')) : T K QQ pc lv stk c1 s1 σ (bd o2 kf) := by
  intro r σ' ho ad H locs ls hI hok hl
  obtain ⟨r2, σ2, ho2, ho⟩ := bd_some ho
  subst hst
  have hokA : ∀ v ∈ .ref p :: avs, okv σ v := fun v hv => hok.2 v (by
    simp only [List.mem_append, List.mem_reverse, List.mem_cons] at hv ⊢
    rcases hv with e | e; exact Or.inr (Or.inl e); exact Or.inl e)
  have hokS : oks σ lv st := ⟨hok.1, fun v hv => hok.2 v (by simp only [List.mem_append, List.mem_cons]; exact Or.inr (Or.inr hv))⟩
  have hMet := hM (kD K) (kcy K) (kba K) ad H.size r2 σ2 ho2 hokA
  have hFc := In_free h hI
  have hRR : kR K = rm := h.2.2.2.2.2.2.2.1
  obtain ⟨n, hkn⟩ := hk
  have hat : (wof (kcy K) ad σ)[p]? = some (ad p, .inr (c, (List.range (nfc c)).map (fv ad σ p c))) := by rw [wof_at (In_at hs hI hkn), cel_o hm.1]
  refine va_callv (va_runV (As := avs.map (cv ad)) (rest := st.map (cv ad)) (C := (clT c).1) (b := ad p) ⟨h.1, h.2.1, h.2.2.1, h.2.2.2.1, h.2.2.2.2.1⟩ hMet (cwV n2 h.2.2.2.2.1 (gw_gin (gin4 hlk hm.2.2.1 hm.2.2.2.1 hm.2.2.2.2.1 hm.2.2.2.2.2 (fun _ z => z))) rfl rfl rfl hm.2.1 (by rw [hRR]; exact hR)) ⟨PU_blind, va_recv h.2.2.2.2.2.2.2.2.1 hI.1 (cl_at c hm.1) hat, fun U hU hWu => ⟨rfl, In_PU h hI hU hWu⟩⟩ rfl (by rw [List.length_map]; exact hn) (by rw [← h.2.2.1]; exact hl.1) (by show (avs.reverse ++ .ref p :: st).map (cv ad) = _; rw [List.map_append, List.map_reverse]; rfl) (lv_room (st_room ad hW)) hd (by rw [hRR]; exact hf)) hI.2.2.2.2.1 (fun q _ z => hFc q z) hFc (fun ad' t H1 locs1 ht hvm hp hB hz1 hk1 hS1 => ?_)
  skip
  have hw := kk r2 σ2 r σ' ho ad' H1 locs1 ls (In_back h hI ht hp hB hS1) ((ok_back hp.2 hokS)) (lv_back hp.1 hokS hl)
  rw [st_back hp.1 hokS] at hw
  exact hw
theorem T_callSv (h : Ok K cc own nL rm ret) {y : MethodName} {cc2 : ByteArray} {maxL2 n2 idx : Nat} {ret2 : Option FieldType} {rm2 : Room} {avs : List Value} {stk : List Value} {o2 : Option (Unit × Sg)} {kf : Unit → Sg → Option (ρ × Sg)} (hM : CTv (kl K) y cc2 maxL2 ret2 rm2 (kiv K) (avs) σ o2) (hm : MS y cc2 maxL2 ret2 n2) (hlk : Cond.methodLink own idx y ∈ gw_tbl) (hn : avs.length = n2) (hR : rm2.frames + 1 ≤ rm.frames ∧ 8 + (maxL2 + 11) + rm2.locals ≤ rm.locals) (hf : c1 + rm2.cells ≤ rm.cells ∧ s1 + rm2.slots ≤ rm.slots) (hW : (st.map fun v => v.category).sum ≤ 8) (hd : decode cc pc = .ok (.invokestatic idx, 3)) (hst : avs.reverse ++ st = stk) (kk : ∀ (r : Unit) (σ' : Sg), T K QQ (pc + 3) lv (st) (c1 + rm2.cells) (s1 + rm2.slots) σ' (kf r σ')) : T K QQ pc lv stk c1 s1 σ (bd o2 kf) := by
  intro r σ' ho ad H locs ls hI hok hl
  obtain ⟨r2, σ2, ho2, ho⟩ := bd_some ho
  subst hst
  have hokA : ∀ v ∈ avs, okv σ v := fun v hv => hok.2 v (by
    simp only [List.mem_append, List.mem_reverse, List.mem_cons] at hv ⊢
    exact Or.inl hv)
  have hokS : oks σ lv st := ⟨hok.1, fun v hv => hok.2 v (by simp only [List.mem_append, List.mem_cons]; exact Or.inr hv)⟩
  have hMet := hM (kD K) (kcy K) (kba K) ad H.size r2 σ2 ho2 hokA
  have hFc := In_free h hI
  have hRR : kR K = rm := h.2.2.2.2.2.2.2.1
  refine va_callv (va_runS (As := avs.map (cv ad)) (rest := st.map (cv ad)) ⟨h.1, h.2.1, h.2.2.1, h.2.2.2.1, h.2.2.2.2.1⟩ hMet (va_cwS n2 h.2.2.2.2.1 (gw_gin (gin3 hlk hm.2.1 hm.2.2.1 hm.2.2.2 (fun _ z => z))) rfl rfl rfl hm.1 (by rw [hRR]; exact hR)) ⟨PU_blind, fun U hU hWu => ⟨rfl, In_PU h hI hU hWu⟩⟩ rfl (by rw [List.length_map]; exact hn) (by rw [← h.2.2.1]; exact hl.1) (by show (avs.reverse ++ st).map (cv ad) = _; rw [List.map_append, List.map_reverse]) (lv_room (st_room ad hW)) hd (by rw [hRR]; exact hf)) hI.2.2.2.2.1 (fun q _ z => hFc q z) hFc (fun ad' t H1 locs1 ht hvm hp hB hz1 hk1 hS1 => ?_)
  skip
  have hw := kk r2 σ2 r σ' ho ad' H1 locs1 ls (In_back h hI ht hp hB hS1) ((ok_back hp.2 hokS)) (lv_back hp.1 hokS hl)
  rw [st_back hp.1 hokS] at hw
  exact hw
end TC
