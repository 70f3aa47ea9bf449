/-! THE CLAIM OUT OF ONE WALK OF THE LAW'S BODY. Your part is whole_start (and what it stands on); all else here is the same for every law, but numbers. -/
def R_law : String := "LuteTabsLaw"
def lw_P (b : Addr) (xs : List Int32) (args : Array Value) (s : State) : Prop := args = #[.ref b] ∧ s.IntsAt b xs ∧ xs.length ≤ 3072 ∧ (Jvm.Cond.and given_1 narrow_1).before args s = true
def lw_Q (_ : Array Value) (s : State) (o : Outcome) (t : State) : Prop := o = .returned (some (.int 1)) ∧ Framed s o t [] 600000 7302250
def lw_Z (below : List Frame) (a : Array Value) (s : State) : State → Prop := fun t => ∃ o, t.status = .running ∧ Ended t below o ∧ lw_Q a s o t
/-- the law's own end, with 1 on the stack, nothing written that was there before, its room as the claim has it -/
theorem lw_ret {p : Program} {l : Launch} {e : Env} {s : State} {m : MethodId} {below : List Frame} {meth : Method} {c : Code} {b : Nat} (hx : p.tables.exec = Jvm.exec) (hb : c.code = code) (hr : meth.sig.returnType = ret) (hlocks : meth.locks = false) {pc : Nat} {H : Heap} {ls : Array Slot} (hdg : decode code pc = .ok (.ireturn, 1)) : W p l e room_1 s m #[Value.ref b] below meth c H [] 600000 7302250 (lw_Z below #[Value.ref b] s) (F0 m pc ls [.int 1]) := by
  intro T hT X
  obtain ⟨fs, hret, hrun, hended, hW, hframe⟩ := X.leave (v := some (.int 1)) (hlocks := hlocks) (fun h => by rw [hr] at h; cases h)
  have hmeth' : T.vm.method? m = some meth := X.method'
  refine ⟨T.setFrames fs, ?_, .returned (some (.int 1)), hrun, hended, rfl, ⟨_, rfl⟩, hW, hframe⟩
  jvm_step X.here [X.here.top, hx, hb, hdg, hmeth', hr, ret, narrow_b1]
  (try refine ⟨rfl, ?_⟩); (try refine ⟨rfl, ?_⟩)
  first | (intro acts; rw [hret _ acts rfl rfl rfl]) | rw [hret _ _ rfl rfl rfl]
  exact Steps.refl _
/-- what holds at the law's entry: the machine, the code, the tables' words (any of lw_tbl by 'hts w (by decide +kernel)'), the script of L ints xs at the cell b, what the Statement gives of the start (any of its parts by flat_of_before) -/
def lw_At (p : Program) (s : State) (m : MethodId) (meth : Method) (c : Code) (b L : Nat) (xs : Nat → Int32) : Prop :=
  p.tables.exec = Jvm.exec ∧ c.code = code ∧ meth.sig.returnType = ret ∧ c.maxLocals = 4 ∧ s.vm.findClass R_law = some m.cls ∧ (∀ w ∈ lw_tbl, w.before #[Value.ref b] s = true) ∧ va_X b L xs s s.heap ∧ b < s.heap.size ∧ meth.locks = false ∧ (Jvm.Cond.and given_1 narrow_1).before #[Value.ref b] s = true
theorem dL_law_0 : decode cL_law 0 = .ok (.new 7, 3) := by decide +kernel
theorem dL_law_3 : decode cL_law 3 = .ok (.dup, 1) := by decide +kernel
theorem dL_law_4 : decode cL_law 4 = .ok (.invokespecial 9, 3) := by decide +kernel
theorem dL_law_7 : decode cL_law 7 = .ok (.astore_n 1, 1) := by decide +kernel
theorem dL_law_8 : decode cL_law 8 = .ok (.new 10, 3) := by decide +kernel
theorem dL_law_11 : decode cL_law 11 = .ok (.dup, 1) := by decide +kernel
theorem dL_law_12 : decode cL_law 12 = .ok (.invokespecial 12, 3) := by decide +kernel
theorem dL_law_15 : decode cL_law 15 = .ok (.astore_n 2, 1) := by decide +kernel
theorem dL_law_16 : decode cL_law 16 = .ok (.iconst 0, 1) := by decide +kernel
theorem dL_law_17 : decode cL_law 17 = .ok (.istore_n 3, 1) := by decide +kernel
theorem mlL_9 : Cond.methodLink RL 9 yX8_init ∈ gw_tbl := mw (i := 17) (by decide +kernel) (by decide +kernel)
theorem mlL_12 : Cond.methodLink RL 12 yX9_init ∈ gw_tbl := mw (i := 820) (by decide +kernel) (by decide +kernel)
theorem clL_7 : Cond.classLink RL 7 (clT 8).1 ∈ gw_tbl := mw (i := 15) (by decide +kernel) (by decide +kernel)
theorem clL_10 : Cond.classLink RL 10 (clT 9).1 ∈ gw_tbl := mw (i := 818) (by decide +kernel) (by decide +kernel)
theorem ins_9 : Cond.instantiable (clT 9).1 (clT 9).2.2 ∈ gw_tbl := mw (i := 819) (by decide +kernel) (by decide +kernel)
theorem ini_9 : Cond.initialized (clT 9).1 ∈ gw_tbl := mw (i := 10) (by decide +kernel) (by decide +kernel)
theorem ins_8 : Cond.instantiable (clT 8).1 (clT 8).2.2 ∈ gw_tbl := mw (i := 16) (by decide +kernel) (by decide +kernel)
theorem ini_8 : Cond.initialized (clT 8).1 ∈ gw_tbl := mw (i := 1) (by decide +kernel) (by decide +kernel)
theorem mi_X8_init : MI yX8_init cX8_init 2 0 := ⟨rfl, ⟨by decide, by decide, by decide +kernel⟩, mw (i := 18) (by decide +kernel) (by decide +kernel), mw (i := 1) (by decide +kernel) (by decide +kernel), mw (i := 19) (by decide +kernel) (by decide +kernel)⟩
theorem mi_X9_init : MI yX9_init cX9_init 2 0 := ⟨rfl, ⟨by decide, by decide, by decide +kernel⟩, mw (i := 821) (by decide +kernel) (by decide +kernel), mw (i := 10) (by decide +kernel) (by decide +kernel), mw (i := 822) (by decide +kernel) (by decide +kernel)⟩

/-! the picture at the law's start, and behind the two constructors -/
def σ0 : Sg := ([], fun _ _ => 0, fun _ _ => 0, fun _ _ => NUL)
def ini1 : Option (Unit × Sg) := f_X8_init 0 (newS σ0 (8, nfc 8))
theorem ini1_ok : ini1.isSome = true := by decide +kernel
def σb : Sg := (ini1.get ini1_ok).2
theorem opt_get {o : Option (Unit × Sg)} (h : o.isSome = true) : o = some ((), (o.get h).2) := by
  cases o with
  | none => cases h
  | some q => rfl
theorem ini1_eq : f_X8_init 0 (newS σ0 (8, nfc 8)) = some ((), σb) := by
  have h := opt_get ini1_ok
  unfold ini1 at h
  exact h
def ini2 : Option (Unit × Sg) := f_X9_init 55 (newS σb (9, nfc 9))
theorem ini2_ok : ini2.isSome = true := by decide +kernel
def σd : Sg := (ini2.get ini2_ok).2
theorem ini2_q : ini2 = some ((), σd) := opt_get ini2_ok
theorem ini2_eq : f_X9_init 55 (newS σb (9, nfc 9)) = some ((), σd) := by
  have h := ini2_q
  unfold ini2 at h
  exact h
theorem σb_len : σb.1.length = 55 := by decide +kernel
theorem σd_sh : σd.1 = SH := by decide +kernel
def kdB (p c : Nat) : Bool := match SH[p]? with
  | some q => q.1 == c
  | none => false
theorem kdB_of {p c : Nat} (h : kdB p c = true) : kd p c := by
  unfold kdB at h
  cases h0 : SH[p]? with
  | none => rw [h0] at h; cases h
  | some q =>
    rw [h0] at h
    have e : q.1 = c := beq_iff_eq.mp h
    exact ⟨q.2, by rw [← e]; exact h0⟩
theorem σd_kd : ∀ p, p < 82 → ∀ k, k < (SH.getD p (0, 0)).2 → ((SH.getD p (0, 0)).1 = 13 ∨ (SH.getD p (0, 0)).1 = 14 ∨ ((SH.getD p (0, 0)).1 < 10 ∧ isR (SH.getD p (0, 0)).1 k = true)) → kdB (gR σd p k) (fk (SH.getD p (0, 0)).1 k) = true := by decide +kernel
theorem σd_St : St σd := by
  refine ⟨σd_sh, fun p c n k hp hk hc => ?_⟩
  have e : SH.getD p (0, 0) = (c, n) := by rw [List.getD_eq_getElem?_getD, hp]; rfl
  have := σd_kd p (kd_lt ⟨n, hp⟩) k (by rw [e]; exact hk) (by rw [e]; exact hc)
  rw [e] at this
  exact kdB_of this
section TS
variable {ρ : Type} {K : Cx} {QQ : ρ → Sg → Array Value → State → Outcome → State → Prop} {cc : ByteArray} {own : String} {nL : Nat} {rm : Room} {ret : Option FieldType} {pc : Nat} {lv lv' : List (Nat × Value)} {st : List Value} {c1 s1 : Nat} {σ : Sg} {o : Option (ρ × Sg)}
theorem T_callI1 (h : Ok K cc own nL rm ret) {p : Nat} {y : MethodName} {cc2 : ByteArray} {maxL2 n2 idx : Nat} {rm2 : Room} {avs : List Value} {stk : List Value} {o2 : Option (Unit × Sg)} {σ2 : Sg} (hM : CTv (kl K) y cc2 maxL2 none rm2 (kiv K) (.ref p :: avs) σ o2) (hm : MI y cc2 maxL2 n2) (hlk : Cond.methodLink own idx y ∈ gw_tbl) (hn : avs.length = n2) (hR : rm2.frames + 1 ≤ rm.frames ∧ 8 + (maxL2 + 11) + rm2.locals ≤ rm.locals) (hf : c1 + rm2.cells ≤ rm.cells ∧ s1 + rm2.slots ≤ rm.slots) (hW : (st.map fun v => v.category).sum ≤ 8) (hd : decode cc pc = .ok (.invokespecial idx, 3)) (hst : avs.reverse ++ .ref p :: st = stk) (ho2 : o2 = some ((), σ2)) (kk : T K QQ (pc + 3) lv st (c1 + rm2.cells) (s1 + rm2.slots) σ2 o) : T K QQ pc lv stk c1 s1 σ o := by
  classical
  have key := T_callI (kf := fun _ s => if s = σ2 then o else none) h hM hm hlk hn hR hf hW hd hst (fun r s => by
    by_cases e : s = σ2
    · rw [if_pos e, e]; exact kk
    · rw [if_neg e]; exact T_none)
  rw [ho2] at key
  have e : bd (some ((), σ2)) (fun _ s => if s = σ2 then o else none) = o := if_pos rfl
  rw [e] at key
  exact key
theorem T_new1 {c idx : Nat} (h : Ok K cc own nL rm ret) (hg : kiv K = Gr) (hc : c < 10) (hcl : Cond.classLink own idx (clT c).1 ∈ gw_tbl) (hin : Cond.instantiable (clT c).1 (clT c).2.2 ∈ gw_tbl) (hini : Cond.initialized (clT c).1 ∈ gw_tbl) (hf : c1 + 1 ≤ rm.cells ∧ s1 + (clT c).2.2 ≤ rm.slots) (hd : decode cc pc = .ok (.new idx, 3)) (hb : gnew σ = true) (kk : T K QQ (pc + 3) lv (.ref σ.1.length :: st) (c1 + 1) (s1 + (clT c).2.2) (newS σ (c, nfc c)) o) : T K QQ pc lv st c1 s1 σ o := by
  have key := T_new h hg hc hcl hin hini hf hd kk
  rw [hb] at key
  exact key
/-- the world stands: from here on it is steady -/
def setIv (K : Cx) (iv : Sg → Prop) : Cx := (kp K, kl K, ke K, kR K, ks K, km K, ka K, kb K, kme K, kc K, kD K, kcy K, kA K, kmc K, kms K, kad K, kn K, kba K, iv)
theorem setIv_W {iv : Sg → Prop} {H : Heap} {locs : List Loc} {a b : Nat} {Q : State → Prop} {g : JFrame} : WK (setIv K iv) H locs a b Q g = WK K H locs a b Q g := rfl
theorem setIv_I {iv : Sg → Prop} {ad : Nat → Nat} {H : Heap} {locs : List Loc} (hI : Inv K σ ad H locs) (hσ : iv σ) : Inv (setIv K iv) σ ad H locs := ⟨hI.1, hI.2.1, hI.2.2.1, hσ, hI.2.2.2.2⟩
theorem setIv_Q {iv : Sg → Prop} (h12 : ∀ σ, iv σ → kiv K σ) {r : Int32} {σ' : Sg} {a : Array Value} {s : State} {oc : Outcome} {t : State} (h : QI (setIv K iv) r σ' a s oc t) : QI K r σ' a s oc t := by
  obtain ⟨⟨x, ad', e1, e2, e3⟩, hF⟩ := h
  exact ⟨⟨x, ad', e1, e2, ⟨e3.1, e3.2.1, e3.2.2.1, h12 _ e3.2.2.2⟩⟩, hF⟩
theorem setIv_M {iv : Sg → Prop} (h12 : ∀ σ, iv σ → kiv K σ) {r : Int32} {σ' : Sg} {t : State} (h : MQ (kb (setIv K iv)) (QI (setIv K iv) r σ') (ka (setIv K iv)) (ks (setIv K iv)) (kmc (setIv K iv)) (kms (setIv K iv)) (kA (setIv K iv)) t) : MQ (kb K) (QI K r σ') (ka K) (ks K) (kmc K) (kms K) (kA K) t := by
  obtain ⟨ot, b1, b2, b3, b4⟩ := h
  exact ⟨ot, b1, b2, setIv_Q h12 b3, b4⟩
theorem W_mono {p : Program} {l : Launch} {e : Env} {R : Room} {s : State} {m : MethodId} {args : Array Value} {below : List Frame} {meth : Method} {c : Code} {H : Heap} {locs : List Loc} {cells slots : Nat} {Q Q' : State → Prop} {g : JFrame} (hq : ∀ t, Q t → Q' t) (h : W p l e R s m args below meth c H locs cells slots Q g) : W p l e R s m args below meth c H locs cells slots Q' g := by
  intro T0 hT X
  obtain ⟨t, a1, b1⟩ := h T0 hT X
  exact ⟨t, a1, hq t b1⟩
theorem T_cells {c2 s2 : Nat} (h1 : c1 ≤ c2) (h2 : s1 ≤ s2) (k : T K QQ pc lv st c2 s2 σ o) : T K QQ pc lv st c1 s1 σ o := fun r σ' ho ad H locs ls hI hok hl => W.widen h1 h2 (k r σ' ho ad H locs ls hI hok hl)
theorem T_steady {iv : Sg → Prop} {oi : Option (Int32 × Sg)} (h12 : ∀ σ, iv σ → kiv K σ) (hσ : iv σ) (k : T (setIv K iv) (QI (setIv K iv)) pc lv st c1 s1 σ oi) : T K (QI K) pc lv st c1 s1 σ oi := by
  intro r σ' ho ad H locs ls hI hok hl
  have hw := k r σ' ho ad H locs ls (setIv_I hI hσ) hok hl
  rw [setIv_W] at hw
  exact W_mono (fun t ht => setIv_M h12 ht) hw
end TS
/-- the law ends with 1 for this script, by the functions alone -/
def Pure (L : Nat) (xs : Nat → Int32) : Prop := ∃ σ', fx (f_L_law_L18 L xs) FU ((0 : Int32), σd) = some (1, σ')
theorem lw_in {w : Cond} (h : w ∈ gw_tbl) : w ∈ lw_tbl := (List.mem_filter.mp h).1
theorem lw_at {i : Nat} {w : Cond} (h : tables_1[i]? = some w) : w ∈ lw_tbl := List.mem_append_right _ (List.mem_of_getElem? h)
theorem law_L {K : Cx} {L : Nat} {xs : Nat → Int32} (h : Ok K cL_law RL 4 room_1 (some .boolean)) (hs : kiv K = St) (hm1 : kmc K = 600000) (hm2 : kms K = 7302250) (hX : SX K L xs) (σ : Sg) (i : Int32) : T K (QI K) 18 [(0, .ref SP), (1, .ref 0), (2, .ref 55), (3, .int i)] [] 82 12355 σ (fx (f_L_law_L18 L xs) FU (i, σ)) :=
  T_fx (B := f_L_law_L18 L xs) (fl := fun u => [(0, .ref SP), (1, .ref 0), (2, .ref 55), (3, .int u.1)]) (f := fun u => u.2) (fun rec18 hr18 u => t_L_law_L18 h hs hm1 hm2 hX rec18 hr18 u) FU (i, σ)
set_option maxRecDepth 100000 in
/-- the walk up to the loop, and the loop -/
theorem law_T {K : Cx} {L : Nat} {xs : Nat → Int32} {σ' : Sg} (h : Ok K cL_law RL 4 room_1 (some .boolean)) (hg : kiv K = Gr) (hm1 : kmc K = 600000) (hm2 : kms K = 7302250) (hX : SX K L xs) (hpure : fx (f_L_law_L18 L xs) FU ((0 : Int32), σd) = some (1, σ')) : T K (QI K) 0 [(0, .ref SP)] [] 0 0 σ0 (some (1, σ')) := by
  refine T_new1 (c := 8) (pc := 0) h hg (by decide) clL_7 ins_8 ini_8 ⟨Nat.le_of_ble_eq_true rfl, Nat.le_of_ble_eq_true rfl⟩ dL_law_0 (by decide +kernel) ?_
  refine T_dup (pc := 3) h dL_law_3 rfl ?_
  refine T_callI1 (pc := 4) (p := 0) h (M_X8_init (kl K) hg 0 (newS σ0 (8, nfc 8))) mi_X8_init mlL_9 rfl ⟨Nat.le_of_ble_eq_true rfl, Nat.le_of_ble_eq_true rfl⟩ ⟨Nat.le_of_ble_eq_true rfl, Nat.le_of_ble_eq_true rfl⟩ (Nat.le_of_ble_eq_true rfl) dL_law_4 rfl ini1_eq ?_
  refine T_astore_n (lv' := [(1, .ref 0), (0, .ref SP)]) (pc := 7) h dL_law_7 rfl (by decide) rfl ?_
  refine T_new1 (c := 9) (pc := 8) h hg (by decide) clL_10 ins_9 ini_9 ⟨Nat.le_of_ble_eq_true rfl, Nat.le_of_ble_eq_true rfl⟩ dL_law_8 (by decide +kernel) ?_
  rw [σb_len]
  refine T_dup (pc := 11) h dL_law_11 rfl ?_
  refine T_callI1 (pc := 12) (p := 55) h (M_X9_init (kl K) hg 55 (newS σb (9, nfc 9))) mi_X9_init mlL_12 rfl ⟨Nat.le_of_ble_eq_true rfl, Nat.le_of_ble_eq_true rfl⟩ ⟨Nat.le_of_ble_eq_true rfl, Nat.le_of_ble_eq_true rfl⟩ (Nat.le_of_ble_eq_true rfl) dL_law_12 rfl ini2_eq ?_
  refine T_astore_n (lv' := [(2, .ref 55), (1, .ref 0), (0, .ref SP)]) (pc := 15) h dL_law_15 rfl (by decide) rfl ?_
  refine T_iconst (v := 0) (pc := 16) h dL_law_16 (by decide) ?_
  refine T_istore_n (lv' := [(3, .int 0), (2, .ref 55), (1, .ref 0), (0, .ref SP)]) (pc := 17) h dL_law_17 rfl (by decide) rfl ?_
  refine T_sub [3, 2, 1, 0] rfl ?_
  refine T_cells (c2 := 82) (s2 := 12355) (by decide +kernel) (by decide +kernel) ?_
  have h2 : Ok (setIv K St) cL_law RL 4 room_1 (some .boolean) := h
  have hX3 : SX (setIv K St) L xs := hX
  refine T_steady (iv := St) (fun _ _ => by rw [hg]; trivial) σd_St ?_
  rw [← hpure]
  exact law_L h2 rfl hm1 hm2 hX3 σd 0
theorem start_K {K : Cx} {b L : Nat} {xs : Nat → Int32} {σ' : Sg} (h : Ok K cL_law RL 4 room_1 (some .boolean)) (hg : kiv K = Gr) (hA : ∀ q, kA K q → (ks K).heap.size ≤ q) (hn : kn K = 0) (hm1 : kmc K = 600000) (hm2 : kms K = 7302250) (ha : kad K SP = b) (hX : SX K L xs) (hpure : fx (f_L_law_L18 L xs) FU ((0 : Int32), σd) = some (1, σ')) : WK K (ks K).heap [] 0 0 (lw_Z (kb K) (ka K) (ks K)) (entryFrame (km K) ([Value.ref b] : List Value).toArray 4) := by
  have hT := law_T h hg hm1 hm2 hX hpure
  have hl := lv_entry ([.ref b]) (n := 4) (Nat.le_of_ble_eq_true rfl)
  rw [lg_entry_eq]
  generalize (lg_sl ([.ref b]) ++ List.replicate (4 - (lg_sl ([.ref b])).length) Slot.unset).toArray = ls at hl ⊢
  have hl : lv_has ls 4 [(0, .ref b)] := hl
  have hI0 : Inv K σ0 (kad K) (ks K).heap [] := by
    refine ⟨?_, ?_, ?_, ?_, ?_, ?_, ?_⟩
    · intro k q h
      exact absurd h (by simp [wof, σ0])
    · refine ⟨fun i j x y h => ?_, fun k q h => ?_⟩
      · exact absurd h (by simp [wof, σ0])
      · exact absurd h (by simp [wof, σ0])
    · exact ⟨Nat.zero_le _, fun p k => Or.inr rfl⟩
    · rw [hg]; exact trivial
    · exact va_S.rf
    · exact fun _ _ => rfl
    · rw [hn]; exact Nat.zero_le _
  have hok0 : oks σ0 [(0, .ref SP)] [] := by
    refine ⟨fun q hq => ?_, fun v hv => by cases hv⟩
    rw [List.mem_singleton.mp hq]
    exact Or.inr (Nat.le_refl _)
  have hw := hT 1 σ' rfl (kad K) (ks K).heap [] ls hI0 hok0 (by show lv_has ls (kc K).maxLocals [(0, .ref (kad K SP))]; rw [h.2.2.1, ha]; exact hl)
  refine W_mono (fun t ht => ?_) hw
  obtain ⟨ot, b1, b2, ⟨⟨x, ad', e1, ⟨e2, -⟩, -⟩, hF⟩, L', b4, b5⟩ := ht
  subst e2
  rw [hm1, hm2] at b4
  refine ⟨ot, b1, b2, e1, b4.1, b4.2.1, ?_⟩
  exact b4.2.2.weaken (fun y hy hlt => absurd hlt (Nat.not_lt.mpr (hA _ (b5 y hy)))) (Nat.le_refl _) (Nat.le_refl _)
theorem start_facts {p : Program} {s : State} {m : MethodId} {meth : Method} {c : Code} {b L : Nat} {xs : Nat → Int32} (C0 : lw_At p s m meth c b L xs) : ∃ (D : va_G) (cy : Nat → ClassId) (ad0 : Nat → Nat), va_K D vwCl (tysC cy) s ∧ SF s.heap.size ad0 s ∧ ad0 SP = b := by
  obtain ⟨hx, hb, hr, hml, hown, hts, hX, hbl, hlocks, hgv⟩ := id C0
  have hgw : ∀ w ∈ gw_tbl, w.before #[Value.ref b] s = true := fun w hw => hts w (lw_in hw)
  have hfl := flat_of_before _ hgv
  have hnew : ∀ a : Nat, a < s.heap.size → ¬ s.heap.size ≤ a := fun a h => Nat.not_le.mpr h
  obtain ⟨c0, iS0, hKn0⟩ := u_known (C := RX0) (T := TX0) (N := 13) (n := 13) hgw inX0 (hgw _ ins_0)
  obtain ⟨c1, iS1, hKn1⟩ := u_known (C := RX1) (T := TX1) (N := 3) (n := 3) hgw inX1 (hgw _ ins_1)
  obtain ⟨c2, iS2, hKn2⟩ := u_known (C := RX2) (T := TX2) (N := 8) (n := 8) hgw inX2 (hgw _ ins_2)
  obtain ⟨c3, iS3, hKn3⟩ := u_known (C := RX3) (T := TX3) (N := 9) (n := 9) hgw inX3 (hgw _ ins_3)
  obtain ⟨c4, iS4, hKn4⟩ := u_known (C := RX4) (T := TX4) (N := 2) (n := 2) hgw inX4 (hgw _ ins_4)
  obtain ⟨c5, iS5, hKn5⟩ := u_known (C := RX5) (T := TX5) (N := 9) (n := 9) hgw inX5 (hgw _ ins_5)
  obtain ⟨c6, iS6, hKn6⟩ := u_known (C := RX6) (T := TX6) (N := 4) (n := 4) hgw inX6 (hgw _ ins_6)
  obtain ⟨c7, iS7, hKn7⟩ := u_known (C := RX7) (T := TX7) (N := 5) (n := 5) hgw inX7 (hgw _ ins_7)
  obtain ⟨c8, iS8, hKn8⟩ := u_known (C := RX8) (T := TX8) (N := 13) (n := 13) hgw inX8 (hgw _ ins_8)
  obtain ⟨c9, iS9, hKn9⟩ := u_known (C := RX9) (T := TX9) (N := 49) (n := 49) hgw inX9 (hgw _ ins_9)
  obtain ⟨dC, dI, hKc⟩ : ∃ (dC : Nat → ClassId) (dI : Nat → Nat → Nat), ∀ (k : Nat) (q : vw_C), vwCl[k]? = some q → u_Kn s q.1 q.2.1 q.2.2 (dC k) (dI k) := by
    refine ⟨fun k => match k with | 0 => c0 | 1 => c1 | 2 => c2 | 3 => c3 | 4 => c4 | 5 => c5 | 6 => c6 | 7 => c7 | 8 => c8 | _ => c9, fun k => match k with | 0 => iS0 | 1 => iS1 | 2 => iS2 | 3 => iS3 | 4 => iS4 | 5 => iS5 | 6 => iS6 | 7 => iS7 | 8 => iS8 | _ => iS9, ?_⟩
    intro k q hq
    match k, hq with
    | 0, hq => cases hq; exact hKn0
    | 1, hq => cases hq; exact hKn1
    | 2, hq => cases hq; exact hKn2
    | 3, hq => cases hq; exact hKn3
    | 4, hq => cases hq; exact hKn4
    | 5, hq => cases hq; exact hKn5
    | 6, hq => cases hq; exact hKn6
    | 7, hq => cases hq; exact hKn7
    | 8, hq => cases hq; exact hKn8
    | 9, hq => cases hq; exact hKn9
    | k + 10, hq => exact absurd hq (by simp [vwCl])
  obtain ⟨y10, ky10, cm10, i1, i2, i3⟩ := Cond.arrayClass_spec (hgw (.arrayClass .int) arc_int)
  obtain ⟨y11, ky11, cm11, j1, j2, j3⟩ := Cond.arrayClass_spec (hgw (.arrayClass .long) arc_long)
  obtain ⟨y12, ky12, cm12, z1, z2, z3⟩ := Cond.arrayClass_spec (hgw (.arrayClass .boolean) arc_boolean)
  have hAO : va_AO RX6 s := va_AO.of (hts (.arrayOver (.object RX6)) (lw_at (i := 263) (by decide +kernel)))
  have hAA : AOA s := hts (.arrayOver (.array .int)) (lw_at (i := 265) (by decide +kernel))
  obtain ⟨cm13, y13, ky13, q1, -, q3, q4, q5⟩ := Cond.arrayOver_spec hAO
  obtain ⟨cm14, y14, ky14, r1, -, r3, r4, r5⟩ := hAA.spec
  have hK : va_K (dC, dI) vwCl (tysC (fun k => if k = 10 then y10 else if k = 11 then y11 else if k = 12 then y12 else if k = 13 then y13 else y14)) s := by
    refine ⟨hKc, fun k q hk => ?_⟩
    match k, hk with
    | 0, hk => cases hk; exact ⟨fun N z => ⟨(fun q hq => by cases hq), ky10, i2, cm10, i3⟩, i1⟩
    | 1, hk => cases hk; exact ⟨fun N z => ⟨(fun q hq => by cases hq), ky11, j2, cm11, j3⟩, j1⟩
    | 2, hk => cases hk; exact ⟨fun N z => ⟨(fun q hq => by cases hq), ky12, z2, cm12, z3⟩, z1⟩
    | 3, hk => cases hk; exact ⟨fun N z => ⟨(fun q hq => by cases hq), ky13, q3, cm13, q4⟩, ky13, cm13, q3, q4, q1, q5⟩
    | 4, hk => cases hk; exact ⟨fun N z => ⟨(fun q hq => by cases hq), ky14, r3, cm14, r4⟩, r5⟩
    | k + 5, hk => exact absurd hk (by simp [tysC])
  obtain ⟨t1, ht1, hT1⟩ := va_Tof (N := 5) (f := fun j => .int (if j = 0 then 1 else 0)) (A := fun q => s.heap.size ≤ q) (by decide) (hfl (.arrayOf (.static "LuteTabs$Lute" "LEAST_SETTING" "[I") .int) (by decide +kernel)) (va_eqt (hfl (.eq (.length (.static "LuteTabs$Lute" "LEAST_SETTING" "[I")) (.int 5)) (by decide +kernel))) (fun j hj => by
    match j, hj with
    | 0, _ => exact va_eqt (hfl (.eq (.elem (.static "LuteTabs$Lute" "LEAST_SETTING" "[I") (.int 0)) (.int 1)) (by decide +kernel))
    | 1, _ => exact va_eqt (hfl (.eq (.elem (.static "LuteTabs$Lute" "LEAST_SETTING" "[I") (.int 1)) (.int 0)) (by decide +kernel))
    | 2, _ => exact va_eqt (hfl (.eq (.elem (.static "LuteTabs$Lute" "LEAST_SETTING" "[I") (.int 2)) (.int 0)) (by decide +kernel))
    | 3, _ => exact va_eqt (hfl (.eq (.elem (.static "LuteTabs$Lute" "LEAST_SETTING" "[I") (.int 3)) (.int 0)) (by decide +kernel))
    | 4, _ => exact va_eqt (hfl (.eq (.elem (.static "LuteTabs$Lute" "LEAST_SETTING" "[I") (.int 4)) (.int 0)) (by decide +kernel))) hnew
  obtain ⟨t2, ht2, hT2⟩ := va_Tof (N := 5) (f := fun j => .int (if j = 1 then 6 else 9)) (A := fun q => s.heap.size ≤ q) (by decide) (hfl (.arrayOf (.static "LuteTabs$Lute" "GREATEST_SETTING" "[I") .int) (by decide +kernel)) (va_eqt (hfl (.eq (.length (.static "LuteTabs$Lute" "GREATEST_SETTING" "[I")) (.int 5)) (by decide +kernel))) (fun j hj => by
    match j, hj with
    | 0, _ => exact va_eqt (hfl (.eq (.elem (.static "LuteTabs$Lute" "GREATEST_SETTING" "[I") (.int 0)) (.int 9)) (by decide +kernel))
    | 1, _ => exact va_eqt (hfl (.eq (.elem (.static "LuteTabs$Lute" "GREATEST_SETTING" "[I") (.int 1)) (.int 6)) (by decide +kernel))
    | 2, _ => exact va_eqt (hfl (.eq (.elem (.static "LuteTabs$Lute" "GREATEST_SETTING" "[I") (.int 2)) (.int 9)) (by decide +kernel))
    | 3, _ => exact va_eqt (hfl (.eq (.elem (.static "LuteTabs$Lute" "GREATEST_SETTING" "[I") (.int 3)) (.int 9)) (by decide +kernel))
    | 4, _ => exact va_eqt (hfl (.eq (.elem (.static "LuteTabs$Lute" "GREATEST_SETTING" "[I") (.int 4)) (.int 9)) (by decide +kernel))) hnew
  have hini : (Cond.initialized "LuteTabs$Lute").before #[Value.ref b] s = true := hts _ (lw_at (i := 2) (by decide +kernel))
  have hZ1 : va_Z "LuteTabs$Lute" "LEAST_SETTING" "[I" (.ref t1) (fun q => s.heap.size ≤ q) s s.heap := va_Zof (hts (.laysStatic "LuteTabs$Lute" "LEAST_SETTING" "[I") (lw_at (i := 356) (by decide +kernel))) hini ht1 hnew
  have hZ2 : va_Z "LuteTabs$Lute" "GREATEST_SETTING" "[I" (.ref t2) (fun q => s.heap.size ≤ q) s s.heap := va_Zof (hts (.laysStatic "LuteTabs$Lute" "GREATEST_SETTING" "[I") (lw_at (i := 358) (by decide +kernel))) hini ht2 hnew
  have hXF : XF s := ⟨hAO, hAA, va_Nw.of rfl (hts (.methodLinkNest RX8 9 yX1_init RX8) (lw_at (i := 25) (by decide +kernel))), va_Nw.of rfl (hts (.methodLinkNest RX8 18 yX2_init RX8) (lw_at (i := 50) (by decide +kernel))), va_Nw.of rfl (hts (.methodLinkNest RX5 15 yX7_init RX8) (lw_at (i := 152) (by decide +kernel))), va_Nw.of rfl (hts (.methodLinkNest RX8 89 yX6_init RX8) (lw_at (i := 267) (by decide +kernel)))⟩
  obtain ⟨ad0, ha0, ha1, ha2⟩ : ∃ ad0 : Nat → Nat, ad0 SP = b ∧ ad0 (SP + 1) = t1 ∧ ad0 (SP + 2) = t2 := ⟨fun i => if i = SP then b else if i = SP + 1 then t1 else t2, by simp, by simp, by simp⟩
  obtain ⟨cy, hcy⟩ : ∃ cy : Nat → ClassId, va_K (dC, dI) vwCl (tysC cy) s := ⟨_, hK⟩
  have hSF : SF s.heap.size ad0 s := by
    unfold SF
    rw [ha1, ha2]
    exact ⟨hZ1, hZ2, hT1, hT2, hXF⟩
  exact ⟨(dC, dI), cy, ad0, hcy, hSF, ha0⟩
theorem start_of {p : Program} {e : Env} {s : State} {m : MethodId} {below : List Frame} {meth : Method} {c : Code} (l : Launch) {b L : Nat} {xs : Nat → Int32} (C0 : lw_At p s m meth c b L xs) (hpure : Pure L xs) : W p l e room_1 s m #[Value.ref b] below meth c s.heap [] 0 0 (lw_Z below #[Value.ref b] s) (entryFrame m ([Value.ref b] : List Value).toArray 4) := by
  obtain ⟨D, cy, ad0, hcy, hSF, ha0⟩ := start_facts C0
  obtain ⟨hx, hb, hr, hml, hown, hts, hX, hbl, hlocks, hgv⟩ := C0
  obtain ⟨σ', hpure⟩ := hpure
  have hgw : ∀ w ∈ gw_tbl, w.before #[Value.ref b] s = true := fun w hw => hts w (lw_in hw)
  exact start_K (K := (p, l, e, room_1, s, m, #[Value.ref b], below, meth, c, D, cy, (fun q => s.heap.size ≤ q), 600000, 7302250, ad0, 0, s.heap.size, Gr)) ⟨hx, hb, hml, hown, hgw, hlocks, hr, rfl, hcy, fun _ h => h, fun _ h => h, hSF, Nat.le_refl _⟩ rfl (fun _ h => h) rfl rfl rfl ha0 ⟨by show va_X (ad0 SP) L xs s s.heap; rw [ha0]; exact hX, by show ad0 SP < s.heap.size; rw [ha0]; exact hbl, by show ¬ s.heap.size ≤ ad0 SP; rw [ha0]; exact Nat.not_le.mpr hbl⟩ hpure
