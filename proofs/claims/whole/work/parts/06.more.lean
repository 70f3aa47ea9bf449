/-! copies of arrays; the two static arrays -/
def cpyI (σ : Sg) (p sp q dp n : Nat) : Sg := (σ.1, fun a b => if a = q then va_cpy (fun i => gI σ p i) (fun i => gI σ q i) sp dp n b else σ.2.1 a b, σ.2.2.1, σ.2.2.2)
def cpyL (σ : Sg) (p sp q dp n : Nat) : Sg := (σ.1, σ.2.1, fun a b => if a = q then va_cpy (fun i => gL σ p i) (fun i => gL σ q i) sp dp n b else σ.2.2.1 a b, σ.2.2.2)
def cpb (sp dp n : Int32) (np nq : Nat) : Bool := decide (¬ sp < 0 ∧ ¬ dp < 0 ∧ ¬ n < 0 ∧ sp.toNatClampNeg + n.toNatClampNeg ≤ np ∧ dp.toNatClampNeg + n.toNatClampNeg ≤ nq)
def st1 (i : Int32) : Int32 := if i.toNatClampNeg = 0 then 1 else 0
def st2 (i : Int32) : Int32 := if i.toNatClampNeg = 1 then 6 else 9
def mxI (x y : Int32) : Int32 := if x < y then y else x
def mnI (x y : Int32) : Int32 := if y < x then y else x
def abI (x : Int32) : Int32 := if 0 ≤ x then x else 0 - x
def mnL (x y : Int64) : Int64 := if y < x then y else x
section TM
variable {ρ : Type} {K : Cx} {QQ : ρ → Sg → Array Value → State → Outcome → State → Prop} {cc : ByteArray} {own : String} {nL : Nat} {rm : Room} {ret : Option FieldType} {pc : Nat} {lv lv' : List (Nat × Value)} {st : List Value} {c1 s1 : Nat} {σ : Sg} {o : Option (ρ × Sg)}
theorem T_copyI (h : Ok K cc own nL rm ret) (hs : kiv K = St) {p q idx : Nat} {sp dp n : Int32} (hp : kd p 10) (hq : kd q 10) (hlk : Cond.methodLink own idx arraycopyName ∈ gw_tbl) (hnat : Cond.native arraycopyName ∈ gw_tbl) (hsta : Cond.static arraycopyName ∈ gw_tbl) (hini : Cond.initialized "java/lang/System" ∈ gw_tbl) (hR : 1 ≤ rm.frames ∧ 8 + (nativeFrameWords "java/lang/System" "arraycopy" 5 + 11) ≤ rm.locals) (hW : (st.map fun v => v.category).sum ≤ 8) (hd : decode cc pc = .ok (.invokestatic idx, 3)) (kk : T K QQ (pc + 3) lv st c1 s1 (cpyI σ p sp.toNatClampNeg q dp.toNatClampNeg n.toNatClampNeg) o) : T K QQ pc lv (.int n :: .int dp :: .ref q :: .int sp :: .ref p :: st) c1 s1 σ (ck (cpb sp dp n (aL p) (aL q)) o) := by
  intro r σ' ho ad H locs ls hI hok hl
  obtain ⟨hb, ho⟩ := ck_t ho
  obtain ⟨np, hnp⟩ := hp
  obtain ⟨nq, hnq⟩ := hq
  rw [aL_of hnp, aL_of hnq] at hb
  obtain ⟨g1, g2, g3, g4, g5⟩ := of_decide_eq_true hb
  have h1 := In_at hs hI hnp
  have h2 := In_at hs hI hnq
  have hRR : kR K = rm := h.2.2.2.2.2.2.2.1
  have hset : wof (kcy K) ad (cpyI σ p sp.toNatClampNeg q dp.toNatClampNeg n.toNatClampNeg) = (wof (kcy K) ad σ).set q (ad q, .inl (kcy K 10, nq, .inl (va_cpy (fun i => gI σ p i) (fun i => gI σ q i) sp.toNatClampNeg dp.toNatClampNeg n.toNatClampNeg))) := by
    rw [wof_set (σ := σ) (τ := cpyI σ p sp.toNatClampNeg q dp.toNatClampNeg n.toNatClampNeg) (p := q) (q := (10, nq)) h2 rfl (fun a ha k => if_neg ha) (fun _ _ _ => rfl) (fun _ _ _ => rfl), cel_i]
    have e : (fun i => gI (cpyI σ p sp.toNatClampNeg q dp.toNatClampNeg n.toNatClampNeg) q i) = va_cpy (fun i => gI σ p i) (fun i => gI σ q i) sp.toNatClampNeg dp.toNatClampNeg n.toNatClampNeg := funext fun i => if_pos rfl
    rw [e]
  refine va_copyi (D := kD K) (cl := vwCl) (tys := tysC (kcy K)) (ws := wof (kcy K) ad σ) (A := kA K) (H0 := (ks K).heap) (ty := .int) h.1 h.2.1 (hl.1.symm) h.2.2.2.1 (h.2.2.2.2.1 _ hlk) (h.2.2.2.2.1 _ hnat) (h.2.2.2.2.1 _ hsta) (h.2.2.2.2.1 _ hini) h.2.2.2.2.2.2.2.2.1 hI.1 hI.2.1 hI.2.2.2.2.1 p q 0 0 (wof_at h1) (wof_at h2) rfl rfl rfl g1 g2 g3 g4 g5 (fun _ _ => rfl) (by rw [hRR]; exact hR.1) (by rw [hRR]; have := st_room ad hW; have := hR.2; omega) hd (fun H1 locs1 hP hD hS => kk r σ' ho ad H1 locs1 ls ⟨?_, ?_, hI.2.2.1, ?_, hS, hI.2.2.2.2.2⟩ (oks_t (oks_t (oks_t (oks_t (oks_t hok))))) hl)
  · rw [hset]; exact hP
  · rw [hset]; exact hD
  · have z : St σ := In_st hs hI
    rw [hs]; exact z
theorem T_copyL (h : Ok K cc own nL rm ret) (hs : kiv K = St) {p q idx : Nat} {sp dp n : Int32} (hp : kd p 11) (hq : kd q 11) (hlk : Cond.methodLink own idx arraycopyName ∈ gw_tbl) (hnat : Cond.native arraycopyName ∈ gw_tbl) (hsta : Cond.static arraycopyName ∈ gw_tbl) (hini : Cond.initialized "java/lang/System" ∈ gw_tbl) (hR : 1 ≤ rm.frames ∧ 8 + (nativeFrameWords "java/lang/System" "arraycopy" 5 + 11) ≤ rm.locals) (hW : (st.map fun v => v.category).sum ≤ 8) (hd : decode cc pc = .ok (.invokestatic idx, 3)) (kk : T K QQ (pc + 3) lv st c1 s1 (cpyL σ p sp.toNatClampNeg q dp.toNatClampNeg n.toNatClampNeg) o) : T K QQ pc lv (.int n :: .int dp :: .ref q :: .int sp :: .ref p :: st) c1 s1 σ (ck (cpb sp dp n (aL p) (aL q)) o) := by
  intro r σ' ho ad H locs ls hI hok hl
  obtain ⟨hb, ho⟩ := ck_t ho
  obtain ⟨np, hnp⟩ := hp
  obtain ⟨nq, hnq⟩ := hq
  rw [aL_of hnp, aL_of hnq] at hb
  obtain ⟨g1, g2, g3, g4, g5⟩ := of_decide_eq_true hb
  have h1 := In_at hs hI hnp
  have h2 := In_at hs hI hnq
  have hRR : kR K = rm := h.2.2.2.2.2.2.2.1
  have hset : wof (kcy K) ad (cpyL σ p sp.toNatClampNeg q dp.toNatClampNeg n.toNatClampNeg) = (wof (kcy K) ad σ).set q (ad q, .inl (kcy K 11, nq, .inr (.inl (va_cpy (fun i => gL σ p i) (fun i => gL σ q i) sp.toNatClampNeg dp.toNatClampNeg n.toNatClampNeg)))) := by
    rw [wof_set (σ := σ) (τ := cpyL σ p sp.toNatClampNeg q dp.toNatClampNeg n.toNatClampNeg) (p := q) (q := (11, nq)) h2 rfl (fun _ _ _ => rfl) (fun a ha k => if_neg ha) (fun _ _ _ => rfl), cel_l]
    have e : (fun i => gL (cpyL σ p sp.toNatClampNeg q dp.toNatClampNeg n.toNatClampNeg) q i) = va_cpy (fun i => gL σ p i) (fun i => gL σ q i) sp.toNatClampNeg dp.toNatClampNeg n.toNatClampNeg := funext fun i => if_pos rfl
    rw [e]
  refine va_copyl (D := kD K) (cl := vwCl) (tys := tysC (kcy K)) (ws := wof (kcy K) ad σ) (A := kA K) (H0 := (ks K).heap) (ty := .long) h.1 h.2.1 (hl.1.symm) h.2.2.2.1 (h.2.2.2.2.1 _ hlk) (h.2.2.2.2.1 _ hnat) (h.2.2.2.2.1 _ hsta) (h.2.2.2.2.1 _ hini) h.2.2.2.2.2.2.2.2.1 hI.1 hI.2.1 hI.2.2.2.2.1 p q 1 1 (wof_at h1) (wof_at h2) rfl rfl rfl g1 g2 g3 g4 g5 (fun _ _ => rfl) (by rw [hRR]; exact hR.1) (by rw [hRR]; have := st_room ad hW; have := hR.2; omega) hd (fun H1 locs1 hP hD hS => kk r σ' ho ad H1 locs1 ls ⟨?_, ?_, hI.2.2.1, ?_, hS, hI.2.2.2.2.2⟩ (oks_t (oks_t (oks_t (oks_t (oks_t hok))))) hl)
  · rw [hset]; exact hP
  · rw [hset]; exact hD
  · have z : St σ := In_st hs hI
    rw [hs]; exact z
theorem In_sp {ad : Nat → Nat} {H : Heap} {locs : List Loc} (hI : Inv K σ ad H locs) (i : Nat) : ad (SP + i) = kad K (SP + i) := hI.2.2.2.2.2.1 _ (Or.inr (Nat.le_add_right _ _))
theorem T_gets1 (h : Ok K cc "LuteTabs$Lute" nL rm ret) {idx : Nat} (hlk : Cond.fieldLink "LuteTabs$Lute" idx "LuteTabs$Lute" "LEAST_SETTING" "[I" ∈ gw_tbl) (hd : decode cc pc = .ok (.getstatic idx, 3)) (kk : T K QQ (pc + 3) lv (.ref (SP + 1) :: st) c1 s1 σ o) : T K QQ pc lv st c1 s1 σ o := by
  refine T_go (fun q => oks_p (v := .ref (SP + 1)) (Or.inr (Nat.le_add_right _ _)) q) (fun ad H locs ls Q hI hk' hl kw => ?_) kk
  have hb := h.2.2.2.2.2.2.2.2.2.2
  exact va_gets (A := kA K) (v := .ref (ad (SP + 1))) h.1 h.2.1 (by rw [In_sp hI]; exact hb.2.1.1.narrow hb.1) hI.2.2.2.2.1 h.2.2.2.1 (h.2.2.2.2.1 _ hlk) (fun _ q => q) hd kw
theorem T_gets2 (h : Ok K cc "LuteTabs$Lute" nL rm ret) {idx : Nat} (hlk : Cond.fieldLink "LuteTabs$Lute" idx "LuteTabs$Lute" "GREATEST_SETTING" "[I" ∈ gw_tbl) (hd : decode cc pc = .ok (.getstatic idx, 3)) (kk : T K QQ (pc + 3) lv (.ref (SP + 2) :: st) c1 s1 σ o) : T K QQ pc lv st c1 s1 σ o := by
  refine T_go (fun q => oks_p (v := .ref (SP + 2)) (Or.inr (Nat.le_add_right _ _)) q) (fun ad H locs ls Q hI hk' hl kw => ?_) kk
  have hb := h.2.2.2.2.2.2.2.2.2.2
  exact va_gets (A := kA K) (v := .ref (ad (SP + 2))) h.1 h.2.1 (by rw [In_sp hI]; exact hb.2.1.2.1.narrow hb.1) hI.2.2.2.2.1 h.2.2.2.1 (h.2.2.2.2.1 _ hlk) (fun _ q => q) hd kw
theorem T_sald1 (h : Ok K cc own nL rm ret) {i : Int32} (hd : decode cc pc = .ok (.iaload, 1)) (kk : T K QQ (pc + 1) lv (.int (st1 i) :: st) c1 s1 σ o) : T K QQ pc lv (.int i :: .ref (SP + 1) :: st) c1 s1 σ (ck (inb i 5) o) := by
  intro r σ' ho ad H locs ls hI hok hl
  obtain ⟨hb0, ho⟩ := ck_t ho
  have hb := h.2.2.2.2.2.2.2.2.2.2
  exact va_ti (A := kA K) (t := ad (SP + 1)) (N := 5) (f := fun j => .int (if j = 0 then 1 else 0)) (v := .int (st1 i)) h.1 h.2.1 (by rw [In_sp hI]; exact hb.2.1.2.2.1.narrow hb.1) hI.2.2.2.2.1 (inb_t hb0) rfl hd (kk r σ' ho ad H locs ls hI (oks_i (oks_t (oks_t hok))) hl)
theorem T_sald2 (h : Ok K cc own nL rm ret) {i : Int32} (hd : decode cc pc = .ok (.iaload, 1)) (kk : T K QQ (pc + 1) lv (.int (st2 i) :: st) c1 s1 σ o) : T K QQ pc lv (.int i :: .ref (SP + 2) :: st) c1 s1 σ (ck (inb i 5) o) := by
  intro r σ' ho ad H locs ls hI hok hl
  obtain ⟨hb0, ho⟩ := ck_t ho
  have hb := h.2.2.2.2.2.2.2.2.2.2
  exact va_ti (A := kA K) (t := ad (SP + 2)) (N := 5) (f := fun j => .int (if j = 1 then 6 else 9)) (v := .int (st2 i)) h.1 h.2.1 (by rw [In_sp hI]; exact hb.2.1.2.2.2.1.narrow hb.1) hI.2.2.2.2.1 (inb_t hb0) rfl hd (kk r σ' ho ad H locs ls hI (oks_i (oks_t (oks_t hok))) hl)
theorem T_mmax (h : Ok K cc own nL rm ret) {idx : Nat} {x y : Int32} (hlk : Cond.methodLink own idx Lib.Math.max.name ∈ gw_tbl) (hsta : Cond.static Lib.Math.max.name ∈ gw_tbl) (hini : Cond.initialized "java/lang/Math" ∈ gw_tbl) (hcd : Cond.code Lib.Math.max.name Lib.Math.max.code 2 (some .int) ∈ gw_tbl) (hR : 1 ≤ rm.frames ∧ 8 + 13 ≤ rm.locals) (hf : c1 ≤ rm.cells ∧ s1 ≤ rm.slots) (hW : (st.map fun v => v.category).sum ≤ 8) (hd : decode cc pc = .ok (.invokestatic idx, 3)) (kk : T K QQ (pc + 3) lv (.int (mxI x y) :: st) c1 s1 σ o) : T K QQ pc lv (.int y :: .int x :: st) c1 s1 σ o := by
  have hRR : kR K = rm := h.2.2.2.2.2.2.2.1
  exact T_go (fun q => oks_i (oks_t (oks_t q))) (fun ad H locs ls Q hI hk' hl kw => va_mmax h.1 h.2.1 hl.1.symm h.2.2.2.1 (h.2.2.2.2.1 _ hlk) (h.2.2.2.2.1 _ hsta) (h.2.2.2.2.1 _ hini) (h.2.2.2.2.1 _ hcd) (by rw [hRR]; exact hR.1) (by rw [hRR]; have := st_room ad hW; have := hR.2; omega) (by rw [hRR]; exact hf.1) (by rw [hRR]; exact hf.2) hd kw) kk
theorem T_mmin (h : Ok K cc own nL rm ret) {idx : Nat} {x y : Int32} (hlk : Cond.methodLink own idx Lib.Math.min.name ∈ gw_tbl) (hsta : Cond.static Lib.Math.min.name ∈ gw_tbl) (hini : Cond.initialized "java/lang/Math" ∈ gw_tbl) (hcd : Cond.code Lib.Math.min.name Lib.Math.min.code 2 (some .int) ∈ gw_tbl) (hR : 1 ≤ rm.frames ∧ 8 + 13 ≤ rm.locals) (hf : c1 ≤ rm.cells ∧ s1 ≤ rm.slots) (hW : (st.map fun v => v.category).sum ≤ 8) (hd : decode cc pc = .ok (.invokestatic idx, 3)) (kk : T K QQ (pc + 3) lv (.int (mnI x y) :: st) c1 s1 σ o) : T K QQ pc lv (.int y :: .int x :: st) c1 s1 σ o := by
  have hRR : kR K = rm := h.2.2.2.2.2.2.2.1
  exact T_go (fun q => oks_i (oks_t (oks_t q))) (fun ad H locs ls Q hI hk' hl kw => va_mmin h.1 h.2.1 hl.1.symm h.2.2.2.1 (h.2.2.2.2.1 _ hlk) (h.2.2.2.2.1 _ hsta) (h.2.2.2.2.1 _ hini) (h.2.2.2.2.1 _ hcd) (by rw [hRR]; exact hR.1) (by rw [hRR]; have := st_room ad hW; have := hR.2; omega) (by rw [hRR]; exact hf.1) (by rw [hRR]; exact hf.2) hd kw) kk
theorem T_mabs (h : Ok K cc own nL rm ret) {idx : Nat} {x : Int32} (hlk : Cond.methodLink own idx Lib.Math.abs.name ∈ gw_tbl) (hsta : Cond.static Lib.Math.abs.name ∈ gw_tbl) (hini : Cond.initialized "java/lang/Math" ∈ gw_tbl) (hcd : Cond.code Lib.Math.abs.name Lib.Math.abs.code 1 (some .int) ∈ gw_tbl) (hR : 1 ≤ rm.frames ∧ 8 + 13 ≤ rm.locals) (hf : c1 ≤ rm.cells ∧ s1 ≤ rm.slots) (hW : (st.map fun v => v.category).sum ≤ 8) (hd : decode cc pc = .ok (.invokestatic idx, 3)) (kk : T K QQ (pc + 3) lv (.int (abI x) :: st) c1 s1 σ o) : T K QQ pc lv (.int x :: st) c1 s1 σ o := by
  have hRR : kR K = rm := h.2.2.2.2.2.2.2.1
  exact T_go (fun q => oks_i (oks_t q)) (fun ad H locs ls Q hI hk' hl kw => va_mabs h.1 h.2.1 hl.1.symm h.2.2.2.1 (h.2.2.2.2.1 _ hlk) (h.2.2.2.2.1 _ hsta) (h.2.2.2.2.1 _ hini) (h.2.2.2.2.1 _ hcd) (by rw [hRR]; exact hR.1) (by rw [hRR]; have := st_room ad hW; have := hR.2; omega) (by rw [hRR]; exact hf.1) (by rw [hRR]; exact hf.2) hd kw) kk
theorem T_mminL (h : Ok K cc own nL rm ret) {idx : Nat} {x y : Int64} (hlk : Cond.methodLink own idx Lib.MathLoose.min_long.x ∈ gw_tbl) (hsta : Cond.static Lib.MathLoose.min_long.x ∈ gw_tbl) (hini : Cond.initialized "java/lang/Math" ∈ gw_tbl) (hcd : Cond.code Lib.MathLoose.min_long.x Lib.MathLoose.min_long.code 4 (some .long) ∈ gw_tbl) (hR : 1 ≤ rm.frames ∧ 8 + 15 ≤ rm.locals) (hf : c1 ≤ rm.cells ∧ s1 ≤ rm.slots) (hW : (st.map fun v => v.category).sum ≤ 8) (hd : decode cc pc = .ok (.invokestatic idx, 3)) (kk : T K QQ (pc + 3) lv (.long (mnL x y) :: st) c1 s1 σ o) : T K QQ pc lv (.long y :: .long x :: st) c1 s1 σ o := by
  have hRR : kR K = rm := h.2.2.2.2.2.2.2.1
  exact T_go (fun q => oks_l (oks_t (oks_t q))) (fun ad H locs ls Q hI hk' hl kw => va_mmin_long h.1 h.2.1 hl.1.symm h.2.2.2.1 (h.2.2.2.2.1 _ hlk) (h.2.2.2.2.1 _ hsta) (h.2.2.2.2.1 _ hini) (h.2.2.2.2.1 _ hcd) (by rw [hRR]; exact hR.1) (by rw [hRR]; have := st_room ad hW; have := hR.2; omega) (by rw [hRR]; exact hf.1) (by rw [hRR]; exact hf.2) hd kw) kk
end TM
