def va_AOA (t : FieldType) (U : State) : Prop := (Cond.arrayOver (.array t)).before #[] U = true
theorem va_AOA.use {t : FieldType} {A : Array Value} {U : State} (h : va_AOA t U) : (Cond.arrayOver (.array t)).before A U = true := h
/-! ===== BEGIN new T[n][m]: the outer array a place, the inner ones among the pooled ===== -/
/-- f, but v at every address of l -/
def vr_up {α : Type} (f : Nat → α) (l : List Nat) (v : α) : Nat → α := fun a => if a ∈ l then v else f a
theorem vr_up_in {α : Type} {f : Nat → α} {l : List Nat} {v : α} {a : Nat} (h : a ∈ l) : vr_up f l v a = v := if_pos h
theorem vr_up_ne {α : Type} {f : Nat → α} {l : List Nat} {v : α} {a : Nat} (h : a ∉ l) : vr_up f l v a = f a := if_neg h
theorem vr_rows {L l : List Nat} {f : Nat → va_E} {e : va_E} (h : ∀ a, a ∈ l → a ∉ L) : va_pl L f ++ l.map (fun a => (a, e)) = va_pl (L ++ l) (vr_up f l e) := by
  unfold va_pl
  rw [List.map_append]
  congr 1
  · apply List.map_congr_left
    intro a ha
    rw [vr_up_ne (fun q => h a q ha)]
  · apply List.map_congr_left
    intro a ha
    rw [vr_up_in ha]
theorem vr_lay {X rows : va_W} {x : Nat × va_E} {pl : va_W} {D : va_G} {cl : List vw_C} {H : Heap} (hP : va_P D cl (((X ++ pl) ++ [x]) ++ rows) H) : va_P D cl ((X ++ [x]) ++ (pl ++ rows)) H := by
  rw [List.append_assoc (X ++ pl)] at hP
  have h := va_P.swap hP
  rw [← List.append_assoc X] at h
  have h2 := va_P.swap h
  rw [List.append_assoc (X ++ [x])] at h2
  exact h2
theorem vr_layD {X rows : va_W} {x : Nat × va_E} {pl : va_W} {A : Nat → Prop} (hD : va_D A (((X ++ pl) ++ [x]) ++ rows)) : va_D A ((X ++ [x]) ++ (pl ++ rows)) := by
  rw [List.append_assoc (X ++ pl)] at hD
  have h := va_D.swap hD
  rw [← List.append_assoc X] at h
  have h2 := va_D.swap h
  rw [List.append_assoc (X ++ [x])] at h2
  exact h2
theorem vr_outer (c : ClassId) (N h0 : Nat) : ∀ i : Nat, Jvm.Free.Multi.outerC c N h0 i = arrV c N (fun j => va_rf (if j < i then some (h0 + 1 + j) else none))
  | 0 => by
    show ({ cls := c, slots := Array.replicate N .null, vm := .none } : Cell) = _
    rw [arrV_new]
    refine congrArg (arrV c N) (funext fun j => ?_)
    simp [va_rf]
  | i + 1 => by
    show (Jvm.Free.Multi.outerC c N h0 i).setSlot i (.ref (h0 + 1 + i)) = _
    rw [vr_outer c N h0 i, arrV_store]
    refine congrArg (arrV c N) (funext fun j => ?_)
    by_cases e : j = i
    · subst e
      simp [updV, va_rf]
    · by_cases h : j < i
      · simp [updV, e, h, Nat.lt_succ_of_lt h]
      · simp [updV, e, h, show ¬ j < i + 1 by omega]
section VGM
variable {p : Program} {l : Launch} {e : Env} {R : Room} {s : State} {m : MethodId} {args : Array Value} {below : List Frame} {meth : Method} {c : Code} {H : Heap} {locs : List Loc} {cells slots : Nat} {Q : State → Prop}
variable {cc : ByteArray} {pc : Nat} {ls : Array Slot} {rest : List Value} {D : va_G} {cl : List vw_C} {A : Nat → Prop} {a : Nat} {tys : List (ClassId × FieldType)} {ws : va_W} {H0 : Heap}
theorem va_mna {X : va_W} {L : List Nat} {f : Nat → va_E} {cc : ByteArray} (hexec : p.tables.exec = Jvm.exec) (hb : c.code = cc) {own : String} {index : Nat} {ty : FieldType} {cy : ClassId} (hown : s.vm.findClass own = some m.cls) (hclink : (Cond.classLink own index ("[" ++ (FieldType.array ty).toString)).before args s = true) (hover : va_AOA ty s) (harr : (Cond.arrayClass ty).before args s = true) (hcy : s.vm.findClass (FieldType.array ty).toString = some cy)
    (hK : va_K D cl tys s) (hP : va_P D cl (X ++ va_pl L f) H) (hD : va_D A (X ++ va_pl L f)) (hS : va_S A H0 H locs) (hA : ∀ q, H0.size ≤ q → A q) {n k : Int32} {N' K' : Nat} {z : vp_A} (hn : ¬ n < 0) (hk : ¬ k < 0) (hN : n.toNatClampNeg = N') (hM : k.toNatClampNeg = K')
    (hb1 : N' * 4 ≤ 536870912) (hb2 : K' * componentBytes ty ≤ 536870912) (hb3 : K' ≤ 536870912) (hdf : fits ty (defaultValue ty) = true) (hdd : (defaultValue ty).isDefault = true) (hcells : cells + (1 + N') ≤ R.cells) (hslots : slots + (N' + N' * K') ≤ R.slots) (hz : ∀ c : ClassId, Jvm.Free.Multi.innerC c K' (defaultValue ty) = vp_cell c z) (hdg : decode cc pc = .ok (.multianewarray index 2, 4))
    (kk : ∀ (q : Nat) (r : Nat → Nat) (cA : ClassId) (H1 : Heap), (∀ i j : Nat, i < N' → j < N' → r i = r j → i = j) → (∀ i : Nat, i < N' → r i ∉ L) → va_K D cl (tys ++ [(cA, .array ty)]) s →
      va_P D cl ((X ++ [(q, .inl (cA, N', .inr (.inr (.inr (.inr (fun i => if i < N' then some (r i) else none))))))]) ++ va_pl (L ++ (List.range N').map r) (vr_up f ((List.range N').map r) (.inl (cy, z)))) H1 → va_D A ((X ++ [(q, .inl (cA, N', .inr (.inr (.inr (.inr (fun i => if i < N' then some (r i) else none))))))]) ++ va_pl (L ++ (List.range N').map r) (vr_up f ((List.range N').map r) (.inl (cy, z)))) → va_S A H0 H1 locs →
      W p l e R s m args below meth c H1 locs (cells + 1 + N') (slots + N' + N' * K') Q (F0 m (pc + 4) ls (.ref q :: rest))) : W p l e R s m args below meth c H locs cells slots Q (F0 m pc ls (.int k :: .int n :: rest)) := by
  subst hN
  subst hM
  intro T hT Xs
  obtain ⟨vm₁, cA, comp, -, fA, fC, hO, -, X', step⟩ := Xs.multianewarray2F hexec hown hclink (va_AOA.use hover) harr (g := F0 m pc ls (.int k :: .int n :: rest)) rfl (by rw [hb]; exact hdg) rfl hn hk hb1 hb2 hb3 hdf hdd hcells hslots
  have ec : some cy = some comp := hcy.symm.trans fC
  cases ec
  generalize hF : Jvm.Free.Multi.fill (T.setVm vm₁) cA cy n.toNatClampNeg k.toNatClampNeg (defaultValue ty) n.toNatClampNeg = F at X' step
  have hTh : (T.setVm vm₁).heap = H := hT
  obtain ⟨f1, f2, -, -⟩ := Jvm.Free.Multi.fill_facts (T.setVm vm₁) cA cy n.toNatClampNeg k.toNatClampNeg (defaultValue ty) n.toNatClampNeg
  rw [hF, hTh] at f1 f2
  have hold : ∀ x : Nat, x < H.size → F.heap[x]? = H[x]? := fun x hx => by
    have := Jvm.Free.Multi.fill_old (T.setVm vm₁) cA cy n.toNatClampNeg k.toNatClampNeg (defaultValue ty) (a := x) (by rw [hTh]; exact hx) n.toNatClampNeg
    rw [hF, hTh] at this
    exact this
  have hrow : ∀ j : Nat, j < n.toNatClampNeg → F.heap[H.size + 1 + j]? = some (vp_cell cy z) := fun j hj => by
    have := Jvm.Free.Multi.fill_inner (T.setVm vm₁) cA cy n.toNatClampNeg k.toNatClampNeg (defaultValue ty) n.toNatClampNeg j hj
    rw [hF, hTh, hz] at this
    exact this
  have hout : Jvm.Free.Multi.outerC cA n.toNatClampNeg H.size n.toNatClampNeg = vp_cell cA (n.toNatClampNeg, .inr (.inr (.inr (.inr (fun i => if i < n.toNatClampNeg then some (H.size + 1 + i) else none))))) := by
    rw [vp_cell_q]
    exact vr_outer cA n.toNatClampNeg H.size n.toNatClampNeg
  rw [hout] at f2
  have hlt : ∀ a, a ∈ L → a < H.size := fun a ha => by
    obtain ⟨k9, hk9⟩ := va_pl_get (X := X) (f := f) ha
    exact (hP k9 _ hk9).lt
  have hnl : ∀ i : Nat, i < n.toNatClampNeg → H.size + 1 + i ∉ L := fun i _ h => by
    have := hlt _ h
    omega
  have hnm : ∀ a, a ∈ (List.range n.toNatClampNeg).map (fun i => H.size + 1 + i) → a ∉ L := fun a ha h => by
    obtain ⟨i, -, rfl⟩ := List.mem_map.mp ha
    have := hlt _ h
    omega
  have hP0 : va_P D cl (X ++ va_pl L f) F.heap := hP.kept (fun k9 x hx => hold x.1 ((hP k9 x hx).lt))
  have hP1 : va_P D cl ((X ++ va_pl L f) ++ [(H.size, .inl (cA, n.toNatClampNeg, .inr (.inr (.inr (.inr (fun i => if i < n.toNatClampNeg then some (H.size + 1 + i) else none))))))]) F.heap := hP0.app (fun k9 x hx => by
    have h0 : k9 < 1 := (List.getElem?_eq_some_iff.mp hx).1
    rw [show k9 = 0 by omega] at hx
    cases hx
    exact f2)
  have hP2 : va_P D cl (((X ++ va_pl L f) ++ [(H.size, .inl (cA, n.toNatClampNeg, .inr (.inr (.inr (.inr (fun i => if i < n.toNatClampNeg then some (H.size + 1 + i) else none))))))]) ++ ((List.range n.toNatClampNeg).map (fun i => H.size + 1 + i)).map (fun a => (a, .inl (cy, z)))) F.heap := hP1.app (fun k9 x hx => by
    obtain ⟨a, ha, rfl⟩ := List.mem_map.mp (List.mem_of_getElem? hx)
    obtain ⟨i, hi, rfl⟩ := List.mem_map.mp ha
    exact hrow i (List.mem_range.mp hi))
  have hD2 : va_D A (((X ++ va_pl L f) ++ [(H.size, .inl (cA, n.toNatClampNeg, .inr (.inr (.inr (.inr (fun i => if i < n.toNatClampNeg then some (H.size + 1 + i) else none))))))]) ++ ((List.range n.toNatClampNeg).map (fun i => H.size + 1 + i)).map (fun a => (a, .inl (cy, z)))) := by
    have hD1 := hD.push (e := .inl (cA, n.toNatClampNeg, .inr (.inr (.inr (.inr (fun i => if i < n.toNatClampNeg then some (H.size + 1 + i) else none)))))) hP rfl (hA _ hS.1)
    generalize hW1 : (X ++ va_pl L f) ++ [(H.size, .inl (cA, n.toNatClampNeg, .inr (.inr (.inr (.inr (fun i => if i < n.toNatClampNeg then some (H.size + 1 + i) else none))))))] = W1 at hD1 hP1 ⊢
    have hle : ∀ (k9 : Nat) (x : Nat × va_E), W1[k9]? = some x → x.1 ≤ H.size := fun k9 x hx => by
      rw [← hW1] at hx
      by_cases hl : k9 < (X ++ va_pl L f).length
      · rw [List.getElem?_append_left hl] at hx
        exact Nat.le_of_lt ((hP k9 x hx).lt)
      · rw [List.getElem?_append_right (by omega)] at hx
        have h0 : k9 - (X ++ va_pl L f).length < 1 := (List.getElem?_eq_some_iff.mp hx).1
        rw [show k9 - (X ++ va_pl L f).length = 0 by omega] at hx
        cases hx
        exact Nat.le_refl _
    have hr : ∀ (k9 : Nat) (x : Nat × va_E), (((List.range n.toNatClampNeg).map (fun i => H.size + 1 + i)).map (fun a => ((a, .inl (cy, z)) : Nat × va_E)))[k9]? = some x → x.1 = H.size + 1 + k9 := fun k9 x hx => by
      rw [List.getElem?_map, List.getElem?_map] at hx
      by_cases h9 : k9 < n.toNatClampNeg
      · rw [List.getElem?_range h9] at hx
        cases hx
        rfl
      · have hn0 : (List.range n.toNatClampNeg)[k9]? = none := List.getElem?_eq_none (by rw [List.length_range]; omega)
        rw [hn0] at hx
        cases hx
    refine ⟨fun i j x y hi hj hxy => ?_, fun k9 x hx => ?_⟩
    · by_cases h1 : i < W1.length <;> by_cases h2 : j < W1.length
      · rw [List.getElem?_append_left h1] at hi
        rw [List.getElem?_append_left h2] at hj
        exact hD1.1 i j x y hi hj hxy
      · rw [List.getElem?_append_left h1] at hi
        rw [List.getElem?_append_right (by omega)] at hj
        have := hle _ _ hi
        have := hr _ _ hj
        omega
      · rw [List.getElem?_append_right (by omega)] at hi
        rw [List.getElem?_append_left h2] at hj
        have := hle _ _ hj
        have := hr _ _ hi
        omega
      · rw [List.getElem?_append_right (by omega)] at hi hj
        have := hr _ _ hi
        have := hr _ _ hj
        omega
    · by_cases h1 : k9 < W1.length
      · rw [List.getElem?_append_left h1] at hx
        exact hD1.2 k9 x hx
      · rw [List.getElem?_append_right (by omega)] at hx
        have := hr _ _ hx
        exact hA _ (by have := hS.1; omega)
  have hAr : ArrOfT s cA (.array ty) := fun N9 z9 => by
    obtain ⟨-, k9, hk9, cm9, hkk9⟩ := (hO 0 0 0).1
    exact ⟨(fun q hq => by cases hq), k9, hk9, cm9, hkk9⟩
  have hK2 : va_K D cl (tys ++ [(cA, .array ty)]) s := ⟨hK.1, fun k9 x hx => by
    by_cases hl : k9 < tys.length
    · rw [List.getElem?_append_left hl] at hx
      exact hK.2 k9 x hx
    · rw [List.getElem?_append_right (by omega)] at hx
      have h0 : k9 - tys.length < 1 := (List.getElem?_eq_some_iff.mp hx).1
      rw [show k9 - tys.length = 0 by omega] at hx
      cases hx
      exact ⟨hAr, fA⟩⟩
  obtain ⟨t, a1, b1⟩ := kk H.size (fun i => H.size + 1 + i) cA F.heap (fun i j _ _ h => by have h9 : H.size + 1 + i = H.size + 1 + j := h; omega) hnl hK2 (by rw [← vr_rows hnm]; exact vr_lay hP2) (by rw [← vr_rows hnm]; exact vr_layD hD2) ⟨by rw [f1]; have := hS.1; omega, fun x h1 h2 => (hold x (Nat.lt_of_lt_of_le h1 hS.1)).trans (hS.2.1 x h1 h2), hS.2.2⟩ F rfl X'
  refine ⟨t, step t ?_, b1⟩
  have e : T.heap.size = H.size := by rw [hT]
  rw [e]
  exact a1
end VGM
/-- new int[N][M]: the outer row, then its rows -/
def mnS (σ : Sg) (N M : Nat) : Sg := (σ.1 ++ ((14, N) :: List.replicate N (10, M)), fun a b => if σ.1.length ≤ a then 0 else σ.2.1 a b, fun a b => if σ.1.length ≤ a then 0 else σ.2.2.1 a b, fun a b => if σ.1.length ≤ a then (if a = σ.1.length ∧ b < N then σ.1.length + 1 + b else NUL) else σ.2.2.2 a b)
def mup (ad : Nat → Nat) (n q : Nat) (r : Nat → Nat) (N : Nat) : Nat → Nat := fun i => if i = n then q else if n < i ∧ i ≤ n + N then r (i - n - 1) else ad i
theorem mnS_len {σ : Sg} {N M : Nat} : (mnS σ N M).1.length = σ.1.length + 1 + N := by
  show (σ.1 ++ ((14, N) :: List.replicate N (10, M))).length = _
  rw [List.length_append, List.length_cons, List.length_replicate]
  omega
theorem mup_lt {ad : Nat → Nat} {n q : Nat} {r : Nat → Nat} {N i : Nat} (h : i < n ∨ n + N < i) : mup ad n q r N i = ad i := by
  unfold mup
  rw [if_neg (by omega), if_neg (by omega)]
theorem mup_n {ad : Nat → Nat} {n q : Nat} {r : Nat → Nat} {N : Nat} : mup ad n q r N n = q := if_pos rfl
theorem mup_r {ad : Nat → Nat} {n q : Nat} {r : Nat → Nat} {N i : Nat} (h : i < N) : mup ad n q r N (n + 1 + i) = r i := by
  unfold mup
  rw [if_neg (by omega), if_pos (by omega)]
  congr 1
  omega
theorem mnS_wof {cy : Nat → ClassId} {ad : Nat → Nat} {σ : Sg} {N M q : Nat} {r : Nat → Nat} (hw : wfS σ) (hN : σ.1.length + 1 + N ≤ SP) : wof cy (mup ad σ.1.length q r N) (mnS σ N M) = (wof cy ad σ ++ [(q, .inl (cy 14, N, .inr (.inr (.inr (.inr (fun i => if i < N then some (r i) else none))))))]) ++ (List.range N).map (fun i => (r i, .inl (cy 10, M, .inl (fun _ => 0)))) := by
  apply List.ext_getElem?
  intro i
  by_cases h1 : i < σ.1.length
  · rw [List.getElem?_append_left (by rw [List.length_append, wof_len]; omega), List.getElem?_append_left (by rw [wof_len]; exact h1)]
    obtain ⟨x, hx⟩ : ∃ x, σ.1[i]? = some x := ⟨_, List.getElem?_eq_getElem h1⟩
    have hx2 : (mnS σ N M).1[i]? = some x := by
      show (σ.1 ++ _)[i]? = some x
      rw [List.getElem?_append_left h1]; exact hx
    have hnl : ¬ σ.1.length ≤ i := by omega
    rw [wof_at hx, wof_at hx2, mup_lt (Or.inl h1)]
    have hI : ∀ k, gI (mnS σ N M) i k = gI σ i k := fun k => if_neg hnl
    have hL : ∀ k, gL (mnS σ N M) i k = gL σ i k := fun k => if_neg hnl
    have hR : ∀ k, gR (mnS σ N M) i k = gR σ i k := fun k => if_neg hnl
    have hr : ∀ k, ro (mup ad σ.1.length q r N) (gR σ i k) = ro ad (gR σ i k) := fun k => by
      unfold ro
      rcases hw.2 i k with z | z
      · rw [mup_lt (Or.inl z)]
      · rw [if_pos z, if_pos z]
    have e : cel cy (mup ad σ.1.length q r N) (mnS σ N M) i x = cel cy ad σ i x := by
      have h2 : fv (mup ad σ.1.length q r N) (mnS σ N M) i x.1 = fv ad σ i x.1 := funext fun k => by unfold fv; rw [hI, hR, hr]
      unfold cel
      rw [h2]
      simp only [hI, hL, hR, hr]
    rw [e]
  · by_cases h2 : i = σ.1.length
    · subst h2
      rw [List.getElem?_append_left (by rw [List.length_append, wof_len]; exact Nat.lt_succ_self _), List.getElem?_append_right (by rw [wof_len]; exact Nat.le_refl _), wof_len, Nat.sub_self]
      have hx2 : (mnS σ N M).1[σ.1.length]? = some (14, N) := by
        show (σ.1 ++ _)[σ.1.length]? = _
        rw [List.getElem?_append_right (Nat.le_refl _), Nat.sub_self]; rfl
      rw [wof_at hx2, mup_n, cel_14]
      have e : (fun i => ro (mup ad σ.1.length q r N) (gR (mnS σ N M) σ.1.length i)) = fun i => if i < N then some (r i) else none := funext fun i => by
        show ro _ (if σ.1.length ≤ σ.1.length then (if σ.1.length = σ.1.length ∧ i < N then σ.1.length + 1 + i else NUL) else _) = _
        rw [if_pos (Nat.le_refl _)]
        by_cases hi : i < N
        · rw [if_pos ⟨rfl, hi⟩, if_pos hi]
          unfold ro
          rw [if_neg (by unfold NUL; unfold SP at hN; omega), mup_r hi]
        · rw [if_neg (fun z => hi z.2), if_neg hi]
          rfl
      rw [e]
      rfl
    · by_cases h3 : i < σ.1.length + 1 + N
      · obtain ⟨j, rfl⟩ : ∃ j, i = σ.1.length + 1 + j := ⟨i - (σ.1.length + 1), by omega⟩
        have hj : j < N := by omega
        rw [List.getElem?_append_right (by rw [List.length_append, wof_len]; show σ.1.length + 1 ≤ _; omega)]
        have hx2 : (mnS σ N M).1[σ.1.length + 1 + j]? = some (10, M) := by
          show (σ.1 ++ ((14, N) :: List.replicate N (10, M)))[σ.1.length + 1 + j]? = _
          rw [List.getElem?_append_right (by omega), show σ.1.length + 1 + j - σ.1.length = j + 1 by omega, List.getElem?_cons_succ, List.getElem?_replicate, if_pos hj]
        rw [wof_at hx2, mup_r hj, cel_i]
        have e : (fun k => gI (mnS σ N M) (σ.1.length + 1 + j) k) = fun _ => 0 := funext fun k => if_pos (by omega)
        rw [e, List.length_append, wof_len, List.getElem?_map]
        show _ = Option.map _ (List.range N)[σ.1.length + 1 + j - (σ.1.length + 1)]?
        rw [show σ.1.length + 1 + j - (σ.1.length + 1) = j by omega, List.getElem?_range hj]
        rfl
      · rw [List.getElem?_eq_none (by rw [wof_len, mnS_len]; omega), List.getElem?_eq_none (by rw [List.length_append, List.length_append, wof_len, List.length_map, List.length_range]; show σ.1.length + 1 + N ≤ i; omega)]
section TMN
variable {ρ : Type} {K : Cx} {QQ : ρ → Sg → Array Value → State → Outcome → State → Prop} {cc : ByteArray} {own : String} {nL : Nat} {rm : Room} {ret : Option FieldType} {pc : Nat} {lv lv' : List (Nat × Value)} {st : List Value} {c1 s1 : Nat} {σ : Sg} {o : Option (ρ × Sg)}
theorem T_mna {n k : Int32} {N M idx : Nat} (h : Ok K cc own nL rm ret) (hg : kiv K = Gr) (hcl : Cond.classLink own idx "[[I" ∈ gw_tbl) (harr : Cond.arrayClass .int ∈ gw_tbl) (hn : ¬ n < 0) (hk : ¬ k < 0) (hN : n.toNatClampNeg = N) (hM : k.toNatClampNeg = M) (hb1 : N * 4 ≤ 536870912) (hb2 : M * 4 ≤ 536870912) (hf : c1 + (1 + N) ≤ rm.cells ∧ s1 + (N + N * M) ≤ rm.slots) (hd : decode cc pc = .ok (.multianewarray idx 2, 4)) (kk : T K QQ (pc + 4) lv (.ref σ.1.length :: st) (c1 + 1 + N) (s1 + N + N * M) (mnS σ N M) o) : T K QQ pc lv (.int k :: .int n :: st) c1 s1 σ (ck (decide (σ.1.length + 1 + N ≤ SP)) o) := by
  intro r σ' ho ad H locs ls hI hok hh
  obtain ⟨hb, ho⟩ := ck_t ho
  have hl : σ.1.length + 1 + N ≤ SP := of_decide_eq_true hb
  have hRR : kR K = rm := h.2.2.2.2.2.2.2.1
  have hX : XF (ks K) := h.2.2.2.2.2.2.2.2.2.2.2.1.2.2.2.2
  have hP0 : va_P (kD K) vwCl (wof (kcy K) ad σ ++ va_pl [] (fun _ => .inr (0, []))) H := by rw [show va_pl [] (fun _ => (.inr (0, []) : va_E)) = [] from rfl, List.append_nil]; exact hI.1
  have hD0 : va_D (kA K) (wof (kcy K) ad σ ++ va_pl [] (fun _ => .inr (0, []))) := by rw [show va_pl [] (fun _ => (.inr (0, []) : va_E)) = [] from rfl, List.append_nil]; exact hI.2.1
  refine va_mna (D := kD K) (cl := vwCl) (tys := tysC (kcy K)) (X := wof (kcy K) ad σ) (L := []) (f := fun _ => .inr (0, [])) (A := kA K) (H0 := (ks K).heap) (ty := .int) (cy := kcy K 10) (N' := N) (K' := M) (z := (M, .inl (fun _ => 0))) h.1 h.2.1 h.2.2.2.1 (h.2.2.2.2.1 _ hcl) hX.2.1 (h.2.2.2.2.1 _ harr) ((h.2.2.2.2.2.2.2.2.1.2 0 _ rfl).2) h.2.2.2.2.2.2.2.2.1 hP0 hD0 hI.2.2.2.2.1 h.2.2.2.2.2.2.2.2.2.1 hn hk hN hM hb1 hb2 (by omega) rfl rfl (by rw [hRR]; exact hf.1) (by rw [hRR]; exact hf.2) (fun c => by rw [vp_cell_i, ← arrV_new]; rfl) hd (fun q rr cA H1 hinj hnot hK hP hD hS => ?_)
  have e := cy_of (i := 4) (x := kcy K 14) (fun _ z => by cases z) h hK rfl
  subst e
  have hrows : va_pl ([] ++ (List.range N).map rr) (vr_up (fun _ => (.inr (0, []) : va_E)) ((List.range N).map rr) (.inl (kcy K 10, M, .inl (fun _ => 0)))) = (List.range N).map (fun i => (rr i, (.inl (kcy K 10, M, .inl (fun _ => 0)) : va_E))) := by
    unfold va_pl
    rw [List.nil_append, List.map_map]
    apply List.map_congr_left
    intro a ha
    show (rr a, _) = (rr a, _)
    rw [vr_up_in (List.mem_map.mpr ⟨a, ha, rfl⟩)]
  rw [hrows, ← mnS_wof hI.2.2.1 hl] at hP hD
  have hPP : PP ad σ.1.length (mup ad σ.1.length q rr N) := fun i hi => mup_lt (by rcases hi with z | z <;> omega)
  have hle : σ.1.length ≤ (mnS σ N M).1.length := by rw [mnS_len]; omega
  have hokS : oks σ lv st := oks_t (oks_t hok)
  have hI2 : Inv K (mnS σ N M) (mup ad σ.1.length q rr N) H1 locs := by
    refine ⟨hP, hD, ⟨by rw [mnS_len]; exact hl, fun a b => ?_⟩, by rw [hg]; trivial, hS, fun i hi => ?_, Nat.le_trans hI.2.2.2.2.2.2 hle⟩
    · rw [mnS_len]
      show (if σ.1.length ≤ a then (if a = σ.1.length ∧ b < N then σ.1.length + 1 + b else NUL) else σ.2.2.2 a b) < _ ∨ (if σ.1.length ≤ a then (if a = σ.1.length ∧ b < N then σ.1.length + 1 + b else NUL) else σ.2.2.2 a b) = NUL
      by_cases z1 : σ.1.length ≤ a
      · rw [if_pos z1]
        by_cases z2 : a = σ.1.length ∧ b < N
        · rw [if_pos z2]; left; omega
        · rw [if_neg z2]; exact Or.inr rfl
      · rw [if_neg z1]
        rcases hI.2.2.1.2 a b with z | z
        · left; show σ.2.2.2 a b < _; have : σ.2.2.2 a b < σ.1.length := z; omega
        · exact Or.inr z
    · rw [hPP i (hi.elim (fun z => Or.inl (Nat.lt_of_lt_of_le z hI.2.2.2.2.2.2)) Or.inr)]
      exact hI.2.2.2.2.2.1 i hi
  have hw := kk r σ' ho (mup ad σ.1.length q rr N) H1 locs ls hI2 (oks_p (v := .ref σ.1.length) (Or.inl (by show σ.1.length < (mnS σ N M).1.length; rw [mnS_len]; omega)) (ok_back hle hokS)) (lv_back hPP hokS hh)
  rw [List.map_cons, st_back hPP hokS, show cv (mup ad σ.1.length q rr N) (.ref σ.1.length) = .ref q from congrArg Value.ref mup_n] at hw
  exact hw
end TMN
