/-! PART 24: rows for copies and for rows of rows. -/
section PE24
variable {p : Program} {l : Launch} {e : Env} {R : Room} {s : State} {m : MethodId} {args : Array Value} {below : List Frame} {meth : Method} {c : Code} {Q : State → Prop} {ex : Nat → Nat} {B : Nat} {dA : Nat → ClassId} {D : va_G} {cl : List vw_C} {nL n0 z0 : Nat} {cc : ByteArray} {pc : Nat}
variable {tys : List (ClassId × FieldType)} {own : String} {L : pm_L} {st : List Value} {h : pm_H}
/-- System.arraycopy between own arrays of ints or bytes -/
theorem pm_copy (hx : p.tables.exec = Jvm.exec) (hb : c.code = cc) (hml : c.maxLocals = nL) {index : Nat} (hown : s.vm.findClass own = some m.cls) (hlink : (Cond.methodLink own index arraycopyName).before args s = true) (hnat : (Cond.native arraycopyName).before args s = true) (hstat : (Cond.static arraycopyName).before args s = true) (hini : (Cond.initialized "java/lang/System").before args s = true) (hK : va_K D cl tys s) {a0 a1 t0 t1 k0 k1 m0 m1 : Nat} {f g : Nat → Int32} {ty : FieldType} (ha0 : h[a0]? = some (.inl (t0, .inl (m0, f)))) (ha1 : h[a1]? = some (.inl (t1, .inl (m1, g)))) (ht0 : tys[k0]? = some (dA t0, ty)) (ht1 : tys[k1]? = some (dA t1, ty)) (hprim : refKind ty = false) {sp dp n : Int32} (h1 : ¬ sp < 0) (h2 : ¬ dp < 0) (h3 : ¬ n < 0) (h4 : sp.toNatClampNeg + n.toNatClampNeg ≤ m0) (h5 : dp.toNatClampNeg + n.toNatClampNeg ≤ m1) (hfit : ∀ i, i < n.toNatClampNeg → fits ty (.int (f (sp.toNatClampNeg + i))) = true) (hframes : 1 ≤ R.frames) (hlocals : (st.map fun v => v.category).sum + (nativeFrameWords "java/lang/System" "arraycopy" 5 + 11) ≤ R.locals) (hdg : decode cc pc = .ok (.invokestatic index, 3)) (k : pm_W p l e R s m args below meth c Q ex B dA D cl nL n0 z0 (pc + 3) L st (h.set a1 (.inl (t1, .inl (m1, va_cpy f g sp.toNatClampNeg dp.toNatClampNeg n.toNatClampNeg))))) : pm_W p l e R s m args below meth c Q ex B dA D cl nL n0 z0 pc L (.int n :: .int dp :: .ref a1 :: .int sp :: .ref a0 :: st) h := fun ls H locs hl hP hS =>
  va_copyi (f := f) (g := g) hx hb (hml.trans hl.1.symm) hown hlink hnat hstat hini hK hP (pm_D ex B dA h) hS a0 a1 k0 k1 (pm_w_at ha0) (pm_w_at ha1) ht0 ht1 hprim h1 h2 h3 h4 h5 hfit hframes (by rw [pm_catsum]; exact hlocals) hdg (fun H1 locs1 hP1 _ hS1 => pm_W_set ha1 (by simp [pm_n]) k hl (by rw [← pm_w_set]; exact hP1) hS1)
theorem pm_copyL (hx : p.tables.exec = Jvm.exec) (hb : c.code = cc) (hml : c.maxLocals = nL) {index : Nat} (hown : s.vm.findClass own = some m.cls) (hlink : (Cond.methodLink own index arraycopyName).before args s = true) (hnat : (Cond.native arraycopyName).before args s = true) (hstat : (Cond.static arraycopyName).before args s = true) (hini : (Cond.initialized "java/lang/System").before args s = true) (hK : va_K D cl tys s) {a0 a1 t0 t1 k0 k1 m0 m1 : Nat} {f g : Nat → Int64} {ty : FieldType} (ha0 : h[a0]? = some (.inl (t0, .inr (.inl (m0, f))))) (ha1 : h[a1]? = some (.inl (t1, .inr (.inl (m1, g))))) (ht0 : tys[k0]? = some (dA t0, ty)) (ht1 : tys[k1]? = some (dA t1, ty)) (hprim : refKind ty = false) {sp dp n : Int32} (h1 : ¬ sp < 0) (h2 : ¬ dp < 0) (h3 : ¬ n < 0) (h4 : sp.toNatClampNeg + n.toNatClampNeg ≤ m0) (h5 : dp.toNatClampNeg + n.toNatClampNeg ≤ m1) (hfit : ∀ i, i < n.toNatClampNeg → fits ty (.long (f (sp.toNatClampNeg + i))) = true) (hframes : 1 ≤ R.frames) (hlocals : (st.map fun v => v.category).sum + (nativeFrameWords "java/lang/System" "arraycopy" 5 + 11) ≤ R.locals) (hdg : decode cc pc = .ok (.invokestatic index, 3)) (k : pm_W p l e R s m args below meth c Q ex B dA D cl nL n0 z0 (pc + 3) L st (h.set a1 (.inl (t1, .inr (.inl (m1, va_cpy f g sp.toNatClampNeg dp.toNatClampNeg n.toNatClampNeg)))))) : pm_W p l e R s m args below meth c Q ex B dA D cl nL n0 z0 pc L (.int n :: .int dp :: .ref a1 :: .int sp :: .ref a0 :: st) h := fun ls H locs hl hP hS =>
  va_copyl (f := f) (g := g) hx hb (hml.trans hl.1.symm) hown hlink hnat hstat hini hK hP (pm_D ex B dA h) hS a0 a1 k0 k1 (pm_w_at ha0) (pm_w_at ha1) ht0 ht1 hprim h1 h2 h3 h4 h5 hfit hframes (by rw [pm_catsum]; exact hlocals) hdg (fun H1 locs1 hP1 _ hS1 => pm_W_set ha1 (by simp [pm_n]) k hl (by rw [← pm_w_set]; exact hP1) hS1)
theorem pm_w_app (g : pm_H) : pm_w ex B dA (h ++ g) = pm_w ex B dA h ++ g.mapIdx (fun k x => (B + (h.length + k), pm_e ex B dA x)) := by
  unfold pm_w
  rw [List.mapIdx_append]
  congr 1
  apply List.ext_getElem?
  intro j
  simp [Nat.add_comm]
/-- the cells of new int[n][k] -/
def pm_rows (a N K : Nat) : pm_H := .inl (5, .inr (.inr (N, fun j => if j < N then some (a + 1 + j) else none))) :: List.replicate N (.inl (0, .inl (K, fun _ => 0)))
theorem pm_sum_rep (N K : Nat) : (List.replicate N K).sum = N * K := by
  induction N with
  | zero => rw [Nat.zero_mul]; rfl
  | succ n ih => rw [List.replicate_succ, List.sum_cons, ih, Nat.succ_mul, Nat.add_comm]
theorem pm_rows_sz (a N K : Nat) : pm_sz (pm_rows a N K) = N + N * K := by
  unfold pm_rows pm_sz
  rw [List.map_cons, List.sum_cons, List.map_replicate, pm_sum_rep]
  rfl
theorem pm_inner {a b : ClassId} {K : Nat} (h : a = b) : Jvm.Free.Multi.innerC b K (defaultValue .int) = vp_cell a (K, .inl (fun _ => 0)) := by
  subst h
  show _ = arrV a K (fun _ => .int 0)
  unfold Jvm.Free.Multi.innerC arrV
  congr 1
  apply Array.ext
  · simp
  · intro i h1 h2
    simp [defaultValue]
theorem pm_outer {a b : ClassId} {N A0 : Nat} (h : a = b) {f : Nat → Option Nat} (hf : ∀ j, j < N → f j = some (A0 + 1 + j)) : Jvm.Free.Multi.outerC b N A0 N = vp_cell a (N, .inr (.inr (.inr (.inr f)))) := by
  subst h
  obtain ⟨o1, o2, o3⟩ := Jvm.Free.Multi.outerC_facts a N A0 N
  have sh : ∀ i, ∃ sl, Jvm.Free.Multi.outerC a N A0 i = { cls := a, slots := sl, vm := .none } := by
    intro i
    induction i with
    | zero => exact ⟨_, rfl⟩
    | succ i ih =>
      obtain ⟨sl, hs⟩ := ih
      show ∃ sl, (Jvm.Free.Multi.outerC a N A0 i).setSlot i (.ref (A0 + 1 + i)) = _
      rw [hs]
      exact ⟨_, rfl⟩
  obtain ⟨sl, hsl⟩ := sh N
  have hsz : sl.size = N := by rw [hsl] at o3; exact o3
  show _ = arrV a N (fun j => va_rf (f j))
  rw [hsl]
  unfold arrV
  congr 1
  apply Array.ext
  · rw [hsz]; simp
  · intro i h1 h2
    have h3 : i < N := by rw [hsz] at h1; exact h1
    have h4 := Jvm.Free.Multi.outerC_slot a N A0 N i h3
    rw [hsl] at h4
    rw [show ({ cls := a, slots := sl, vm := .none } : Cell).slots = sl from rfl, Array.getElem?_eq_getElem h1, if_pos h3] at h4
    rw [Option.some.inj h4]
    simp [hf i h3, va_rf]
theorem pm_multi (hx : p.tables.exec = Jvm.exec) (hb : c.code = cc) (hown : s.vm.findClass own = some m.cls) (hK : va_K D cl tys s) {index : Nat} (hclink : (Cond.classLink own index "[[I").before args s = true) (hover : (Cond.arrayOver (.array .int)).before args s = true) (harr : (Cond.arrayClass .int).before args s = true) (ht5 : tys[5]? = some (dA 5, .array .int)) (ht0 : tys[0]? = some (dA 0, .int)) {n k : Int32} (hn : ¬ n < 0) (hk : ¬ k < 0) (hb1 : n.toNatClampNeg * 4 ≤ 536870912) (hb2 : k.toNatClampNeg * 4 ≤ 536870912) (hB : s.heap.size = B + n0) (hn0 : n0 ≤ h.length) (hz0 : z0 ≤ pm_sz h) (hcells : h.length - n0 + (1 + n.toNatClampNeg) ≤ R.cells) (hslots : pm_sz h - z0 + (n.toNatClampNeg + n.toNatClampNeg * k.toNatClampNeg) ≤ R.slots) (hdg : decode cc pc = .ok (.multianewarray index 2, 4)) (kk : pm_W p l e R s m args below meth c Q ex B dA D cl nL n0 z0 (pc + 4) L (.ref h.length :: st) (h ++ pm_rows h.length n.toNatClampNeg k.toNatClampNeg)) : pm_W p l e R s m args below meth c Q ex B dA D cl nL n0 z0 pc L (.int k :: .int n :: st) h := fun ls H locs hl hP hS T hT X => by
  have hz : T.heap.size = B + h.length := pm_size X hB hn0 (by rw [hT]; exact hP) (by rw [hT]; exact hS.1)
  obtain ⟨vm1, cA, comp, hW, hfA, hfC, -, -, X1, step⟩ := X.multianewarray2F hx (ty := .int) hown hclink hover harr (g := F0 m pc ls (.int k :: .int n :: st.map (pm_v ex B))) rfl (by rw [hb]; exact hdg) (n := n) (k := k) (rest := st.map (pm_v ex B)) rfl hn hk hb1 hb2 (by omega) rfl rfl hcells hslots
  have e5 : dA 5 = cA := Option.some.inj ((hK.2 5 _ ht5).2.symm.trans hfA)
  have e0 : dA 0 = comp := Option.some.inj ((hK.2 0 _ ht0).2.symm.trans hfC)
  obtain ⟨f1, f2, f3, f4⟩ := Jvm.Free.Multi.fill_facts (T.setVm vm1) cA comp n.toNatClampNeg k.toNatClampNeg (defaultValue .int) n.toNatClampNeg
  have hTs : (T.setVm vm1).heap.size = B + h.length := hz
  generalize hT2 : Jvm.Free.Multi.fill (T.setVm vm1) cA comp n.toNatClampNeg k.toNatClampNeg (defaultValue .int) n.toNatClampNeg = T2 at *
  have hold : ∀ q, q < B + h.length → T2.heap[q]? = H[q]? := fun q hq => by
    rw [← hT2, Jvm.Free.Multi.fill_old (T.setVm vm1) cA comp _ _ _ (by rw [hTs]; exact hq)]
    show T.heap[q]? = _
    rw [hT]
  have hin : ∀ j, j < n.toNatClampNeg → T2.heap[B + h.length + 1 + j]? = some (Jvm.Free.Multi.innerC comp k.toNatClampNeg (defaultValue .int)) := fun j hj => by
    rw [← hT2, ← hTs]
    exact Jvm.Free.Multi.fill_inner (T.setVm vm1) cA comp _ _ _ _ j hj
  rw [hTs] at f1 f2
  have hP2 : va_P D cl (pm_w ex B dA (h ++ pm_rows h.length n.toNatClampNeg k.toNatClampNeg)) T2.heap := by
    intro j q hq
    rw [pm_w_get] at hq
    rcases Nat.lt_or_ge j h.length with hj | hj
    · rw [List.getElem?_append_left hj] at hq
      have h1 := hP j q (by rw [pm_w_get]; exact hq)
      refine h1.kept ?_
      obtain ⟨x, hx2⟩ : ∃ x, h[j]? = some x := ⟨_, List.getElem?_eq_getElem hj⟩
      rw [hx2] at hq
      cases hq
      exact hold _ (by show B + j < _; omega)
    · rw [List.getElem?_append_right hj] at hq
      unfold pm_rows at hq
      rcases Nat.eq_zero_or_pos (j - h.length) with h0 | h0
      · rw [h0] at hq
        cases hq
        show T2.heap[B + j]? = some (vp_cell _ _)
        rw [show B + j = B + h.length by omega, f2]
        congr 1
        refine pm_outer e5 (fun i hi => ?_)
        show ((if i < _ then some (h.length + 1 + i) else none).map (fun k => B + k)) = _
        rw [if_pos hi]
        show some (B + (h.length + 1 + i)) = _
        congr 1
        omega
      · obtain ⟨i, hi⟩ : ∃ i, j - h.length = i + 1 := ⟨j - h.length - 1, by omega⟩
        rw [hi, List.getElem?_cons_succ, List.getElem?_replicate] at hq
        by_cases h2 : i < n.toNatClampNeg
        · rw [if_pos h2] at hq
          cases hq
          show T2.heap[B + j]? = some (vp_cell _ _)
          rw [show B + j = B + h.length + 1 + i by omega, hin i h2]
          congr 1
          exact pm_inner e0
        · rw [if_neg h2] at hq
          cases hq
  have hS2 : va_S (fun q => B ≤ q) s.heap T2.heap locs := by
    refine ⟨?_, fun q a1 a2 => ?_, hS.2.2⟩
    · rw [f1]; omega
    · rw [hold q (by omega)]
      exact hS.2.1 q a1 a2
  have k2 := kk ls T2.heap locs hl hP2 hS2
  rw [List.length_append, show (pm_rows h.length n.toNatClampNeg k.toNatClampNeg).length = 1 + n.toNatClampNeg by unfold pm_rows; rw [List.length_cons, List.length_replicate, Nat.add_comm], show pm_sz (h ++ pm_rows h.length n.toNatClampNeg k.toNatClampNeg) = pm_sz h + (n.toNatClampNeg + n.toNatClampNeg * k.toNatClampNeg) by rw [← pm_rows_sz h.length]; simp [pm_sz]] at k2
  rw [show h.length + (1 + n.toNatClampNeg) - n0 = h.length - n0 + 1 + n.toNatClampNeg by omega, show pm_sz h + (n.toNatClampNeg + n.toNatClampNeg * k.toNatClampNeg) - z0 = pm_sz h - z0 + n.toNatClampNeg + n.toNatClampNeg * k.toNatClampNeg by omega] at k2
  obtain ⟨t2, a1, b1⟩ := k2 T2 rfl X1
  refine ⟨t2, step t2 ?_, b1⟩
  rw [hz]
  exact a1
end PE24
