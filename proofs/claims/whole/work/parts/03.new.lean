/-! PART 03: new cells, answers, switches, constants of the pure machine. -/
theorem pm_RA_inj {U : State} {c1 c2 : ClassId} {ty : FieldType} (h1 : va_RA U c1 ty) (h2 : va_RA U c2 ty) : c1 = c2 := by
  cases ty with
  | object C =>
    obtain ⟨_, _, _, _, _, e1⟩ := h1
    obtain ⟨_, _, _, _, _, e2⟩ := h2
    exact Option.some.inj (e1.symm.trans e2)
  | _ => exact Option.some.inj (h1.symm.trans h2)
theorem pm_rep0 (n j : Nat) : (List.replicate n (0 : Int32)).getD j 0 = 0 := by
  simp only [List.getD, List.getElem?_replicate]
  split <;> rfl
theorem pm_rep0L (n j : Nat) : (List.replicate n (0 : Int64)).getD j 0 = 0 := by
  simp only [List.getD, List.getElem?_replicate]
  split <;> rfl
theorem pm_repN (n j : Nat) : (List.replicate n (none : Option Nat)).getD j none = none := by
  simp only [List.getD, List.getElem?_replicate]
  split <;> rfl
theorem pm_cell0 (cA : ClassId) (B n : Nat) : vp_cell cA (pm_a B (.inl (List.replicate n 0))) = arrV cA n (fun _ => .int 0) := by
  show arrV cA (List.replicate n (0 : Int32)).length (fun j => .int ((List.replicate n (0 : Int32)).getD j 0)) = _
  rw [List.length_replicate]
  congr 1
  funext j
  rw [pm_rep0]
theorem pm_cell0L (cA : ClassId) (B n : Nat) : vp_cell cA (pm_a B (.inr (.inl (List.replicate n 0)))) = arrV cA n (fun _ => .long 0) := by
  show arrV cA (List.replicate n (0 : Int64)).length (fun j => .long ((List.replicate n (0 : Int64)).getD j 0)) = _
  rw [List.length_replicate]
  congr 1
  funext j
  rw [pm_rep0L]
theorem pm_cellN (cA : ClassId) (B n : Nat) : vp_cell cA (pm_a B (.inr (.inr (List.replicate n none)))) = arrV cA n (fun _ => .null) := by
  show arrV cA (List.replicate n (none : Option Nat)).length (fun j => va_rf (((List.replicate n (none : Option Nat)).getD j none).map (fun k => B + k))) = _
  rw [List.length_replicate]
  congr 1
  funext j
  rw [pm_repN]
  rfl
section PM3
variable {p : Program} {l : Launch} {e : Env} {R : Room} {s : State} {m : MethodId} {args : Array Value} {below : List Frame} {meth : Method} {c : Code} {Q : State → Prop}
variable {ex : Nat → Nat} {B : Nat} {dA : Nat → ClassId} {D : va_G} {cl : List vw_C} {nL n0 z0 : Nat} {cc : ByteArray} {pc : Nat} {L : pm_L} {st : List Value} {h : pm_H}
variable {tys : List (ClassId × FieldType)} {Ts : List Cond} {own : String}
/-- behind a new cell: its address is the next one -/
theorem pm_W_push {x : pm_E} {q : Nat} {H1 : Heap} {locs : List Loc} {ls : Array Slot} (hB : s.heap.size = B + n0) (hn0 : n0 ≤ h.length) (hz0 : z0 ≤ pm_sz h) (hl : lv_has ls nL (pm_l ex B L)) (hP1 : va_P D cl (pm_w ex B dA h ++ [(q, pm_e ex B dA x)]) H1) (hD1 : va_D (fun q => B ≤ q) (pm_w ex B dA h ++ [(q, pm_e ex B dA x)])) (hS1 : va_S (fun q => B ≤ q) s.heap H1 locs) (k : pm_W p l e R s m args below meth c Q ex B dA D cl nL n0 z0 pc L (.ref h.length :: st) (h ++ [x])) :
    W p l e R s m args below meth c H1 locs (h.length - n0 + 1) (pm_sz h - z0 + pm_n x) Q (F0 m pc ls (.ref q :: st.map (pm_v ex B))) := by
  intro T hT X
  have e0 : (pm_w ex B dA h ++ [(q, pm_e ex B dA x)])[h.length]? = some (q, pm_e ex B dA x) := by
    rw [List.getElem?_append_right (by rw [pm_w_length]; exact Nat.le_refl _), pm_w_length, Nat.sub_self]; rfl
  have h1 : q < H1.size := (hP1 h.length _ e0).lt
  have h2 : B ≤ q := hD1.2 h.length _ e0
  have h3 := X.heapSize
  rw [hT] at h3
  have hq : q = B + h.length := by
    rcases Nat.lt_or_ge q (B + h.length) with h4 | h4
    · have h5 : q - B < h.length := by omega
      obtain ⟨y, hy⟩ : ∃ y, h[q - B]? = some y := ⟨_, List.getElem?_eq_getElem h5⟩
      have e1 : (pm_w ex B dA h ++ [(q, pm_e ex B dA x)])[q - B]? = some (B + (q - B), pm_e ex B dA y) := by
        rw [List.getElem?_append_left (by rw [pm_w_length]; exact h5)]
        exact pm_w_at hy
      have h6 := hD1.1 (q - B) h.length _ _ e1 e0 (by show B + (q - B) = q; omega)
      omega
    · omega
  subst hq
  rw [pm_w_push] at hP1
  have k2 := k ls H1 locs hl hP1 hS1
  rw [List.length_append, pm_sz_push] at k2
  have e2 : h.length + [x].length - n0 = h.length - n0 + 1 := by
    show h.length + 1 - n0 = h.length - n0 + 1
    omega
  have e3 : pm_sz h + pm_n x - z0 = pm_sz h - z0 + pm_n x := by omega
  rw [e2, e3] at k2
  exact k2 T hT X
theorem pm_new (hx : p.tables.exec = Jvm.exec) (hb : c.code = cc) (hts : ∀ w ∈ Ts, w.before args s = true) (hown : s.vm.findClass own = some m.cls) (hK : va_K D cl tys s) {C : String} {T : u_T} {N ci index : Nat} {vs : List Value} (hin : ∀ w ∈ u_ws C T N, w ∈ Ts) (ty : Nat → FieldType) (hty : ∀ k, k < N → parseFieldDescriptor (T k).2.2.1 = some (ty k)) (hcl : (Cond.classLink own index C).before args s = true) (hinst : (Cond.instantiable C N).before args s = true) (hini : (Cond.initialized C).before args s = true) (hc : cl[ci]? = some (C, T, N)) (hvs : vs.length = N) (hfs : ∀ j, j < N → defaultValue (ty j) = vp_V (vs.map (pm_v ex B)) j) (hB : s.heap.size = B + n0) (hn0 : n0 ≤ h.length) (hz0 : z0 ≤ pm_sz h) (hcells : h.length - n0 + 1 ≤ R.cells) (hslots : pm_sz h - z0 + N ≤ R.slots) (hdg : decode cc pc = .ok (.new index, 3)) (k : pm_W p l e R s m args below meth c Q ex B dA D cl nL n0 z0 (pc + 3) L (.ref h.length :: st) (h ++ [.inr (ci, vs)])) : pm_W p l e R s m args below meth c Q ex B dA D cl nL n0 z0 pc L st h := fun ls H locs hl hP hS =>
  va_new (fs := vs.map (pm_v ex B)) hx hb hts hin ty hty hown hcl hinst hini hK hP (pm_D ex B dA h) hS (fun q hq => by show B ≤ q; omega) hc hfs hcells hslots hdg (fun q H1 hP1 hD1 hS1 => by
    have k2 := pm_W_push (x := .inr (ci, vs)) hB hn0 hz0 hl hP1 hD1 hS1 k
    rw [show pm_n (.inr (ci, vs)) = N from hvs] at k2
    exact k2)
theorem pm_newa (hx : p.tables.exec = Jvm.exec) (hb : c.code = cc) (hK : va_K D cl tys s) {atype : ArrayType} {ty : FieldType} {t : Nat} (t0 : Nat) {n : Int32} {N : Nat} (harr : (Cond.arrayClass (newarray.typeOf atype)).before args s = true) (hty : newarray.typeOf atype = ty) (hdef : defaultValue ty = .int 0) (ht : tys[t0]? = some (dA t, ty)) (hn : ¬ n < 0) (hN : n.toNatClampNeg = N) (hbytes : N * componentBytes ty ≤ 536870912) (hB : s.heap.size = B + n0) (hn0 : n0 ≤ h.length) (hz0 : z0 ≤ pm_sz h) (hcells : h.length - n0 + 1 ≤ R.cells) (hslots : pm_sz h - z0 + N ≤ R.slots) (hdg : decode cc pc = .ok (.newarray atype, 2)) (k : pm_W p l e R s m args below meth c Q ex B dA D cl nL n0 z0 (pc + 2) L (.ref h.length :: st) (h ++ [.inl (t, .inl (List.replicate N 0))])) : pm_W p l e R s m args below meth c Q ex B dA D cl nL n0 z0 pc L (.int n :: st) h := fun ls H locs hl hP hS =>
  va_newa (a0 := pm_a B (.inl (List.replicate N 0))) hx hb harr hty hK hP (pm_D ex B dA h) hS (fun q hq => by show B ≤ q; omega) (fun cA => by rw [hdef]; exact pm_cell0 cA B N) hn hN hbytes hcells hslots hdg (fun q cA H1 hK1 hP1 hD1 hS1 => by
    have hcA : cA = dA t := pm_RA_inj (hK1.2 tys.length (cA, ty) (by rw [List.getElem?_append_right (Nat.le_refl _), Nat.sub_self]; rfl)).2 (hK.2 t0 _ ht).2
    subst hcA
    have k2 := pm_W_push (x := .inl (t, .inl (List.replicate N 0))) hB hn0 hz0 hl hP1 hD1 hS1 k
    rw [show pm_n (.inl (t, .inl (List.replicate N 0))) = N from List.length_replicate] at k2
    exact k2)
theorem pm_newaL (hx : p.tables.exec = Jvm.exec) (hb : c.code = cc) (hK : va_K D cl tys s) {atype : ArrayType} {t : Nat} (t0 : Nat) {n : Int32} {N : Nat} (harr : (Cond.arrayClass (newarray.typeOf atype)).before args s = true) (hty : newarray.typeOf atype = .long) (ht : tys[t0]? = some (dA t, .long)) (hn : ¬ n < 0) (hN : n.toNatClampNeg = N) (hbytes : N * componentBytes .long ≤ 536870912) (hB : s.heap.size = B + n0) (hn0 : n0 ≤ h.length) (hz0 : z0 ≤ pm_sz h) (hcells : h.length - n0 + 1 ≤ R.cells) (hslots : pm_sz h - z0 + N ≤ R.slots) (hdg : decode cc pc = .ok (.newarray atype, 2)) (k : pm_W p l e R s m args below meth c Q ex B dA D cl nL n0 z0 (pc + 2) L (.ref h.length :: st) (h ++ [.inl (t, .inr (.inl (List.replicate N 0)))])) : pm_W p l e R s m args below meth c Q ex B dA D cl nL n0 z0 pc L (.int n :: st) h := fun ls H locs hl hP hS =>
  va_newa (a0 := pm_a B (.inr (.inl (List.replicate N 0)))) hx hb harr hty hK hP (pm_D ex B dA h) hS (fun q hq => by show B ≤ q; omega) (fun cA => pm_cell0L cA B N) hn hN hbytes hcells hslots hdg (fun q cA H1 hK1 hP1 hD1 hS1 => by
    have hcA : cA = dA t := pm_RA_inj (hK1.2 tys.length (cA, .long) (by rw [List.getElem?_append_right (Nat.le_refl _), Nat.sub_self]; rfl)).2 (hK.2 t0 _ ht).2
    subst hcA
    have k2 := pm_W_push (x := .inl (t, .inr (.inl (List.replicate N 0)))) hB hn0 hz0 hl hP1 hD1 hS1 k
    rw [show pm_n (.inl (t, .inr (.inl (List.replicate N 0)))) = N from List.length_replicate] at k2
    exact k2)
theorem pm_newq (hx : p.tables.exec = Jvm.exec) (hb : c.code = cc) (hown : s.vm.findClass own = some m.cls) (hK : va_K D cl tys s) {C : String} {index t : Nat} (t0 : Nat) {n : Int32} {N : Nat} (hclink : (Cond.classLink own index C).before args s = true) (hover : va_AO C s) (ht : tys[t0]? = some (dA t, .object C)) (hn : ¬ n < 0) (hN : n.toNatClampNeg = N) (hbytes : N * 4 ≤ 536870912) (hB : s.heap.size = B + n0) (hn0 : n0 ≤ h.length) (hz0 : z0 ≤ pm_sz h) (hcells : h.length - n0 + 1 ≤ R.cells) (hslots : pm_sz h - z0 + N ≤ R.slots) (hdg : decode cc pc = .ok (.anewarray index, 3)) (k : pm_W p l e R s m args below meth c Q ex B dA D cl nL n0 z0 (pc + 3) L (.ref h.length :: st) (h ++ [.inl (t, .inr (.inr (List.replicate N none)))])) : pm_W p l e R s m args below meth c Q ex B dA D cl nL n0 z0 pc L (.int n :: st) h := fun ls H locs hl hP hS =>
  va_newq hx hb hown hclink hover hK hP (pm_D ex B dA h) hS (fun q hq => by show B ≤ q; omega) hn hN hbytes hcells hslots hdg (fun q cA H1 hK1 hP1 hD1 hS1 => by
    have hcA : cA = dA t := pm_RA_inj (hK1.2 tys.length (cA, .object C) (by rw [List.getElem?_append_right (Nat.le_refl _), Nat.sub_self]; rfl)).2 (hK.2 t0 _ ht).2
    subst hcA
    have e1 : (Sum.inl (dA t, N, .inr (.inr (.inr (.inr (fun _ => none))))) : va_E) = pm_e ex B dA (.inl (t, .inr (.inr (List.replicate N none)))) := by
      show _ = (Sum.inl (dA t, (List.replicate N (none : Option Nat)).length, .inr (.inr (.inr (.inr (fun j => ((List.replicate N (none : Option Nat)).getD j none).map (fun k => B + k))))))  : va_E)
      rw [List.length_replicate]
      congr 7
      funext j
      rw [pm_repN]
      rfl
    rw [e1] at hP1 hD1
    have k2 := pm_W_push (x := .inl (t, .inr (.inr (List.replicate N none)))) hB hn0 hz0 hl hP1 hD1 hS1 k
    rw [show pm_n (.inl (t, .inr (.inr (List.replicate N none)))) = N from List.length_replicate] at k2
    exact k2)
theorem pm_iret (hx : p.tables.exec = Jvm.exec) (hb : c.code = cc) {v : Int32} {mc ms : Nat} {Qc : Array Value → State → Outcome → State → Prop} {free : Addr → Prop} (hlocks : meth.locks = false) (hmc : h.length - n0 ≤ mc) (hms : pm_sz h - z0 ≤ ms) (hfree : ∀ q, B ≤ q → free q) (hr : meth.sig.returnType = some .int) (hq : ∀ t : State, va_P D cl (pm_w ex B dA h) t.heap → s.WarmedH t.vm → va_F (fun q => B ≤ q) s t → Qc args s (.returned (some (.int v))) t) (hdg : decode cc pc = .ok (.ireturn, 1)) : pm_W p l e R s m args below meth c (MQ below Qc args s mc ms free) ex B dA D cl nL n0 z0 pc L [.int v] h := fun ls H locs hl hP hS =>
  W.widen hmc hms (W.iret hx hb hr (fun t ht hW => hq t (by rw [ht]; exact hP) hW (hS.F ht)) (fun q hqq => hfree _ (hS.2.2 q hqq)) hdg hlocks)
theorem pm_zret (hx : p.tables.exec = Jvm.exec) (hb : c.code = cc) {v : Int32} {ty : FieldType} {mc ms : Nat} {Qc : Array Value → State → Outcome → State → Prop} {free : Addr → Prop} (hlocks : meth.locks = false) (hmc : h.length - n0 ≤ mc) (hms : pm_sz h - z0 ≤ ms) (hfree : ∀ q, B ≤ q → free q) (hr : meth.sig.returnType = some ty) (hnr : narrow ty (.int v) = .int v) (hq : ∀ t : State, va_P D cl (pm_w ex B dA h) t.heap → s.WarmedH t.vm → va_F (fun q => B ≤ q) s t → Qc args s (.returned (some (.int v))) t) (hdg : decode cc pc = .ok (.ireturn, 1)) : pm_W p l e R s m args below meth c (MQ below Qc args s mc ms free) ex B dA D cl nL n0 z0 pc L [.int v] h := fun ls H locs hl hP hS =>
  W.widen hmc hms (W.zret hx hb hr hnr (fun t ht hW => hq t (by rw [ht]; exact hP) hW (hS.F ht)) (fun q hqq => hfree _ (hS.2.2 q hqq)) hdg hlocks)
theorem pm_lret (hx : p.tables.exec = Jvm.exec) (hb : c.code = cc) {v : Int64} {mc ms : Nat} {Qc : Array Value → State → Outcome → State → Prop} {free : Addr → Prop} (hlocks : meth.locks = false) (hmc : h.length - n0 ≤ mc) (hms : pm_sz h - z0 ≤ ms) (hfree : ∀ q, B ≤ q → free q) (hr : meth.sig.returnType = some .long) (hq : ∀ t : State, va_P D cl (pm_w ex B dA h) t.heap → s.WarmedH t.vm → va_F (fun q => B ≤ q) s t → Qc args s (.returned (some (.long v))) t) (hdg : decode cc pc = .ok (.lreturn, 1)) : pm_W p l e R s m args below meth c (MQ below Qc args s mc ms free) ex B dA D cl nL n0 z0 pc L [.long v] h := fun ls H locs hl hP hS =>
  W.widen hmc hms (W.lret hx hb hr (fun t ht hW => hq t (by rw [ht]; exact hP) hW (hS.F ht)) (fun q hqq => hfree _ (hS.2.2 q hqq)) hdg hlocks)
theorem pm_vret (hx : p.tables.exec = Jvm.exec) (hb : c.code = cc) {mc ms : Nat} {Qc : Array Value → State → Outcome → State → Prop} {free : Addr → Prop} (hlocks : meth.locks = false) (hmc : h.length - n0 ≤ mc) (hms : pm_sz h - z0 ≤ ms) (hfree : ∀ q, B ≤ q → free q) (hr : meth.sig.returnType = none) (hq : ∀ t : State, va_P D cl (pm_w ex B dA h) t.heap → s.WarmedH t.vm → va_F (fun q => B ≤ q) s t → Qc args s (.returned none) t) (hdg : decode cc pc = .ok (.return_, 1)) : pm_W p l e R s m args below meth c (MQ below Qc args s mc ms free) ex B dA D cl nL n0 z0 pc L [] h := fun ls H locs hl hP hS =>
  W.widen hmc hms (W.vret hx hb hr (fun t ht hW => hq t (by rw [ht]; exact hP) hW (hS.F ht)) (fun q hqq => hfree _ (hS.2.2 q hqq)) hdg hlocks)
theorem pm_aret (hx : p.tables.exec = Jvm.exec) (hb : c.code = cc) {v : Value} {rt : FieldType} {mc ms : Nat} {Qc : Array Value → State → Outcome → State → Prop} {free : Addr → Prop} (hlocks : meth.locks = false) (hmc : h.length - n0 ≤ mc) (hms : pm_sz h - z0 ≤ ms) (hfree : ∀ q, B ≤ q → free q) (hr : meth.sig.returnType = some rt) (hrt : (∃ n, rt = .object n) ∨ ∃ t, rt = .array t) (hv : pm_isR v = true) (hq : ∀ t : State, va_P D cl (pm_w ex B dA h) t.heap → s.WarmedH t.vm → va_F (fun q => B ≤ q) s t → Qc args s (.returned (some (pm_v ex B v))) t) (hdg : decode cc pc = .ok (.areturn, 1)) : pm_W p l e R s m args below meth c (MQ below Qc args s mc ms free) ex B dA D cl nL n0 z0 pc L [v] h := fun ls H locs hl hP hS =>
  W.widen hmc hms (W.aret hx hb hr hrt (by cases v <;> first | exact Or.inl rfl | exact Or.inr ⟨_, rfl⟩ | cases hv) (fun t ht hW => hq t (by rw [ht]; exact hP) hW (hS.F ht)) (fun q hqq => hfree _ (hS.2.2 q hqq)) hdg hlocks)
theorem pm_lcmp (hx : p.tables.exec = Jvm.exec) (hb : c.code = cc) {x y : Int64} (hdg : decode cc pc = .ok (.lcmp, 1)) (k : pm_W p l e R s m args below meth c Q ex B dA D cl nL n0 z0 (pc + 1) L (.int (lg_cmp x y) :: st) h) : pm_W p l e R s m args below meth c Q ex B dA D cl nL n0 z0 pc L (.long y :: .long x :: st) h := fun ls H locs hl hP hS => W.lcmp hx hb hdg (k ls H locs hl hP hS)
theorem pm_ldc (hx : p.tables.exec = Jvm.exec) (hb : c.code = cc) (hown : s.vm.findClass own = some m.cls) {index : Nat} {v : Int32} (hconst : (Jvm.Cond.constant own index v).before args s = true) (hdg : decode cc pc = .ok (.ldc index, 2)) (k : pm_W p l e R s m args below meth c Q ex B dA D cl nL n0 z0 (pc + 2) L (.int v :: st) h) : pm_W p l e R s m args below meth c Q ex B dA D cl nL n0 z0 pc L st h := fun ls H locs hl hP hS => lv_ldc hx hb hown hconst hdg (k ls H locs hl hP hS)
theorem pm_ldcw (hx : p.tables.exec = Jvm.exec) (hb : c.code = cc) (hown : s.vm.findClass own = some m.cls) {index : Nat} {v : Int32} (hconst : (Jvm.Cond.constant own index v).before args s = true) (hdg : decode cc pc = .ok (.ldc_w index, 3)) (k : pm_W p l e R s m args below meth c Q ex B dA D cl nL n0 z0 (pc + 3) L (.int v :: st) h) : pm_W p l e R s m args below meth c Q ex B dA D cl nL n0 z0 pc L st h := fun ls H locs hl hP hS => lv_ldcw hx hb hown hconst hdg (k ls H locs hl hP hS)
theorem pm_ldc2 (hx : p.tables.exec = Jvm.exec) (hb : c.code = cc) (hown : s.vm.findClass own = some m.cls) {index : Nat} {v : Int64} (hconst : (Jvm.Cond.constantLong own index v).before args s = true) (hdg : decode cc pc = .ok (.ldc2_w index, 3)) (k : pm_W p l e R s m args below meth c Q ex B dA D cl nL n0 z0 (pc + 3) L (.long v :: st) h) : pm_W p l e R s m args below meth c Q ex B dA D cl nL n0 z0 pc L st h := fun ls H locs hl hP hS => lv_ldc2 hx hb hown hconst hdg (k ls H locs hl hP hS)
theorem pm_ldcS (hx : p.tables.exec = Jvm.exec) (hb : c.code = cc) (hown : s.vm.findClass own = some m.cls) {index j : Nat} {tx : String} (hZ : vk_R own index tx (ex j) s) (hdg : decode cc pc = .ok (.ldc index, 2)) (k : pm_W p l e R s m args below meth c Q ex B dA D cl nL n0 z0 (pc + 2) L (.retAddr j :: st) h) : pm_W p l e R s m args below meth c Q ex B dA D cl nL n0 z0 pc L st h := fun ls H locs hl hP hS => va_ldcS hx hb hown hZ hdg (k ls H locs hl hP hS)
theorem pm_gets (hx : p.tables.exec = Jvm.exec) (hb : c.code = cc) (hown : s.vm.findClass own = some m.cls) {C n d ref : String} {v : Value} {index : Nat} (hZ : va_Z C n d (pm_v ex B v) (fun q => B ≤ q) s s.heap) (hlink : (Cond.fieldLink own index ref n d).before args s = true) (hsame : ∀ x, s.fieldFound? C n d = some x → s.fieldFound? ref n d = some x) (hdg : decode cc pc = .ok (.getstatic index, 3)) (k : pm_W p l e R s m args below meth c Q ex B dA D cl nL n0 z0 (pc + 3) L (v :: st) h) : pm_W p l e R s m args below meth c Q ex B dA D cl nL n0 z0 pc L st h := fun ls H locs hl hP hS => va_gets hx hb hZ hS hown hlink hsame hdg (k ls H locs hl hP hS)
theorem pm_ialdX (hx : p.tables.exec = Jvm.exec) (hb : c.code = cc) {j N : Nat} {f : Nat → Value} {i : Int32} {v : Value} (hT : va_T .int (ex j) N f (fun q => B ≤ q) s s.heap) (hi : vp_in i N) (hv : f i.toNatClampNeg = pm_v ex B v) (hdg : decode cc pc = .ok (.iaload, 1)) (k : pm_W p l e R s m args below meth c Q ex B dA D cl nL n0 z0 (pc + 1) L (v :: st) h) : pm_W p l e R s m args below meth c Q ex B dA D cl nL n0 z0 pc L (.int i :: .retAddr j :: st) h := fun ls H locs hl hP hS => va_ti hx hb hT hS hi hv hdg (k ls H locs hl hP hS)
theorem pm_baldX (hx : p.tables.exec = Jvm.exec) (hb : c.code = cc) {j N : Nat} {f : Nat → Value} {i : Int32} {v : Value} (hT : va_T .byte (ex j) N f (fun q => B ≤ q) s s.heap) (hi : vp_in i N) (hv : f i.toNatClampNeg = pm_v ex B v) (hdg : decode cc pc = .ok (.baload, 1)) (k : pm_W p l e R s m args below meth c Q ex B dA D cl nL n0 z0 (pc + 1) L (v :: st) h) : pm_W p l e R s m args below meth c Q ex B dA D cl nL n0 z0 pc L (.int i :: .retAddr j :: st) h := fun ls H locs hl hP hS => va_tb hx hb hT hS hi hv hdg (k ls H locs hl hP hS)
theorem pm_lookup (hx : p.tables.exec = Jvm.exec) (hb : c.code = cc) {dflt : Int} {ps : Array (Int × Int)} {len : Nat} {x : Int32} {off : Int} {tgt : Nat} (hdg : decode cc pc = .ok (.lookupswitch dflt ps, len)) (hp : (ps.toList.zip (ps.toList.drop 1)).all (fun (a, next) => a.1 < next.1) = true) (ho : Op.lookupswitch.offset ps.toList dflt x.toInt = off) (ht : (pc : Int) + off = (tgt : Int)) (k : pm_W p l e R s m args below meth c Q ex B dA D cl nL n0 z0 tgt L st h) : pm_W p l e R s m args below meth c Q ex B dA D cl nL n0 z0 pc L (.int x :: st) h := fun ls H locs hl hP hS => lv_lookup hx hb hdg hp ho ht (k ls H locs hl hP hS)
theorem pm_tableOut (hx : p.tables.exec = Jvm.exec) (hb : c.code = cc) {dflt lo hi : Int} {offs : Array Int} {len : Nat} {x : Int32} {tgt : Nat} (hdg : decode cc pc = .ok (.tableswitch dflt lo hi offs, len)) (hh : x.toInt < lo ∨ hi < x.toInt) (ht : (pc : Int) + dflt = (tgt : Int)) (k : pm_W p l e R s m args below meth c Q ex B dA D cl nL n0 z0 tgt L st h) : pm_W p l e R s m args below meth c Q ex B dA D cl nL n0 z0 pc L (.int x :: st) h := fun ls H locs hl hP hS => lv_tableOut hx hb hdg hh ht (k ls H locs hl hP hS)
theorem pm_tableIn (hx : p.tables.exec = Jvm.exec) (hb : c.code = cc) {dflt lo hi : Int} {offs : Array Int} {len : Nat} {x : Int32} {off : Int} {tgt : Nat} (hdg : decode cc pc = .ok (.tableswitch dflt lo hi offs, len)) (h1 : ¬ x.toInt < lo) (h2 : ¬ hi < x.toInt) (ho : offs[(x.toInt - lo).toNat]? = some off) (ht : (pc : Int) + off = (tgt : Int)) (k : pm_W p l e R s m args below meth c Q ex B dA D cl nL n0 z0 tgt L st h) : pm_W p l e R s m args below meth c Q ex B dA D cl nL n0 z0 pc L (.int x :: st) h := fun ls H locs hl hP hS => lv_tableIn hx hb hdg h1 h2 ho ht (k ls H locs hl hP hS)
end PM3
