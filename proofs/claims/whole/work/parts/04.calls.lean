/-! PART 04: contracts and calls of the pure machine. E: what is said of outer things (statics, Strings, the script), which stays. -/
def pm_args : Nat → List Value → pm_L
  | _, [] => []
  | i, v :: vs => (i, v) :: pm_args (if v.category = 2 then i + 2 else i + 1) vs
theorem pm_args_l (ex : Nat → Nat) (B : Nat) (vs : List Value) : ∀ i, lv_args i (vs.map (pm_v ex B)) = pm_l ex B (pm_args i vs) := by
  induction vs with
  | nil => intro i; rfl
  | cons v t ih =>
    intro i
    show (i, pm_v ex B v) :: lv_args (if (pm_v ex B v).category = 2 then i + 2 else i + 1) (t.map (pm_v ex B)) = (i, pm_v ex B v) :: pm_l ex B (pm_args (if v.category = 2 then i + 2 else i + 1) t)
    rw [pm_v_cat, ih]
theorem pm_words (ex : Nat → Nat) (B : Nat) (vs : List Value) : (lg_sl (vs.map (pm_v ex B))).length = (lg_sl vs).length := by
  induction vs with
  | nil => rfl
  | cons v t ih =>
    simp only [lg_sl, List.map_cons, List.flatMap_cons, List.length_append] at ih ⊢
    rw [ih, pm_v_cat]
    by_cases hv : v.category = 2
    · rw [if_pos hv, if_pos hv]; rfl
    · rw [if_neg hv, if_neg hv]; rfl
def pm_Ok (B : Nat) (E : State → Prop) : Prop := ∀ U U2 : State, E U → U.WarmedH U2.vm → (∀ q, q < B → U2.heap[q]? = U.heap[q]?) → E U2
def pm_Pc (ex : Nat → Nat) (B : Nat) (dA : Nat → ClassId) (D : va_G) (cl : List vw_C) (tys : List (ClassId × FieldType)) (E : State → Prop) (av : List Value) (h : pm_H) : Array Value → State → Prop := va_Pc (av.map (pm_v ex B)) (fun U => U.heap.size = B + h.length ∧ va_P D cl (pm_w ex B dA h) U.heap ∧ va_K D cl tys U ∧ E U)
def pm_Qc (ex : Nat → Nat) (B : Nat) (dA : Nat → ClassId) (D : va_G) (cl : List vw_C) (r : Option Value) (h2 : pm_H) : Array Value → State → Outcome → State → Prop := fun _ st oc t => oc = .returned (r.map (pm_v ex B)) ∧ va_P D cl (pm_w ex B dA h2) t.heap ∧ va_F (fun q => B ≤ q) st t
def pm_room (d : Nat) (h h2 : pm_H) : Room := { frames := d, cells := h2.length - h.length, slots := pm_sz h2 - pm_sz h, locals := d * 60 }
/-- the method's contract at one pure start: with arguments av over the heap h it answers r over the heap h2, at most d frames deep -/
def pm_Met (l : Launch) (y : MethodName) (ws : List Cond) (d : Nat) (ex : Nat → Nat) (B : Nat) (dA : Nat → ClassId) (D : va_G) (cl : List vw_C) (tys : List (ClassId × FieldType)) (E : State → Prop) (av : List Value) (h : pm_H) (r : Option Value) (h2 : pm_H) : Prop :=
  Met l y ws (pm_room d h h2) (pm_Pc ex B dA D cl tys E av h) (pm_Qc ex B dA D cl r h2) (h2.length - h.length) (pm_sz h2 - pm_sz h) (fun q => B ≤ q)
theorem pm_blind {ex : Nat → Nat} {B : Nat} {dA : Nat → ClassId} {D : va_G} {cl : List vw_C} {tys : List (ClassId × FieldType)} {E : State → Prop} (hEok : pm_Ok B E) (av : List Value) (h : pm_H) : FrameBlind (pm_Pc ex B dA D cl tys E av h) := by
  intro a U g mk q
  obtain ⟨q0, q1, q2, q3, q4⟩ := q
  exact ⟨q0, q1, q2, va_K.moved (u := U) (U := U.calling g mk a) (Vm.Alike.refl U.vm) q3, hEok U (U.calling g mk a) q4 (State.WarmedH.refl U) (fun _ _ => rfl)⟩
section PM4
variable {p : Program} {l : Launch} {e : Env} {R : Room} {s : State} {m : MethodId} {args : Array Value} {below : List Frame} {meth : Method} {c : Code} {Q : State → Prop}
variable {ex : Nat → Nat} {B : Nat} {dA : Nat → ClassId} {D : va_G} {cl : List vw_C} {nL n0 z0 : Nat} {cc : ByteArray} {pc : Nat} {L : pm_L} {st : List Value} {h h2 : pm_H}
variable {tys : List (ClassId × FieldType)} {Ts : List Cond} {own : String} {E : State → Prop}
theorem pm_afterRun {H : Heap} {locs : List Loc} {ls : Array Slot} {st0 : List Value} {r : Option Value} {a : Array Value} (hrun : va_Run p l e R s m args below meth c H locs (h.length - n0) (pm_sz h - z0) (h2.length - h.length) (pm_sz h2 - pm_sz h) (F0 m pc ls st0) (st.map (pm_v ex B)) (pm_Qc ex B dA D cl r h2 a) (fun q => B ≤ q)) (hl : lv_has ls nL (pm_l ex B L)) (hS : va_S (fun q => B ≤ q) s.heap H locs) (hn0 : n0 ≤ h.length) (hz0 : z0 ≤ pm_sz h) (hn2 : h.length ≤ h2.length) (hz2 : pm_sz h ≤ pm_sz h2) (k : pm_W p l e R s m args below meth c Q ex B dA D cl nL n0 z0 (pc + 3) L (r.toList ++ st) h2) :
    W p l e R s m args below meth c H locs (h.length - n0) (pm_sz h - z0) Q (F0 m pc ls st0) := by
  intro T hT X
  obtain ⟨v, st1, t, T2, Lc, h0, X2, hL, e1, e2, ⟨hv, hP2, hF⟩, stp⟩ := hrun T hT X
  have hv2 : v = r.map (pm_v ex B) := by injection hv
  subst hv2
  obtain ⟨hF1, hF2⟩ := hF
  rw [h0] at hF1 hF2
  have hS2 : va_S (fun q => B ≤ q) s.heap T2.heap (locs ++ Lc) := by
    refine ⟨by rw [e1]; exact Nat.le_trans hS.1 hF1, fun q a1 a2 => ?_, fun q hq => ?_⟩
    · rw [e1, hF2 q (Nat.lt_of_lt_of_le a1 hS.1) a2]
      exact hS.2.1 q a1 a2
    · rcases List.mem_append.mp hq with a1 | a1
      · exact hS.2.2 q a1
      · exact hL q a1
  have k2 := k ls T2.heap (locs ++ Lc) hl (by rw [e1]; exact hP2) hS2
  rw [show h2.length - n0 = h.length - n0 + (h2.length - h.length) by omega, show pm_sz h2 - z0 = pm_sz h - z0 + (pm_sz h2 - pm_sz h) by omega] at k2
  rw [show (r.toList ++ st).map (pm_v ex B) = (r.map (pm_v ex B)).toList ++ st.map (pm_v ex B) by cases r <;> rfl] at k2
  obtain ⟨t2, a1, b1⟩ := k2 T2 rfl X2
  exact ⟨t2, stp t2 a1, b1⟩
theorem pm_catsum (st : List Value) : ((st.map (pm_v ex B)).map fun v => v.category).sum = (st.map fun v => v.category).sum := by
  rw [List.map_map]
  congr 1
  apply List.map_congr_left
  intro v _
  exact pm_v_cat ex B v
theorem pm_stk (As : List Value) (b : Nat) (st : List Value) : (As.reverse ++ .ref b :: st).map (pm_v ex B) = (As.map (pm_v ex B)).reverse ++ .ref (B + b) :: st.map (pm_v ex B) := by
  rw [List.map_append, List.map_reverse]; rfl
theorem pm_stkS (As : List Value) (st : List Value) : (As.reverse ++ st).map (pm_v ex B) = (As.map (pm_v ex B)).reverse ++ st.map (pm_v ex B) := by
  rw [List.map_append, List.map_reverse]
theorem pm_pre {H : Heap} {av : List Value} (hK : va_K D cl tys s) (hE : E s) (hEok : pm_Ok B E) (hP : va_P D cl (pm_w ex B dA h) H) (hz : H.size = B + h.length) (hBs : B ≤ s.heap.size) (hS : ∀ q, q < s.heap.size → ¬ B ≤ q → H[q]? = s.heap[q]?) : ∀ U : State, U.heap = H → s.WarmedH U.vm → pm_Pc ex B dA D cl tys E av h (av.map (pm_v ex B)).toArray U := fun U hU hW =>
  ⟨rfl, by rw [hU]; exact hz, by rw [hU]; exact hP, va_K.moved hW.alike hK, hEok s U hE hW (fun q hq => by rw [hU]; exact hS q (by omega) (by omega))⟩
theorem pm_invV (hx : p.tables.exec = Jvm.exec) (hb : c.code = cc) (hml : c.maxLocals = nL) (hts : ∀ w ∈ Ts, w.before args s = true) (hown : s.vm.findClass own = some m.cls) (hK : va_K D cl tys s) (hE : E s) (hEok : pm_Ok B E) (hB : s.heap.size = B + n0) (hn0 : n0 ≤ h.length) (hz0 : z0 ≤ pm_sz h) (hn2 : h.length ≤ h2.length) (hz2 : pm_sz h ≤ pm_sz h2) {y : MethodName} {bytes : ByteArray} {maxL n index d : Nat} {ret : Option FieldType} {ws : List Cond} {As : List Value} {r : Option Value} {C : String} {T0 : u_T} {N ci b : Nat} {vs : List Value} (hM : pm_Met l y ws d ex B dA D cl tys E (.ref b :: As) h r h2) (hcw : CallW R s args own C index y bytes maxL ret ws (pm_room d h h2) (h2.length - h.length) (pm_sz h2 - pm_sz h) n) (hbv : h[b]? = some (.inr (ci, vs))) (hcl : cl[ci]? = some (C, T0, N)) (hn : As.length = n) (hst : (st.map fun v => v.category).sum ≤ 8) (hcells : h.length - n0 + (h2.length - h.length) ≤ R.cells) (hslots : pm_sz h - z0 + (pm_sz h2 - pm_sz h) ≤ R.slots) (hdg : decode cc pc = .ok (.invokevirtual index, 3)) (k : pm_W p l e R s m args below meth c Q ex B dA D cl nL n0 z0 (pc + 3) L (r.toList ++ st) h2) : pm_W p l e R s m args below meth c Q ex B dA D cl nL n0 z0 pc L (As.reverse ++ .ref b :: st) h := fun ls H locs hl hP hS T hT X => by
  have hz : H.size = B + h.length := hT ▸ pm_size X hB hn0 (by rw [hT]; exact hP) (by rw [hT]; exact hS.1)
  rw [pm_stk]
  exact pm_afterRun (va_runV (As := As.map (pm_v ex B)) (rest := st.map (pm_v ex B)) ⟨hx, hb, hml, hown, hts⟩ hM hcw ⟨pm_blind hEok _ h, va_recv hK hP hcl (pm_w_at hbv), pm_pre hK hE hEok hP hz (by omega) hS.2.1⟩ rfl (by rw [List.length_map]; exact hn) hl.1 rfl (lv_room (by rw [pm_catsum]; exact hst)) hdg ⟨hcells, hslots⟩) hl hS hn0 hz0 hn2 hz2 k T hT X
theorem pm_invVN (hx : p.tables.exec = Jvm.exec) (hb : c.code = cc) (hml : c.maxLocals = nL) (hts : ∀ w ∈ Ts, w.before args s = true) (hown : s.vm.findClass own = some m.cls) (hK : va_K D cl tys s) (hE : E s) (hEok : pm_Ok B E) (hB : s.heap.size = B + n0) (hn0 : n0 ≤ h.length) (hz0 : z0 ≤ pm_sz h) (hn2 : h.length ≤ h2.length) (hz2 : pm_sz h ≤ pm_sz h2) {y : MethodName} {bytes : ByteArray} {maxL n index d : Nat} {ret : Option FieldType} {ws : List Cond} {As : List Value} {r : Option Value} {C : String} {T0 : u_T} {N ci b : Nat} {vs : List Value} {host : String} (hM : pm_Met l y ws d ex B dA D cl tys E (.ref b :: As) h r h2) (hcw : va_CN R s args own index y host bytes maxL ret ws (pm_room d h h2) (h2.length - h.length) (pm_sz h2 - pm_sz h) n ∧ (Cond.instanceMethod y).before args s = true ∧ (Cond.selects C y y).before args s = true) (hbv : h[b]? = some (.inr (ci, vs))) (hcl : cl[ci]? = some (C, T0, N)) (hn : As.length = n) (hst : (st.map fun v => v.category).sum ≤ 8) (hcells : h.length - n0 + (h2.length - h.length) ≤ R.cells) (hslots : pm_sz h - z0 + (pm_sz h2 - pm_sz h) ≤ R.slots) (hdg : decode cc pc = .ok (.invokevirtual index, 3)) (k : pm_W p l e R s m args below meth c Q ex B dA D cl nL n0 z0 (pc + 3) L (r.toList ++ st) h2) : pm_W p l e R s m args below meth c Q ex B dA D cl nL n0 z0 pc L (As.reverse ++ .ref b :: st) h := fun ls H locs hl hP hS T hT X => by
  have hz : H.size = B + h.length := hT ▸ pm_size X hB hn0 (by rw [hT]; exact hP) (by rw [hT]; exact hS.1)
  rw [pm_stk]
  exact pm_afterRun (va_runVN (As := As.map (pm_v ex B)) (rest := st.map (pm_v ex B)) ⟨hx, hb, hml, hown, hts⟩ hM hcw ⟨pm_blind hEok _ h, va_recv hK hP hcl (pm_w_at hbv), pm_pre hK hE hEok hP hz (by omega) hS.2.1⟩ rfl (by rw [List.length_map]; exact hn) hl.1 rfl (lv_room (by rw [pm_catsum]; exact hst)) hdg ⟨hcells, hslots⟩) hl hS hn0 hz0 hn2 hz2 k T hT X
theorem pm_invS (hx : p.tables.exec = Jvm.exec) (hb : c.code = cc) (hml : c.maxLocals = nL) (hts : ∀ w ∈ Ts, w.before args s = true) (hown : s.vm.findClass own = some m.cls) (hK : va_K D cl tys s) (hE : E s) (hEok : pm_Ok B E) (hB : s.heap.size = B + n0) (hn0 : n0 ≤ h.length) (hz0 : z0 ≤ pm_sz h) (hn2 : h.length ≤ h2.length) (hz2 : pm_sz h ≤ pm_sz h2) {y : MethodName} {bytes : ByteArray} {maxL n index d : Nat} {ret : Option FieldType} {ws : List Cond} {As : List Value} {r : Option Value} (hM : pm_Met l y ws d ex B dA D cl tys E As h r h2) (hcw : CallB R s args own index y bytes maxL ret ws (pm_room d h h2) (h2.length - h.length) (pm_sz h2 - pm_sz h) n ∧ (Cond.static y).before args s = true) (hn : As.length = n) (hst : (st.map fun v => v.category).sum ≤ 8) (hcells : h.length - n0 + (h2.length - h.length) ≤ R.cells) (hslots : pm_sz h - z0 + (pm_sz h2 - pm_sz h) ≤ R.slots) (hdg : decode cc pc = .ok (.invokestatic index, 3)) (k : pm_W p l e R s m args below meth c Q ex B dA D cl nL n0 z0 (pc + 3) L (r.toList ++ st) h2) : pm_W p l e R s m args below meth c Q ex B dA D cl nL n0 z0 pc L (As.reverse ++ st) h := fun ls H locs hl hP hS T hT X => by
  have hz : H.size = B + h.length := hT ▸ pm_size X hB hn0 (by rw [hT]; exact hP) (by rw [hT]; exact hS.1)
  rw [pm_stkS]
  exact pm_afterRun (va_runS (As := As.map (pm_v ex B)) (rest := st.map (pm_v ex B)) ⟨hx, hb, hml, hown, hts⟩ hM hcw ⟨pm_blind hEok _ h, pm_pre hK hE hEok hP hz (by omega) hS.2.1⟩ rfl (by rw [List.length_map]; exact hn) hl.1 rfl (lv_room (by rw [pm_catsum]; exact hst)) hdg ⟨hcells, hslots⟩) hl hS hn0 hz0 hn2 hz2 k T hT X
theorem pm_invSN (hx : p.tables.exec = Jvm.exec) (hb : c.code = cc) (hml : c.maxLocals = nL) (hts : ∀ w ∈ Ts, w.before args s = true) (hown : s.vm.findClass own = some m.cls) (hK : va_K D cl tys s) (hE : E s) (hEok : pm_Ok B E) (hB : s.heap.size = B + n0) (hn0 : n0 ≤ h.length) (hz0 : z0 ≤ pm_sz h) (hn2 : h.length ≤ h2.length) (hz2 : pm_sz h ≤ pm_sz h2) {y : MethodName} {bytes : ByteArray} {maxL n index d : Nat} {ret : Option FieldType} {ws : List Cond} {As : List Value} {r : Option Value} {host : String} (hM : pm_Met l y ws d ex B dA D cl tys E As h r h2) (hcw : va_CN R s args own index y host bytes maxL ret ws (pm_room d h h2) (h2.length - h.length) (pm_sz h2 - pm_sz h) n ∧ (Cond.static y).before args s = true ∧ True) (hn : As.length = n) (hst : (st.map fun v => v.category).sum ≤ 8) (hcells : h.length - n0 + (h2.length - h.length) ≤ R.cells) (hslots : pm_sz h - z0 + (pm_sz h2 - pm_sz h) ≤ R.slots) (hdg : decode cc pc = .ok (.invokestatic index, 3)) (k : pm_W p l e R s m args below meth c Q ex B dA D cl nL n0 z0 (pc + 3) L (r.toList ++ st) h2) : pm_W p l e R s m args below meth c Q ex B dA D cl nL n0 z0 pc L (As.reverse ++ st) h := fun ls H locs hl hP hS T hT X => by
  have hz : H.size = B + h.length := hT ▸ pm_size X hB hn0 (by rw [hT]; exact hP) (by rw [hT]; exact hS.1)
  rw [pm_stkS]
  exact pm_afterRun (va_runSN (As := As.map (pm_v ex B)) (rest := st.map (pm_v ex B)) ⟨hx, hb, hml, hown, hts⟩ hM hcw ⟨pm_blind hEok _ h, pm_pre hK hE hEok hP hz (by omega) hS.2.1⟩ rfl (by rw [List.length_map]; exact hn) hl.1 rfl (lv_room (by rw [pm_catsum]; exact hst)) hdg ⟨hcells, hslots⟩) hl hS hn0 hz0 hn2 hz2 k T hT X
theorem pm_invI (hx : p.tables.exec = Jvm.exec) (hb : c.code = cc) (hml : c.maxLocals = nL) (hts : ∀ w ∈ Ts, w.before args s = true) (hown : s.vm.findClass own = some m.cls) (hK : va_K D cl tys s) (hE : E s) (hEok : pm_Ok B E) (hB : s.heap.size = B + n0) (hn0 : n0 ≤ h.length) (hz0 : z0 ≤ pm_sz h) (hn2 : h.length ≤ h2.length) (hz2 : pm_sz h ≤ pm_sz h2) {y : MethodName} {bytes : ByteArray} {maxL n index d : Nat} {ret : Option FieldType} {ws : List Cond} {As : List Value} {r : Option Value} {b : Nat} (hM : pm_Met l y ws d ex B dA D cl tys E (.ref b :: As) h r h2) (hcw : CallB R s args own index y bytes maxL none ws (pm_room d h h2) (h2.length - h.length) (pm_sz h2 - pm_sz h) n ∧ y.name = "<init>" ∧ (Cond.instanceMethod y).before args s = true) (hn : As.length = n) (hst : (st.map fun v => v.category).sum ≤ 8) (hcells : h.length - n0 + (h2.length - h.length) ≤ R.cells) (hslots : pm_sz h - z0 + (pm_sz h2 - pm_sz h) ≤ R.slots) (hdg : decode cc pc = .ok (.invokespecial index, 3)) (k : pm_W p l e R s m args below meth c Q ex B dA D cl nL n0 z0 (pc + 3) L (r.toList ++ st) h2) : pm_W p l e R s m args below meth c Q ex B dA D cl nL n0 z0 pc L (As.reverse ++ .ref b :: st) h := fun ls H locs hl hP hS T hT X => by
  have hz : H.size = B + h.length := hT ▸ pm_size X hB hn0 (by rw [hT]; exact hP) (by rw [hT]; exact hS.1)
  rw [pm_stk]
  exact pm_afterRun (va_runI (As := As.map (pm_v ex B)) (rest := st.map (pm_v ex B)) ⟨hx, hb, hml, hown, hts⟩ hM hcw ⟨pm_blind hEok _ h, pm_pre hK hE hEok hP hz (by omega) hS.2.1⟩ rfl (by rw [List.length_map]; exact hn) hl.1 rfl (lv_room (by rw [pm_catsum]; exact hst)) hdg ⟨hcells, hslots⟩) hl hS hn0 hz0 hn2 hz2 k T hT X
theorem pm_invIN (hx : p.tables.exec = Jvm.exec) (hb : c.code = cc) (hml : c.maxLocals = nL) (hts : ∀ w ∈ Ts, w.before args s = true) (hown : s.vm.findClass own = some m.cls) (hK : va_K D cl tys s) (hE : E s) (hEok : pm_Ok B E) (hB : s.heap.size = B + n0) (hn0 : n0 ≤ h.length) (hz0 : z0 ≤ pm_sz h) (hn2 : h.length ≤ h2.length) (hz2 : pm_sz h ≤ pm_sz h2) {y : MethodName} {bytes : ByteArray} {maxL n index d : Nat} {ret : Option FieldType} {ws : List Cond} {As : List Value} {r : Option Value} {host : String} {b : Nat} (hM : pm_Met l y ws d ex B dA D cl tys E (.ref b :: As) h r h2) (hcw : va_CN R s args own index y host bytes maxL none ws (pm_room d h h2) (h2.length - h.length) (pm_sz h2 - pm_sz h) n ∧ y.name = "<init>" ∧ (Cond.instanceMethod y).before args s = true) (hn : As.length = n) (hst : (st.map fun v => v.category).sum ≤ 8) (hcells : h.length - n0 + (h2.length - h.length) ≤ R.cells) (hslots : pm_sz h - z0 + (pm_sz h2 - pm_sz h) ≤ R.slots) (hdg : decode cc pc = .ok (.invokespecial index, 3)) (k : pm_W p l e R s m args below meth c Q ex B dA D cl nL n0 z0 (pc + 3) L (r.toList ++ st) h2) : pm_W p l e R s m args below meth c Q ex B dA D cl nL n0 z0 pc L (As.reverse ++ .ref b :: st) h := fun ls H locs hl hP hS T hT X => by
  have hz : H.size = B + h.length := hT ▸ pm_size X hB hn0 (by rw [hT]; exact hP) (by rw [hT]; exact hS.1)
  rw [pm_stk]
  exact pm_afterRun (va_runIN (As := As.map (pm_v ex B)) (rest := st.map (pm_v ex B)) ⟨hx, hb, hml, hown, hts⟩ hM hcw ⟨pm_blind hEok _ h, pm_pre hK hE hEok hP hz (by omega) hS.2.1⟩ rfl (by rw [List.length_map]; exact hn) hl.1 rfl (lv_room (by rw [pm_catsum]; exact hst)) hdg ⟨hcells, hslots⟩) hl hS hn0 hz0 hn2 hz2 k T hT X
theorem pm_objInit (hx : p.tables.exec = Jvm.exec) (hb : c.code = cc) (hml : c.maxLocals = nL) (hown : s.vm.findClass own = some m.cls) {idx a : Nat} (hlink : (Cond.methodLink own idx Lib.objectInit).before args s = true) (hinst : (Cond.instanceMethod Lib.objectInit).before args s = true) (hcode : (Cond.code Lib.objectInit ⟨#[0xb1]⟩ 1 none).before args s = true) (hd : decode cc pc = .ok (.invokespecial idx, 3)) (hfr : 1 ≤ R.frames) (hlo : (st.map fun v => v.category).sum + 12 ≤ R.locals) (k : pm_W p l e R s m args below meth c Q ex B dA D cl nL n0 z0 (pc + 3) L st h) : pm_W p l e R s m args below meth c Q ex B dA D cl nL n0 z0 pc L (.ref a :: st) h := fun ls H locs hl hP hS =>
  W.objInit hx hb hown hlink hinst hcode rfl (hl.1.trans hml.symm) rfl hd hfr (by
    show 2 * 0 + ((st.map (pm_v ex B)).map fun v => v.category).sum + 12 ≤ R.locals
    rw [pm_catsum]
    omega) (k ls H locs hl hP hS)
/-- a contract, out of the walk of the method's body -/
theorem pm_ofW {y : MethodName} {ws ws2 : List Cond} {maxL d : Nat} {ret : Option FieldType} {av : List Value} {r : Option Value} (hy : plainName y.cls = true) (hw : ws = Cond.code y cc maxL ret :: ws2) (hn : (lg_sl av).length ≤ maxL)
    (body : ∀ (p : Program) (e : Env) (s : State) (m : MethodId) (below : List Frame) (meth : Method) (c : Code), p.tables.exec = Jvm.exec → c.code = cc → meth.sig.returnType = ret → meth.locks = false → c.maxLocals = maxL → s.vm.findClass y.cls = some m.cls → meth.name = y.name → (∀ w ∈ ws, w.before (av.map (pm_v ex B)).toArray s = true) → s.heap.size = B + h.length → va_K D cl tys s → E s →
      pm_W p l e (pm_room d h h2) s m (av.map (pm_v ex B)).toArray below meth c (MQ below (pm_Qc ex B dA D cl r h2) (av.map (pm_v ex B)).toArray s (h2.length - h.length) (pm_sz h2 - pm_sz h) (fun q => B ≤ q)) ex B dA D cl maxL h.length (pm_sz h) 0 (pm_args 0 av) [] h) : pm_Met l y ws d ex B dA D cl tys E av h r h2 := by
  refine Met.ofW (cc := cc) (maxL := maxL) (ret := ret) hy hw ?_
  intro p e s m args below meth c s1 Bd hml hv
  obtain ⟨rfl, hz, hP, hK, hE⟩ := hv
  have hts := atoms_spec (ws := ws) Bd.pre
  have hl := lv_entry (av.map (pm_v ex B)) (n := maxL) (by rw [pm_words]; exact hn)
  rw [pm_args_l] at hl
  have k2 := body p e s m below meth c Bd.exec Bd.bytes Bd.returns Bd.notSynchronized hml (findClass_of_methodNamed Bd.named) (name_of_methodNamed Bd.named Bd.method).1 hts hz hK hE _ s.heap [] hl hP va_S.rf
  rw [Nat.sub_self, Nat.sub_self] at k2
  rw [lg_entry_eq]
  exact k2
end PM4
