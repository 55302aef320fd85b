/-! PART 06: contracts of any outcome over the pure machine (it answers, or it throws an own cell), and calls of such methods. -/
abbrev pm_O : Type := Option Value ⊕ Nat
def pm_oc (ex : Nat → Nat) (B : Nat) (o : pm_O) : Outcome := match o with
  | .inl r => .returned (r.map (pm_v ex B))
  | .inr x => .threw (B + x)
def pm_QcO (ex : Nat → Nat) (B : Nat) (dA : Nat → ClassId) (D : va_G) (cl : List vw_C) (o : pm_O) (h2 : pm_H) : Array Value → State → Outcome → State → Prop := fun _ st oc t => oc = pm_oc ex B o ∧ va_P D cl (pm_w ex B dA h2) t.heap ∧ va_F (fun q => B ≤ q) st t
/-- the method's contract at one pure start: with arguments av over the heap h its outcome is o over the heap h2, at most d frames deep -/
def pm_Con (l : Launch) (y : MethodName) (ws : List Cond) (d : Nat) (ex : Nat → Nat) (B : Nat) (dA : Nat → ClassId) (D : va_G) (cl : List vw_C) (tys : List (ClassId × FieldType)) (E : State → Prop) (av : List Value) (h : pm_H) (o : pm_O) (h2 : pm_H) : Prop :=
  pm_MT l y ws (pm_room d h h2) (pm_Pc ex B dA D cl tys E av h) (pm_QcO ex B dA D cl o h2) (h2.length - h.length) (pm_sz h2 - pm_sz h) (fun q => B ≤ q)
/-- the pure machine throws the own cell x at pc -/
def pm_WT (p : Program) (l : Launch) (e : Env) (R : Room) (s : State) (m : MethodId) (args : Array Value) (below : List Frame) (meth : Method) (c : Code) (Q : State → Prop) (ex : Nat → Nat) (B : Nat) (dA : Nat → ClassId) (D : va_G) (cl : List vw_C) (nL n0 z0 : Nat) (pc : Nat) (L : pm_L) (x : Nat) (h : pm_H) : Prop :=
  ∀ (ls : Array Slot) (H : Heap) (locs : List Loc) (rest : List Value), lv_has ls nL (pm_l ex B L) → va_P D cl (pm_w ex B dA h) H → va_S (fun q => B ≤ q) s.heap H locs →
    pm_T p l e R s m args below meth c H locs (h.length - n0) (pm_sz h - z0) Q (F0 m pc ls rest) (B + x)
def pm_lnd (g : JFrame) (o : Outcome) (T2 : State) : State := match o with
  | .returned v => T2.setTop { g with pc := g.pc + 3, stack := v.toList ++ g.stack }
  | .threw x => (T2.setTop g).pushFrame (.throwing x)
theorem pm_cd {s : State} {a : Array Value} {y : MethodName} {bytes : ByteArray} {maxL : Nat} {ret : Option FieldType} {hh : List (Nat × Nat × Nat × Nat)} {mk : MethodId} (hn : s.methodNamed? y = some mk) (hcode : (Cond.code y bytes maxL ret).before a s = true ∨ (Cond.codeWith y bytes maxL ret hh).before a s = true) :
    ∃ methY cY, s.vm.method? mk = some methY ∧ methY.code = some cY ∧ cY.maxLocals = maxL ∧ parseMethodDescriptor y.desc = some methY.sig := by
  rcases hcode with h2 | h2
  · obtain ⟨methY, cY, hmY, hcY, -, hlY, -, -, -, hs⟩ := Cond.code_spec hn h2
    exact ⟨methY, cY, hmY, hcY, hlY, hs⟩
  · obtain ⟨m9, methY, cY, hn9, hmY, hcY, -, hlY, -, -, -, hs⟩ := Cond.codeWith_spec h2
    cases hn.symm.trans hn9
    exact ⟨methY, cY, hmY, hcY, hlY, hs⟩
section PM6
variable {p : Program} {l : Launch} {e : Env} {R : Room} {s : State} {m : MethodId} {args : Array Value} {below : List Frame} {meth : Method} {c : Code} {locs : List Loc} {cells slots : Nat} {Q : State → Prop}
/-- behind a call of whatever outcome -/
theorem pm_callB {y : MethodName} {ws : List Cond} {rm : Room} {Pc : Array Value → State → Prop} {Qc : Array Value → State → Outcome → State → Prop} {mc ms : Nat} {free : Addr → Prop} {bytes : ByteArray} {maxL : Nat} {ret : Option FieldType} {hh : List (Nat × Nat × Nat × Nat)} {ig : Instr} {mk : MethodId} {U : State} {g : JFrame} {a : Array Value} (o : Outcome)
    (hM : pm_MT l y ws rm Pc Qc mc ms free) (hframes : rm.frames + 1 ≤ R.frames) (hlocals : 8 + (maxL + 11) + rm.locals ≤ R.locals) (X : Stand p l e R s m args below meth c U locs cells slots) (hg : g.method = m) (hsize : g.locals.size = c.maxLocals) (hdg : decode c.code g.pc = .ok (ig, 3)) (hW : 2 * g.monitorRoom + (g.stack.map fun v => v.category).sum ≤ 8) (hn : U.methodNamed? y = some mk)
    (hpre : (headSpec ws rm).pre.before a U = true) (hcode : (Cond.code y bytes maxL ret).before a U = true ∨ (Cond.codeWith y bytes maxL ret hh).before a U = true) (hini : (Cond.initialized y.cls).before a U = true) (h4 : cells + rm.cells ≤ R.cells) (h5 : slots + rm.slots ≤ R.slots) (hP : Pc a (U.calling g mk a)) (hout : ∀ o2 t, Qc a (U.calling g mk a) o2 t → o2 = o) :
    ∃ (T2 : State) (L : List Loc) (t : State), Stand p l e R s m args below meth c T2 (locs ++ L) (cells + mc) (slots + ms) ∧ (∀ q ∈ L, free q.base) ∧ T2.heap = t.heap ∧ T2.vm = t.vm ∧ Qc a (U.calling g mk a) o t ∧ Steps p.tables e below (doInvoke e (U.setTop g) [] mk a).1 (pm_lnd g o T2) := by
  obtain ⟨methY, cY, hmY, hcY, hlY, -⟩ := pm_cd hn hcode
  obtain ⟨kY, hkY, -⟩ := className_of_methodNamed hn
  have hinitY : kY.init = .initialized := Cond.initialized_spec (findClass_of_methodNamed hn) hkY hini
  have h : At U g.method c below := by rw [hg]; exact X.here
  have happ : (headSpec ws rm).appliesLoose y e.platform (U.calling g mk a) = true :=
    Spec.appliesLoose_calling (g := g) h hdg hn hkY hinitY
      (X.room_calling (g := g) (R' := (headSpec ws rm).room) hsize hmY hcY hframes (by rw [hlY]; have e9 : (headSpec ws rm).room.locals = rm.locals := rfl; omega) h4 h5) hpre
  obtain ⟨mid, hmid⟩ := h.above
  have hfr : (U.setTop g).frames = (.java g :: mid) ++ below := by rw [State.frames_setTop' g h.top, hmid]; rfl
  obtain ⟨o2, s2, hsteps, -, hend, hq, L, ⟨hW2, hsame⟩, hL⟩ := Steps.callFree hM p X.admits X.cas X.clock (acts := []) hfr happ hP trivial
  have ho : o2 = o := hout o2 s2 hq
  subst ho
  rw [State.frames_setTop' g h.top, X.tail] at hend
  cases o2 with
  | threw x =>
    obtain ⟨T2, X2, hT2, -, ht⟩ := X.outOfThrown hg hend hW2 hsame
    refine ⟨T2, L, s2, X2, hL, ?_, ?_, hq, by show Steps _ _ _ _ ((T2.setTop g).pushFrame (.throwing x)); rw [← ht]; exact hsteps⟩
    · rw [ht]; rfl
    · rw [ht]; rfl
  | returned v =>
    obtain ⟨T2, X2, hT2, -, ht⟩ := X.outOf hg hdg hend hW2 hsame
    refine ⟨T2, L, s2, X2, hL, ?_, ?_, hq, by show Steps _ _ _ _ (T2.setTop { g with pc := g.pc + 3, stack := v.toList ++ g.stack }); rw [← ht]; exact hsteps⟩
    · rw [ht]; rfl
    · rw [ht]; rfl
theorem pm_stepV {T : State} (X : Stand p l e R s m args below meth c T locs cells slots) (hexec : p.tables.exec = Jvm.exec) {own C : String} {index : Nat} {y : MethodName} {bytes : ByteArray} {maxL : Nat} {ret : Option FieldType} {hh : List (Nat × Nat × Nat × Nat)} (hown : s.vm.findClass own = some m.cls) (hlink : (Cond.methodLink own index y).before args s = true ∨ ∃ host, (Cond.methodLinkNest own index y host).before args s = true) (hinst : (Cond.instanceMethod y).before args s = true) (hsel : (Cond.selects C y y).before args s = true) (hcode : (Cond.code y bytes maxL ret).before args s = true ∨ (Cond.codeWith y bytes maxL ret hh).before args s = true) (hy : y.cls ≠ "java/lang/invoke/MethodHandle" ∧ y.cls ≠ "java/lang/invoke/VarHandle")
    {b : Addr} {cellB : Cell} (hcell : T.heap[b]? = some cellB) (hobj : cellB.vm.isStatics = false) (hcls : s.vm.findClass C = some cellB.cls) {g : JFrame} (hg : g.method = m) {argsL rest : List Value} (hlen : ∀ sig, parseMethodDescriptor y.desc = some sig → argsL.length = sig.parameters.length) (hstack : g.stack = argsL.reverse ++ .ref b :: rest) (hdg : decode c.code g.pc = .ok (.invokevirtual index, 3)) :
    ∃ mk vm1, s.methodNamed? y = some mk ∧ Stand p l e R s m args below meth c (T.setVm vm1) locs cells slots ∧ ∀ target, Steps p.tables e below (doInvoke e ((T.setVm vm1).setTop { g with stack := rest }) [] mk (Value.ref b :: argsL).toArray).1 target → Steps p.tables e below (T.setTop g) target := by
  obtain ⟨mk, methM, hnamed, hmethM, hstM, habM⟩ := Cond.instanceMethod_spec hinst
  obtain ⟨methY, cY, hmY, -, -, hsigM⟩ := pm_cd hnamed hcode
  cases hmethM.symm.trans hmY
  obtain ⟨c2, r2, m2, q1, q2, q3, q4, kP, hkP, hkPi⟩ := Cond.selects_spec hsel
  cases hcls.symm.trans q1
  cases (State.methodFound?_of_named hnamed hy).symm.trans q2
  cases hnamed.symm.trans q3
  have hselP : selectMethod e.platform s.vm cellB.cls mk = .method mk := by rw [Launch.admits_selectMethod X.admits]; exact q4
  have hno : ∀ z, cellB.vm ≠ .statics z := fun z h => by rw [h] at hobj; cases hobj
  rcases hlink with hl | ⟨host, hl⟩
  · obtain ⟨vm1, X1, hstep⟩ := X.invokevirtual hexec hown hl hnamed hmethM hstM hkP hkPi hy (a := b) (cell := cellB) hcell hno hselP hmethM habM hkP hkPi (g := g) hg (argsL := argsL) (rest := rest) (hlen _ hsigM) hstack hdg
    exact ⟨mk, vm1, hnamed, X1, fun target h => hstep target fun acts => by rw [doInvoke_state]; exact h⟩
  · obtain ⟨vm1, X1, hstep⟩ := X.invokevirtualNest hexec hown hl hnamed hmethM hstM hkP hkPi hy (a := b) (cell := cellB) hcell hno hselP hmethM habM hkP hkPi (g := g) hg (argsL := argsL) (rest := rest) (hlen _ hsigM) hstack hdg
    exact ⟨mk, vm1, hnamed, X1, fun target h => hstep target fun acts => by rw [doInvoke_state]; exact h⟩
theorem pm_stepS {T : State} (X : Stand p l e R s m args below meth c T locs cells slots) (hexec : p.tables.exec = Jvm.exec) {own : String} {index : Nat} {y : MethodName} {bytes : ByteArray} {maxL : Nat} {ret : Option FieldType} {hh : List (Nat × Nat × Nat × Nat)} (hown : s.vm.findClass own = some m.cls) (hlink : (Cond.methodLink own index y).before args s = true ∨ ∃ host, (Cond.methodLinkNest own index y host).before args s = true) (hstat : (Cond.static y).before args s = true) (hini : (Cond.initialized y.cls).before args s = true) (hnm : ∃ mk, s.methodNamed? y = some mk) (hcode : (Cond.code y bytes maxL ret).before args s = true ∨ (Cond.codeWith y bytes maxL ret hh).before args s = true) (hy : y.cls ≠ "java/lang/invoke/MethodHandle" ∧ y.cls ≠ "java/lang/invoke/VarHandle")
    {g : JFrame} (hg : g.method = m) {argsL rest : List Value} (hlen : ∀ sig, parseMethodDescriptor y.desc = some sig → argsL.length = sig.parameters.length) (hstack : g.stack = argsL.reverse ++ rest) (hdg : decode c.code g.pc = .ok (.invokestatic index, 3)) :
    ∃ mk vm1, s.methodNamed? y = some mk ∧ Stand p l e R s m args below meth c (T.setVm vm1) locs cells slots ∧ ∀ target, Steps p.tables e below (doInvoke e ((T.setVm vm1).setTop { g with stack := rest }) [] mk argsL.toArray).1 target → Steps p.tables e below (T.setTop g) target := by
  obtain ⟨mk, hnamed⟩ := hnm
  obtain ⟨methM, cY, hmethM, -, -, hsigM⟩ := pm_cd hnamed hcode
  have hstatic : methM.isStatic = true := Cond.static_spec hnamed hmethM hstat
  obtain ⟨kP, hkP, -⟩ := className_of_methodNamed hnamed
  have hinitP : kP.init = .initialized := Cond.initialized_spec (findClass_of_methodNamed hnamed) hkP hini
  rcases hlink with hl | ⟨host, hl⟩
  · obtain ⟨vm1, X1, hstep⟩ := X.invokestatic hexec hown hl hnamed hmethM hstatic hkP hinitP hy (g := g) hg (argsL := argsL) (rest := rest) (hlen _ hsigM) hstack hdg
    exact ⟨mk, vm1, hnamed, X1, fun target h => hstep target fun acts => by rw [doInvoke_state]; exact h⟩
  · obtain ⟨vm1, X1, hstep⟩ := X.invokestaticNest hexec hown hl hnamed hmethM hstatic hkP hinitP hy (g := g) hg (argsL := argsL) (rest := rest) (hlen _ hsigM) hstack hdg
    exact ⟨mk, vm1, hnamed, X1, fun target h => hstep target fun acts => by rw [doInvoke_state]; exact h⟩
end PM6
