/-! PART 08: handlers: the search through a table whose classes may not be resolved yet. -/
/-- the search through tb gives h, and leaves the tables vm2 -/
def pm_Fi (e : Env) (s : State) (f : JFrame) (a : Addr) (tb : List ExceptionTableEntry) (h : Handler) (vm2 : Vm) : Prop :=
  ∀ (Q : Handler → Pre) (E : CtlPost) (d : Bool) (acts : List Action), wp (findHandler.go f a tb) Q E e d acts s ↔ Q h d acts (s.setVm vm2)
theorem pm_Fi_skip {e : Env} {s : State} {f : JFrame} {a : Addr} {x : ExceptionTableEntry} {tb : List ExceptionTableEntry} {h : Handler} {vm2 : Vm} (hx : covers x f.pc = false) (k : pm_Fi e s f a tb h vm2) : pm_Fi e s f a (x :: tb) h vm2 := by
  intro Q E d acts
  simp only [covers] at hx
  have h1 : wp (findHandler.go f a (x :: tb)) Q E e d acts s ↔ wp (findHandler.go f a tb) Q E e d acts s := by simp [findHandler.go, hx]
  exact h1.trans (k Q E d acts)
theorem pm_go {e : Env} {s : State} {f : JFrame} {a : Addr} {x : ExceptionTableEntry} {tb : List ExceptionTableEntry} {c : ClassId} {cell : Cell} (hx : covers x f.pc = true) (h0 : x.catchType ≠ 0) (hl : s.vm.ClassLinks e.platform f.method.cls x.catchType c) (hcell : s.heap[a]? = some cell) (hobj : ∀ k, cell.vm ≠ .statics k) (hk : ∃ k, s.vm.classes[cell.cls]? = some k) (hc : ∃ k, s.vm.classes[c]? = some k) (Q : Handler → Pre) (E : CtlPost) (d : Bool) (acts : List Action) :
    wp (findHandler.go f a (x :: tb)) Q E e d acts s ↔ if s.vm.assignable cell.cls c = true then Q (.found x.handlerPc) d acts (s.setVm (s.vm.noted f.method.cls x.catchType (.cls c))) else wp (findHandler.go f a tb) Q E e d acts (s.setVm (s.vm.noted f.method.cls x.catchType (.cls c))) := by
  simp only [covers] at hx
  obtain ⟨ha, ht⟩ := (resolveClass_links e.toSetting hl).op (op := VmOp.resolveClass f.method.cls x.catchType) rfl
  have hal : s.vm.Alike (s.vm.noted f.method.cls x.catchType (.cls c)) := (Vm.Alike.refl s.vm).noted _ _ _
  obtain ⟨k1, hk1⟩ := hk
  obtain ⟨k2, hk2⟩ := hc
  obtain ⟨k3, hk3, -⟩ := hal.2.2 _ _ hk1
  obtain ⟨k4, hk4, -⟩ := hal.2.2 _ _ hk2
  have hfit : (s.vm.noted f.method.cls x.catchType (.cls c)).assignable cell.cls c = s.vm.assignable cell.cls c := by rw [hal.assignable]
  cases hq : s.vm.assignable cell.cls c
  · rw [hq] at hfit
    simp [findHandler.go, hx, h0, ha, ht, hcell, hobj, hk3, hk4, hfit, VmOp.dirties, VmOp.acts]
  · rw [hq] at hfit
    simp [findHandler.go, hx, h0, ha, ht, hcell, hobj, hk3, hk4, hfit, VmOp.dirties, VmOp.acts]
theorem pm_Fi_catch {e : Env} {s : State} {f : JFrame} {a : Addr} {x : ExceptionTableEntry} {tb : List ExceptionTableEntry} {c : ClassId} {cell : Cell} (hx : covers x f.pc = true) (h0 : x.catchType ≠ 0) (hl : s.vm.ClassLinks e.platform f.method.cls x.catchType c) (hcell : s.heap[a]? = some cell) (hobj : ∀ k, cell.vm ≠ .statics k) (hk : ∃ k, s.vm.classes[cell.cls]? = some k) (hc : ∃ k, s.vm.classes[c]? = some k) (hfit : s.vm.assignable cell.cls c = true) : pm_Fi e s f a (x :: tb) (.found x.handlerPc) (s.vm.noted f.method.cls x.catchType (.cls c)) := by
  intro Q E d acts
  rw [pm_go hx h0 hl hcell hobj hk hc, if_pos hfit]
theorem pm_Fi_pass {e : Env} {s : State} {f : JFrame} {a : Addr} {x : ExceptionTableEntry} {tb : List ExceptionTableEntry} {h : Handler} {vm2 : Vm} {c : ClassId} {cell : Cell} (hx : covers x f.pc = true) (h0 : x.catchType ≠ 0) (hl : s.vm.ClassLinks e.platform f.method.cls x.catchType c) (hcell : s.heap[a]? = some cell) (hobj : ∀ k, cell.vm ≠ .statics k) (hk : ∃ k, s.vm.classes[cell.cls]? = some k) (hc : ∃ k, s.vm.classes[c]? = some k) (hfit : s.vm.assignable cell.cls c = false) (k : pm_Fi e (s.setVm (s.vm.noted f.method.cls x.catchType (.cls c))) f a tb h vm2) : pm_Fi e s f a (x :: tb) h vm2 := by
  intro Q E d acts
  rw [pm_go hx h0 hl hcell hobj hk hc, if_neg (by rw [hfit]; exact fun q => by cases q)]
  exact k Q E d acts
theorem pm_setF (u : State) (vm2 : Vm) (F G : List Frame) : ((u.setFrames F).setVm vm2).setFrames G = (u.setVm vm2).setFrames G := by
  have h1 : (u.setFrames F).setVm vm2 = (u.setVm vm2).setFrames F := rfl
  rw [h1, State.setFrames_setFrames]
theorem pm_caught {tb : Tables} {e : Env} {s target : State} {g : JFrame} {c : Code} {meth : Method} {below : List Frame} {a : Addr} (h : At s g.method c below) (hm : s.vm.method? g.method = some meth) (hcd : meth.code = some c) {pc : Nat} {vm2 : Vm} (hfind : pm_Fi e ((s.setTop g).pushFrame (.throwing a)) g a c.exceptionTable.toList (.found pc) vm2) (hrest : Steps tb e below ((s.setVm vm2).setTop { g with pc := pc, stack := [.ref a] }) target) : Steps tb e below ((s.setTop g).pushFrame (.throwing a)) target := by
  obtain ⟨hgo, hw⟩ := h.throwing a
  refine Steps.head hgo hw ?_
  have h1 : ∀ (u : State) (f : JFrame) (r : List Frame), u.vm.method? f.method = some meth → pm_Fi e u f a c.exceptionTable.toList (.found pc) vm2 → (stepThrowing e u a (.java f :: r)).Is ((u.setVm vm2).setFrames (.java { f with pc := pc, stack := [.ref a] } :: r)) [] := by
    intro u f r hmu hf
    simp only [stepThrowing, searchFrame, vmDo]
    generalize hr : Sem.go _ e false [] u = res
    have hf2 : ∀ (Q : Handler → Pre) (E : CtlPost) (d : Bool) (acts : List Action), wp (findHandler f a) Q E e d acts u ↔ Q (Handler.found pc) d acts (u.setVm vm2) := fun Q E d acts => by
      have h3 : wp (findHandler f a) Q E e d acts u ↔ wp (findHandler.go f a c.exceptionTable.toList) Q E e d acts u := by simp [findHandler, hmu, hcd]
      exact h3.trans (hf Q E d acts)
    obtain ⟨as, rfl, ha⟩ := Sem.eq_ok_of hr (a := Handler.found pc) (s' := u.setVm vm2) (acts' := []) (by simp [hf2 _ _ _ _])
    exact ⟨rfl, ha⟩
  rw [stepThread_throwing (frames_entered h.top _), (h1 ((s.setTop g).pushFrame (.throwing a)) g _ (by simpa [State.pushFrame, State.setFrames] using hm) hfind).1]
  obtain ⟨g0, hg⟩ := Option.isSome_iff_exists.mp h.top
  obtain ⟨r, hr⟩ := State.topJava?_eq_some.mp hg
  have hr2 : (s.setVm vm2).frames = .java g0 :: r := hr
  rw [State.setTop_of_frames _ hr2] at hrest
  rw [hr, List.tail_cons, State.pushFrame, pm_setF, State.setTop_of_frames _ hr, pm_setF]
  exact hrest
