/-! PART 36: an exception of its own that is made and kept (the reference's halt): its constructor. -/
def hl_nm : List String := ["java/lang/RuntimeException", "java/lang/Exception"]
def hl_at : List Cond := Bundle.throwableAtoms ++ Bundle.chain0Atoms "LinkedTongueModel$Halt" hl_nm ++ [.instantiable "LinkedTongueModel$Halt" 8, .selects "LinkedTongueModel$Halt" Bundle.tFill0 Bundle.tFill0, .selects "LinkedTongueModel$Halt" Bundle.tFill Bundle.tFill, .lays "LinkedTongueModel$Halt" Bundle.tN "cause" "Ljava/lang/Throwable;", .lays "LinkedTongueModel$Halt" Bundle.tN "stackTrace" Bundle.steD, .lays "LinkedTongueModel$Halt" Bundle.tN "suppressedExceptions" Bundle.listD, .fieldLink Bundle.tN 198 Bundle.tN "backtrace" "Ljava/lang/Object;", .lays Bundle.tN Bundle.tN "backtrace" "Ljava/lang/Object;", .lays "LinkedTongueModel$Halt" Bundle.tN "backtrace" "Ljava/lang/Object;"]
theorem hl_rv {v : Value} (h : v = .null ∨ ∃ t, v = .ref t) : ∃ u : RefV, u.v = v := by
  rcases h with rfl | ⟨t, rfl⟩
  · exact ⟨⟨.null, rfl⟩, rfl⟩
  · exact ⟨⟨.ref t, rfl⟩, rfl⟩
set_option maxHeartbeats 4000000 in
theorem hl_ctor {p : Program} {l : Launch} {e : Env} {R : Room} {s : State} {m : MethodId} {args : Array Value} {below : List Frame} {meth : Method} {c : Code} {W0 : State} {locs : List Loc} {cells slots : Nat} (X : Stand p l e R s m args below meth c W0 locs cells slots) (hexec : p.tables.exec = Jvm.exec) (htr : e.platform.stackTraces = false) {own : String} {ic B : Nat} (hown : s.vm.findClass own = some m.cls) (h : ∀ a ∈ hl_at, a.before args s = true) (hlink : (Cond.methodLink own ic (Bundle.init0 "LinkedTongueModel$Halt")).before args s = true ∨ ∃ host, (Cond.methodLinkNest own ic (Bundle.init0 "LinkedTongueModel$Halt") host).before args s = true)
    {vU vS : Value} (hvU : vU = .null ∨ ∃ t, vU = .ref t) (hvS : vS = .null ∨ ∃ t, vS = .ref t) (hU : va_Z Bundle.tN "UNASSIGNED_STACK" Bundle.steD vU (fun q => B ≤ q) s s.heap) (hV : va_Z Bundle.tN "SUPPRESSED_SENTINEL" Bundle.listD vS (fun q => B ≤ q) s s.heap) (hold : ∀ q, q < s.heap.size → ¬ B ≤ q → W0.heap[q]? = s.heap[q]?)
    {a : Nat} {cX : ClassId} {kX : Class} (hfound0 : s.vm.findClass "LinkedTongueModel$Halt" = some cX) (hkX : s.vm.classes[cX]? = some kX) (hcell : W0.heap[a]? = some (blank cX kX)) (hBa : B ≤ a)
    {g : JFrame} (hg : g.method = m) (hsize : g.locals.size = c.maxLocals) {rest : List Value} (hstack : g.stack = .ref a :: rest) (hd6 : decode c.code g.pc = .ok (.invokespecial ic, 3)) (hRframes : 5 < R.frames) (hRlocals : 2 * g.monitorRoom + (rest.map fun v => v.category).sum + 80 ≤ R.locals) :
    ∃ (vm2 : Vm) (fC fS fP : Field), (∃ cc k i, s.fieldFound? Bundle.tN "cause" "Ljava/lang/Throwable;" = some (cc, k, i, fC)) ∧ (∃ cc k i, s.fieldFound? Bundle.tN "stackTrace" Bundle.steD = some (cc, k, i, fS)) ∧ (∃ cc k i, s.fieldFound? Bundle.tN "suppressedExceptions" Bundle.listD = some (cc, k, i, fP)) ∧
      Stand p l e R s m args below meth c ((W0.setVm vm2).setCell a (((((blank cX kX).setSlot fC.slot (.ref a)).setSlot fS.slot vU).setSlot fP.slot vS).setSlot fS.slot vU)) (locs ++ [⟨a, fC.slot⟩, ⟨a, fS.slot⟩, ⟨a, fP.slot⟩, ⟨a, fS.slot⟩]) cells slots ∧
      ∀ target, Steps p.tables e below (((W0.setVm vm2).setCell a (((((blank cX kX).setSlot fC.slot (.ref a)).setSlot fS.slot vU).setSlot fP.slot vS).setSlot fS.slot vU)).setTop { g with pc := g.pc + 3, stack := rest }) target → Steps p.tables e below (W0.setTop g) target := by
  have howns : e.platform.frameOwnsMonitors = true := by rw [X.admits.platform]
  have hfin : e.platform.finalization = false := by rw [X.admits.platform]
  have hpl : e.platform.magicAccessors = ({} : Platform).magicAccessors := by rw [X.admits.platform]
  have a' : ∀ x, x ∈ hl_at → x.holds args s none s [] = true := fun x hx => h x hx
  obtain ⟨T, Z, L, LZ, Y⟩ := ThrowableC.of_atoms (args := args) howns hfin hpl (fun x hx => h x (by simp [hl_at, hx]))
  obtain ⟨P1, Ps, hlen, L1, hL, hP1m, hlink1, hpass⟩ := Bundle.chain0 (args := args) hpl Y.init0 hl_nm "LinkedTongueModel$Halt" (by decide +kernel) (by decide +kernel) (fun x hx => h x (by simp [hl_at, hx]))
  have hfound : s.vm.findClass "LinkedTongueModel$Halt" = some P1.m.cls := findClass_of_methodNamed hP1m
  cases Option.some.inj (hfound0.symm.trans hfound)
  obtain ⟨c1, kX', hc1, hk, hord, -, -, hn6⟩ := Cond.instantiable_spec (a' (.instantiable "LinkedTongueModel$Halt" 8) (by simp [hl_at]))
  cases Option.some.inj (hc1.symm.trans hfound)
  cases Option.some.inj (hkX.symm.trans hk)
  have hsel0 : selectMethod e.platform s.vm P1.m.cls T.fill0 = .method T.fill0 := by
    obtain ⟨c2, r2, m2, q1, q2, q3, q4, -⟩ := Cond.selects_spec (a' (.selects "LinkedTongueModel$Halt" Bundle.tFill0 Bundle.tFill0) (by simp [hl_at]))
    cases Option.some.inj (q1.symm.trans hfound)
    cases Option.some.inj (q2.symm.trans (State.methodFound?_of_named Y.fill0 (by decide)))
    cases Option.some.inj (q3.symm.trans Y.fill0)
    rw [Launch.admits_selectMethod X.admits]; exact q4
  have hselF : selectMethod e.platform s.vm P1.m.cls T.fill = .method T.fill := by
    obtain ⟨c2, r2, m2, q1, q2, q3, q4, -⟩ := Cond.selects_spec (a' (.selects "LinkedTongueModel$Halt" Bundle.tFill Bundle.tFill) (by simp [hl_at]))
    cases Option.some.inj (q1.symm.trans hfound)
    cases Option.some.inj (q2.symm.trans (State.methodFound?_of_named Y.fill (by decide)))
    cases Option.some.inj (q3.symm.trans Y.fill)
    rw [Launch.admits_selectMethod X.admits]; exact q4
  obtain ⟨cf, kf, fi, f2, aU, cellU, g1, g2, g3, g4, g5, g6, g7, g8⟩ := hU
  obtain ⟨cf', kf', fi', f2', aV, cellV, w1, w2, w3, w4, w5, w6, w7, w8⟩ := hV
  cases Option.some.inj (g1.symm.trans Y.unassigned)
  cases Option.some.inj (w1.symm.trans Y.sentinel)
  have eU : aU = T.aS := Option.some.inj (g4.symm.trans L.statics)
  have eV : aV = T.aS := Option.some.inj (w4.symm.trans L.statics)
  subst eU
  rw [eV] at w5
  cases Option.some.inj (g5.symm.trans w5)
  obtain ⟨u0, hu0⟩ := hl_rv hvU
  obtain ⟨sen, hsen⟩ := hl_rv hvS
  subst hu0
  subst hsen
  obtain ⟨ci198, i198, fB, hk198, hg198, ha198, hsB, -, hnB, htB, hffB⟩ := Cond.ownField (t := .object "java/lang/Object") Y.found L.cls (by decide +kernel) (a' (.fieldLink Bundle.tN 198 Bundle.tN "backtrace" "Ljava/lang/Object;") (by simp [hl_at])) (a' (.lays Bundle.tN Bundle.tN "backtrace" "Ljava/lang/Object;") (by simp [hl_at])) e.platform hpl
  have hcellS : W0.heap[T.aS]? = some cellU := by rw [hold _ (Array.getElem?_eq_some_iff.mp g5).1 g8]; exact g5
  have hknownS : cellU.vm ≠ .unknown := by
    intro hu
    rw [hu] at g6
    cases g6
  have hneS : T.aS ≠ a := fun q => g8 (by rw [q]; exact hBa)
  obtain ⟨tyC, dC, hdC, hdnC⟩ := Cond.laysAt hfound hk Y.cause (a' (.lays "LinkedTongueModel$Halt" Bundle.tN "cause" "Ljava/lang/Throwable;") (by simp [hl_at]))
  obtain ⟨tyS, dS, hdS, hdnS⟩ := Cond.laysAt hfound hk Y.stack (a' (.lays "LinkedTongueModel$Halt" Bundle.tN "stackTrace" Bundle.steD) (by simp [hl_at]))
  obtain ⟨tyP, dP, hdP, hdnP⟩ := Cond.laysAt hfound hk Y.supp (a' (.lays "LinkedTongueModel$Halt" Bundle.tN "suppressedExceptions" Bundle.listD) (by simp [hl_at]))
  obtain ⟨tyB, dB, hdB, hdnB⟩ := Cond.laysAt hfound hk hffB (a' (.lays "LinkedTongueModel$Halt" Bundle.tN "backtrace" "Ljava/lang/Object;") (by simp [hl_at]))
  have bC := Cond.laysApart hdB hdC hdnB hdnC (by rw [hnB, Y.causeName]; decide)
  have bS := Cond.laysApart hdB hdS hdnB hdnS (by rw [hnB, Y.stackName]; decide)
  have bP := Cond.laysApart hdB hdP hdnB hdnP (by rw [hnB, Y.suppName]; decide)
  have hskip : SkipFacts T e.platform s (fun u => u) u0 ((preparedCellV T.toThrowableT (blank P1.m.cls kX) a u0 sen).withEntry W0.cur) :=
    ⟨{ ci198 := ci198, i198 := i198, fBack := fB }, ⟨hk198, hg198, ha198, hsB⟩, by
      have := fresh_default (c := P1.m.cls) tyB
      rw [htB] at this
      have this2 : (blank P1.m.cls kX).slots[fB.slot]? = some .null := this
      simpa [preparedCellV, Cell.setSlot, Cell.withEntry, Array.getElem?_setIfInBounds, bC, bS, bP, bC.symm, bS.symm, bP.symm, defaultValue] using this2, fun _ _ => rfl⟩
  obtain ⟨mk, vm1, hn1, X1, st1⟩ := pm_stepI X hexec hown (y := Bundle.init0 "LinkedTongueModel$Halt") rfl hlink (h (.instanceMethod (Bundle.init0 "LinkedTongueModel$Halt")) (by simp [hl_at, hl_nm, Bundle.chain0Atoms, Bundle.passAtoms])) (bytes := Bundle.five) (maxL := 1) (h (.code (Bundle.init0 "LinkedTongueModel$Halt") Bundle.five 1 none) (by simp [hl_at, hl_nm, Bundle.chain0Atoms, Bundle.passAtoms])) (by decide) (b := a) hg (argsL := []) (rest := rest) (pm_arity (n := 0) (by decide +kernel)) hstack hd6
  cases Option.some.inj (hn1.symm.trans hP1m)
  obtain ⟨vm2, X2, st2⟩ := X1.ctorPlainOffV hexec (g := { g with stack := rest }) hg hsize T L Z LZ (P1 :: Ps)
    (fun P hP => by rcases List.mem_cons.mp hP with rfl | hP; exact L1; exact hL P hP) ⟨hlink1, hpass⟩ (u0 := u0) (sen := sen) (self := a) (cell := blank P1.m.cls kX) (cellS := cellU)
    hcell (fun _ q => by cases q) (fun q => by cases q) rfl rfl hsel0 hselF hcellS hneS hknownS g7 w7
    (Takes.of_laid hk hord tyC (by rw [Y.causeType]; rfl)) (Takes.of_laid hk hord tyS (by rw [Y.stackType]; exact fits_refV_array _ u0)) (Takes.of_laid hk hord tyP (by rw [Y.suppType]; exact fits_refV_object _ sen)) Y.objLocals hskip htr [] hd6
    (by simp only [List.length_cons, hlen]; exact hRframes) (by simp only [List.length_cons, hlen]; exact hRlocals)
  exact ⟨vm2, T.fCause, T.fStack, T.fSupp, ⟨_, _, _, Y.cause⟩, ⟨_, _, _, Y.stack⟩, ⟨_, _, _, Y.supp⟩, X2, fun target ht => st1 target (st2 target ht)⟩
