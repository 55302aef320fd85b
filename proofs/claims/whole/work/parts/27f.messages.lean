/-! PART 27f: an exception with a message that a method makes: its constructor, a row of the pure machine. -/
theorem hm_ldcwS {p : Program} {l : Launch} {e : Env} {R : Room} {s : State} {m : MethodId} {args : Array Value} {below : List Frame} {meth : Method} {c : Code} {T : State} {locs : List Loc} {cells slots : Nat}
    (X : Stand p l e R s m args below meth c T locs cells slots) (hexec : p.tables.exec = Jvm.exec) {own text : String} {index : Nat} {a : Addr} (hown : s.vm.findClass own = some m.cls)
    (hconst : (Cond.stringRef own index text).before args s = true) (hev : (Term.string own index).eval args s none [] s = some (.ref a)) {g : JFrame} (hg : g.method = m) (hdg : decode c.code g.pc = .ok (.ldc_w index, 3)) :
    ∀ target, Steps p.tables e below (T.setTop { g with pc := g.pc + 3, stack := .ref a :: g.stack }) target → Steps p.tables e below (T.setTop g) target := by
  obtain ⟨k, cf, i, a', hk, hcf, hcp, -, hr, hev'⟩ := Cond.stringRef_spec hown hconst
  cases hev.symm.trans hev'
  obtain ⟨k', hk', he⟩ := X.warmed.alike.2.2 _ _ hk
  have hr' : k'.resolved[index]? = some (some (.string a)) := by
    rcases X.warmed.entry hk hk' index with h | ⟨h, -⟩
    · rw [h]; exact hr
    · rw [hr] at h; cases h
  intro target hrest
  subst hg
  jvm_step X.here [hexec, hdg, ldc_w.wp_string (e := e) (s := T) (f := g) X.here.top hk' (by rw [he]; exact hcf) hcp hr']
  exact hrest
theorem hm_ldcw {p : Program} {l : Launch} {e : Env} {R : Room} {s : State} {m : MethodId} {args : Array Value} {below : List Frame} {meth : Method} {c : Code} {H : Heap} {locs : List Loc} {cells slots : Nat} {Q : State → Prop} {cc : ByteArray} {pc : Nat} {ls : Array Slot} {rest : List Value} (hexec : p.tables.exec = Jvm.exec) (hb : c.code = cc) {own tx : String} {index q : Nat} (hown : s.vm.findClass own = some m.cls) (hZ : vk_R own index tx q s) (hdg : decode cc pc = .ok (.ldc_w index, 3))
    (k : W p l e R s m args below meth c H locs cells slots Q (F0 m (pc + 3) ls (.ref q :: rest))) : W p l e R s m args below meth c H locs cells slots Q (F0 m pc ls rest) := by
  intro T hT X
  obtain ⟨t, a1, b1⟩ := k T hT X
  exact ⟨t, hm_ldcwS X hexec hown (text := tx) (a := q) hZ.1 hZ.2 (g := F0 m pc ls rest) rfl (by rw [hb]; exact hdg) t a1, b1⟩
def hm_rte : String := "java/lang/RuntimeException"
def hm_at (C : String) (ix : Nat) (bytes : ByteArray) : List Cond := Bundle.throwableAtoms ++ (Bundle.throwableSAtoms ++ (Bundle.passSAtoms C "java/lang/RuntimeException" ix bytes ++ (Bundle.chainSAtoms "java/lang/RuntimeException" ["java/lang/Exception"] ++ [.instantiable C 6, .selects C Bundle.tFill0 Bundle.tFill0, .selects C Bundle.tFill Bundle.tFill, .lays C Bundle.tN "cause" "Ljava/lang/Throwable;", .lays C Bundle.tN "stackTrace" Bundle.steD, .lays C Bundle.tN "suppressedExceptions" Bundle.listD, .lays C Bundle.tN "detailMessage" "Ljava/lang/String;", .fieldLink Bundle.tN 198 Bundle.tN "backtrace" "Ljava/lang/Object;", .lays Bundle.tN Bundle.tN "backtrace" "Ljava/lang/Object;", .lays C Bundle.tN "backtrace" "Ljava/lang/Object;"])))
/-- what the constructor's bytes are: aload_0, aload_1, the one above, return -/
def hm_by (ix : Nat) (bytes : ByteArray) : Prop := decode bytes 0 = .ok (.aload_n 0, 1) ∧ decode bytes 1 = .ok (.aload_n 1, 1) ∧ decode bytes 2 = .ok (.invokespecial ix, 3) ∧ decode bytes 5 = .ok (.return_, 1)
set_option maxHeartbeats 4000000 in
theorem hm_ctor {p : Program} {l : Launch} {e : Env} {R : Room} {s : State} {m : MethodId} {args : Array Value} {below : List Frame} {meth : Method} {c : Code} {W0 : State} {locs : List Loc} {cells slots : Nat} (X : Stand p l e R s m args below meth c W0 locs cells slots) (hexec : p.tables.exec = Jvm.exec) (htr : e.platform.stackTraces = false) {own C : String} {ic ix B : Nat} {bytes : ByteArray} (hfC : Bundle.fit C = true) (hby : hm_by ix bytes) (hown : s.vm.findClass own = some m.cls) (h : ∀ a ∈ hm_at C ix bytes, a.before args s = true) (hlink : (Cond.methodLink own ic (Bundle.initS C)).before args s = true ∨ ∃ host, (Cond.methodLinkNest own ic (Bundle.initS C) host).before args s = true)
    {vU vS : Value} (hvU : vU = .null ∨ ∃ t, vU = .ref t) (hvS : vS = .null ∨ ∃ t, vS = .ref t) (hU : va_Z Bundle.tN "UNASSIGNED_STACK" Bundle.steD vU (fun q => B ≤ q) s s.heap) (hV : va_Z Bundle.tN "SUPPRESSED_SENTINEL" Bundle.listD vS (fun q => B ≤ q) s s.heap) (hold : ∀ q, q < s.heap.size → ¬ B ≤ q → W0.heap[q]? = s.heap[q]?)
    {a : Nat} {am : Nat} {cX : ClassId} {kX : Class} (hfound0 : s.vm.findClass C = some cX) (hkX : s.vm.classes[cX]? = some kX) (hcell : W0.heap[a]? = some (blank cX kX)) (hBa : B ≤ a)
    {g : JFrame} (hg : g.method = m) (hsize : g.locals.size = c.maxLocals) {rest : List Value} (hstack : g.stack = .ref am :: .ref a :: rest) (hd6 : decode c.code g.pc = .ok (.invokespecial ic, 3)) (hRframes : 5 < R.frames) (hRlocals : 2 * g.monitorRoom + (rest.map fun v => v.category).sum + 81 ≤ R.locals) :
    ∃ (vm2 : Vm) (fC fS fP fM : Field), (∃ cc k i, s.fieldFound? Bundle.tN "cause" "Ljava/lang/Throwable;" = some (cc, k, i, fC)) ∧ (∃ cc k i, s.fieldFound? Bundle.tN "stackTrace" Bundle.steD = some (cc, k, i, fS)) ∧ (∃ cc k i, s.fieldFound? Bundle.tN "suppressedExceptions" Bundle.listD = some (cc, k, i, fP)) ∧ (∃ cc k i, s.fieldFound? Bundle.tN "detailMessage" "Ljava/lang/String;" = some (cc, k, i, fM)) ∧
      Stand p l e R s m args below meth c ((W0.setVm vm2).setCell a ((((((blank cX kX).setSlot fC.slot (.ref a)).setSlot fS.slot vU).setSlot fP.slot vS).setSlot fS.slot vU).setSlot fM.slot (.ref am))) (locs ++ [⟨a, fC.slot⟩, ⟨a, fS.slot⟩, ⟨a, fP.slot⟩, ⟨a, fS.slot⟩, ⟨a, fM.slot⟩]) cells slots ∧
      ∀ target, Steps p.tables e below (((W0.setVm vm2).setCell a ((((((blank cX kX).setSlot fC.slot (.ref a)).setSlot fS.slot vU).setSlot fP.slot vS).setSlot fS.slot vU).setSlot fM.slot (.ref am))).setTop { g with pc := g.pc + 3, stack := rest }) target → Steps p.tables e below (W0.setTop g) target := by
  have howns : e.platform.frameOwnsMonitors = true := by rw [X.admits.platform]
  have hfin : e.platform.finalization = false := by rw [X.admits.platform]
  have hpl : e.platform.magicAccessors = ({} : Platform).magicAccessors := by rw [X.admits.platform]
  have a' : ∀ x, x ∈ hm_at C ix bytes → x.holds args s none s [] = true := fun x hx => h x hx
  obtain ⟨T, Z0, L, LZ0, Y⟩ := ThrowableC.of_atoms (args := args) howns hfin hpl (fun x hx => h x (by simp [hm_at, hx]))
  obtain ⟨Z, M, LZ, LM, hnZ⟩ := Init0T.ofS_atoms (args := args) hpl L Y (fun x hx => h x (by simp [hm_at, hx]))
  obtain ⟨P1, Ps, hlen, L1, hL, hP1m, hlink1, hpass⟩ := Bundle.chainS (args := args) hpl hnZ ["java/lang/Exception"] "java/lang/RuntimeException" (by decide +kernel) (by decide +kernel) (fun x hx => h x (by simp [hm_at, hx]))
  obtain ⟨P0, L0, hm0, hs0⟩ := PassC.ofS_atoms (args := args) (s := s) hpl (X := C) (Y := "java/lang/RuntimeException") (Bundle.fit_spec hfC).1 (by decide) hby.1 hby.2.1 hby.2.2.1 hby.2.2.2 (fun x hx => h x (by simp [hm_at, hx]))
  have hfound : s.vm.findClass C = some P0.m.cls := findClass_of_methodNamed hm0
  cases Option.some.inj (hfound0.symm.trans hfound)
  obtain ⟨c1, kX', hc1, hk, hord, -, -, hn6⟩ := Cond.instantiable_spec (a' (.instantiable C 6) (by simp [hm_at]))
  cases Option.some.inj (hc1.symm.trans hfound)
  cases Option.some.inj (hkX.symm.trans hk)
  have hsel0 : selectMethod e.platform s.vm P0.m.cls T.fill0 = .method T.fill0 := by
    obtain ⟨c2, r2, m2, q1, q2, q3, q4, -⟩ := Cond.selects_spec (a' (.selects C Bundle.tFill0 Bundle.tFill0) (by simp [hm_at]))
    cases Option.some.inj (q1.symm.trans hfound)
    cases Option.some.inj (q2.symm.trans (State.methodFound?_of_named Y.fill0 (by decide)))
    cases Option.some.inj (q3.symm.trans Y.fill0)
    rw [Launch.admits_selectMethod X.admits]; exact q4
  have hselF : selectMethod e.platform s.vm P0.m.cls T.fill = .method T.fill := by
    obtain ⟨c2, r2, m2, q1, q2, q3, q4, -⟩ := Cond.selects_spec (a' (.selects C Bundle.tFill Bundle.tFill) (by simp [hm_at]))
    cases Option.some.inj (q1.symm.trans hfound)
    cases Option.some.inj (q2.symm.trans (State.methodFound?_of_named Y.fill (by decide)))
    cases Option.some.inj (q3.symm.trans Y.fill)
    rw [Launch.admits_selectMethod X.admits]; exact q4
  obtain ⟨cf, kf, fi, f2, aU, cellU, g1, g2, g3, g4, g5, g6, g7, g8⟩ := hU
  obtain ⟨cf', kf', fi', f2', aV, cellV, w1, w2, w3, w4, w5, w6, w7, w8⟩ := hV
  cases Option.some.inj (g1.symm.trans Y.unassigned)
  cases Option.some.inj (w1.symm.trans Y.sentinel)
  have eU : aU = T.aS := Option.some.inj (g4.symm.trans L.statics)
  have eV : aV = T.aS := Option.some.inj (w4.symm.trans L.statics)
  subst eU
  rw [eV] at w5
  cases Option.some.inj (g5.symm.trans w5)
  obtain ⟨u0, hu0⟩ := hl_rv hvU
  obtain ⟨sen, hsen⟩ := hl_rv hvS
  subst hu0
  subst hsen
  obtain ⟨ci198, i198, fB, hk198, hg198, ha198, hsB, -, hnB, htB, hffB⟩ := Cond.ownField (t := .object "java/lang/Object") Y.found L.cls (by decide +kernel) (a' (.fieldLink Bundle.tN 198 Bundle.tN "backtrace" "Ljava/lang/Object;") (by simp [hm_at])) (a' (.lays Bundle.tN Bundle.tN "backtrace" "Ljava/lang/Object;") (by simp [hm_at])) e.platform hpl
  have hcellS : W0.heap[T.aS]? = some cellU := by rw [hold _ (Array.getElem?_eq_some_iff.mp g5).1 g8]; exact g5
  have hknownS : cellU.vm ≠ .unknown := by
    intro hu
    rw [hu] at g6
    cases g6
  have hneS : T.aS ≠ a := fun q => g8 (by rw [q]; exact hBa)
  obtain ⟨iM, hffM⟩ := Y.msg
  obtain ⟨tyC, dC, hdC, hdnC⟩ := Cond.laysAt hfound hk Y.cause (a' (.lays C Bundle.tN "cause" "Ljava/lang/Throwable;") (by simp [hm_at]))
  obtain ⟨tyS, dS, hdS, hdnS⟩ := Cond.laysAt hfound hk Y.stack (a' (.lays C Bundle.tN "stackTrace" Bundle.steD) (by simp [hm_at]))
  obtain ⟨tyP, dP, hdP, hdnP⟩ := Cond.laysAt hfound hk Y.supp (a' (.lays C Bundle.tN "suppressedExceptions" Bundle.listD) (by simp [hm_at]))
  obtain ⟨tyM, dM, hdM, hdnM⟩ := Cond.laysAt hfound hk hffM (a' (.lays C Bundle.tN "detailMessage" "Ljava/lang/String;") (by simp [hm_at]))
  obtain ⟨tyB, dB, hdB, hdnB⟩ := Cond.laysAt hfound hk hffB (a' (.lays C Bundle.tN "backtrace" "Ljava/lang/Object;") (by simp [hm_at]))
  have bC := Cond.laysApart hdB hdC hdnB hdnC (by rw [hnB, Y.causeName]; decide)
  have bS := Cond.laysApart hdB hdS hdnB hdnS (by rw [hnB, Y.stackName]; decide)
  have bP := Cond.laysApart hdB hdP hdnB hdnP (by rw [hnB, Y.suppName]; decide)
  have hskip : SkipFacts T e.platform s (fun u => u) u0 ((preparedCellV T.toThrowableT (blank P0.m.cls kX) a u0 sen).withEntry W0.cur) :=
    ⟨{ ci198 := ci198, i198 := i198, fBack := fB }, ⟨hk198, hg198, ha198, hsB⟩, by
      have := fresh_default (c := P0.m.cls) tyB
      rw [htB] at this
      have this2 : (blank P0.m.cls kX).slots[fB.slot]? = some .null := this
      simpa [preparedCellV, Cell.setSlot, Cell.withEntry, Array.getElem?_setIfInBounds, bC, bS, bP, bC.symm, bS.symm, bP.symm, defaultValue] using this2, fun _ _ => rfl⟩
  obtain ⟨mk, vm1, hn1, X1, st1⟩ := pm_stepI X hexec hown (y := Bundle.initS C) rfl hlink (h (.instanceMethod (Bundle.initS C)) (by simp [hm_at, Bundle.passSAtoms])) (bytes := bytes) (maxL := 2) (h (.code (Bundle.initS C) bytes 2 none) (by simp [hm_at, Bundle.passSAtoms])) (Bundle.fit_spec hfC).2 (b := a) hg (argsL := [.ref am]) (rest := rest) (pm_arity (y := "(Ljava/lang/String;)V") (n := 1) (by decide +kernel)) hstack hd6
  cases Option.some.inj (hn1.symm.trans hm0)
  obtain ⟨vm2, X2, st2⟩ := X1.ctorMessageOffV hexec (g := { g with stack := rest }) hg hsize T L Z LZ M LM (P0 :: P1 :: Ps)
    (fun P hP => by rcases List.mem_cons.mp hP with rfl | hP; exact L0; rcases List.mem_cons.mp hP with rfl | hP; exact L1; exact hL P hP) ⟨Option.some.inj (hs0.symm.trans hP1m), hlink1, hpass⟩ (u0 := u0) (sen := sen) (self := a) (msg := .ref am) rfl (cell := blank P0.m.cls kX) (cellS := cellU)
    hcell (fun _ q => by cases q) (fun q => by cases q) rfl rfl hsel0 hselF hcellS hneS hknownS g7 w7
    (Takes.of_laid hk hord tyC (by rw [Y.causeType]; rfl)) (Takes.of_laid hk hord tyS (by rw [Y.stackType]; exact fits_refV_array _ u0)) (Takes.of_laid hk hord tyP (by rw [Y.suppType]; exact fits_refV_object _ sen)) (Takes.of_laid hk hord tyM (by rw [Y.msgType]; rfl)) Y.objLocals hskip htr [] hd6
    (by simp only [List.length_cons, hlen]; exact hRframes) (by simp only [List.length_cons, hlen]; exact hRlocals)
  exact ⟨vm2, T.fCause, T.fStack, T.fSupp, T.fMsg, ⟨_, _, _, Y.cause⟩, ⟨_, _, _, Y.stack⟩, ⟨_, _, _, Y.supp⟩, ⟨_, _, _, hffM⟩, X2, fun target ht => st1 target (st2 target ht)⟩
section PE27F
variable {p : Program} {l : Launch} {e : Env} {R : Room} {s : State} {m : MethodId} {args : Array Value} {below : List Frame} {meth : Method} {c : Code} {Q : State → Prop}
variable {ex : Nat → Nat} {B : Nat} {dA : Nat → ClassId} {D : va_G} {cl : List vw_C} {nL n0 z0 : Nat} {cc : ByteArray} {pc : Nat} {L : pm_L} {st : List Value} {h : pm_H}
variable {tys : List (ClassId × FieldType)} {Ts : List Cond} {own : String}
set_option maxHeartbeats 4000000 in
theorem pm_newMsg (hx : p.tables.exec = Jvm.exec) (hb : c.code = cc) (hml : c.maxLocals = nL) (hls : l.stackTraces = false) (hts : ∀ w ∈ Ts, w.before args s = true) (hown : s.vm.findClass own = some m.cls) (hK : va_K D cl tys s) {C tx : String} {T : u_T} {ci index ic ix kx j : Nat} {bytes : ByteArray} {vs : List Value} (hfC : Bundle.fit C = true) (hby : hm_by ix bytes) (hin : ∀ w ∈ u_ws C T 6, w ∈ Ts) (ty : Nat → FieldType) (hty : ∀ k, k < 6 → parseFieldDescriptor (T k).2.2.1 = some (ty k)) (hnm : ∀ a, a < 6 → ∀ b, b < 6 → a ≠ b → (T a).2.1 ≠ (T b).2.1) (hcl : (Cond.classLink own index C).before args s = true) (hinst : (Cond.instantiable C 6).before args s = true) (hini : (Cond.initialized C).before args s = true) (hc : cl[ci]? = some (C, T, 6)) (hvs : vs.length = 6) (hfs : ∀ j, j < 6 → defaultValue (ty j) = vp_V (vs.map (pm_v ex B)) j) (hat : ∀ a ∈ hm_at C ix bytes, a.before args s = true) (hZ : vk_R own kx tx (ex j) s) (hlink : (Cond.methodLink own ic (Bundle.initS C)).before args s = true ∨ ∃ host, (Cond.methodLinkNest own ic (Bundle.initS C) host).before args s = true)
    {jU jS : Value} (hjU : pm_v ex B jU = .null ∨ ∃ t, pm_v ex B jU = .ref t) (hjS : pm_v ex B jS = .null ∨ ∃ t, pm_v ex B jS = .ref t) (hU : va_Z Bundle.tN "UNASSIGNED_STACK" Bundle.steD (pm_v ex B jU) (fun q => B ≤ q) s s.heap) (hV : va_Z Bundle.tN "SUPPRESSED_SENTINEL" Bundle.listD (pm_v ex B jS) (fun q => B ≤ q) s s.heap) {kC kS kP kM : Nat} (hkC : kC < 6) (hkS : kS < 6) (hkP : kP < 6) (hkM : kM < 6) (hTC : ((T kC).1, (T kC).2.1, (T kC).2.2.1) = (Bundle.tN, "cause", "Ljava/lang/Throwable;")) (hTS : ((T kS).1, (T kS).2.1, (T kS).2.2.1) = (Bundle.tN, "stackTrace", Bundle.steD)) (hTP : ((T kP).1, (T kP).2.1, (T kP).2.2.1) = (Bundle.tN, "suppressedExceptions", Bundle.listD)) (hTM : ((T kM).1, (T kM).2.1, (T kM).2.2.1) = (Bundle.tN, "detailMessage", "Ljava/lang/String;"))
    (hB : s.heap.size = B + n0) (hn0 : n0 ≤ h.length) (hz0 : z0 ≤ pm_sz h) (hcells : h.length - n0 + 1 ≤ R.cells) (hslots : pm_sz h - z0 + 6 ≤ R.slots) (hfr : 5 < R.frames) (hlo : (st.map fun v => v.category).sum + 82 ≤ R.locals) (hd1 : decode cc pc = .ok (.new index, 3)) (hd2 : decode cc (pc + 3) = .ok (.dup, 1)) (hd4 : decode cc (pc + 4) = .ok (.ldc kx, 2)) (hd3 : decode cc (pc + 4 + 2) = .ok (.invokespecial ic, 3))
    (k : pm_W p l e R s m args below meth c Q ex B dA D cl nL n0 z0 (pc + 7 + 2) L (.ref h.length :: st) (h ++ [.inr (ci, ((((vs.set kC (.ref h.length)).set kS jU).set kP jS).set kS jU).set kM (.retAddr j))])) : pm_W p l e R s m args below meth c Q ex B dA D cl nL n0 z0 pc L st h := fun ls H locs hl hP hS T0 hT0 X0 => by
  have hz : H.size = B + h.length := hT0 ▸ pm_size X0 hB hn0 (by rw [hT0]; exact hP) (by rw [hT0]; exact hS.1)
  have hKn := hK.1 ci _ hc
  refine W.newcK hx hb hown hcl hinst hini (g := F0 m pc ls (st.map (pm_v ex B))) rfl hd1 hcells hslots hKn.2.1 rfl (fun H1 kX hkX e1 z1 o1 => ?_) T0 hT0 X0
  refine lv_dup (pc := pc + 3) hx hb hd2 rfl ?_
  refine va_ldcS (pc := pc + 3 + 1) hx hb hown hZ hd4 ?_
  intro T1 hT1 X1
  have htr : e.platform.stackTraces = false := by rw [X1.admits.platform]; exact hls
  obtain ⟨vm2, fC, fS, fP, fM, ⟨_, _, _, qC⟩, ⟨_, _, _, qS⟩, ⟨_, _, _, qP⟩, ⟨_, _, _, qM⟩, X2, st2⟩ := hm_ctor X1 hx htr (B := B) hfC hby hown hat hlink hjU hjS hU hV (fun q q1 q2 => by rw [hT1, o1 q (Nat.lt_of_lt_of_le q1 hS.1)]; exact hS.2.1 q q1 q2) hKn.2.1 hkX (a := H.size) (am := ex j) (by rw [hT1]; exact e1) (by omega) (g := F0 m (pc + 3 + 1 + 2) ls (.ref (ex j) :: .ref H.size :: .ref H.size :: st.map (pm_v ex B))) rfl (hl.1.trans hml.symm) (rest := .ref H.size :: st.map (pm_v ex B)) rfl (by rw [hb]; exact hd3) hfr (by
    show 2 * 0 + ((Value.ref H.size :: st.map (pm_v ex B)).map fun v => v.category).sum + 81 ≤ R.locals
    rw [List.map_cons, List.sum_cons, pm_catsum]
    show 2 * 0 + (1 + _) + 81 ≤ _
    omega)
  have hap := va_apart (own := own) hts hin ty hty hnm hK hc
  have slot : ∀ (k0 : Nat) (a b d : String) (c0 : ClassId) (k1 : Class) (i0 : Nat) (f : Field), k0 < 6 → ((T k0).1, (T k0).2.1, (T k0).2.2.1) = (a, b, d) → s.fieldFound? a b d = some (c0, k1, i0, f) → f.slot = D.2 ci k0 := by
    intro k0 a b d c0 k1 i0 f hk hT hf
    obtain ⟨cf, kf, fi, fd, hi, he⟩ := hKn.1 k0 hk
    simp only [Prod.mk.injEq] at hT
    rw [hT.1, hT.2.1, hT.2.2, hf] at hi
    cases hi
    exact he
  have eC := slot kC _ _ _ _ _ _ _ hkC hTC qC
  have eS := slot kS _ _ _ _ _ _ _ hkS hTS qS
  have eP := slot kP _ _ _ _ _ _ _ hkP hTP qP
  have eM := slot kM _ _ _ _ _ _ _ hkM hTM qM
  rw [eC, eS, eP, eM] at X2
  rw [eC, eS, eP, eM] at st2
  obtain ⟨cell0, b1, b2, b3, b4⟩ := (u_born ty hts hin hKn hkX e1 hty).to hfs
  have eb : blank (D.1 ci) kX = cell0 := Option.some.inj (e1.symm.trans b1)
  have c1 := hl_set hap b4 hkC (.ref H.size)
  have c2 := hl_set hap c1 hkS (pm_v ex B jU)
  have c3 := hl_set hap c2 hkP (pm_v ex B jS)
  have c4 := hl_set hap c3 hkS (pm_v ex B jU)
  have c5 := hl_set hap c4 hkM (.ref (ex j))
  rw [← eb] at c5 b2 b3
  generalize hcell2 : ((((((blank (D.1 ci) kX).setSlot (D.2 ci kC) (.ref H.size)).setSlot (D.2 ci kS) (pm_v ex B jU)).setSlot (D.2 ci kP) (pm_v ex B jS)).setSlot (D.2 ci kS) (pm_v ex B jU)).setSlot (D.2 ci kM) (.ref (ex j))) = cell2 at *
  have hlt : H.size < (T1.setVm vm2).heap.size := by show H.size < T1.heap.size; rw [hT1, z1]; omega
  have hnew : ((T1.setVm vm2).setCell H.size cell2).heap[H.size]? = some cell2 := heapAt_setCell_self (s := T1.setVm vm2) cell2 hlt
  have hoth : ∀ q, q < H.size → ((T1.setVm vm2).setCell H.size cell2).heap[q]? = H[q]? := fun q hq => by
    rw [State.heap_setCell_other (Nat.ne_of_gt hq)]
    show T1.heap[q]? = _
    rw [hT1, o1 q hq]
  have hsz : ((T1.setVm vm2).setCell H.size cell2).heap.size = H.size + 1 := by
    have e9 : ((T1.setVm vm2).setCell H.size cell2).heap.size = T1.heap.size := by simp [State.setCell]
    rw [e9, hT1, z1]
  have hP2 : va_P D cl (pm_w ex B dA (h ++ [.inr (ci, ((((vs.set kC (.ref h.length)).set kS jU).set kP jS).set kS jU).set kM (.retAddr j))])) ((T1.setVm vm2).setCell H.size cell2).heap := by
    intro j0 q hq
    rw [pm_w_get] at hq
    rcases Nat.lt_or_ge j0 h.length with hj | hj
    · rw [List.getElem?_append_left hj] at hq
      have h1 := hP j0 q (by rw [pm_w_get]; exact hq)
      refine h1.kept ?_
      obtain ⟨x, hx2⟩ : ∃ x, h[j0]? = some x := ⟨_, List.getElem?_eq_getElem hj⟩
      rw [hx2] at hq
      cases hq
      exact hoth _ (by show B + j0 < _; omega)
    · rw [List.getElem?_append_right hj] at hq
      have hj0 : j0 - h.length = 0 := by
        rcases Nat.eq_zero_or_pos (j0 - h.length) with h0 | h0
        · exact h0
        · rw [List.getElem?_eq_none (by show 1 ≤ _; omega)] at hq
          cases hq
      rw [hj0] at hq
      cases hq
      refine ⟨_, hc, cell2, ?_, ?_, ?_, fun k1 hk1 => ?_⟩
      · show ((T1.setVm vm2).setCell H.size cell2).heap[B + j0]? = _
        rw [show B + j0 = H.size by omega]
        exact hnew
      · rw [← hcell2]; rfl
      · rw [← hcell2]; rfl
      · rw [c5 k1 hk1]
        congr 1
        show _ = vp_V (List.map (pm_v ex B) (((((vs.set kC (.ref h.length)).set kS jU).set kP jS).set kS jU).set kM (.retAddr j))) k1
        rw [List.map_set, List.map_set, List.map_set, List.map_set, List.map_set, hl_V (by simp [hvs]; exact hkM), hl_V (by simp [hvs]; exact hkS), hl_V (by simp [hvs]; exact hkP), hl_V (by simp [hvs]; exact hkS), hl_V (by simp [hvs]; exact hkC)]
        show _ = if k1 = kM then Value.ref (ex j) else if k1 = kS then pm_v ex B jU else if k1 = kP then pm_v ex B jS else if k1 = kS then pm_v ex B jU else if k1 = kC then Value.ref (B + h.length) else vp_V (List.map (pm_v ex B) vs) k1
        rw [hz]
  have hS2 : va_S (fun q => B ≤ q) s.heap ((T1.setVm vm2).setCell H.size cell2).heap (locs ++ [⟨H.size, D.2 ci kC⟩, ⟨H.size, D.2 ci kS⟩, ⟨H.size, D.2 ci kP⟩, ⟨H.size, D.2 ci kS⟩, ⟨H.size, D.2 ci kM⟩]) := by
    refine ⟨by rw [hsz]; exact Nat.le_trans hS.1 (Nat.le_succ _), fun q a1 a2 => ?_, fun q hq => ?_⟩
    · rw [hoth q (Nat.lt_of_lt_of_le a1 hS.1)]
      exact hS.2.1 q a1 a2
    · rcases List.mem_append.mp hq with a1 | a1
      · exact hS.2.2 q a1
      · simp only [List.mem_cons, List.not_mem_nil, or_false] at a1
        rcases a1 with rfl | rfl | rfl | rfl | rfl <;> (show B ≤ H.size; omega)
  have k2 := k ls _ _ hl hP2 hS2
  rw [List.length_append, pm_sz_push, show pm_n (.inr (ci, ((((vs.set kC (.ref h.length)).set kS jU).set kP jS).set kS jU).set kM (.retAddr j))) = 6 from (by show List.length _ = 6; simp [hvs])] at k2
  rw [show h.length + [(Sum.inr (ci, ((((vs.set kC (.ref h.length)).set kS jU).set kP jS).set kS jU).set kM (.retAddr j)) : pm_E)].length - n0 = h.length - n0 + 1 from (by show h.length + 1 - n0 = _; omega), show pm_sz h + 6 - z0 = pm_sz h - z0 + 6 by omega] at k2
  obtain ⟨t2, a1, b1⟩ := k2 _ rfl X2
  refine ⟨t2, st2 t2 ?_, b1⟩
  rw [show (Value.ref h.length :: st).map (pm_v ex B) = .ref H.size :: st.map (pm_v ex B) from (by rw [List.map_cons]; show Value.ref (B + h.length) :: _ = _; rw [hz]), show pc + 7 + 2 = pc + 3 + 1 + 2 + 3 by omega] at a1
  exact a1
set_option maxHeartbeats 4000000 in
theorem pm_newMsgW (hx : p.tables.exec = Jvm.exec) (hb : c.code = cc) (hml : c.maxLocals = nL) (hls : l.stackTraces = false) (hts : ∀ w ∈ Ts, w.before args s = true) (hown : s.vm.findClass own = some m.cls) (hK : va_K D cl tys s) {C tx : String} {T : u_T} {ci index ic ix kx j : Nat} {bytes : ByteArray} {vs : List Value} (hfC : Bundle.fit C = true) (hby : hm_by ix bytes) (hin : ∀ w ∈ u_ws C T 6, w ∈ Ts) (ty : Nat → FieldType) (hty : ∀ k, k < 6 → parseFieldDescriptor (T k).2.2.1 = some (ty k)) (hnm : ∀ a, a < 6 → ∀ b, b < 6 → a ≠ b → (T a).2.1 ≠ (T b).2.1) (hcl : (Cond.classLink own index C).before args s = true) (hinst : (Cond.instantiable C 6).before args s = true) (hini : (Cond.initialized C).before args s = true) (hc : cl[ci]? = some (C, T, 6)) (hvs : vs.length = 6) (hfs : ∀ j, j < 6 → defaultValue (ty j) = vp_V (vs.map (pm_v ex B)) j) (hat : ∀ a ∈ hm_at C ix bytes, a.before args s = true) (hZ : vk_R own kx tx (ex j) s) (hlink : (Cond.methodLink own ic (Bundle.initS C)).before args s = true ∨ ∃ host, (Cond.methodLinkNest own ic (Bundle.initS C) host).before args s = true)
    {jU jS : Value} (hjU : pm_v ex B jU = .null ∨ ∃ t, pm_v ex B jU = .ref t) (hjS : pm_v ex B jS = .null ∨ ∃ t, pm_v ex B jS = .ref t) (hU : va_Z Bundle.tN "UNASSIGNED_STACK" Bundle.steD (pm_v ex B jU) (fun q => B ≤ q) s s.heap) (hV : va_Z Bundle.tN "SUPPRESSED_SENTINEL" Bundle.listD (pm_v ex B jS) (fun q => B ≤ q) s s.heap) {kC kS kP kM : Nat} (hkC : kC < 6) (hkS : kS < 6) (hkP : kP < 6) (hkM : kM < 6) (hTC : ((T kC).1, (T kC).2.1, (T kC).2.2.1) = (Bundle.tN, "cause", "Ljava/lang/Throwable;")) (hTS : ((T kS).1, (T kS).2.1, (T kS).2.2.1) = (Bundle.tN, "stackTrace", Bundle.steD)) (hTP : ((T kP).1, (T kP).2.1, (T kP).2.2.1) = (Bundle.tN, "suppressedExceptions", Bundle.listD)) (hTM : ((T kM).1, (T kM).2.1, (T kM).2.2.1) = (Bundle.tN, "detailMessage", "Ljava/lang/String;"))
    (hB : s.heap.size = B + n0) (hn0 : n0 ≤ h.length) (hz0 : z0 ≤ pm_sz h) (hcells : h.length - n0 + 1 ≤ R.cells) (hslots : pm_sz h - z0 + 6 ≤ R.slots) (hfr : 5 < R.frames) (hlo : (st.map fun v => v.category).sum + 82 ≤ R.locals) (hd1 : decode cc pc = .ok (.new index, 3)) (hd2 : decode cc (pc + 3) = .ok (.dup, 1)) (hd4 : decode cc (pc + 4) = .ok (.ldc_w kx, 3)) (hd3 : decode cc (pc + 4 + 3) = .ok (.invokespecial ic, 3))
    (k : pm_W p l e R s m args below meth c Q ex B dA D cl nL n0 z0 (pc + 7 + 3) L (.ref h.length :: st) (h ++ [.inr (ci, ((((vs.set kC (.ref h.length)).set kS jU).set kP jS).set kS jU).set kM (.retAddr j))])) : pm_W p l e R s m args below meth c Q ex B dA D cl nL n0 z0 pc L st h := fun ls H locs hl hP hS T0 hT0 X0 => by
  have hz : H.size = B + h.length := hT0 ▸ pm_size X0 hB hn0 (by rw [hT0]; exact hP) (by rw [hT0]; exact hS.1)
  have hKn := hK.1 ci _ hc
  refine W.newcK hx hb hown hcl hinst hini (g := F0 m pc ls (st.map (pm_v ex B))) rfl hd1 hcells hslots hKn.2.1 rfl (fun H1 kX hkX e1 z1 o1 => ?_) T0 hT0 X0
  refine lv_dup (pc := pc + 3) hx hb hd2 rfl ?_
  refine hm_ldcw (pc := pc + 3 + 1) hx hb hown hZ hd4 ?_
  intro T1 hT1 X1
  have htr : e.platform.stackTraces = false := by rw [X1.admits.platform]; exact hls
  obtain ⟨vm2, fC, fS, fP, fM, ⟨_, _, _, qC⟩, ⟨_, _, _, qS⟩, ⟨_, _, _, qP⟩, ⟨_, _, _, qM⟩, X2, st2⟩ := hm_ctor X1 hx htr (B := B) hfC hby hown hat hlink hjU hjS hU hV (fun q q1 q2 => by rw [hT1, o1 q (Nat.lt_of_lt_of_le q1 hS.1)]; exact hS.2.1 q q1 q2) hKn.2.1 hkX (a := H.size) (am := ex j) (by rw [hT1]; exact e1) (by omega) (g := F0 m (pc + 3 + 1 + 3) ls (.ref (ex j) :: .ref H.size :: .ref H.size :: st.map (pm_v ex B))) rfl (hl.1.trans hml.symm) (rest := .ref H.size :: st.map (pm_v ex B)) rfl (by rw [hb]; exact hd3) hfr (by
    show 2 * 0 + ((Value.ref H.size :: st.map (pm_v ex B)).map fun v => v.category).sum + 81 ≤ R.locals
    rw [List.map_cons, List.sum_cons, pm_catsum]
    show 2 * 0 + (1 + _) + 81 ≤ _
    omega)
  have hap := va_apart (own := own) hts hin ty hty hnm hK hc
  have slot : ∀ (k0 : Nat) (a b d : String) (c0 : ClassId) (k1 : Class) (i0 : Nat) (f : Field), k0 < 6 → ((T k0).1, (T k0).2.1, (T k0).2.2.1) = (a, b, d) → s.fieldFound? a b d = some (c0, k1, i0, f) → f.slot = D.2 ci k0 := by
    intro k0 a b d c0 k1 i0 f hk hT hf
    obtain ⟨cf, kf, fi, fd, hi, he⟩ := hKn.1 k0 hk
    simp only [Prod.mk.injEq] at hT
    rw [hT.1, hT.2.1, hT.2.2, hf] at hi
    cases hi
    exact he
  have eC := slot kC _ _ _ _ _ _ _ hkC hTC qC
  have eS := slot kS _ _ _ _ _ _ _ hkS hTS qS
  have eP := slot kP _ _ _ _ _ _ _ hkP hTP qP
  have eM := slot kM _ _ _ _ _ _ _ hkM hTM qM
  rw [eC, eS, eP, eM] at X2
  rw [eC, eS, eP, eM] at st2
  obtain ⟨cell0, b1, b2, b3, b4⟩ := (u_born ty hts hin hKn hkX e1 hty).to hfs
  have eb : blank (D.1 ci) kX = cell0 := Option.some.inj (e1.symm.trans b1)
  have c1 := hl_set hap b4 hkC (.ref H.size)
  have c2 := hl_set hap c1 hkS (pm_v ex B jU)
  have c3 := hl_set hap c2 hkP (pm_v ex B jS)
  have c4 := hl_set hap c3 hkS (pm_v ex B jU)
  have c5 := hl_set hap c4 hkM (.ref (ex j))
  rw [← eb] at c5 b2 b3
  generalize hcell2 : ((((((blank (D.1 ci) kX).setSlot (D.2 ci kC) (.ref H.size)).setSlot (D.2 ci kS) (pm_v ex B jU)).setSlot (D.2 ci kP) (pm_v ex B jS)).setSlot (D.2 ci kS) (pm_v ex B jU)).setSlot (D.2 ci kM) (.ref (ex j))) = cell2 at *
  have hlt : H.size < (T1.setVm vm2).heap.size := by show H.size < T1.heap.size; rw [hT1, z1]; omega
  have hnew : ((T1.setVm vm2).setCell H.size cell2).heap[H.size]? = some cell2 := heapAt_setCell_self (s := T1.setVm vm2) cell2 hlt
  have hoth : ∀ q, q < H.size → ((T1.setVm vm2).setCell H.size cell2).heap[q]? = H[q]? := fun q hq => by
    rw [State.heap_setCell_other (Nat.ne_of_gt hq)]
    show T1.heap[q]? = _
    rw [hT1, o1 q hq]
  have hsz : ((T1.setVm vm2).setCell H.size cell2).heap.size = H.size + 1 := by
    have e9 : ((T1.setVm vm2).setCell H.size cell2).heap.size = T1.heap.size := by simp [State.setCell]
    rw [e9, hT1, z1]
  have hP2 : va_P D cl (pm_w ex B dA (h ++ [.inr (ci, ((((vs.set kC (.ref h.length)).set kS jU).set kP jS).set kS jU).set kM (.retAddr j))])) ((T1.setVm vm2).setCell H.size cell2).heap := by
    intro j0 q hq
    rw [pm_w_get] at hq
    rcases Nat.lt_or_ge j0 h.length with hj | hj
    · rw [List.getElem?_append_left hj] at hq
      have h1 := hP j0 q (by rw [pm_w_get]; exact hq)
      refine h1.kept ?_
      obtain ⟨x, hx2⟩ : ∃ x, h[j0]? = some x := ⟨_, List.getElem?_eq_getElem hj⟩
      rw [hx2] at hq
      cases hq
      exact hoth _ (by show B + j0 < _; omega)
    · rw [List.getElem?_append_right hj] at hq
      have hj0 : j0 - h.length = 0 := by
        rcases Nat.eq_zero_or_pos (j0 - h.length) with h0 | h0
        · exact h0
        · rw [List.getElem?_eq_none (by show 1 ≤ _; omega)] at hq
          cases hq
      rw [hj0] at hq
      cases hq
      refine ⟨_, hc, cell2, ?_, ?_, ?_, fun k1 hk1 => ?_⟩
      · show ((T1.setVm vm2).setCell H.size cell2).heap[B + j0]? = _
        rw [show B + j0 = H.size by omega]
        exact hnew
      · rw [← hcell2]; rfl
      · rw [← hcell2]; rfl
      · rw [c5 k1 hk1]
        congr 1
        show _ = vp_V (List.map (pm_v ex B) (((((vs.set kC (.ref h.length)).set kS jU).set kP jS).set kS jU).set kM (.retAddr j))) k1
        rw [List.map_set, List.map_set, List.map_set, List.map_set, List.map_set, hl_V (by simp [hvs]; exact hkM), hl_V (by simp [hvs]; exact hkS), hl_V (by simp [hvs]; exact hkP), hl_V (by simp [hvs]; exact hkS), hl_V (by simp [hvs]; exact hkC)]
        show _ = if k1 = kM then Value.ref (ex j) else if k1 = kS then pm_v ex B jU else if k1 = kP then pm_v ex B jS else if k1 = kS then pm_v ex B jU else if k1 = kC then Value.ref (B + h.length) else vp_V (List.map (pm_v ex B) vs) k1
        rw [hz]
  have hS2 : va_S (fun q => B ≤ q) s.heap ((T1.setVm vm2).setCell H.size cell2).heap (locs ++ [⟨H.size, D.2 ci kC⟩, ⟨H.size, D.2 ci kS⟩, ⟨H.size, D.2 ci kP⟩, ⟨H.size, D.2 ci kS⟩, ⟨H.size, D.2 ci kM⟩]) := by
    refine ⟨by rw [hsz]; exact Nat.le_trans hS.1 (Nat.le_succ _), fun q a1 a2 => ?_, fun q hq => ?_⟩
    · rw [hoth q (Nat.lt_of_lt_of_le a1 hS.1)]
      exact hS.2.1 q a1 a2
    · rcases List.mem_append.mp hq with a1 | a1
      · exact hS.2.2 q a1
      · simp only [List.mem_cons, List.not_mem_nil, or_false] at a1
        rcases a1 with rfl | rfl | rfl | rfl | rfl <;> (show B ≤ H.size; omega)
  have k2 := k ls _ _ hl hP2 hS2
  rw [List.length_append, pm_sz_push, show pm_n (.inr (ci, ((((vs.set kC (.ref h.length)).set kS jU).set kP jS).set kS jU).set kM (.retAddr j))) = 6 from (by show List.length _ = 6; simp [hvs])] at k2
  rw [show h.length + [(Sum.inr (ci, ((((vs.set kC (.ref h.length)).set kS jU).set kP jS).set kS jU).set kM (.retAddr j)) : pm_E)].length - n0 = h.length - n0 + 1 from (by show h.length + 1 - n0 = _; omega), show pm_sz h + 6 - z0 = pm_sz h - z0 + 6 by omega] at k2
  obtain ⟨t2, a1, b1⟩ := k2 _ rfl X2
  refine ⟨t2, st2 t2 ?_, b1⟩
  rw [show (Value.ref h.length :: st).map (pm_v ex B) = .ref H.size :: st.map (pm_v ex B) from (by rw [List.map_cons]; show Value.ref (B + h.length) :: _ = _; rw [hz]), show pc + 7 + 3 = pc + 3 + 1 + 3 + 3 by omega] at a1
  exact a1
end PE27F
def hm_six : ByteArray := ⟨#[0x2a, 0x2b, 0xb7, 0x00, 0x0d, 0xb1]⟩
theorem hm_by7 : hm_by 7 Bundle.six := ⟨Bundle.six_0, Bundle.six_1, Bundle.six_2, Bundle.six_5⟩
theorem hm_by13 : hm_by 13 hm_six := ⟨by decide +kernel, by decide +kernel, by decide +kernel, by decide +kernel⟩
/-- the exceptions that the class throws: their places among the classes are behind the program's own -/
def hm_xc : List (String × Nat × ByteArray) := [("java/lang/IllegalArgumentException", 7, Bundle.six), ("java/lang/IllegalStateException", 7, Bundle.six), ("java/lang/IndexOutOfBoundsException", 7, Bundle.six), ("java/util/NoSuchElementException", 13, hm_six)]
set_option maxRecDepth 40000 in
theorem hm_all : hm_xc.all (fun q => (hm_at q.1 q.2.1 q.2.2).all hl_ok && Bundle.fit q.1) = true := by decide +kernel
theorem hm_bys : ∀ q ∈ hm_xc, hm_by q.2.1 q.2.2 := by
  intro q hq
  simp only [hm_xc, List.mem_cons, List.not_mem_nil, or_false] at hq
  rcases hq with rfl | rfl | rfl | rfl
  · exact hm_by7
  · exact hm_by7
  · exact hm_by7
  · exact hm_by13
theorem hm_hat {s : State} {args : Array Value} {B : Nat} (hts : ∀ w ∈ pm_tb, w.before args s = true) (hN : pe_nw s) (hU : pe_LR B Bundle.tN "UNASSIGNED_STACK" Bundle.steD s) (hV : pe_LR B Bundle.tN "SUPPRESSED_SENTINEL" Bundle.listD s) {q : String × Nat × ByteArray} (hq : q ∈ hm_xc) : ∀ a ∈ hm_at q.1 q.2.1 q.2.2, a.before args s = true := by
  intro w hw
  have h0 := List.all_eq_true.mp hm_all q hq
  rw [Bool.and_eq_true] at h0
  have h1 := List.all_eq_true.mp h0.1 w hw
  unfold hl_ok at h1
  rw [Bool.or_eq_true, Bool.or_eq_true, Bool.or_eq_true, Bool.and_eq_true, Bool.and_eq_true, decide_eq_true_eq, decide_eq_true_eq, decide_eq_true_eq] at h1
  rcases h1 with ⟨g, hm⟩ | ⟨g, hm⟩ | rfl | rfl
  · exact hts w (List.mem_filter.mpr ⟨List.mem_append_right _ hm, g⟩)
  · exact pe_n_mem hm g hN
  · exact hl_ls hU.1
  · exact hl_ls hV.1
