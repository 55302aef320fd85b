/-! PART 07: calls of any outcome, throws and contracts over the pure machine. -/
def pm_K (p : Program) (l : Launch) (e : Env) (R : Room) (s : State) (m : MethodId) (args : Array Value) (below : List Frame) (meth : Method) (c : Code) (Q : State → Prop) (ex : Nat → Nat) (B : Nat) (dA : Nat → ClassId) (D : va_G) (cl : List vw_C) (nL n0 z0 : Nat) (pc : Nat) (L : pm_L) (st : List Value) (o : pm_O) (h2 : pm_H) : Prop := match o with
  | .inl r => pm_W p l e R s m args below meth c Q ex B dA D cl nL n0 z0 (pc + 3) L (r.toList ++ st) h2
  | .inr x => pm_WT p l e R s m args below meth c Q ex B dA D cl nL n0 z0 pc L x h2
section PM7
variable {p : Program} {l : Launch} {e : Env} {R : Room} {s : State} {m : MethodId} {args : Array Value} {below : List Frame} {meth : Method} {c : Code} {Q : State → Prop}
variable {ex : Nat → Nat} {B : Nat} {dA : Nat → ClassId} {D : va_G} {cl : List vw_C} {nL n0 z0 : Nat} {cc : ByteArray} {pc : Nat} {L : pm_L} {st : List Value} {h h2 : pm_H}
variable {tys : List (ClassId × FieldType)} {Ts : List Cond} {own : String} {E : State → Prop}
theorem pm_after {T2 t st1 : State} {H : Heap} {locs L2 : List Loc} {ls : Array Slot} {a : Array Value} (o : pm_O) (hl : lv_has ls nL (pm_l ex B L)) (hS : va_S (fun q => B ≤ q) s.heap H locs) (h1 : st1.heap = H) (X2 : Stand p l e R s m args below meth c T2 (locs ++ L2) (h.length - n0 + (h2.length - h.length)) (pm_sz h - z0 + (pm_sz h2 - pm_sz h))) (hL : ∀ q ∈ L2, B ≤ q.base) (e1 : T2.heap = t.heap) (hq : pm_QcO ex B dA D cl o h2 a st1 (pm_oc ex B o) t) (hn0 : n0 ≤ h.length) (hz0 : z0 ≤ pm_sz h) (hn2 : h.length ≤ h2.length) (hz2 : pm_sz h ≤ pm_sz h2) (k : pm_K p l e R s m args below meth c Q ex B dA D cl nL n0 z0 pc L st o h2) :
    ∃ t2, Steps p.tables e below (pm_lnd (F0 m pc ls (st.map (pm_v ex B))) (pm_oc ex B o) T2) t2 ∧ Q t2 := by
  obtain ⟨-, hP2, hF1, hF2⟩ := hq
  rw [h1] at hF1 hF2
  have hS2 : va_S (fun q => B ≤ q) s.heap T2.heap (locs ++ L2) := by
    refine ⟨by rw [e1]; exact Nat.le_trans hS.1 hF1, fun q a1 a2 => ?_, fun q hq => ?_⟩
    · rw [e1, hF2 q (Nat.lt_of_lt_of_le a1 hS.1) a2]
      exact hS.2.1 q a1 a2
    · rcases List.mem_append.mp hq with a1 | a1
      · exact hS.2.2 q a1
      · exact hL q a1
  have hP3 : va_P D cl (pm_w ex B dA h2) T2.heap := by rw [e1]; exact hP2
  have q1 : h2.length - n0 = h.length - n0 + (h2.length - h.length) := by omega
  have q2 : pm_sz h2 - z0 = pm_sz h - z0 + (pm_sz h2 - pm_sz h) := by omega
  cases o with
  | inl r =>
    have k2 := (show pm_W p l e R s m args below meth c Q ex B dA D cl nL n0 z0 (pc + 3) L (r.toList ++ st) h2 from k) ls T2.heap (locs ++ L2) hl hP3 hS2
    rw [q1, q2, show (r.toList ++ st).map (pm_v ex B) = (r.map (pm_v ex B)).toList ++ st.map (pm_v ex B) by cases r <;> rfl] at k2
    exact k2 T2 rfl X2
  | inr x =>
    have k2 := (show pm_WT p l e R s m args below meth c Q ex B dA D cl nL n0 z0 pc L x h2 from k) ls T2.heap (locs ++ L2) (st.map (pm_v ex B)) hl hP3 hS2
    rw [q1, q2] at k2
    exact k2 T2 rfl X2
theorem pm_stepI {T : State} {locs : List Loc} {cells slots : Nat} (X : Stand p l e R s m args below meth c T locs cells slots) (hexec : p.tables.exec = Jvm.exec) {index : Nat} {y : MethodName} {bytes : ByteArray} {maxL : Nat} (hown : s.vm.findClass own = some m.cls) (hy1 : y.name = "<init>") (hlink : (Cond.methodLink own index y).before args s = true ∨ ∃ host, (Cond.methodLinkNest own index y host).before args s = true) (hinst : (Cond.instanceMethod y).before args s = true) (hcode : (Cond.code y bytes maxL none).before args s = true) (hy : y.cls ≠ "java/lang/invoke/MethodHandle" ∧ y.cls ≠ "java/lang/invoke/VarHandle")
    {b : Addr} {g : JFrame} (hg : g.method = m) {argsL rest : List Value} (hlen : ∀ sig, parseMethodDescriptor y.desc = some sig → argsL.length = sig.parameters.length) (hstack : g.stack = argsL.reverse ++ .ref b :: rest) (hdg : decode c.code g.pc = .ok (.invokespecial index, 3)) :
    ∃ mk vm1, s.methodNamed? y = some mk ∧ Stand p l e R s m args below meth c (T.setVm vm1) locs cells slots ∧ ∀ target, Steps p.tables e below (doInvoke e ((T.setVm vm1).setTop { g with stack := rest }) [] mk (Value.ref b :: argsL).toArray).1 target → Steps p.tables e below (T.setTop g) target := by
  have hpl : e.platform.magicAccessors = ({} : Platform).magicAccessors := by rw [X.admits.platform]
  subst hg
  rcases hlink with hl | ⟨host, hl⟩
  · obtain ⟨mk, methM, cM, kP, vm1, hnamed, -, -, -, -, -, -, -, hW1, hstep⟩ := Steps.initColdArgs (e := e) X.here hexec X.warmed hpl hown hy1 hy hl hinst hcode (f := g) rfl hlen hstack hdg
    exact ⟨mk, vm1, hnamed, X.noted hW1, fun target h => hstep target fun acts => by rw [doInvoke_state]; exact h⟩
  · obtain ⟨mk, methM, cM, kP, vm1, hnamed, -, -, -, -, -, -, -, hW1, hstep⟩ := Steps.initColdArgsNest (e := e) X.here hexec X.warmed hpl hown hy1 hy hl hinst hcode (f := g) rfl hlen hstack hdg
    exact ⟨mk, vm1, hnamed, X.noted hW1, fun target h => hstep target fun acts => by rw [doInvoke_state]; exact h⟩
theorem pm_cV (hx : p.tables.exec = Jvm.exec) (hb : c.code = cc) (hml : c.maxLocals = nL) (hown : s.vm.findClass own = some m.cls) (hK : va_K D cl tys s) (hE : E s) (hEok : pm_Ok B E) (hB : s.heap.size = B + n0) (hn0 : n0 ≤ h.length) (hz0 : z0 ≤ pm_sz h) (hn2 : h.length ≤ h2.length) (hz2 : pm_sz h ≤ pm_sz h2) {y : MethodName} {bytes : ByteArray} {maxL index d : Nat} {ret : Option FieldType} {hh : List (Nat × Nat × Nat × Nat)} {ws : List Cond} {As : List Value} {o : pm_O} {C : String} {T0 : u_T} {N ci b : Nat} {vs : List Value} (hM : pm_Con l y ws d ex B dA D cl tys E (.ref b :: As) h o h2) (hws : ∀ w ∈ ws, ∀ (a2 : Array Value) (U : State), s.WarmedH U.vm → w.before a2 U = true) (hcw : Cond.code y bytes maxL ret ∈ ws ∨ Cond.codeWith y bytes maxL ret hh ∈ ws) (hini : (Cond.initialized y.cls).before args s = true) (hlink : (Cond.methodLink own index y).before args s = true ∨ ∃ host, (Cond.methodLinkNest own index y host).before args s = true) (hinst : (Cond.instanceMethod y).before args s = true) (hsel : (Cond.selects C y y).before args s = true) (hy : y.cls ≠ "java/lang/invoke/MethodHandle" ∧ y.cls ≠ "java/lang/invoke/VarHandle") (hlen : ∀ sig, parseMethodDescriptor y.desc = some sig → As.length = sig.parameters.length) (hbv : h[b]? = some (.inr (ci, vs))) (hcl : cl[ci]? = some (C, T0, N)) (hst : (st.map fun v => v.category).sum ≤ 8) (hcells : h.length - n0 + (h2.length - h.length) ≤ R.cells) (hslots : pm_sz h - z0 + (pm_sz h2 - pm_sz h) ≤ R.slots) (hfr : d + 1 ≤ R.frames) (hlo : 8 + (maxL + 11) + d * 60 ≤ R.locals) (hdg : decode cc pc = .ok (.invokevirtual index, 3)) (k : pm_K p l e R s m args below meth c Q ex B dA D cl nL n0 z0 pc L st o h2) : pm_W p l e R s m args below meth c Q ex B dA D cl nL n0 z0 pc L (As.reverse ++ .ref b :: st) h := fun ls H locs hl hP hS T hT X => by
  have hz : H.size = B + h.length := hT ▸ pm_size X hB hn0 (by rw [hT]; exact hP) (by rw [hT]; exact hS.1)
  have hdg2 := hdg
  rw [← hb] at hdg2
  rw [pm_stk]
  have hlen2 : ∀ sig, parseMethodDescriptor y.desc = some sig → (As.map (pm_v ex B)).length = sig.parameters.length := fun sig hs => by rw [List.length_map]; exact hlen sig hs
  obtain ⟨cellB, r1, r2, r3⟩ := va_recv hK hP hcl (pm_w_at hbv)
  obtain ⟨mk, vm1, hn, X1, hstep⟩ := pm_stepV X hx hown hlink hinst hsel (hcw.elim (fun q => Or.inl (hws _ q args s (State.WarmedH.refl s))) (fun q => Or.inr (hws _ q args s (State.WarmedH.refl s)))) hy (b := B + b) (by rw [hT]; exact r1) r2 r3 (g := F0 m pc ls ((As.map (pm_v ex B)).reverse ++ .ref (B + b) :: st.map (pm_v ex B))) rfl (argsL := As.map (pm_v ex B)) (rest := st.map (pm_v ex B)) hlen2 rfl hdg2
  obtain ⟨T2, L2, t, X2, hL2, e1, -, hq, hstp⟩ := pm_callB (bytes := bytes) (maxL := maxL) (ret := ret) (hh := hh) (pm_oc ex B o) hM hfr hlo X1 (g := F0 m pc ls (st.map (pm_v ex B))) rfl (hl.1.trans hml.symm) hdg2 (lv_room (by rw [pm_catsum]; exact hst)) (X1.named hn) (atoms_intro fun w hw => hws w hw _ _ X1.warmed) (hcw.elim (fun q => Or.inl (hws _ q _ _ X1.warmed)) (fun q => Or.inr (hws _ q _ _ X1.warmed))) (word_at X1.warmed (Or.inl (by first | rfl | simp [Cond.onTables, Cond.keeps, Cond.steady])) hini) hcells hslots (pm_blind hEok _ h _ _ _ _ (pm_pre hK hE hEok hP hz (by omega) hS.2.1 (T.setVm vm1) hT X1.warmed)) (fun _ _ q => q.1)
  obtain ⟨t2, a1, b1⟩ := pm_after o hl hS (by show (T.setVm vm1).heap = H; exact hT) X2 hL2 e1 hq hn0 hz0 hn2 hz2 k
  exact ⟨t2, hstep t2 (hstp.trans a1), b1⟩
theorem pm_cS (hx : p.tables.exec = Jvm.exec) (hb : c.code = cc) (hml : c.maxLocals = nL) (hown : s.vm.findClass own = some m.cls) (hK : va_K D cl tys s) (hE : E s) (hEok : pm_Ok B E) (hB : s.heap.size = B + n0) (hn0 : n0 ≤ h.length) (hz0 : z0 ≤ pm_sz h) (hn2 : h.length ≤ h2.length) (hz2 : pm_sz h ≤ pm_sz h2) {y : MethodName} {bytes : ByteArray} {maxL index d : Nat} {ret : Option FieldType} {hh : List (Nat × Nat × Nat × Nat)} {ws : List Cond} {As : List Value} {o : pm_O} (hM : pm_Con l y ws d ex B dA D cl tys E As h o h2) (hws : ∀ w ∈ ws, ∀ (a2 : Array Value) (U : State), s.WarmedH U.vm → w.before a2 U = true) (hcw : Cond.code y bytes maxL ret ∈ ws ∨ Cond.codeWith y bytes maxL ret hh ∈ ws) (hini : (Cond.initialized y.cls).before args s = true) (hlink : (Cond.methodLink own index y).before args s = true ∨ ∃ host, (Cond.methodLinkNest own index y host).before args s = true) (hstat : (Cond.static y).before args s = true) (hnm : ∃ mk, s.methodNamed? y = some mk) (hy : y.cls ≠ "java/lang/invoke/MethodHandle" ∧ y.cls ≠ "java/lang/invoke/VarHandle") (hlen : ∀ sig, parseMethodDescriptor y.desc = some sig → As.length = sig.parameters.length) (hst : (st.map fun v => v.category).sum ≤ 8) (hcells : h.length - n0 + (h2.length - h.length) ≤ R.cells) (hslots : pm_sz h - z0 + (pm_sz h2 - pm_sz h) ≤ R.slots) (hfr : d + 1 ≤ R.frames) (hlo : 8 + (maxL + 11) + d * 60 ≤ R.locals) (hdg : decode cc pc = .ok (.invokestatic index, 3)) (k : pm_K p l e R s m args below meth c Q ex B dA D cl nL n0 z0 pc L st o h2) : pm_W p l e R s m args below meth c Q ex B dA D cl nL n0 z0 pc L (As.reverse ++ st) h := fun ls H locs hl hP hS T hT X => by
  have hz : H.size = B + h.length := hT ▸ pm_size X hB hn0 (by rw [hT]; exact hP) (by rw [hT]; exact hS.1)
  have hdg2 := hdg
  rw [← hb] at hdg2
  rw [pm_stkS]
  have hlen2 : ∀ sig, parseMethodDescriptor y.desc = some sig → (As.map (pm_v ex B)).length = sig.parameters.length := fun sig hs => by rw [List.length_map]; exact hlen sig hs
  obtain ⟨mk, vm1, hn, X1, hstep⟩ := pm_stepS X hx hown hlink hstat hini hnm (hcw.elim (fun q => Or.inl (hws _ q args s (State.WarmedH.refl s))) (fun q => Or.inr (hws _ q args s (State.WarmedH.refl s)))) hy (g := F0 m pc ls ((As.map (pm_v ex B)).reverse ++ st.map (pm_v ex B))) rfl (argsL := As.map (pm_v ex B)) (rest := st.map (pm_v ex B)) hlen2 rfl hdg2
  obtain ⟨T2, L2, t, X2, hL2, e1, -, hq, hstp⟩ := pm_callB (bytes := bytes) (maxL := maxL) (ret := ret) (hh := hh) (pm_oc ex B o) hM hfr hlo X1 (g := F0 m pc ls (st.map (pm_v ex B))) rfl (hl.1.trans hml.symm) hdg2 (lv_room (by rw [pm_catsum]; exact hst)) (X1.named hn) (atoms_intro fun w hw => hws w hw _ _ X1.warmed) (hcw.elim (fun q => Or.inl (hws _ q _ _ X1.warmed)) (fun q => Or.inr (hws _ q _ _ X1.warmed))) (word_at X1.warmed (Or.inl (by first | rfl | simp [Cond.onTables, Cond.keeps, Cond.steady])) hini) hcells hslots (pm_blind hEok _ h _ _ _ _ (pm_pre hK hE hEok hP hz (by omega) hS.2.1 (T.setVm vm1) hT X1.warmed)) (fun _ _ q => q.1)
  obtain ⟨t2, a1, b1⟩ := pm_after o hl hS (by show (T.setVm vm1).heap = H; exact hT) X2 hL2 e1 hq hn0 hz0 hn2 hz2 k
  exact ⟨t2, hstep t2 (hstp.trans a1), b1⟩
theorem pm_cI (hx : p.tables.exec = Jvm.exec) (hb : c.code = cc) (hml : c.maxLocals = nL) (hown : s.vm.findClass own = some m.cls) (hK : va_K D cl tys s) (hE : E s) (hEok : pm_Ok B E) (hB : s.heap.size = B + n0) (hn0 : n0 ≤ h.length) (hz0 : z0 ≤ pm_sz h) (hn2 : h.length ≤ h2.length) (hz2 : pm_sz h ≤ pm_sz h2) {y : MethodName} {bytes : ByteArray} {maxL index d : Nat} {ws : List Cond} {As : List Value} {o : pm_O} {b : Nat} (hM : pm_Con l y ws d ex B dA D cl tys E (.ref b :: As) h o h2) (hws : ∀ w ∈ ws, ∀ (a2 : Array Value) (U : State), s.WarmedH U.vm → w.before a2 U = true) (hcw : Cond.code y bytes maxL none ∈ ws) (hini : (Cond.initialized y.cls).before args s = true) (hlink : (Cond.methodLink own index y).before args s = true ∨ ∃ host, (Cond.methodLinkNest own index y host).before args s = true) (hy1 : y.name = "<init>") (hinst : (Cond.instanceMethod y).before args s = true) (hy : y.cls ≠ "java/lang/invoke/MethodHandle" ∧ y.cls ≠ "java/lang/invoke/VarHandle") (hlen : ∀ sig, parseMethodDescriptor y.desc = some sig → As.length = sig.parameters.length) (hst : (st.map fun v => v.category).sum ≤ 8) (hcells : h.length - n0 + (h2.length - h.length) ≤ R.cells) (hslots : pm_sz h - z0 + (pm_sz h2 - pm_sz h) ≤ R.slots) (hfr : d + 1 ≤ R.frames) (hlo : 8 + (maxL + 11) + d * 60 ≤ R.locals) (hdg : decode cc pc = .ok (.invokespecial index, 3)) (k : pm_K p l e R s m args below meth c Q ex B dA D cl nL n0 z0 pc L st o h2) : pm_W p l e R s m args below meth c Q ex B dA D cl nL n0 z0 pc L (As.reverse ++ .ref b :: st) h := fun ls H locs hl hP hS T hT X => by
  have hz : H.size = B + h.length := hT ▸ pm_size X hB hn0 (by rw [hT]; exact hP) (by rw [hT]; exact hS.1)
  have hdg2 := hdg
  rw [← hb] at hdg2
  rw [pm_stk]
  have hlen2 : ∀ sig, parseMethodDescriptor y.desc = some sig → (As.map (pm_v ex B)).length = sig.parameters.length := fun sig hs => by rw [List.length_map]; exact hlen sig hs
  obtain ⟨mk, vm1, hn, X1, hstep⟩ := pm_stepI X hx hown hy1 hlink hinst (hws _ hcw args s (State.WarmedH.refl s)) hy (b := B + b) (g := F0 m pc ls ((As.map (pm_v ex B)).reverse ++ .ref (B + b) :: st.map (pm_v ex B))) rfl (argsL := As.map (pm_v ex B)) (rest := st.map (pm_v ex B)) hlen2 rfl hdg2
  obtain ⟨T2, L2, t, X2, hL2, e1, -, hq, hstp⟩ := pm_callB (bytes := bytes) (maxL := maxL) (ret := none) (hh := []) (pm_oc ex B o) hM hfr hlo X1 (g := F0 m pc ls (st.map (pm_v ex B))) rfl (hl.1.trans hml.symm) hdg2 (lv_room (by rw [pm_catsum]; exact hst)) (X1.named hn) (atoms_intro fun w hw => hws w hw _ _ X1.warmed) (Or.inl (hws _ hcw _ _ X1.warmed)) (word_at X1.warmed (Or.inl (by first | rfl | simp [Cond.onTables, Cond.keeps, Cond.steady])) hini) hcells hslots (pm_blind hEok _ h _ _ _ _ (pm_pre hK hE hEok hP hz (by omega) hS.2.1 (T.setVm vm1) hT X1.warmed)) (fun _ _ q => q.1)
  obtain ⟨t2, a1, b1⟩ := pm_after o hl hS (by show (T.setVm vm1).heap = H; exact hT) X2 hL2 e1 hq hn0 hz0 hn2 hz2 k
  exact ⟨t2, hstep t2 (hstp.trans a1), b1⟩
theorem pm_athrowP (hx : p.tables.exec = Jvm.exec) (hb : c.code = cc) {x : Nat} (hdg : decode cc pc = .ok (.athrow, 1)) (k : pm_WT p l e R s m args below meth c Q ex B dA D cl nL n0 z0 pc L x h) : pm_W p l e R s m args below meth c Q ex B dA D cl nL n0 z0 pc L (.ref x :: st) h := fun ls H locs hl hP hS => pm_athrow hx hb hdg (k ls H locs (st.map (pm_v ex B)) hl hP hS)
theorem pm_WT_out {x mc ms : Nat} {free : Addr → Prop} (hlocks : meth.locks = false) (hout : ∀ q ∈ c.exceptionTable.toList, covers q pc = false) (hmc : h.length - n0 ≤ mc) (hms : pm_sz h - z0 ≤ ms) (hfree : ∀ q, B ≤ q → free q) : pm_WT p l e R s m args below meth c (pm_MQ below (pm_QcO ex B dA D cl (.inr x) h) args s mc ms free) ex B dA D cl nL n0 z0 pc L x h := fun ls H locs rest hl hP hS =>
  pm_T_out hlocks rfl rfl rfl hout hmc hms (fun t ht _ => ⟨rfl, by rw [ht]; exact hP, hS.F ht⟩) (fun q hq => hfree _ (hS.2.2 q hq))
/-- a contract of any outcome, out of the walk of the method's body -/
theorem pm_Con_ofWF {y : MethodName} {ws ws2 : List Cond} {maxL d : Nat} {ret : Option FieldType} {hh : List (Nat × Nat × Nat × Nat)} {av : List Value} {o : pm_O} (hy : plainFor y = true) (hw : ws = Cond.code y cc maxL ret :: ws2 ∨ ws = Cond.codeWith y cc maxL ret hh :: ws2) (hn : (lg_sl av).length ≤ maxL)
    (body : ∀ (p : Program) (e : Env) (s : State) (m : MethodId) (below : List Frame) (meth : Method) (c : Code), p.tables.exec = Jvm.exec → c.code = cc → meth.sig.returnType = ret → meth.locks = false → c.maxLocals = maxL → s.vm.method? m = some meth → meth.code = some c → s.methodNamed? y = some m → (∀ w ∈ ws, w.before (av.map (pm_v ex B)).toArray s = true) → s.heap.size = B + h.length → va_K D cl tys s → E s →
      pm_W p l e (pm_room d h h2) s m (av.map (pm_v ex B)).toArray below meth c (pm_MQ below (pm_QcO ex B dA D cl o h2) (av.map (pm_v ex B)).toArray s (h2.length - h.length) (pm_sz h2 - pm_sz h) (fun q => B ≤ q)) ex B dA D cl maxL h.length (pm_sz h) 0 (pm_args 0 av) [] h) : pm_Con l y ws d ex B dA D cl tys E av h o h2 := by
  have key : ∀ p e s m args below meth c s₁, BodyLoose p l y (headSpec ws (pm_room d h h2)) cc maxL ret e s m args below meth c s₁ → c.maxLocals = maxL → pm_Pc ex B dA D cl tys E av h args s →
      W p l e (headSpec ws (pm_room d h h2)).room s m args below meth c s.heap [] 0 0 (pm_MQ below (pm_QcO ex B dA D cl o h2) args s (h2.length - h.length) (pm_sz h2 - pm_sz h) (fun q => B ≤ q)) (entryFrame m args maxL) := by
    intro p e s m args below meth c s1 Bd hml hv
    obtain ⟨rfl, hz, hP, hK, hE⟩ := hv
    have hts := atoms_spec (ws := ws) Bd.pre
    have hl := lv_entry (av.map (pm_v ex B)) (n := maxL) (by rw [pm_words]; exact hn)
    rw [pm_args_l] at hl
    have k2 := body p e s m below meth c Bd.exec Bd.bytes Bd.returns Bd.notSynchronized hml Bd.method (Stand.of_body Bd).code Bd.named hts hz hK hE _ s.heap [] hl hP va_S.rf
    rw [Nat.sub_self, Nat.sub_self] at k2
    rw [lg_entry_eq]
    exact k2
  rcases hw with hw | hw
  · exact pm_MT_ofW hy hw key
  · exact pm_MT_ofWith hy hw key
theorem pm_Con_ofW {y : MethodName} {ws ws2 : List Cond} {maxL d : Nat} {ret : Option FieldType} {hh : List (Nat × Nat × Nat × Nat)} {av : List Value} {o : pm_O} (hy : plainName y.cls = true) (hw : ws = Cond.code y cc maxL ret :: ws2 ∨ ws = Cond.codeWith y cc maxL ret hh :: ws2) (hn : (lg_sl av).length ≤ maxL)
    (body : ∀ (p : Program) (e : Env) (s : State) (m : MethodId) (below : List Frame) (meth : Method) (c : Code), p.tables.exec = Jvm.exec → c.code = cc → meth.sig.returnType = ret → meth.locks = false → c.maxLocals = maxL → s.vm.method? m = some meth → meth.code = some c → s.methodNamed? y = some m → (∀ w ∈ ws, w.before (av.map (pm_v ex B)).toArray s = true) → s.heap.size = B + h.length → va_K D cl tys s → E s →
      pm_W p l e (pm_room d h h2) s m (av.map (pm_v ex B)).toArray below meth c (pm_MQ below (pm_QcO ex B dA D cl o h2) (av.map (pm_v ex B)).toArray s (h2.length - h.length) (pm_sz h2 - pm_sz h) (fun q => B ≤ q)) ex B dA D cl maxL h.length (pm_sz h) 0 (pm_args 0 av) [] h) : pm_Con l y ws d ex B dA D cl tys E av h o h2 :=
  pm_Con_ofWF (plainFor_of_name hy) hw hn body
/-- an answer, where any outcome is allowed -/
theorem pm_retO {Qa Qb : State → Prop} (hq : ∀ t, Qa t → Qb t) (k : pm_W p l e R s m args below meth c Qa ex B dA D cl nL n0 z0 pc L st h) : pm_W p l e R s m args below meth c Qb ex B dA D cl nL n0 z0 pc L st h := fun ls H locs hl hP hS => pm_mono hq (k ls H locs hl hP hS)
end PM7
