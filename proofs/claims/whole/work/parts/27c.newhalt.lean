/-! PART 37: new Halt(), a row of the pure machine. -/
theorem hl_set {cell : Cell} {N : Nat} {iS : Nat → Nat} {V : Nat → Value} (hap : ∀ x y, x < N → y < N → x ≠ y → iS x ≠ iS y) (h : ∀ k, k < N → cell.slots[iS k]? = some (V k)) {k0 : Nat} (hk : k0 < N) (v : Value) : ∀ k, k < N → (cell.setSlot (iS k0) v).slots[iS k]? = some (if k = k0 then v else V k) := by
  intro k hk1
  show (cell.slots.setIfInBounds (iS k0) v)[iS k]? = _
  rw [Array.getElem?_setIfInBounds]
  by_cases hkk : k = k0
  · subst hkk
    rw [if_pos rfl, if_pos rfl, if_pos (Array.getElem?_eq_some_iff.mp (h k hk1)).1]
  · rw [if_neg (fun q => hap k0 k hk hk1 (fun z => hkk z.symm) q), if_neg hkk]
    exact h k hk1
theorem hl_V {fs : List Value} {k0 k : Nat} {v : Value} (h0 : k0 < fs.length) : vp_V (fs.set k0 v) k = if k = k0 then v else vp_V fs k := by
  unfold vp_V
  rw [List.getD_eq_getElem?_getD, List.getD_eq_getElem?_getD]
  by_cases hk : k = k0
  · subst hk
    rw [List.getElem?_set_self h0, if_pos rfl]; rfl
  · rw [List.getElem?_set_ne (fun q => hk q.symm), if_neg hk]
section PE37
variable {p : Program} {l : Launch} {e : Env} {R : Room} {s : State} {m : MethodId} {args : Array Value} {below : List Frame} {meth : Method} {c : Code} {Q : State → Prop}
variable {ex : Nat → Nat} {B : Nat} {dA : Nat → ClassId} {D : va_G} {cl : List vw_C} {nL n0 z0 : Nat} {cc : ByteArray} {pc : Nat} {L : pm_L} {st : List Value} {h : pm_H}
variable {tys : List (ClassId × FieldType)} {Ts : List Cond} {own : String}
set_option maxHeartbeats 4000000 in
theorem pm_newHalt (hx : p.tables.exec = Jvm.exec) (hb : c.code = cc) (hml : c.maxLocals = nL) (hls : l.stackTraces = false) (hts : ∀ w ∈ Ts, w.before args s = true) (hown : s.vm.findClass own = some m.cls) (hK : va_K D cl tys s) {T : u_T} {ci index ic : Nat} {vs : List Value} (hin : ∀ w ∈ u_ws "LinkedTongueModel$Halt" T 8, w ∈ Ts) (ty : Nat → FieldType) (hty : ∀ k, k < 8 → parseFieldDescriptor (T k).2.2.1 = some (ty k)) (hnm : ∀ a, a < 8 → ∀ b, b < 8 → a ≠ b → (T a).2.1 ≠ (T b).2.1) (hcl : (Cond.classLink own index "LinkedTongueModel$Halt").before args s = true) (hinst : (Cond.instantiable "LinkedTongueModel$Halt" 8).before args s = true) (hini : (Cond.initialized "LinkedTongueModel$Halt").before args s = true) (hc : cl[ci]? = some ("LinkedTongueModel$Halt", T, 8)) (hvs : vs.length = 8) (hfs : ∀ j, j < 8 → defaultValue (ty j) = vp_V (vs.map (pm_v ex B)) j) (hat : ∀ a ∈ hl_at, a.before args s = true) (hlink : (Cond.methodLink own ic (Bundle.init0 "LinkedTongueModel$Halt")).before args s = true ∨ ∃ host, (Cond.methodLinkNest own ic (Bundle.init0 "LinkedTongueModel$Halt") host).before args s = true)
    {jU jS : Value} (hjU : pm_v ex B jU = .null ∨ ∃ t, pm_v ex B jU = .ref t) (hjS : pm_v ex B jS = .null ∨ ∃ t, pm_v ex B jS = .ref t) (hU : va_Z Bundle.tN "UNASSIGNED_STACK" Bundle.steD (pm_v ex B jU) (fun q => B ≤ q) s s.heap) (hV : va_Z Bundle.tN "SUPPRESSED_SENTINEL" Bundle.listD (pm_v ex B jS) (fun q => B ≤ q) s s.heap) {kC kS kP : Nat} (hkC : kC < 8) (hkS : kS < 8) (hkP : kP < 8) (hTC : ((T kC).1, (T kC).2.1, (T kC).2.2.1) = (Bundle.tN, "cause", "Ljava/lang/Throwable;")) (hTS : ((T kS).1, (T kS).2.1, (T kS).2.2.1) = (Bundle.tN, "stackTrace", Bundle.steD)) (hTP : ((T kP).1, (T kP).2.1, (T kP).2.2.1) = (Bundle.tN, "suppressedExceptions", Bundle.listD))
    (hB : s.heap.size = B + n0) (hn0 : n0 ≤ h.length) (hz0 : z0 ≤ pm_sz h) (hcells : h.length - n0 + 1 ≤ R.cells) (hslots : pm_sz h - z0 + 8 ≤ R.slots) (hfr : 5 < R.frames) (hlo : (st.map fun v => v.category).sum + 81 ≤ R.locals) (hd1 : decode cc pc = .ok (.new index, 3)) (hd2 : decode cc (pc + 3) = .ok (.dup, 1)) (hd3 : decode cc (pc + 4) = .ok (.invokespecial ic, 3))
    (k : pm_W p l e R s m args below meth c Q ex B dA D cl nL n0 z0 (pc + 7) L (.ref h.length :: st) (h ++ [.inr (ci, (((vs.set kC (.ref h.length)).set kS jU).set kP jS).set kS jU)])) : pm_W p l e R s m args below meth c Q ex B dA D cl nL n0 z0 pc L st h := fun ls H locs hl hP hS T0 hT0 X0 => by
  have hz : H.size = B + h.length := hT0 ▸ pm_size X0 hB hn0 (by rw [hT0]; exact hP) (by rw [hT0]; exact hS.1)
  have hKn := hK.1 ci _ hc
  refine W.newcK hx hb hown hcl hinst hini (g := F0 m pc ls (st.map (pm_v ex B))) rfl hd1 hcells hslots hKn.2.1 rfl (fun H1 kX hkX e1 z1 o1 => ?_) T0 hT0 X0
  refine lv_dup (pc := pc + 3) hx hb hd2 rfl ?_
  intro T1 hT1 X1
  have htr : e.platform.stackTraces = false := by rw [X1.admits.platform]; exact hls
  obtain ⟨vm2, fC, fS, fP, ⟨_, _, _, qC⟩, ⟨_, _, _, qS⟩, ⟨_, _, _, qP⟩, X2, st2⟩ := hl_ctor X1 hx htr (B := B) hown hat hlink hjU hjS hU hV (fun q q1 q2 => by rw [hT1, o1 q (Nat.lt_of_lt_of_le q1 hS.1)]; exact hS.2.1 q q1 q2) hKn.2.1 hkX (a := H.size) (by rw [hT1]; exact e1) (by omega) (g := F0 m (pc + 3 + 1) ls (.ref H.size :: .ref H.size :: st.map (pm_v ex B))) rfl (hl.1.trans hml.symm) (rest := .ref H.size :: st.map (pm_v ex B)) rfl (by rw [hb]; exact hd3) hfr (by
    show 2 * 0 + ((Value.ref H.size :: st.map (pm_v ex B)).map fun v => v.category).sum + 80 ≤ R.locals
    rw [List.map_cons, List.sum_cons, pm_catsum]
    show 2 * 0 + (1 + _) + 80 ≤ _
    omega)
  have hap := va_apart (own := own) hts hin ty hty hnm hK hc
  have slot : ∀ (k0 : Nat) (a b d : String) (c0 : ClassId) (k1 : Class) (i0 : Nat) (f : Field), k0 < 8 → ((T k0).1, (T k0).2.1, (T k0).2.2.1) = (a, b, d) → s.fieldFound? a b d = some (c0, k1, i0, f) → f.slot = D.2 ci k0 := by
    intro k0 a b d c0 k1 i0 f hk hT hf
    obtain ⟨cf, kf, fi, fd, hi, he⟩ := hKn.1 k0 hk
    simp only [Prod.mk.injEq] at hT
    rw [hT.1, hT.2.1, hT.2.2, hf] at hi
    cases hi
    exact he
  have eC := slot kC _ _ _ _ _ _ _ hkC hTC qC
  have eS := slot kS _ _ _ _ _ _ _ hkS hTS qS
  have eP := slot kP _ _ _ _ _ _ _ hkP hTP qP
  rw [eC, eS, eP] at X2
  rw [eC, eS, eP] at st2
  obtain ⟨cell0, b1, b2, b3, b4⟩ := (u_born ty hts hin hKn hkX e1 hty).to hfs
  have eb : blank (D.1 ci) kX = cell0 := Option.some.inj (e1.symm.trans b1)
  have c1 := hl_set hap b4 hkC (.ref H.size)
  have c2 := hl_set hap c1 hkS (pm_v ex B jU)
  have c3 := hl_set hap c2 hkP (pm_v ex B jS)
  have c4 := hl_set hap c3 hkS (pm_v ex B jU)
  rw [← eb] at c4 b2 b3
  generalize hcell2 : (((((blank (D.1 ci) kX).setSlot (D.2 ci kC) (.ref H.size)).setSlot (D.2 ci kS) (pm_v ex B jU)).setSlot (D.2 ci kP) (pm_v ex B jS)).setSlot (D.2 ci kS) (pm_v ex B jU)) = cell2 at *
  have hlt : H.size < (T1.setVm vm2).heap.size := by show H.size < T1.heap.size; rw [hT1, z1]; omega
  have hnew : ((T1.setVm vm2).setCell H.size cell2).heap[H.size]? = some cell2 := heapAt_setCell_self (s := T1.setVm vm2) cell2 hlt
  have hoth : ∀ q, q < H.size → ((T1.setVm vm2).setCell H.size cell2).heap[q]? = H[q]? := fun q hq => by
    rw [State.heap_setCell_other (Nat.ne_of_gt hq)]
    show T1.heap[q]? = _
    rw [hT1, o1 q hq]
  have hsz : ((T1.setVm vm2).setCell H.size cell2).heap.size = H.size + 1 := by
    have e9 : ((T1.setVm vm2).setCell H.size cell2).heap.size = T1.heap.size := by simp [State.setCell]
    rw [e9, hT1, z1]
  have hP2 : va_P D cl (pm_w ex B dA (h ++ [.inr (ci, (((vs.set kC (.ref h.length)).set kS jU).set kP jS).set kS jU)])) ((T1.setVm vm2).setCell H.size cell2).heap := by
    intro j q hq
    rw [pm_w_get] at hq
    rcases Nat.lt_or_ge j h.length with hj | hj
    · rw [List.getElem?_append_left hj] at hq
      have h1 := hP j q (by rw [pm_w_get]; exact hq)
      refine h1.kept ?_
      obtain ⟨x, hx2⟩ : ∃ x, h[j]? = some x := ⟨_, List.getElem?_eq_getElem hj⟩
      rw [hx2] at hq
      cases hq
      exact hoth _ (by show B + j < _; omega)
    · rw [List.getElem?_append_right hj] at hq
      have hj0 : j - h.length = 0 := by
        rcases Nat.eq_zero_or_pos (j - h.length) with h0 | h0
        · exact h0
        · rw [List.getElem?_eq_none (by show 1 ≤ _; omega)] at hq
          cases hq
      rw [hj0] at hq
      cases hq
      refine ⟨_, hc, cell2, ?_, ?_, ?_, fun k1 hk1 => ?_⟩
      · show ((T1.setVm vm2).setCell H.size cell2).heap[B + j]? = _
        rw [show B + j = H.size by omega]
        exact hnew
      · rw [← hcell2]; rfl
      · rw [← hcell2]; rfl
      · rw [c4 k1 hk1]
        congr 1
        show _ = vp_V (List.map (pm_v ex B) ((((vs.set kC (.ref h.length)).set kS jU).set kP jS).set kS jU)) k1
        rw [List.map_set, List.map_set, List.map_set, List.map_set, hl_V (by simp [hvs]; exact hkS), hl_V (by simp [hvs]; exact hkP), hl_V (by simp [hvs]; exact hkS), hl_V (by simp [hvs]; exact hkC)]
        show _ = if k1 = kS then pm_v ex B jU else if k1 = kP then pm_v ex B jS else if k1 = kS then pm_v ex B jU else if k1 = kC then Value.ref (B + h.length) else vp_V (List.map (pm_v ex B) vs) k1
        rw [hz]
  have hS2 : va_S (fun q => B ≤ q) s.heap ((T1.setVm vm2).setCell H.size cell2).heap (locs ++ [⟨H.size, D.2 ci kC⟩, ⟨H.size, D.2 ci kS⟩, ⟨H.size, D.2 ci kP⟩, ⟨H.size, D.2 ci kS⟩]) := by
    refine ⟨by rw [hsz]; exact Nat.le_trans hS.1 (Nat.le_succ _), fun q a1 a2 => ?_, fun q hq => ?_⟩
    · rw [hoth q (Nat.lt_of_lt_of_le a1 hS.1)]
      exact hS.2.1 q a1 a2
    · rcases List.mem_append.mp hq with a1 | a1
      · exact hS.2.2 q a1
      · simp only [List.mem_cons, List.not_mem_nil, or_false] at a1
        rcases a1 with rfl | rfl | rfl | rfl <;> (show B ≤ H.size; omega)
  have k2 := k ls _ _ hl hP2 hS2
  rw [List.length_append, pm_sz_push, show pm_n (.inr (ci, (((vs.set kC (.ref h.length)).set kS jU).set kP jS).set kS jU)) = 8 from (by show List.length _ = 8; simp [hvs])] at k2
  rw [show h.length + [(Sum.inr (ci, (((vs.set kC (.ref h.length)).set kS jU).set kP jS).set kS jU) : pm_E)].length - n0 = h.length - n0 + 1 from (by show h.length + 1 - n0 = _; omega), show pm_sz h + 8 - z0 = pm_sz h - z0 + 8 by omega] at k2
  obtain ⟨t2, a1, b1⟩ := k2 _ rfl X2
  refine ⟨t2, st2 t2 ?_, b1⟩
  rw [show (Value.ref h.length :: st).map (pm_v ex B) = .ref H.size :: st.map (pm_v ex B) from (by rw [List.map_cons]; show Value.ref (B + h.length) :: _ = _; rw [hz])] at a1
  exact a1
end PE37
