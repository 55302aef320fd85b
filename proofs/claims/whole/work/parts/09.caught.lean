/-! PART 09: a throw that is caught in the method itself, over the pure machine. -/
/-- where a throw at pc goes on, by the method's table; cast says of a catch type whether the thrown class goes to it -/
def pm_fh (cast : Nat → Option Bool) (pc : Nat) : List (Nat × Nat × Nat × Nat) → Option Nat
  | [] => none
  | (a, b, t, ty) :: r => if decide (a ≤ pc) && decide (pc < b) then (match cast ty with
    | some true => some t
    | some false => pm_fh cast pc r
    | none => none) else pm_fh cast pc r
abbrev pm_tt (x : ExceptionTableEntry) : Nat × Nat × Nat × Nat := (x.startPc, x.endPc, x.handlerPc, x.catchType)
/-- what the tables say of the catch types -/
def pm_cs (s : State) (args : Array Value) (own C : String) (cast : Nat → Option Bool) : Prop := ∀ ty v, cast ty = some v → ty ≠ 0 ∧ ∃ Cn cC cT, (Cond.classLink own ty Cn).before args s = true ∧ s.vm.findClass C = some cC ∧ s.vm.findClass Cn = some cT ∧ s.vm.assignable cC cT = v
theorem pm_cs_yes {s : State} {args : Array Value} {C Cn : String} (h : (Cond.castable C Cn).before args s = true) : ∃ cC cT, s.vm.findClass C = some cC ∧ s.vm.findClass Cn = some cT ∧ s.vm.assignable cC cT = true := Cond.castable_spec h
theorem pm_search {p : Program} {l : Launch} {e : Env} {s : State} {m : MethodId} {args : Array Value} {own C : String} {cast : Nat → Option Bool} (hpl : e.platform.magicAccessors = ({} : Platform).magicAccessors) (hown : s.vm.findClass own = some m.cls) (hcs : pm_cs s args own C cast) {f : JFrame} (hf : f.method = m) {a : Addr} {cell : Cell} (hcc : s.vm.findClass C = some cell.cls) (hobj : ∀ k, cell.vm ≠ .statics k) {tgt : Nat} : ∀ (tb : List ExceptionTableEntry) (u : State), s.WarmedH u.vm → u.heap[a]? = some cell → pm_fh cast f.pc (tb.map pm_tt) = some tgt → ∃ vm2, s.WarmedH vm2 ∧ pm_Fi e u f a tb (.found tgt) vm2 := by
  intro tb
  induction tb with
  | nil => intro u _ _ h; cases h
  | cons x t ih =>
    intro u hW hcell hg
    rw [List.map_cons] at hg
    unfold pm_fh at hg
    by_cases hx : (decide (x.startPc ≤ f.pc) && decide (f.pc < x.endPc)) = true
    · rw [if_pos hx] at hg
      cases hcast : cast x.catchType with
      | none => rw [hcast] at hg; cases hg
      | some v =>
        obtain ⟨h0, Cn, cC, cT, h1, h2, h3, h4⟩ := hcs x.catchType v hcast
        cases hcc.symm.trans h2
        obtain ⟨c2, h5, h6⟩ := Cond.classLink_spec hown h1 e.platform hpl
        cases h3.symm.trans h5
        have h7 : u.vm.ClassLinks e.platform f.method.cls x.catchType cT := by rw [hf]; exact hW.classLinks h6
        have h8 : s.WarmedH (u.vm.noted f.method.cls x.catchType (.cls cT)) := by rw [hf]; exact (State.classEntry (e := e) hW h6).2.1
        obtain ⟨ka, hka⟩ := Vm.classAt_of_findClass hcc
        obtain ⟨kb, hkb⟩ := Vm.classAt_of_findClass h3
        obtain ⟨ka2, hka2, -⟩ := hW.alike.2.2 _ _ hka
        obtain ⟨kb2, hkb2, -⟩ := hW.alike.2.2 _ _ hkb
        have h9 : u.vm.assignable cell.cls cT = v := by rw [hW.alike.assignable]; exact h4
        cases v with
        | true =>
          rw [hcast] at hg
          cases hg
          exact ⟨_, h8, pm_Fi_catch hx h0 h7 hcell hobj ⟨ka2, hka2⟩ ⟨kb2, hkb2⟩ h9⟩
        | false =>
          rw [hcast] at hg
          obtain ⟨vm2, q1, q2⟩ := ih (u.setVm (u.vm.noted f.method.cls x.catchType (.cls cT))) h8 hcell hg
          exact ⟨vm2, q1, pm_Fi_pass hx h0 h7 hcell hobj ⟨ka2, hka2⟩ ⟨kb2, hkb2⟩ h9 q2⟩
    · rw [if_neg hx] at hg
      obtain ⟨vm2, q1, q2⟩ := ih u hW hcell hg
      exact ⟨vm2, q1, pm_Fi_skip (by simpa using hx) q2⟩
section PM9
variable {p : Program} {l : Launch} {e : Env} {R : Room} {s : State} {m : MethodId} {args : Array Value} {below : List Frame} {meth : Method} {c : Code} {Q : State → Prop}
variable {ex : Nat → Nat} {B : Nat} {dA : Nat → ClassId} {D : va_G} {cl : List vw_C} {nL n0 z0 : Nat} {cc : ByteArray} {pc : Nat} {L : pm_L} {st : List Value} {h h2 : pm_H}
variable {tys : List (ClassId × FieldType)} {Ts : List Cond} {own : String} {E : State → Prop}
theorem pm_WT_catch {x ci N tgt : Nat} {C : String} {T0 : u_T} {vs : List Value} {hh : List (Nat × Nat × Nat × Nat)} {cast : Nat → Option Bool} (hown : s.vm.findClass own = some m.cls) (hK : va_K D cl tys s) (htb : c.exceptionTable.toList.map pm_tt = hh) (hcs : pm_cs s args own C cast) (hf : pm_fh cast pc hh = some tgt) (he : h[x]? = some (.inr (ci, vs))) (hc : cl[ci]? = some (C, T0, N)) (k : pm_W p l e R s m args below meth c Q ex B dA D cl nL n0 z0 tgt L [.ref x] h) : pm_WT p l e R s m args below meth c Q ex B dA D cl nL n0 z0 pc L x h := fun ls H locs rest hl hP hS T hT X => by
  obtain ⟨cell, r1, r2, r3⟩ := va_recv hK hP hc (pm_w_at he)
  have hpl : e.platform.magicAccessors = ({} : Platform).magicAccessors := by rw [X.admits.platform]
  obtain ⟨vm2, q1, q2⟩ := pm_search (p := p) (l := l) (e := e) hpl hown hcs (f := F0 m pc ls rest) rfl (a := B + x) r3 (fun z hz => by rw [hz] at r2; cases r2) c.exceptionTable.toList ((T.setTop (F0 m pc ls rest)).pushFrame (.throwing (B + x))) (by rw [throwing_vm]; exact X.warmed) (by rw [throwing_heap, hT]; exact r1) (by rw [htb]; exact hf)
  obtain ⟨t, a1, b1⟩ := k ls H locs hl hP hS (T.setVm vm2) hT (X.noted q1)
  exact ⟨t, pm_caught (meth := meth) X.here X.method' X.code q2 a1, b1⟩
end PM9
