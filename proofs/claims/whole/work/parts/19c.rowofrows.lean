/-! An own array of ints into an own array of such arrays. -/
section PE19C
variable {p : Program} {l : Launch} {e : Env} {R : Room} {s : State} {m : MethodId} {args : Array Value} {below : List Frame} {meth : Method} {c : Code} {Q : State → Prop}
variable {ex : Nat → Nat} {B : Nat} {dA : Nat → ClassId} {D : va_G} {cl : List vw_C} {nL n0 z0 : Nat} {cc : ByteArray} {pc : Nat} {L : pm_L} {st : List Value} {h : pm_H}
variable {tys : List (ClassId × FieldType)} {own : String}
theorem pm_aastA (hx : p.tables.exec = Jvm.exec) (hb : c.code = cc) (hK : va_K D cl tys s) (hover : (Cond.arrayOver (.array .int)).before args s = true) (ht5 : tys[5]? = some (dA 5, .array .int)) (ht0 : tys[0]? = some (dA 0, .int)) {a N o K : Nat} {f : Nat → Option Nat} {g : Nat → Int32} {i : Int32} (he : h[a]? = some (.inl (5, .inr (.inr (N, f))))) (ho : h[o]? = some (.inl (0, .inl (K, g)))) (hi : vp_in i N) (hdg : decode cc pc = .ok (.aastore, 1)) (k : pm_W p l e R s m args below meth c Q ex B dA D cl nL n0 z0 (pc + 1) L st (h.set a (.inl (5, .inr (.inr (N, va_up f i.toNatClampNeg (some o))))))) : pm_W p l e R s m args below meth c Q ex B dA D cl nL n0 z0 pc L (.ref o :: .int i :: .ref a :: st) h := fun ls H locs hl hP hS => by
  obtain ⟨comp, cA, kA, hcomp, hkA, hkind, hname⟩ := Cond.arrayOver_specA hover
  have e5 : dA 5 = cA := Option.some.inj ((hK.2 5 _ ht5).2.symm.trans hname)
  have e0 : dA 0 = comp := Option.some.inj ((hK.2 0 _ ht0).2.symm.trans hcomp)
  have hlt : i.toNatClampNeg < N := Nat.not_le.mp fun q => hi (Or.inr q)
  have h0 : ¬ i < 0 := fun q => hi (Or.inl q)
  have hA := hP a _ (pm_w_at he)
  have hV := hP o _ (pm_w_at ho)
  obtain ⟨kc, hkc, -⟩ := Vm.findClass_spec hcomp
  have hD := pm_D ex B dA h
  refine W.aast hx hb (t := .array .int) (comp := comp) (k := kA) (kv := kc) (kcomp := kc) hA (fun q h => by cases h) (fun h => by cases h) (by show s.vm.classes[dA 5]? = _; rw [e5]; exact hkA) hkind rfl hkc ⟨h0, by show _ < (arrV _ _ _).slots.size; rw [arrV_size]; exact hlt⟩ hV (fun q h => by cases h) (by show s.vm.classes[dA 0]? = _; rw [e0]; exact hkc) (by show s.vm.assignable (dA 0) comp = true; rw [e0]; show Vm.assignableAux s.vm (255 + 1) comp comp = true; unfold Vm.assignableAux; rw [beq_self_eq_true, Bool.true_or]) rfl rfl hdg fun H1 e z oq => ?_
  refine pm_W_set he (by simp [pm_n]) k hl ?_ (hS.put z oq (hD.2 a _ (pm_w_at he)))
  have h1 := pm_updR (f := f) (B := B) (n := i.toNatClampNeg) (x := some o)
  rw [show (some o : Option Nat).map (fun k => B + k) = some (B + o) from rfl] at h1
  rw [← pm_w_set]
  refine hP.set hD (pm_w_at he) ?_ oq
  show H1[B + a]? = some (vp_cell _ _)
  rw [e]
  show some ((arrV (dA 5) N (fun j => va_rf ((f j).map (fun k => B + k)))).setSlot i.toNatClampNeg (.ref (B + o))) = some (arrV (dA 5) N (fun j => va_rf ((va_up f i.toNatClampNeg (some o) j).map (fun k => B + k))))
  rw [arrV_store]
  congr 2
  funext q
  show _ = va_rf ((va_up f i.toNatClampNeg (some o) q).map (fun k => B + k))
  by_cases hq : q = i.toNatClampNeg
  · subst hq
    simp [updV, va_up, va_rf]
  · simp [updV, va_up, hq]
end PE19C
