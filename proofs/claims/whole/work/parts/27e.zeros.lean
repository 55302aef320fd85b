/-! PART 27e: a loop that sets all elements of a boolean array to false. -/
section PE27e
variable {p : Program} {l : Launch} {e : Env} {R : Room} {s : State} {m : MethodId} {args : Array Value} {below : List Frame} {meth : Method} {c : Code} {Q : State → Prop}
variable {ex : Nat → Nat} {B : Nat} {dA : Nat → ClassId} {D : va_G} {cl : List vw_C} {nL n0 z0 : Nat} {cc : ByteArray} {pc : Nat} {st : List Value} {h : pm_H}
variable {tys : List (ClassId × FieldType)} {Ts : List Cond} {own : String}
theorem pm_zl (hx : p.tables.exec = Jvm.exec) (hb : c.code = cc) (hts : ∀ w ∈ Ts, w.before args s = true) (hown : s.vm.findClass own = some m.cls) (hK : va_K D cl tys s) {C : String} {T : u_T} {N ci index k0 a b t t0 : Nat} {vs : List Value} {f : Nat → Int32} (hin : ∀ w ∈ u_ws C T N, w ∈ Ts) (hc : cl[ci]? = some (C, T, N)) (hk : k0 < N) (hlink : (Cond.fieldLink own index (T k0).1 (T k0).2.1 (T k0).2.2.1).before args s = true) (hn : 1 < nL)
    (he : h[a]? = some (.inr (ci, vs))) (hv : vs[k0]? = some (.ref b)) (hA : h[b]? = some (.inl (t, .inl (4000, f)))) (ht : tys[t0]? = some (dA t, .boolean))
    (d0 : decode cc pc = .ok (.iload_n 1, 1)) (d1 : decode cc (pc + 1) = .ok (.sipush 4000, 3)) (d2 : decode cc (pc + 4) = .ok (.if_icmp .ge 16, 3)) (d3 : decode cc (pc + 7) = .ok (.aload_n 0, 1)) (d4 : decode cc (pc + 8) = .ok (.getfield index, 3)) (d5 : decode cc (pc + 11) = .ok (.iload_n 1, 1)) (d6 : decode cc (pc + 12) = .ok (.iconst 0, 1)) (d7 : decode cc (pc + 13) = .ok (.bastore, 1)) (d8 : decode cc (pc + 14) = .ok (.iinc 1 1, 3)) (d9 : decode cc (pc + 17) = .ok (.goto (-17), 3)) (d10 : decode cc (pc + 20) = .ok (.iconst 0, 1)) (d11 : decode cc (pc + 21) = .ok (.istore_n 1, 1))
    (k : pm_W p l e R s m args below meth c Q ex B dA D cl nL n0 z0 (pc + 22) [(1, .int 0), (0, .ref a)] st (h.set b (.inl (t, .inl (4000, fun j => if j < 4000 then 0 else f j))))) : pm_W p l e R s m args below meth c Q ex B dA D cl nL n0 z0 pc [(1, .int 0), (0, .ref a)] st h := by
  have hab : a ≠ b := fun q => by rw [q, hA] at he; cases he
  have hbl : b < h.length := (List.getElem?_eq_some_iff.mp hA).1
  have e0 : h.set b (.inl (t, .inl (4000, f))) = h := by
    apply List.ext_getElem?
    intro j
    by_cases hj : b = j
    · subst hj; rw [List.getElem?_set_self hbl, hA]
    · rw [List.getElem?_set_ne hj]
  have loop : ∀ g, g ≤ 4000 → ∀ f1 : Nat → Int32, (fun j => if j < 4000 ∧ 4000 - g ≤ j then 0 else f1 j) = (fun j => if j < 4000 then 0 else f j) → pm_W p l e R s m args below meth c Q ex B dA D cl nL n0 z0 pc [(1, .int (nI (4000 - g))), (0, .ref a)] st (h.set b (.inl (t, .inl (4000, f1)))) := by
    intro g
    induction g with
    | zero =>
      intro _ f1 hf
      refine pm_iload_n (n := 1) hx hb d0 rfl rfl ?_
      refine pm_sipush hx hb d1 ?_
      refine pm_icmp_ge (tgt := pc + 20) hx hb d2 (by omega) (fun _ => ?_) (fun q => absurd (by decide) q)
      refine pm_iconst hx hb d10 ?_
      refine pm_istore_n (n := 1) hx hb d11 rfl hn ?_
      have hf2 : f1 = fun j => if j < 4000 then 0 else f j := by
        rw [← hf]
        funext j
        rw [if_neg (by omega)]
      rw [hf2]
      exact k
    | succ g ih =>
      intro hg f1 hf
      have hlt : 4000 - (g + 1) < 4000 := by omega
      have hx1 : nI (4000 - (g + 1)) + 1 = nI (4000 - g) := by rw [nI_1]; congr 1; omega
      refine pm_iload_n (n := 1) hx hb d0 rfl rfl ?_
      refine pm_sipush hx hb d1 ?_
      refine pm_icmp_ge (tgt := pc + 20) hx hb d2 (by omega) (fun q => ?_) (fun _ => ?_)
      · exfalso
        exact nI_ge hlt (by decide) (show nI 4000 ≤ nI (4000 - (g + 1)) from q)
      · refine pm_aload_n (n := 0) hx hb d3 rfl rfl rfl ?_
        refine pm_getf (C := C) (T := T) (N := N) (ref := (T k0).1) (k0 := k0) (v := .ref b) hx hb hts hown hK hin hc hk hlink (fun _ q => q) (by rw [List.getElem?_set_ne (Ne.symm hab)]; exact he) hv d4 ?_
        refine pm_iload_n (n := 1) hx hb d5 rfl rfl ?_
        refine pm_iconst hx hb d6 ?_
        refine pm_zast hx hb hK t0 (t := t) (N := 4000) (f := f1) (List.getElem?_set_self hbl) ht (vp_in_nI hlt (by decide)) d7 ?_
        rw [List.set_set, nI_clamp (by omega)]
        refine pm_iinc hx hb d8 rfl hn ?_
        refine pm_goto (tgt := pc) hx hb d9 (by omega) ?_
        have e9 : pm_st1 1 (.int (nI (4000 - (g + 1)) + Int32.ofInt 1)) [(1, .int (nI (4000 - (g + 1)))), (0, .ref a)] = [(1, .int (nI (4000 - g))), (0, .ref a)] := by
          rw [show Int32.ofInt 1 = 1 from rfl, hx1]; rfl
        rw [e9]
        refine ih (by omega) _ ?_
        rw [← hf]
        funext j
        show (if j < 4000 ∧ 4000 - g ≤ j then 0 else upd f1 (4000 - (g + 1)) (vp_nar .boolean (Int32.ofInt 0)) j) = if j < 4000 ∧ 4000 - (g + 1) ≤ j then 0 else f1 j
        by_cases h1 : j < 4000 ∧ 4000 - g ≤ j
        · rw [if_pos h1, if_pos ⟨h1.1, by omega⟩]
        · rw [if_neg h1]
          by_cases h2 : j = 4000 - (g + 1)
          · subst h2
            rw [if_pos ⟨hlt, Nat.le_refl _⟩]
            show (if 4000 - (g + 1) = 4000 - (g + 1) then vp_nar .boolean (Int32.ofInt 0) else f1 (4000 - (g + 1))) = 0
            rw [if_pos rfl]; rfl
          · rw [if_neg (by omega)]
            show (if j = 4000 - (g + 1) then vp_nar .boolean (Int32.ofInt 0) else f1 j) = f1 j
            rw [if_neg h2]
  have k2 := loop 4000 (Nat.le_refl _) f (by funext j; by_cases h1 : j < 4000 <;> simp [h1])
  rw [e0] at k2
  exact k2
end PE27e
