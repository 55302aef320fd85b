/-! PART 24b: words on statics stay. -/
theorem pe_LS_ok {B : Nat} {C n d : String} {u U : State} (hW : u.WarmedH U.vm) (hq : ∀ q, q < B → U.heap[q]? = u.heap[q]?) (h1 : (Cond.laysStatic C n d).before #[] u = true) (h2 : va_Zq C n d (fun q => B ≤ q) u u.heap) : (Cond.laysStatic C n d).before #[] U = true := by
  have h3 := Cond.laysStatic_setVm (args := #[]) hW.alike h1
  obtain ⟨c, k, i, f, a, cell, hc, hi, hst, ha, hcell, hs, hcls, hlt, hty⟩ := Cond.laysStatic_spec h3
  have h4 : ∃ v, va_Z C n d v (fun q => B ≤ q) U u.heap := by
    rcases h2 with h | ⟨t, h⟩
    · exact ⟨_, h.moved hW.alike⟩
    · exact ⟨_, h.moved hW.alike⟩
  obtain ⟨v, cf, kf, fi, f2, a2, cell2, g1, g2, g3, g4, g5, g6, g7, g8⟩ := h4
  have e1 : some (c, k, i, f) = some (cf, kf, fi, f2) := Eq.trans (Eq.symm hi) g1
  cases e1
  have e2 : a = a2 := Option.some.inj (ha.symm.trans g4)
  subst e2
  exact Cond.laysStatic_of (s := U) hc hi hst ha (by rw [hq a (by omega)]; exact hcell) hs hcls hlt hty
/-- what is known of a reference that a static holds -/
def pe_LR (B : Nat) (C n d : String) (s : State) : Prop := (Cond.laysStatic C n d).before #[] s = true ∧ va_Zq C n d (fun q => B ≤ q) s s.heap
theorem pe_LR_ok {B : Nat} {C n d : String} : pm_Ok B (pe_LR B C n d) := fun U U2 hE hW hq =>
  ⟨pe_LS_ok hW hq hE.1 hE.2, (hE.2.moved hW.alike).kept (fun a _ h => hq a (by omega))⟩
theorem pe_LR_of {C n d : String} {s : State} {args : Array Value} (hl : (Cond.laysStatic C n d).before args s = true) (hini : (Cond.initialized C).before args s = true) (h : (Cond.isRef (.static C n d)).before args s = true) : pe_LR s.heap.size C n d s := by
  refine ⟨?_, va_Zqof hl hini h (fun a h => by omega)⟩
  obtain ⟨c, k, i, f, a, cell, hc, hi, hst, ha, hcell, hs, hcls, hlt, hty⟩ := Cond.laysStatic_spec hl
  exact Cond.laysStatic_of hc hi hst ha hcell hs hcls hlt hty
