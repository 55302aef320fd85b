/-! PART 38: the words under new Halt() hold at every method's start. -/
theorem hl_ls {C n d : String} {s : State} {a b : Array Value} (h : (Cond.laysStatic C n d).before a s = true) : (Cond.laysStatic C n d).before b s = true := by
  obtain ⟨c, k, i, f, ad, cell, hc, hi, hst, ha, hcell, hs, hcls, hlt, hty⟩ := Cond.laysStatic_spec h
  exact Cond.laysStatic_of hc hi hst ha hcell hs hcls hlt hty
def hl_ok (w : Cond) : Bool := (goodWord w && decide (w ∈ tables_1)) || ((pe_nst w && decide (w ∈ tables_1)) || (decide (w = .laysStatic Bundle.tN "UNASSIGNED_STACK" Bundle.steD) || decide (w = .laysStatic Bundle.tN "SUPPRESSED_SENTINEL" Bundle.listD)))
set_option maxRecDepth 40000 in
theorem hl_all : hl_at.all hl_ok = true := by decide +kernel
theorem hl_hat {s : State} {args : Array Value} {B : Nat} (hts : ∀ w ∈ pm_tb, w.before args s = true) (hN : pe_nw s) (hU : pe_LR B Bundle.tN "UNASSIGNED_STACK" Bundle.steD s) (hV : pe_LR B Bundle.tN "SUPPRESSED_SENTINEL" Bundle.listD s) : ∀ a ∈ hl_at, a.before args s = true := by
  intro w hw
  have h1 := List.all_eq_true.mp hl_all w hw
  unfold hl_ok at h1
  rw [Bool.or_eq_true, Bool.or_eq_true, Bool.or_eq_true, Bool.and_eq_true, Bool.and_eq_true, decide_eq_true_eq, decide_eq_true_eq, decide_eq_true_eq] at h1
  rcases h1 with ⟨g, hm⟩ | ⟨g, hm⟩ | rfl | rfl
  · exact hts w (List.mem_filter.mpr ⟨List.mem_append_right _ hm, g⟩)
  · exact pe_n_mem hm g hN
  · exact hl_ls hU.1
  · exact hl_ls hV.1
