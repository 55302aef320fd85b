/-! PART 30: what is known of outer things stays known; the evaluator stands on it. -/
def pe_EE (ex : Nat → Nat) (B : Nat) (exV : Nat → Nat) (jF : Value) (s : State) : Prop := pe_EX ex B pe_xs exV jF s ∧ (∀ q ∈ pe_kst, ∃ tx, vk_R q.1 q.2.1 tx (ex q.2.2) s) ∧ ∀ q ∈ pe_stt, va_Z q.2.1 q.2.2.1 q.2.2.2 (.ref (ex q.1)) (fun q => B ≤ q) s s.heap
def pe_EF (ex : Nat → Nat) (B : Nat) (exV : Nat → Nat) (jF : Value) (s : State) : Prop := pe_nw s ∧ pe_EE ex B exV jF s ∧ pe_LR B Bundle.tN "UNASSIGNED_STACK" Bundle.steD s ∧ pe_LR B Bundle.tN "SUPPRESSED_SENTINEL" Bundle.listD s ∧ va_Z Bundle.tN "UNASSIGNED_STACK" Bundle.steD (pm_v ex B (.float 774)) (fun q => B ≤ q) s s.heap ∧ va_Z Bundle.tN "SUPPRESSED_SENTINEL" Bundle.listD (pm_v ex B (.float 775)) (fun q => B ≤ q) s s.heap
theorem pe_EE_ok (ex : Nat → Nat) (B : Nat) (exV : Nat → Nat) (jF : Value) : pm_Ok B (pe_EE ex B exV jF) := by
  intro U U2 hE hW hq
  have hk : ∀ a : Nat, a < U.heap.size → ¬ B ≤ a → U2.heap[a]? = U.heap[a]? := fun a _ h => hq a (by omega)
  obtain ⟨X, h2, h3⟩ := hE
  refine ⟨⟨fun j tx hj => ?_, fun j tx hj => ((X.ar j tx hj).moved hW.alike).kept hk, (X.cs.moved hW.alike).kept hk, (X.fm.moved hW.alike).kept hk, X.fr⟩, fun q hq => ?_, fun q hq => ((h3 q hq).moved hW.alike).kept hk⟩
  · obtain ⟨a1, a2, a3, a4⟩ := X.st j tx hj
    exact ⟨(a1.moved hW.alike).kept hk, (a2.moved hW.alike).kept hk, (a3.moved hW.alike).kept hk, (a4.moved hW.alike).kept hk⟩
  · obtain ⟨tx, hv⟩ := h2 q hq
    exact ⟨tx, hv.warm hW⟩
theorem pe_EF_ok (ex : Nat → Nat) (B : Nat) (exV : Nat → Nat) (jF : Value) : pm_Ok B (pe_EF ex B exV jF) := fun U U2 hE hW hq => ⟨pe_nw_ok hW hE.1, pe_EE_ok ex B exV jF U U2 hE.2.1 hW hq, pe_LR_ok U U2 hE.2.2.1 hW hq, pe_LR_ok U U2 hE.2.2.2.1 hW hq, (hE.2.2.2.2.1.moved hW.alike).kept (fun a _ h => hq a (by omega)), (hE.2.2.2.2.2.moved hW.alike).kept (fun a _ h => hq a (by omega))⟩
theorem pe_asc : ∀ j tx, pe_at pe_xs j = some (0, tx) → tx.length < 2 ^ 31 ∧ ∀ z ∈ tx, ((z &&& 255).toUInt32 % 65536).toInt32 = z := by
  have key : ∀ j, j < 3 → ((pe_at pe_xs j).getD (1, [])).1 = 0 → ((pe_at pe_xs j).getD (1, [])).2.length < 2 ^ 31 ∧ ∀ z ∈ ((pe_at pe_xs j).getD (1, [])).2, ((z &&& 255).toUInt32 % 65536).toInt32 = z := by decide +kernel
  intro j tx hj
  have hlt : j < 3 := by
    rw [pe_at_eq] at hj
    exact (List.getElem?_eq_some_iff.mp hj).1
  have h1 := key j hlt
  rw [hj] at h1
  exact h1 rfl
theorem pe_xs2 (j : Nat) (tx : List Int32) : ¬ pe_at pe_xs j = some (2, tx) := by
  intro hj
  rw [pe_at_eq] at hj
  have h1 : (pe_xs.all (fun q => !(q.1 == 2))) = true := by decide +kernel
  have h2 := List.all_eq_true.mp h1 _ (List.mem_of_getElem? hj)
  cases h2
theorem pe_xs3 (j : Nat) (tx : List Int32) : ¬ pe_at pe_xs j = some (3, tx) := by
  intro hj
  rw [pe_at_eq] at hj
  have h1 : (pe_xs.all (fun q => !(q.1 == 3))) = true := by decide +kernel
  have h2 := List.all_eq_true.mp h1 _ (List.mem_of_getElem? hj)
  cases h2
theorem pe_Am_of {l : Launch} {ex : Nat → Nat} {B : Nat} {dA : Nat → ClassId} {D : va_G} {tys : List (ClassId × FieldType)} {exV : Nat → Nat} {jF : Value} (hls : l.stackTraces = false) (hT : ∀ t, pe_tOK t = true → ∃ ty, pe_tyOf pe_cl t = some ty ∧ tys[t]? = some (dA t, ty)) : pe_Am pe_GC pe_ckS l ex B dA D pe_cl tys (pe_EF ex B exV jF) :=
  ⟨pe_EF_ok ex B exV jF, hT, pe_cl_ok ex B, pe_ms_ok, pe_arr_ok, fun s hE => hE.2.1.1.ar, fun s hE j tx hj => absurd hj (pe_xs2 j tx), fun s hE j tx hj => absurd hj (pe_xs3 j tx), fun s hE => hE.1, pe_spec hls (fun s hE => hE.2.2.1) (fun s hE => hE.2.2.2.1) (fun s hE => hE.2.2.2.2.1) (fun s hE => hE.2.2.2.2.2) (pe_EF_ok ex B exV jF) (fun s hE => hE.1) hT (fun s hE => hE.2.1.1) (fun s hE => hE.2.1.2.1) (fun s hE => hE.2.1.2.2) pe_asc⟩
