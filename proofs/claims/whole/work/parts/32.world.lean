/-! PART 32: the classes and array classes at the law's start. -/
theorem pe_AT {s : State} {c : ClassId} {k : Class} {comp : ClassId} {ty : FieldType} (hk : s.vm.classes[c]? = some k) (hkind : k.kind = .array comp ty) : ArrOfT s c ty := fun N f => ⟨(fun k2 q => by cases q), k, hk, comp, hkind⟩
theorem pe_aP {s : State} {args : Array Value} {ty : FieldType} (h : (Cond.arrayClass ty).before args s = true) (hty : ty = .int ∨ ty = .long ∨ ty = .byte ∨ ty = .boolean) : ∃ c, ArrOfT s c ty ∧ va_RA s c ty := by
  obtain ⟨c, k, comp, h1, h2, h3⟩ := Cond.arrayClass_spec h
  refine ⟨c, pe_AT h2 h3, ?_⟩
  rcases hty with rfl | rfl | rfl | rfl <;> exact h1
theorem pe_aA {s : State} {args : Array Value} {t : FieldType} (h : (Cond.arrayOver (.array t)).before args s = true) : ∃ c, ArrOfT s c (.array t) ∧ va_RA s c (.array t) := by
  obtain ⟨comp, c, k, h1, h2, h3, h4⟩ := Cond.arrayOver_specA h
  exact ⟨c, pe_AT h2 h3, h4⟩
theorem pe_aO {s : State} {args : Array Value} {C : String} (h : (Cond.arrayOver (.object C)).before args s = true) : ∃ c, ArrOfT s c (.object C) ∧ va_RA s c (.object C) := by
  obtain ⟨comp, c, k, h1, h2, h3, h4, h5⟩ := Cond.arrayOver_spec h
  exact ⟨c, pe_AT h3 h4, k, comp, h3, h4, h1, h5⟩
theorem pe_known {s : State} {args : Array Value} (hts : ∀ w ∈ lw_tbl, w.before args s = true) : ∀ ci C T N, pe_at pe_cl ci = some (C, T, N) → ∃ (cC : ClassId) (iS : Nat → Nat), u_Kn s C T N cC iS := by
  intro ci C T N h
  have hin := (pe_cl_ok (fun _ => 0) 0 ci C T N h).1
  have hin2 : ∀ w ∈ u_ws C T N, w ∈ lw_tbl := fun w hw => (List.mem_filter.mp (hin w hw)).1
  match ci, h with
  | 0, h =>
    have h2 : some ("LinkedTongue$Code", TC_0, 17) = some (C, T, N) := h
    cases h2
    exact u_known (n := 17) hts hin2 (hts _ (List.mem_append_right _ (List.mem_of_getElem? (i := 264) (by decide +kernel))))
  | 1, h =>
    have h2 : some ("LinkedTongue$Compiler", TC_1, 18) = some (C, T, N) := h
    cases h2
    exact u_known (n := 18) hts hin2 (hts _ (List.mem_append_right _ (List.mem_of_getElem? (i := 373) (by decide +kernel))))
  | 2, h =>
    have h2 : some ("LinkedTongue$Heap", TC_2, 20) = some (C, T, N) := h
    cases h2
    exact u_known (n := 20) hts hin2 (hts _ (List.mem_append_right _ (List.mem_of_getElem? (i := 435) (by decide +kernel))))
  | 3, h =>
    have h2 : some ("LinkedTongue$Host", TC_3, 19) = some (C, T, N) := h
    cases h2
    exact u_known (n := 19) hts hin2 (hts _ (List.mem_append_right _ (List.mem_of_getElem? (i := 441) (by decide +kernel))))
  | 4, h =>
    have h2 : some ("LinkedTongue$HostReader", TC_4, 5) = some (C, T, N) := h
    cases h2
    exact u_known (n := 5) hts hin2 (hts _ (List.mem_append_right _ (List.mem_of_getElem? (i := 351) (by decide +kernel))))
  | 5, h =>
    have h2 : some ("LinkedTongue$Linker", TC_5, 20) = some (C, T, N) := h
    cases h2
    exact u_known (n := 20) hts hin2 (hts _ (List.mem_append_right _ (List.mem_of_getElem? (i := 658) (by decide +kernel))))
  | 6, h =>
    have h2 : some ("LinkedTongue$Reader", TC_6, 10) = some (C, T, N) := h
    cases h2
    exact u_known (n := 10) hts hin2 (hts _ (List.mem_append_right _ (List.mem_of_getElem? (i := 221) (by decide +kernel))))
  | 7, h =>
    have h2 : some ("LinkedTongue$Row", TC_7, 3) = some (C, T, N) := h
    cases h2
    exact u_known (n := 3) hts hin2 (hts _ (List.mem_append_right _ (List.mem_of_getElem? (i := 451) (by decide +kernel))))
  | 8, h =>
    have h2 : some ("LinkedTongue$Task", TC_8, 17) = some (C, T, N) := h
    cases h2
    exact u_known (n := 17) hts hin2 (hts _ (List.mem_append_right _ (List.mem_of_getElem? (i := 738) (by decide +kernel))))
  | 9, h =>
    have h2 : some ("LinkedTongue$Words", TC_9, 16) = some (C, T, N) := h
    cases h2
    exact u_known (n := 16) hts hin2 (hts _ (List.mem_append_right _ (List.mem_of_getElem? (i := 42) (by decide +kernel))))
  | 10, h =>
    have h2 : some ("LinkedTongue", TC_10, 11) = some (C, T, N) := h
    cases h2
    exact u_known (n := 11) hts hin2 (hts _ (List.mem_append_right _ (List.mem_of_getElem? (i := 34) (by decide +kernel))))
  | 11, h =>
    have h2 : some ("LinkedTongueModel$Halt", TC_11, 8) = some (C, T, N) := h
    cases h2
    exact u_known (n := 8) hts hin2 (hts _ (List.mem_append_right _ (List.mem_of_getElem? (i := 2198) (by decide +kernel))))
  | 12, h =>
    have h2 : some ("LinkedTongueModel$Host", TC_12, 21) = some (C, T, N) := h
    cases h2
    exact u_known (n := 21) hts hin2 (hts _ (List.mem_append_right _ (List.mem_of_getElem? (i := 2228) (by decide +kernel))))
  | 13, h =>
    have h2 : some ("LinkedTongueModel$Ints", TC_13, 3) = some (C, T, N) := h
    cases h2
    exact u_known (n := 3) hts hin2 (hts _ (List.mem_append_right _ (List.mem_of_getElem? (i := 2322) (by decide +kernel))))
  | 14, h =>
    have h2 : some ("LinkedTongueModel$Part", TC_14, 8) = some (C, T, N) := h
    cases h2
    exact u_known (n := 8) hts hin2 (hts _ (List.mem_append_right _ (List.mem_of_getElem? (i := 3068) (by decide +kernel))))
  | 15, h =>
    have h2 : some ("LinkedTongueModel", TM, 180) = some (C, T, N) := h
    cases h2
    exact u_known (n := 180) hts hin2 (hts _ (List.mem_append_right _ (List.mem_of_getElem? (i := 2192) (by decide +kernel))))
  | 16, h =>
    have h2 : some ("java/lang/IllegalArgumentException", TC_16, 6) = some (C, T, N) := h
    cases h2
    exact u_known (n := 6) hts hin2 (hts _ (List.mem_append_right _ (List.mem_of_getElem? (i := 1587) (by decide +kernel))))
  | 17, h =>
    have h2 : some ("java/lang/IllegalStateException", TC_17, 6) = some (C, T, N) := h
    cases h2
    exact u_known (n := 6) hts hin2 (hts _ (List.mem_append_right _ (List.mem_of_getElem? (i := 1020) (by decide +kernel))))
  | 18, h =>
    have h2 : some ("java/lang/IndexOutOfBoundsException", TC_18, 6) = some (C, T, N) := h
    cases h2
    exact u_known (n := 6) hts hin2 (hts _ (List.mem_append_right _ (List.mem_of_getElem? (i := 2136) (by decide +kernel))))
  | 19, h =>
    have h2 : some ("java/util/NoSuchElementException", TC_19, 6) = some (C, T, N) := h
    cases h2
    exact u_known (n := 6) hts hin2 (hts _ (List.mem_append_right _ (List.mem_of_getElem? (i := 2166) (by decide +kernel))))
  | n + 20, h =>
    rw [pe_at_eq] at h
    exact absurd (List.getElem?_eq_some_iff.mp h).1 (by show ¬ n + 20 < 20; omega)
/-- numbers for the classes and the arrays' classes -/
theorem pe_world {s : State} {args : Array Value} (hts : ∀ w ∈ lw_tbl, w.before args s = true) : ∃ (D : va_G) (dA : Nat → ClassId) (tys : List (ClassId × FieldType)), va_K D pe_cl tys s ∧ ∀ t, pe_tOK t = true → ∃ ty, pe_tyOf pe_cl t = some ty ∧ tys[t]? = some (dA t, ty) := by
  have h0 : ∀ ci : Nat, ∃ q : ClassId × (Nat → Nat), ∀ C T N, pe_at pe_cl ci = some (C, T, N) → u_Kn s C T N q.1 q.2 := by
    intro ci
    cases hq : pe_at pe_cl ci with
    | none => exact ⟨(0, fun _ => 0), fun C T N h => by cases h⟩
    | some q =>
      obtain ⟨C, T, N⟩ := q
      obtain ⟨cC, iS, hk⟩ := pe_known hts ci C T N hq
      exact ⟨(cC, iS), fun C2 T2 N2 h => by cases h; exact hk⟩
  obtain ⟨ad, had⟩ := Classical.axiomOfChoice h0
  obtain ⟨c0, r0⟩ := pe_aP (hts _ (List.mem_append_right _ (List.mem_of_getElem? (i := 219) (by decide +kernel)))) (Or.inl rfl)
  obtain ⟨c1, r1⟩ := pe_aP (hts _ (List.mem_append_right _ (List.mem_of_getElem? (i := 479) (by decide +kernel)))) (Or.inr (Or.inl rfl))
  obtain ⟨c2, r2⟩ := pe_aP (hts _ (List.mem_append_right _ (List.mem_of_getElem? (i := 218) (by decide +kernel)))) (Or.inr (Or.inr (Or.inl rfl)))
  obtain ⟨c3, r3⟩ := pe_aP (hts _ (List.mem_append_right _ (List.mem_of_getElem? (i := 808) (by decide +kernel)))) (Or.inr (Or.inr (Or.inr rfl)))
  obtain ⟨c5, r5⟩ := pe_aA (t := .int) (hts _ (List.mem_append_right _ (List.mem_of_getElem? (i := 270) (by decide +kernel))))
  obtain ⟨cT, rT⟩ := pe_aO (C := "LinkedTongue$Task") (hts _ (List.mem_append_right _ (List.mem_of_getElem? (i := 735) (by decide +kernel))))
  obtain ⟨cP, rP⟩ := pe_aO (C := "LinkedTongueModel$Part") (hts _ (List.mem_append_right _ (List.mem_of_getElem? (i := 2320) (by decide +kernel))))
  refine ⟨(fun ci => (ad ci).1, fun ci => (ad ci).2), fun t => [c0, c1, c2, c3, c0, c5, c0, c0, c0, c0, c0, c0, c0, c0, cT, c0, c0, c0, c0, c0, cP].getD t 0, [(c0, .int), (c1, .long), (c2, .byte), (c3, .boolean), (c0, .int), (c5, .array .int), (c0, .int), (c0, .int), (c0, .int), (c0, .int), (c0, .int), (c0, .int), (c0, .int), (c0, .int), (cT, .object "LinkedTongue$Task"), (c0, .int), (c0, .int), (c0, .int), (c0, .int), (c0, .int), (cP, .object "LinkedTongueModel$Part")], ⟨fun c q hq => ?_, fun k q hq => ?_⟩, fun t ht => ?_⟩
  · obtain ⟨C, T, N⟩ := q
    exact had c C T N (by rw [pe_at_eq]; exact hq)
  · have hm := List.mem_of_getElem? hq
    simp only [List.mem_cons, List.not_mem_nil, or_false] at hm
    rcases hm with rfl | rfl | rfl | rfl | rfl | rfl | rfl | rfl | rfl | rfl | rfl | rfl | rfl | rfl | rfl | rfl | rfl | rfl | rfl | rfl | rfl
    · exact r0
    · exact r1
    · exact r2
    · exact r3
    · exact r0
    · exact r5
    · exact r0
    · exact r0
    · exact r0
    · exact r0
    · exact r0
    · exact r0
    · exact r0
    · exact r0
    · exact rT
    · exact r0
    · exact r0
    · exact r0
    · exact r0
    · exact r0
    · exact rP
  · have hm : t ∈ pe_ta := by
      unfold pe_tOK at ht
      rw [List.any_eq_true] at ht
      obtain ⟨q, hq, hb⟩ := ht
      rw [← Nat.eq_of_beq_eq_true hb]
      exact hq
    simp only [pe_ta, List.mem_cons, List.not_mem_nil, or_false] at hm
    rcases hm with rfl | rfl | rfl | rfl | rfl | rfl | rfl
    · exact ⟨_, rfl, rfl⟩
    · exact ⟨_, rfl, rfl⟩
    · exact ⟨_, rfl, rfl⟩
    · exact ⟨_, rfl, rfl⟩
    · exact ⟨_, rfl, rfl⟩
    · exact ⟨_, rfl, rfl⟩
    · exact ⟨_, rfl, rfl⟩
