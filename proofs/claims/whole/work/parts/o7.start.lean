/-! PART o7: what the Statement gives of the start, for all outer things and any script. -/
def ta_1 : List Int32 := [8000, 60000, 12000, 200000, 4000, 2000]
def ta_55 : List Int32 := [11, 26, 27, 29, 30, 1, 31, 21, 32]
def ta_101 : List Int32 := [1, 1, 1, 2, 2, 2, 1, 1]
def ta_107 : List Int32 := [1, 1, 1, 2, 2, 2, 1, 1]
def ta_97 : List Int32 := [112, 114, 111, 116, 111]
def xsA1 : List (Nat × List Int32) := [(0, tx_0), (1, ta_1), (0, tx_2), (9, []), (9, []), (9, [])]
def xsA2 : List (Nat × List Int32) := [(9, []), (9, []), (9, []), (9, []), (9, []), (9, []), (9, []), (9, []), (9, []), (9, []), (0, tx_17), (9, []), (0, tx_19), (9, []), (0, tx_21), (9, []), (0, tx_23), (9, []), (0, tx_25), (9, []), (0, tx_27), (9, []), (0, tx_29), (9, []), (0, tx_31), (9, []), (0, tx_33), (9, []), (0, tx_35), (9, []), (0, tx_37), (9, []), (0, tx_39), (9, []), (0, tx_41), (9, []), (0, tx_43), (9, []), (0, tx_45), (9, []), (0, tx_47), (9, []), (0, tx_49), (9, []), (0, tx_51), (9, []), (0, tx_53), (9, []), (1, ta_55), (9, []), (0, tx_57), (9, []), (0, tx_59), (9, []), (0, tx_61), (9, []), (0, tx_63), (9, []), (0, tx_65), (9, []), (0, tx_67), (9, []), (0, tx_69), (9, []), (0, tx_71), (9, []), (0, tx_73), (9, []), (0, tx_75), (9, []), (0, tx_77), (9, []), (0, tx_79), (9, []), (0, tx_81), (9, []), (0, tx_83), (9, []), (0, tx_85), (9, []), (0, tx_87), (9, []), (0, tx_89), (9, []), (0, tx_91), (9, []), (0, tx_93), (9, []), (0, tx_95), (9, []), (3, ta_97), (9, []), (0, tx_99), (9, []), (1, ta_101), (9, []), (0, tx_103), (9, []), (0, tx_105), (9, []), (1, ta_107), (9, []), (0, tx_35), (9, []), (0, tx_65), (9, []), (0, tx_87), (9, []), (0, tx_89), (9, []), (0, tx_91), (9, []), (0, tx_93), (9, []), (0, tx_95), (9, []), (0, tx_51), (9, []), (0, tx_53), (9, []), (0, tx_81), (9, []), (0, tx_83), (9, []), (0, tx_51), (9, []), (0, tx_81), (9, []), (0, tx_83), (9, [])]
/-- outer things: texts and arrays of the classes, the script at place 6 -/
def xsA (c : List Int32) : List (Nat × List Int32) := xsA1 ++ (1, c) :: xsA2
/-- a text: its place, its class and entry, where its premises stand, where its word stands, its signs -/
def sxA : List (Nat × String × Nat × Nat × Nat × List Int32) := [(0, "LinkedTongue", 15, 157, 43, tx_0), (2, "LinkedTongue$Host", 11, 326, 447, tx_2), (17, "LinkedTongueModel", 504, 764, 2953, tx_17), (19, "LinkedTongueModel", 510, 773, 2960, tx_19), (21, "LinkedTongueModel", 515, 786, 2973, tx_21), (23, "LinkedTongueModel", 555, 860, 3002, tx_23), (25, "LinkedTongueModel", 557, 870, 3003, tx_25), (27, "LinkedTongueModel", 553, 877, 3004, tx_27), (29, "LinkedTongueModel", 678, 924, 3053, tx_29), (31, "LinkedTongueModel", 680, 932, 3054, tx_31), (33, "LinkedTongueModel", 725, 987, 3119, tx_33), (35, "LinkedTongueModel", 733, 1146, 3222, tx_35), (37, "LinkedTongueModel", 738, 1200, 3278, tx_37), (39, "LinkedTongueModel", 743, 1206, 3283, tx_39), (41, "LinkedTongueModel", 757, 1215, 3284, tx_41), (43, "LinkedTongueModel", 759, 1225, 3285, tx_43), (45, "LinkedTongueModel", 764, 1234, 3290, tx_45), (47, "LinkedTongueModel", 676, 941, 3059, tx_47), (49, "LinkedTongue$Reader", 112, 398, 948, tx_49), (51, "LinkedTongueModel", 1307, 1293, 3477, tx_51), (53, "LinkedTongueModel", 1322, 1288, 3472, tx_53), (57, "LinkedTongueModel", 1291, 1241, 3430, tx_57), (59, "LinkedTongueModel", 1296, 1249, 3435, tx_59), (61, "LinkedTongueModel", 1297, 1257, 3436, tx_61), (63, "LinkedTongueModel", 1298, 1264, 3437, tx_63), (65, "LinkedTongueModel", 825, 1118, 3219, tx_65), (67, "LinkedTongueModel", 1195, 1327, 3790, tx_67), (69, "LinkedTongueModel", 1197, 1335, 3791, tx_69), (71, "LinkedTongueModel", 1199, 1342, 3792, tx_71), (73, "LinkedTongueModel", 1201, 1350, 3793, tx_73), (75, "LinkedTongueModel", 1202, 1358, 3794, tx_75), (77, "LinkedTongueModel", 1203, 1368, 3795, tx_77), (79, "LinkedTongueModel", 1204, 1376, 3796, tx_79), (81, "LinkedTongueModel", 1330, 1271, 3446, tx_81), (83, "LinkedTongueModel", 1332, 1280, 3471, tx_83), (85, "LinkedTongueModel", 625, 994, 3132, tx_85), (87, "LinkedTongueModel", 827, 1127, 3220, tx_87), (89, "LinkedTongueModel", 829, 1137, 3221, tx_89), (91, "LinkedTongueModel", 949, 1307, 3722, tx_91), (93, "LinkedTongueModel", 951, 1314, 3723, tx_93), (95, "LinkedTongueModel", 956, 1321, 3728, tx_95), (99, "LinkedTongueModel", 936, 1302, 3719, tx_99), (103, "LinkedTongueModel", 823, 1110, 3218, tx_103), (105, "LinkedTongueModel", 834, 1154, 3251, tx_105), (109, "LinkedTongue$Heap", 185, 615, 1983, tx_35), (111, "LinkedTongue$Heap", 169, 584, 1965, tx_65), (113, "LinkedTongue$Heap", 175, 592, 1972, tx_87), (115, "LinkedTongue$Heap", 177, 601, 1973, tx_89), (117, "LinkedTongue$Heap", 183, 609, 1982, tx_91), (119, "LinkedTongue$Heap", 187, 622, 1984, tx_93), (121, "LinkedTongue$Heap", 189, 628, 1985, tx_95), (123, "LinkedTongue$Linker", 217, 572, 1712, tx_51), (125, "LinkedTongue$Linker", 229, 580, 1765, tx_53), (127, "LinkedTongue$Linker", 262, 557, 1697, tx_81), (129, "LinkedTongue$Linker", 268, 565, 1711, tx_83), (131, "LinkedTongue$Host", 131, 458, 1203, tx_51), (133, "LinkedTongue$Host", 125, 451, 1196, tx_81), (135, "LinkedTongue$Host", 133, 465, 1204, tx_83)]
/-- texts of exceptions: only their addresses are asked for -/
def mxA : List (Nat × String × Nat × Nat × Nat) := [(7, "LinkedTongue$Compiler", 94, 471, 1277), (8, "LinkedTongue$HostReader", 53, 421, 1062), (9, "LinkedTongue", 211, 496, 1595), (10, "LinkedTongue", 218, 532, 1603), (11, "LinkedTongue", 244, 633, 2144), (12, "LinkedTongue", 247, 658, 2151), (13, "LinkedTongue", 267, 684, 2163), (14, "LinkedTongue", 281, 700, 2174), (15, "LinkedTongue", 297, 718, 2188), (16, "LinkedTongue", 299, 744, 2189)]
def axA : List (Nat × String × String × Nat × List Int32) := [(1, "LinkedTongue", "LIFE_MOST", 10, ta_1), (55, "LinkedTongue", "KIND_WORDS", 32, ta_55), (101, "LinkedTongue", "WANTS", 21, ta_101), (107, "LinkedTongueModel", "WANTS", 44, ta_107)]
def exVA (j : Nat) : Nat := bif Nat.beq j 0 then 3 else bif Nat.beq j 2 then 4 else j + 1
/-- what stands at an outer place: a text, a text's bytes, an array, the formatter, the script, a message -/
def cdX (j : Nat) : Nat × Nat := bif sxA.any (fun q => Nat.beq q.1 j) then (0, j) else bif Nat.beq j 3 then (1, 0) else bif Nat.beq j 4 then (1, 2) else bif Nat.beq j 5 then (3, 0) else bif Nat.beq j 6 then (4, 0) else bif axA.any (fun q => Nat.beq q.1 j) || Nat.beq j 97 then (2, j) else bif mxA.any (fun q => Nat.beq q.1 j) then (5, j) else (1, j - 1)
set_option maxRecDepth 40000 in
theorem cdX_s : ∀ q ∈ sxA, cdX q.1 = (0, q.1) ∧ cdX (exVA q.1) = (1, q.1) ∧ q.1 ≤ 999 ∧ exVA q.1 ≤ 999 := by decide +kernel
theorem cdX_a : ∀ q ∈ axA, cdX q.1 = (2, q.1) ∧ q.1 ≤ 999 := by decide +kernel
theorem cdX_m : ∀ q ∈ mxA, cdX q.1 = (5, q.1) ∧ q.1 ≤ 999 := by decide +kernel
def exA (fa : Nat → Nat × Nat) (ta fm : Nat → Nat) (tf b u v : Nat) (pg : Nat → Nat) (j : Nat) : Nat := bif Nat.ble j 999 then (match (cdX j).1 with
  | 0 => (fa (cdX j).2).1
  | 1 => (fa (cdX j).2).2
  | 2 => ta (cdX j).2
  | 3 => tf
  | 4 => b
  | _ => fm (cdX j).2) else bif Nat.beq j 1006 then u else bif Nat.beq j 1007 then v else pg (j - 1000)
theorem ble_t {j : Nat} (h : j ≤ 999) : Nat.ble j 999 = true := Nat.ble_eq_true_of_le h
section
variable {fa : Nat → Nat × Nat} {ta fm : Nat → Nat} {tf b u v : Nat} {pg : Nat → Nat}
theorem exA_c {j : Nat} {k : Nat × Nat} (h : j ≤ 999) (e : cdX j = k) : exA fa ta fm tf b u v pg j = (match k.1 with
  | 0 => (fa k.2).1
  | 1 => (fa k.2).2
  | 2 => ta k.2
  | 3 => tf
  | 4 => b
  | _ => fm k.2) := by
  unfold exA
  rw [ble_t h, e]
  rfl
end
theorem xsA_at {c : List Int32} {j t : Nat} {tx : List Int32} (h : pe_at (xsA c) j = some (t, tx)) : (j = 6 ∧ t = 1 ∧ tx = c) ∨ (j ≠ 6 ∧ j < 137 ∧ pe_at (xsA []) j = some (t, tx)) := by
  rw [pe_at_eq] at h
  rw [pe_at_eq]
  unfold xsA at h ⊢
  have hl : xsA1.length = 6 := rfl
  by_cases c1 : j < 6
  · rw [List.getElem?_append_left (by omega)] at h
    refine Or.inr ⟨by omega, by omega, ?_⟩
    rw [List.getElem?_append_left (by omega)]
    exact h
  · rw [List.getElem?_append_right (by omega), hl] at h
    by_cases c2 : j = 6
    · subst c2
      have h2 : some (1, c) = some (t, tx) := h
      cases h2
      exact Or.inl ⟨rfl, rfl, rfl⟩
    · rw [show j - 6 = (j - 7) + 1 by omega, List.getElem?_cons_succ] at h
      have hlt := (List.getElem?_eq_some_iff.1 h).1
      have hl2 : xsA2.length = 130 := rfl
      refine Or.inr ⟨c2, by omega, ?_⟩
      rw [List.getElem?_append_right (by omega), hl, show j - 6 = (j - 7) + 1 by omega, List.getElem?_cons_succ]
      exact h
set_option maxRecDepth 40000 in
theorem xsA_k0 : ∀ j, j < 137 → ((pe_at (xsA []) j).getD (9, [])).1 = 0 → sxA.any (fun q => Nat.beq q.1 j && decide (q.2.2.2.2.2 = ((pe_at (xsA []) j).getD (9, [])).2)) = true := by decide +kernel
set_option maxRecDepth 40000 in
theorem xsA_k1 : ∀ j, j < 137 → j ≠ 6 → ((pe_at (xsA []) j).getD (9, [])).1 = 1 → axA.any (fun q => Nat.beq q.1 j && decide (q.2.2.2.2 = ((pe_at (xsA []) j).getD (9, [])).2)) = true := by decide +kernel
set_option maxRecDepth 40000 in
theorem xsA_k2 : ∀ j, j < 137 → ((pe_at (xsA []) j).getD (9, [])).1 ≠ 2 := by decide +kernel
set_option maxRecDepth 40000 in
theorem xsA_k3 : ∀ j, j < 137 → ((pe_at (xsA []) j).getD (9, [])).1 = 3 → j = 97 ∧ ((pe_at (xsA []) j).getD (9, [])).2 = ta_97 := by decide +kernel
theorem xsA_0 {c : List Int32} {j : Nat} {tx : List Int32} (h : pe_at (xsA c) j = some (0, tx)) : ∃ q ∈ sxA, q.1 = j ∧ q.2.2.2.2.2 = tx := by
  rcases xsA_at h with z | ⟨-, z1, z2⟩
  · exact absurd z.2.1 (by decide)
  · have k := xsA_k0 j z1
    rw [z2] at k
    obtain ⟨q, q1, q2⟩ := List.any_eq_true.1 (k rfl)
    rw [Bool.and_eq_true, decide_eq_true_eq] at q2
    exact ⟨q, q1, Nat.eq_of_beq_eq_true q2.1, q2.2⟩
theorem xsA_1 {c : List Int32} {j : Nat} {tx : List Int32} (h : pe_at (xsA c) j = some (1, tx)) : (j = 6 ∧ tx = c) ∨ ∃ q ∈ axA, q.1 = j ∧ q.2.2.2.2 = tx := by
  rcases xsA_at h with z | ⟨z0, z1, z2⟩
  · exact Or.inl ⟨z.1, z.2.2⟩
  · have k := xsA_k1 j z1 z0
    rw [z2] at k
    obtain ⟨q, q1, q2⟩ := List.any_eq_true.1 (k rfl)
    rw [Bool.and_eq_true, decide_eq_true_eq] at q2
    exact Or.inr ⟨q, q1, Nat.eq_of_beq_eq_true q2.1, q2.2⟩
theorem xsA_2 {c : List Int32} {j : Nat} {tx : List Int32} (h : pe_at (xsA c) j = some (2, tx)) : False := by
  rcases xsA_at h with z | ⟨z0, z1, z2⟩
  · exact absurd z.2.1 (by decide)
  · have k := xsA_k2 j z1
    rw [z2] at k
    exact k rfl
theorem xsA_3 {c : List Int32} {j : Nat} {tx : List Int32} (h : pe_at (xsA c) j = some (3, tx)) : j = 97 ∧ tx = ta_97 := by
  rcases xsA_at h with z | ⟨z0, z1, z2⟩
  · exact absurd z.2.1 (by decide)
  · have k := xsA_k3 j z1
    rw [z2] at k
    exact k rfl
theorem xsA_X (c : List Int32) : w_X (xsA c) := by
  intro q hq
  have h : ∀ q ∈ wx_t, q.1 ≠ 6 ∧ q.1 < 137 ∧ pe_at (xsA []) q.1 = some q.2 := by decide +kernel
  obtain ⟨h1, h2, h3⟩ := h q hq
  rw [← h3, pe_at_eq, pe_at_eq]
  unfold xsA
  have hl : xsA1.length = 6 := rfl
  by_cases c1 : q.1 < 6
  · rw [List.getElem?_append_left (by omega), List.getElem?_append_left (by omega)]
  · rw [List.getElem?_append_right (by omega), List.getElem?_append_right (by omega), hl, show q.1 - 6 = (q.1 - 7) + 1 by omega, List.getElem?_cons_succ, List.getElem?_cons_succ]
theorem xsA_x1 (c : List Int32) : pe_at (xsA c) 1 = some (1, ta_1) := rfl
theorem xsA_x55 (c : List Int32) : pe_at (xsA c) 55 = some (1, ta_55) := rfl
theorem xsA_x101 (c : List Int32) : pe_at (xsA c) 101 = some (1, ta_101) := rfl
theorem xsA_x107 (c : List Int32) : pe_at (xsA c) 107 = some (1, ta_107) := rfl
theorem xsA_x97 (c : List Int32) : pe_at (xsA c) 97 = some (3, ta_97) := rfl
theorem xsA_x6 (c : List Int32) : pe_at (xsA c) 6 = some (1, c) := rfl
theorem sxA_l : ∀ q ∈ sxA, q.2.2.2.2.2.length < 2 ^ 31 ∧ ∀ z ∈ q.2.2.2.2.2, ((z &&& 255).toUInt32 % 65536).toInt32 = z := by decide +kernel
set_option maxRecDepth 40000 in
theorem sxA_r : ∀ q ∈ sxA, pe_isS q.2.2.2.2.1 q.2.1 q.2.2.1 = true := by decide +kernel
set_option maxRecDepth 40000 in
theorem mxA_r : ∀ q ∈ mxA, pe_isS q.2.2.2.2 q.2.1 q.2.2.1 = true ∧ pe_pr[q.2.2.2.1]? = some (Cond.exactly (.string q.2.1 q.2.2.1) "java/lang/String") := by decide +kernel
set_option maxRecDepth 40000 in
theorem sxA_p : ∀ q ∈ sxA, (pe_pr.drop q.2.2.2.1).take (q.2.2.2.2.2.length + 4) = pe_pt (Term.string q.2.1 q.2.2.1) q.2.2.2.2.2 := by decide +kernel
theorem nd_u {α : Type} (ky : α → Nat) : ∀ (l : List α), (l.map ky).Nodup → ∀ q ∈ l, ∀ r ∈ l, ky q = ky r → q = r := by
  intro l
  induction l with
  | nil => intro _ q hq; cases hq
  | cons a t ih =>
    intro h q hq r hr e
    rw [List.map_cons, List.nodup_cons] at h
    rcases List.mem_cons.1 hq with rfl | hq2
    · rcases List.mem_cons.1 hr with rfl | hr2
      · rfl
      · exact absurd (List.mem_map.2 ⟨r, hr2, e.symm⟩) h.1
    · rcases List.mem_cons.1 hr with rfl | hr2
      · exact absurd (List.mem_map.2 ⟨q, hq2, e⟩) h.1
      · exact ih h.2 q hq2 r hr2 e
theorem sxA_u : ∀ q ∈ sxA, ∀ r ∈ sxA, q.1 = r.1 → q = r := nd_u (fun q => q.1) sxA (by decide +kernel)
theorem mxA_u : ∀ q ∈ mxA, ∀ r ∈ mxA, q.1 = r.1 → q = r := nd_u (fun q => q.1) mxA (by decide +kernel)
theorem axA_u : ∀ q ∈ axA, ∀ r ∈ axA, q.1 = r.1 → q = r := nd_u (fun q => q.1) axA (by decide +kernel)
theorem axA_p : ∀ q ∈ axA, (pe_pr.drop q.2.2.2.1).take (q.2.2.2.2.length + 2) = pe_qa (Term.static q.2.1 q.2.2.1 "[I") q.2.2.2.2 ∧ q.2.2.2.2.length < 2 ^ 31 := by decide +kernel
def pe_qb (tm : Term) (tx : List Int32) : List Cond := Cond.arrayOf tm .byte :: Cond.eq (.length tm) (.int (Int32.ofNat tx.length)) :: (List.range tx.length).map (fun j => Cond.eq (.elem tm (.int (Int32.ofNat j))) (.int (tx.getD j 0)))
theorem kstA_in : ∀ q ∈ pe_kstA, (sxA.any (fun r => Nat.beq r.1 q.2.2 && (decide (r.2.1 = q.1) && Nat.beq r.2.2.1 q.2.1)) || mxA.any (fun r => Nat.beq r.1 q.2.2 && (decide (r.2.1 = q.1) && Nat.beq r.2.2.1 q.2.1))) = true := by decide +kernel
theorem pxA_p : (pe_pr.drop 55).take (ta_97.length + 2) = pe_qb (Term.static "LinkedTongueModel" "PROTO" "[B") ta_97 := by decide +kernel
theorem pe_arrB {args : Array Value} {s : State} {A : Nat → Prop} (hP : ∀ w ∈ pe_pr, w.before args s = true) {tm : Term} {tx : List Int32} {p n : Nat} (hl : tx.length < 2 ^ 31) (hp : (pe_pr.drop p).take n = pe_qb tm tx) (hA : ∀ a : Nat, a < s.heap.size → ¬ A a) : ∃ t : Nat, tm.eval args s none [] s = some (.ref t) ∧ va_T .byte t tx.length (fun k => .int (tx.getD k 0)) A s s.heap := by
  have h : ∀ w ∈ pe_qb tm tx, w.before args s = true := fun w hw => by
    rw [← hp] at hw
    exact hP w (List.mem_of_mem_drop (List.mem_of_mem_take hw))
  have h1 := h _ List.mem_cons_self
  have h2 := h _ (List.mem_cons_of_mem _ List.mem_cons_self)
  exact va_Tof (f := fun j => .int (tx.getD j 0)) (A := A) hl h1 (va_eqt h2) (fun j hj => va_eqt (h _ (List.mem_cons_of_mem _ (List.mem_cons_of_mem _ (List.mem_map.mpr ⟨j, List.mem_range.mpr hj, rfl⟩))))) hA
/-- of each place one value -/
theorem pick_A {α β : Type} (l : List α) (ky : α → Nat) (P : α → β → Prop) (d : β) (hu : ∀ q ∈ l, ∀ r ∈ l, ky q = ky r → q = r) (h : ∀ q ∈ l, ∃ y, P q y) : ∃ f : Nat → β, ∀ q ∈ l, P q (f (ky q)) := by
  refine ⟨fun j => if hj : ∃ q, q ∈ l ∧ ky q = j then (h hj.choose hj.choose_spec.1).choose else d, fun q hq => ?_⟩
  have hj : ∃ r, r ∈ l ∧ ky r = ky q := ⟨q, hq, rfl⟩
  have e : hj.choose = q := hu _ hj.choose_spec.1 _ hq hj.choose_spec.2
  show P q (if hj : ∃ r, r ∈ l ∧ ky r = ky q then (h hj.choose hj.choose_spec.1).choose else d)
  rw [dif_pos hj]
  have gen : ∀ (q' : α) (hq' : q' ∈ l), q' = q → P q (h q' hq').choose := by
    intro q' hq' e
    subst e
    exact (h q' hq').choose_spec
  exact gen hj.choose hj.choose_spec.1 e
def pe_EA (ex : Nat → Nat) (B : Nat) (exV : Nat → Nat) (jF : Value) (c : List Int32) (s : State) : Prop := (pe_nw s ∧ pe_EX ex B (xsA c) exV jF s) ∧ ((∀ q ∈ pe_kstA, ∃ tx, vk_R q.1 q.2.1 tx (ex q.2.2) s) ∧ (∀ q ∈ pe_sttA, va_Z q.2.1 q.2.2.1 q.2.2.2 (.ref (ex q.1)) (fun q => B ≤ q) s s.heap) ∧ va_T .byte (ex 97) ta_97.length (fun k => .int (ta_97.getD k 0)) (fun q => B ≤ q) s s.heap) ∧ pe_LR B Bundle.tN "UNASSIGNED_STACK" Bundle.steD s ∧ pe_LR B Bundle.tN "SUPPRESSED_SENTINEL" Bundle.listD s ∧ va_Z Bundle.tN "UNASSIGNED_STACK" Bundle.steD (pm_v ex B (.float 774)) (fun q => B ≤ q) s s.heap ∧ va_Z Bundle.tN "SUPPRESSED_SENTINEL" Bundle.listD (pm_v ex B (.float 775)) (fun q => B ≤ q) s s.heap
/-- what the evaluator stands on holds at the law's start -/
theorem pe_startA {s : State} {args : Array Value} (b : Nat) (c : List Int32) (hb : va_T .int b c.length (fun k => .int (c.getD k 0)) (fun q => s.heap.size ≤ q) s s.heap) (hts : ∀ w ∈ lw_tbl, w.before args s = true) (hgv : (Jvm.Cond.and given_1 narrow_1).before args s = true) : ∃ (ex : Nat → Nat) (jF : Value), ex 6 = b ∧ pe_EA ex s.heap.size exVA jF c s := by
  have hP : ∀ w ∈ pe_pr, w.before args s = true := flat_of_before _ hgv
  have hA : ∀ a : Nat, a < s.heap.size → ¬ s.heap.size ≤ a := fun a h => by omega
  obtain ⟨fa, hfa⟩ := pick_A sxA (fun q => q.1) (fun q (y : Nat × Nat) => (Term.string q.2.1 q.2.2.1).eval args s none [] s = some (.ref y.1) ∧ va_O "java/lang/String" y.1 (fun q => s.heap.size ≤ q) s s.heap ∧ va_OF "java/lang/String" "coder" "B" (.int 0) y.1 (fun q => s.heap.size ≤ q) s s.heap ∧ va_OF "java/lang/String" "value" "[B" (.ref y.2) y.1 (fun q => s.heap.size ≤ q) s s.heap ∧ va_T .byte y.2 q.2.2.2.2.2.length (fun k => .int (q.2.2.2.2.2.getD k 0)) (fun q => s.heap.size ≤ q) s s.heap) (0, 0) sxA_u (fun q hq => by
    obtain ⟨a, t, h1, h2, h3, h4, h5⟩ := pe_str (A := fun q => s.heap.size ≤ q) (tx := q.2.2.2.2.2) (sxA_l q hq).1 (pe_pt_in hP (sxA_p q hq)) hA
    exact ⟨(a, t), h1, h2, h3, h4, h5⟩)
  obtain ⟨fm, hfm2⟩ := pick_A mxA (fun q => q.1) (fun q (y : Nat) => (Term.string q.2.1 q.2.2.1).eval args s none [] s = some (.ref y)) 0 mxA_u (fun q hq => pe_sadr hP (mxA_r q hq).2)
  obtain ⟨ta, hta⟩ := pick_A axA (fun q => q.1) (fun q (y : Nat) => (Term.static q.2.1 q.2.2.1 "[I").eval args s none [] s = some (.ref y) ∧ va_T .int y q.2.2.2.2.length (fun k => .int (q.2.2.2.2.getD k 0)) (fun q => s.heap.size ≤ q) s s.heap) 0 axA_u (fun q hq => pe_arrA hP (axA_p q hq).2 (axA_p q hq).1 hA)
  obtain ⟨tp, etp, htp⟩ := pe_arrB (A := fun q => s.heap.size ≤ q) (tx := ta_97) hP (by decide +kernel) pxA_p hA
  have hcs : va_Z "java/lang/String" "COMPACT_STRINGS" "Z" (.int 1) (fun q => s.heap.size ≤ q) s s.heap := va_Zof (hts _ (List.mem_append_right _ (List.mem_of_getElem? (i := 61) (by decide +kernel)))) (hts _ (List.mem_append_right _ (List.mem_of_getElem? (i := 3) (by decide +kernel)))) (va_eqi (hP _ (List.mem_of_getElem? (i := 4) (by decide +kernel)))) hA
  have hfm := va_Zqof (C := "jdk/internal/util/Preconditions") (n := "SIOOBE_FORMATTER") (d := "Ljava/util/function/BiFunction;") (A := fun q => s.heap.size ≤ q) (hts _ (List.mem_append_right _ (List.mem_of_getElem? (i := 77) (by decide +kernel)))) (hts _ (List.mem_append_right _ (List.mem_of_getElem? (i := 5) (by decide +kernel)))) (hP _ (List.mem_of_getElem? (i := 5) (by decide +kernel))) hA
  have hlU : pe_LR s.heap.size Bundle.tN "UNASSIGNED_STACK" Bundle.steD s := pe_LR_of (args := args) (hts _ (List.mem_append_right _ (List.mem_of_getElem? (i := 1046) (by decide +kernel)))) (hts _ (List.mem_append_right _ (List.mem_of_getElem? (i := 20) (by decide +kernel)))) (hP _ (List.mem_of_getElem? (i := 18) (by decide +kernel)))
  have hlS : pe_LR s.heap.size Bundle.tN "SUPPRESSED_SENTINEL" Bundle.listD s := pe_LR_of (args := args) (hts _ (List.mem_append_right _ (List.mem_of_getElem? (i := 1048) (by decide +kernel)))) (hts _ (List.mem_append_right _ (List.mem_of_getElem? (i := 20) (by decide +kernel)))) (hP _ (List.mem_of_getElem? (i := 19) (by decide +kernel)))
  obtain ⟨u, hu⟩ : ∃ u : Nat, va_Z Bundle.tN "UNASSIGNED_STACK" Bundle.steD (if u = 0 then .null else .ref (u - 1)) (fun q => s.heap.size ≤ q) s s.heap := by
    rcases hlU.2 with h | ⟨t, h⟩
    · exact ⟨0, h⟩
    · exact ⟨t + 1, h⟩
  obtain ⟨v, hv⟩ : ∃ v : Nat, va_Z Bundle.tN "SUPPRESSED_SENTINEL" Bundle.listD (if v = 0 then .null else .ref (v - 1)) (fun q => s.heap.size ≤ q) s s.heap := by
    rcases hlS.2 with h | ⟨t, h⟩
    · exact ⟨0, h⟩
    · exact ⟨t + 1, h⟩
  have ex97 : ∀ tf pg, exA fa (fun j => bif Nat.beq j 97 then tp else ta j) fm tf b u v pg 97 = tp := fun tf pg => exA_c (k := (2, 97)) (by decide) (by decide +kernel)
  have exs : ∀ tf pg, ∀ q ∈ sxA, exA fa (fun j => bif Nat.beq j 97 then tp else ta j) fm tf b u v pg q.1 = (fa q.1).1 ∧ exA fa (fun j => bif Nat.beq j 97 then tp else ta j) fm tf b u v pg (exVA q.1) = (fa q.1).2 := fun tf pg q hq => by
    obtain ⟨h1, h2, h3, h4⟩ := cdX_s q hq
    exact ⟨exA_c h3 h1, exA_c h4 h2⟩
  have axn : ∀ q ∈ axA, Nat.beq q.1 97 = false := by decide +kernel
  have exa : ∀ tf pg, ∀ q ∈ axA, exA fa (fun j => bif Nat.beq j 97 then tp else ta j) fm tf b u v pg q.1 = ta q.1 := fun tf pg q hq => by
    obtain ⟨h1, h2⟩ := cdX_a q hq
    rw [exA_c h2 h1]
    show (bif Nat.beq q.1 97 then tp else ta q.1) = ta q.1
    rw [axn q hq]
    rfl
  have exm : ∀ tf pg, ∀ q ∈ mxA, exA fa (fun j => bif Nat.beq j 97 then tp else ta j) fm tf b u v pg q.1 = fm q.1 := fun tf pg q hq => by
    obtain ⟨h1, h2⟩ := cdX_m q hq
    exact exA_c h2 h1
  have key : ∀ (tf : Nat) (jF : Value), pm_isR jF = true → va_Z "jdk/internal/util/Preconditions" "SIOOBE_FORMATTER" "Ljava/util/function/BiFunction;" (pm_v (exA fa (fun j => bif Nat.beq j 97 then tp else ta j) fm tf b u v (fun _ => 0)) s.heap.size jF) (fun q => s.heap.size ≤ q) s s.heap → pe_EA (exA fa (fun j => bif Nat.beq j 97 then tp else ta j) fm tf b u v (fun _ => 0)) s.heap.size exVA jF c s := by
    intro tf jF hjr hz
    have e6 : exA fa (fun j => bif Nat.beq j 97 then tp else ta j) fm tf b u v (fun _ => 0) 6 = b := exA_c (k := (4, 0)) (by decide) (by decide +kernel)
    refine ⟨⟨pe_nw_of hP hts, fun j tx hj => ?_, fun j tx hj => ?_, hcs, hz, hjr⟩, ⟨fun q hq => ?_, fun q hq => ?_, ?_⟩, hlU, hlS, hu, hv⟩
    · obtain ⟨q, q1, rfl, rfl⟩ := xsA_0 hj
      obtain ⟨a1, a2⟩ := exs tf (fun _ => 0) q q1
      rw [a1, a2]
      exact (hfa q q1).2
    · rcases xsA_1 hj with ⟨rfl, rfl⟩ | ⟨q, q1, rfl, rfl⟩
      · rw [e6]
        exact hb
      · rw [exa tf (fun _ => 0) q q1]
        exact (hta q q1).2
    · have h := kstA_in q hq
      rw [Bool.or_eq_true] at h
      rcases h with h | h
      · obtain ⟨r, r1, r2⟩ := List.any_eq_true.1 h
        rw [Bool.and_eq_true, Bool.and_eq_true, decide_eq_true_eq] at r2
        obtain ⟨tx, hx⟩ := pe_sref hts (sxA_r r r1)
        rw [← Nat.eq_of_beq_eq_true r2.1, ← r2.2.1, ← Nat.eq_of_beq_eq_true r2.2.2, (exs tf (fun _ => 0) r r1).1]
        exact ⟨tx, vk_R.of hx (hfa r r1).1⟩
      · obtain ⟨r, r1, r2⟩ := List.any_eq_true.1 h
        rw [Bool.and_eq_true, Bool.and_eq_true, decide_eq_true_eq] at r2
        obtain ⟨tx, hx⟩ := pe_sref hts (mxA_r r r1).1
        rw [← Nat.eq_of_beq_eq_true r2.1, ← r2.2.1, ← Nat.eq_of_beq_eq_true r2.2.2, exm tf (fun _ => 0) r r1]
        exact ⟨tx, vk_R.of hx (hfm2 r r1)⟩
    · simp only [pe_sttA, List.mem_cons, List.not_mem_nil, or_false] at hq
      rcases hq with rfl | rfl | rfl | rfl | rfl
      · show va_Z "LinkedTongue" "LIFE_MOST" "[I" (.ref (exA fa _ fm tf b u v (fun _ => 0) 1)) _ s s.heap
        have e1 : exA fa (fun j => bif Nat.beq j 97 then tp else ta j) fm tf b u v (fun _ => 0) 1 = ta 1 := exa tf (fun _ => 0) (axA.getD 0 (0, "", "", 0, [])) (List.mem_of_getElem? (i := 0) rfl)
        rw [e1]
        exact va_Zof (hts _ (List.mem_append_right _ (List.mem_of_getElem? (i := 481) (by decide +kernel)))) (hts _ (List.mem_append_right _ (List.mem_of_getElem? (i := 1) (by decide +kernel)))) (hta (axA.getD 0 (0, "", "", 0, [])) (List.mem_of_getElem? (i := 0) rfl)).1 hA
      · show va_Z "LinkedTongue" "KIND_WORDS" "[I" (.ref (exA fa _ fm tf b u v (fun _ => 0) 55)) _ s s.heap
        have e1 : exA fa (fun j => bif Nat.beq j 97 then tp else ta j) fm tf b u v (fun _ => 0) 55 = ta 55 := exa tf (fun _ => 0) (axA.getD 1 (0, "", "", 0, [])) (List.mem_of_getElem? (i := 1) rfl)
        rw [e1]
        exact va_Zof (hts _ (List.mem_append_right _ (List.mem_of_getElem? (i := 2065) (by decide +kernel)))) (hts _ (List.mem_append_right _ (List.mem_of_getElem? (i := 1) (by decide +kernel)))) (hta (axA.getD 1 (0, "", "", 0, [])) (List.mem_of_getElem? (i := 1) rfl)).1 hA
      · show va_Z "LinkedTongueModel" "PROTO" "[B" (.ref (exA fa _ fm tf b u v (fun _ => 0) 97)) _ s s.heap
        rw [ex97 tf (fun _ => 0)]
        exact va_Zof (hts _ (List.mem_append_right _ (List.mem_of_getElem? (i := 3540) (by decide +kernel)))) (hts _ (List.mem_append_right _ (List.mem_of_getElem? (i := 19) (by decide +kernel)))) etp hA
      · show va_Z "LinkedTongue" "WANTS" "[I" (.ref (exA fa _ fm tf b u v (fun _ => 0) 101)) _ s s.heap
        have e1 : exA fa (fun j => bif Nat.beq j 97 then tp else ta j) fm tf b u v (fun _ => 0) 101 = ta 101 := exa tf (fun _ => 0) (axA.getD 2 (0, "", "", 0, [])) (List.mem_of_getElem? (i := 2) rfl)
        rw [e1]
        exact va_Zof (hts _ (List.mem_append_right _ (List.mem_of_getElem? (i := 1384) (by decide +kernel)))) (hts _ (List.mem_append_right _ (List.mem_of_getElem? (i := 1) (by decide +kernel)))) (hta (axA.getD 2 (0, "", "", 0, [])) (List.mem_of_getElem? (i := 2) rfl)).1 hA
      · show va_Z "LinkedTongueModel" "WANTS" "[I" (.ref (exA fa _ fm tf b u v (fun _ => 0) 107)) _ s s.heap
        have e1 : exA fa (fun j => bif Nat.beq j 97 then tp else ta j) fm tf b u v (fun _ => 0) 107 = ta 107 := exa tf (fun _ => 0) (axA.getD 3 (0, "", "", 0, [])) (List.mem_of_getElem? (i := 3) rfl)
        rw [e1]
        exact va_Zof (hts _ (List.mem_append_right _ (List.mem_of_getElem? (i := 3257) (by decide +kernel)))) (hts _ (List.mem_append_right _ (List.mem_of_getElem? (i := 19) (by decide +kernel)))) (hta (axA.getD 3 (0, "", "", 0, [])) (List.mem_of_getElem? (i := 3) rfl)).1 hA
    · rw [ex97 tf (fun _ => 0)]
      exact htp
  rcases hfm with hz | ⟨tf, hz⟩
  · exact ⟨_, .null, exA_c (k := (4, 0)) (by decide) (by decide +kernel), key 0 .null rfl hz⟩
  · refine ⟨_, .retAddr 5, exA_c (k := (4, 0)) (by decide) (by decide +kernel), key tf (.retAddr 5) rfl ?_⟩
    have e5 : exA fa (fun j => bif Nat.beq j 97 then tp else ta j) fm tf b u v (fun _ => 0) 5 = tf := exA_c (k := (3, 0)) (by decide) (by decide +kernel)
    show va_Z _ _ _ (.ref (exA fa (fun j => bif Nat.beq j 97 then tp else ta j) fm tf b u v (fun _ => 0) 5)) _ s s.heap
    rw [e5]
    exact hz
