/-! PART o6h: tables checked once. -/
set_option maxRecDepth 40000 in
theorem ok_t_M_isNot : pe_okM (pe_GA []) pe_cl pe_ckA t_M_isNot = true := by decide +kernel
def td_t_M_numbers (k : Nat) : Nat × List pe_I := (pe_at t_M_numbers.bl k).getD (0, [])
set_option maxRecDepth 40000 in
theorem ok_t_M_numbers_0 : pe_ckB (pe_GA []) pe_cl pe_ckA t_M_numbers (td_t_M_numbers 0).1 (td_t_M_numbers 0).2 = true := by decide +kernel
set_option maxRecDepth 40000 in
theorem ok_t_M_numbers_1 : pe_ckB (pe_GA []) pe_cl pe_ckA t_M_numbers (td_t_M_numbers 1).1 (td_t_M_numbers 1).2 = true := by decide +kernel
set_option maxRecDepth 40000 in
theorem ok_t_M_numbers_2 : pe_ckB (pe_GA []) pe_cl pe_ckA t_M_numbers (td_t_M_numbers 2).1 (td_t_M_numbers 2).2 = true := by decide +kernel
set_option maxRecDepth 40000 in
theorem ok_t_M_numbers_3 : pe_ckB (pe_GA []) pe_cl pe_ckA t_M_numbers (td_t_M_numbers 3).1 (td_t_M_numbers 3).2 = true := by decide +kernel
set_option maxRecDepth 40000 in
theorem ok_t_M_numbers_4 : pe_ckB (pe_GA []) pe_cl pe_ckA t_M_numbers (td_t_M_numbers 4).1 (td_t_M_numbers 4).2 = true := by decide +kernel
set_option maxRecDepth 40000 in
theorem ok_t_M_numbers_5 : pe_ckB (pe_GA []) pe_cl pe_ckA t_M_numbers (td_t_M_numbers 5).1 (td_t_M_numbers 5).2 = true := by decide +kernel
set_option maxRecDepth 40000 in
theorem ok_t_M_numbers_6 : pe_ckB (pe_GA []) pe_cl pe_ckA t_M_numbers (td_t_M_numbers 6).1 (td_t_M_numbers 6).2 = true := by decide +kernel
set_option maxRecDepth 40000 in
theorem ok_t_M_numbers_7 : pe_ckB (pe_GA []) pe_cl pe_ckA t_M_numbers (td_t_M_numbers 7).1 (td_t_M_numbers 7).2 = true := by decide +kernel
set_option maxRecDepth 40000 in
theorem ok_t_M_numbers_8 : pe_ckB (pe_GA []) pe_cl pe_ckA t_M_numbers (td_t_M_numbers 8).1 (td_t_M_numbers 8).2 = true := by decide +kernel
set_option maxRecDepth 40000 in
theorem ok_t_M_numbers_9 : pe_ckB (pe_GA []) pe_cl pe_ckA t_M_numbers (td_t_M_numbers 9).1 (td_t_M_numbers 9).2 = true := by decide +kernel
set_option maxRecDepth 40000 in
theorem ok_t_M_numbers_10 : pe_ckB (pe_GA []) pe_cl pe_ckA t_M_numbers (td_t_M_numbers 10).1 (td_t_M_numbers 10).2 = true := by decide +kernel
set_option maxRecDepth 40000 in
theorem ok_t_M_numbers_11 : pe_ckB (pe_GA []) pe_cl pe_ckA t_M_numbers (td_t_M_numbers 11).1 (td_t_M_numbers 11).2 = true := by decide +kernel
set_option maxRecDepth 40000 in
theorem ok_t_M_numbers_12 : pe_ckB (pe_GA []) pe_cl pe_ckA t_M_numbers (td_t_M_numbers 12).1 (td_t_M_numbers 12).2 = true := by decide +kernel
set_option maxRecDepth 40000 in
theorem ok_t_M_numbers_13 : pe_ckB (pe_GA []) pe_cl pe_ckA t_M_numbers (td_t_M_numbers 13).1 (td_t_M_numbers 13).2 = true := by decide +kernel
theorem ok_t_M_numbers_a : ∀ b ∈ t_M_numbers.bl, pe_ckB (pe_GA []) pe_cl pe_ckA t_M_numbers b.1 b.2 = true := by
  intro b hb
  obtain ⟨n, hn⟩ := List.getElem?_of_mem hb
  rw [← pe_at_eq] at hn
  match n, hn with
  | 0, hn =>
    have h2 : td_t_M_numbers 0 = b := by unfold td_t_M_numbers; rw [hn]; rfl
    rw [← h2]; exact ok_t_M_numbers_0
  | 1, hn =>
    have h2 : td_t_M_numbers 1 = b := by unfold td_t_M_numbers; rw [hn]; rfl
    rw [← h2]; exact ok_t_M_numbers_1
  | 2, hn =>
    have h2 : td_t_M_numbers 2 = b := by unfold td_t_M_numbers; rw [hn]; rfl
    rw [← h2]; exact ok_t_M_numbers_2
  | 3, hn =>
    have h2 : td_t_M_numbers 3 = b := by unfold td_t_M_numbers; rw [hn]; rfl
    rw [← h2]; exact ok_t_M_numbers_3
  | 4, hn =>
    have h2 : td_t_M_numbers 4 = b := by unfold td_t_M_numbers; rw [hn]; rfl
    rw [← h2]; exact ok_t_M_numbers_4
  | 5, hn =>
    have h2 : td_t_M_numbers 5 = b := by unfold td_t_M_numbers; rw [hn]; rfl
    rw [← h2]; exact ok_t_M_numbers_5
  | 6, hn =>
    have h2 : td_t_M_numbers 6 = b := by unfold td_t_M_numbers; rw [hn]; rfl
    rw [← h2]; exact ok_t_M_numbers_6
  | 7, hn =>
    have h2 : td_t_M_numbers 7 = b := by unfold td_t_M_numbers; rw [hn]; rfl
    rw [← h2]; exact ok_t_M_numbers_7
  | 8, hn =>
    have h2 : td_t_M_numbers 8 = b := by unfold td_t_M_numbers; rw [hn]; rfl
    rw [← h2]; exact ok_t_M_numbers_8
  | 9, hn =>
    have h2 : td_t_M_numbers 9 = b := by unfold td_t_M_numbers; rw [hn]; rfl
    rw [← h2]; exact ok_t_M_numbers_9
  | 10, hn =>
    have h2 : td_t_M_numbers 10 = b := by unfold td_t_M_numbers; rw [hn]; rfl
    rw [← h2]; exact ok_t_M_numbers_10
  | 11, hn =>
    have h2 : td_t_M_numbers 11 = b := by unfold td_t_M_numbers; rw [hn]; rfl
    rw [← h2]; exact ok_t_M_numbers_11
  | 12, hn =>
    have h2 : td_t_M_numbers 12 = b := by unfold td_t_M_numbers; rw [hn]; rfl
    rw [← h2]; exact ok_t_M_numbers_12
  | 13, hn =>
    have h2 : td_t_M_numbers 13 = b := by unfold td_t_M_numbers; rw [hn]; rfl
    rw [← h2]; exact ok_t_M_numbers_13
  | n + 14, hn =>
    rw [pe_at_eq] at hn
    exact absurd (List.getElem?_eq_some_iff.mp hn).1 (by show ¬ n + 14 < 14; omega)
theorem ok_t_M_numbers : pe_okM (pe_GA []) pe_cl pe_ckA t_M_numbers = true := pe_okM_mk (pe_w_of (by rfl) (by rfl)) (by decide +kernel) ok_t_M_numbers_a
def td_t_M_compares (k : Nat) : Nat × List pe_I := (pe_at t_M_compares.bl k).getD (0, [])
set_option maxRecDepth 40000 in
theorem ok_t_M_compares_0 : pe_ckB (pe_GA []) pe_cl pe_ckA t_M_compares (td_t_M_compares 0).1 (td_t_M_compares 0).2 = true := by decide +kernel
set_option maxRecDepth 40000 in
theorem ok_t_M_compares_1 : pe_ckB (pe_GA []) pe_cl pe_ckA t_M_compares (td_t_M_compares 1).1 (td_t_M_compares 1).2 = true := by decide +kernel
set_option maxRecDepth 40000 in
theorem ok_t_M_compares_2 : pe_ckB (pe_GA []) pe_cl pe_ckA t_M_compares (td_t_M_compares 2).1 (td_t_M_compares 2).2 = true := by decide +kernel
set_option maxRecDepth 40000 in
theorem ok_t_M_compares_3 : pe_ckB (pe_GA []) pe_cl pe_ckA t_M_compares (td_t_M_compares 3).1 (td_t_M_compares 3).2 = true := by decide +kernel
set_option maxRecDepth 40000 in
theorem ok_t_M_compares_4 : pe_ckB (pe_GA []) pe_cl pe_ckA t_M_compares (td_t_M_compares 4).1 (td_t_M_compares 4).2 = true := by decide +kernel
set_option maxRecDepth 40000 in
theorem ok_t_M_compares_5 : pe_ckB (pe_GA []) pe_cl pe_ckA t_M_compares (td_t_M_compares 5).1 (td_t_M_compares 5).2 = true := by decide +kernel
set_option maxRecDepth 40000 in
theorem ok_t_M_compares_6 : pe_ckB (pe_GA []) pe_cl pe_ckA t_M_compares (td_t_M_compares 6).1 (td_t_M_compares 6).2 = true := by decide +kernel
set_option maxRecDepth 40000 in
theorem ok_t_M_compares_7 : pe_ckB (pe_GA []) pe_cl pe_ckA t_M_compares (td_t_M_compares 7).1 (td_t_M_compares 7).2 = true := by decide +kernel
set_option maxRecDepth 40000 in
theorem ok_t_M_compares_8 : pe_ckB (pe_GA []) pe_cl pe_ckA t_M_compares (td_t_M_compares 8).1 (td_t_M_compares 8).2 = true := by decide +kernel
set_option maxRecDepth 40000 in
theorem ok_t_M_compares_9 : pe_ckB (pe_GA []) pe_cl pe_ckA t_M_compares (td_t_M_compares 9).1 (td_t_M_compares 9).2 = true := by decide +kernel
set_option maxRecDepth 40000 in
theorem ok_t_M_compares_10 : pe_ckB (pe_GA []) pe_cl pe_ckA t_M_compares (td_t_M_compares 10).1 (td_t_M_compares 10).2 = true := by decide +kernel
set_option maxRecDepth 40000 in
theorem ok_t_M_compares_11 : pe_ckB (pe_GA []) pe_cl pe_ckA t_M_compares (td_t_M_compares 11).1 (td_t_M_compares 11).2 = true := by decide +kernel
set_option maxRecDepth 40000 in
theorem ok_t_M_compares_12 : pe_ckB (pe_GA []) pe_cl pe_ckA t_M_compares (td_t_M_compares 12).1 (td_t_M_compares 12).2 = true := by decide +kernel
set_option maxRecDepth 40000 in
theorem ok_t_M_compares_13 : pe_ckB (pe_GA []) pe_cl pe_ckA t_M_compares (td_t_M_compares 13).1 (td_t_M_compares 13).2 = true := by decide +kernel
set_option maxRecDepth 40000 in
theorem ok_t_M_compares_14 : pe_ckB (pe_GA []) pe_cl pe_ckA t_M_compares (td_t_M_compares 14).1 (td_t_M_compares 14).2 = true := by decide +kernel
set_option maxRecDepth 40000 in
theorem ok_t_M_compares_15 : pe_ckB (pe_GA []) pe_cl pe_ckA t_M_compares (td_t_M_compares 15).1 (td_t_M_compares 15).2 = true := by decide +kernel
set_option maxRecDepth 40000 in
theorem ok_t_M_compares_16 : pe_ckB (pe_GA []) pe_cl pe_ckA t_M_compares (td_t_M_compares 16).1 (td_t_M_compares 16).2 = true := by decide +kernel
set_option maxRecDepth 40000 in
theorem ok_t_M_compares_17 : pe_ckB (pe_GA []) pe_cl pe_ckA t_M_compares (td_t_M_compares 17).1 (td_t_M_compares 17).2 = true := by decide +kernel
set_option maxRecDepth 40000 in
theorem ok_t_M_compares_18 : pe_ckB (pe_GA []) pe_cl pe_ckA t_M_compares (td_t_M_compares 18).1 (td_t_M_compares 18).2 = true := by decide +kernel
set_option maxRecDepth 40000 in
theorem ok_t_M_compares_19 : pe_ckB (pe_GA []) pe_cl pe_ckA t_M_compares (td_t_M_compares 19).1 (td_t_M_compares 19).2 = true := by decide +kernel
set_option maxRecDepth 40000 in
theorem ok_t_M_compares_20 : pe_ckB (pe_GA []) pe_cl pe_ckA t_M_compares (td_t_M_compares 20).1 (td_t_M_compares 20).2 = true := by decide +kernel
set_option maxRecDepth 40000 in
theorem ok_t_M_compares_21 : pe_ckB (pe_GA []) pe_cl pe_ckA t_M_compares (td_t_M_compares 21).1 (td_t_M_compares 21).2 = true := by decide +kernel
set_option maxRecDepth 40000 in
theorem ok_t_M_compares_22 : pe_ckB (pe_GA []) pe_cl pe_ckA t_M_compares (td_t_M_compares 22).1 (td_t_M_compares 22).2 = true := by decide +kernel
theorem ok_t_M_compares_a : ∀ b ∈ t_M_compares.bl, pe_ckB (pe_GA []) pe_cl pe_ckA t_M_compares b.1 b.2 = true := by
  intro b hb
  obtain ⟨n, hn⟩ := List.getElem?_of_mem hb
  rw [← pe_at_eq] at hn
  match n, hn with
  | 0, hn =>
    have h2 : td_t_M_compares 0 = b := by unfold td_t_M_compares; rw [hn]; rfl
    rw [← h2]; exact ok_t_M_compares_0
  | 1, hn =>
    have h2 : td_t_M_compares 1 = b := by unfold td_t_M_compares; rw [hn]; rfl
    rw [← h2]; exact ok_t_M_compares_1
  | 2, hn =>
    have h2 : td_t_M_compares 2 = b := by unfold td_t_M_compares; rw [hn]; rfl
    rw [← h2]; exact ok_t_M_compares_2
  | 3, hn =>
    have h2 : td_t_M_compares 3 = b := by unfold td_t_M_compares; rw [hn]; rfl
    rw [← h2]; exact ok_t_M_compares_3
  | 4, hn =>
    have h2 : td_t_M_compares 4 = b := by unfold td_t_M_compares; rw [hn]; rfl
    rw [← h2]; exact ok_t_M_compares_4
  | 5, hn =>
    have h2 : td_t_M_compares 5 = b := by unfold td_t_M_compares; rw [hn]; rfl
    rw [← h2]; exact ok_t_M_compares_5
  | 6, hn =>
    have h2 : td_t_M_compares 6 = b := by unfold td_t_M_compares; rw [hn]; rfl
    rw [← h2]; exact ok_t_M_compares_6
  | 7, hn =>
    have h2 : td_t_M_compares 7 = b := by unfold td_t_M_compares; rw [hn]; rfl
    rw [← h2]; exact ok_t_M_compares_7
  | 8, hn =>
    have h2 : td_t_M_compares 8 = b := by unfold td_t_M_compares; rw [hn]; rfl
    rw [← h2]; exact ok_t_M_compares_8
  | 9, hn =>
    have h2 : td_t_M_compares 9 = b := by unfold td_t_M_compares; rw [hn]; rfl
    rw [← h2]; exact ok_t_M_compares_9
  | 10, hn =>
    have h2 : td_t_M_compares 10 = b := by unfold td_t_M_compares; rw [hn]; rfl
    rw [← h2]; exact ok_t_M_compares_10
  | 11, hn =>
    have h2 : td_t_M_compares 11 = b := by unfold td_t_M_compares; rw [hn]; rfl
    rw [← h2]; exact ok_t_M_compares_11
  | 12, hn =>
    have h2 : td_t_M_compares 12 = b := by unfold td_t_M_compares; rw [hn]; rfl
    rw [← h2]; exact ok_t_M_compares_12
  | 13, hn =>
    have h2 : td_t_M_compares 13 = b := by unfold td_t_M_compares; rw [hn]; rfl
    rw [← h2]; exact ok_t_M_compares_13
  | 14, hn =>
    have h2 : td_t_M_compares 14 = b := by unfold td_t_M_compares; rw [hn]; rfl
    rw [← h2]; exact ok_t_M_compares_14
  | 15, hn =>
    have h2 : td_t_M_compares 15 = b := by unfold td_t_M_compares; rw [hn]; rfl
    rw [← h2]; exact ok_t_M_compares_15
  | 16, hn =>
    have h2 : td_t_M_compares 16 = b := by unfold td_t_M_compares; rw [hn]; rfl
    rw [← h2]; exact ok_t_M_compares_16
  | 17, hn =>
    have h2 : td_t_M_compares 17 = b := by unfold td_t_M_compares; rw [hn]; rfl
    rw [← h2]; exact ok_t_M_compares_17
  | 18, hn =>
    have h2 : td_t_M_compares 18 = b := by unfold td_t_M_compares; rw [hn]; rfl
    rw [← h2]; exact ok_t_M_compares_18
  | 19, hn =>
    have h2 : td_t_M_compares 19 = b := by unfold td_t_M_compares; rw [hn]; rfl
    rw [← h2]; exact ok_t_M_compares_19
  | 20, hn =>
    have h2 : td_t_M_compares 20 = b := by unfold td_t_M_compares; rw [hn]; rfl
    rw [← h2]; exact ok_t_M_compares_20
  | 21, hn =>
    have h2 : td_t_M_compares 21 = b := by unfold td_t_M_compares; rw [hn]; rfl
    rw [← h2]; exact ok_t_M_compares_21
  | 22, hn =>
    have h2 : td_t_M_compares 22 = b := by unfold td_t_M_compares; rw [hn]; rfl
    rw [← h2]; exact ok_t_M_compares_22
  | n + 23, hn =>
    rw [pe_at_eq] at hn
    exact absurd (List.getElem?_eq_some_iff.mp hn).1 (by show ¬ n + 23 < 23; omega)
theorem ok_t_M_compares : pe_okM (pe_GA []) pe_cl pe_ckA t_M_compares = true := pe_okM_mk (pe_w_of (by rfl) (by rfl)) (by decide +kernel) ok_t_M_compares_a
set_option maxRecDepth 40000 in
theorem ok_t_M_room : pe_okM (pe_GA []) pe_cl pe_ckA t_M_room = true := by decide +kernel
set_option maxRecDepth 40000 in
theorem ok_t_M_newThing : pe_okM (pe_GA []) pe_cl pe_ckA t_M_newThing = true := by decide +kernel
def td_t_M_list (k : Nat) : Nat × List pe_I := (pe_at t_M_list.bl k).getD (0, [])
set_option maxRecDepth 40000 in
theorem ok_t_M_list_0 : pe_ckB (pe_GA []) pe_cl pe_ckA t_M_list (td_t_M_list 0).1 (td_t_M_list 0).2 = true := by decide +kernel
set_option maxRecDepth 40000 in
theorem ok_t_M_list_1 : pe_ckB (pe_GA []) pe_cl pe_ckA t_M_list (td_t_M_list 1).1 (td_t_M_list 1).2 = true := by decide +kernel
set_option maxRecDepth 40000 in
theorem ok_t_M_list_2 : pe_ckB (pe_GA []) pe_cl pe_ckA t_M_list (td_t_M_list 2).1 (td_t_M_list 2).2 = true := by decide +kernel
set_option maxRecDepth 40000 in
theorem ok_t_M_list_3 : pe_ckB (pe_GA []) pe_cl pe_ckA t_M_list (td_t_M_list 3).1 (td_t_M_list 3).2 = true := by decide +kernel
set_option maxRecDepth 40000 in
theorem ok_t_M_list_4 : pe_ckB (pe_GA []) pe_cl pe_ckA t_M_list (td_t_M_list 4).1 (td_t_M_list 4).2 = true := by decide +kernel
set_option maxRecDepth 40000 in
theorem ok_t_M_list_5 : pe_ckB (pe_GA []) pe_cl pe_ckA t_M_list (td_t_M_list 5).1 (td_t_M_list 5).2 = true := by decide +kernel
theorem ok_t_M_list_a : ∀ b ∈ t_M_list.bl, pe_ckB (pe_GA []) pe_cl pe_ckA t_M_list b.1 b.2 = true := by
  intro b hb
  obtain ⟨n, hn⟩ := List.getElem?_of_mem hb
  rw [← pe_at_eq] at hn
  match n, hn with
  | 0, hn =>
    have h2 : td_t_M_list 0 = b := by unfold td_t_M_list; rw [hn]; rfl
    rw [← h2]; exact ok_t_M_list_0
  | 1, hn =>
    have h2 : td_t_M_list 1 = b := by unfold td_t_M_list; rw [hn]; rfl
    rw [← h2]; exact ok_t_M_list_1
  | 2, hn =>
    have h2 : td_t_M_list 2 = b := by unfold td_t_M_list; rw [hn]; rfl
    rw [← h2]; exact ok_t_M_list_2
  | 3, hn =>
    have h2 : td_t_M_list 3 = b := by unfold td_t_M_list; rw [hn]; rfl
    rw [← h2]; exact ok_t_M_list_3
  | 4, hn =>
    have h2 : td_t_M_list 4 = b := by unfold td_t_M_list; rw [hn]; rfl
    rw [← h2]; exact ok_t_M_list_4
  | 5, hn =>
    have h2 : td_t_M_list 5 = b := by unfold td_t_M_list; rw [hn]; rfl
    rw [← h2]; exact ok_t_M_list_5
  | n + 6, hn =>
    rw [pe_at_eq] at hn
    exact absurd (List.getElem?_eq_some_iff.mp hn).1 (by show ¬ n + 6 < 6; omega)
theorem ok_t_M_list : pe_okM (pe_GA []) pe_cl pe_ckA t_M_list = true := pe_okM_mk (pe_w_of (by rfl) (by rfl)) (by decide +kernel) ok_t_M_list_a
def td_t_M_builtins (k : Nat) : Nat × List pe_I := (pe_at t_M_builtins.bl k).getD (0, [])
set_option maxRecDepth 40000 in
theorem ok_t_M_builtins_0 : pe_ckB (pe_GA []) pe_cl pe_ckA t_M_builtins (td_t_M_builtins 0).1 (td_t_M_builtins 0).2 = true := by decide +kernel
set_option maxRecDepth 40000 in
theorem ok_t_M_builtins_1 : pe_ckB (pe_GA []) pe_cl pe_ckA t_M_builtins (td_t_M_builtins 1).1 (td_t_M_builtins 1).2 = true := by decide +kernel
set_option maxRecDepth 40000 in
theorem ok_t_M_builtins_2 : pe_ckB (pe_GA []) pe_cl pe_ckA t_M_builtins (td_t_M_builtins 2).1 (td_t_M_builtins 2).2 = true := by decide +kernel
set_option maxRecDepth 40000 in
theorem ok_t_M_builtins_3 : pe_ckB (pe_GA []) pe_cl pe_ckA t_M_builtins (td_t_M_builtins 3).1 (td_t_M_builtins 3).2 = true := by decide +kernel
set_option maxRecDepth 40000 in
theorem ok_t_M_builtins_4 : pe_ckB (pe_GA []) pe_cl pe_ckA t_M_builtins (td_t_M_builtins 4).1 (td_t_M_builtins 4).2 = true := by decide +kernel
set_option maxRecDepth 40000 in
theorem ok_t_M_builtins_5 : pe_ckB (pe_GA []) pe_cl pe_ckA t_M_builtins (td_t_M_builtins 5).1 (td_t_M_builtins 5).2 = true := by decide +kernel
set_option maxRecDepth 40000 in
theorem ok_t_M_builtins_6 : pe_ckB (pe_GA []) pe_cl pe_ckA t_M_builtins (td_t_M_builtins 6).1 (td_t_M_builtins 6).2 = true := by decide +kernel
set_option maxRecDepth 40000 in
theorem ok_t_M_builtins_7 : pe_ckB (pe_GA []) pe_cl pe_ckA t_M_builtins (td_t_M_builtins 7).1 (td_t_M_builtins 7).2 = true := by decide +kernel
set_option maxRecDepth 40000 in
theorem ok_t_M_builtins_8 : pe_ckB (pe_GA []) pe_cl pe_ckA t_M_builtins (td_t_M_builtins 8).1 (td_t_M_builtins 8).2 = true := by decide +kernel
set_option maxRecDepth 40000 in
theorem ok_t_M_builtins_9 : pe_ckB (pe_GA []) pe_cl pe_ckA t_M_builtins (td_t_M_builtins 9).1 (td_t_M_builtins 9).2 = true := by decide +kernel
set_option maxRecDepth 40000 in
theorem ok_t_M_builtins_10 : pe_ckB (pe_GA []) pe_cl pe_ckA t_M_builtins (td_t_M_builtins 10).1 (td_t_M_builtins 10).2 = true := by decide +kernel
set_option maxRecDepth 40000 in
theorem ok_t_M_builtins_11 : pe_ckB (pe_GA []) pe_cl pe_ckA t_M_builtins (td_t_M_builtins 11).1 (td_t_M_builtins 11).2 = true := by decide +kernel
set_option maxRecDepth 40000 in
theorem ok_t_M_builtins_12 : pe_ckB (pe_GA []) pe_cl pe_ckA t_M_builtins (td_t_M_builtins 12).1 (td_t_M_builtins 12).2 = true := by decide +kernel
set_option maxRecDepth 40000 in
theorem ok_t_M_builtins_13 : pe_ckB (pe_GA []) pe_cl pe_ckA t_M_builtins (td_t_M_builtins 13).1 (td_t_M_builtins 13).2 = true := by decide +kernel
set_option maxRecDepth 40000 in
theorem ok_t_M_builtins_14 : pe_ckB (pe_GA []) pe_cl pe_ckA t_M_builtins (td_t_M_builtins 14).1 (td_t_M_builtins 14).2 = true := by decide +kernel
set_option maxRecDepth 40000 in
theorem ok_t_M_builtins_15 : pe_ckB (pe_GA []) pe_cl pe_ckA t_M_builtins (td_t_M_builtins 15).1 (td_t_M_builtins 15).2 = true := by decide +kernel
set_option maxRecDepth 40000 in
theorem ok_t_M_builtins_16 : pe_ckB (pe_GA []) pe_cl pe_ckA t_M_builtins (td_t_M_builtins 16).1 (td_t_M_builtins 16).2 = true := by decide +kernel
set_option maxRecDepth 40000 in
theorem ok_t_M_builtins_17 : pe_ckB (pe_GA []) pe_cl pe_ckA t_M_builtins (td_t_M_builtins 17).1 (td_t_M_builtins 17).2 = true := by decide +kernel
set_option maxRecDepth 40000 in
theorem ok_t_M_builtins_18 : pe_ckB (pe_GA []) pe_cl pe_ckA t_M_builtins (td_t_M_builtins 18).1 (td_t_M_builtins 18).2 = true := by decide +kernel
set_option maxRecDepth 40000 in
theorem ok_t_M_builtins_19 : pe_ckB (pe_GA []) pe_cl pe_ckA t_M_builtins (td_t_M_builtins 19).1 (td_t_M_builtins 19).2 = true := by decide +kernel
set_option maxRecDepth 40000 in
theorem ok_t_M_builtins_20 : pe_ckB (pe_GA []) pe_cl pe_ckA t_M_builtins (td_t_M_builtins 20).1 (td_t_M_builtins 20).2 = true := by decide +kernel
set_option maxRecDepth 40000 in
theorem ok_t_M_builtins_21 : pe_ckB (pe_GA []) pe_cl pe_ckA t_M_builtins (td_t_M_builtins 21).1 (td_t_M_builtins 21).2 = true := by decide +kernel
theorem ok_t_M_builtins_a : ∀ b ∈ t_M_builtins.bl, pe_ckB (pe_GA []) pe_cl pe_ckA t_M_builtins b.1 b.2 = true := by
  intro b hb
  obtain ⟨n, hn⟩ := List.getElem?_of_mem hb
  rw [← pe_at_eq] at hn
  match n, hn with
  | 0, hn =>
    have h2 : td_t_M_builtins 0 = b := by unfold td_t_M_builtins; rw [hn]; rfl
    rw [← h2]; exact ok_t_M_builtins_0
  | 1, hn =>
    have h2 : td_t_M_builtins 1 = b := by unfold td_t_M_builtins; rw [hn]; rfl
    rw [← h2]; exact ok_t_M_builtins_1
  | 2, hn =>
    have h2 : td_t_M_builtins 2 = b := by unfold td_t_M_builtins; rw [hn]; rfl
    rw [← h2]; exact ok_t_M_builtins_2
  | 3, hn =>
    have h2 : td_t_M_builtins 3 = b := by unfold td_t_M_builtins; rw [hn]; rfl
    rw [← h2]; exact ok_t_M_builtins_3
  | 4, hn =>
    have h2 : td_t_M_builtins 4 = b := by unfold td_t_M_builtins; rw [hn]; rfl
    rw [← h2]; exact ok_t_M_builtins_4
  | 5, hn =>
    have h2 : td_t_M_builtins 5 = b := by unfold td_t_M_builtins; rw [hn]; rfl
    rw [← h2]; exact ok_t_M_builtins_5
  | 6, hn =>
    have h2 : td_t_M_builtins 6 = b := by unfold td_t_M_builtins; rw [hn]; rfl
    rw [← h2]; exact ok_t_M_builtins_6
  | 7, hn =>
    have h2 : td_t_M_builtins 7 = b := by unfold td_t_M_builtins; rw [hn]; rfl
    rw [← h2]; exact ok_t_M_builtins_7
  | 8, hn =>
    have h2 : td_t_M_builtins 8 = b := by unfold td_t_M_builtins; rw [hn]; rfl
    rw [← h2]; exact ok_t_M_builtins_8
  | 9, hn =>
    have h2 : td_t_M_builtins 9 = b := by unfold td_t_M_builtins; rw [hn]; rfl
    rw [← h2]; exact ok_t_M_builtins_9
  | 10, hn =>
    have h2 : td_t_M_builtins 10 = b := by unfold td_t_M_builtins; rw [hn]; rfl
    rw [← h2]; exact ok_t_M_builtins_10
  | 11, hn =>
    have h2 : td_t_M_builtins 11 = b := by unfold td_t_M_builtins; rw [hn]; rfl
    rw [← h2]; exact ok_t_M_builtins_11
  | 12, hn =>
    have h2 : td_t_M_builtins 12 = b := by unfold td_t_M_builtins; rw [hn]; rfl
    rw [← h2]; exact ok_t_M_builtins_12
  | 13, hn =>
    have h2 : td_t_M_builtins 13 = b := by unfold td_t_M_builtins; rw [hn]; rfl
    rw [← h2]; exact ok_t_M_builtins_13
  | 14, hn =>
    have h2 : td_t_M_builtins 14 = b := by unfold td_t_M_builtins; rw [hn]; rfl
    rw [← h2]; exact ok_t_M_builtins_14
  | 15, hn =>
    have h2 : td_t_M_builtins 15 = b := by unfold td_t_M_builtins; rw [hn]; rfl
    rw [← h2]; exact ok_t_M_builtins_15
  | 16, hn =>
    have h2 : td_t_M_builtins 16 = b := by unfold td_t_M_builtins; rw [hn]; rfl
    rw [← h2]; exact ok_t_M_builtins_16
  | 17, hn =>
    have h2 : td_t_M_builtins 17 = b := by unfold td_t_M_builtins; rw [hn]; rfl
    rw [← h2]; exact ok_t_M_builtins_17
  | 18, hn =>
    have h2 : td_t_M_builtins 18 = b := by unfold td_t_M_builtins; rw [hn]; rfl
    rw [← h2]; exact ok_t_M_builtins_18
  | 19, hn =>
    have h2 : td_t_M_builtins 19 = b := by unfold td_t_M_builtins; rw [hn]; rfl
    rw [← h2]; exact ok_t_M_builtins_19
  | 20, hn =>
    have h2 : td_t_M_builtins 20 = b := by unfold td_t_M_builtins; rw [hn]; rfl
    rw [← h2]; exact ok_t_M_builtins_20
  | 21, hn =>
    have h2 : td_t_M_builtins 21 = b := by unfold td_t_M_builtins; rw [hn]; rfl
    rw [← h2]; exact ok_t_M_builtins_21
  | n + 22, hn =>
    rw [pe_at_eq] at hn
    exact absurd (List.getElem?_eq_some_iff.mp hn).1 (by show ¬ n + 22 < 22; omega)
theorem ok_t_M_builtins : pe_okM (pe_GA []) pe_cl pe_ckA t_M_builtins = true := pe_okM_mk (pe_w_of (by rfl) (by rfl)) (by decide +kernel) ok_t_M_builtins_a
def td_t_XW_wordAt (k : Nat) : Nat × List pe_I := (pe_at t_XW_wordAt.bl k).getD (0, [])
set_option maxRecDepth 40000 in
theorem ok_t_XW_wordAt_0 : pe_ckB (pe_GA []) pe_cl pe_ckA t_XW_wordAt (td_t_XW_wordAt 0).1 (td_t_XW_wordAt 0).2 = true := by decide +kernel
set_option maxRecDepth 40000 in
theorem ok_t_XW_wordAt_1 : pe_ckB (pe_GA []) pe_cl pe_ckA t_XW_wordAt (td_t_XW_wordAt 1).1 (td_t_XW_wordAt 1).2 = true := by decide +kernel
set_option maxRecDepth 40000 in
theorem ok_t_XW_wordAt_2 : pe_ckB (pe_GA []) pe_cl pe_ckA t_XW_wordAt (td_t_XW_wordAt 2).1 (td_t_XW_wordAt 2).2 = true := by decide +kernel
set_option maxRecDepth 40000 in
theorem ok_t_XW_wordAt_3 : pe_ckB (pe_GA []) pe_cl pe_ckA t_XW_wordAt (td_t_XW_wordAt 3).1 (td_t_XW_wordAt 3).2 = true := by decide +kernel
set_option maxRecDepth 40000 in
theorem ok_t_XW_wordAt_4 : pe_ckB (pe_GA []) pe_cl pe_ckA t_XW_wordAt (td_t_XW_wordAt 4).1 (td_t_XW_wordAt 4).2 = true := by decide +kernel
theorem ok_t_XW_wordAt_a : ∀ b ∈ t_XW_wordAt.bl, pe_ckB (pe_GA []) pe_cl pe_ckA t_XW_wordAt b.1 b.2 = true := by
  intro b hb
  obtain ⟨n, hn⟩ := List.getElem?_of_mem hb
  rw [← pe_at_eq] at hn
  match n, hn with
  | 0, hn =>
    have h2 : td_t_XW_wordAt 0 = b := by unfold td_t_XW_wordAt; rw [hn]; rfl
    rw [← h2]; exact ok_t_XW_wordAt_0
  | 1, hn =>
    have h2 : td_t_XW_wordAt 1 = b := by unfold td_t_XW_wordAt; rw [hn]; rfl
    rw [← h2]; exact ok_t_XW_wordAt_1
  | 2, hn =>
    have h2 : td_t_XW_wordAt 2 = b := by unfold td_t_XW_wordAt; rw [hn]; rfl
    rw [← h2]; exact ok_t_XW_wordAt_2
  | 3, hn =>
    have h2 : td_t_XW_wordAt 3 = b := by unfold td_t_XW_wordAt; rw [hn]; rfl
    rw [← h2]; exact ok_t_XW_wordAt_3
  | 4, hn =>
    have h2 : td_t_XW_wordAt 4 = b := by unfold td_t_XW_wordAt; rw [hn]; rfl
    rw [← h2]; exact ok_t_XW_wordAt_4
  | n + 5, hn =>
    rw [pe_at_eq] at hn
    exact absurd (List.getElem?_eq_some_iff.mp hn).1 (by show ¬ n + 5 < 5; omega)
theorem ok_t_XW_wordAt : pe_okM (pe_GA []) pe_cl pe_ckA t_XW_wordAt = true := pe_okM_mk (pe_w_of (by rfl) (by rfl)) (by decide +kernel) ok_t_XW_wordAt_a
set_option maxRecDepth 40000 in
theorem ok_t_XW_append : pe_okM (pe_GA []) pe_cl pe_ckA t_XW_append = true := by decide +kernel
set_option maxRecDepth 40000 in
theorem ok_t_XR_signAt : pe_okM (pe_GA []) pe_cl pe_ckA t_XR_signAt = true := by decide +kernel
set_option maxRecDepth 40000 in
theorem ok_t_X_beginsName : pe_okM (pe_GA []) pe_cl pe_ckA t_X_beginsName = true := by decide +kernel
def td_t_XR_addName (k : Nat) : Nat × List pe_I := (pe_at t_XR_addName.bl k).getD (0, [])
set_option maxRecDepth 40000 in
theorem ok_t_XR_addName_0 : pe_ckB (pe_GA []) pe_cl pe_ckA t_XR_addName (td_t_XR_addName 0).1 (td_t_XR_addName 0).2 = true := by decide +kernel
set_option maxRecDepth 40000 in
theorem ok_t_XR_addName_1 : pe_ckB (pe_GA []) pe_cl pe_ckA t_XR_addName (td_t_XR_addName 1).1 (td_t_XR_addName 1).2 = true := by decide +kernel
set_option maxRecDepth 40000 in
theorem ok_t_XR_addName_2 : pe_ckB (pe_GA []) pe_cl pe_ckA t_XR_addName (td_t_XR_addName 2).1 (td_t_XR_addName 2).2 = true := by decide +kernel
set_option maxRecDepth 40000 in
theorem ok_t_XR_addName_3 : pe_ckB (pe_GA []) pe_cl pe_ckA t_XR_addName (td_t_XR_addName 3).1 (td_t_XR_addName 3).2 = true := by decide +kernel
set_option maxRecDepth 40000 in
theorem ok_t_XR_addName_4 : pe_ckB (pe_GA []) pe_cl pe_ckA t_XR_addName (td_t_XR_addName 4).1 (td_t_XR_addName 4).2 = true := by decide +kernel
set_option maxRecDepth 40000 in
theorem ok_t_XR_addName_5 : pe_ckB (pe_GA []) pe_cl pe_ckA t_XR_addName (td_t_XR_addName 5).1 (td_t_XR_addName 5).2 = true := by decide +kernel
set_option maxRecDepth 40000 in
theorem ok_t_XR_addName_6 : pe_ckB (pe_GA []) pe_cl pe_ckA t_XR_addName (td_t_XR_addName 6).1 (td_t_XR_addName 6).2 = true := by decide +kernel
set_option maxRecDepth 40000 in
theorem ok_t_XR_addName_7 : pe_ckB (pe_GA []) pe_cl pe_ckA t_XR_addName (td_t_XR_addName 7).1 (td_t_XR_addName 7).2 = true := by decide +kernel
set_option maxRecDepth 40000 in
theorem ok_t_XR_addName_8 : pe_ckB (pe_GA []) pe_cl pe_ckA t_XR_addName (td_t_XR_addName 8).1 (td_t_XR_addName 8).2 = true := by decide +kernel
set_option maxRecDepth 40000 in
theorem ok_t_XR_addName_9 : pe_ckB (pe_GA []) pe_cl pe_ckA t_XR_addName (td_t_XR_addName 9).1 (td_t_XR_addName 9).2 = true := by decide +kernel
theorem ok_t_XR_addName_a : ∀ b ∈ t_XR_addName.bl, pe_ckB (pe_GA []) pe_cl pe_ckA t_XR_addName b.1 b.2 = true := by
  intro b hb
  obtain ⟨n, hn⟩ := List.getElem?_of_mem hb
  rw [← pe_at_eq] at hn
  match n, hn with
  | 0, hn =>
    have h2 : td_t_XR_addName 0 = b := by unfold td_t_XR_addName; rw [hn]; rfl
    rw [← h2]; exact ok_t_XR_addName_0
  | 1, hn =>
    have h2 : td_t_XR_addName 1 = b := by unfold td_t_XR_addName; rw [hn]; rfl
    rw [← h2]; exact ok_t_XR_addName_1
  | 2, hn =>
    have h2 : td_t_XR_addName 2 = b := by unfold td_t_XR_addName; rw [hn]; rfl
    rw [← h2]; exact ok_t_XR_addName_2
  | 3, hn =>
    have h2 : td_t_XR_addName 3 = b := by unfold td_t_XR_addName; rw [hn]; rfl
    rw [← h2]; exact ok_t_XR_addName_3
  | 4, hn =>
    have h2 : td_t_XR_addName 4 = b := by unfold td_t_XR_addName; rw [hn]; rfl
    rw [← h2]; exact ok_t_XR_addName_4
  | 5, hn =>
    have h2 : td_t_XR_addName 5 = b := by unfold td_t_XR_addName; rw [hn]; rfl
    rw [← h2]; exact ok_t_XR_addName_5
  | 6, hn =>
    have h2 : td_t_XR_addName 6 = b := by unfold td_t_XR_addName; rw [hn]; rfl
    rw [← h2]; exact ok_t_XR_addName_6
  | 7, hn =>
    have h2 : td_t_XR_addName 7 = b := by unfold td_t_XR_addName; rw [hn]; rfl
    rw [← h2]; exact ok_t_XR_addName_7
  | 8, hn =>
    have h2 : td_t_XR_addName 8 = b := by unfold td_t_XR_addName; rw [hn]; rfl
    rw [← h2]; exact ok_t_XR_addName_8
  | 9, hn =>
    have h2 : td_t_XR_addName 9 = b := by unfold td_t_XR_addName; rw [hn]; rfl
    rw [← h2]; exact ok_t_XR_addName_9
  | n + 10, hn =>
    rw [pe_at_eq] at hn
    exact absurd (List.getElem?_eq_some_iff.mp hn).1 (by show ¬ n + 10 < 10; omega)
theorem ok_t_XR_addName : pe_okM (pe_GA []) pe_cl pe_ckA t_XR_addName = true := pe_okM_mk (pe_w_of (by rfl) (by rfl)) (by decide +kernel) ok_t_XR_addName_a
set_option maxRecDepth 40000 in
theorem ok_t_X_isDigit : pe_okM (pe_GA []) pe_cl pe_ckA t_X_isDigit = true := by decide +kernel
def td_t_XR_addNumber (k : Nat) : Nat × List pe_I := (pe_at t_XR_addNumber.bl k).getD (0, [])
set_option maxRecDepth 40000 in
theorem ok_t_XR_addNumber_0 : pe_ckB (pe_GA []) pe_cl pe_ckA t_XR_addNumber (td_t_XR_addNumber 0).1 (td_t_XR_addNumber 0).2 = true := by decide +kernel
set_option maxRecDepth 40000 in
theorem ok_t_XR_addNumber_1 : pe_ckB (pe_GA []) pe_cl pe_ckA t_XR_addNumber (td_t_XR_addNumber 1).1 (td_t_XR_addNumber 1).2 = true := by decide +kernel
set_option maxRecDepth 40000 in
theorem ok_t_XR_addNumber_2 : pe_ckB (pe_GA []) pe_cl pe_ckA t_XR_addNumber (td_t_XR_addNumber 2).1 (td_t_XR_addNumber 2).2 = true := by decide +kernel
set_option maxRecDepth 40000 in
theorem ok_t_XR_addNumber_3 : pe_ckB (pe_GA []) pe_cl pe_ckA t_XR_addNumber (td_t_XR_addNumber 3).1 (td_t_XR_addNumber 3).2 = true := by decide +kernel
set_option maxRecDepth 40000 in
theorem ok_t_XR_addNumber_4 : pe_ckB (pe_GA []) pe_cl pe_ckA t_XR_addNumber (td_t_XR_addNumber 4).1 (td_t_XR_addNumber 4).2 = true := by decide +kernel
set_option maxRecDepth 40000 in
theorem ok_t_XR_addNumber_5 : pe_ckB (pe_GA []) pe_cl pe_ckA t_XR_addNumber (td_t_XR_addNumber 5).1 (td_t_XR_addNumber 5).2 = true := by decide +kernel
theorem ok_t_XR_addNumber_a : ∀ b ∈ t_XR_addNumber.bl, pe_ckB (pe_GA []) pe_cl pe_ckA t_XR_addNumber b.1 b.2 = true := by
  intro b hb
  obtain ⟨n, hn⟩ := List.getElem?_of_mem hb
  rw [← pe_at_eq] at hn
  match n, hn with
  | 0, hn =>
    have h2 : td_t_XR_addNumber 0 = b := by unfold td_t_XR_addNumber; rw [hn]; rfl
    rw [← h2]; exact ok_t_XR_addNumber_0
  | 1, hn =>
    have h2 : td_t_XR_addNumber 1 = b := by unfold td_t_XR_addNumber; rw [hn]; rfl
    rw [← h2]; exact ok_t_XR_addNumber_1
  | 2, hn =>
    have h2 : td_t_XR_addNumber 2 = b := by unfold td_t_XR_addNumber; rw [hn]; rfl
    rw [← h2]; exact ok_t_XR_addNumber_2
  | 3, hn =>
    have h2 : td_t_XR_addNumber 3 = b := by unfold td_t_XR_addNumber; rw [hn]; rfl
    rw [← h2]; exact ok_t_XR_addNumber_3
  | 4, hn =>
    have h2 : td_t_XR_addNumber 4 = b := by unfold td_t_XR_addNumber; rw [hn]; rfl
    rw [← h2]; exact ok_t_XR_addNumber_4
  | 5, hn =>
    have h2 : td_t_XR_addNumber 5 = b := by unfold td_t_XR_addNumber; rw [hn]; rfl
    rw [← h2]; exact ok_t_XR_addNumber_5
  | n + 6, hn =>
    rw [pe_at_eq] at hn
    exact absurd (List.getElem?_eq_some_iff.mp hn).1 (by show ¬ n + 6 < 6; omega)
theorem ok_t_XR_addNumber : pe_okM (pe_GA []) pe_cl pe_ckA t_XR_addNumber = true := pe_okM_mk (pe_w_of (by rfl) (by rfl)) (by decide +kernel) ok_t_XR_addNumber_a
def td_t_XR_addText (k : Nat) : Nat × List pe_I := (pe_at t_XR_addText.bl k).getD (0, [])
set_option maxRecDepth 40000 in
theorem ok_t_XR_addText_0 : pe_ckB (pe_GA []) pe_cl pe_ckA t_XR_addText (td_t_XR_addText 0).1 (td_t_XR_addText 0).2 = true := by decide +kernel
set_option maxRecDepth 40000 in
theorem ok_t_XR_addText_1 : pe_ckB (pe_GA []) pe_cl pe_ckA t_XR_addText (td_t_XR_addText 1).1 (td_t_XR_addText 1).2 = true := by decide +kernel
set_option maxRecDepth 40000 in
theorem ok_t_XR_addText_2 : pe_ckB (pe_GA []) pe_cl pe_ckA t_XR_addText (td_t_XR_addText 2).1 (td_t_XR_addText 2).2 = true := by decide +kernel
set_option maxRecDepth 40000 in
theorem ok_t_XR_addText_3 : pe_ckB (pe_GA []) pe_cl pe_ckA t_XR_addText (td_t_XR_addText 3).1 (td_t_XR_addText 3).2 = true := by decide +kernel
set_option maxRecDepth 40000 in
theorem ok_t_XR_addText_4 : pe_ckB (pe_GA []) pe_cl pe_ckA t_XR_addText (td_t_XR_addText 4).1 (td_t_XR_addText 4).2 = true := by decide +kernel
set_option maxRecDepth 40000 in
theorem ok_t_XR_addText_5 : pe_ckB (pe_GA []) pe_cl pe_ckA t_XR_addText (td_t_XR_addText 5).1 (td_t_XR_addText 5).2 = true := by decide +kernel
set_option maxRecDepth 40000 in
theorem ok_t_XR_addText_6 : pe_ckB (pe_GA []) pe_cl pe_ckA t_XR_addText (td_t_XR_addText 6).1 (td_t_XR_addText 6).2 = true := by decide +kernel
set_option maxRecDepth 40000 in
theorem ok_t_XR_addText_7 : pe_ckB (pe_GA []) pe_cl pe_ckA t_XR_addText (td_t_XR_addText 7).1 (td_t_XR_addText 7).2 = true := by decide +kernel
set_option maxRecDepth 40000 in
theorem ok_t_XR_addText_8 : pe_ckB (pe_GA []) pe_cl pe_ckA t_XR_addText (td_t_XR_addText 8).1 (td_t_XR_addText 8).2 = true := by decide +kernel
set_option maxRecDepth 40000 in
theorem ok_t_XR_addText_9 : pe_ckB (pe_GA []) pe_cl pe_ckA t_XR_addText (td_t_XR_addText 9).1 (td_t_XR_addText 9).2 = true := by decide +kernel
set_option maxRecDepth 40000 in
theorem ok_t_XR_addText_10 : pe_ckB (pe_GA []) pe_cl pe_ckA t_XR_addText (td_t_XR_addText 10).1 (td_t_XR_addText 10).2 = true := by decide +kernel
set_option maxRecDepth 40000 in
theorem ok_t_XR_addText_11 : pe_ckB (pe_GA []) pe_cl pe_ckA t_XR_addText (td_t_XR_addText 11).1 (td_t_XR_addText 11).2 = true := by decide +kernel
theorem ok_t_XR_addText_a : ∀ b ∈ t_XR_addText.bl, pe_ckB (pe_GA []) pe_cl pe_ckA t_XR_addText b.1 b.2 = true := by
  intro b hb
  obtain ⟨n, hn⟩ := List.getElem?_of_mem hb
  rw [← pe_at_eq] at hn
  match n, hn with
  | 0, hn =>
    have h2 : td_t_XR_addText 0 = b := by unfold td_t_XR_addText; rw [hn]; rfl
    rw [← h2]; exact ok_t_XR_addText_0
  | 1, hn =>
    have h2 : td_t_XR_addText 1 = b := by unfold td_t_XR_addText; rw [hn]; rfl
    rw [← h2]; exact ok_t_XR_addText_1
  | 2, hn =>
    have h2 : td_t_XR_addText 2 = b := by unfold td_t_XR_addText; rw [hn]; rfl
    rw [← h2]; exact ok_t_XR_addText_2
  | 3, hn =>
    have h2 : td_t_XR_addText 3 = b := by unfold td_t_XR_addText; rw [hn]; rfl
    rw [← h2]; exact ok_t_XR_addText_3
  | 4, hn =>
    have h2 : td_t_XR_addText 4 = b := by unfold td_t_XR_addText; rw [hn]; rfl
    rw [← h2]; exact ok_t_XR_addText_4
  | 5, hn =>
    have h2 : td_t_XR_addText 5 = b := by unfold td_t_XR_addText; rw [hn]; rfl
    rw [← h2]; exact ok_t_XR_addText_5
  | 6, hn =>
    have h2 : td_t_XR_addText 6 = b := by unfold td_t_XR_addText; rw [hn]; rfl
    rw [← h2]; exact ok_t_XR_addText_6
  | 7, hn =>
    have h2 : td_t_XR_addText 7 = b := by unfold td_t_XR_addText; rw [hn]; rfl
    rw [← h2]; exact ok_t_XR_addText_7
  | 8, hn =>
    have h2 : td_t_XR_addText 8 = b := by unfold td_t_XR_addText; rw [hn]; rfl
    rw [← h2]; exact ok_t_XR_addText_8
  | 9, hn =>
    have h2 : td_t_XR_addText 9 = b := by unfold td_t_XR_addText; rw [hn]; rfl
    rw [← h2]; exact ok_t_XR_addText_9
  | 10, hn =>
    have h2 : td_t_XR_addText 10 = b := by unfold td_t_XR_addText; rw [hn]; rfl
    rw [← h2]; exact ok_t_XR_addText_10
  | 11, hn =>
    have h2 : td_t_XR_addText 11 = b := by unfold td_t_XR_addText; rw [hn]; rfl
    rw [← h2]; exact ok_t_XR_addText_11
  | n + 12, hn =>
    rw [pe_at_eq] at hn
    exact absurd (List.getElem?_eq_some_iff.mp hn).1 (by show ¬ n + 12 < 12; omega)
theorem ok_t_XR_addText : pe_okM (pe_GA []) pe_cl pe_ckA t_XR_addText = true := pe_okM_mk (pe_w_of (by rfl) (by rfl)) (by decide +kernel) ok_t_XR_addText_a
def td_t_XR_addSign (k : Nat) : Nat × List pe_I := (pe_at t_XR_addSign.bl k).getD (0, [])
set_option maxRecDepth 40000 in
theorem ok_t_XR_addSign_0 : pe_ckB (pe_GA []) pe_cl pe_ckA t_XR_addSign (td_t_XR_addSign 0).1 (td_t_XR_addSign 0).2 = true := by decide +kernel
set_option maxRecDepth 40000 in
theorem ok_t_XR_addSign_1 : pe_ckB (pe_GA []) pe_cl pe_ckA t_XR_addSign (td_t_XR_addSign 1).1 (td_t_XR_addSign 1).2 = true := by decide +kernel
set_option maxRecDepth 40000 in
theorem ok_t_XR_addSign_2 : pe_ckB (pe_GA []) pe_cl pe_ckA t_XR_addSign (td_t_XR_addSign 2).1 (td_t_XR_addSign 2).2 = true := by decide +kernel
set_option maxRecDepth 40000 in
theorem ok_t_XR_addSign_3 : pe_ckB (pe_GA []) pe_cl pe_ckA t_XR_addSign (td_t_XR_addSign 3).1 (td_t_XR_addSign 3).2 = true := by decide +kernel
set_option maxRecDepth 40000 in
theorem ok_t_XR_addSign_4 : pe_ckB (pe_GA []) pe_cl pe_ckA t_XR_addSign (td_t_XR_addSign 4).1 (td_t_XR_addSign 4).2 = true := by decide +kernel
set_option maxRecDepth 40000 in
theorem ok_t_XR_addSign_5 : pe_ckB (pe_GA []) pe_cl pe_ckA t_XR_addSign (td_t_XR_addSign 5).1 (td_t_XR_addSign 5).2 = true := by decide +kernel
set_option maxRecDepth 40000 in
theorem ok_t_XR_addSign_6 : pe_ckB (pe_GA []) pe_cl pe_ckA t_XR_addSign (td_t_XR_addSign 6).1 (td_t_XR_addSign 6).2 = true := by decide +kernel
set_option maxRecDepth 40000 in
theorem ok_t_XR_addSign_7 : pe_ckB (pe_GA []) pe_cl pe_ckA t_XR_addSign (td_t_XR_addSign 7).1 (td_t_XR_addSign 7).2 = true := by decide +kernel
set_option maxRecDepth 40000 in
theorem ok_t_XR_addSign_8 : pe_ckB (pe_GA []) pe_cl pe_ckA t_XR_addSign (td_t_XR_addSign 8).1 (td_t_XR_addSign 8).2 = true := by decide +kernel
set_option maxRecDepth 40000 in
theorem ok_t_XR_addSign_9 : pe_ckB (pe_GA []) pe_cl pe_ckA t_XR_addSign (td_t_XR_addSign 9).1 (td_t_XR_addSign 9).2 = true := by decide +kernel
set_option maxRecDepth 40000 in
theorem ok_t_XR_addSign_10 : pe_ckB (pe_GA []) pe_cl pe_ckA t_XR_addSign (td_t_XR_addSign 10).1 (td_t_XR_addSign 10).2 = true := by decide +kernel
set_option maxRecDepth 40000 in
theorem ok_t_XR_addSign_11 : pe_ckB (pe_GA []) pe_cl pe_ckA t_XR_addSign (td_t_XR_addSign 11).1 (td_t_XR_addSign 11).2 = true := by decide +kernel
set_option maxRecDepth 40000 in
theorem ok_t_XR_addSign_12 : pe_ckB (pe_GA []) pe_cl pe_ckA t_XR_addSign (td_t_XR_addSign 12).1 (td_t_XR_addSign 12).2 = true := by decide +kernel
set_option maxRecDepth 40000 in
theorem ok_t_XR_addSign_13 : pe_ckB (pe_GA []) pe_cl pe_ckA t_XR_addSign (td_t_XR_addSign 13).1 (td_t_XR_addSign 13).2 = true := by decide +kernel
theorem ok_t_XR_addSign_a : ∀ b ∈ t_XR_addSign.bl, pe_ckB (pe_GA []) pe_cl pe_ckA t_XR_addSign b.1 b.2 = true := by
  intro b hb
  obtain ⟨n, hn⟩ := List.getElem?_of_mem hb
  rw [← pe_at_eq] at hn
  match n, hn with
  | 0, hn =>
    have h2 : td_t_XR_addSign 0 = b := by unfold td_t_XR_addSign; rw [hn]; rfl
    rw [← h2]; exact ok_t_XR_addSign_0
  | 1, hn =>
    have h2 : td_t_XR_addSign 1 = b := by unfold td_t_XR_addSign; rw [hn]; rfl
    rw [← h2]; exact ok_t_XR_addSign_1
  | 2, hn =>
    have h2 : td_t_XR_addSign 2 = b := by unfold td_t_XR_addSign; rw [hn]; rfl
    rw [← h2]; exact ok_t_XR_addSign_2
  | 3, hn =>
    have h2 : td_t_XR_addSign 3 = b := by unfold td_t_XR_addSign; rw [hn]; rfl
    rw [← h2]; exact ok_t_XR_addSign_3
  | 4, hn =>
    have h2 : td_t_XR_addSign 4 = b := by unfold td_t_XR_addSign; rw [hn]; rfl
    rw [← h2]; exact ok_t_XR_addSign_4
  | 5, hn =>
    have h2 : td_t_XR_addSign 5 = b := by unfold td_t_XR_addSign; rw [hn]; rfl
    rw [← h2]; exact ok_t_XR_addSign_5
  | 6, hn =>
    have h2 : td_t_XR_addSign 6 = b := by unfold td_t_XR_addSign; rw [hn]; rfl
    rw [← h2]; exact ok_t_XR_addSign_6
  | 7, hn =>
    have h2 : td_t_XR_addSign 7 = b := by unfold td_t_XR_addSign; rw [hn]; rfl
    rw [← h2]; exact ok_t_XR_addSign_7
  | 8, hn =>
    have h2 : td_t_XR_addSign 8 = b := by unfold td_t_XR_addSign; rw [hn]; rfl
    rw [← h2]; exact ok_t_XR_addSign_8
  | 9, hn =>
    have h2 : td_t_XR_addSign 9 = b := by unfold td_t_XR_addSign; rw [hn]; rfl
    rw [← h2]; exact ok_t_XR_addSign_9
  | 10, hn =>
    have h2 : td_t_XR_addSign 10 = b := by unfold td_t_XR_addSign; rw [hn]; rfl
    rw [← h2]; exact ok_t_XR_addSign_10
  | 11, hn =>
    have h2 : td_t_XR_addSign 11 = b := by unfold td_t_XR_addSign; rw [hn]; rfl
    rw [← h2]; exact ok_t_XR_addSign_11
  | 12, hn =>
    have h2 : td_t_XR_addSign 12 = b := by unfold td_t_XR_addSign; rw [hn]; rfl
    rw [← h2]; exact ok_t_XR_addSign_12
  | 13, hn =>
    have h2 : td_t_XR_addSign 13 = b := by unfold td_t_XR_addSign; rw [hn]; rfl
    rw [← h2]; exact ok_t_XR_addSign_13
  | n + 14, hn =>
    rw [pe_at_eq] at hn
    exact absurd (List.getElem?_eq_some_iff.mp hn).1 (by show ¬ n + 14 < 14; omega)
theorem ok_t_XR_addSign : pe_okM (pe_GA []) pe_cl pe_ckA t_XR_addSign = true := pe_okM_mk (pe_w_of (by rfl) (by rfl)) (by decide +kernel) ok_t_XR_addSign_a
set_option maxRecDepth 40000 in
theorem ok_t_XR_value : pe_okM (pe_GA []) pe_cl pe_ckA t_XR_value = true := by decide +kernel
set_option maxRecDepth 40000 in
theorem ok_t_XO_classTyped : pe_okM (pe_GA []) pe_cl pe_ckA t_XO_classTyped = true := by decide +kernel
def td_t_XT_readSupers (k : Nat) : Nat × List pe_I := (pe_at t_XT_readSupers.bl k).getD (0, [])
set_option maxRecDepth 40000 in
theorem ok_t_XT_readSupers_0 : pe_ckB (pe_GA []) pe_cl pe_ckA t_XT_readSupers (td_t_XT_readSupers 0).1 (td_t_XT_readSupers 0).2 = true := by decide +kernel
set_option maxRecDepth 40000 in
theorem ok_t_XT_readSupers_1 : pe_ckB (pe_GA []) pe_cl pe_ckA t_XT_readSupers (td_t_XT_readSupers 1).1 (td_t_XT_readSupers 1).2 = true := by decide +kernel
set_option maxRecDepth 40000 in
theorem ok_t_XT_readSupers_2 : pe_ckB (pe_GA []) pe_cl pe_ckA t_XT_readSupers (td_t_XT_readSupers 2).1 (td_t_XT_readSupers 2).2 = true := by decide +kernel
set_option maxRecDepth 40000 in
theorem ok_t_XT_readSupers_3 : pe_ckB (pe_GA []) pe_cl pe_ckA t_XT_readSupers (td_t_XT_readSupers 3).1 (td_t_XT_readSupers 3).2 = true := by decide +kernel
set_option maxRecDepth 40000 in
theorem ok_t_XT_readSupers_4 : pe_ckB (pe_GA []) pe_cl pe_ckA t_XT_readSupers (td_t_XT_readSupers 4).1 (td_t_XT_readSupers 4).2 = true := by decide +kernel
set_option maxRecDepth 40000 in
theorem ok_t_XT_readSupers_5 : pe_ckB (pe_GA []) pe_cl pe_ckA t_XT_readSupers (td_t_XT_readSupers 5).1 (td_t_XT_readSupers 5).2 = true := by decide +kernel
set_option maxRecDepth 40000 in
theorem ok_t_XT_readSupers_6 : pe_ckB (pe_GA []) pe_cl pe_ckA t_XT_readSupers (td_t_XT_readSupers 6).1 (td_t_XT_readSupers 6).2 = true := by decide +kernel
set_option maxRecDepth 40000 in
theorem ok_t_XT_readSupers_7 : pe_ckB (pe_GA []) pe_cl pe_ckA t_XT_readSupers (td_t_XT_readSupers 7).1 (td_t_XT_readSupers 7).2 = true := by decide +kernel
set_option maxRecDepth 40000 in
theorem ok_t_XT_readSupers_8 : pe_ckB (pe_GA []) pe_cl pe_ckA t_XT_readSupers (td_t_XT_readSupers 8).1 (td_t_XT_readSupers 8).2 = true := by decide +kernel
set_option maxRecDepth 40000 in
theorem ok_t_XT_readSupers_9 : pe_ckB (pe_GA []) pe_cl pe_ckA t_XT_readSupers (td_t_XT_readSupers 9).1 (td_t_XT_readSupers 9).2 = true := by decide +kernel
theorem ok_t_XT_readSupers_a : ∀ b ∈ t_XT_readSupers.bl, pe_ckB (pe_GA []) pe_cl pe_ckA t_XT_readSupers b.1 b.2 = true := by
  intro b hb
  obtain ⟨n, hn⟩ := List.getElem?_of_mem hb
  rw [← pe_at_eq] at hn
  match n, hn with
  | 0, hn =>
    have h2 : td_t_XT_readSupers 0 = b := by unfold td_t_XT_readSupers; rw [hn]; rfl
    rw [← h2]; exact ok_t_XT_readSupers_0
  | 1, hn =>
    have h2 : td_t_XT_readSupers 1 = b := by unfold td_t_XT_readSupers; rw [hn]; rfl
    rw [← h2]; exact ok_t_XT_readSupers_1
  | 2, hn =>
    have h2 : td_t_XT_readSupers 2 = b := by unfold td_t_XT_readSupers; rw [hn]; rfl
    rw [← h2]; exact ok_t_XT_readSupers_2
  | 3, hn =>
    have h2 : td_t_XT_readSupers 3 = b := by unfold td_t_XT_readSupers; rw [hn]; rfl
    rw [← h2]; exact ok_t_XT_readSupers_3
  | 4, hn =>
    have h2 : td_t_XT_readSupers 4 = b := by unfold td_t_XT_readSupers; rw [hn]; rfl
    rw [← h2]; exact ok_t_XT_readSupers_4
  | 5, hn =>
    have h2 : td_t_XT_readSupers 5 = b := by unfold td_t_XT_readSupers; rw [hn]; rfl
    rw [← h2]; exact ok_t_XT_readSupers_5
  | 6, hn =>
    have h2 : td_t_XT_readSupers 6 = b := by unfold td_t_XT_readSupers; rw [hn]; rfl
    rw [← h2]; exact ok_t_XT_readSupers_6
  | 7, hn =>
    have h2 : td_t_XT_readSupers 7 = b := by unfold td_t_XT_readSupers; rw [hn]; rfl
    rw [← h2]; exact ok_t_XT_readSupers_7
  | 8, hn =>
    have h2 : td_t_XT_readSupers 8 = b := by unfold td_t_XT_readSupers; rw [hn]; rfl
    rw [← h2]; exact ok_t_XT_readSupers_8
  | 9, hn =>
    have h2 : td_t_XT_readSupers 9 = b := by unfold td_t_XT_readSupers; rw [hn]; rfl
    rw [← h2]; exact ok_t_XT_readSupers_9
  | n + 10, hn =>
    rw [pe_at_eq] at hn
    exact absurd (List.getElem?_eq_some_iff.mp hn).1 (by show ¬ n + 10 < 10; omega)
theorem ok_t_XT_readSupers : pe_okM (pe_GA []) pe_cl pe_ckA t_XT_readSupers = true := pe_okM_mk (pe_w_of (by rfl) (by rfl)) (by decide +kernel) ok_t_XT_readSupers_a
set_option maxRecDepth 40000 in
theorem ok_t_XO_addClass : pe_okM (pe_GA []) pe_cl pe_ckA t_XO_addClass = true := by decide +kernel
def td_t_XO_setOrder (k : Nat) : Nat × List pe_I := (pe_at t_XO_setOrder.bl k).getD (0, [])
set_option maxRecDepth 40000 in
theorem ok_t_XO_setOrder_0 : pe_ckB (pe_GA []) pe_cl pe_ckA t_XO_setOrder (td_t_XO_setOrder 0).1 (td_t_XO_setOrder 0).2 = true := by decide +kernel
set_option maxRecDepth 40000 in
theorem ok_t_XO_setOrder_1 : pe_ckB (pe_GA []) pe_cl pe_ckA t_XO_setOrder (td_t_XO_setOrder 1).1 (td_t_XO_setOrder 1).2 = true := by decide +kernel
set_option maxRecDepth 40000 in
theorem ok_t_XO_setOrder_2 : pe_ckB (pe_GA []) pe_cl pe_ckA t_XO_setOrder (td_t_XO_setOrder 2).1 (td_t_XO_setOrder 2).2 = true := by decide +kernel
set_option maxRecDepth 40000 in
theorem ok_t_XO_setOrder_3 : pe_ckB (pe_GA []) pe_cl pe_ckA t_XO_setOrder (td_t_XO_setOrder 3).1 (td_t_XO_setOrder 3).2 = true := by decide +kernel
set_option maxRecDepth 40000 in
theorem ok_t_XO_setOrder_4 : pe_ckB (pe_GA []) pe_cl pe_ckA t_XO_setOrder (td_t_XO_setOrder 4).1 (td_t_XO_setOrder 4).2 = true := by decide +kernel
set_option maxRecDepth 40000 in
theorem ok_t_XO_setOrder_5 : pe_ckB (pe_GA []) pe_cl pe_ckA t_XO_setOrder (td_t_XO_setOrder 5).1 (td_t_XO_setOrder 5).2 = true := by decide +kernel
set_option maxRecDepth 40000 in
theorem ok_t_XO_setOrder_6 : pe_ckB (pe_GA []) pe_cl pe_ckA t_XO_setOrder (td_t_XO_setOrder 6).1 (td_t_XO_setOrder 6).2 = true := by decide +kernel
theorem ok_t_XO_setOrder_a : ∀ b ∈ t_XO_setOrder.bl, pe_ckB (pe_GA []) pe_cl pe_ckA t_XO_setOrder b.1 b.2 = true := by
  intro b hb
  obtain ⟨n, hn⟩ := List.getElem?_of_mem hb
  rw [← pe_at_eq] at hn
  match n, hn with
  | 0, hn =>
    have h2 : td_t_XO_setOrder 0 = b := by unfold td_t_XO_setOrder; rw [hn]; rfl
    rw [← h2]; exact ok_t_XO_setOrder_0
  | 1, hn =>
    have h2 : td_t_XO_setOrder 1 = b := by unfold td_t_XO_setOrder; rw [hn]; rfl
    rw [← h2]; exact ok_t_XO_setOrder_1
  | 2, hn =>
    have h2 : td_t_XO_setOrder 2 = b := by unfold td_t_XO_setOrder; rw [hn]; rfl
    rw [← h2]; exact ok_t_XO_setOrder_2
  | 3, hn =>
    have h2 : td_t_XO_setOrder 3 = b := by unfold td_t_XO_setOrder; rw [hn]; rfl
    rw [← h2]; exact ok_t_XO_setOrder_3
  | 4, hn =>
    have h2 : td_t_XO_setOrder 4 = b := by unfold td_t_XO_setOrder; rw [hn]; rfl
    rw [← h2]; exact ok_t_XO_setOrder_4
  | 5, hn =>
    have h2 : td_t_XO_setOrder 5 = b := by unfold td_t_XO_setOrder; rw [hn]; rfl
    rw [← h2]; exact ok_t_XO_setOrder_5
  | 6, hn =>
    have h2 : td_t_XO_setOrder 6 = b := by unfold td_t_XO_setOrder; rw [hn]; rfl
    rw [← h2]; exact ok_t_XO_setOrder_6
  | n + 7, hn =>
    rw [pe_at_eq] at hn
    exact absurd (List.getElem?_eq_some_iff.mp hn).1 (by show ¬ n + 7 < 7; omega)
theorem ok_t_XO_setOrder : pe_okM (pe_GA []) pe_cl pe_ckA t_XO_setOrder = true := pe_okM_mk (pe_w_of (by rfl) (by rfl)) (by decide +kernel) ok_t_XO_setOrder_a
set_option maxRecDepth 40000 in
theorem ok_t_XT_take : pe_okM (pe_GA []) pe_cl pe_ckA t_XT_take = true := by decide +kernel
def td_t_XT_readHead (k : Nat) : Nat × List pe_I := (pe_at t_XT_readHead.bl k).getD (0, [])
set_option maxRecDepth 40000 in
theorem ok_t_XT_readHead_0 : pe_ckB (pe_GA []) pe_cl pe_ckA t_XT_readHead (td_t_XT_readHead 0).1 (td_t_XT_readHead 0).2 = true := by decide +kernel
set_option maxRecDepth 40000 in
theorem ok_t_XT_readHead_1 : pe_ckB (pe_GA []) pe_cl pe_ckA t_XT_readHead (td_t_XT_readHead 1).1 (td_t_XT_readHead 1).2 = true := by decide +kernel
set_option maxRecDepth 40000 in
theorem ok_t_XT_readHead_2 : pe_ckB (pe_GA []) pe_cl pe_ckA t_XT_readHead (td_t_XT_readHead 2).1 (td_t_XT_readHead 2).2 = true := by decide +kernel
set_option maxRecDepth 40000 in
theorem ok_t_XT_readHead_3 : pe_ckB (pe_GA []) pe_cl pe_ckA t_XT_readHead (td_t_XT_readHead 3).1 (td_t_XT_readHead 3).2 = true := by decide +kernel
set_option maxRecDepth 40000 in
theorem ok_t_XT_readHead_4 : pe_ckB (pe_GA []) pe_cl pe_ckA t_XT_readHead (td_t_XT_readHead 4).1 (td_t_XT_readHead 4).2 = true := by decide +kernel
set_option maxRecDepth 40000 in
theorem ok_t_XT_readHead_5 : pe_ckB (pe_GA []) pe_cl pe_ckA t_XT_readHead (td_t_XT_readHead 5).1 (td_t_XT_readHead 5).2 = true := by decide +kernel
set_option maxRecDepth 40000 in
theorem ok_t_XT_readHead_6 : pe_ckB (pe_GA []) pe_cl pe_ckA t_XT_readHead (td_t_XT_readHead 6).1 (td_t_XT_readHead 6).2 = true := by decide +kernel
set_option maxRecDepth 40000 in
theorem ok_t_XT_readHead_7 : pe_ckB (pe_GA []) pe_cl pe_ckA t_XT_readHead (td_t_XT_readHead 7).1 (td_t_XT_readHead 7).2 = true := by decide +kernel
set_option maxRecDepth 40000 in
theorem ok_t_XT_readHead_8 : pe_ckB (pe_GA []) pe_cl pe_ckA t_XT_readHead (td_t_XT_readHead 8).1 (td_t_XT_readHead 8).2 = true := by decide +kernel
set_option maxRecDepth 40000 in
theorem ok_t_XT_readHead_9 : pe_ckB (pe_GA []) pe_cl pe_ckA t_XT_readHead (td_t_XT_readHead 9).1 (td_t_XT_readHead 9).2 = true := by decide +kernel
set_option maxRecDepth 40000 in
theorem ok_t_XT_readHead_10 : pe_ckB (pe_GA []) pe_cl pe_ckA t_XT_readHead (td_t_XT_readHead 10).1 (td_t_XT_readHead 10).2 = true := by decide +kernel
set_option maxRecDepth 40000 in
theorem ok_t_XT_readHead_11 : pe_ckB (pe_GA []) pe_cl pe_ckA t_XT_readHead (td_t_XT_readHead 11).1 (td_t_XT_readHead 11).2 = true := by decide +kernel
set_option maxRecDepth 40000 in
theorem ok_t_XT_readHead_12 : pe_ckB (pe_GA []) pe_cl pe_ckA t_XT_readHead (td_t_XT_readHead 12).1 (td_t_XT_readHead 12).2 = true := by decide +kernel
set_option maxRecDepth 40000 in
theorem ok_t_XT_readHead_13 : pe_ckB (pe_GA []) pe_cl pe_ckA t_XT_readHead (td_t_XT_readHead 13).1 (td_t_XT_readHead 13).2 = true := by decide +kernel
set_option maxRecDepth 40000 in
theorem ok_t_XT_readHead_14 : pe_ckB (pe_GA []) pe_cl pe_ckA t_XT_readHead (td_t_XT_readHead 14).1 (td_t_XT_readHead 14).2 = true := by decide +kernel
set_option maxRecDepth 40000 in
theorem ok_t_XT_readHead_15 : pe_ckB (pe_GA []) pe_cl pe_ckA t_XT_readHead (td_t_XT_readHead 15).1 (td_t_XT_readHead 15).2 = true := by decide +kernel
theorem ok_t_XT_readHead_a : ∀ b ∈ t_XT_readHead.bl, pe_ckB (pe_GA []) pe_cl pe_ckA t_XT_readHead b.1 b.2 = true := by
  intro b hb
  obtain ⟨n, hn⟩ := List.getElem?_of_mem hb
  rw [← pe_at_eq] at hn
  match n, hn with
  | 0, hn =>
    have h2 : td_t_XT_readHead 0 = b := by unfold td_t_XT_readHead; rw [hn]; rfl
    rw [← h2]; exact ok_t_XT_readHead_0
  | 1, hn =>
    have h2 : td_t_XT_readHead 1 = b := by unfold td_t_XT_readHead; rw [hn]; rfl
    rw [← h2]; exact ok_t_XT_readHead_1
  | 2, hn =>
    have h2 : td_t_XT_readHead 2 = b := by unfold td_t_XT_readHead; rw [hn]; rfl
    rw [← h2]; exact ok_t_XT_readHead_2
  | 3, hn =>
    have h2 : td_t_XT_readHead 3 = b := by unfold td_t_XT_readHead; rw [hn]; rfl
    rw [← h2]; exact ok_t_XT_readHead_3
  | 4, hn =>
    have h2 : td_t_XT_readHead 4 = b := by unfold td_t_XT_readHead; rw [hn]; rfl
    rw [← h2]; exact ok_t_XT_readHead_4
  | 5, hn =>
    have h2 : td_t_XT_readHead 5 = b := by unfold td_t_XT_readHead; rw [hn]; rfl
    rw [← h2]; exact ok_t_XT_readHead_5
  | 6, hn =>
    have h2 : td_t_XT_readHead 6 = b := by unfold td_t_XT_readHead; rw [hn]; rfl
    rw [← h2]; exact ok_t_XT_readHead_6
  | 7, hn =>
    have h2 : td_t_XT_readHead 7 = b := by unfold td_t_XT_readHead; rw [hn]; rfl
    rw [← h2]; exact ok_t_XT_readHead_7
  | 8, hn =>
    have h2 : td_t_XT_readHead 8 = b := by unfold td_t_XT_readHead; rw [hn]; rfl
    rw [← h2]; exact ok_t_XT_readHead_8
  | 9, hn =>
    have h2 : td_t_XT_readHead 9 = b := by unfold td_t_XT_readHead; rw [hn]; rfl
    rw [← h2]; exact ok_t_XT_readHead_9
  | 10, hn =>
    have h2 : td_t_XT_readHead 10 = b := by unfold td_t_XT_readHead; rw [hn]; rfl
    rw [← h2]; exact ok_t_XT_readHead_10
  | 11, hn =>
    have h2 : td_t_XT_readHead 11 = b := by unfold td_t_XT_readHead; rw [hn]; rfl
    rw [← h2]; exact ok_t_XT_readHead_11
  | 12, hn =>
    have h2 : td_t_XT_readHead 12 = b := by unfold td_t_XT_readHead; rw [hn]; rfl
    rw [← h2]; exact ok_t_XT_readHead_12
  | 13, hn =>
    have h2 : td_t_XT_readHead 13 = b := by unfold td_t_XT_readHead; rw [hn]; rfl
    rw [← h2]; exact ok_t_XT_readHead_13
  | 14, hn =>
    have h2 : td_t_XT_readHead 14 = b := by unfold td_t_XT_readHead; rw [hn]; rfl
    rw [← h2]; exact ok_t_XT_readHead_14
  | 15, hn =>
    have h2 : td_t_XT_readHead 15 = b := by unfold td_t_XT_readHead; rw [hn]; rfl
    rw [← h2]; exact ok_t_XT_readHead_15
  | n + 16, hn =>
    rw [pe_at_eq] at hn
    exact absurd (List.getElem?_eq_some_iff.mp hn).1 (by show ¬ n + 16 < 16; omega)
theorem ok_t_XT_readHead : pe_okM (pe_GA []) pe_cl pe_ckA t_XT_readHead = true := pe_okM_mk (pe_w_of (by rfl) (by rfl)) (by decide +kernel) ok_t_XT_readHead_a
def td_t_XT_readParameters (k : Nat) : Nat × List pe_I := (pe_at t_XT_readParameters.bl k).getD (0, [])
set_option maxRecDepth 40000 in
theorem ok_t_XT_readParameters_0 : pe_ckB (pe_GA []) pe_cl pe_ckA t_XT_readParameters (td_t_XT_readParameters 0).1 (td_t_XT_readParameters 0).2 = true := by decide +kernel
set_option maxRecDepth 40000 in
theorem ok_t_XT_readParameters_1 : pe_ckB (pe_GA []) pe_cl pe_ckA t_XT_readParameters (td_t_XT_readParameters 1).1 (td_t_XT_readParameters 1).2 = true := by decide +kernel
set_option maxRecDepth 40000 in
theorem ok_t_XT_readParameters_2 : pe_ckB (pe_GA []) pe_cl pe_ckA t_XT_readParameters (td_t_XT_readParameters 2).1 (td_t_XT_readParameters 2).2 = true := by decide +kernel
set_option maxRecDepth 40000 in
theorem ok_t_XT_readParameters_3 : pe_ckB (pe_GA []) pe_cl pe_ckA t_XT_readParameters (td_t_XT_readParameters 3).1 (td_t_XT_readParameters 3).2 = true := by decide +kernel
set_option maxRecDepth 40000 in
theorem ok_t_XT_readParameters_4 : pe_ckB (pe_GA []) pe_cl pe_ckA t_XT_readParameters (td_t_XT_readParameters 4).1 (td_t_XT_readParameters 4).2 = true := by decide +kernel
set_option maxRecDepth 40000 in
theorem ok_t_XT_readParameters_5 : pe_ckB (pe_GA []) pe_cl pe_ckA t_XT_readParameters (td_t_XT_readParameters 5).1 (td_t_XT_readParameters 5).2 = true := by decide +kernel
set_option maxRecDepth 40000 in
theorem ok_t_XT_readParameters_6 : pe_ckB (pe_GA []) pe_cl pe_ckA t_XT_readParameters (td_t_XT_readParameters 6).1 (td_t_XT_readParameters 6).2 = true := by decide +kernel
set_option maxRecDepth 40000 in
theorem ok_t_XT_readParameters_7 : pe_ckB (pe_GA []) pe_cl pe_ckA t_XT_readParameters (td_t_XT_readParameters 7).1 (td_t_XT_readParameters 7).2 = true := by decide +kernel
set_option maxRecDepth 40000 in
theorem ok_t_XT_readParameters_8 : pe_ckB (pe_GA []) pe_cl pe_ckA t_XT_readParameters (td_t_XT_readParameters 8).1 (td_t_XT_readParameters 8).2 = true := by decide +kernel
set_option maxRecDepth 40000 in
theorem ok_t_XT_readParameters_9 : pe_ckB (pe_GA []) pe_cl pe_ckA t_XT_readParameters (td_t_XT_readParameters 9).1 (td_t_XT_readParameters 9).2 = true := by decide +kernel
set_option maxRecDepth 40000 in
theorem ok_t_XT_readParameters_10 : pe_ckB (pe_GA []) pe_cl pe_ckA t_XT_readParameters (td_t_XT_readParameters 10).1 (td_t_XT_readParameters 10).2 = true := by decide +kernel
set_option maxRecDepth 40000 in
theorem ok_t_XT_readParameters_11 : pe_ckB (pe_GA []) pe_cl pe_ckA t_XT_readParameters (td_t_XT_readParameters 11).1 (td_t_XT_readParameters 11).2 = true := by decide +kernel
theorem ok_t_XT_readParameters_a : ∀ b ∈ t_XT_readParameters.bl, pe_ckB (pe_GA []) pe_cl pe_ckA t_XT_readParameters b.1 b.2 = true := by
  intro b hb
  obtain ⟨n, hn⟩ := List.getElem?_of_mem hb
  rw [← pe_at_eq] at hn
  match n, hn with
  | 0, hn =>
    have h2 : td_t_XT_readParameters 0 = b := by unfold td_t_XT_readParameters; rw [hn]; rfl
    rw [← h2]; exact ok_t_XT_readParameters_0
  | 1, hn =>
    have h2 : td_t_XT_readParameters 1 = b := by unfold td_t_XT_readParameters; rw [hn]; rfl
    rw [← h2]; exact ok_t_XT_readParameters_1
  | 2, hn =>
    have h2 : td_t_XT_readParameters 2 = b := by unfold td_t_XT_readParameters; rw [hn]; rfl
    rw [← h2]; exact ok_t_XT_readParameters_2
  | 3, hn =>
    have h2 : td_t_XT_readParameters 3 = b := by unfold td_t_XT_readParameters; rw [hn]; rfl
    rw [← h2]; exact ok_t_XT_readParameters_3
  | 4, hn =>
    have h2 : td_t_XT_readParameters 4 = b := by unfold td_t_XT_readParameters; rw [hn]; rfl
    rw [← h2]; exact ok_t_XT_readParameters_4
  | 5, hn =>
    have h2 : td_t_XT_readParameters 5 = b := by unfold td_t_XT_readParameters; rw [hn]; rfl
    rw [← h2]; exact ok_t_XT_readParameters_5
  | 6, hn =>
    have h2 : td_t_XT_readParameters 6 = b := by unfold td_t_XT_readParameters; rw [hn]; rfl
    rw [← h2]; exact ok_t_XT_readParameters_6
  | 7, hn =>
    have h2 : td_t_XT_readParameters 7 = b := by unfold td_t_XT_readParameters; rw [hn]; rfl
    rw [← h2]; exact ok_t_XT_readParameters_7
  | 8, hn =>
    have h2 : td_t_XT_readParameters 8 = b := by unfold td_t_XT_readParameters; rw [hn]; rfl
    rw [← h2]; exact ok_t_XT_readParameters_8
  | 9, hn =>
    have h2 : td_t_XT_readParameters 9 = b := by unfold td_t_XT_readParameters; rw [hn]; rfl
    rw [← h2]; exact ok_t_XT_readParameters_9
  | 10, hn =>
    have h2 : td_t_XT_readParameters 10 = b := by unfold td_t_XT_readParameters; rw [hn]; rfl
    rw [← h2]; exact ok_t_XT_readParameters_10
  | 11, hn =>
    have h2 : td_t_XT_readParameters 11 = b := by unfold td_t_XT_readParameters; rw [hn]; rfl
    rw [← h2]; exact ok_t_XT_readParameters_11
  | n + 12, hn =>
    rw [pe_at_eq] at hn
    exact absurd (List.getElem?_eq_some_iff.mp hn).1 (by show ¬ n + 12 < 12; omega)
theorem ok_t_XT_readParameters : pe_okM (pe_GA []) pe_cl pe_ckA t_XT_readParameters = true := pe_okM_mk (pe_w_of (by rfl) (by rfl)) (by decide +kernel) ok_t_XT_readParameters_a
def td_t_XO_endClass (k : Nat) : Nat × List pe_I := (pe_at t_XO_endClass.bl k).getD (0, [])
set_option maxRecDepth 40000 in
theorem ok_t_XO_endClass_0 : pe_ckB (pe_GA []) pe_cl pe_ckA t_XO_endClass (td_t_XO_endClass 0).1 (td_t_XO_endClass 0).2 = true := by decide +kernel
set_option maxRecDepth 40000 in
theorem ok_t_XO_endClass_1 : pe_ckB (pe_GA []) pe_cl pe_ckA t_XO_endClass (td_t_XO_endClass 1).1 (td_t_XO_endClass 1).2 = true := by decide +kernel
set_option maxRecDepth 40000 in
theorem ok_t_XO_endClass_2 : pe_ckB (pe_GA []) pe_cl pe_ckA t_XO_endClass (td_t_XO_endClass 2).1 (td_t_XO_endClass 2).2 = true := by decide +kernel
set_option maxRecDepth 40000 in
theorem ok_t_XO_endClass_3 : pe_ckB (pe_GA []) pe_cl pe_ckA t_XO_endClass (td_t_XO_endClass 3).1 (td_t_XO_endClass 3).2 = true := by decide +kernel
set_option maxRecDepth 40000 in
theorem ok_t_XO_endClass_4 : pe_ckB (pe_GA []) pe_cl pe_ckA t_XO_endClass (td_t_XO_endClass 4).1 (td_t_XO_endClass 4).2 = true := by decide +kernel
set_option maxRecDepth 40000 in
theorem ok_t_XO_endClass_5 : pe_ckB (pe_GA []) pe_cl pe_ckA t_XO_endClass (td_t_XO_endClass 5).1 (td_t_XO_endClass 5).2 = true := by decide +kernel
set_option maxRecDepth 40000 in
theorem ok_t_XO_endClass_6 : pe_ckB (pe_GA []) pe_cl pe_ckA t_XO_endClass (td_t_XO_endClass 6).1 (td_t_XO_endClass 6).2 = true := by decide +kernel
set_option maxRecDepth 40000 in
theorem ok_t_XO_endClass_7 : pe_ckB (pe_GA []) pe_cl pe_ckA t_XO_endClass (td_t_XO_endClass 7).1 (td_t_XO_endClass 7).2 = true := by decide +kernel
set_option maxRecDepth 40000 in
theorem ok_t_XO_endClass_8 : pe_ckB (pe_GA []) pe_cl pe_ckA t_XO_endClass (td_t_XO_endClass 8).1 (td_t_XO_endClass 8).2 = true := by decide +kernel
set_option maxRecDepth 40000 in
theorem ok_t_XO_endClass_9 : pe_ckB (pe_GA []) pe_cl pe_ckA t_XO_endClass (td_t_XO_endClass 9).1 (td_t_XO_endClass 9).2 = true := by decide +kernel
set_option maxRecDepth 40000 in
theorem ok_t_XO_endClass_10 : pe_ckB (pe_GA []) pe_cl pe_ckA t_XO_endClass (td_t_XO_endClass 10).1 (td_t_XO_endClass 10).2 = true := by decide +kernel
theorem ok_t_XO_endClass_a : ∀ b ∈ t_XO_endClass.bl, pe_ckB (pe_GA []) pe_cl pe_ckA t_XO_endClass b.1 b.2 = true := by
  intro b hb
  obtain ⟨n, hn⟩ := List.getElem?_of_mem hb
  rw [← pe_at_eq] at hn
  match n, hn with
  | 0, hn =>
    have h2 : td_t_XO_endClass 0 = b := by unfold td_t_XO_endClass; rw [hn]; rfl
    rw [← h2]; exact ok_t_XO_endClass_0
  | 1, hn =>
    have h2 : td_t_XO_endClass 1 = b := by unfold td_t_XO_endClass; rw [hn]; rfl
    rw [← h2]; exact ok_t_XO_endClass_1
  | 2, hn =>
    have h2 : td_t_XO_endClass 2 = b := by unfold td_t_XO_endClass; rw [hn]; rfl
    rw [← h2]; exact ok_t_XO_endClass_2
  | 3, hn =>
    have h2 : td_t_XO_endClass 3 = b := by unfold td_t_XO_endClass; rw [hn]; rfl
    rw [← h2]; exact ok_t_XO_endClass_3
  | 4, hn =>
    have h2 : td_t_XO_endClass 4 = b := by unfold td_t_XO_endClass; rw [hn]; rfl
    rw [← h2]; exact ok_t_XO_endClass_4
  | 5, hn =>
    have h2 : td_t_XO_endClass 5 = b := by unfold td_t_XO_endClass; rw [hn]; rfl
    rw [← h2]; exact ok_t_XO_endClass_5
  | 6, hn =>
    have h2 : td_t_XO_endClass 6 = b := by unfold td_t_XO_endClass; rw [hn]; rfl
    rw [← h2]; exact ok_t_XO_endClass_6
  | 7, hn =>
    have h2 : td_t_XO_endClass 7 = b := by unfold td_t_XO_endClass; rw [hn]; rfl
    rw [← h2]; exact ok_t_XO_endClass_7
  | 8, hn =>
    have h2 : td_t_XO_endClass 8 = b := by unfold td_t_XO_endClass; rw [hn]; rfl
    rw [← h2]; exact ok_t_XO_endClass_8
  | 9, hn =>
    have h2 : td_t_XO_endClass 9 = b := by unfold td_t_XO_endClass; rw [hn]; rfl
    rw [← h2]; exact ok_t_XO_endClass_9
  | 10, hn =>
    have h2 : td_t_XO_endClass 10 = b := by unfold td_t_XO_endClass; rw [hn]; rfl
    rw [← h2]; exact ok_t_XO_endClass_10
  | n + 11, hn =>
    rw [pe_at_eq] at hn
    exact absurd (List.getElem?_eq_some_iff.mp hn).1 (by show ¬ n + 11 < 11; omega)
theorem ok_t_XO_endClass : pe_okM (pe_GA []) pe_cl pe_ckA t_XO_endClass = true := pe_okM_mk (pe_w_of (by rfl) (by rfl)) (by decide +kernel) ok_t_XO_endClass_a
def td_t_M_sameOnTape (k : Nat) : Nat × List pe_I := (pe_at t_M_sameOnTape.bl k).getD (0, [])
set_option maxRecDepth 40000 in
theorem ok_t_M_sameOnTape_0 : pe_ckB (pe_GA []) pe_cl pe_ckA t_M_sameOnTape (td_t_M_sameOnTape 0).1 (td_t_M_sameOnTape 0).2 = true := by decide +kernel
set_option maxRecDepth 40000 in
theorem ok_t_M_sameOnTape_1 : pe_ckB (pe_GA []) pe_cl pe_ckA t_M_sameOnTape (td_t_M_sameOnTape 1).1 (td_t_M_sameOnTape 1).2 = true := by decide +kernel
set_option maxRecDepth 40000 in
theorem ok_t_M_sameOnTape_2 : pe_ckB (pe_GA []) pe_cl pe_ckA t_M_sameOnTape (td_t_M_sameOnTape 2).1 (td_t_M_sameOnTape 2).2 = true := by decide +kernel
set_option maxRecDepth 40000 in
theorem ok_t_M_sameOnTape_3 : pe_ckB (pe_GA []) pe_cl pe_ckA t_M_sameOnTape (td_t_M_sameOnTape 3).1 (td_t_M_sameOnTape 3).2 = true := by decide +kernel
set_option maxRecDepth 40000 in
theorem ok_t_M_sameOnTape_4 : pe_ckB (pe_GA []) pe_cl pe_ckA t_M_sameOnTape (td_t_M_sameOnTape 4).1 (td_t_M_sameOnTape 4).2 = true := by decide +kernel
set_option maxRecDepth 40000 in
theorem ok_t_M_sameOnTape_5 : pe_ckB (pe_GA []) pe_cl pe_ckA t_M_sameOnTape (td_t_M_sameOnTape 5).1 (td_t_M_sameOnTape 5).2 = true := by decide +kernel
set_option maxRecDepth 40000 in
theorem ok_t_M_sameOnTape_6 : pe_ckB (pe_GA []) pe_cl pe_ckA t_M_sameOnTape (td_t_M_sameOnTape 6).1 (td_t_M_sameOnTape 6).2 = true := by decide +kernel
theorem ok_t_M_sameOnTape_a : ∀ b ∈ t_M_sameOnTape.bl, pe_ckB (pe_GA []) pe_cl pe_ckA t_M_sameOnTape b.1 b.2 = true := by
  intro b hb
  obtain ⟨n, hn⟩ := List.getElem?_of_mem hb
  rw [← pe_at_eq] at hn
  match n, hn with
  | 0, hn =>
    have h2 : td_t_M_sameOnTape 0 = b := by unfold td_t_M_sameOnTape; rw [hn]; rfl
    rw [← h2]; exact ok_t_M_sameOnTape_0
  | 1, hn =>
    have h2 : td_t_M_sameOnTape 1 = b := by unfold td_t_M_sameOnTape; rw [hn]; rfl
    rw [← h2]; exact ok_t_M_sameOnTape_1
  | 2, hn =>
    have h2 : td_t_M_sameOnTape 2 = b := by unfold td_t_M_sameOnTape; rw [hn]; rfl
    rw [← h2]; exact ok_t_M_sameOnTape_2
  | 3, hn =>
    have h2 : td_t_M_sameOnTape 3 = b := by unfold td_t_M_sameOnTape; rw [hn]; rfl
    rw [← h2]; exact ok_t_M_sameOnTape_3
  | 4, hn =>
    have h2 : td_t_M_sameOnTape 4 = b := by unfold td_t_M_sameOnTape; rw [hn]; rfl
    rw [← h2]; exact ok_t_M_sameOnTape_4
  | 5, hn =>
    have h2 : td_t_M_sameOnTape 5 = b := by unfold td_t_M_sameOnTape; rw [hn]; rfl
    rw [← h2]; exact ok_t_M_sameOnTape_5
  | 6, hn =>
    have h2 : td_t_M_sameOnTape 6 = b := by unfold td_t_M_sameOnTape; rw [hn]; rfl
    rw [← h2]; exact ok_t_M_sameOnTape_6
  | n + 7, hn =>
    rw [pe_at_eq] at hn
    exact absurd (List.getElem?_eq_some_iff.mp hn).1 (by show ¬ n + 7 < 7; omega)
theorem ok_t_M_sameOnTape : pe_okM (pe_GA []) pe_cl pe_ckA t_M_sameOnTape = true := pe_okM_mk (pe_w_of (by rfl) (by rfl)) (by decide +kernel) ok_t_M_sameOnTape_a
def td_t_MO_haveSameTypes (k : Nat) : Nat × List pe_I := (pe_at t_MO_haveSameTypes.bl k).getD (0, [])
set_option maxRecDepth 40000 in
theorem ok_t_MO_haveSameTypes_0 : pe_ckB (pe_GA []) pe_cl pe_ckA t_MO_haveSameTypes (td_t_MO_haveSameTypes 0).1 (td_t_MO_haveSameTypes 0).2 = true := by decide +kernel
set_option maxRecDepth 40000 in
theorem ok_t_MO_haveSameTypes_1 : pe_ckB (pe_GA []) pe_cl pe_ckA t_MO_haveSameTypes (td_t_MO_haveSameTypes 1).1 (td_t_MO_haveSameTypes 1).2 = true := by decide +kernel
set_option maxRecDepth 40000 in
theorem ok_t_MO_haveSameTypes_2 : pe_ckB (pe_GA []) pe_cl pe_ckA t_MO_haveSameTypes (td_t_MO_haveSameTypes 2).1 (td_t_MO_haveSameTypes 2).2 = true := by decide +kernel
set_option maxRecDepth 40000 in
theorem ok_t_MO_haveSameTypes_3 : pe_ckB (pe_GA []) pe_cl pe_ckA t_MO_haveSameTypes (td_t_MO_haveSameTypes 3).1 (td_t_MO_haveSameTypes 3).2 = true := by decide +kernel
set_option maxRecDepth 40000 in
theorem ok_t_MO_haveSameTypes_4 : pe_ckB (pe_GA []) pe_cl pe_ckA t_MO_haveSameTypes (td_t_MO_haveSameTypes 4).1 (td_t_MO_haveSameTypes 4).2 = true := by decide +kernel
set_option maxRecDepth 40000 in
theorem ok_t_MO_haveSameTypes_5 : pe_ckB (pe_GA []) pe_cl pe_ckA t_MO_haveSameTypes (td_t_MO_haveSameTypes 5).1 (td_t_MO_haveSameTypes 5).2 = true := by decide +kernel
set_option maxRecDepth 40000 in
theorem ok_t_MO_haveSameTypes_6 : pe_ckB (pe_GA []) pe_cl pe_ckA t_MO_haveSameTypes (td_t_MO_haveSameTypes 6).1 (td_t_MO_haveSameTypes 6).2 = true := by decide +kernel
theorem ok_t_MO_haveSameTypes_a : ∀ b ∈ t_MO_haveSameTypes.bl, pe_ckB (pe_GA []) pe_cl pe_ckA t_MO_haveSameTypes b.1 b.2 = true := by
  intro b hb
  obtain ⟨n, hn⟩ := List.getElem?_of_mem hb
  rw [← pe_at_eq] at hn
  match n, hn with
  | 0, hn =>
    have h2 : td_t_MO_haveSameTypes 0 = b := by unfold td_t_MO_haveSameTypes; rw [hn]; rfl
    rw [← h2]; exact ok_t_MO_haveSameTypes_0
  | 1, hn =>
    have h2 : td_t_MO_haveSameTypes 1 = b := by unfold td_t_MO_haveSameTypes; rw [hn]; rfl
    rw [← h2]; exact ok_t_MO_haveSameTypes_1
  | 2, hn =>
    have h2 : td_t_MO_haveSameTypes 2 = b := by unfold td_t_MO_haveSameTypes; rw [hn]; rfl
    rw [← h2]; exact ok_t_MO_haveSameTypes_2
  | 3, hn =>
    have h2 : td_t_MO_haveSameTypes 3 = b := by unfold td_t_MO_haveSameTypes; rw [hn]; rfl
    rw [← h2]; exact ok_t_MO_haveSameTypes_3
  | 4, hn =>
    have h2 : td_t_MO_haveSameTypes 4 = b := by unfold td_t_MO_haveSameTypes; rw [hn]; rfl
    rw [← h2]; exact ok_t_MO_haveSameTypes_4
  | 5, hn =>
    have h2 : td_t_MO_haveSameTypes 5 = b := by unfold td_t_MO_haveSameTypes; rw [hn]; rfl
    rw [← h2]; exact ok_t_MO_haveSameTypes_5
  | 6, hn =>
    have h2 : td_t_MO_haveSameTypes 6 = b := by unfold td_t_MO_haveSameTypes; rw [hn]; rfl
    rw [← h2]; exact ok_t_MO_haveSameTypes_6
  | n + 7, hn =>
    rw [pe_at_eq] at hn
    exact absurd (List.getElem?_eq_some_iff.mp hn).1 (by show ¬ n + 7 < 7; omega)
theorem ok_t_MO_haveSameTypes : pe_okM (pe_GA []) pe_cl pe_ckA t_MO_haveSameTypes = true := pe_okM_mk (pe_w_of (by rfl) (by rfl)) (by decide +kernel) ok_t_MO_haveSameTypes_a
set_option maxRecDepth 40000 in
theorem ok_t_XP_beginsExpression : pe_okM (pe_GA []) pe_cl pe_ckA t_XP_beginsExpression = true := by decide +kernel
