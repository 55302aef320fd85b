/-! PART o6b: tables checked once. -/
set_option maxRecDepth 40000 in
theorem ok_t_LL_steps : pe_okM (pe_GA []) pe_cl pe_ckA t_LL_steps = true := by decide +kernel
def td_t_M_steps (k : Nat) : Nat × List pe_I := (pe_at t_M_steps.bl k).getD (0, [])
set_option maxRecDepth 40000 in
theorem ok_t_M_steps_0 : pe_ckB (pe_GA []) pe_cl pe_ckA t_M_steps (td_t_M_steps 0).1 (td_t_M_steps 0).2 = true := by decide +kernel
set_option maxRecDepth 40000 in
theorem ok_t_M_steps_1 : pe_ckB (pe_GA []) pe_cl pe_ckA t_M_steps (td_t_M_steps 1).1 (td_t_M_steps 1).2 = true := by decide +kernel
set_option maxRecDepth 40000 in
theorem ok_t_M_steps_2 : pe_ckB (pe_GA []) pe_cl pe_ckA t_M_steps (td_t_M_steps 2).1 (td_t_M_steps 2).2 = true := by decide +kernel
set_option maxRecDepth 40000 in
theorem ok_t_M_steps_3 : pe_ckB (pe_GA []) pe_cl pe_ckA t_M_steps (td_t_M_steps 3).1 (td_t_M_steps 3).2 = true := by decide +kernel
set_option maxRecDepth 40000 in
theorem ok_t_M_steps_4 : pe_ckB (pe_GA []) pe_cl pe_ckA t_M_steps (td_t_M_steps 4).1 (td_t_M_steps 4).2 = true := by decide +kernel
set_option maxRecDepth 40000 in
theorem ok_t_M_steps_5 : pe_ckB (pe_GA []) pe_cl pe_ckA t_M_steps (td_t_M_steps 5).1 (td_t_M_steps 5).2 = true := by decide +kernel
set_option maxRecDepth 40000 in
theorem ok_t_M_steps_6 : pe_ckB (pe_GA []) pe_cl pe_ckA t_M_steps (td_t_M_steps 6).1 (td_t_M_steps 6).2 = true := by decide +kernel
set_option maxRecDepth 40000 in
theorem ok_t_M_steps_7 : pe_ckB (pe_GA []) pe_cl pe_ckA t_M_steps (td_t_M_steps 7).1 (td_t_M_steps 7).2 = true := by decide +kernel
set_option maxRecDepth 40000 in
theorem ok_t_M_steps_8 : pe_ckB (pe_GA []) pe_cl pe_ckA t_M_steps (td_t_M_steps 8).1 (td_t_M_steps 8).2 = true := by decide +kernel
theorem ok_t_M_steps_a : ∀ b ∈ t_M_steps.bl, pe_ckB (pe_GA []) pe_cl pe_ckA t_M_steps b.1 b.2 = true := by
  intro b hb
  obtain ⟨n, hn⟩ := List.getElem?_of_mem hb
  rw [← pe_at_eq] at hn
  match n, hn with
  | 0, hn =>
    have h2 : td_t_M_steps 0 = b := by unfold td_t_M_steps; rw [hn]; rfl
    rw [← h2]; exact ok_t_M_steps_0
  | 1, hn =>
    have h2 : td_t_M_steps 1 = b := by unfold td_t_M_steps; rw [hn]; rfl
    rw [← h2]; exact ok_t_M_steps_1
  | 2, hn =>
    have h2 : td_t_M_steps 2 = b := by unfold td_t_M_steps; rw [hn]; rfl
    rw [← h2]; exact ok_t_M_steps_2
  | 3, hn =>
    have h2 : td_t_M_steps 3 = b := by unfold td_t_M_steps; rw [hn]; rfl
    rw [← h2]; exact ok_t_M_steps_3
  | 4, hn =>
    have h2 : td_t_M_steps 4 = b := by unfold td_t_M_steps; rw [hn]; rfl
    rw [← h2]; exact ok_t_M_steps_4
  | 5, hn =>
    have h2 : td_t_M_steps 5 = b := by unfold td_t_M_steps; rw [hn]; rfl
    rw [← h2]; exact ok_t_M_steps_5
  | 6, hn =>
    have h2 : td_t_M_steps 6 = b := by unfold td_t_M_steps; rw [hn]; rfl
    rw [← h2]; exact ok_t_M_steps_6
  | 7, hn =>
    have h2 : td_t_M_steps 7 = b := by unfold td_t_M_steps; rw [hn]; rfl
    rw [← h2]; exact ok_t_M_steps_7
  | 8, hn =>
    have h2 : td_t_M_steps 8 = b := by unfold td_t_M_steps; rw [hn]; rfl
    rw [← h2]; exact ok_t_M_steps_8
  | n + 9, hn =>
    rw [pe_at_eq] at hn
    exact absurd (List.getElem?_eq_some_iff.mp hn).1 (by show ¬ n + 9 < 9; omega)
theorem ok_t_M_steps : pe_okM (pe_GA []) pe_cl pe_ckA t_M_steps = true := pe_okM_mk (pe_w_of (by rfl) (by rfl)) (by decide +kernel) ok_t_M_steps_a
set_option maxRecDepth 40000 in
theorem ok_t_M_thrown : pe_okM (pe_GA []) pe_cl pe_ckA t_M_thrown = true := by decide +kernel
def td_t_X_task (k : Nat) : Nat × List pe_I := (pe_at t_X_task.bl k).getD (0, [])
set_option maxRecDepth 40000 in
theorem ok_t_X_task_0 : pe_ckB (pe_GA []) pe_cl pe_ckA t_X_task (td_t_X_task 0).1 (td_t_X_task 0).2 = true := by decide +kernel
set_option maxRecDepth 40000 in
theorem ok_t_X_task_1 : pe_ckB (pe_GA []) pe_cl pe_ckA t_X_task (td_t_X_task 1).1 (td_t_X_task 1).2 = true := by decide +kernel
set_option maxRecDepth 40000 in
theorem ok_t_X_task_2 : pe_ckB (pe_GA []) pe_cl pe_ckA t_X_task (td_t_X_task 2).1 (td_t_X_task 2).2 = true := by decide +kernel
set_option maxRecDepth 40000 in
theorem ok_t_X_task_3 : pe_ckB (pe_GA []) pe_cl pe_ckA t_X_task (td_t_X_task 3).1 (td_t_X_task 3).2 = true := by decide +kernel
set_option maxRecDepth 40000 in
theorem ok_t_X_task_4 : pe_ckB (pe_GA []) pe_cl pe_ckA t_X_task (td_t_X_task 4).1 (td_t_X_task 4).2 = true := by decide +kernel
set_option maxRecDepth 40000 in
theorem ok_t_X_task_5 : pe_ckB (pe_GA []) pe_cl pe_ckA t_X_task (td_t_X_task 5).1 (td_t_X_task 5).2 = true := by decide +kernel
set_option maxRecDepth 40000 in
theorem ok_t_X_task_6 : pe_ckB (pe_GA []) pe_cl pe_ckA t_X_task (td_t_X_task 6).1 (td_t_X_task 6).2 = true := by decide +kernel
set_option maxRecDepth 40000 in
theorem ok_t_X_task_7 : pe_ckB (pe_GA []) pe_cl pe_ckA t_X_task (td_t_X_task 7).1 (td_t_X_task 7).2 = true := by decide +kernel
set_option maxRecDepth 40000 in
theorem ok_t_X_task_8 : pe_ckB (pe_GA []) pe_cl pe_ckA t_X_task (td_t_X_task 8).1 (td_t_X_task 8).2 = true := by decide +kernel
set_option maxRecDepth 40000 in
theorem ok_t_X_task_9 : pe_ckB (pe_GA []) pe_cl pe_ckA t_X_task (td_t_X_task 9).1 (td_t_X_task 9).2 = true := by decide +kernel
set_option maxRecDepth 40000 in
theorem ok_t_X_task_10 : pe_ckB (pe_GA []) pe_cl pe_ckA t_X_task (td_t_X_task 10).1 (td_t_X_task 10).2 = true := by decide +kernel
set_option maxRecDepth 40000 in
theorem ok_t_X_task_11 : pe_ckB (pe_GA []) pe_cl pe_ckA t_X_task (td_t_X_task 11).1 (td_t_X_task 11).2 = true := by decide +kernel
set_option maxRecDepth 40000 in
theorem ok_t_X_task_12 : pe_ckB (pe_GA []) pe_cl pe_ckA t_X_task (td_t_X_task 12).1 (td_t_X_task 12).2 = true := by decide +kernel
theorem ok_t_X_task_a : ∀ b ∈ t_X_task.bl, pe_ckB (pe_GA []) pe_cl pe_ckA t_X_task b.1 b.2 = true := by
  intro b hb
  obtain ⟨n, hn⟩ := List.getElem?_of_mem hb
  rw [← pe_at_eq] at hn
  match n, hn with
  | 0, hn =>
    have h2 : td_t_X_task 0 = b := by unfold td_t_X_task; rw [hn]; rfl
    rw [← h2]; exact ok_t_X_task_0
  | 1, hn =>
    have h2 : td_t_X_task 1 = b := by unfold td_t_X_task; rw [hn]; rfl
    rw [← h2]; exact ok_t_X_task_1
  | 2, hn =>
    have h2 : td_t_X_task 2 = b := by unfold td_t_X_task; rw [hn]; rfl
    rw [← h2]; exact ok_t_X_task_2
  | 3, hn =>
    have h2 : td_t_X_task 3 = b := by unfold td_t_X_task; rw [hn]; rfl
    rw [← h2]; exact ok_t_X_task_3
  | 4, hn =>
    have h2 : td_t_X_task 4 = b := by unfold td_t_X_task; rw [hn]; rfl
    rw [← h2]; exact ok_t_X_task_4
  | 5, hn =>
    have h2 : td_t_X_task 5 = b := by unfold td_t_X_task; rw [hn]; rfl
    rw [← h2]; exact ok_t_X_task_5
  | 6, hn =>
    have h2 : td_t_X_task 6 = b := by unfold td_t_X_task; rw [hn]; rfl
    rw [← h2]; exact ok_t_X_task_6
  | 7, hn =>
    have h2 : td_t_X_task 7 = b := by unfold td_t_X_task; rw [hn]; rfl
    rw [← h2]; exact ok_t_X_task_7
  | 8, hn =>
    have h2 : td_t_X_task 8 = b := by unfold td_t_X_task; rw [hn]; rfl
    rw [← h2]; exact ok_t_X_task_8
  | 9, hn =>
    have h2 : td_t_X_task 9 = b := by unfold td_t_X_task; rw [hn]; rfl
    rw [← h2]; exact ok_t_X_task_9
  | 10, hn =>
    have h2 : td_t_X_task 10 = b := by unfold td_t_X_task; rw [hn]; rfl
    rw [← h2]; exact ok_t_X_task_10
  | 11, hn =>
    have h2 : td_t_X_task 11 = b := by unfold td_t_X_task; rw [hn]; rfl
    rw [← h2]; exact ok_t_X_task_11
  | 12, hn =>
    have h2 : td_t_X_task 12 = b := by unfold td_t_X_task; rw [hn]; rfl
    rw [← h2]; exact ok_t_X_task_12
  | n + 13, hn =>
    rw [pe_at_eq] at hn
    exact absurd (List.getElem?_eq_some_iff.mp hn).1 (by show ¬ n + 13 < 13; omega)
theorem ok_t_X_task : pe_okM (pe_GA []) pe_cl pe_ckA t_X_task = true := pe_okM_mk (pe_w_of (by rfl) (by rfl)) (by decide +kernel) ok_t_X_task_a
def td_t_M_task (k : Nat) : Nat × List pe_I := (pe_at t_M_task.bl k).getD (0, [])
set_option maxRecDepth 40000 in
theorem ok_t_M_task_0 : pe_ckB (pe_GA []) pe_cl pe_ckA t_M_task (td_t_M_task 0).1 (td_t_M_task 0).2 = true := by decide +kernel
set_option maxRecDepth 40000 in
theorem ok_t_M_task_1 : pe_ckB (pe_GA []) pe_cl pe_ckA t_M_task (td_t_M_task 1).1 (td_t_M_task 1).2 = true := by decide +kernel
set_option maxRecDepth 40000 in
theorem ok_t_M_task_2 : pe_ckB (pe_GA []) pe_cl pe_ckA t_M_task (td_t_M_task 2).1 (td_t_M_task 2).2 = true := by decide +kernel
set_option maxRecDepth 40000 in
theorem ok_t_M_task_3 : pe_ckB (pe_GA []) pe_cl pe_ckA t_M_task (td_t_M_task 3).1 (td_t_M_task 3).2 = true := by decide +kernel
set_option maxRecDepth 40000 in
theorem ok_t_M_task_4 : pe_ckB (pe_GA []) pe_cl pe_ckA t_M_task (td_t_M_task 4).1 (td_t_M_task 4).2 = true := by decide +kernel
set_option maxRecDepth 40000 in
theorem ok_t_M_task_5 : pe_ckB (pe_GA []) pe_cl pe_ckA t_M_task (td_t_M_task 5).1 (td_t_M_task 5).2 = true := by decide +kernel
set_option maxRecDepth 40000 in
theorem ok_t_M_task_6 : pe_ckB (pe_GA []) pe_cl pe_ckA t_M_task (td_t_M_task 6).1 (td_t_M_task 6).2 = true := by decide +kernel
set_option maxRecDepth 40000 in
theorem ok_t_M_task_7 : pe_ckB (pe_GA []) pe_cl pe_ckA t_M_task (td_t_M_task 7).1 (td_t_M_task 7).2 = true := by decide +kernel
set_option maxRecDepth 40000 in
theorem ok_t_M_task_8 : pe_ckB (pe_GA []) pe_cl pe_ckA t_M_task (td_t_M_task 8).1 (td_t_M_task 8).2 = true := by decide +kernel
set_option maxRecDepth 40000 in
theorem ok_t_M_task_9 : pe_ckB (pe_GA []) pe_cl pe_ckA t_M_task (td_t_M_task 9).1 (td_t_M_task 9).2 = true := by decide +kernel
set_option maxRecDepth 40000 in
theorem ok_t_M_task_10 : pe_ckB (pe_GA []) pe_cl pe_ckA t_M_task (td_t_M_task 10).1 (td_t_M_task 10).2 = true := by decide +kernel
set_option maxRecDepth 40000 in
theorem ok_t_M_task_11 : pe_ckB (pe_GA []) pe_cl pe_ckA t_M_task (td_t_M_task 11).1 (td_t_M_task 11).2 = true := by decide +kernel
theorem ok_t_M_task_a : ∀ b ∈ t_M_task.bl, pe_ckB (pe_GA []) pe_cl pe_ckA t_M_task b.1 b.2 = true := by
  intro b hb
  obtain ⟨n, hn⟩ := List.getElem?_of_mem hb
  rw [← pe_at_eq] at hn
  match n, hn with
  | 0, hn =>
    have h2 : td_t_M_task 0 = b := by unfold td_t_M_task; rw [hn]; rfl
    rw [← h2]; exact ok_t_M_task_0
  | 1, hn =>
    have h2 : td_t_M_task 1 = b := by unfold td_t_M_task; rw [hn]; rfl
    rw [← h2]; exact ok_t_M_task_1
  | 2, hn =>
    have h2 : td_t_M_task 2 = b := by unfold td_t_M_task; rw [hn]; rfl
    rw [← h2]; exact ok_t_M_task_2
  | 3, hn =>
    have h2 : td_t_M_task 3 = b := by unfold td_t_M_task; rw [hn]; rfl
    rw [← h2]; exact ok_t_M_task_3
  | 4, hn =>
    have h2 : td_t_M_task 4 = b := by unfold td_t_M_task; rw [hn]; rfl
    rw [← h2]; exact ok_t_M_task_4
  | 5, hn =>
    have h2 : td_t_M_task 5 = b := by unfold td_t_M_task; rw [hn]; rfl
    rw [← h2]; exact ok_t_M_task_5
  | 6, hn =>
    have h2 : td_t_M_task 6 = b := by unfold td_t_M_task; rw [hn]; rfl
    rw [← h2]; exact ok_t_M_task_6
  | 7, hn =>
    have h2 : td_t_M_task 7 = b := by unfold td_t_M_task; rw [hn]; rfl
    rw [← h2]; exact ok_t_M_task_7
  | 8, hn =>
    have h2 : td_t_M_task 8 = b := by unfold td_t_M_task; rw [hn]; rfl
    rw [← h2]; exact ok_t_M_task_8
  | 9, hn =>
    have h2 : td_t_M_task 9 = b := by unfold td_t_M_task; rw [hn]; rfl
    rw [← h2]; exact ok_t_M_task_9
  | 10, hn =>
    have h2 : td_t_M_task 10 = b := by unfold td_t_M_task; rw [hn]; rfl
    rw [← h2]; exact ok_t_M_task_10
  | 11, hn =>
    have h2 : td_t_M_task 11 = b := by unfold td_t_M_task; rw [hn]; rfl
    rw [← h2]; exact ok_t_M_task_11
  | n + 12, hn =>
    rw [pe_at_eq] at hn
    exact absurd (List.getElem?_eq_some_iff.mp hn).1 (by show ¬ n + 12 < 12; omega)
theorem ok_t_M_task : pe_okM (pe_GA []) pe_cl pe_ckA t_M_task = true := pe_okM_mk (pe_w_of (by rfl) (by rfl)) (by decide +kernel) ok_t_M_task_a
set_option maxRecDepth 40000 in
theorem ok_t_LL_result : pe_okM (pe_GA []) pe_cl pe_ckA t_LL_result = true := by decide +kernel
def td_t_M_result (k : Nat) : Nat × List pe_I := (pe_at t_M_result.bl k).getD (0, [])
set_option maxRecDepth 40000 in
theorem ok_t_M_result_0 : pe_ckB (pe_GA []) pe_cl pe_ckA t_M_result (td_t_M_result 0).1 (td_t_M_result 0).2 = true := by decide +kernel
set_option maxRecDepth 40000 in
theorem ok_t_M_result_1 : pe_ckB (pe_GA []) pe_cl pe_ckA t_M_result (td_t_M_result 1).1 (td_t_M_result 1).2 = true := by decide +kernel
set_option maxRecDepth 40000 in
theorem ok_t_M_result_2 : pe_ckB (pe_GA []) pe_cl pe_ckA t_M_result (td_t_M_result 2).1 (td_t_M_result 2).2 = true := by decide +kernel
set_option maxRecDepth 40000 in
theorem ok_t_M_result_3 : pe_ckB (pe_GA []) pe_cl pe_ckA t_M_result (td_t_M_result 3).1 (td_t_M_result 3).2 = true := by decide +kernel
set_option maxRecDepth 40000 in
theorem ok_t_M_result_4 : pe_ckB (pe_GA []) pe_cl pe_ckA t_M_result (td_t_M_result 4).1 (td_t_M_result 4).2 = true := by decide +kernel
set_option maxRecDepth 40000 in
theorem ok_t_M_result_5 : pe_ckB (pe_GA []) pe_cl pe_ckA t_M_result (td_t_M_result 5).1 (td_t_M_result 5).2 = true := by decide +kernel
set_option maxRecDepth 40000 in
theorem ok_t_M_result_6 : pe_ckB (pe_GA []) pe_cl pe_ckA t_M_result (td_t_M_result 6).1 (td_t_M_result 6).2 = true := by decide +kernel
set_option maxRecDepth 40000 in
theorem ok_t_M_result_7 : pe_ckB (pe_GA []) pe_cl pe_ckA t_M_result (td_t_M_result 7).1 (td_t_M_result 7).2 = true := by decide +kernel
theorem ok_t_M_result_a : ∀ b ∈ t_M_result.bl, pe_ckB (pe_GA []) pe_cl pe_ckA t_M_result b.1 b.2 = true := by
  intro b hb
  obtain ⟨n, hn⟩ := List.getElem?_of_mem hb
  rw [← pe_at_eq] at hn
  match n, hn with
  | 0, hn =>
    have h2 : td_t_M_result 0 = b := by unfold td_t_M_result; rw [hn]; rfl
    rw [← h2]; exact ok_t_M_result_0
  | 1, hn =>
    have h2 : td_t_M_result 1 = b := by unfold td_t_M_result; rw [hn]; rfl
    rw [← h2]; exact ok_t_M_result_1
  | 2, hn =>
    have h2 : td_t_M_result 2 = b := by unfold td_t_M_result; rw [hn]; rfl
    rw [← h2]; exact ok_t_M_result_2
  | 3, hn =>
    have h2 : td_t_M_result 3 = b := by unfold td_t_M_result; rw [hn]; rfl
    rw [← h2]; exact ok_t_M_result_3
  | 4, hn =>
    have h2 : td_t_M_result 4 = b := by unfold td_t_M_result; rw [hn]; rfl
    rw [← h2]; exact ok_t_M_result_4
  | 5, hn =>
    have h2 : td_t_M_result 5 = b := by unfold td_t_M_result; rw [hn]; rfl
    rw [← h2]; exact ok_t_M_result_5
  | 6, hn =>
    have h2 : td_t_M_result 6 = b := by unfold td_t_M_result; rw [hn]; rfl
    rw [← h2]; exact ok_t_M_result_6
  | 7, hn =>
    have h2 : td_t_M_result 7 = b := by unfold td_t_M_result; rw [hn]; rfl
    rw [← h2]; exact ok_t_M_result_7
  | n + 8, hn =>
    rw [pe_at_eq] at hn
    exact absurd (List.getElem?_eq_some_iff.mp hn).1 (by show ¬ n + 8 < 8; omega)
theorem ok_t_M_result : pe_okM (pe_GA []) pe_cl pe_ckA t_M_result = true := pe_okM_mk (pe_w_of (by rfl) (by rfl)) (by decide +kernel) ok_t_M_result_a
def td_t_X_sign (k : Nat) : Nat × List pe_I := (pe_at t_X_sign.bl k).getD (0, [])
set_option maxRecDepth 40000 in
theorem ok_t_X_sign_0 : pe_ckB (pe_GA []) pe_cl pe_ckA t_X_sign (td_t_X_sign 0).1 (td_t_X_sign 0).2 = true := by decide +kernel
set_option maxRecDepth 40000 in
theorem ok_t_X_sign_1 : pe_ckB (pe_GA []) pe_cl pe_ckA t_X_sign (td_t_X_sign 1).1 (td_t_X_sign 1).2 = true := by decide +kernel
set_option maxRecDepth 40000 in
theorem ok_t_X_sign_2 : pe_ckB (pe_GA []) pe_cl pe_ckA t_X_sign (td_t_X_sign 2).1 (td_t_X_sign 2).2 = true := by decide +kernel
set_option maxRecDepth 40000 in
theorem ok_t_X_sign_3 : pe_ckB (pe_GA []) pe_cl pe_ckA t_X_sign (td_t_X_sign 3).1 (td_t_X_sign 3).2 = true := by decide +kernel
set_option maxRecDepth 40000 in
theorem ok_t_X_sign_4 : pe_ckB (pe_GA []) pe_cl pe_ckA t_X_sign (td_t_X_sign 4).1 (td_t_X_sign 4).2 = true := by decide +kernel
set_option maxRecDepth 40000 in
theorem ok_t_X_sign_5 : pe_ckB (pe_GA []) pe_cl pe_ckA t_X_sign (td_t_X_sign 5).1 (td_t_X_sign 5).2 = true := by decide +kernel
set_option maxRecDepth 40000 in
theorem ok_t_X_sign_6 : pe_ckB (pe_GA []) pe_cl pe_ckA t_X_sign (td_t_X_sign 6).1 (td_t_X_sign 6).2 = true := by decide +kernel
set_option maxRecDepth 40000 in
theorem ok_t_X_sign_7 : pe_ckB (pe_GA []) pe_cl pe_ckA t_X_sign (td_t_X_sign 7).1 (td_t_X_sign 7).2 = true := by decide +kernel
theorem ok_t_X_sign_a : ∀ b ∈ t_X_sign.bl, pe_ckB (pe_GA []) pe_cl pe_ckA t_X_sign b.1 b.2 = true := by
  intro b hb
  obtain ⟨n, hn⟩ := List.getElem?_of_mem hb
  rw [← pe_at_eq] at hn
  match n, hn with
  | 0, hn =>
    have h2 : td_t_X_sign 0 = b := by unfold td_t_X_sign; rw [hn]; rfl
    rw [← h2]; exact ok_t_X_sign_0
  | 1, hn =>
    have h2 : td_t_X_sign 1 = b := by unfold td_t_X_sign; rw [hn]; rfl
    rw [← h2]; exact ok_t_X_sign_1
  | 2, hn =>
    have h2 : td_t_X_sign 2 = b := by unfold td_t_X_sign; rw [hn]; rfl
    rw [← h2]; exact ok_t_X_sign_2
  | 3, hn =>
    have h2 : td_t_X_sign 3 = b := by unfold td_t_X_sign; rw [hn]; rfl
    rw [← h2]; exact ok_t_X_sign_3
  | 4, hn =>
    have h2 : td_t_X_sign 4 = b := by unfold td_t_X_sign; rw [hn]; rfl
    rw [← h2]; exact ok_t_X_sign_4
  | 5, hn =>
    have h2 : td_t_X_sign 5 = b := by unfold td_t_X_sign; rw [hn]; rfl
    rw [← h2]; exact ok_t_X_sign_5
  | 6, hn =>
    have h2 : td_t_X_sign 6 = b := by unfold td_t_X_sign; rw [hn]; rfl
    rw [← h2]; exact ok_t_X_sign_6
  | 7, hn =>
    have h2 : td_t_X_sign 7 = b := by unfold td_t_X_sign; rw [hn]; rfl
    rw [← h2]; exact ok_t_X_sign_7
  | n + 8, hn =>
    rw [pe_at_eq] at hn
    exact absurd (List.getElem?_eq_some_iff.mp hn).1 (by show ¬ n + 8 < 8; omega)
theorem ok_t_X_sign : pe_okM (pe_GA []) pe_cl pe_ckA t_X_sign = true := pe_okM_mk (pe_w_of (by rfl) (by rfl)) (by decide +kernel) ok_t_X_sign_a
def td_t_M_sign (k : Nat) : Nat × List pe_I := (pe_at t_M_sign.bl k).getD (0, [])
set_option maxRecDepth 40000 in
theorem ok_t_M_sign_0 : pe_ckB (pe_GA []) pe_cl pe_ckA t_M_sign (td_t_M_sign 0).1 (td_t_M_sign 0).2 = true := by decide +kernel
set_option maxRecDepth 40000 in
theorem ok_t_M_sign_1 : pe_ckB (pe_GA []) pe_cl pe_ckA t_M_sign (td_t_M_sign 1).1 (td_t_M_sign 1).2 = true := by decide +kernel
set_option maxRecDepth 40000 in
theorem ok_t_M_sign_2 : pe_ckB (pe_GA []) pe_cl pe_ckA t_M_sign (td_t_M_sign 2).1 (td_t_M_sign 2).2 = true := by decide +kernel
set_option maxRecDepth 40000 in
theorem ok_t_M_sign_3 : pe_ckB (pe_GA []) pe_cl pe_ckA t_M_sign (td_t_M_sign 3).1 (td_t_M_sign 3).2 = true := by decide +kernel
set_option maxRecDepth 40000 in
theorem ok_t_M_sign_4 : pe_ckB (pe_GA []) pe_cl pe_ckA t_M_sign (td_t_M_sign 4).1 (td_t_M_sign 4).2 = true := by decide +kernel
set_option maxRecDepth 40000 in
theorem ok_t_M_sign_5 : pe_ckB (pe_GA []) pe_cl pe_ckA t_M_sign (td_t_M_sign 5).1 (td_t_M_sign 5).2 = true := by decide +kernel
set_option maxRecDepth 40000 in
theorem ok_t_M_sign_6 : pe_ckB (pe_GA []) pe_cl pe_ckA t_M_sign (td_t_M_sign 6).1 (td_t_M_sign 6).2 = true := by decide +kernel
set_option maxRecDepth 40000 in
theorem ok_t_M_sign_7 : pe_ckB (pe_GA []) pe_cl pe_ckA t_M_sign (td_t_M_sign 7).1 (td_t_M_sign 7).2 = true := by decide +kernel
set_option maxRecDepth 40000 in
theorem ok_t_M_sign_8 : pe_ckB (pe_GA []) pe_cl pe_ckA t_M_sign (td_t_M_sign 8).1 (td_t_M_sign 8).2 = true := by decide +kernel
set_option maxRecDepth 40000 in
theorem ok_t_M_sign_9 : pe_ckB (pe_GA []) pe_cl pe_ckA t_M_sign (td_t_M_sign 9).1 (td_t_M_sign 9).2 = true := by decide +kernel
theorem ok_t_M_sign_a : ∀ b ∈ t_M_sign.bl, pe_ckB (pe_GA []) pe_cl pe_ckA t_M_sign b.1 b.2 = true := by
  intro b hb
  obtain ⟨n, hn⟩ := List.getElem?_of_mem hb
  rw [← pe_at_eq] at hn
  match n, hn with
  | 0, hn =>
    have h2 : td_t_M_sign 0 = b := by unfold td_t_M_sign; rw [hn]; rfl
    rw [← h2]; exact ok_t_M_sign_0
  | 1, hn =>
    have h2 : td_t_M_sign 1 = b := by unfold td_t_M_sign; rw [hn]; rfl
    rw [← h2]; exact ok_t_M_sign_1
  | 2, hn =>
    have h2 : td_t_M_sign 2 = b := by unfold td_t_M_sign; rw [hn]; rfl
    rw [← h2]; exact ok_t_M_sign_2
  | 3, hn =>
    have h2 : td_t_M_sign 3 = b := by unfold td_t_M_sign; rw [hn]; rfl
    rw [← h2]; exact ok_t_M_sign_3
  | 4, hn =>
    have h2 : td_t_M_sign 4 = b := by unfold td_t_M_sign; rw [hn]; rfl
    rw [← h2]; exact ok_t_M_sign_4
  | 5, hn =>
    have h2 : td_t_M_sign 5 = b := by unfold td_t_M_sign; rw [hn]; rfl
    rw [← h2]; exact ok_t_M_sign_5
  | 6, hn =>
    have h2 : td_t_M_sign 6 = b := by unfold td_t_M_sign; rw [hn]; rfl
    rw [← h2]; exact ok_t_M_sign_6
  | 7, hn =>
    have h2 : td_t_M_sign 7 = b := by unfold td_t_M_sign; rw [hn]; rfl
    rw [← h2]; exact ok_t_M_sign_7
  | 8, hn =>
    have h2 : td_t_M_sign 8 = b := by unfold td_t_M_sign; rw [hn]; rfl
    rw [← h2]; exact ok_t_M_sign_8
  | 9, hn =>
    have h2 : td_t_M_sign 9 = b := by unfold td_t_M_sign; rw [hn]; rfl
    rw [← h2]; exact ok_t_M_sign_9
  | n + 10, hn =>
    rw [pe_at_eq] at hn
    exact absurd (List.getElem?_eq_some_iff.mp hn).1 (by show ¬ n + 10 < 10; omega)
theorem ok_t_M_sign : pe_okM (pe_GA []) pe_cl pe_ckA t_M_sign = true := pe_okM_mk (pe_w_of (by rfl) (by rfl)) (by decide +kernel) ok_t_M_sign_a
set_option maxRecDepth 40000 in
theorem ok_t_LL_global : pe_okM (pe_GA []) pe_cl pe_ckA t_LL_global = true := by decide +kernel
def td_t_M_global (k : Nat) : Nat × List pe_I := (pe_at t_M_global.bl k).getD (0, [])
set_option maxRecDepth 40000 in
theorem ok_t_M_global_0 : pe_ckB (pe_GA []) pe_cl pe_ckA t_M_global (td_t_M_global 0).1 (td_t_M_global 0).2 = true := by decide +kernel
set_option maxRecDepth 40000 in
theorem ok_t_M_global_1 : pe_ckB (pe_GA []) pe_cl pe_ckA t_M_global (td_t_M_global 1).1 (td_t_M_global 1).2 = true := by decide +kernel
set_option maxRecDepth 40000 in
theorem ok_t_M_global_2 : pe_ckB (pe_GA []) pe_cl pe_ckA t_M_global (td_t_M_global 2).1 (td_t_M_global 2).2 = true := by decide +kernel
set_option maxRecDepth 40000 in
theorem ok_t_M_global_3 : pe_ckB (pe_GA []) pe_cl pe_ckA t_M_global (td_t_M_global 3).1 (td_t_M_global 3).2 = true := by decide +kernel
set_option maxRecDepth 40000 in
theorem ok_t_M_global_4 : pe_ckB (pe_GA []) pe_cl pe_ckA t_M_global (td_t_M_global 4).1 (td_t_M_global 4).2 = true := by decide +kernel
set_option maxRecDepth 40000 in
theorem ok_t_M_global_5 : pe_ckB (pe_GA []) pe_cl pe_ckA t_M_global (td_t_M_global 5).1 (td_t_M_global 5).2 = true := by decide +kernel
set_option maxRecDepth 40000 in
theorem ok_t_M_global_6 : pe_ckB (pe_GA []) pe_cl pe_ckA t_M_global (td_t_M_global 6).1 (td_t_M_global 6).2 = true := by decide +kernel
set_option maxRecDepth 40000 in
theorem ok_t_M_global_7 : pe_ckB (pe_GA []) pe_cl pe_ckA t_M_global (td_t_M_global 7).1 (td_t_M_global 7).2 = true := by decide +kernel
set_option maxRecDepth 40000 in
theorem ok_t_M_global_8 : pe_ckB (pe_GA []) pe_cl pe_ckA t_M_global (td_t_M_global 8).1 (td_t_M_global 8).2 = true := by decide +kernel
theorem ok_t_M_global_a : ∀ b ∈ t_M_global.bl, pe_ckB (pe_GA []) pe_cl pe_ckA t_M_global b.1 b.2 = true := by
  intro b hb
  obtain ⟨n, hn⟩ := List.getElem?_of_mem hb
  rw [← pe_at_eq] at hn
  match n, hn with
  | 0, hn =>
    have h2 : td_t_M_global 0 = b := by unfold td_t_M_global; rw [hn]; rfl
    rw [← h2]; exact ok_t_M_global_0
  | 1, hn =>
    have h2 : td_t_M_global 1 = b := by unfold td_t_M_global; rw [hn]; rfl
    rw [← h2]; exact ok_t_M_global_1
  | 2, hn =>
    have h2 : td_t_M_global 2 = b := by unfold td_t_M_global; rw [hn]; rfl
    rw [← h2]; exact ok_t_M_global_2
  | 3, hn =>
    have h2 : td_t_M_global 3 = b := by unfold td_t_M_global; rw [hn]; rfl
    rw [← h2]; exact ok_t_M_global_3
  | 4, hn =>
    have h2 : td_t_M_global 4 = b := by unfold td_t_M_global; rw [hn]; rfl
    rw [← h2]; exact ok_t_M_global_4
  | 5, hn =>
    have h2 : td_t_M_global 5 = b := by unfold td_t_M_global; rw [hn]; rfl
    rw [← h2]; exact ok_t_M_global_5
  | 6, hn =>
    have h2 : td_t_M_global 6 = b := by unfold td_t_M_global; rw [hn]; rfl
    rw [← h2]; exact ok_t_M_global_6
  | 7, hn =>
    have h2 : td_t_M_global 7 = b := by unfold td_t_M_global; rw [hn]; rfl
    rw [← h2]; exact ok_t_M_global_7
  | 8, hn =>
    have h2 : td_t_M_global 8 = b := by unfold td_t_M_global; rw [hn]; rfl
    rw [← h2]; exact ok_t_M_global_8
  | n + 9, hn =>
    rw [pe_at_eq] at hn
    exact absurd (List.getElem?_eq_some_iff.mp hn).1 (by show ¬ n + 9 < 9; omega)
theorem ok_t_M_global : pe_okM (pe_GA []) pe_cl pe_ckA t_M_global = true := pe_okM_mk (pe_w_of (by rfl) (by rfl)) (by decide +kernel) ok_t_M_global_a
def td_t_X_thing (k : Nat) : Nat × List pe_I := (pe_at t_X_thing.bl k).getD (0, [])
set_option maxRecDepth 40000 in
theorem ok_t_X_thing_0 : pe_ckB (pe_GA []) pe_cl pe_ckA t_X_thing (td_t_X_thing 0).1 (td_t_X_thing 0).2 = true := by decide +kernel
set_option maxRecDepth 40000 in
theorem ok_t_X_thing_1 : pe_ckB (pe_GA []) pe_cl pe_ckA t_X_thing (td_t_X_thing 1).1 (td_t_X_thing 1).2 = true := by decide +kernel
set_option maxRecDepth 40000 in
theorem ok_t_X_thing_2 : pe_ckB (pe_GA []) pe_cl pe_ckA t_X_thing (td_t_X_thing 2).1 (td_t_X_thing 2).2 = true := by decide +kernel
set_option maxRecDepth 40000 in
theorem ok_t_X_thing_3 : pe_ckB (pe_GA []) pe_cl pe_ckA t_X_thing (td_t_X_thing 3).1 (td_t_X_thing 3).2 = true := by decide +kernel
set_option maxRecDepth 40000 in
theorem ok_t_X_thing_4 : pe_ckB (pe_GA []) pe_cl pe_ckA t_X_thing (td_t_X_thing 4).1 (td_t_X_thing 4).2 = true := by decide +kernel
set_option maxRecDepth 40000 in
theorem ok_t_X_thing_5 : pe_ckB (pe_GA []) pe_cl pe_ckA t_X_thing (td_t_X_thing 5).1 (td_t_X_thing 5).2 = true := by decide +kernel
set_option maxRecDepth 40000 in
theorem ok_t_X_thing_6 : pe_ckB (pe_GA []) pe_cl pe_ckA t_X_thing (td_t_X_thing 6).1 (td_t_X_thing 6).2 = true := by decide +kernel
set_option maxRecDepth 40000 in
theorem ok_t_X_thing_7 : pe_ckB (pe_GA []) pe_cl pe_ckA t_X_thing (td_t_X_thing 7).1 (td_t_X_thing 7).2 = true := by decide +kernel
set_option maxRecDepth 40000 in
theorem ok_t_X_thing_8 : pe_ckB (pe_GA []) pe_cl pe_ckA t_X_thing (td_t_X_thing 8).1 (td_t_X_thing 8).2 = true := by decide +kernel
set_option maxRecDepth 40000 in
theorem ok_t_X_thing_9 : pe_ckB (pe_GA []) pe_cl pe_ckA t_X_thing (td_t_X_thing 9).1 (td_t_X_thing 9).2 = true := by decide +kernel
set_option maxRecDepth 40000 in
theorem ok_t_X_thing_10 : pe_ckB (pe_GA []) pe_cl pe_ckA t_X_thing (td_t_X_thing 10).1 (td_t_X_thing 10).2 = true := by decide +kernel
set_option maxRecDepth 40000 in
theorem ok_t_X_thing_11 : pe_ckB (pe_GA []) pe_cl pe_ckA t_X_thing (td_t_X_thing 11).1 (td_t_X_thing 11).2 = true := by decide +kernel
set_option maxRecDepth 40000 in
theorem ok_t_X_thing_12 : pe_ckB (pe_GA []) pe_cl pe_ckA t_X_thing (td_t_X_thing 12).1 (td_t_X_thing 12).2 = true := by decide +kernel
set_option maxRecDepth 40000 in
theorem ok_t_X_thing_13 : pe_ckB (pe_GA []) pe_cl pe_ckA t_X_thing (td_t_X_thing 13).1 (td_t_X_thing 13).2 = true := by decide +kernel
set_option maxRecDepth 40000 in
theorem ok_t_X_thing_14 : pe_ckB (pe_GA []) pe_cl pe_ckA t_X_thing (td_t_X_thing 14).1 (td_t_X_thing 14).2 = true := by decide +kernel
set_option maxRecDepth 40000 in
theorem ok_t_X_thing_15 : pe_ckB (pe_GA []) pe_cl pe_ckA t_X_thing (td_t_X_thing 15).1 (td_t_X_thing 15).2 = true := by decide +kernel
set_option maxRecDepth 40000 in
theorem ok_t_X_thing_16 : pe_ckB (pe_GA []) pe_cl pe_ckA t_X_thing (td_t_X_thing 16).1 (td_t_X_thing 16).2 = true := by decide +kernel
set_option maxRecDepth 40000 in
theorem ok_t_X_thing_17 : pe_ckB (pe_GA []) pe_cl pe_ckA t_X_thing (td_t_X_thing 17).1 (td_t_X_thing 17).2 = true := by decide +kernel
theorem ok_t_X_thing_a : ∀ b ∈ t_X_thing.bl, pe_ckB (pe_GA []) pe_cl pe_ckA t_X_thing b.1 b.2 = true := by
  intro b hb
  obtain ⟨n, hn⟩ := List.getElem?_of_mem hb
  rw [← pe_at_eq] at hn
  match n, hn with
  | 0, hn =>
    have h2 : td_t_X_thing 0 = b := by unfold td_t_X_thing; rw [hn]; rfl
    rw [← h2]; exact ok_t_X_thing_0
  | 1, hn =>
    have h2 : td_t_X_thing 1 = b := by unfold td_t_X_thing; rw [hn]; rfl
    rw [← h2]; exact ok_t_X_thing_1
  | 2, hn =>
    have h2 : td_t_X_thing 2 = b := by unfold td_t_X_thing; rw [hn]; rfl
    rw [← h2]; exact ok_t_X_thing_2
  | 3, hn =>
    have h2 : td_t_X_thing 3 = b := by unfold td_t_X_thing; rw [hn]; rfl
    rw [← h2]; exact ok_t_X_thing_3
  | 4, hn =>
    have h2 : td_t_X_thing 4 = b := by unfold td_t_X_thing; rw [hn]; rfl
    rw [← h2]; exact ok_t_X_thing_4
  | 5, hn =>
    have h2 : td_t_X_thing 5 = b := by unfold td_t_X_thing; rw [hn]; rfl
    rw [← h2]; exact ok_t_X_thing_5
  | 6, hn =>
    have h2 : td_t_X_thing 6 = b := by unfold td_t_X_thing; rw [hn]; rfl
    rw [← h2]; exact ok_t_X_thing_6
  | 7, hn =>
    have h2 : td_t_X_thing 7 = b := by unfold td_t_X_thing; rw [hn]; rfl
    rw [← h2]; exact ok_t_X_thing_7
  | 8, hn =>
    have h2 : td_t_X_thing 8 = b := by unfold td_t_X_thing; rw [hn]; rfl
    rw [← h2]; exact ok_t_X_thing_8
  | 9, hn =>
    have h2 : td_t_X_thing 9 = b := by unfold td_t_X_thing; rw [hn]; rfl
    rw [← h2]; exact ok_t_X_thing_9
  | 10, hn =>
    have h2 : td_t_X_thing 10 = b := by unfold td_t_X_thing; rw [hn]; rfl
    rw [← h2]; exact ok_t_X_thing_10
  | 11, hn =>
    have h2 : td_t_X_thing 11 = b := by unfold td_t_X_thing; rw [hn]; rfl
    rw [← h2]; exact ok_t_X_thing_11
  | 12, hn =>
    have h2 : td_t_X_thing 12 = b := by unfold td_t_X_thing; rw [hn]; rfl
    rw [← h2]; exact ok_t_X_thing_12
  | 13, hn =>
    have h2 : td_t_X_thing 13 = b := by unfold td_t_X_thing; rw [hn]; rfl
    rw [← h2]; exact ok_t_X_thing_13
  | 14, hn =>
    have h2 : td_t_X_thing 14 = b := by unfold td_t_X_thing; rw [hn]; rfl
    rw [← h2]; exact ok_t_X_thing_14
  | 15, hn =>
    have h2 : td_t_X_thing 15 = b := by unfold td_t_X_thing; rw [hn]; rfl
    rw [← h2]; exact ok_t_X_thing_15
  | 16, hn =>
    have h2 : td_t_X_thing 16 = b := by unfold td_t_X_thing; rw [hn]; rfl
    rw [← h2]; exact ok_t_X_thing_16
  | 17, hn =>
    have h2 : td_t_X_thing 17 = b := by unfold td_t_X_thing; rw [hn]; rfl
    rw [← h2]; exact ok_t_X_thing_17
  | n + 18, hn =>
    rw [pe_at_eq] at hn
    exact absurd (List.getElem?_eq_some_iff.mp hn).1 (by show ¬ n + 18 < 18; omega)
theorem ok_t_X_thing : pe_okM (pe_GA []) pe_cl pe_ckA t_X_thing = true := pe_okM_mk (pe_w_of (by rfl) (by rfl)) (by decide +kernel) ok_t_X_thing_a
def td_t_M_thing (k : Nat) : Nat × List pe_I := (pe_at t_M_thing.bl k).getD (0, [])
set_option maxRecDepth 40000 in
theorem ok_t_M_thing_0 : pe_ckB (pe_GA []) pe_cl pe_ckA t_M_thing (td_t_M_thing 0).1 (td_t_M_thing 0).2 = true := by decide +kernel
set_option maxRecDepth 40000 in
theorem ok_t_M_thing_1 : pe_ckB (pe_GA []) pe_cl pe_ckA t_M_thing (td_t_M_thing 1).1 (td_t_M_thing 1).2 = true := by decide +kernel
set_option maxRecDepth 40000 in
theorem ok_t_M_thing_2 : pe_ckB (pe_GA []) pe_cl pe_ckA t_M_thing (td_t_M_thing 2).1 (td_t_M_thing 2).2 = true := by decide +kernel
set_option maxRecDepth 40000 in
theorem ok_t_M_thing_3 : pe_ckB (pe_GA []) pe_cl pe_ckA t_M_thing (td_t_M_thing 3).1 (td_t_M_thing 3).2 = true := by decide +kernel
set_option maxRecDepth 40000 in
theorem ok_t_M_thing_4 : pe_ckB (pe_GA []) pe_cl pe_ckA t_M_thing (td_t_M_thing 4).1 (td_t_M_thing 4).2 = true := by decide +kernel
set_option maxRecDepth 40000 in
theorem ok_t_M_thing_5 : pe_ckB (pe_GA []) pe_cl pe_ckA t_M_thing (td_t_M_thing 5).1 (td_t_M_thing 5).2 = true := by decide +kernel
set_option maxRecDepth 40000 in
theorem ok_t_M_thing_6 : pe_ckB (pe_GA []) pe_cl pe_ckA t_M_thing (td_t_M_thing 6).1 (td_t_M_thing 6).2 = true := by decide +kernel
set_option maxRecDepth 40000 in
theorem ok_t_M_thing_7 : pe_ckB (pe_GA []) pe_cl pe_ckA t_M_thing (td_t_M_thing 7).1 (td_t_M_thing 7).2 = true := by decide +kernel
set_option maxRecDepth 40000 in
theorem ok_t_M_thing_8 : pe_ckB (pe_GA []) pe_cl pe_ckA t_M_thing (td_t_M_thing 8).1 (td_t_M_thing 8).2 = true := by decide +kernel
set_option maxRecDepth 40000 in
theorem ok_t_M_thing_9 : pe_ckB (pe_GA []) pe_cl pe_ckA t_M_thing (td_t_M_thing 9).1 (td_t_M_thing 9).2 = true := by decide +kernel
set_option maxRecDepth 40000 in
theorem ok_t_M_thing_10 : pe_ckB (pe_GA []) pe_cl pe_ckA t_M_thing (td_t_M_thing 10).1 (td_t_M_thing 10).2 = true := by decide +kernel
set_option maxRecDepth 40000 in
theorem ok_t_M_thing_11 : pe_ckB (pe_GA []) pe_cl pe_ckA t_M_thing (td_t_M_thing 11).1 (td_t_M_thing 11).2 = true := by decide +kernel
set_option maxRecDepth 40000 in
theorem ok_t_M_thing_12 : pe_ckB (pe_GA []) pe_cl pe_ckA t_M_thing (td_t_M_thing 12).1 (td_t_M_thing 12).2 = true := by decide +kernel
set_option maxRecDepth 40000 in
theorem ok_t_M_thing_13 : pe_ckB (pe_GA []) pe_cl pe_ckA t_M_thing (td_t_M_thing 13).1 (td_t_M_thing 13).2 = true := by decide +kernel
set_option maxRecDepth 40000 in
theorem ok_t_M_thing_14 : pe_ckB (pe_GA []) pe_cl pe_ckA t_M_thing (td_t_M_thing 14).1 (td_t_M_thing 14).2 = true := by decide +kernel
set_option maxRecDepth 40000 in
theorem ok_t_M_thing_15 : pe_ckB (pe_GA []) pe_cl pe_ckA t_M_thing (td_t_M_thing 15).1 (td_t_M_thing 15).2 = true := by decide +kernel
set_option maxRecDepth 40000 in
theorem ok_t_M_thing_16 : pe_ckB (pe_GA []) pe_cl pe_ckA t_M_thing (td_t_M_thing 16).1 (td_t_M_thing 16).2 = true := by decide +kernel
theorem ok_t_M_thing_a : ∀ b ∈ t_M_thing.bl, pe_ckB (pe_GA []) pe_cl pe_ckA t_M_thing b.1 b.2 = true := by
  intro b hb
  obtain ⟨n, hn⟩ := List.getElem?_of_mem hb
  rw [← pe_at_eq] at hn
  match n, hn with
  | 0, hn =>
    have h2 : td_t_M_thing 0 = b := by unfold td_t_M_thing; rw [hn]; rfl
    rw [← h2]; exact ok_t_M_thing_0
  | 1, hn =>
    have h2 : td_t_M_thing 1 = b := by unfold td_t_M_thing; rw [hn]; rfl
    rw [← h2]; exact ok_t_M_thing_1
  | 2, hn =>
    have h2 : td_t_M_thing 2 = b := by unfold td_t_M_thing; rw [hn]; rfl
    rw [← h2]; exact ok_t_M_thing_2
  | 3, hn =>
    have h2 : td_t_M_thing 3 = b := by unfold td_t_M_thing; rw [hn]; rfl
    rw [← h2]; exact ok_t_M_thing_3
  | 4, hn =>
    have h2 : td_t_M_thing 4 = b := by unfold td_t_M_thing; rw [hn]; rfl
    rw [← h2]; exact ok_t_M_thing_4
  | 5, hn =>
    have h2 : td_t_M_thing 5 = b := by unfold td_t_M_thing; rw [hn]; rfl
    rw [← h2]; exact ok_t_M_thing_5
  | 6, hn =>
    have h2 : td_t_M_thing 6 = b := by unfold td_t_M_thing; rw [hn]; rfl
    rw [← h2]; exact ok_t_M_thing_6
  | 7, hn =>
    have h2 : td_t_M_thing 7 = b := by unfold td_t_M_thing; rw [hn]; rfl
    rw [← h2]; exact ok_t_M_thing_7
  | 8, hn =>
    have h2 : td_t_M_thing 8 = b := by unfold td_t_M_thing; rw [hn]; rfl
    rw [← h2]; exact ok_t_M_thing_8
  | 9, hn =>
    have h2 : td_t_M_thing 9 = b := by unfold td_t_M_thing; rw [hn]; rfl
    rw [← h2]; exact ok_t_M_thing_9
  | 10, hn =>
    have h2 : td_t_M_thing 10 = b := by unfold td_t_M_thing; rw [hn]; rfl
    rw [← h2]; exact ok_t_M_thing_10
  | 11, hn =>
    have h2 : td_t_M_thing 11 = b := by unfold td_t_M_thing; rw [hn]; rfl
    rw [← h2]; exact ok_t_M_thing_11
  | 12, hn =>
    have h2 : td_t_M_thing 12 = b := by unfold td_t_M_thing; rw [hn]; rfl
    rw [← h2]; exact ok_t_M_thing_12
  | 13, hn =>
    have h2 : td_t_M_thing 13 = b := by unfold td_t_M_thing; rw [hn]; rfl
    rw [← h2]; exact ok_t_M_thing_13
  | 14, hn =>
    have h2 : td_t_M_thing 14 = b := by unfold td_t_M_thing; rw [hn]; rfl
    rw [← h2]; exact ok_t_M_thing_14
  | 15, hn =>
    have h2 : td_t_M_thing 15 = b := by unfold td_t_M_thing; rw [hn]; rfl
    rw [← h2]; exact ok_t_M_thing_15
  | 16, hn =>
    have h2 : td_t_M_thing 16 = b := by unfold td_t_M_thing; rw [hn]; rfl
    rw [← h2]; exact ok_t_M_thing_16
  | n + 17, hn =>
    rw [pe_at_eq] at hn
    exact absurd (List.getElem?_eq_some_iff.mp hn).1 (by show ¬ n + 17 < 17; omega)
theorem ok_t_M_thing : pe_okM (pe_GA []) pe_cl pe_ckA t_M_thing = true := pe_okM_mk (pe_w_of (by rfl) (by rfl)) (by decide +kernel) ok_t_M_thing_a
set_option maxRecDepth 40000 in
theorem ok_t_LL_property : pe_okM (pe_GA []) pe_cl pe_ckA t_LL_property = true := by decide +kernel
def td_t_M_property (k : Nat) : Nat × List pe_I := (pe_at t_M_property.bl k).getD (0, [])
set_option maxRecDepth 40000 in
theorem ok_t_M_property_0 : pe_ckB (pe_GA []) pe_cl pe_ckA t_M_property (td_t_M_property 0).1 (td_t_M_property 0).2 = true := by decide +kernel
set_option maxRecDepth 40000 in
theorem ok_t_M_property_1 : pe_ckB (pe_GA []) pe_cl pe_ckA t_M_property (td_t_M_property 1).1 (td_t_M_property 1).2 = true := by decide +kernel
set_option maxRecDepth 40000 in
theorem ok_t_M_property_2 : pe_ckB (pe_GA []) pe_cl pe_ckA t_M_property (td_t_M_property 2).1 (td_t_M_property 2).2 = true := by decide +kernel
set_option maxRecDepth 40000 in
theorem ok_t_M_property_3 : pe_ckB (pe_GA []) pe_cl pe_ckA t_M_property (td_t_M_property 3).1 (td_t_M_property 3).2 = true := by decide +kernel
set_option maxRecDepth 40000 in
theorem ok_t_M_property_4 : pe_ckB (pe_GA []) pe_cl pe_ckA t_M_property (td_t_M_property 4).1 (td_t_M_property 4).2 = true := by decide +kernel
set_option maxRecDepth 40000 in
theorem ok_t_M_property_5 : pe_ckB (pe_GA []) pe_cl pe_ckA t_M_property (td_t_M_property 5).1 (td_t_M_property 5).2 = true := by decide +kernel
set_option maxRecDepth 40000 in
theorem ok_t_M_property_6 : pe_ckB (pe_GA []) pe_cl pe_ckA t_M_property (td_t_M_property 6).1 (td_t_M_property 6).2 = true := by decide +kernel
set_option maxRecDepth 40000 in
theorem ok_t_M_property_7 : pe_ckB (pe_GA []) pe_cl pe_ckA t_M_property (td_t_M_property 7).1 (td_t_M_property 7).2 = true := by decide +kernel
set_option maxRecDepth 40000 in
theorem ok_t_M_property_8 : pe_ckB (pe_GA []) pe_cl pe_ckA t_M_property (td_t_M_property 8).1 (td_t_M_property 8).2 = true := by decide +kernel
set_option maxRecDepth 40000 in
theorem ok_t_M_property_9 : pe_ckB (pe_GA []) pe_cl pe_ckA t_M_property (td_t_M_property 9).1 (td_t_M_property 9).2 = true := by decide +kernel
theorem ok_t_M_property_a : ∀ b ∈ t_M_property.bl, pe_ckB (pe_GA []) pe_cl pe_ckA t_M_property b.1 b.2 = true := by
  intro b hb
  obtain ⟨n, hn⟩ := List.getElem?_of_mem hb
  rw [← pe_at_eq] at hn
  match n, hn with
  | 0, hn =>
    have h2 : td_t_M_property 0 = b := by unfold td_t_M_property; rw [hn]; rfl
    rw [← h2]; exact ok_t_M_property_0
  | 1, hn =>
    have h2 : td_t_M_property 1 = b := by unfold td_t_M_property; rw [hn]; rfl
    rw [← h2]; exact ok_t_M_property_1
  | 2, hn =>
    have h2 : td_t_M_property 2 = b := by unfold td_t_M_property; rw [hn]; rfl
    rw [← h2]; exact ok_t_M_property_2
  | 3, hn =>
    have h2 : td_t_M_property 3 = b := by unfold td_t_M_property; rw [hn]; rfl
    rw [← h2]; exact ok_t_M_property_3
  | 4, hn =>
    have h2 : td_t_M_property 4 = b := by unfold td_t_M_property; rw [hn]; rfl
    rw [← h2]; exact ok_t_M_property_4
  | 5, hn =>
    have h2 : td_t_M_property 5 = b := by unfold td_t_M_property; rw [hn]; rfl
    rw [← h2]; exact ok_t_M_property_5
  | 6, hn =>
    have h2 : td_t_M_property 6 = b := by unfold td_t_M_property; rw [hn]; rfl
    rw [← h2]; exact ok_t_M_property_6
  | 7, hn =>
    have h2 : td_t_M_property 7 = b := by unfold td_t_M_property; rw [hn]; rfl
    rw [← h2]; exact ok_t_M_property_7
  | 8, hn =>
    have h2 : td_t_M_property 8 = b := by unfold td_t_M_property; rw [hn]; rfl
    rw [← h2]; exact ok_t_M_property_8
  | 9, hn =>
    have h2 : td_t_M_property 9 = b := by unfold td_t_M_property; rw [hn]; rfl
    rw [← h2]; exact ok_t_M_property_9
  | n + 10, hn =>
    rw [pe_at_eq] at hn
    exact absurd (List.getElem?_eq_some_iff.mp hn).1 (by show ¬ n + 10 < 10; omega)
theorem ok_t_M_property : pe_okM (pe_GA []) pe_cl pe_ckA t_M_property = true := pe_okM_mk (pe_w_of (by rfl) (by rfl)) (by decide +kernel) ok_t_M_property_a
def td_t_X_shape (k : Nat) : Nat × List pe_I := (pe_at t_X_shape.bl k).getD (0, [])
set_option maxRecDepth 40000 in
theorem ok_t_X_shape_0 : pe_ckB (pe_GA []) pe_cl pe_ckA t_X_shape (td_t_X_shape 0).1 (td_t_X_shape 0).2 = true := by decide +kernel
set_option maxRecDepth 40000 in
theorem ok_t_X_shape_1 : pe_ckB (pe_GA []) pe_cl pe_ckA t_X_shape (td_t_X_shape 1).1 (td_t_X_shape 1).2 = true := by decide +kernel
set_option maxRecDepth 40000 in
theorem ok_t_X_shape_2 : pe_ckB (pe_GA []) pe_cl pe_ckA t_X_shape (td_t_X_shape 2).1 (td_t_X_shape 2).2 = true := by decide +kernel
set_option maxRecDepth 40000 in
theorem ok_t_X_shape_3 : pe_ckB (pe_GA []) pe_cl pe_ckA t_X_shape (td_t_X_shape 3).1 (td_t_X_shape 3).2 = true := by decide +kernel
set_option maxRecDepth 40000 in
theorem ok_t_X_shape_4 : pe_ckB (pe_GA []) pe_cl pe_ckA t_X_shape (td_t_X_shape 4).1 (td_t_X_shape 4).2 = true := by decide +kernel
set_option maxRecDepth 40000 in
theorem ok_t_X_shape_5 : pe_ckB (pe_GA []) pe_cl pe_ckA t_X_shape (td_t_X_shape 5).1 (td_t_X_shape 5).2 = true := by decide +kernel
set_option maxRecDepth 40000 in
theorem ok_t_X_shape_6 : pe_ckB (pe_GA []) pe_cl pe_ckA t_X_shape (td_t_X_shape 6).1 (td_t_X_shape 6).2 = true := by decide +kernel
set_option maxRecDepth 40000 in
theorem ok_t_X_shape_7 : pe_ckB (pe_GA []) pe_cl pe_ckA t_X_shape (td_t_X_shape 7).1 (td_t_X_shape 7).2 = true := by decide +kernel
theorem ok_t_X_shape_a : ∀ b ∈ t_X_shape.bl, pe_ckB (pe_GA []) pe_cl pe_ckA t_X_shape b.1 b.2 = true := by
  intro b hb
  obtain ⟨n, hn⟩ := List.getElem?_of_mem hb
  rw [← pe_at_eq] at hn
  match n, hn with
  | 0, hn =>
    have h2 : td_t_X_shape 0 = b := by unfold td_t_X_shape; rw [hn]; rfl
    rw [← h2]; exact ok_t_X_shape_0
  | 1, hn =>
    have h2 : td_t_X_shape 1 = b := by unfold td_t_X_shape; rw [hn]; rfl
    rw [← h2]; exact ok_t_X_shape_1
  | 2, hn =>
    have h2 : td_t_X_shape 2 = b := by unfold td_t_X_shape; rw [hn]; rfl
    rw [← h2]; exact ok_t_X_shape_2
  | 3, hn =>
    have h2 : td_t_X_shape 3 = b := by unfold td_t_X_shape; rw [hn]; rfl
    rw [← h2]; exact ok_t_X_shape_3
  | 4, hn =>
    have h2 : td_t_X_shape 4 = b := by unfold td_t_X_shape; rw [hn]; rfl
    rw [← h2]; exact ok_t_X_shape_4
  | 5, hn =>
    have h2 : td_t_X_shape 5 = b := by unfold td_t_X_shape; rw [hn]; rfl
    rw [← h2]; exact ok_t_X_shape_5
  | 6, hn =>
    have h2 : td_t_X_shape 6 = b := by unfold td_t_X_shape; rw [hn]; rfl
    rw [← h2]; exact ok_t_X_shape_6
  | 7, hn =>
    have h2 : td_t_X_shape 7 = b := by unfold td_t_X_shape; rw [hn]; rfl
    rw [← h2]; exact ok_t_X_shape_7
  | n + 8, hn =>
    rw [pe_at_eq] at hn
    exact absurd (List.getElem?_eq_some_iff.mp hn).1 (by show ¬ n + 8 < 8; omega)
theorem ok_t_X_shape : pe_okM (pe_GA []) pe_cl pe_ckA t_X_shape = true := pe_okM_mk (pe_w_of (by rfl) (by rfl)) (by decide +kernel) ok_t_X_shape_a
def td_t_M_shape (k : Nat) : Nat × List pe_I := (pe_at t_M_shape.bl k).getD (0, [])
set_option maxRecDepth 40000 in
theorem ok_t_M_shape_0 : pe_ckB (pe_GA []) pe_cl pe_ckA t_M_shape (td_t_M_shape 0).1 (td_t_M_shape 0).2 = true := by decide +kernel
set_option maxRecDepth 40000 in
theorem ok_t_M_shape_1 : pe_ckB (pe_GA []) pe_cl pe_ckA t_M_shape (td_t_M_shape 1).1 (td_t_M_shape 1).2 = true := by decide +kernel
set_option maxRecDepth 40000 in
theorem ok_t_M_shape_2 : pe_ckB (pe_GA []) pe_cl pe_ckA t_M_shape (td_t_M_shape 2).1 (td_t_M_shape 2).2 = true := by decide +kernel
set_option maxRecDepth 40000 in
theorem ok_t_M_shape_3 : pe_ckB (pe_GA []) pe_cl pe_ckA t_M_shape (td_t_M_shape 3).1 (td_t_M_shape 3).2 = true := by decide +kernel
set_option maxRecDepth 40000 in
theorem ok_t_M_shape_4 : pe_ckB (pe_GA []) pe_cl pe_ckA t_M_shape (td_t_M_shape 4).1 (td_t_M_shape 4).2 = true := by decide +kernel
set_option maxRecDepth 40000 in
theorem ok_t_M_shape_5 : pe_ckB (pe_GA []) pe_cl pe_ckA t_M_shape (td_t_M_shape 5).1 (td_t_M_shape 5).2 = true := by decide +kernel
set_option maxRecDepth 40000 in
theorem ok_t_M_shape_6 : pe_ckB (pe_GA []) pe_cl pe_ckA t_M_shape (td_t_M_shape 6).1 (td_t_M_shape 6).2 = true := by decide +kernel
set_option maxRecDepth 40000 in
theorem ok_t_M_shape_7 : pe_ckB (pe_GA []) pe_cl pe_ckA t_M_shape (td_t_M_shape 7).1 (td_t_M_shape 7).2 = true := by decide +kernel
set_option maxRecDepth 40000 in
theorem ok_t_M_shape_8 : pe_ckB (pe_GA []) pe_cl pe_ckA t_M_shape (td_t_M_shape 8).1 (td_t_M_shape 8).2 = true := by decide +kernel
theorem ok_t_M_shape_a : ∀ b ∈ t_M_shape.bl, pe_ckB (pe_GA []) pe_cl pe_ckA t_M_shape b.1 b.2 = true := by
  intro b hb
  obtain ⟨n, hn⟩ := List.getElem?_of_mem hb
  rw [← pe_at_eq] at hn
  match n, hn with
  | 0, hn =>
    have h2 : td_t_M_shape 0 = b := by unfold td_t_M_shape; rw [hn]; rfl
    rw [← h2]; exact ok_t_M_shape_0
  | 1, hn =>
    have h2 : td_t_M_shape 1 = b := by unfold td_t_M_shape; rw [hn]; rfl
    rw [← h2]; exact ok_t_M_shape_1
  | 2, hn =>
    have h2 : td_t_M_shape 2 = b := by unfold td_t_M_shape; rw [hn]; rfl
    rw [← h2]; exact ok_t_M_shape_2
  | 3, hn =>
    have h2 : td_t_M_shape 3 = b := by unfold td_t_M_shape; rw [hn]; rfl
    rw [← h2]; exact ok_t_M_shape_3
  | 4, hn =>
    have h2 : td_t_M_shape 4 = b := by unfold td_t_M_shape; rw [hn]; rfl
    rw [← h2]; exact ok_t_M_shape_4
  | 5, hn =>
    have h2 : td_t_M_shape 5 = b := by unfold td_t_M_shape; rw [hn]; rfl
    rw [← h2]; exact ok_t_M_shape_5
  | 6, hn =>
    have h2 : td_t_M_shape 6 = b := by unfold td_t_M_shape; rw [hn]; rfl
    rw [← h2]; exact ok_t_M_shape_6
  | 7, hn =>
    have h2 : td_t_M_shape 7 = b := by unfold td_t_M_shape; rw [hn]; rfl
    rw [← h2]; exact ok_t_M_shape_7
  | 8, hn =>
    have h2 : td_t_M_shape 8 = b := by unfold td_t_M_shape; rw [hn]; rfl
    rw [← h2]; exact ok_t_M_shape_8
  | n + 9, hn =>
    rw [pe_at_eq] at hn
    exact absurd (List.getElem?_eq_some_iff.mp hn).1 (by show ¬ n + 9 < 9; omega)
theorem ok_t_M_shape : pe_okM (pe_GA []) pe_cl pe_ckA t_M_shape = true := pe_okM_mk (pe_w_of (by rfl) (by rfl)) (by decide +kernel) ok_t_M_shape_a
set_option maxRecDepth 40000 in
theorem ok_t_X_output : pe_okM (pe_GA []) pe_cl pe_ckA t_X_output = true := by decide +kernel
set_option maxRecDepth 40000 in
theorem ok_t_M_output : pe_okM (pe_GA []) pe_cl pe_ckA t_M_output = true := by decide +kernel
set_option maxRecDepth 40000 in
theorem ok_t_X_trace : pe_okM (pe_GA []) pe_cl pe_ckA t_X_trace = true := by decide +kernel
set_option maxRecDepth 40000 in
theorem ok_t_M_trace : pe_okM (pe_GA []) pe_cl pe_ckA t_M_trace = true := by decide +kernel
def td_t_X_count (k : Nat) : Nat × List pe_I := (pe_at t_X_count.bl k).getD (0, [])
set_option maxRecDepth 40000 in
theorem ok_t_X_count_0 : pe_ckB (pe_GA []) pe_cl pe_ckA t_X_count (td_t_X_count 0).1 (td_t_X_count 0).2 = true := by decide +kernel
set_option maxRecDepth 40000 in
theorem ok_t_X_count_1 : pe_ckB (pe_GA []) pe_cl pe_ckA t_X_count (td_t_X_count 1).1 (td_t_X_count 1).2 = true := by decide +kernel
set_option maxRecDepth 40000 in
theorem ok_t_X_count_2 : pe_ckB (pe_GA []) pe_cl pe_ckA t_X_count (td_t_X_count 2).1 (td_t_X_count 2).2 = true := by decide +kernel
set_option maxRecDepth 40000 in
theorem ok_t_X_count_3 : pe_ckB (pe_GA []) pe_cl pe_ckA t_X_count (td_t_X_count 3).1 (td_t_X_count 3).2 = true := by decide +kernel
set_option maxRecDepth 40000 in
theorem ok_t_X_count_4 : pe_ckB (pe_GA []) pe_cl pe_ckA t_X_count (td_t_X_count 4).1 (td_t_X_count 4).2 = true := by decide +kernel
set_option maxRecDepth 40000 in
theorem ok_t_X_count_5 : pe_ckB (pe_GA []) pe_cl pe_ckA t_X_count (td_t_X_count 5).1 (td_t_X_count 5).2 = true := by decide +kernel
set_option maxRecDepth 40000 in
theorem ok_t_X_count_6 : pe_ckB (pe_GA []) pe_cl pe_ckA t_X_count (td_t_X_count 6).1 (td_t_X_count 6).2 = true := by decide +kernel
set_option maxRecDepth 40000 in
theorem ok_t_X_count_7 : pe_ckB (pe_GA []) pe_cl pe_ckA t_X_count (td_t_X_count 7).1 (td_t_X_count 7).2 = true := by decide +kernel
set_option maxRecDepth 40000 in
theorem ok_t_X_count_8 : pe_ckB (pe_GA []) pe_cl pe_ckA t_X_count (td_t_X_count 8).1 (td_t_X_count 8).2 = true := by decide +kernel
set_option maxRecDepth 40000 in
theorem ok_t_X_count_9 : pe_ckB (pe_GA []) pe_cl pe_ckA t_X_count (td_t_X_count 9).1 (td_t_X_count 9).2 = true := by decide +kernel
set_option maxRecDepth 40000 in
theorem ok_t_X_count_10 : pe_ckB (pe_GA []) pe_cl pe_ckA t_X_count (td_t_X_count 10).1 (td_t_X_count 10).2 = true := by decide +kernel
set_option maxRecDepth 40000 in
theorem ok_t_X_count_11 : pe_ckB (pe_GA []) pe_cl pe_ckA t_X_count (td_t_X_count 11).1 (td_t_X_count 11).2 = true := by decide +kernel
theorem ok_t_X_count_a : ∀ b ∈ t_X_count.bl, pe_ckB (pe_GA []) pe_cl pe_ckA t_X_count b.1 b.2 = true := by
  intro b hb
  obtain ⟨n, hn⟩ := List.getElem?_of_mem hb
  rw [← pe_at_eq] at hn
  match n, hn with
  | 0, hn =>
    have h2 : td_t_X_count 0 = b := by unfold td_t_X_count; rw [hn]; rfl
    rw [← h2]; exact ok_t_X_count_0
  | 1, hn =>
    have h2 : td_t_X_count 1 = b := by unfold td_t_X_count; rw [hn]; rfl
    rw [← h2]; exact ok_t_X_count_1
  | 2, hn =>
    have h2 : td_t_X_count 2 = b := by unfold td_t_X_count; rw [hn]; rfl
    rw [← h2]; exact ok_t_X_count_2
  | 3, hn =>
    have h2 : td_t_X_count 3 = b := by unfold td_t_X_count; rw [hn]; rfl
    rw [← h2]; exact ok_t_X_count_3
  | 4, hn =>
    have h2 : td_t_X_count 4 = b := by unfold td_t_X_count; rw [hn]; rfl
    rw [← h2]; exact ok_t_X_count_4
  | 5, hn =>
    have h2 : td_t_X_count 5 = b := by unfold td_t_X_count; rw [hn]; rfl
    rw [← h2]; exact ok_t_X_count_5
  | 6, hn =>
    have h2 : td_t_X_count 6 = b := by unfold td_t_X_count; rw [hn]; rfl
    rw [← h2]; exact ok_t_X_count_6
  | 7, hn =>
    have h2 : td_t_X_count 7 = b := by unfold td_t_X_count; rw [hn]; rfl
    rw [← h2]; exact ok_t_X_count_7
  | 8, hn =>
    have h2 : td_t_X_count 8 = b := by unfold td_t_X_count; rw [hn]; rfl
    rw [← h2]; exact ok_t_X_count_8
  | 9, hn =>
    have h2 : td_t_X_count 9 = b := by unfold td_t_X_count; rw [hn]; rfl
    rw [← h2]; exact ok_t_X_count_9
  | 10, hn =>
    have h2 : td_t_X_count 10 = b := by unfold td_t_X_count; rw [hn]; rfl
    rw [← h2]; exact ok_t_X_count_10
  | 11, hn =>
    have h2 : td_t_X_count 11 = b := by unfold td_t_X_count; rw [hn]; rfl
    rw [← h2]; exact ok_t_X_count_11
  | n + 12, hn =>
    rw [pe_at_eq] at hn
    exact absurd (List.getElem?_eq_some_iff.mp hn).1 (by show ¬ n + 12 < 12; omega)
theorem ok_t_X_count : pe_okM (pe_GA []) pe_cl pe_ckA t_X_count = true := pe_okM_mk (pe_w_of (by rfl) (by rfl)) (by decide +kernel) ok_t_X_count_a
def td_t_M_count (k : Nat) : Nat × List pe_I := (pe_at t_M_count.bl k).getD (0, [])
set_option maxRecDepth 40000 in
theorem ok_t_M_count_0 : pe_ckB (pe_GA []) pe_cl pe_ckA t_M_count (td_t_M_count 0).1 (td_t_M_count 0).2 = true := by decide +kernel
set_option maxRecDepth 40000 in
theorem ok_t_M_count_1 : pe_ckB (pe_GA []) pe_cl pe_ckA t_M_count (td_t_M_count 1).1 (td_t_M_count 1).2 = true := by decide +kernel
set_option maxRecDepth 40000 in
theorem ok_t_M_count_2 : pe_ckB (pe_GA []) pe_cl pe_ckA t_M_count (td_t_M_count 2).1 (td_t_M_count 2).2 = true := by decide +kernel
set_option maxRecDepth 40000 in
theorem ok_t_M_count_3 : pe_ckB (pe_GA []) pe_cl pe_ckA t_M_count (td_t_M_count 3).1 (td_t_M_count 3).2 = true := by decide +kernel
set_option maxRecDepth 40000 in
theorem ok_t_M_count_4 : pe_ckB (pe_GA []) pe_cl pe_ckA t_M_count (td_t_M_count 4).1 (td_t_M_count 4).2 = true := by decide +kernel
set_option maxRecDepth 40000 in
theorem ok_t_M_count_5 : pe_ckB (pe_GA []) pe_cl pe_ckA t_M_count (td_t_M_count 5).1 (td_t_M_count 5).2 = true := by decide +kernel
theorem ok_t_M_count_a : ∀ b ∈ t_M_count.bl, pe_ckB (pe_GA []) pe_cl pe_ckA t_M_count b.1 b.2 = true := by
  intro b hb
  obtain ⟨n, hn⟩ := List.getElem?_of_mem hb
  rw [← pe_at_eq] at hn
  match n, hn with
  | 0, hn =>
    have h2 : td_t_M_count 0 = b := by unfold td_t_M_count; rw [hn]; rfl
    rw [← h2]; exact ok_t_M_count_0
  | 1, hn =>
    have h2 : td_t_M_count 1 = b := by unfold td_t_M_count; rw [hn]; rfl
    rw [← h2]; exact ok_t_M_count_1
  | 2, hn =>
    have h2 : td_t_M_count 2 = b := by unfold td_t_M_count; rw [hn]; rfl
    rw [← h2]; exact ok_t_M_count_2
  | 3, hn =>
    have h2 : td_t_M_count 3 = b := by unfold td_t_M_count; rw [hn]; rfl
    rw [← h2]; exact ok_t_M_count_3
  | 4, hn =>
    have h2 : td_t_M_count 4 = b := by unfold td_t_M_count; rw [hn]; rfl
    rw [← h2]; exact ok_t_M_count_4
  | 5, hn =>
    have h2 : td_t_M_count 5 = b := by unfold td_t_M_count; rw [hn]; rfl
    rw [← h2]; exact ok_t_M_count_5
  | n + 6, hn =>
    rw [pe_at_eq] at hn
    exact absurd (List.getElem?_eq_some_iff.mp hn).1 (by show ¬ n + 6 < 6; omega)
theorem ok_t_M_count : pe_okM (pe_GA []) pe_cl pe_ckA t_M_count = true := pe_okM_mk (pe_w_of (by rfl) (by rfl)) (by decide +kernel) ok_t_M_count_a
set_option maxRecDepth 40000 in
theorem ok_t_XW_init : pe_okM (pe_GA []) pe_cl pe_ckA t_XW_init = true := by decide +kernel
set_option maxRecDepth 40000 in
theorem ok_t_XR_init : pe_okM (pe_GA []) pe_cl pe_ckA t_XR_init = true := by decide +kernel
set_option maxRecDepth 40000 in
theorem ok_t_XC_init : pe_okM (pe_GA []) pe_cl pe_ckA t_XC_init = true := by decide +kernel
set_option maxRecDepth 40000 in
theorem ok_t_XT_init : pe_okM (pe_GA []) pe_cl pe_ckA t_XT_init = true := by decide +kernel
set_option maxRecDepth 40000 in
theorem ok_t_XP_init : pe_okM (pe_GA []) pe_cl pe_ckA t_XP_init = true := by decide +kernel
def td_t_XH_init (k : Nat) : Nat × List pe_I := (pe_at t_XH_init.bl k).getD (0, [])
set_option maxRecDepth 40000 in
theorem ok_t_XH_init_0 : pe_ckB (pe_GA []) pe_cl pe_ckA t_XH_init (td_t_XH_init 0).1 (td_t_XH_init 0).2 = true := by decide +kernel
theorem ok_t_XH_init_a : ∀ b ∈ t_XH_init.bl, pe_ckB (pe_GA []) pe_cl pe_ckA t_XH_init b.1 b.2 = true := by
  intro b hb
  obtain ⟨n, hn⟩ := List.getElem?_of_mem hb
  rw [← pe_at_eq] at hn
  match n, hn with
  | 0, hn =>
    have h2 : td_t_XH_init 0 = b := by unfold td_t_XH_init; rw [hn]; rfl
    rw [← h2]; exact ok_t_XH_init_0
  | n + 1, hn =>
    rw [pe_at_eq] at hn
    exact absurd (List.getElem?_eq_some_iff.mp hn).1 (by show ¬ n + 1 < 1; omega)
theorem ok_t_XH_init : pe_okM (pe_GA []) pe_cl pe_ckA t_XH_init = true := pe_okM_mk (pe_w_of (by rfl) (by rfl)) (by decide +kernel) ok_t_XH_init_a
set_option maxRecDepth 40000 in
theorem ok_t_XL_init : pe_okM (pe_GA []) pe_cl pe_ckA t_XL_init = true := by decide +kernel
def td_t_XO_init (k : Nat) : Nat × List pe_I := (pe_at t_XO_init.bl k).getD (0, [])
set_option maxRecDepth 40000 in
theorem ok_t_XO_init_0 : pe_ckB (pe_GA []) pe_cl pe_ckA t_XO_init (td_t_XO_init 0).1 (td_t_XO_init 0).2 = true := by decide +kernel
theorem ok_t_XO_init_a : ∀ b ∈ t_XO_init.bl, pe_ckB (pe_GA []) pe_cl pe_ckA t_XO_init b.1 b.2 = true := by
  intro b hb
  obtain ⟨n, hn⟩ := List.getElem?_of_mem hb
  rw [← pe_at_eq] at hn
  match n, hn with
  | 0, hn =>
    have h2 : td_t_XO_init 0 = b := by unfold td_t_XO_init; rw [hn]; rfl
    rw [← h2]; exact ok_t_XO_init_0
  | n + 1, hn =>
    rw [pe_at_eq] at hn
    exact absurd (List.getElem?_eq_some_iff.mp hn).1 (by show ¬ n + 1 < 1; omega)
theorem ok_t_XO_init : pe_okM (pe_GA []) pe_cl pe_ckA t_XO_init = true := pe_okM_mk (pe_w_of (by rfl) (by rfl)) (by decide +kernel) ok_t_XO_init_a
set_option maxRecDepth 40000 in
theorem ok_t_XK_init : pe_okM (pe_GA []) pe_cl pe_ckA t_XK_init = true := by decide +kernel
set_option maxRecDepth 40000 in
theorem ok_t_MO_init : pe_okM (pe_GA []) pe_cl pe_ckA t_MO_init = true := by decide +kernel
set_option maxRecDepth 40000 in
theorem ok_t_MI_init : pe_okM (pe_GA []) pe_cl pe_ckA t_MI_init = true := by decide +kernel
