/-! PART o6e: tables checked once. -/
set_option maxRecDepth 40000 in
theorem ok_t_M_ends : pe_okM (pe_GA []) pe_cl pe_ckA t_M_ends = true := by decide +kernel
set_option maxRecDepth 40000 in
theorem ok_t_MP_here : pe_okM (pe_GA []) pe_cl pe_ckA t_MP_here = true := by decide +kernel
def td_t_M_keepsPart (k : Nat) : Nat × List pe_I := (pe_at t_M_keepsPart.bl k).getD (0, [])
set_option maxRecDepth 40000 in
theorem ok_t_M_keepsPart_0 : pe_ckB (pe_GA []) pe_cl pe_ckA t_M_keepsPart (td_t_M_keepsPart 0).1 (td_t_M_keepsPart 0).2 = true := by decide +kernel
set_option maxRecDepth 40000 in
theorem ok_t_M_keepsPart_1 : pe_ckB (pe_GA []) pe_cl pe_ckA t_M_keepsPart (td_t_M_keepsPart 1).1 (td_t_M_keepsPart 1).2 = true := by decide +kernel
set_option maxRecDepth 40000 in
theorem ok_t_M_keepsPart_2 : pe_ckB (pe_GA []) pe_cl pe_ckA t_M_keepsPart (td_t_M_keepsPart 2).1 (td_t_M_keepsPart 2).2 = true := by decide +kernel
set_option maxRecDepth 40000 in
theorem ok_t_M_keepsPart_3 : pe_ckB (pe_GA []) pe_cl pe_ckA t_M_keepsPart (td_t_M_keepsPart 3).1 (td_t_M_keepsPart 3).2 = true := by decide +kernel
set_option maxRecDepth 40000 in
theorem ok_t_M_keepsPart_4 : pe_ckB (pe_GA []) pe_cl pe_ckA t_M_keepsPart (td_t_M_keepsPart 4).1 (td_t_M_keepsPart 4).2 = true := by decide +kernel
set_option maxRecDepth 40000 in
theorem ok_t_M_keepsPart_5 : pe_ckB (pe_GA []) pe_cl pe_ckA t_M_keepsPart (td_t_M_keepsPart 5).1 (td_t_M_keepsPart 5).2 = true := by decide +kernel
set_option maxRecDepth 40000 in
theorem ok_t_M_keepsPart_6 : pe_ckB (pe_GA []) pe_cl pe_ckA t_M_keepsPart (td_t_M_keepsPart 6).1 (td_t_M_keepsPart 6).2 = true := by decide +kernel
set_option maxRecDepth 40000 in
theorem ok_t_M_keepsPart_7 : pe_ckB (pe_GA []) pe_cl pe_ckA t_M_keepsPart (td_t_M_keepsPart 7).1 (td_t_M_keepsPart 7).2 = true := by decide +kernel
set_option maxRecDepth 40000 in
theorem ok_t_M_keepsPart_8 : pe_ckB (pe_GA []) pe_cl pe_ckA t_M_keepsPart (td_t_M_keepsPart 8).1 (td_t_M_keepsPart 8).2 = true := by decide +kernel
set_option maxRecDepth 40000 in
theorem ok_t_M_keepsPart_9 : pe_ckB (pe_GA []) pe_cl pe_ckA t_M_keepsPart (td_t_M_keepsPart 9).1 (td_t_M_keepsPart 9).2 = true := by decide +kernel
set_option maxRecDepth 40000 in
theorem ok_t_M_keepsPart_10 : pe_ckB (pe_GA []) pe_cl pe_ckA t_M_keepsPart (td_t_M_keepsPart 10).1 (td_t_M_keepsPart 10).2 = true := by decide +kernel
set_option maxRecDepth 40000 in
theorem ok_t_M_keepsPart_11 : pe_ckB (pe_GA []) pe_cl pe_ckA t_M_keepsPart (td_t_M_keepsPart 11).1 (td_t_M_keepsPart 11).2 = true := by decide +kernel
set_option maxRecDepth 40000 in
theorem ok_t_M_keepsPart_12 : pe_ckB (pe_GA []) pe_cl pe_ckA t_M_keepsPart (td_t_M_keepsPart 12).1 (td_t_M_keepsPart 12).2 = true := by decide +kernel
set_option maxRecDepth 40000 in
theorem ok_t_M_keepsPart_13 : pe_ckB (pe_GA []) pe_cl pe_ckA t_M_keepsPart (td_t_M_keepsPart 13).1 (td_t_M_keepsPart 13).2 = true := by decide +kernel
set_option maxRecDepth 40000 in
theorem ok_t_M_keepsPart_14 : pe_ckB (pe_GA []) pe_cl pe_ckA t_M_keepsPart (td_t_M_keepsPart 14).1 (td_t_M_keepsPart 14).2 = true := by decide +kernel
set_option maxRecDepth 40000 in
theorem ok_t_M_keepsPart_15 : pe_ckB (pe_GA []) pe_cl pe_ckA t_M_keepsPart (td_t_M_keepsPart 15).1 (td_t_M_keepsPart 15).2 = true := by decide +kernel
set_option maxRecDepth 40000 in
theorem ok_t_M_keepsPart_16 : pe_ckB (pe_GA []) pe_cl pe_ckA t_M_keepsPart (td_t_M_keepsPart 16).1 (td_t_M_keepsPart 16).2 = true := by decide +kernel
set_option maxRecDepth 40000 in
theorem ok_t_M_keepsPart_17 : pe_ckB (pe_GA []) pe_cl pe_ckA t_M_keepsPart (td_t_M_keepsPart 17).1 (td_t_M_keepsPart 17).2 = true := by decide +kernel
set_option maxRecDepth 40000 in
theorem ok_t_M_keepsPart_18 : pe_ckB (pe_GA []) pe_cl pe_ckA t_M_keepsPart (td_t_M_keepsPart 18).1 (td_t_M_keepsPart 18).2 = true := by decide +kernel
set_option maxRecDepth 40000 in
theorem ok_t_M_keepsPart_19 : pe_ckB (pe_GA []) pe_cl pe_ckA t_M_keepsPart (td_t_M_keepsPart 19).1 (td_t_M_keepsPart 19).2 = true := by decide +kernel
theorem ok_t_M_keepsPart_a : ∀ b ∈ t_M_keepsPart.bl, pe_ckB (pe_GA []) pe_cl pe_ckA t_M_keepsPart b.1 b.2 = true := by
  intro b hb
  obtain ⟨n, hn⟩ := List.getElem?_of_mem hb
  rw [← pe_at_eq] at hn
  match n, hn with
  | 0, hn =>
    have h2 : td_t_M_keepsPart 0 = b := by unfold td_t_M_keepsPart; rw [hn]; rfl
    rw [← h2]; exact ok_t_M_keepsPart_0
  | 1, hn =>
    have h2 : td_t_M_keepsPart 1 = b := by unfold td_t_M_keepsPart; rw [hn]; rfl
    rw [← h2]; exact ok_t_M_keepsPart_1
  | 2, hn =>
    have h2 : td_t_M_keepsPart 2 = b := by unfold td_t_M_keepsPart; rw [hn]; rfl
    rw [← h2]; exact ok_t_M_keepsPart_2
  | 3, hn =>
    have h2 : td_t_M_keepsPart 3 = b := by unfold td_t_M_keepsPart; rw [hn]; rfl
    rw [← h2]; exact ok_t_M_keepsPart_3
  | 4, hn =>
    have h2 : td_t_M_keepsPart 4 = b := by unfold td_t_M_keepsPart; rw [hn]; rfl
    rw [← h2]; exact ok_t_M_keepsPart_4
  | 5, hn =>
    have h2 : td_t_M_keepsPart 5 = b := by unfold td_t_M_keepsPart; rw [hn]; rfl
    rw [← h2]; exact ok_t_M_keepsPart_5
  | 6, hn =>
    have h2 : td_t_M_keepsPart 6 = b := by unfold td_t_M_keepsPart; rw [hn]; rfl
    rw [← h2]; exact ok_t_M_keepsPart_6
  | 7, hn =>
    have h2 : td_t_M_keepsPart 7 = b := by unfold td_t_M_keepsPart; rw [hn]; rfl
    rw [← h2]; exact ok_t_M_keepsPart_7
  | 8, hn =>
    have h2 : td_t_M_keepsPart 8 = b := by unfold td_t_M_keepsPart; rw [hn]; rfl
    rw [← h2]; exact ok_t_M_keepsPart_8
  | 9, hn =>
    have h2 : td_t_M_keepsPart 9 = b := by unfold td_t_M_keepsPart; rw [hn]; rfl
    rw [← h2]; exact ok_t_M_keepsPart_9
  | 10, hn =>
    have h2 : td_t_M_keepsPart 10 = b := by unfold td_t_M_keepsPart; rw [hn]; rfl
    rw [← h2]; exact ok_t_M_keepsPart_10
  | 11, hn =>
    have h2 : td_t_M_keepsPart 11 = b := by unfold td_t_M_keepsPart; rw [hn]; rfl
    rw [← h2]; exact ok_t_M_keepsPart_11
  | 12, hn =>
    have h2 : td_t_M_keepsPart 12 = b := by unfold td_t_M_keepsPart; rw [hn]; rfl
    rw [← h2]; exact ok_t_M_keepsPart_12
  | 13, hn =>
    have h2 : td_t_M_keepsPart 13 = b := by unfold td_t_M_keepsPart; rw [hn]; rfl
    rw [← h2]; exact ok_t_M_keepsPart_13
  | 14, hn =>
    have h2 : td_t_M_keepsPart 14 = b := by unfold td_t_M_keepsPart; rw [hn]; rfl
    rw [← h2]; exact ok_t_M_keepsPart_14
  | 15, hn =>
    have h2 : td_t_M_keepsPart 15 = b := by unfold td_t_M_keepsPart; rw [hn]; rfl
    rw [← h2]; exact ok_t_M_keepsPart_15
  | 16, hn =>
    have h2 : td_t_M_keepsPart 16 = b := by unfold td_t_M_keepsPart; rw [hn]; rfl
    rw [← h2]; exact ok_t_M_keepsPart_16
  | 17, hn =>
    have h2 : td_t_M_keepsPart 17 = b := by unfold td_t_M_keepsPart; rw [hn]; rfl
    rw [← h2]; exact ok_t_M_keepsPart_17
  | 18, hn =>
    have h2 : td_t_M_keepsPart 18 = b := by unfold td_t_M_keepsPart; rw [hn]; rfl
    rw [← h2]; exact ok_t_M_keepsPart_18
  | 19, hn =>
    have h2 : td_t_M_keepsPart 19 = b := by unfold td_t_M_keepsPart; rw [hn]; rfl
    rw [← h2]; exact ok_t_M_keepsPart_19
  | n + 20, hn =>
    rw [pe_at_eq] at hn
    exact absurd (List.getElem?_eq_some_iff.mp hn).1 (by show ¬ n + 20 < 20; omega)
theorem ok_t_M_keepsPart : pe_okM (pe_GA []) pe_cl pe_ckA t_M_keepsPart = true := pe_okM_mk (pe_w_of (by rfl) (by rfl)) (by decide +kernel) ok_t_M_keepsPart_a
set_option maxRecDepth 40000 in
theorem ok_t_XH_protoOf : pe_okM (pe_GA []) pe_cl pe_ckA t_XH_protoOf = true := by decide +kernel
set_option maxRecDepth 40000 in
theorem ok_t_XH_addCall : pe_okM (pe_GA []) pe_cl pe_ckA t_XH_addCall = true := by decide +kernel
set_option maxRecDepth 40000 in
theorem ok_t_XK_push : pe_okM (pe_GA []) pe_cl pe_ckA t_XK_push = true := by decide +kernel
set_option maxRecDepth 40000 in
theorem ok_t_M_hasRoomFor : pe_okM (pe_GA []) pe_cl pe_ckA t_M_hasRoomFor = true := by decide +kernel
set_option maxRecDepth 40000 in
theorem ok_t_M_setsVariable : pe_okM (pe_GA []) pe_cl pe_ckA t_M_setsVariable = true := by decide +kernel
def td_t_XK_step (k : Nat) : Nat × List pe_I := (pe_at t_XK_step.bl k).getD (0, [])
set_option maxRecDepth 40000 in
theorem ok_t_XK_step_0 : pe_ckB (pe_GA []) pe_cl pe_ckA t_XK_step (td_t_XK_step 0).1 (td_t_XK_step 0).2 = true := by decide +kernel
set_option maxRecDepth 40000 in
theorem ok_t_XK_step_1 : pe_ckB (pe_GA []) pe_cl pe_ckA t_XK_step (td_t_XK_step 1).1 (td_t_XK_step 1).2 = true := by decide +kernel
set_option maxRecDepth 40000 in
theorem ok_t_XK_step_2 : pe_ckB (pe_GA []) pe_cl pe_ckA t_XK_step (td_t_XK_step 2).1 (td_t_XK_step 2).2 = true := by decide +kernel
set_option maxRecDepth 40000 in
theorem ok_t_XK_step_3 : pe_ckB (pe_GA []) pe_cl pe_ckA t_XK_step (td_t_XK_step 3).1 (td_t_XK_step 3).2 = true := by decide +kernel
set_option maxRecDepth 40000 in
theorem ok_t_XK_step_4 : pe_ckB (pe_GA []) pe_cl pe_ckA t_XK_step (td_t_XK_step 4).1 (td_t_XK_step 4).2 = true := by decide +kernel
set_option maxRecDepth 40000 in
theorem ok_t_XK_step_5 : pe_ckB (pe_GA []) pe_cl pe_ckA t_XK_step (td_t_XK_step 5).1 (td_t_XK_step 5).2 = true := by decide +kernel
set_option maxRecDepth 40000 in
theorem ok_t_XK_step_6 : pe_ckB (pe_GA []) pe_cl pe_ckA t_XK_step (td_t_XK_step 6).1 (td_t_XK_step 6).2 = true := by decide +kernel
set_option maxRecDepth 40000 in
theorem ok_t_XK_step_7 : pe_ckB (pe_GA []) pe_cl pe_ckA t_XK_step (td_t_XK_step 7).1 (td_t_XK_step 7).2 = true := by decide +kernel
set_option maxRecDepth 40000 in
theorem ok_t_XK_step_8 : pe_ckB (pe_GA []) pe_cl pe_ckA t_XK_step (td_t_XK_step 8).1 (td_t_XK_step 8).2 = true := by decide +kernel
set_option maxRecDepth 40000 in
theorem ok_t_XK_step_9 : pe_ckB (pe_GA []) pe_cl pe_ckA t_XK_step (td_t_XK_step 9).1 (td_t_XK_step 9).2 = true := by decide +kernel
set_option maxRecDepth 40000 in
theorem ok_t_XK_step_10 : pe_ckB (pe_GA []) pe_cl pe_ckA t_XK_step (td_t_XK_step 10).1 (td_t_XK_step 10).2 = true := by decide +kernel
set_option maxRecDepth 40000 in
theorem ok_t_XK_step_11 : pe_ckB (pe_GA []) pe_cl pe_ckA t_XK_step (td_t_XK_step 11).1 (td_t_XK_step 11).2 = true := by decide +kernel
set_option maxRecDepth 40000 in
theorem ok_t_XK_step_12 : pe_ckB (pe_GA []) pe_cl pe_ckA t_XK_step (td_t_XK_step 12).1 (td_t_XK_step 12).2 = true := by decide +kernel
set_option maxRecDepth 40000 in
theorem ok_t_XK_step_13 : pe_ckB (pe_GA []) pe_cl pe_ckA t_XK_step (td_t_XK_step 13).1 (td_t_XK_step 13).2 = true := by decide +kernel
theorem ok_t_XK_step_a : ∀ b ∈ t_XK_step.bl, pe_ckB (pe_GA []) pe_cl pe_ckA t_XK_step b.1 b.2 = true := by
  intro b hb
  obtain ⟨n, hn⟩ := List.getElem?_of_mem hb
  rw [← pe_at_eq] at hn
  match n, hn with
  | 0, hn =>
    have h2 : td_t_XK_step 0 = b := by unfold td_t_XK_step; rw [hn]; rfl
    rw [← h2]; exact ok_t_XK_step_0
  | 1, hn =>
    have h2 : td_t_XK_step 1 = b := by unfold td_t_XK_step; rw [hn]; rfl
    rw [← h2]; exact ok_t_XK_step_1
  | 2, hn =>
    have h2 : td_t_XK_step 2 = b := by unfold td_t_XK_step; rw [hn]; rfl
    rw [← h2]; exact ok_t_XK_step_2
  | 3, hn =>
    have h2 : td_t_XK_step 3 = b := by unfold td_t_XK_step; rw [hn]; rfl
    rw [← h2]; exact ok_t_XK_step_3
  | 4, hn =>
    have h2 : td_t_XK_step 4 = b := by unfold td_t_XK_step; rw [hn]; rfl
    rw [← h2]; exact ok_t_XK_step_4
  | 5, hn =>
    have h2 : td_t_XK_step 5 = b := by unfold td_t_XK_step; rw [hn]; rfl
    rw [← h2]; exact ok_t_XK_step_5
  | 6, hn =>
    have h2 : td_t_XK_step 6 = b := by unfold td_t_XK_step; rw [hn]; rfl
    rw [← h2]; exact ok_t_XK_step_6
  | 7, hn =>
    have h2 : td_t_XK_step 7 = b := by unfold td_t_XK_step; rw [hn]; rfl
    rw [← h2]; exact ok_t_XK_step_7
  | 8, hn =>
    have h2 : td_t_XK_step 8 = b := by unfold td_t_XK_step; rw [hn]; rfl
    rw [← h2]; exact ok_t_XK_step_8
  | 9, hn =>
    have h2 : td_t_XK_step 9 = b := by unfold td_t_XK_step; rw [hn]; rfl
    rw [← h2]; exact ok_t_XK_step_9
  | 10, hn =>
    have h2 : td_t_XK_step 10 = b := by unfold td_t_XK_step; rw [hn]; rfl
    rw [← h2]; exact ok_t_XK_step_10
  | 11, hn =>
    have h2 : td_t_XK_step 11 = b := by unfold td_t_XK_step; rw [hn]; rfl
    rw [← h2]; exact ok_t_XK_step_11
  | 12, hn =>
    have h2 : td_t_XK_step 12 = b := by unfold td_t_XK_step; rw [hn]; rfl
    rw [← h2]; exact ok_t_XK_step_12
  | 13, hn =>
    have h2 : td_t_XK_step 13 = b := by unfold td_t_XK_step; rw [hn]; rfl
    rw [← h2]; exact ok_t_XK_step_13
  | n + 14, hn =>
    rw [pe_at_eq] at hn
    exact absurd (List.getElem?_eq_some_iff.mp hn).1 (by show ¬ n + 14 < 14; omega)
theorem ok_t_XK_step : pe_okM (pe_GA []) pe_cl pe_ckA t_XK_step = true := pe_okM_mk (pe_w_of (by rfl) (by rfl)) (by decide +kernel) ok_t_XK_step_a
def td_t_M_invokes (k : Nat) : Nat × List pe_I := (pe_at t_M_invokes.bl k).getD (0, [])
set_option maxRecDepth 40000 in
theorem ok_t_M_invokes_0 : pe_ckB (pe_GA []) pe_cl pe_ckA t_M_invokes (td_t_M_invokes 0).1 (td_t_M_invokes 0).2 = true := by decide +kernel
set_option maxRecDepth 40000 in
theorem ok_t_M_invokes_1 : pe_ckB (pe_GA []) pe_cl pe_ckA t_M_invokes (td_t_M_invokes 1).1 (td_t_M_invokes 1).2 = true := by decide +kernel
set_option maxRecDepth 40000 in
theorem ok_t_M_invokes_2 : pe_ckB (pe_GA []) pe_cl pe_ckA t_M_invokes (td_t_M_invokes 2).1 (td_t_M_invokes 2).2 = true := by decide +kernel
set_option maxRecDepth 40000 in
theorem ok_t_M_invokes_3 : pe_ckB (pe_GA []) pe_cl pe_ckA t_M_invokes (td_t_M_invokes 3).1 (td_t_M_invokes 3).2 = true := by decide +kernel
set_option maxRecDepth 40000 in
theorem ok_t_M_invokes_4 : pe_ckB (pe_GA []) pe_cl pe_ckA t_M_invokes (td_t_M_invokes 4).1 (td_t_M_invokes 4).2 = true := by decide +kernel
set_option maxRecDepth 40000 in
theorem ok_t_M_invokes_5 : pe_ckB (pe_GA []) pe_cl pe_ckA t_M_invokes (td_t_M_invokes 5).1 (td_t_M_invokes 5).2 = true := by decide +kernel
set_option maxRecDepth 40000 in
theorem ok_t_M_invokes_6 : pe_ckB (pe_GA []) pe_cl pe_ckA t_M_invokes (td_t_M_invokes 6).1 (td_t_M_invokes 6).2 = true := by decide +kernel
set_option maxRecDepth 40000 in
theorem ok_t_M_invokes_7 : pe_ckB (pe_GA []) pe_cl pe_ckA t_M_invokes (td_t_M_invokes 7).1 (td_t_M_invokes 7).2 = true := by decide +kernel
set_option maxRecDepth 40000 in
theorem ok_t_M_invokes_8 : pe_ckB (pe_GA []) pe_cl pe_ckA t_M_invokes (td_t_M_invokes 8).1 (td_t_M_invokes 8).2 = true := by decide +kernel
set_option maxRecDepth 40000 in
theorem ok_t_M_invokes_9 : pe_ckB (pe_GA []) pe_cl pe_ckA t_M_invokes (td_t_M_invokes 9).1 (td_t_M_invokes 9).2 = true := by decide +kernel
set_option maxRecDepth 40000 in
theorem ok_t_M_invokes_10 : pe_ckB (pe_GA []) pe_cl pe_ckA t_M_invokes (td_t_M_invokes 10).1 (td_t_M_invokes 10).2 = true := by decide +kernel
set_option maxRecDepth 40000 in
theorem ok_t_M_invokes_11 : pe_ckB (pe_GA []) pe_cl pe_ckA t_M_invokes (td_t_M_invokes 11).1 (td_t_M_invokes 11).2 = true := by decide +kernel
set_option maxRecDepth 40000 in
theorem ok_t_M_invokes_12 : pe_ckB (pe_GA []) pe_cl pe_ckA t_M_invokes (td_t_M_invokes 12).1 (td_t_M_invokes 12).2 = true := by decide +kernel
set_option maxRecDepth 40000 in
theorem ok_t_M_invokes_13 : pe_ckB (pe_GA []) pe_cl pe_ckA t_M_invokes (td_t_M_invokes 13).1 (td_t_M_invokes 13).2 = true := by decide +kernel
set_option maxRecDepth 40000 in
theorem ok_t_M_invokes_14 : pe_ckB (pe_GA []) pe_cl pe_ckA t_M_invokes (td_t_M_invokes 14).1 (td_t_M_invokes 14).2 = true := by decide +kernel
set_option maxRecDepth 40000 in
theorem ok_t_M_invokes_15 : pe_ckB (pe_GA []) pe_cl pe_ckA t_M_invokes (td_t_M_invokes 15).1 (td_t_M_invokes 15).2 = true := by decide +kernel
set_option maxRecDepth 40000 in
theorem ok_t_M_invokes_16 : pe_ckB (pe_GA []) pe_cl pe_ckA t_M_invokes (td_t_M_invokes 16).1 (td_t_M_invokes 16).2 = true := by decide +kernel
set_option maxRecDepth 40000 in
theorem ok_t_M_invokes_17 : pe_ckB (pe_GA []) pe_cl pe_ckA t_M_invokes (td_t_M_invokes 17).1 (td_t_M_invokes 17).2 = true := by decide +kernel
theorem ok_t_M_invokes_a : ∀ b ∈ t_M_invokes.bl, pe_ckB (pe_GA []) pe_cl pe_ckA t_M_invokes b.1 b.2 = true := by
  intro b hb
  obtain ⟨n, hn⟩ := List.getElem?_of_mem hb
  rw [← pe_at_eq] at hn
  match n, hn with
  | 0, hn =>
    have h2 : td_t_M_invokes 0 = b := by unfold td_t_M_invokes; rw [hn]; rfl
    rw [← h2]; exact ok_t_M_invokes_0
  | 1, hn =>
    have h2 : td_t_M_invokes 1 = b := by unfold td_t_M_invokes; rw [hn]; rfl
    rw [← h2]; exact ok_t_M_invokes_1
  | 2, hn =>
    have h2 : td_t_M_invokes 2 = b := by unfold td_t_M_invokes; rw [hn]; rfl
    rw [← h2]; exact ok_t_M_invokes_2
  | 3, hn =>
    have h2 : td_t_M_invokes 3 = b := by unfold td_t_M_invokes; rw [hn]; rfl
    rw [← h2]; exact ok_t_M_invokes_3
  | 4, hn =>
    have h2 : td_t_M_invokes 4 = b := by unfold td_t_M_invokes; rw [hn]; rfl
    rw [← h2]; exact ok_t_M_invokes_4
  | 5, hn =>
    have h2 : td_t_M_invokes 5 = b := by unfold td_t_M_invokes; rw [hn]; rfl
    rw [← h2]; exact ok_t_M_invokes_5
  | 6, hn =>
    have h2 : td_t_M_invokes 6 = b := by unfold td_t_M_invokes; rw [hn]; rfl
    rw [← h2]; exact ok_t_M_invokes_6
  | 7, hn =>
    have h2 : td_t_M_invokes 7 = b := by unfold td_t_M_invokes; rw [hn]; rfl
    rw [← h2]; exact ok_t_M_invokes_7
  | 8, hn =>
    have h2 : td_t_M_invokes 8 = b := by unfold td_t_M_invokes; rw [hn]; rfl
    rw [← h2]; exact ok_t_M_invokes_8
  | 9, hn =>
    have h2 : td_t_M_invokes 9 = b := by unfold td_t_M_invokes; rw [hn]; rfl
    rw [← h2]; exact ok_t_M_invokes_9
  | 10, hn =>
    have h2 : td_t_M_invokes 10 = b := by unfold td_t_M_invokes; rw [hn]; rfl
    rw [← h2]; exact ok_t_M_invokes_10
  | 11, hn =>
    have h2 : td_t_M_invokes 11 = b := by unfold td_t_M_invokes; rw [hn]; rfl
    rw [← h2]; exact ok_t_M_invokes_11
  | 12, hn =>
    have h2 : td_t_M_invokes 12 = b := by unfold td_t_M_invokes; rw [hn]; rfl
    rw [← h2]; exact ok_t_M_invokes_12
  | 13, hn =>
    have h2 : td_t_M_invokes 13 = b := by unfold td_t_M_invokes; rw [hn]; rfl
    rw [← h2]; exact ok_t_M_invokes_13
  | 14, hn =>
    have h2 : td_t_M_invokes 14 = b := by unfold td_t_M_invokes; rw [hn]; rfl
    rw [← h2]; exact ok_t_M_invokes_14
  | 15, hn =>
    have h2 : td_t_M_invokes 15 = b := by unfold td_t_M_invokes; rw [hn]; rfl
    rw [← h2]; exact ok_t_M_invokes_15
  | 16, hn =>
    have h2 : td_t_M_invokes 16 = b := by unfold td_t_M_invokes; rw [hn]; rfl
    rw [← h2]; exact ok_t_M_invokes_16
  | 17, hn =>
    have h2 : td_t_M_invokes 17 = b := by unfold td_t_M_invokes; rw [hn]; rfl
    rw [← h2]; exact ok_t_M_invokes_17
  | n + 18, hn =>
    rw [pe_at_eq] at hn
    exact absurd (List.getElem?_eq_some_iff.mp hn).1 (by show ¬ n + 18 < 18; omega)
theorem ok_t_M_invokes : pe_okM (pe_GA []) pe_cl pe_ckA t_M_invokes = true := pe_okM_mk (pe_w_of (by rfl) (by rfl)) (by decide +kernel) ok_t_M_invokes_a
def td_t_M_returns (k : Nat) : Nat × List pe_I := (pe_at t_M_returns.bl k).getD (0, [])
set_option maxRecDepth 40000 in
theorem ok_t_M_returns_0 : pe_ckB (pe_GA []) pe_cl pe_ckA t_M_returns (td_t_M_returns 0).1 (td_t_M_returns 0).2 = true := by decide +kernel
set_option maxRecDepth 40000 in
theorem ok_t_M_returns_1 : pe_ckB (pe_GA []) pe_cl pe_ckA t_M_returns (td_t_M_returns 1).1 (td_t_M_returns 1).2 = true := by decide +kernel
set_option maxRecDepth 40000 in
theorem ok_t_M_returns_2 : pe_ckB (pe_GA []) pe_cl pe_ckA t_M_returns (td_t_M_returns 2).1 (td_t_M_returns 2).2 = true := by decide +kernel
set_option maxRecDepth 40000 in
theorem ok_t_M_returns_3 : pe_ckB (pe_GA []) pe_cl pe_ckA t_M_returns (td_t_M_returns 3).1 (td_t_M_returns 3).2 = true := by decide +kernel
theorem ok_t_M_returns_a : ∀ b ∈ t_M_returns.bl, pe_ckB (pe_GA []) pe_cl pe_ckA t_M_returns b.1 b.2 = true := by
  intro b hb
  obtain ⟨n, hn⟩ := List.getElem?_of_mem hb
  rw [← pe_at_eq] at hn
  match n, hn with
  | 0, hn =>
    have h2 : td_t_M_returns 0 = b := by unfold td_t_M_returns; rw [hn]; rfl
    rw [← h2]; exact ok_t_M_returns_0
  | 1, hn =>
    have h2 : td_t_M_returns 1 = b := by unfold td_t_M_returns; rw [hn]; rfl
    rw [← h2]; exact ok_t_M_returns_1
  | 2, hn =>
    have h2 : td_t_M_returns 2 = b := by unfold td_t_M_returns; rw [hn]; rfl
    rw [← h2]; exact ok_t_M_returns_2
  | 3, hn =>
    have h2 : td_t_M_returns 3 = b := by unfold td_t_M_returns; rw [hn]; rfl
    rw [← h2]; exact ok_t_M_returns_3
  | n + 4, hn =>
    rw [pe_at_eq] at hn
    exact absurd (List.getElem?_eq_some_iff.mp hn).1 (by show ¬ n + 4 < 4; omega)
theorem ok_t_M_returns : pe_okM (pe_GA []) pe_cl pe_ckA t_M_returns = true := pe_okM_mk (pe_w_of (by rfl) (by rfl)) (by decide +kernel) ok_t_M_returns_a
set_option maxRecDepth 40000 in
theorem ok_t_M_pop : pe_okM (pe_GA []) pe_cl pe_ckA t_M_pop = true := by decide +kernel
def td_t_M_variables (k : Nat) : Nat × List pe_I := (pe_at t_M_variables.bl k).getD (0, [])
set_option maxRecDepth 40000 in
theorem ok_t_M_variables_0 : pe_ckB (pe_GA []) pe_cl pe_ckA t_M_variables (td_t_M_variables 0).1 (td_t_M_variables 0).2 = true := by decide +kernel
set_option maxRecDepth 40000 in
theorem ok_t_M_variables_1 : pe_ckB (pe_GA []) pe_cl pe_ckA t_M_variables (td_t_M_variables 1).1 (td_t_M_variables 1).2 = true := by decide +kernel
set_option maxRecDepth 40000 in
theorem ok_t_M_variables_2 : pe_ckB (pe_GA []) pe_cl pe_ckA t_M_variables (td_t_M_variables 2).1 (td_t_M_variables 2).2 = true := by decide +kernel
set_option maxRecDepth 40000 in
theorem ok_t_M_variables_3 : pe_ckB (pe_GA []) pe_cl pe_ckA t_M_variables (td_t_M_variables 3).1 (td_t_M_variables 3).2 = true := by decide +kernel
set_option maxRecDepth 40000 in
theorem ok_t_M_variables_4 : pe_ckB (pe_GA []) pe_cl pe_ckA t_M_variables (td_t_M_variables 4).1 (td_t_M_variables 4).2 = true := by decide +kernel
set_option maxRecDepth 40000 in
theorem ok_t_M_variables_5 : pe_ckB (pe_GA []) pe_cl pe_ckA t_M_variables (td_t_M_variables 5).1 (td_t_M_variables 5).2 = true := by decide +kernel
set_option maxRecDepth 40000 in
theorem ok_t_M_variables_6 : pe_ckB (pe_GA []) pe_cl pe_ckA t_M_variables (td_t_M_variables 6).1 (td_t_M_variables 6).2 = true := by decide +kernel
set_option maxRecDepth 40000 in
theorem ok_t_M_variables_7 : pe_ckB (pe_GA []) pe_cl pe_ckA t_M_variables (td_t_M_variables 7).1 (td_t_M_variables 7).2 = true := by decide +kernel
set_option maxRecDepth 40000 in
theorem ok_t_M_variables_8 : pe_ckB (pe_GA []) pe_cl pe_ckA t_M_variables (td_t_M_variables 8).1 (td_t_M_variables 8).2 = true := by decide +kernel
set_option maxRecDepth 40000 in
theorem ok_t_M_variables_9 : pe_ckB (pe_GA []) pe_cl pe_ckA t_M_variables (td_t_M_variables 9).1 (td_t_M_variables 9).2 = true := by decide +kernel
set_option maxRecDepth 40000 in
theorem ok_t_M_variables_10 : pe_ckB (pe_GA []) pe_cl pe_ckA t_M_variables (td_t_M_variables 10).1 (td_t_M_variables 10).2 = true := by decide +kernel
set_option maxRecDepth 40000 in
theorem ok_t_M_variables_11 : pe_ckB (pe_GA []) pe_cl pe_ckA t_M_variables (td_t_M_variables 11).1 (td_t_M_variables 11).2 = true := by decide +kernel
set_option maxRecDepth 40000 in
theorem ok_t_M_variables_12 : pe_ckB (pe_GA []) pe_cl pe_ckA t_M_variables (td_t_M_variables 12).1 (td_t_M_variables 12).2 = true := by decide +kernel
set_option maxRecDepth 40000 in
theorem ok_t_M_variables_13 : pe_ckB (pe_GA []) pe_cl pe_ckA t_M_variables (td_t_M_variables 13).1 (td_t_M_variables 13).2 = true := by decide +kernel
set_option maxRecDepth 40000 in
theorem ok_t_M_variables_14 : pe_ckB (pe_GA []) pe_cl pe_ckA t_M_variables (td_t_M_variables 14).1 (td_t_M_variables 14).2 = true := by decide +kernel
set_option maxRecDepth 40000 in
theorem ok_t_M_variables_15 : pe_ckB (pe_GA []) pe_cl pe_ckA t_M_variables (td_t_M_variables 15).1 (td_t_M_variables 15).2 = true := by decide +kernel
set_option maxRecDepth 40000 in
theorem ok_t_M_variables_16 : pe_ckB (pe_GA []) pe_cl pe_ckA t_M_variables (td_t_M_variables 16).1 (td_t_M_variables 16).2 = true := by decide +kernel
set_option maxRecDepth 40000 in
theorem ok_t_M_variables_17 : pe_ckB (pe_GA []) pe_cl pe_ckA t_M_variables (td_t_M_variables 17).1 (td_t_M_variables 17).2 = true := by decide +kernel
theorem ok_t_M_variables_a : ∀ b ∈ t_M_variables.bl, pe_ckB (pe_GA []) pe_cl pe_ckA t_M_variables b.1 b.2 = true := by
  intro b hb
  obtain ⟨n, hn⟩ := List.getElem?_of_mem hb
  rw [← pe_at_eq] at hn
  match n, hn with
  | 0, hn =>
    have h2 : td_t_M_variables 0 = b := by unfold td_t_M_variables; rw [hn]; rfl
    rw [← h2]; exact ok_t_M_variables_0
  | 1, hn =>
    have h2 : td_t_M_variables 1 = b := by unfold td_t_M_variables; rw [hn]; rfl
    rw [← h2]; exact ok_t_M_variables_1
  | 2, hn =>
    have h2 : td_t_M_variables 2 = b := by unfold td_t_M_variables; rw [hn]; rfl
    rw [← h2]; exact ok_t_M_variables_2
  | 3, hn =>
    have h2 : td_t_M_variables 3 = b := by unfold td_t_M_variables; rw [hn]; rfl
    rw [← h2]; exact ok_t_M_variables_3
  | 4, hn =>
    have h2 : td_t_M_variables 4 = b := by unfold td_t_M_variables; rw [hn]; rfl
    rw [← h2]; exact ok_t_M_variables_4
  | 5, hn =>
    have h2 : td_t_M_variables 5 = b := by unfold td_t_M_variables; rw [hn]; rfl
    rw [← h2]; exact ok_t_M_variables_5
  | 6, hn =>
    have h2 : td_t_M_variables 6 = b := by unfold td_t_M_variables; rw [hn]; rfl
    rw [← h2]; exact ok_t_M_variables_6
  | 7, hn =>
    have h2 : td_t_M_variables 7 = b := by unfold td_t_M_variables; rw [hn]; rfl
    rw [← h2]; exact ok_t_M_variables_7
  | 8, hn =>
    have h2 : td_t_M_variables 8 = b := by unfold td_t_M_variables; rw [hn]; rfl
    rw [← h2]; exact ok_t_M_variables_8
  | 9, hn =>
    have h2 : td_t_M_variables 9 = b := by unfold td_t_M_variables; rw [hn]; rfl
    rw [← h2]; exact ok_t_M_variables_9
  | 10, hn =>
    have h2 : td_t_M_variables 10 = b := by unfold td_t_M_variables; rw [hn]; rfl
    rw [← h2]; exact ok_t_M_variables_10
  | 11, hn =>
    have h2 : td_t_M_variables 11 = b := by unfold td_t_M_variables; rw [hn]; rfl
    rw [← h2]; exact ok_t_M_variables_11
  | 12, hn =>
    have h2 : td_t_M_variables 12 = b := by unfold td_t_M_variables; rw [hn]; rfl
    rw [← h2]; exact ok_t_M_variables_12
  | 13, hn =>
    have h2 : td_t_M_variables 13 = b := by unfold td_t_M_variables; rw [hn]; rfl
    rw [← h2]; exact ok_t_M_variables_13
  | 14, hn =>
    have h2 : td_t_M_variables 14 = b := by unfold td_t_M_variables; rw [hn]; rfl
    rw [← h2]; exact ok_t_M_variables_14
  | 15, hn =>
    have h2 : td_t_M_variables 15 = b := by unfold td_t_M_variables; rw [hn]; rfl
    rw [← h2]; exact ok_t_M_variables_15
  | 16, hn =>
    have h2 : td_t_M_variables 16 = b := by unfold td_t_M_variables; rw [hn]; rfl
    rw [← h2]; exact ok_t_M_variables_16
  | 17, hn =>
    have h2 : td_t_M_variables 17 = b := by unfold td_t_M_variables; rw [hn]; rfl
    rw [← h2]; exact ok_t_M_variables_17
  | n + 18, hn =>
    rw [pe_at_eq] at hn
    exact absurd (List.getElem?_eq_some_iff.mp hn).1 (by show ¬ n + 18 < 18; omega)
theorem ok_t_M_variables : pe_okM (pe_GA []) pe_cl pe_ckA t_M_variables = true := pe_okM_mk (pe_w_of (by rfl) (by rfl)) (by decide +kernel) ok_t_M_variables_a
def td_t_M_operators (k : Nat) : Nat × List pe_I := (pe_at t_M_operators.bl k).getD (0, [])
set_option maxRecDepth 40000 in
theorem ok_t_M_operators_0 : pe_ckB (pe_GA []) pe_cl pe_ckA t_M_operators (td_t_M_operators 0).1 (td_t_M_operators 0).2 = true := by decide +kernel
set_option maxRecDepth 40000 in
theorem ok_t_M_operators_1 : pe_ckB (pe_GA []) pe_cl pe_ckA t_M_operators (td_t_M_operators 1).1 (td_t_M_operators 1).2 = true := by decide +kernel
set_option maxRecDepth 40000 in
theorem ok_t_M_operators_2 : pe_ckB (pe_GA []) pe_cl pe_ckA t_M_operators (td_t_M_operators 2).1 (td_t_M_operators 2).2 = true := by decide +kernel
set_option maxRecDepth 40000 in
theorem ok_t_M_operators_3 : pe_ckB (pe_GA []) pe_cl pe_ckA t_M_operators (td_t_M_operators 3).1 (td_t_M_operators 3).2 = true := by decide +kernel
set_option maxRecDepth 40000 in
theorem ok_t_M_operators_4 : pe_ckB (pe_GA []) pe_cl pe_ckA t_M_operators (td_t_M_operators 4).1 (td_t_M_operators 4).2 = true := by decide +kernel
set_option maxRecDepth 40000 in
theorem ok_t_M_operators_5 : pe_ckB (pe_GA []) pe_cl pe_ckA t_M_operators (td_t_M_operators 5).1 (td_t_M_operators 5).2 = true := by decide +kernel
set_option maxRecDepth 40000 in
theorem ok_t_M_operators_6 : pe_ckB (pe_GA []) pe_cl pe_ckA t_M_operators (td_t_M_operators 6).1 (td_t_M_operators 6).2 = true := by decide +kernel
set_option maxRecDepth 40000 in
theorem ok_t_M_operators_7 : pe_ckB (pe_GA []) pe_cl pe_ckA t_M_operators (td_t_M_operators 7).1 (td_t_M_operators 7).2 = true := by decide +kernel
set_option maxRecDepth 40000 in
theorem ok_t_M_operators_8 : pe_ckB (pe_GA []) pe_cl pe_ckA t_M_operators (td_t_M_operators 8).1 (td_t_M_operators 8).2 = true := by decide +kernel
set_option maxRecDepth 40000 in
theorem ok_t_M_operators_9 : pe_ckB (pe_GA []) pe_cl pe_ckA t_M_operators (td_t_M_operators 9).1 (td_t_M_operators 9).2 = true := by decide +kernel
set_option maxRecDepth 40000 in
theorem ok_t_M_operators_10 : pe_ckB (pe_GA []) pe_cl pe_ckA t_M_operators (td_t_M_operators 10).1 (td_t_M_operators 10).2 = true := by decide +kernel
theorem ok_t_M_operators_a : ∀ b ∈ t_M_operators.bl, pe_ckB (pe_GA []) pe_cl pe_ckA t_M_operators b.1 b.2 = true := by
  intro b hb
  obtain ⟨n, hn⟩ := List.getElem?_of_mem hb
  rw [← pe_at_eq] at hn
  match n, hn with
  | 0, hn =>
    have h2 : td_t_M_operators 0 = b := by unfold td_t_M_operators; rw [hn]; rfl
    rw [← h2]; exact ok_t_M_operators_0
  | 1, hn =>
    have h2 : td_t_M_operators 1 = b := by unfold td_t_M_operators; rw [hn]; rfl
    rw [← h2]; exact ok_t_M_operators_1
  | 2, hn =>
    have h2 : td_t_M_operators 2 = b := by unfold td_t_M_operators; rw [hn]; rfl
    rw [← h2]; exact ok_t_M_operators_2
  | 3, hn =>
    have h2 : td_t_M_operators 3 = b := by unfold td_t_M_operators; rw [hn]; rfl
    rw [← h2]; exact ok_t_M_operators_3
  | 4, hn =>
    have h2 : td_t_M_operators 4 = b := by unfold td_t_M_operators; rw [hn]; rfl
    rw [← h2]; exact ok_t_M_operators_4
  | 5, hn =>
    have h2 : td_t_M_operators 5 = b := by unfold td_t_M_operators; rw [hn]; rfl
    rw [← h2]; exact ok_t_M_operators_5
  | 6, hn =>
    have h2 : td_t_M_operators 6 = b := by unfold td_t_M_operators; rw [hn]; rfl
    rw [← h2]; exact ok_t_M_operators_6
  | 7, hn =>
    have h2 : td_t_M_operators 7 = b := by unfold td_t_M_operators; rw [hn]; rfl
    rw [← h2]; exact ok_t_M_operators_7
  | 8, hn =>
    have h2 : td_t_M_operators 8 = b := by unfold td_t_M_operators; rw [hn]; rfl
    rw [← h2]; exact ok_t_M_operators_8
  | 9, hn =>
    have h2 : td_t_M_operators 9 = b := by unfold td_t_M_operators; rw [hn]; rfl
    rw [← h2]; exact ok_t_M_operators_9
  | 10, hn =>
    have h2 : td_t_M_operators 10 = b := by unfold td_t_M_operators; rw [hn]; rfl
    rw [← h2]; exact ok_t_M_operators_10
  | n + 11, hn =>
    rw [pe_at_eq] at hn
    exact absurd (List.getElem?_eq_some_iff.mp hn).1 (by show ¬ n + 11 < 11; omega)
theorem ok_t_M_operators : pe_okM (pe_GA []) pe_cl pe_ckA t_M_operators = true := pe_okM_mk (pe_w_of (by rfl) (by rfl)) (by decide +kernel) ok_t_M_operators_a
def td_t_M_others (k : Nat) : Nat × List pe_I := (pe_at t_M_others.bl k).getD (0, [])
set_option maxRecDepth 40000 in
theorem ok_t_M_others_0 : pe_ckB (pe_GA []) pe_cl pe_ckA t_M_others (td_t_M_others 0).1 (td_t_M_others 0).2 = true := by decide +kernel
set_option maxRecDepth 40000 in
theorem ok_t_M_others_1 : pe_ckB (pe_GA []) pe_cl pe_ckA t_M_others (td_t_M_others 1).1 (td_t_M_others 1).2 = true := by decide +kernel
set_option maxRecDepth 40000 in
theorem ok_t_M_others_2 : pe_ckB (pe_GA []) pe_cl pe_ckA t_M_others (td_t_M_others 2).1 (td_t_M_others 2).2 = true := by decide +kernel
set_option maxRecDepth 40000 in
theorem ok_t_M_others_3 : pe_ckB (pe_GA []) pe_cl pe_ckA t_M_others (td_t_M_others 3).1 (td_t_M_others 3).2 = true := by decide +kernel
set_option maxRecDepth 40000 in
theorem ok_t_M_others_4 : pe_ckB (pe_GA []) pe_cl pe_ckA t_M_others (td_t_M_others 4).1 (td_t_M_others 4).2 = true := by decide +kernel
set_option maxRecDepth 40000 in
theorem ok_t_M_others_5 : pe_ckB (pe_GA []) pe_cl pe_ckA t_M_others (td_t_M_others 5).1 (td_t_M_others 5).2 = true := by decide +kernel
set_option maxRecDepth 40000 in
theorem ok_t_M_others_6 : pe_ckB (pe_GA []) pe_cl pe_ckA t_M_others (td_t_M_others 6).1 (td_t_M_others 6).2 = true := by decide +kernel
set_option maxRecDepth 40000 in
theorem ok_t_M_others_7 : pe_ckB (pe_GA []) pe_cl pe_ckA t_M_others (td_t_M_others 7).1 (td_t_M_others 7).2 = true := by decide +kernel
set_option maxRecDepth 40000 in
theorem ok_t_M_others_8 : pe_ckB (pe_GA []) pe_cl pe_ckA t_M_others (td_t_M_others 8).1 (td_t_M_others 8).2 = true := by decide +kernel
set_option maxRecDepth 40000 in
theorem ok_t_M_others_9 : pe_ckB (pe_GA []) pe_cl pe_ckA t_M_others (td_t_M_others 9).1 (td_t_M_others 9).2 = true := by decide +kernel
set_option maxRecDepth 40000 in
theorem ok_t_M_others_10 : pe_ckB (pe_GA []) pe_cl pe_ckA t_M_others (td_t_M_others 10).1 (td_t_M_others 10).2 = true := by decide +kernel
set_option maxRecDepth 40000 in
theorem ok_t_M_others_11 : pe_ckB (pe_GA []) pe_cl pe_ckA t_M_others (td_t_M_others 11).1 (td_t_M_others 11).2 = true := by decide +kernel
set_option maxRecDepth 40000 in
theorem ok_t_M_others_12 : pe_ckB (pe_GA []) pe_cl pe_ckA t_M_others (td_t_M_others 12).1 (td_t_M_others 12).2 = true := by decide +kernel
set_option maxRecDepth 40000 in
theorem ok_t_M_others_13 : pe_ckB (pe_GA []) pe_cl pe_ckA t_M_others (td_t_M_others 13).1 (td_t_M_others 13).2 = true := by decide +kernel
set_option maxRecDepth 40000 in
theorem ok_t_M_others_14 : pe_ckB (pe_GA []) pe_cl pe_ckA t_M_others (td_t_M_others 14).1 (td_t_M_others 14).2 = true := by decide +kernel
set_option maxRecDepth 40000 in
theorem ok_t_M_others_15 : pe_ckB (pe_GA []) pe_cl pe_ckA t_M_others (td_t_M_others 15).1 (td_t_M_others 15).2 = true := by decide +kernel
set_option maxRecDepth 40000 in
theorem ok_t_M_others_16 : pe_ckB (pe_GA []) pe_cl pe_ckA t_M_others (td_t_M_others 16).1 (td_t_M_others 16).2 = true := by decide +kernel
set_option maxRecDepth 40000 in
theorem ok_t_M_others_17 : pe_ckB (pe_GA []) pe_cl pe_ckA t_M_others (td_t_M_others 17).1 (td_t_M_others 17).2 = true := by decide +kernel
theorem ok_t_M_others_a : ∀ b ∈ t_M_others.bl, pe_ckB (pe_GA []) pe_cl pe_ckA t_M_others b.1 b.2 = true := by
  intro b hb
  obtain ⟨n, hn⟩ := List.getElem?_of_mem hb
  rw [← pe_at_eq] at hn
  match n, hn with
  | 0, hn =>
    have h2 : td_t_M_others 0 = b := by unfold td_t_M_others; rw [hn]; rfl
    rw [← h2]; exact ok_t_M_others_0
  | 1, hn =>
    have h2 : td_t_M_others 1 = b := by unfold td_t_M_others; rw [hn]; rfl
    rw [← h2]; exact ok_t_M_others_1
  | 2, hn =>
    have h2 : td_t_M_others 2 = b := by unfold td_t_M_others; rw [hn]; rfl
    rw [← h2]; exact ok_t_M_others_2
  | 3, hn =>
    have h2 : td_t_M_others 3 = b := by unfold td_t_M_others; rw [hn]; rfl
    rw [← h2]; exact ok_t_M_others_3
  | 4, hn =>
    have h2 : td_t_M_others 4 = b := by unfold td_t_M_others; rw [hn]; rfl
    rw [← h2]; exact ok_t_M_others_4
  | 5, hn =>
    have h2 : td_t_M_others 5 = b := by unfold td_t_M_others; rw [hn]; rfl
    rw [← h2]; exact ok_t_M_others_5
  | 6, hn =>
    have h2 : td_t_M_others 6 = b := by unfold td_t_M_others; rw [hn]; rfl
    rw [← h2]; exact ok_t_M_others_6
  | 7, hn =>
    have h2 : td_t_M_others 7 = b := by unfold td_t_M_others; rw [hn]; rfl
    rw [← h2]; exact ok_t_M_others_7
  | 8, hn =>
    have h2 : td_t_M_others 8 = b := by unfold td_t_M_others; rw [hn]; rfl
    rw [← h2]; exact ok_t_M_others_8
  | 9, hn =>
    have h2 : td_t_M_others 9 = b := by unfold td_t_M_others; rw [hn]; rfl
    rw [← h2]; exact ok_t_M_others_9
  | 10, hn =>
    have h2 : td_t_M_others 10 = b := by unfold td_t_M_others; rw [hn]; rfl
    rw [← h2]; exact ok_t_M_others_10
  | 11, hn =>
    have h2 : td_t_M_others 11 = b := by unfold td_t_M_others; rw [hn]; rfl
    rw [← h2]; exact ok_t_M_others_11
  | 12, hn =>
    have h2 : td_t_M_others 12 = b := by unfold td_t_M_others; rw [hn]; rfl
    rw [← h2]; exact ok_t_M_others_12
  | 13, hn =>
    have h2 : td_t_M_others 13 = b := by unfold td_t_M_others; rw [hn]; rfl
    rw [← h2]; exact ok_t_M_others_13
  | 14, hn =>
    have h2 : td_t_M_others 14 = b := by unfold td_t_M_others; rw [hn]; rfl
    rw [← h2]; exact ok_t_M_others_14
  | 15, hn =>
    have h2 : td_t_M_others 15 = b := by unfold td_t_M_others; rw [hn]; rfl
    rw [← h2]; exact ok_t_M_others_15
  | 16, hn =>
    have h2 : td_t_M_others 16 = b := by unfold td_t_M_others; rw [hn]; rfl
    rw [← h2]; exact ok_t_M_others_16
  | 17, hn =>
    have h2 : td_t_M_others 17 = b := by unfold td_t_M_others; rw [hn]; rfl
    rw [← h2]; exact ok_t_M_others_17
  | n + 18, hn =>
    rw [pe_at_eq] at hn
    exact absurd (List.getElem?_eq_some_iff.mp hn).1 (by show ¬ n + 18 < 18; omega)
theorem ok_t_M_others : pe_okM (pe_GA []) pe_cl pe_ckA t_M_others = true := pe_okM_mk (pe_w_of (by rfl) (by rfl)) (by decide +kernel) ok_t_M_others_a
set_option maxRecDepth 40000 in
theorem ok_t_M_finishes : pe_okM (pe_GA []) pe_cl pe_ckA t_M_finishes = true := by decide +kernel
set_option maxRecDepth 40000 in
theorem ok_t_M_push : pe_okM (pe_GA []) pe_cl pe_ckA t_M_push = true := by decide +kernel
set_option maxRecDepth 40000 in
theorem ok_t_X_told : pe_okM (pe_GA []) pe_cl pe_ckA t_X_told = true := by decide +kernel
set_option maxRecDepth 40000 in
theorem ok_t_XW_nameAt : pe_okM (pe_GA []) pe_cl pe_ckA t_XW_nameAt = true := by decide +kernel
def td_t_XW_wordFor (k : Nat) : Nat × List pe_I := (pe_at t_XW_wordFor.bl k).getD (0, [])
set_option maxRecDepth 40000 in
theorem ok_t_XW_wordFor_0 : pe_ckB (pe_GA []) pe_cl pe_ckA t_XW_wordFor (td_t_XW_wordFor 0).1 (td_t_XW_wordFor 0).2 = true := by decide +kernel
set_option maxRecDepth 40000 in
theorem ok_t_XW_wordFor_1 : pe_ckB (pe_GA []) pe_cl pe_ckA t_XW_wordFor (td_t_XW_wordFor 1).1 (td_t_XW_wordFor 1).2 = true := by decide +kernel
set_option maxRecDepth 40000 in
theorem ok_t_XW_wordFor_2 : pe_ckB (pe_GA []) pe_cl pe_ckA t_XW_wordFor (td_t_XW_wordFor 2).1 (td_t_XW_wordFor 2).2 = true := by decide +kernel
set_option maxRecDepth 40000 in
theorem ok_t_XW_wordFor_3 : pe_ckB (pe_GA []) pe_cl pe_ckA t_XW_wordFor (td_t_XW_wordFor 3).1 (td_t_XW_wordFor 3).2 = true := by decide +kernel
set_option maxRecDepth 40000 in
theorem ok_t_XW_wordFor_4 : pe_ckB (pe_GA []) pe_cl pe_ckA t_XW_wordFor (td_t_XW_wordFor 4).1 (td_t_XW_wordFor 4).2 = true := by decide +kernel
theorem ok_t_XW_wordFor_a : ∀ b ∈ t_XW_wordFor.bl, pe_ckB (pe_GA []) pe_cl pe_ckA t_XW_wordFor b.1 b.2 = true := by
  intro b hb
  obtain ⟨n, hn⟩ := List.getElem?_of_mem hb
  rw [← pe_at_eq] at hn
  match n, hn with
  | 0, hn =>
    have h2 : td_t_XW_wordFor 0 = b := by unfold td_t_XW_wordFor; rw [hn]; rfl
    rw [← h2]; exact ok_t_XW_wordFor_0
  | 1, hn =>
    have h2 : td_t_XW_wordFor 1 = b := by unfold td_t_XW_wordFor; rw [hn]; rfl
    rw [← h2]; exact ok_t_XW_wordFor_1
  | 2, hn =>
    have h2 : td_t_XW_wordFor 2 = b := by unfold td_t_XW_wordFor; rw [hn]; rfl
    rw [← h2]; exact ok_t_XW_wordFor_2
  | 3, hn =>
    have h2 : td_t_XW_wordFor 3 = b := by unfold td_t_XW_wordFor; rw [hn]; rfl
    rw [← h2]; exact ok_t_XW_wordFor_3
  | 4, hn =>
    have h2 : td_t_XW_wordFor 4 = b := by unfold td_t_XW_wordFor; rw [hn]; rfl
    rw [← h2]; exact ok_t_XW_wordFor_4
  | n + 5, hn =>
    rw [pe_at_eq] at hn
    exact absurd (List.getElem?_eq_some_iff.mp hn).1 (by show ¬ n + 5 < 5; omega)
theorem ok_t_XW_wordFor : pe_okM (pe_GA []) pe_cl pe_ckA t_XW_wordFor = true := pe_okM_mk (pe_w_of (by rfl) (by rfl)) (by decide +kernel) ok_t_XW_wordFor_a
set_option maxRecDepth 40000 in
theorem ok_t_XH_shapeHead : pe_okM (pe_GA []) pe_cl pe_ckA t_XH_shapeHead = true := by decide +kernel
set_option maxRecDepth 40000 in
theorem ok_t_X_makeRoom : pe_okM (pe_GA []) pe_cl pe_ckA t_X_makeRoom = true := by decide +kernel
def td_t_XR_behindBlanks (k : Nat) : Nat × List pe_I := (pe_at t_XR_behindBlanks.bl k).getD (0, [])
set_option maxRecDepth 40000 in
theorem ok_t_XR_behindBlanks_0 : pe_ckB (pe_GA []) pe_cl pe_ckA t_XR_behindBlanks (td_t_XR_behindBlanks 0).1 (td_t_XR_behindBlanks 0).2 = true := by decide +kernel
set_option maxRecDepth 40000 in
theorem ok_t_XR_behindBlanks_1 : pe_ckB (pe_GA []) pe_cl pe_ckA t_XR_behindBlanks (td_t_XR_behindBlanks 1).1 (td_t_XR_behindBlanks 1).2 = true := by decide +kernel
set_option maxRecDepth 40000 in
theorem ok_t_XR_behindBlanks_2 : pe_ckB (pe_GA []) pe_cl pe_ckA t_XR_behindBlanks (td_t_XR_behindBlanks 2).1 (td_t_XR_behindBlanks 2).2 = true := by decide +kernel
set_option maxRecDepth 40000 in
theorem ok_t_XR_behindBlanks_3 : pe_ckB (pe_GA []) pe_cl pe_ckA t_XR_behindBlanks (td_t_XR_behindBlanks 3).1 (td_t_XR_behindBlanks 3).2 = true := by decide +kernel
set_option maxRecDepth 40000 in
theorem ok_t_XR_behindBlanks_4 : pe_ckB (pe_GA []) pe_cl pe_ckA t_XR_behindBlanks (td_t_XR_behindBlanks 4).1 (td_t_XR_behindBlanks 4).2 = true := by decide +kernel
set_option maxRecDepth 40000 in
theorem ok_t_XR_behindBlanks_5 : pe_ckB (pe_GA []) pe_cl pe_ckA t_XR_behindBlanks (td_t_XR_behindBlanks 5).1 (td_t_XR_behindBlanks 5).2 = true := by decide +kernel
theorem ok_t_XR_behindBlanks_a : ∀ b ∈ t_XR_behindBlanks.bl, pe_ckB (pe_GA []) pe_cl pe_ckA t_XR_behindBlanks b.1 b.2 = true := by
  intro b hb
  obtain ⟨n, hn⟩ := List.getElem?_of_mem hb
  rw [← pe_at_eq] at hn
  match n, hn with
  | 0, hn =>
    have h2 : td_t_XR_behindBlanks 0 = b := by unfold td_t_XR_behindBlanks; rw [hn]; rfl
    rw [← h2]; exact ok_t_XR_behindBlanks_0
  | 1, hn =>
    have h2 : td_t_XR_behindBlanks 1 = b := by unfold td_t_XR_behindBlanks; rw [hn]; rfl
    rw [← h2]; exact ok_t_XR_behindBlanks_1
  | 2, hn =>
    have h2 : td_t_XR_behindBlanks 2 = b := by unfold td_t_XR_behindBlanks; rw [hn]; rfl
    rw [← h2]; exact ok_t_XR_behindBlanks_2
  | 3, hn =>
    have h2 : td_t_XR_behindBlanks 3 = b := by unfold td_t_XR_behindBlanks; rw [hn]; rfl
    rw [← h2]; exact ok_t_XR_behindBlanks_3
  | 4, hn =>
    have h2 : td_t_XR_behindBlanks 4 = b := by unfold td_t_XR_behindBlanks; rw [hn]; rfl
    rw [← h2]; exact ok_t_XR_behindBlanks_4
  | 5, hn =>
    have h2 : td_t_XR_behindBlanks 5 = b := by unfold td_t_XR_behindBlanks; rw [hn]; rfl
    rw [← h2]; exact ok_t_XR_behindBlanks_5
  | n + 6, hn =>
    rw [pe_at_eq] at hn
    exact absurd (List.getElem?_eq_some_iff.mp hn).1 (by show ¬ n + 6 < 6; omega)
theorem ok_t_XR_behindBlanks : pe_okM (pe_GA []) pe_cl pe_ckA t_XR_behindBlanks = true := pe_okM_mk (pe_w_of (by rfl) (by rfl)) (by decide +kernel) ok_t_XR_behindBlanks_a
set_option maxRecDepth 40000 in
theorem ok_t_XR_addToken : pe_okM (pe_GA []) pe_cl pe_ckA t_XR_addToken = true := by decide +kernel
set_option maxRecDepth 40000 in
theorem ok_t_XR_add : pe_okM (pe_GA []) pe_cl pe_ckA t_XR_add = true := by decide +kernel
set_option maxRecDepth 40000 in
theorem ok_t_XR_kind : pe_okM (pe_GA []) pe_cl pe_ckA t_XR_kind = true := by decide +kernel
set_option maxRecDepth 40000 in
theorem ok_t_XT_wordHere : pe_okM (pe_GA []) pe_cl pe_ckA t_XT_wordHere = true := by decide +kernel
set_option maxRecDepth 40000 in
theorem ok_t_XT_refuse : pe_okM (pe_GA []) pe_cl pe_ckA t_XT_refuse = true := by decide +kernel
set_option maxRecDepth 40000 in
theorem ok_t_XR_next : pe_okM (pe_GA []) pe_cl pe_ckA t_XR_next = true := by decide +kernel
def td_t_XT_readClass (k : Nat) : Nat × List pe_I := (pe_at t_XT_readClass.bl k).getD (0, [])
set_option maxRecDepth 40000 in
theorem ok_t_XT_readClass_0 : pe_ckB (pe_GA []) pe_cl pe_ckA t_XT_readClass (td_t_XT_readClass 0).1 (td_t_XT_readClass 0).2 = true := by decide +kernel
set_option maxRecDepth 40000 in
theorem ok_t_XT_readClass_1 : pe_ckB (pe_GA []) pe_cl pe_ckA t_XT_readClass (td_t_XT_readClass 1).1 (td_t_XT_readClass 1).2 = true := by decide +kernel
set_option maxRecDepth 40000 in
theorem ok_t_XT_readClass_2 : pe_ckB (pe_GA []) pe_cl pe_ckA t_XT_readClass (td_t_XT_readClass 2).1 (td_t_XT_readClass 2).2 = true := by decide +kernel
set_option maxRecDepth 40000 in
theorem ok_t_XT_readClass_3 : pe_ckB (pe_GA []) pe_cl pe_ckA t_XT_readClass (td_t_XT_readClass 3).1 (td_t_XT_readClass 3).2 = true := by decide +kernel
set_option maxRecDepth 40000 in
theorem ok_t_XT_readClass_4 : pe_ckB (pe_GA []) pe_cl pe_ckA t_XT_readClass (td_t_XT_readClass 4).1 (td_t_XT_readClass 4).2 = true := by decide +kernel
set_option maxRecDepth 40000 in
theorem ok_t_XT_readClass_5 : pe_ckB (pe_GA []) pe_cl pe_ckA t_XT_readClass (td_t_XT_readClass 5).1 (td_t_XT_readClass 5).2 = true := by decide +kernel
set_option maxRecDepth 40000 in
theorem ok_t_XT_readClass_6 : pe_ckB (pe_GA []) pe_cl pe_ckA t_XT_readClass (td_t_XT_readClass 6).1 (td_t_XT_readClass 6).2 = true := by decide +kernel
set_option maxRecDepth 40000 in
theorem ok_t_XT_readClass_7 : pe_ckB (pe_GA []) pe_cl pe_ckA t_XT_readClass (td_t_XT_readClass 7).1 (td_t_XT_readClass 7).2 = true := by decide +kernel
theorem ok_t_XT_readClass_a : ∀ b ∈ t_XT_readClass.bl, pe_ckB (pe_GA []) pe_cl pe_ckA t_XT_readClass b.1 b.2 = true := by
  intro b hb
  obtain ⟨n, hn⟩ := List.getElem?_of_mem hb
  rw [← pe_at_eq] at hn
  match n, hn with
  | 0, hn =>
    have h2 : td_t_XT_readClass 0 = b := by unfold td_t_XT_readClass; rw [hn]; rfl
    rw [← h2]; exact ok_t_XT_readClass_0
  | 1, hn =>
    have h2 : td_t_XT_readClass 1 = b := by unfold td_t_XT_readClass; rw [hn]; rfl
    rw [← h2]; exact ok_t_XT_readClass_1
  | 2, hn =>
    have h2 : td_t_XT_readClass 2 = b := by unfold td_t_XT_readClass; rw [hn]; rfl
    rw [← h2]; exact ok_t_XT_readClass_2
  | 3, hn =>
    have h2 : td_t_XT_readClass 3 = b := by unfold td_t_XT_readClass; rw [hn]; rfl
    rw [← h2]; exact ok_t_XT_readClass_3
  | 4, hn =>
    have h2 : td_t_XT_readClass 4 = b := by unfold td_t_XT_readClass; rw [hn]; rfl
    rw [← h2]; exact ok_t_XT_readClass_4
  | 5, hn =>
    have h2 : td_t_XT_readClass 5 = b := by unfold td_t_XT_readClass; rw [hn]; rfl
    rw [← h2]; exact ok_t_XT_readClass_5
  | 6, hn =>
    have h2 : td_t_XT_readClass 6 = b := by unfold td_t_XT_readClass; rw [hn]; rfl
    rw [← h2]; exact ok_t_XT_readClass_6
  | 7, hn =>
    have h2 : td_t_XT_readClass 7 = b := by unfold td_t_XT_readClass; rw [hn]; rfl
    rw [← h2]; exact ok_t_XT_readClass_7
  | n + 8, hn =>
    rw [pe_at_eq] at hn
    exact absurd (List.getElem?_eq_some_iff.mp hn).1 (by show ¬ n + 8 < 8; omega)
theorem ok_t_XT_readClass : pe_okM (pe_GA []) pe_cl pe_ckA t_XT_readClass = true := pe_okM_mk (pe_w_of (by rfl) (by rfl)) (by decide +kernel) ok_t_XT_readClass_a
