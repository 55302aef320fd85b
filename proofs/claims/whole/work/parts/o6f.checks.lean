/-! PART o6f: tables checked once. -/
set_option maxRecDepth 40000 in
theorem ok_t_XW_headOf : pe_okM (pe_GA []) pe_cl pe_ckA t_XW_headOf = true := by decide +kernel
set_option maxRecDepth 40000 in
theorem ok_t_M_at : pe_okM (pe_GA []) pe_cl pe_ckA t_M_at = true := by decide +kernel
set_option maxRecDepth 40000 in
theorem ok_t_M_isLetter : pe_okM (pe_GA []) pe_cl pe_ckA t_M_isLetter = true := by decide +kernel
set_option maxRecDepth 40000 in
theorem ok_t_M_isDigit : pe_okM (pe_GA []) pe_cl pe_ckA t_M_isDigit = true := by decide +kernel
def td_t_M_reads (k : Nat) : Nat × List pe_I := (pe_at t_M_reads.bl k).getD (0, [])
set_option maxRecDepth 40000 in
theorem ok_t_M_reads_0 : pe_ckB (pe_GA []) pe_cl pe_ckA t_M_reads (td_t_M_reads 0).1 (td_t_M_reads 0).2 = true := by decide +kernel
set_option maxRecDepth 40000 in
theorem ok_t_M_reads_1 : pe_ckB (pe_GA []) pe_cl pe_ckA t_M_reads (td_t_M_reads 1).1 (td_t_M_reads 1).2 = true := by decide +kernel
set_option maxRecDepth 40000 in
theorem ok_t_M_reads_2 : pe_ckB (pe_GA []) pe_cl pe_ckA t_M_reads (td_t_M_reads 2).1 (td_t_M_reads 2).2 = true := by decide +kernel
set_option maxRecDepth 40000 in
theorem ok_t_M_reads_3 : pe_ckB (pe_GA []) pe_cl pe_ckA t_M_reads (td_t_M_reads 3).1 (td_t_M_reads 3).2 = true := by decide +kernel
set_option maxRecDepth 40000 in
theorem ok_t_M_reads_4 : pe_ckB (pe_GA []) pe_cl pe_ckA t_M_reads (td_t_M_reads 4).1 (td_t_M_reads 4).2 = true := by decide +kernel
set_option maxRecDepth 40000 in
theorem ok_t_M_reads_5 : pe_ckB (pe_GA []) pe_cl pe_ckA t_M_reads (td_t_M_reads 5).1 (td_t_M_reads 5).2 = true := by decide +kernel
set_option maxRecDepth 40000 in
theorem ok_t_M_reads_6 : pe_ckB (pe_GA []) pe_cl pe_ckA t_M_reads (td_t_M_reads 6).1 (td_t_M_reads 6).2 = true := by decide +kernel
set_option maxRecDepth 40000 in
theorem ok_t_M_reads_7 : pe_ckB (pe_GA []) pe_cl pe_ckA t_M_reads (td_t_M_reads 7).1 (td_t_M_reads 7).2 = true := by decide +kernel
set_option maxRecDepth 40000 in
theorem ok_t_M_reads_8 : pe_ckB (pe_GA []) pe_cl pe_ckA t_M_reads (td_t_M_reads 8).1 (td_t_M_reads 8).2 = true := by decide +kernel
set_option maxRecDepth 40000 in
theorem ok_t_M_reads_9 : pe_ckB (pe_GA []) pe_cl pe_ckA t_M_reads (td_t_M_reads 9).1 (td_t_M_reads 9).2 = true := by decide +kernel
set_option maxRecDepth 40000 in
theorem ok_t_M_reads_10 : pe_ckB (pe_GA []) pe_cl pe_ckA t_M_reads (td_t_M_reads 10).1 (td_t_M_reads 10).2 = true := by decide +kernel
set_option maxRecDepth 40000 in
theorem ok_t_M_reads_11 : pe_ckB (pe_GA []) pe_cl pe_ckA t_M_reads (td_t_M_reads 11).1 (td_t_M_reads 11).2 = true := by decide +kernel
theorem ok_t_M_reads_a : ∀ b ∈ t_M_reads.bl, pe_ckB (pe_GA []) pe_cl pe_ckA t_M_reads b.1 b.2 = true := by
  intro b hb
  obtain ⟨n, hn⟩ := List.getElem?_of_mem hb
  rw [← pe_at_eq] at hn
  match n, hn with
  | 0, hn =>
    have h2 : td_t_M_reads 0 = b := by unfold td_t_M_reads; rw [hn]; rfl
    rw [← h2]; exact ok_t_M_reads_0
  | 1, hn =>
    have h2 : td_t_M_reads 1 = b := by unfold td_t_M_reads; rw [hn]; rfl
    rw [← h2]; exact ok_t_M_reads_1
  | 2, hn =>
    have h2 : td_t_M_reads 2 = b := by unfold td_t_M_reads; rw [hn]; rfl
    rw [← h2]; exact ok_t_M_reads_2
  | 3, hn =>
    have h2 : td_t_M_reads 3 = b := by unfold td_t_M_reads; rw [hn]; rfl
    rw [← h2]; exact ok_t_M_reads_3
  | 4, hn =>
    have h2 : td_t_M_reads 4 = b := by unfold td_t_M_reads; rw [hn]; rfl
    rw [← h2]; exact ok_t_M_reads_4
  | 5, hn =>
    have h2 : td_t_M_reads 5 = b := by unfold td_t_M_reads; rw [hn]; rfl
    rw [← h2]; exact ok_t_M_reads_5
  | 6, hn =>
    have h2 : td_t_M_reads 6 = b := by unfold td_t_M_reads; rw [hn]; rfl
    rw [← h2]; exact ok_t_M_reads_6
  | 7, hn =>
    have h2 : td_t_M_reads 7 = b := by unfold td_t_M_reads; rw [hn]; rfl
    rw [← h2]; exact ok_t_M_reads_7
  | 8, hn =>
    have h2 : td_t_M_reads 8 = b := by unfold td_t_M_reads; rw [hn]; rfl
    rw [← h2]; exact ok_t_M_reads_8
  | 9, hn =>
    have h2 : td_t_M_reads 9 = b := by unfold td_t_M_reads; rw [hn]; rfl
    rw [← h2]; exact ok_t_M_reads_9
  | 10, hn =>
    have h2 : td_t_M_reads 10 = b := by unfold td_t_M_reads; rw [hn]; rfl
    rw [← h2]; exact ok_t_M_reads_10
  | 11, hn =>
    have h2 : td_t_M_reads 11 = b := by unfold td_t_M_reads; rw [hn]; rfl
    rw [← h2]; exact ok_t_M_reads_11
  | n + 12, hn =>
    rw [pe_at_eq] at hn
    exact absurd (List.getElem?_eq_some_iff.mp hn).1 (by show ¬ n + 12 < 12; omega)
theorem ok_t_M_reads : pe_okM (pe_GA []) pe_cl pe_ckA t_M_reads = true := pe_okM_mk (pe_w_of (by rfl) (by rfl)) (by decide +kernel) ok_t_M_reads_a
def td_t_M_signs (k : Nat) : Nat × List pe_I := (pe_at t_M_signs.bl k).getD (0, [])
set_option maxRecDepth 40000 in
theorem ok_t_M_signs_0 : pe_ckB (pe_GA []) pe_cl pe_ckA t_M_signs (td_t_M_signs 0).1 (td_t_M_signs 0).2 = true := by decide +kernel
set_option maxRecDepth 40000 in
theorem ok_t_M_signs_1 : pe_ckB (pe_GA []) pe_cl pe_ckA t_M_signs (td_t_M_signs 1).1 (td_t_M_signs 1).2 = true := by decide +kernel
set_option maxRecDepth 40000 in
theorem ok_t_M_signs_2 : pe_ckB (pe_GA []) pe_cl pe_ckA t_M_signs (td_t_M_signs 2).1 (td_t_M_signs 2).2 = true := by decide +kernel
set_option maxRecDepth 40000 in
theorem ok_t_M_signs_3 : pe_ckB (pe_GA []) pe_cl pe_ckA t_M_signs (td_t_M_signs 3).1 (td_t_M_signs 3).2 = true := by decide +kernel
set_option maxRecDepth 40000 in
theorem ok_t_M_signs_4 : pe_ckB (pe_GA []) pe_cl pe_ckA t_M_signs (td_t_M_signs 4).1 (td_t_M_signs 4).2 = true := by decide +kernel
set_option maxRecDepth 40000 in
theorem ok_t_M_signs_5 : pe_ckB (pe_GA []) pe_cl pe_ckA t_M_signs (td_t_M_signs 5).1 (td_t_M_signs 5).2 = true := by decide +kernel
set_option maxRecDepth 40000 in
theorem ok_t_M_signs_6 : pe_ckB (pe_GA []) pe_cl pe_ckA t_M_signs (td_t_M_signs 6).1 (td_t_M_signs 6).2 = true := by decide +kernel
set_option maxRecDepth 40000 in
theorem ok_t_M_signs_7 : pe_ckB (pe_GA []) pe_cl pe_ckA t_M_signs (td_t_M_signs 7).1 (td_t_M_signs 7).2 = true := by decide +kernel
set_option maxRecDepth 40000 in
theorem ok_t_M_signs_8 : pe_ckB (pe_GA []) pe_cl pe_ckA t_M_signs (td_t_M_signs 8).1 (td_t_M_signs 8).2 = true := by decide +kernel
set_option maxRecDepth 40000 in
theorem ok_t_M_signs_9 : pe_ckB (pe_GA []) pe_cl pe_ckA t_M_signs (td_t_M_signs 9).1 (td_t_M_signs 9).2 = true := by decide +kernel
set_option maxRecDepth 40000 in
theorem ok_t_M_signs_10 : pe_ckB (pe_GA []) pe_cl pe_ckA t_M_signs (td_t_M_signs 10).1 (td_t_M_signs 10).2 = true := by decide +kernel
set_option maxRecDepth 40000 in
theorem ok_t_M_signs_11 : pe_ckB (pe_GA []) pe_cl pe_ckA t_M_signs (td_t_M_signs 11).1 (td_t_M_signs 11).2 = true := by decide +kernel
set_option maxRecDepth 40000 in
theorem ok_t_M_signs_12 : pe_ckB (pe_GA []) pe_cl pe_ckA t_M_signs (td_t_M_signs 12).1 (td_t_M_signs 12).2 = true := by decide +kernel
set_option maxRecDepth 40000 in
theorem ok_t_M_signs_13 : pe_ckB (pe_GA []) pe_cl pe_ckA t_M_signs (td_t_M_signs 13).1 (td_t_M_signs 13).2 = true := by decide +kernel
set_option maxRecDepth 40000 in
theorem ok_t_M_signs_14 : pe_ckB (pe_GA []) pe_cl pe_ckA t_M_signs (td_t_M_signs 14).1 (td_t_M_signs 14).2 = true := by decide +kernel
set_option maxRecDepth 40000 in
theorem ok_t_M_signs_15 : pe_ckB (pe_GA []) pe_cl pe_ckA t_M_signs (td_t_M_signs 15).1 (td_t_M_signs 15).2 = true := by decide +kernel
set_option maxRecDepth 40000 in
theorem ok_t_M_signs_16 : pe_ckB (pe_GA []) pe_cl pe_ckA t_M_signs (td_t_M_signs 16).1 (td_t_M_signs 16).2 = true := by decide +kernel
set_option maxRecDepth 40000 in
theorem ok_t_M_signs_17 : pe_ckB (pe_GA []) pe_cl pe_ckA t_M_signs (td_t_M_signs 17).1 (td_t_M_signs 17).2 = true := by decide +kernel
set_option maxRecDepth 40000 in
theorem ok_t_M_signs_18 : pe_ckB (pe_GA []) pe_cl pe_ckA t_M_signs (td_t_M_signs 18).1 (td_t_M_signs 18).2 = true := by decide +kernel
set_option maxRecDepth 40000 in
theorem ok_t_M_signs_19 : pe_ckB (pe_GA []) pe_cl pe_ckA t_M_signs (td_t_M_signs 19).1 (td_t_M_signs 19).2 = true := by decide +kernel
set_option maxRecDepth 40000 in
theorem ok_t_M_signs_20 : pe_ckB (pe_GA []) pe_cl pe_ckA t_M_signs (td_t_M_signs 20).1 (td_t_M_signs 20).2 = true := by decide +kernel
theorem ok_t_M_signs_a : ∀ b ∈ t_M_signs.bl, pe_ckB (pe_GA []) pe_cl pe_ckA t_M_signs b.1 b.2 = true := by
  intro b hb
  obtain ⟨n, hn⟩ := List.getElem?_of_mem hb
  rw [← pe_at_eq] at hn
  match n, hn with
  | 0, hn =>
    have h2 : td_t_M_signs 0 = b := by unfold td_t_M_signs; rw [hn]; rfl
    rw [← h2]; exact ok_t_M_signs_0
  | 1, hn =>
    have h2 : td_t_M_signs 1 = b := by unfold td_t_M_signs; rw [hn]; rfl
    rw [← h2]; exact ok_t_M_signs_1
  | 2, hn =>
    have h2 : td_t_M_signs 2 = b := by unfold td_t_M_signs; rw [hn]; rfl
    rw [← h2]; exact ok_t_M_signs_2
  | 3, hn =>
    have h2 : td_t_M_signs 3 = b := by unfold td_t_M_signs; rw [hn]; rfl
    rw [← h2]; exact ok_t_M_signs_3
  | 4, hn =>
    have h2 : td_t_M_signs 4 = b := by unfold td_t_M_signs; rw [hn]; rfl
    rw [← h2]; exact ok_t_M_signs_4
  | 5, hn =>
    have h2 : td_t_M_signs 5 = b := by unfold td_t_M_signs; rw [hn]; rfl
    rw [← h2]; exact ok_t_M_signs_5
  | 6, hn =>
    have h2 : td_t_M_signs 6 = b := by unfold td_t_M_signs; rw [hn]; rfl
    rw [← h2]; exact ok_t_M_signs_6
  | 7, hn =>
    have h2 : td_t_M_signs 7 = b := by unfold td_t_M_signs; rw [hn]; rfl
    rw [← h2]; exact ok_t_M_signs_7
  | 8, hn =>
    have h2 : td_t_M_signs 8 = b := by unfold td_t_M_signs; rw [hn]; rfl
    rw [← h2]; exact ok_t_M_signs_8
  | 9, hn =>
    have h2 : td_t_M_signs 9 = b := by unfold td_t_M_signs; rw [hn]; rfl
    rw [← h2]; exact ok_t_M_signs_9
  | 10, hn =>
    have h2 : td_t_M_signs 10 = b := by unfold td_t_M_signs; rw [hn]; rfl
    rw [← h2]; exact ok_t_M_signs_10
  | 11, hn =>
    have h2 : td_t_M_signs 11 = b := by unfold td_t_M_signs; rw [hn]; rfl
    rw [← h2]; exact ok_t_M_signs_11
  | 12, hn =>
    have h2 : td_t_M_signs 12 = b := by unfold td_t_M_signs; rw [hn]; rfl
    rw [← h2]; exact ok_t_M_signs_12
  | 13, hn =>
    have h2 : td_t_M_signs 13 = b := by unfold td_t_M_signs; rw [hn]; rfl
    rw [← h2]; exact ok_t_M_signs_13
  | 14, hn =>
    have h2 : td_t_M_signs 14 = b := by unfold td_t_M_signs; rw [hn]; rfl
    rw [← h2]; exact ok_t_M_signs_14
  | 15, hn =>
    have h2 : td_t_M_signs 15 = b := by unfold td_t_M_signs; rw [hn]; rfl
    rw [← h2]; exact ok_t_M_signs_15
  | 16, hn =>
    have h2 : td_t_M_signs 16 = b := by unfold td_t_M_signs; rw [hn]; rfl
    rw [← h2]; exact ok_t_M_signs_16
  | 17, hn =>
    have h2 : td_t_M_signs 17 = b := by unfold td_t_M_signs; rw [hn]; rfl
    rw [← h2]; exact ok_t_M_signs_17
  | 18, hn =>
    have h2 : td_t_M_signs 18 = b := by unfold td_t_M_signs; rw [hn]; rfl
    rw [← h2]; exact ok_t_M_signs_18
  | 19, hn =>
    have h2 : td_t_M_signs 19 = b := by unfold td_t_M_signs; rw [hn]; rfl
    rw [← h2]; exact ok_t_M_signs_19
  | 20, hn =>
    have h2 : td_t_M_signs 20 = b := by unfold td_t_M_signs; rw [hn]; rfl
    rw [← h2]; exact ok_t_M_signs_20
  | n + 21, hn =>
    rw [pe_at_eq] at hn
    exact absurd (List.getElem?_eq_some_iff.mp hn).1 (by show ¬ n + 21 < 21; omega)
theorem ok_t_M_signs : pe_okM (pe_GA []) pe_cl pe_ckA t_M_signs = true := pe_okM_mk (pe_w_of (by rfl) (by rfl)) (by decide +kernel) ok_t_M_signs_a
def td_t_M_place (k : Nat) : Nat × List pe_I := (pe_at t_M_place.bl k).getD (0, [])
set_option maxRecDepth 40000 in
theorem ok_t_M_place_0 : pe_ckB (pe_GA []) pe_cl pe_ckA t_M_place (td_t_M_place 0).1 (td_t_M_place 0).2 = true := by decide +kernel
set_option maxRecDepth 40000 in
theorem ok_t_M_place_1 : pe_ckB (pe_GA []) pe_cl pe_ckA t_M_place (td_t_M_place 1).1 (td_t_M_place 1).2 = true := by decide +kernel
set_option maxRecDepth 40000 in
theorem ok_t_M_place_2 : pe_ckB (pe_GA []) pe_cl pe_ckA t_M_place (td_t_M_place 2).1 (td_t_M_place 2).2 = true := by decide +kernel
set_option maxRecDepth 40000 in
theorem ok_t_M_place_3 : pe_ckB (pe_GA []) pe_cl pe_ckA t_M_place (td_t_M_place 3).1 (td_t_M_place 3).2 = true := by decide +kernel
set_option maxRecDepth 40000 in
theorem ok_t_M_place_4 : pe_ckB (pe_GA []) pe_cl pe_ckA t_M_place (td_t_M_place 4).1 (td_t_M_place 4).2 = true := by decide +kernel
set_option maxRecDepth 40000 in
theorem ok_t_M_place_5 : pe_ckB (pe_GA []) pe_cl pe_ckA t_M_place (td_t_M_place 5).1 (td_t_M_place 5).2 = true := by decide +kernel
set_option maxRecDepth 40000 in
theorem ok_t_M_place_6 : pe_ckB (pe_GA []) pe_cl pe_ckA t_M_place (td_t_M_place 6).1 (td_t_M_place 6).2 = true := by decide +kernel
set_option maxRecDepth 40000 in
theorem ok_t_M_place_7 : pe_ckB (pe_GA []) pe_cl pe_ckA t_M_place (td_t_M_place 7).1 (td_t_M_place 7).2 = true := by decide +kernel
set_option maxRecDepth 40000 in
theorem ok_t_M_place_8 : pe_ckB (pe_GA []) pe_cl pe_ckA t_M_place (td_t_M_place 8).1 (td_t_M_place 8).2 = true := by decide +kernel
set_option maxRecDepth 40000 in
theorem ok_t_M_place_9 : pe_ckB (pe_GA []) pe_cl pe_ckA t_M_place (td_t_M_place 9).1 (td_t_M_place 9).2 = true := by decide +kernel
set_option maxRecDepth 40000 in
theorem ok_t_M_place_10 : pe_ckB (pe_GA []) pe_cl pe_ckA t_M_place (td_t_M_place 10).1 (td_t_M_place 10).2 = true := by decide +kernel
set_option maxRecDepth 40000 in
theorem ok_t_M_place_11 : pe_ckB (pe_GA []) pe_cl pe_ckA t_M_place (td_t_M_place 11).1 (td_t_M_place 11).2 = true := by decide +kernel
theorem ok_t_M_place_a : ∀ b ∈ t_M_place.bl, pe_ckB (pe_GA []) pe_cl pe_ckA t_M_place b.1 b.2 = true := by
  intro b hb
  obtain ⟨n, hn⟩ := List.getElem?_of_mem hb
  rw [← pe_at_eq] at hn
  match n, hn with
  | 0, hn =>
    have h2 : td_t_M_place 0 = b := by unfold td_t_M_place; rw [hn]; rfl
    rw [← h2]; exact ok_t_M_place_0
  | 1, hn =>
    have h2 : td_t_M_place 1 = b := by unfold td_t_M_place; rw [hn]; rfl
    rw [← h2]; exact ok_t_M_place_1
  | 2, hn =>
    have h2 : td_t_M_place 2 = b := by unfold td_t_M_place; rw [hn]; rfl
    rw [← h2]; exact ok_t_M_place_2
  | 3, hn =>
    have h2 : td_t_M_place 3 = b := by unfold td_t_M_place; rw [hn]; rfl
    rw [← h2]; exact ok_t_M_place_3
  | 4, hn =>
    have h2 : td_t_M_place 4 = b := by unfold td_t_M_place; rw [hn]; rfl
    rw [← h2]; exact ok_t_M_place_4
  | 5, hn =>
    have h2 : td_t_M_place 5 = b := by unfold td_t_M_place; rw [hn]; rfl
    rw [← h2]; exact ok_t_M_place_5
  | 6, hn =>
    have h2 : td_t_M_place 6 = b := by unfold td_t_M_place; rw [hn]; rfl
    rw [← h2]; exact ok_t_M_place_6
  | 7, hn =>
    have h2 : td_t_M_place 7 = b := by unfold td_t_M_place; rw [hn]; rfl
    rw [← h2]; exact ok_t_M_place_7
  | 8, hn =>
    have h2 : td_t_M_place 8 = b := by unfold td_t_M_place; rw [hn]; rfl
    rw [← h2]; exact ok_t_M_place_8
  | 9, hn =>
    have h2 : td_t_M_place 9 = b := by unfold td_t_M_place; rw [hn]; rfl
    rw [← h2]; exact ok_t_M_place_9
  | 10, hn =>
    have h2 : td_t_M_place 10 = b := by unfold td_t_M_place; rw [hn]; rfl
    rw [← h2]; exact ok_t_M_place_10
  | 11, hn =>
    have h2 : td_t_M_place 11 = b := by unfold td_t_M_place; rw [hn]; rfl
    rw [← h2]; exact ok_t_M_place_11
  | n + 12, hn =>
    rw [pe_at_eq] at hn
    exact absurd (List.getElem?_eq_some_iff.mp hn).1 (by show ¬ n + 12 < 12; omega)
theorem ok_t_M_place : pe_okM (pe_GA []) pe_cl pe_ckA t_M_place = true := pe_okM_mk (pe_w_of (by rfl) (by rfl)) (by decide +kernel) ok_t_M_place_a
def td_t_M_readsParameters (k : Nat) : Nat × List pe_I := (pe_at t_M_readsParameters.bl k).getD (0, [])
set_option maxRecDepth 40000 in
theorem ok_t_M_readsParameters_0 : pe_ckB (pe_GA []) pe_cl pe_ckA t_M_readsParameters (td_t_M_readsParameters 0).1 (td_t_M_readsParameters 0).2 = true := by decide +kernel
set_option maxRecDepth 40000 in
theorem ok_t_M_readsParameters_1 : pe_ckB (pe_GA []) pe_cl pe_ckA t_M_readsParameters (td_t_M_readsParameters 1).1 (td_t_M_readsParameters 1).2 = true := by decide +kernel
set_option maxRecDepth 40000 in
theorem ok_t_M_readsParameters_2 : pe_ckB (pe_GA []) pe_cl pe_ckA t_M_readsParameters (td_t_M_readsParameters 2).1 (td_t_M_readsParameters 2).2 = true := by decide +kernel
set_option maxRecDepth 40000 in
theorem ok_t_M_readsParameters_3 : pe_ckB (pe_GA []) pe_cl pe_ckA t_M_readsParameters (td_t_M_readsParameters 3).1 (td_t_M_readsParameters 3).2 = true := by decide +kernel
set_option maxRecDepth 40000 in
theorem ok_t_M_readsParameters_4 : pe_ckB (pe_GA []) pe_cl pe_ckA t_M_readsParameters (td_t_M_readsParameters 4).1 (td_t_M_readsParameters 4).2 = true := by decide +kernel
set_option maxRecDepth 40000 in
theorem ok_t_M_readsParameters_5 : pe_ckB (pe_GA []) pe_cl pe_ckA t_M_readsParameters (td_t_M_readsParameters 5).1 (td_t_M_readsParameters 5).2 = true := by decide +kernel
set_option maxRecDepth 40000 in
theorem ok_t_M_readsParameters_6 : pe_ckB (pe_GA []) pe_cl pe_ckA t_M_readsParameters (td_t_M_readsParameters 6).1 (td_t_M_readsParameters 6).2 = true := by decide +kernel
set_option maxRecDepth 40000 in
theorem ok_t_M_readsParameters_7 : pe_ckB (pe_GA []) pe_cl pe_ckA t_M_readsParameters (td_t_M_readsParameters 7).1 (td_t_M_readsParameters 7).2 = true := by decide +kernel
set_option maxRecDepth 40000 in
theorem ok_t_M_readsParameters_8 : pe_ckB (pe_GA []) pe_cl pe_ckA t_M_readsParameters (td_t_M_readsParameters 8).1 (td_t_M_readsParameters 8).2 = true := by decide +kernel
set_option maxRecDepth 40000 in
theorem ok_t_M_readsParameters_9 : pe_ckB (pe_GA []) pe_cl pe_ckA t_M_readsParameters (td_t_M_readsParameters 9).1 (td_t_M_readsParameters 9).2 = true := by decide +kernel
set_option maxRecDepth 40000 in
theorem ok_t_M_readsParameters_10 : pe_ckB (pe_GA []) pe_cl pe_ckA t_M_readsParameters (td_t_M_readsParameters 10).1 (td_t_M_readsParameters 10).2 = true := by decide +kernel
set_option maxRecDepth 40000 in
theorem ok_t_M_readsParameters_11 : pe_ckB (pe_GA []) pe_cl pe_ckA t_M_readsParameters (td_t_M_readsParameters 11).1 (td_t_M_readsParameters 11).2 = true := by decide +kernel
set_option maxRecDepth 40000 in
theorem ok_t_M_readsParameters_12 : pe_ckB (pe_GA []) pe_cl pe_ckA t_M_readsParameters (td_t_M_readsParameters 12).1 (td_t_M_readsParameters 12).2 = true := by decide +kernel
set_option maxRecDepth 40000 in
theorem ok_t_M_readsParameters_13 : pe_ckB (pe_GA []) pe_cl pe_ckA t_M_readsParameters (td_t_M_readsParameters 13).1 (td_t_M_readsParameters 13).2 = true := by decide +kernel
set_option maxRecDepth 40000 in
theorem ok_t_M_readsParameters_14 : pe_ckB (pe_GA []) pe_cl pe_ckA t_M_readsParameters (td_t_M_readsParameters 14).1 (td_t_M_readsParameters 14).2 = true := by decide +kernel
set_option maxRecDepth 40000 in
theorem ok_t_M_readsParameters_15 : pe_ckB (pe_GA []) pe_cl pe_ckA t_M_readsParameters (td_t_M_readsParameters 15).1 (td_t_M_readsParameters 15).2 = true := by decide +kernel
set_option maxRecDepth 40000 in
theorem ok_t_M_readsParameters_16 : pe_ckB (pe_GA []) pe_cl pe_ckA t_M_readsParameters (td_t_M_readsParameters 16).1 (td_t_M_readsParameters 16).2 = true := by decide +kernel
set_option maxRecDepth 40000 in
theorem ok_t_M_readsParameters_17 : pe_ckB (pe_GA []) pe_cl pe_ckA t_M_readsParameters (td_t_M_readsParameters 17).1 (td_t_M_readsParameters 17).2 = true := by decide +kernel
set_option maxRecDepth 40000 in
theorem ok_t_M_readsParameters_18 : pe_ckB (pe_GA []) pe_cl pe_ckA t_M_readsParameters (td_t_M_readsParameters 18).1 (td_t_M_readsParameters 18).2 = true := by decide +kernel
set_option maxRecDepth 40000 in
theorem ok_t_M_readsParameters_19 : pe_ckB (pe_GA []) pe_cl pe_ckA t_M_readsParameters (td_t_M_readsParameters 19).1 (td_t_M_readsParameters 19).2 = true := by decide +kernel
set_option maxRecDepth 40000 in
theorem ok_t_M_readsParameters_20 : pe_ckB (pe_GA []) pe_cl pe_ckA t_M_readsParameters (td_t_M_readsParameters 20).1 (td_t_M_readsParameters 20).2 = true := by decide +kernel
theorem ok_t_M_readsParameters_a : ∀ b ∈ t_M_readsParameters.bl, pe_ckB (pe_GA []) pe_cl pe_ckA t_M_readsParameters b.1 b.2 = true := by
  intro b hb
  obtain ⟨n, hn⟩ := List.getElem?_of_mem hb
  rw [← pe_at_eq] at hn
  match n, hn with
  | 0, hn =>
    have h2 : td_t_M_readsParameters 0 = b := by unfold td_t_M_readsParameters; rw [hn]; rfl
    rw [← h2]; exact ok_t_M_readsParameters_0
  | 1, hn =>
    have h2 : td_t_M_readsParameters 1 = b := by unfold td_t_M_readsParameters; rw [hn]; rfl
    rw [← h2]; exact ok_t_M_readsParameters_1
  | 2, hn =>
    have h2 : td_t_M_readsParameters 2 = b := by unfold td_t_M_readsParameters; rw [hn]; rfl
    rw [← h2]; exact ok_t_M_readsParameters_2
  | 3, hn =>
    have h2 : td_t_M_readsParameters 3 = b := by unfold td_t_M_readsParameters; rw [hn]; rfl
    rw [← h2]; exact ok_t_M_readsParameters_3
  | 4, hn =>
    have h2 : td_t_M_readsParameters 4 = b := by unfold td_t_M_readsParameters; rw [hn]; rfl
    rw [← h2]; exact ok_t_M_readsParameters_4
  | 5, hn =>
    have h2 : td_t_M_readsParameters 5 = b := by unfold td_t_M_readsParameters; rw [hn]; rfl
    rw [← h2]; exact ok_t_M_readsParameters_5
  | 6, hn =>
    have h2 : td_t_M_readsParameters 6 = b := by unfold td_t_M_readsParameters; rw [hn]; rfl
    rw [← h2]; exact ok_t_M_readsParameters_6
  | 7, hn =>
    have h2 : td_t_M_readsParameters 7 = b := by unfold td_t_M_readsParameters; rw [hn]; rfl
    rw [← h2]; exact ok_t_M_readsParameters_7
  | 8, hn =>
    have h2 : td_t_M_readsParameters 8 = b := by unfold td_t_M_readsParameters; rw [hn]; rfl
    rw [← h2]; exact ok_t_M_readsParameters_8
  | 9, hn =>
    have h2 : td_t_M_readsParameters 9 = b := by unfold td_t_M_readsParameters; rw [hn]; rfl
    rw [← h2]; exact ok_t_M_readsParameters_9
  | 10, hn =>
    have h2 : td_t_M_readsParameters 10 = b := by unfold td_t_M_readsParameters; rw [hn]; rfl
    rw [← h2]; exact ok_t_M_readsParameters_10
  | 11, hn =>
    have h2 : td_t_M_readsParameters 11 = b := by unfold td_t_M_readsParameters; rw [hn]; rfl
    rw [← h2]; exact ok_t_M_readsParameters_11
  | 12, hn =>
    have h2 : td_t_M_readsParameters 12 = b := by unfold td_t_M_readsParameters; rw [hn]; rfl
    rw [← h2]; exact ok_t_M_readsParameters_12
  | 13, hn =>
    have h2 : td_t_M_readsParameters 13 = b := by unfold td_t_M_readsParameters; rw [hn]; rfl
    rw [← h2]; exact ok_t_M_readsParameters_13
  | 14, hn =>
    have h2 : td_t_M_readsParameters 14 = b := by unfold td_t_M_readsParameters; rw [hn]; rfl
    rw [← h2]; exact ok_t_M_readsParameters_14
  | 15, hn =>
    have h2 : td_t_M_readsParameters 15 = b := by unfold td_t_M_readsParameters; rw [hn]; rfl
    rw [← h2]; exact ok_t_M_readsParameters_15
  | 16, hn =>
    have h2 : td_t_M_readsParameters 16 = b := by unfold td_t_M_readsParameters; rw [hn]; rfl
    rw [← h2]; exact ok_t_M_readsParameters_16
  | 17, hn =>
    have h2 : td_t_M_readsParameters 17 = b := by unfold td_t_M_readsParameters; rw [hn]; rfl
    rw [← h2]; exact ok_t_M_readsParameters_17
  | 18, hn =>
    have h2 : td_t_M_readsParameters 18 = b := by unfold td_t_M_readsParameters; rw [hn]; rfl
    rw [← h2]; exact ok_t_M_readsParameters_18
  | 19, hn =>
    have h2 : td_t_M_readsParameters 19 = b := by unfold td_t_M_readsParameters; rw [hn]; rfl
    rw [← h2]; exact ok_t_M_readsParameters_19
  | 20, hn =>
    have h2 : td_t_M_readsParameters 20 = b := by unfold td_t_M_readsParameters; rw [hn]; rfl
    rw [← h2]; exact ok_t_M_readsParameters_20
  | n + 21, hn =>
    rw [pe_at_eq] at hn
    exact absurd (List.getElem?_eq_some_iff.mp hn).1 (by show ¬ n + 21 < 21; omega)
theorem ok_t_M_readsParameters : pe_okM (pe_GA []) pe_cl pe_ckA t_M_readsParameters = true := pe_okM_mk (pe_w_of (by rfl) (by rfl)) (by decide +kernel) ok_t_M_readsParameters_a
def td_t_M_readsType (k : Nat) : Nat × List pe_I := (pe_at t_M_readsType.bl k).getD (0, [])
set_option maxRecDepth 40000 in
theorem ok_t_M_readsType_0 : pe_ckB (pe_GA []) pe_cl pe_ckA t_M_readsType (td_t_M_readsType 0).1 (td_t_M_readsType 0).2 = true := by decide +kernel
set_option maxRecDepth 40000 in
theorem ok_t_M_readsType_1 : pe_ckB (pe_GA []) pe_cl pe_ckA t_M_readsType (td_t_M_readsType 1).1 (td_t_M_readsType 1).2 = true := by decide +kernel
set_option maxRecDepth 40000 in
theorem ok_t_M_readsType_2 : pe_ckB (pe_GA []) pe_cl pe_ckA t_M_readsType (td_t_M_readsType 2).1 (td_t_M_readsType 2).2 = true := by decide +kernel
set_option maxRecDepth 40000 in
theorem ok_t_M_readsType_3 : pe_ckB (pe_GA []) pe_cl pe_ckA t_M_readsType (td_t_M_readsType 3).1 (td_t_M_readsType 3).2 = true := by decide +kernel
set_option maxRecDepth 40000 in
theorem ok_t_M_readsType_4 : pe_ckB (pe_GA []) pe_cl pe_ckA t_M_readsType (td_t_M_readsType 4).1 (td_t_M_readsType 4).2 = true := by decide +kernel
set_option maxRecDepth 40000 in
theorem ok_t_M_readsType_5 : pe_ckB (pe_GA []) pe_cl pe_ckA t_M_readsType (td_t_M_readsType 5).1 (td_t_M_readsType 5).2 = true := by decide +kernel
set_option maxRecDepth 40000 in
theorem ok_t_M_readsType_6 : pe_ckB (pe_GA []) pe_cl pe_ckA t_M_readsType (td_t_M_readsType 6).1 (td_t_M_readsType 6).2 = true := by decide +kernel
set_option maxRecDepth 40000 in
theorem ok_t_M_readsType_7 : pe_ckB (pe_GA []) pe_cl pe_ckA t_M_readsType (td_t_M_readsType 7).1 (td_t_M_readsType 7).2 = true := by decide +kernel
set_option maxRecDepth 40000 in
theorem ok_t_M_readsType_8 : pe_ckB (pe_GA []) pe_cl pe_ckA t_M_readsType (td_t_M_readsType 8).1 (td_t_M_readsType 8).2 = true := by decide +kernel
theorem ok_t_M_readsType_a : ∀ b ∈ t_M_readsType.bl, pe_ckB (pe_GA []) pe_cl pe_ckA t_M_readsType b.1 b.2 = true := by
  intro b hb
  obtain ⟨n, hn⟩ := List.getElem?_of_mem hb
  rw [← pe_at_eq] at hn
  match n, hn with
  | 0, hn =>
    have h2 : td_t_M_readsType 0 = b := by unfold td_t_M_readsType; rw [hn]; rfl
    rw [← h2]; exact ok_t_M_readsType_0
  | 1, hn =>
    have h2 : td_t_M_readsType 1 = b := by unfold td_t_M_readsType; rw [hn]; rfl
    rw [← h2]; exact ok_t_M_readsType_1
  | 2, hn =>
    have h2 : td_t_M_readsType 2 = b := by unfold td_t_M_readsType; rw [hn]; rfl
    rw [← h2]; exact ok_t_M_readsType_2
  | 3, hn =>
    have h2 : td_t_M_readsType 3 = b := by unfold td_t_M_readsType; rw [hn]; rfl
    rw [← h2]; exact ok_t_M_readsType_3
  | 4, hn =>
    have h2 : td_t_M_readsType 4 = b := by unfold td_t_M_readsType; rw [hn]; rfl
    rw [← h2]; exact ok_t_M_readsType_4
  | 5, hn =>
    have h2 : td_t_M_readsType 5 = b := by unfold td_t_M_readsType; rw [hn]; rfl
    rw [← h2]; exact ok_t_M_readsType_5
  | 6, hn =>
    have h2 : td_t_M_readsType 6 = b := by unfold td_t_M_readsType; rw [hn]; rfl
    rw [← h2]; exact ok_t_M_readsType_6
  | 7, hn =>
    have h2 : td_t_M_readsType 7 = b := by unfold td_t_M_readsType; rw [hn]; rfl
    rw [← h2]; exact ok_t_M_readsType_7
  | 8, hn =>
    have h2 : td_t_M_readsType 8 = b := by unfold td_t_M_readsType; rw [hn]; rfl
    rw [← h2]; exact ok_t_M_readsType_8
  | n + 9, hn =>
    rw [pe_at_eq] at hn
    exact absurd (List.getElem?_eq_some_iff.mp hn).1 (by show ¬ n + 9 < 9; omega)
theorem ok_t_M_readsType : pe_okM (pe_GA []) pe_cl pe_ckA t_M_readsType = true := pe_okM_mk (pe_w_of (by rfl) (by rfl)) (by decide +kernel) ok_t_M_readsType_a
def td_t_M_readsField (k : Nat) : Nat × List pe_I := (pe_at t_M_readsField.bl k).getD (0, [])
set_option maxRecDepth 40000 in
theorem ok_t_M_readsField_0 : pe_ckB (pe_GA []) pe_cl pe_ckA t_M_readsField (td_t_M_readsField 0).1 (td_t_M_readsField 0).2 = true := by decide +kernel
set_option maxRecDepth 40000 in
theorem ok_t_M_readsField_1 : pe_ckB (pe_GA []) pe_cl pe_ckA t_M_readsField (td_t_M_readsField 1).1 (td_t_M_readsField 1).2 = true := by decide +kernel
set_option maxRecDepth 40000 in
theorem ok_t_M_readsField_2 : pe_ckB (pe_GA []) pe_cl pe_ckA t_M_readsField (td_t_M_readsField 2).1 (td_t_M_readsField 2).2 = true := by decide +kernel
set_option maxRecDepth 40000 in
theorem ok_t_M_readsField_3 : pe_ckB (pe_GA []) pe_cl pe_ckA t_M_readsField (td_t_M_readsField 3).1 (td_t_M_readsField 3).2 = true := by decide +kernel
set_option maxRecDepth 40000 in
theorem ok_t_M_readsField_4 : pe_ckB (pe_GA []) pe_cl pe_ckA t_M_readsField (td_t_M_readsField 4).1 (td_t_M_readsField 4).2 = true := by decide +kernel
set_option maxRecDepth 40000 in
theorem ok_t_M_readsField_5 : pe_ckB (pe_GA []) pe_cl pe_ckA t_M_readsField (td_t_M_readsField 5).1 (td_t_M_readsField 5).2 = true := by decide +kernel
set_option maxRecDepth 40000 in
theorem ok_t_M_readsField_6 : pe_ckB (pe_GA []) pe_cl pe_ckA t_M_readsField (td_t_M_readsField 6).1 (td_t_M_readsField 6).2 = true := by decide +kernel
theorem ok_t_M_readsField_a : ∀ b ∈ t_M_readsField.bl, pe_ckB (pe_GA []) pe_cl pe_ckA t_M_readsField b.1 b.2 = true := by
  intro b hb
  obtain ⟨n, hn⟩ := List.getElem?_of_mem hb
  rw [← pe_at_eq] at hn
  match n, hn with
  | 0, hn =>
    have h2 : td_t_M_readsField 0 = b := by unfold td_t_M_readsField; rw [hn]; rfl
    rw [← h2]; exact ok_t_M_readsField_0
  | 1, hn =>
    have h2 : td_t_M_readsField 1 = b := by unfold td_t_M_readsField; rw [hn]; rfl
    rw [← h2]; exact ok_t_M_readsField_1
  | 2, hn =>
    have h2 : td_t_M_readsField 2 = b := by unfold td_t_M_readsField; rw [hn]; rfl
    rw [← h2]; exact ok_t_M_readsField_2
  | 3, hn =>
    have h2 : td_t_M_readsField 3 = b := by unfold td_t_M_readsField; rw [hn]; rfl
    rw [← h2]; exact ok_t_M_readsField_3
  | 4, hn =>
    have h2 : td_t_M_readsField 4 = b := by unfold td_t_M_readsField; rw [hn]; rfl
    rw [← h2]; exact ok_t_M_readsField_4
  | 5, hn =>
    have h2 : td_t_M_readsField 5 = b := by unfold td_t_M_readsField; rw [hn]; rfl
    rw [← h2]; exact ok_t_M_readsField_5
  | 6, hn =>
    have h2 : td_t_M_readsField 6 = b := by unfold td_t_M_readsField; rw [hn]; rfl
    rw [← h2]; exact ok_t_M_readsField_6
  | n + 7, hn =>
    rw [pe_at_eq] at hn
    exact absurd (List.getElem?_eq_some_iff.mp hn).1 (by show ¬ n + 7 < 7; omega)
theorem ok_t_M_readsField : pe_okM (pe_GA []) pe_cl pe_ckA t_M_readsField = true := pe_okM_mk (pe_w_of (by rfl) (by rfl)) (by decide +kernel) ok_t_M_readsField_a
set_option maxRecDepth 40000 in
theorem ok_t_XP_beginsStatement : pe_okM (pe_GA []) pe_cl pe_ckA t_XP_beginsStatement = true := by decide +kernel
set_option maxRecDepth 40000 in
theorem ok_t_XP_refuse : pe_okM (pe_GA []) pe_cl pe_ckA t_XP_refuse = true := by decide +kernel
set_option maxRecDepth 40000 in
theorem ok_t_XP_addFunction : pe_okM (pe_GA []) pe_cl pe_ckA t_XP_addFunction = true := by decide +kernel
def td_t_XP_readStatements (k : Nat) : Nat × List pe_I := (pe_at t_XP_readStatements.bl k).getD (0, [])
set_option maxRecDepth 40000 in
theorem ok_t_XP_readStatements_0 : pe_ckB (pe_GA []) pe_cl pe_ckA t_XP_readStatements (td_t_XP_readStatements 0).1 (td_t_XP_readStatements 0).2 = true := by decide +kernel
set_option maxRecDepth 40000 in
theorem ok_t_XP_readStatements_1 : pe_ckB (pe_GA []) pe_cl pe_ckA t_XP_readStatements (td_t_XP_readStatements 1).1 (td_t_XP_readStatements 1).2 = true := by decide +kernel
set_option maxRecDepth 40000 in
theorem ok_t_XP_readStatements_2 : pe_ckB (pe_GA []) pe_cl pe_ckA t_XP_readStatements (td_t_XP_readStatements 2).1 (td_t_XP_readStatements 2).2 = true := by decide +kernel
set_option maxRecDepth 40000 in
theorem ok_t_XP_readStatements_3 : pe_ckB (pe_GA []) pe_cl pe_ckA t_XP_readStatements (td_t_XP_readStatements 3).1 (td_t_XP_readStatements 3).2 = true := by decide +kernel
set_option maxRecDepth 40000 in
theorem ok_t_XP_readStatements_4 : pe_ckB (pe_GA []) pe_cl pe_ckA t_XP_readStatements (td_t_XP_readStatements 4).1 (td_t_XP_readStatements 4).2 = true := by decide +kernel
set_option maxRecDepth 40000 in
theorem ok_t_XP_readStatements_5 : pe_ckB (pe_GA []) pe_cl pe_ckA t_XP_readStatements (td_t_XP_readStatements 5).1 (td_t_XP_readStatements 5).2 = true := by decide +kernel
set_option maxRecDepth 40000 in
theorem ok_t_XP_readStatements_6 : pe_ckB (pe_GA []) pe_cl pe_ckA t_XP_readStatements (td_t_XP_readStatements 6).1 (td_t_XP_readStatements 6).2 = true := by decide +kernel
set_option maxRecDepth 40000 in
theorem ok_t_XP_readStatements_7 : pe_ckB (pe_GA []) pe_cl pe_ckA t_XP_readStatements (td_t_XP_readStatements 7).1 (td_t_XP_readStatements 7).2 = true := by decide +kernel
set_option maxRecDepth 40000 in
theorem ok_t_XP_readStatements_8 : pe_ckB (pe_GA []) pe_cl pe_ckA t_XP_readStatements (td_t_XP_readStatements 8).1 (td_t_XP_readStatements 8).2 = true := by decide +kernel
set_option maxRecDepth 40000 in
theorem ok_t_XP_readStatements_9 : pe_ckB (pe_GA []) pe_cl pe_ckA t_XP_readStatements (td_t_XP_readStatements 9).1 (td_t_XP_readStatements 9).2 = true := by decide +kernel
set_option maxRecDepth 40000 in
theorem ok_t_XP_readStatements_10 : pe_ckB (pe_GA []) pe_cl pe_ckA t_XP_readStatements (td_t_XP_readStatements 10).1 (td_t_XP_readStatements 10).2 = true := by decide +kernel
set_option maxRecDepth 40000 in
theorem ok_t_XP_readStatements_11 : pe_ckB (pe_GA []) pe_cl pe_ckA t_XP_readStatements (td_t_XP_readStatements 11).1 (td_t_XP_readStatements 11).2 = true := by decide +kernel
theorem ok_t_XP_readStatements_a : ∀ b ∈ t_XP_readStatements.bl, pe_ckB (pe_GA []) pe_cl pe_ckA t_XP_readStatements b.1 b.2 = true := by
  intro b hb
  obtain ⟨n, hn⟩ := List.getElem?_of_mem hb
  rw [← pe_at_eq] at hn
  match n, hn with
  | 0, hn =>
    have h2 : td_t_XP_readStatements 0 = b := by unfold td_t_XP_readStatements; rw [hn]; rfl
    rw [← h2]; exact ok_t_XP_readStatements_0
  | 1, hn =>
    have h2 : td_t_XP_readStatements 1 = b := by unfold td_t_XP_readStatements; rw [hn]; rfl
    rw [← h2]; exact ok_t_XP_readStatements_1
  | 2, hn =>
    have h2 : td_t_XP_readStatements 2 = b := by unfold td_t_XP_readStatements; rw [hn]; rfl
    rw [← h2]; exact ok_t_XP_readStatements_2
  | 3, hn =>
    have h2 : td_t_XP_readStatements 3 = b := by unfold td_t_XP_readStatements; rw [hn]; rfl
    rw [← h2]; exact ok_t_XP_readStatements_3
  | 4, hn =>
    have h2 : td_t_XP_readStatements 4 = b := by unfold td_t_XP_readStatements; rw [hn]; rfl
    rw [← h2]; exact ok_t_XP_readStatements_4
  | 5, hn =>
    have h2 : td_t_XP_readStatements 5 = b := by unfold td_t_XP_readStatements; rw [hn]; rfl
    rw [← h2]; exact ok_t_XP_readStatements_5
  | 6, hn =>
    have h2 : td_t_XP_readStatements 6 = b := by unfold td_t_XP_readStatements; rw [hn]; rfl
    rw [← h2]; exact ok_t_XP_readStatements_6
  | 7, hn =>
    have h2 : td_t_XP_readStatements 7 = b := by unfold td_t_XP_readStatements; rw [hn]; rfl
    rw [← h2]; exact ok_t_XP_readStatements_7
  | 8, hn =>
    have h2 : td_t_XP_readStatements 8 = b := by unfold td_t_XP_readStatements; rw [hn]; rfl
    rw [← h2]; exact ok_t_XP_readStatements_8
  | 9, hn =>
    have h2 : td_t_XP_readStatements 9 = b := by unfold td_t_XP_readStatements; rw [hn]; rfl
    rw [← h2]; exact ok_t_XP_readStatements_9
  | 10, hn =>
    have h2 : td_t_XP_readStatements 10 = b := by unfold td_t_XP_readStatements; rw [hn]; rfl
    rw [← h2]; exact ok_t_XP_readStatements_10
  | 11, hn =>
    have h2 : td_t_XP_readStatements 11 = b := by unfold td_t_XP_readStatements; rw [hn]; rfl
    rw [← h2]; exact ok_t_XP_readStatements_11
  | n + 12, hn =>
    rw [pe_at_eq] at hn
    exact absurd (List.getElem?_eq_some_iff.mp hn).1 (by show ¬ n + 12 < 12; omega)
theorem ok_t_XP_readStatements : pe_okM (pe_GA []) pe_cl pe_ckA t_XP_readStatements = true := pe_okM_mk (pe_w_of (by rfl) (by rfl)) (by decide +kernel) ok_t_XP_readStatements_a
set_option maxRecDepth 40000 in
theorem ok_t_XP_endFunction : pe_okM (pe_GA []) pe_cl pe_ckA t_XP_endFunction = true := by decide +kernel
set_option maxRecDepth 40000 in
theorem ok_t_JM_max : pe_okM (pe_GA []) pe_cl pe_ckA t_JM_max = true := by decide +kernel
set_option maxRecDepth 40000 in
theorem ok_t_JA_copyOf_2 : pe_okM (pe_GA []) pe_cl pe_ckA t_JA_copyOf_2 = true := by decide +kernel
set_option maxRecDepth 40000 in
theorem ok_t_XC_addSite : pe_okM (pe_GA []) pe_cl pe_ckA t_XC_addSite = true := by decide +kernel
def td_t_XP_resolve (k : Nat) : Nat × List pe_I := (pe_at t_XP_resolve.bl k).getD (0, [])
set_option maxRecDepth 40000 in
theorem ok_t_XP_resolve_0 : pe_ckB (pe_GA []) pe_cl pe_ckA t_XP_resolve (td_t_XP_resolve 0).1 (td_t_XP_resolve 0).2 = true := by decide +kernel
set_option maxRecDepth 40000 in
theorem ok_t_XP_resolve_1 : pe_ckB (pe_GA []) pe_cl pe_ckA t_XP_resolve (td_t_XP_resolve 1).1 (td_t_XP_resolve 1).2 = true := by decide +kernel
set_option maxRecDepth 40000 in
theorem ok_t_XP_resolve_2 : pe_ckB (pe_GA []) pe_cl pe_ckA t_XP_resolve (td_t_XP_resolve 2).1 (td_t_XP_resolve 2).2 = true := by decide +kernel
set_option maxRecDepth 40000 in
theorem ok_t_XP_resolve_3 : pe_ckB (pe_GA []) pe_cl pe_ckA t_XP_resolve (td_t_XP_resolve 3).1 (td_t_XP_resolve 3).2 = true := by decide +kernel
set_option maxRecDepth 40000 in
theorem ok_t_XP_resolve_4 : pe_ckB (pe_GA []) pe_cl pe_ckA t_XP_resolve (td_t_XP_resolve 4).1 (td_t_XP_resolve 4).2 = true := by decide +kernel
set_option maxRecDepth 40000 in
theorem ok_t_XP_resolve_5 : pe_ckB (pe_GA []) pe_cl pe_ckA t_XP_resolve (td_t_XP_resolve 5).1 (td_t_XP_resolve 5).2 = true := by decide +kernel
theorem ok_t_XP_resolve_a : ∀ b ∈ t_XP_resolve.bl, pe_ckB (pe_GA []) pe_cl pe_ckA t_XP_resolve b.1 b.2 = true := by
  intro b hb
  obtain ⟨n, hn⟩ := List.getElem?_of_mem hb
  rw [← pe_at_eq] at hn
  match n, hn with
  | 0, hn =>
    have h2 : td_t_XP_resolve 0 = b := by unfold td_t_XP_resolve; rw [hn]; rfl
    rw [← h2]; exact ok_t_XP_resolve_0
  | 1, hn =>
    have h2 : td_t_XP_resolve 1 = b := by unfold td_t_XP_resolve; rw [hn]; rfl
    rw [← h2]; exact ok_t_XP_resolve_1
  | 2, hn =>
    have h2 : td_t_XP_resolve 2 = b := by unfold td_t_XP_resolve; rw [hn]; rfl
    rw [← h2]; exact ok_t_XP_resolve_2
  | 3, hn =>
    have h2 : td_t_XP_resolve 3 = b := by unfold td_t_XP_resolve; rw [hn]; rfl
    rw [← h2]; exact ok_t_XP_resolve_3
  | 4, hn =>
    have h2 : td_t_XP_resolve 4 = b := by unfold td_t_XP_resolve; rw [hn]; rfl
    rw [← h2]; exact ok_t_XP_resolve_4
  | 5, hn =>
    have h2 : td_t_XP_resolve 5 = b := by unfold td_t_XP_resolve; rw [hn]; rfl
    rw [← h2]; exact ok_t_XP_resolve_5
  | n + 6, hn =>
    rw [pe_at_eq] at hn
    exact absurd (List.getElem?_eq_some_iff.mp hn).1 (by show ¬ n + 6 < 6; omega)
theorem ok_t_XP_resolve : pe_okM (pe_GA []) pe_cl pe_ckA t_XP_resolve = true := pe_okM_mk (pe_w_of (by rfl) (by rfl)) (by decide +kernel) ok_t_XP_resolve_a
def td_t_M_canBeginValue (k : Nat) : Nat × List pe_I := (pe_at t_M_canBeginValue.bl k).getD (0, [])
set_option maxRecDepth 40000 in
theorem ok_t_M_canBeginValue_0 : pe_ckB (pe_GA []) pe_cl pe_ckA t_M_canBeginValue (td_t_M_canBeginValue 0).1 (td_t_M_canBeginValue 0).2 = true := by decide +kernel
set_option maxRecDepth 40000 in
theorem ok_t_M_canBeginValue_1 : pe_ckB (pe_GA []) pe_cl pe_ckA t_M_canBeginValue (td_t_M_canBeginValue 1).1 (td_t_M_canBeginValue 1).2 = true := by decide +kernel
set_option maxRecDepth 40000 in
theorem ok_t_M_canBeginValue_2 : pe_ckB (pe_GA []) pe_cl pe_ckA t_M_canBeginValue (td_t_M_canBeginValue 2).1 (td_t_M_canBeginValue 2).2 = true := by decide +kernel
set_option maxRecDepth 40000 in
theorem ok_t_M_canBeginValue_3 : pe_ckB (pe_GA []) pe_cl pe_ckA t_M_canBeginValue (td_t_M_canBeginValue 3).1 (td_t_M_canBeginValue 3).2 = true := by decide +kernel
set_option maxRecDepth 40000 in
theorem ok_t_M_canBeginValue_4 : pe_ckB (pe_GA []) pe_cl pe_ckA t_M_canBeginValue (td_t_M_canBeginValue 4).1 (td_t_M_canBeginValue 4).2 = true := by decide +kernel
set_option maxRecDepth 40000 in
theorem ok_t_M_canBeginValue_5 : pe_ckB (pe_GA []) pe_cl pe_ckA t_M_canBeginValue (td_t_M_canBeginValue 5).1 (td_t_M_canBeginValue 5).2 = true := by decide +kernel
set_option maxRecDepth 40000 in
theorem ok_t_M_canBeginValue_6 : pe_ckB (pe_GA []) pe_cl pe_ckA t_M_canBeginValue (td_t_M_canBeginValue 6).1 (td_t_M_canBeginValue 6).2 = true := by decide +kernel
set_option maxRecDepth 40000 in
theorem ok_t_M_canBeginValue_7 : pe_ckB (pe_GA []) pe_cl pe_ckA t_M_canBeginValue (td_t_M_canBeginValue 7).1 (td_t_M_canBeginValue 7).2 = true := by decide +kernel
set_option maxRecDepth 40000 in
theorem ok_t_M_canBeginValue_8 : pe_ckB (pe_GA []) pe_cl pe_ckA t_M_canBeginValue (td_t_M_canBeginValue 8).1 (td_t_M_canBeginValue 8).2 = true := by decide +kernel
theorem ok_t_M_canBeginValue_a : ∀ b ∈ t_M_canBeginValue.bl, pe_ckB (pe_GA []) pe_cl pe_ckA t_M_canBeginValue b.1 b.2 = true := by
  intro b hb
  obtain ⟨n, hn⟩ := List.getElem?_of_mem hb
  rw [← pe_at_eq] at hn
  match n, hn with
  | 0, hn =>
    have h2 : td_t_M_canBeginValue 0 = b := by unfold td_t_M_canBeginValue; rw [hn]; rfl
    rw [← h2]; exact ok_t_M_canBeginValue_0
  | 1, hn =>
    have h2 : td_t_M_canBeginValue 1 = b := by unfold td_t_M_canBeginValue; rw [hn]; rfl
    rw [← h2]; exact ok_t_M_canBeginValue_1
  | 2, hn =>
    have h2 : td_t_M_canBeginValue 2 = b := by unfold td_t_M_canBeginValue; rw [hn]; rfl
    rw [← h2]; exact ok_t_M_canBeginValue_2
  | 3, hn =>
    have h2 : td_t_M_canBeginValue 3 = b := by unfold td_t_M_canBeginValue; rw [hn]; rfl
    rw [← h2]; exact ok_t_M_canBeginValue_3
  | 4, hn =>
    have h2 : td_t_M_canBeginValue 4 = b := by unfold td_t_M_canBeginValue; rw [hn]; rfl
    rw [← h2]; exact ok_t_M_canBeginValue_4
  | 5, hn =>
    have h2 : td_t_M_canBeginValue 5 = b := by unfold td_t_M_canBeginValue; rw [hn]; rfl
    rw [← h2]; exact ok_t_M_canBeginValue_5
  | 6, hn =>
    have h2 : td_t_M_canBeginValue 6 = b := by unfold td_t_M_canBeginValue; rw [hn]; rfl
    rw [← h2]; exact ok_t_M_canBeginValue_6
  | 7, hn =>
    have h2 : td_t_M_canBeginValue 7 = b := by unfold td_t_M_canBeginValue; rw [hn]; rfl
    rw [← h2]; exact ok_t_M_canBeginValue_7
  | 8, hn =>
    have h2 : td_t_M_canBeginValue 8 = b := by unfold td_t_M_canBeginValue; rw [hn]; rfl
    rw [← h2]; exact ok_t_M_canBeginValue_8
  | n + 9, hn =>
    rw [pe_at_eq] at hn
    exact absurd (List.getElem?_eq_some_iff.mp hn).1 (by show ¬ n + 9 < 9; omega)
theorem ok_t_M_canBeginValue : pe_okM (pe_GA []) pe_cl pe_ckA t_M_canBeginValue = true := pe_okM_mk (pe_w_of (by rfl) (by rfl)) (by decide +kernel) ok_t_M_canBeginValue_a
set_option maxRecDepth 40000 in
theorem ok_t_MP_init : pe_okM (pe_GA []) pe_cl pe_ckA t_MP_init = true := by decide +kernel
set_option maxRecDepth 40000 in
theorem ok_t_MP_begin : pe_okM (pe_GA []) pe_cl pe_ckA t_MP_begin = true := by decide +kernel
def td_t_M_declares (k : Nat) : Nat × List pe_I := (pe_at t_M_declares.bl k).getD (0, [])
set_option maxRecDepth 40000 in
theorem ok_t_M_declares_0 : pe_ckB (pe_GA []) pe_cl pe_ckA t_M_declares (td_t_M_declares 0).1 (td_t_M_declares 0).2 = true := by decide +kernel
set_option maxRecDepth 40000 in
theorem ok_t_M_declares_1 : pe_ckB (pe_GA []) pe_cl pe_ckA t_M_declares (td_t_M_declares 1).1 (td_t_M_declares 1).2 = true := by decide +kernel
set_option maxRecDepth 40000 in
theorem ok_t_M_declares_2 : pe_ckB (pe_GA []) pe_cl pe_ckA t_M_declares (td_t_M_declares 2).1 (td_t_M_declares 2).2 = true := by decide +kernel
set_option maxRecDepth 40000 in
theorem ok_t_M_declares_3 : pe_ckB (pe_GA []) pe_cl pe_ckA t_M_declares (td_t_M_declares 3).1 (td_t_M_declares 3).2 = true := by decide +kernel
set_option maxRecDepth 40000 in
theorem ok_t_M_declares_4 : pe_ckB (pe_GA []) pe_cl pe_ckA t_M_declares (td_t_M_declares 4).1 (td_t_M_declares 4).2 = true := by decide +kernel
set_option maxRecDepth 40000 in
theorem ok_t_M_declares_5 : pe_ckB (pe_GA []) pe_cl pe_ckA t_M_declares (td_t_M_declares 5).1 (td_t_M_declares 5).2 = true := by decide +kernel
set_option maxRecDepth 40000 in
theorem ok_t_M_declares_6 : pe_ckB (pe_GA []) pe_cl pe_ckA t_M_declares (td_t_M_declares 6).1 (td_t_M_declares 6).2 = true := by decide +kernel
set_option maxRecDepth 40000 in
theorem ok_t_M_declares_7 : pe_ckB (pe_GA []) pe_cl pe_ckA t_M_declares (td_t_M_declares 7).1 (td_t_M_declares 7).2 = true := by decide +kernel
set_option maxRecDepth 40000 in
theorem ok_t_M_declares_8 : pe_ckB (pe_GA []) pe_cl pe_ckA t_M_declares (td_t_M_declares 8).1 (td_t_M_declares 8).2 = true := by decide +kernel
set_option maxRecDepth 40000 in
theorem ok_t_M_declares_9 : pe_ckB (pe_GA []) pe_cl pe_ckA t_M_declares (td_t_M_declares 9).1 (td_t_M_declares 9).2 = true := by decide +kernel
set_option maxRecDepth 40000 in
theorem ok_t_M_declares_10 : pe_ckB (pe_GA []) pe_cl pe_ckA t_M_declares (td_t_M_declares 10).1 (td_t_M_declares 10).2 = true := by decide +kernel
theorem ok_t_M_declares_a : ∀ b ∈ t_M_declares.bl, pe_ckB (pe_GA []) pe_cl pe_ckA t_M_declares b.1 b.2 = true := by
  intro b hb
  obtain ⟨n, hn⟩ := List.getElem?_of_mem hb
  rw [← pe_at_eq] at hn
  match n, hn with
  | 0, hn =>
    have h2 : td_t_M_declares 0 = b := by unfold td_t_M_declares; rw [hn]; rfl
    rw [← h2]; exact ok_t_M_declares_0
  | 1, hn =>
    have h2 : td_t_M_declares 1 = b := by unfold td_t_M_declares; rw [hn]; rfl
    rw [← h2]; exact ok_t_M_declares_1
  | 2, hn =>
    have h2 : td_t_M_declares 2 = b := by unfold td_t_M_declares; rw [hn]; rfl
    rw [← h2]; exact ok_t_M_declares_2
  | 3, hn =>
    have h2 : td_t_M_declares 3 = b := by unfold td_t_M_declares; rw [hn]; rfl
    rw [← h2]; exact ok_t_M_declares_3
  | 4, hn =>
    have h2 : td_t_M_declares 4 = b := by unfold td_t_M_declares; rw [hn]; rfl
    rw [← h2]; exact ok_t_M_declares_4
  | 5, hn =>
    have h2 : td_t_M_declares 5 = b := by unfold td_t_M_declares; rw [hn]; rfl
    rw [← h2]; exact ok_t_M_declares_5
  | 6, hn =>
    have h2 : td_t_M_declares 6 = b := by unfold td_t_M_declares; rw [hn]; rfl
    rw [← h2]; exact ok_t_M_declares_6
  | 7, hn =>
    have h2 : td_t_M_declares 7 = b := by unfold td_t_M_declares; rw [hn]; rfl
    rw [← h2]; exact ok_t_M_declares_7
  | 8, hn =>
    have h2 : td_t_M_declares 8 = b := by unfold td_t_M_declares; rw [hn]; rfl
    rw [← h2]; exact ok_t_M_declares_8
  | 9, hn =>
    have h2 : td_t_M_declares 9 = b := by unfold td_t_M_declares; rw [hn]; rfl
    rw [← h2]; exact ok_t_M_declares_9
  | 10, hn =>
    have h2 : td_t_M_declares 10 = b := by unfold td_t_M_declares; rw [hn]; rfl
    rw [← h2]; exact ok_t_M_declares_10
  | n + 11, hn =>
    rw [pe_at_eq] at hn
    exact absurd (List.getElem?_eq_some_iff.mp hn).1 (by show ¬ n + 11 < 11; omega)
theorem ok_t_M_declares : pe_okM (pe_GA []) pe_cl pe_ckA t_M_declares = true := pe_okM_mk (pe_w_of (by rfl) (by rfl)) (by decide +kernel) ok_t_M_declares_a
def td_t_M_value (k : Nat) : Nat × List pe_I := (pe_at t_M_value.bl k).getD (0, [])
set_option maxRecDepth 40000 in
theorem ok_t_M_value_0 : pe_ckB (pe_GA []) pe_cl pe_ckA t_M_value (td_t_M_value 0).1 (td_t_M_value 0).2 = true := by decide +kernel
set_option maxRecDepth 40000 in
theorem ok_t_M_value_1 : pe_ckB (pe_GA []) pe_cl pe_ckA t_M_value (td_t_M_value 1).1 (td_t_M_value 1).2 = true := by decide +kernel
set_option maxRecDepth 40000 in
theorem ok_t_M_value_2 : pe_ckB (pe_GA []) pe_cl pe_ckA t_M_value (td_t_M_value 2).1 (td_t_M_value 2).2 = true := by decide +kernel
set_option maxRecDepth 40000 in
theorem ok_t_M_value_3 : pe_ckB (pe_GA []) pe_cl pe_ckA t_M_value (td_t_M_value 3).1 (td_t_M_value 3).2 = true := by decide +kernel
set_option maxRecDepth 40000 in
theorem ok_t_M_value_4 : pe_ckB (pe_GA []) pe_cl pe_ckA t_M_value (td_t_M_value 4).1 (td_t_M_value 4).2 = true := by decide +kernel
set_option maxRecDepth 40000 in
theorem ok_t_M_value_5 : pe_ckB (pe_GA []) pe_cl pe_ckA t_M_value (td_t_M_value 5).1 (td_t_M_value 5).2 = true := by decide +kernel
set_option maxRecDepth 40000 in
theorem ok_t_M_value_6 : pe_ckB (pe_GA []) pe_cl pe_ckA t_M_value (td_t_M_value 6).1 (td_t_M_value 6).2 = true := by decide +kernel
set_option maxRecDepth 40000 in
theorem ok_t_M_value_7 : pe_ckB (pe_GA []) pe_cl pe_ckA t_M_value (td_t_M_value 7).1 (td_t_M_value 7).2 = true := by decide +kernel
set_option maxRecDepth 40000 in
theorem ok_t_M_value_8 : pe_ckB (pe_GA []) pe_cl pe_ckA t_M_value (td_t_M_value 8).1 (td_t_M_value 8).2 = true := by decide +kernel
set_option maxRecDepth 40000 in
theorem ok_t_M_value_9 : pe_ckB (pe_GA []) pe_cl pe_ckA t_M_value (td_t_M_value 9).1 (td_t_M_value 9).2 = true := by decide +kernel
set_option maxRecDepth 40000 in
theorem ok_t_M_value_10 : pe_ckB (pe_GA []) pe_cl pe_ckA t_M_value (td_t_M_value 10).1 (td_t_M_value 10).2 = true := by decide +kernel
set_option maxRecDepth 40000 in
theorem ok_t_M_value_11 : pe_ckB (pe_GA []) pe_cl pe_ckA t_M_value (td_t_M_value 11).1 (td_t_M_value 11).2 = true := by decide +kernel
theorem ok_t_M_value_a : ∀ b ∈ t_M_value.bl, pe_ckB (pe_GA []) pe_cl pe_ckA t_M_value b.1 b.2 = true := by
  intro b hb
  obtain ⟨n, hn⟩ := List.getElem?_of_mem hb
  rw [← pe_at_eq] at hn
  match n, hn with
  | 0, hn =>
    have h2 : td_t_M_value 0 = b := by unfold td_t_M_value; rw [hn]; rfl
    rw [← h2]; exact ok_t_M_value_0
  | 1, hn =>
    have h2 : td_t_M_value 1 = b := by unfold td_t_M_value; rw [hn]; rfl
    rw [← h2]; exact ok_t_M_value_1
  | 2, hn =>
    have h2 : td_t_M_value 2 = b := by unfold td_t_M_value; rw [hn]; rfl
    rw [← h2]; exact ok_t_M_value_2
  | 3, hn =>
    have h2 : td_t_M_value 3 = b := by unfold td_t_M_value; rw [hn]; rfl
    rw [← h2]; exact ok_t_M_value_3
  | 4, hn =>
    have h2 : td_t_M_value 4 = b := by unfold td_t_M_value; rw [hn]; rfl
    rw [← h2]; exact ok_t_M_value_4
  | 5, hn =>
    have h2 : td_t_M_value 5 = b := by unfold td_t_M_value; rw [hn]; rfl
    rw [← h2]; exact ok_t_M_value_5
  | 6, hn =>
    have h2 : td_t_M_value 6 = b := by unfold td_t_M_value; rw [hn]; rfl
    rw [← h2]; exact ok_t_M_value_6
  | 7, hn =>
    have h2 : td_t_M_value 7 = b := by unfold td_t_M_value; rw [hn]; rfl
    rw [← h2]; exact ok_t_M_value_7
  | 8, hn =>
    have h2 : td_t_M_value 8 = b := by unfold td_t_M_value; rw [hn]; rfl
    rw [← h2]; exact ok_t_M_value_8
  | 9, hn =>
    have h2 : td_t_M_value 9 = b := by unfold td_t_M_value; rw [hn]; rfl
    rw [← h2]; exact ok_t_M_value_9
  | 10, hn =>
    have h2 : td_t_M_value 10 = b := by unfold td_t_M_value; rw [hn]; rfl
    rw [← h2]; exact ok_t_M_value_10
  | 11, hn =>
    have h2 : td_t_M_value 11 = b := by unfold td_t_M_value; rw [hn]; rfl
    rw [← h2]; exact ok_t_M_value_11
  | n + 12, hn =>
    rw [pe_at_eq] at hn
    exact absurd (List.getElem?_eq_some_iff.mp hn).1 (by show ¬ n + 12 < 12; omega)
theorem ok_t_M_value : pe_okM (pe_GA []) pe_cl pe_ckA t_M_value = true := pe_okM_mk (pe_w_of (by rfl) (by rfl)) (by decide +kernel) ok_t_M_value_a
set_option maxRecDepth 40000 in
theorem ok_t_M_emits : pe_okM (pe_GA []) pe_cl pe_ckA t_M_emits = true := by decide +kernel
set_option maxRecDepth 40000 in
theorem ok_t_M_readsFunction : pe_okM (pe_GA []) pe_cl pe_ckA t_M_readsFunction = true := by decide +kernel
def td_t_M_choice (k : Nat) : Nat × List pe_I := (pe_at t_M_choice.bl k).getD (0, [])
set_option maxRecDepth 40000 in
theorem ok_t_M_choice_0 : pe_ckB (pe_GA []) pe_cl pe_ckA t_M_choice (td_t_M_choice 0).1 (td_t_M_choice 0).2 = true := by decide +kernel
set_option maxRecDepth 40000 in
theorem ok_t_M_choice_1 : pe_ckB (pe_GA []) pe_cl pe_ckA t_M_choice (td_t_M_choice 1).1 (td_t_M_choice 1).2 = true := by decide +kernel
set_option maxRecDepth 40000 in
theorem ok_t_M_choice_2 : pe_ckB (pe_GA []) pe_cl pe_ckA t_M_choice (td_t_M_choice 2).1 (td_t_M_choice 2).2 = true := by decide +kernel
set_option maxRecDepth 40000 in
theorem ok_t_M_choice_3 : pe_ckB (pe_GA []) pe_cl pe_ckA t_M_choice (td_t_M_choice 3).1 (td_t_M_choice 3).2 = true := by decide +kernel
set_option maxRecDepth 40000 in
theorem ok_t_M_choice_4 : pe_ckB (pe_GA []) pe_cl pe_ckA t_M_choice (td_t_M_choice 4).1 (td_t_M_choice 4).2 = true := by decide +kernel
set_option maxRecDepth 40000 in
theorem ok_t_M_choice_5 : pe_ckB (pe_GA []) pe_cl pe_ckA t_M_choice (td_t_M_choice 5).1 (td_t_M_choice 5).2 = true := by decide +kernel
set_option maxRecDepth 40000 in
theorem ok_t_M_choice_6 : pe_ckB (pe_GA []) pe_cl pe_ckA t_M_choice (td_t_M_choice 6).1 (td_t_M_choice 6).2 = true := by decide +kernel
set_option maxRecDepth 40000 in
theorem ok_t_M_choice_7 : pe_ckB (pe_GA []) pe_cl pe_ckA t_M_choice (td_t_M_choice 7).1 (td_t_M_choice 7).2 = true := by decide +kernel
set_option maxRecDepth 40000 in
theorem ok_t_M_choice_8 : pe_ckB (pe_GA []) pe_cl pe_ckA t_M_choice (td_t_M_choice 8).1 (td_t_M_choice 8).2 = true := by decide +kernel
set_option maxRecDepth 40000 in
theorem ok_t_M_choice_9 : pe_ckB (pe_GA []) pe_cl pe_ckA t_M_choice (td_t_M_choice 9).1 (td_t_M_choice 9).2 = true := by decide +kernel
theorem ok_t_M_choice_a : ∀ b ∈ t_M_choice.bl, pe_ckB (pe_GA []) pe_cl pe_ckA t_M_choice b.1 b.2 = true := by
  intro b hb
  obtain ⟨n, hn⟩ := List.getElem?_of_mem hb
  rw [← pe_at_eq] at hn
  match n, hn with
  | 0, hn =>
    have h2 : td_t_M_choice 0 = b := by unfold td_t_M_choice; rw [hn]; rfl
    rw [← h2]; exact ok_t_M_choice_0
  | 1, hn =>
    have h2 : td_t_M_choice 1 = b := by unfold td_t_M_choice; rw [hn]; rfl
    rw [← h2]; exact ok_t_M_choice_1
  | 2, hn =>
    have h2 : td_t_M_choice 2 = b := by unfold td_t_M_choice; rw [hn]; rfl
    rw [← h2]; exact ok_t_M_choice_2
  | 3, hn =>
    have h2 : td_t_M_choice 3 = b := by unfold td_t_M_choice; rw [hn]; rfl
    rw [← h2]; exact ok_t_M_choice_3
  | 4, hn =>
    have h2 : td_t_M_choice 4 = b := by unfold td_t_M_choice; rw [hn]; rfl
    rw [← h2]; exact ok_t_M_choice_4
  | 5, hn =>
    have h2 : td_t_M_choice 5 = b := by unfold td_t_M_choice; rw [hn]; rfl
    rw [← h2]; exact ok_t_M_choice_5
  | 6, hn =>
    have h2 : td_t_M_choice 6 = b := by unfold td_t_M_choice; rw [hn]; rfl
    rw [← h2]; exact ok_t_M_choice_6
  | 7, hn =>
    have h2 : td_t_M_choice 7 = b := by unfold td_t_M_choice; rw [hn]; rfl
    rw [← h2]; exact ok_t_M_choice_7
  | 8, hn =>
    have h2 : td_t_M_choice 8 = b := by unfold td_t_M_choice; rw [hn]; rfl
    rw [← h2]; exact ok_t_M_choice_8
  | 9, hn =>
    have h2 : td_t_M_choice 9 = b := by unfold td_t_M_choice; rw [hn]; rfl
    rw [← h2]; exact ok_t_M_choice_9
  | n + 10, hn =>
    rw [pe_at_eq] at hn
    exact absurd (List.getElem?_eq_some_iff.mp hn).1 (by show ¬ n + 10 < 10; omega)
theorem ok_t_M_choice : pe_okM (pe_GA []) pe_cl pe_ckA t_M_choice = true := pe_okM_mk (pe_w_of (by rfl) (by rfl)) (by decide +kernel) ok_t_M_choice_a
set_option maxRecDepth 40000 in
theorem ok_t_M_opens : pe_okM (pe_GA []) pe_cl pe_ckA t_M_opens = true := by decide +kernel
set_option maxRecDepth 40000 in
theorem ok_t_M_closes : pe_okM (pe_GA []) pe_cl pe_ckA t_M_closes = true := by decide +kernel
set_option maxRecDepth 40000 in
theorem ok_t_M_block : pe_okM (pe_GA []) pe_cl pe_ckA t_M_block = true := by decide +kernel
set_option maxRecDepth 40000 in
theorem ok_t_MI_set : pe_okM (pe_GA []) pe_cl pe_ckA t_MI_set = true := by decide +kernel
set_option maxRecDepth 40000 in
theorem ok_t_M_leaves : pe_okM (pe_GA []) pe_cl pe_ckA t_M_leaves = true := by decide +kernel
def td_t_M_tries (k : Nat) : Nat × List pe_I := (pe_at t_M_tries.bl k).getD (0, [])
set_option maxRecDepth 40000 in
theorem ok_t_M_tries_0 : pe_ckB (pe_GA []) pe_cl pe_ckA t_M_tries (td_t_M_tries 0).1 (td_t_M_tries 0).2 = true := by decide +kernel
theorem ok_t_M_tries_a : ∀ b ∈ t_M_tries.bl, pe_ckB (pe_GA []) pe_cl pe_ckA t_M_tries b.1 b.2 = true := by
  intro b hb
  obtain ⟨n, hn⟩ := List.getElem?_of_mem hb
  rw [← pe_at_eq] at hn
  match n, hn with
  | 0, hn =>
    have h2 : td_t_M_tries 0 = b := by unfold td_t_M_tries; rw [hn]; rfl
    rw [← h2]; exact ok_t_M_tries_0
  | n + 1, hn =>
    rw [pe_at_eq] at hn
    exact absurd (List.getElem?_eq_some_iff.mp hn).1 (by show ¬ n + 1 < 1; omega)
theorem ok_t_M_tries : pe_okM (pe_GA []) pe_cl pe_ckA t_M_tries = true := pe_okM_mk (pe_w_of (by rfl) (by rfl)) (by decide +kernel) ok_t_M_tries_a
