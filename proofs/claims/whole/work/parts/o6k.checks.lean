/-! PART o6k: tables checked once. -/
set_option maxRecDepth 40000 in
theorem ok_t_XV_add : pe_okM (pe_GA []) pe_cl pe_ckA t_XV_add = true := by decide +kernel
set_option maxRecDepth 40000 in
theorem ok_t_M_addName : pe_okM (pe_GA []) pe_cl pe_ckA t_M_addName = true := by decide +kernel
def td_t_M_typeOf (k : Nat) : Nat × List pe_I := (pe_at t_M_typeOf.bl k).getD (0, [])
set_option maxRecDepth 40000 in
theorem ok_t_M_typeOf_0 : pe_ckB (pe_GA []) pe_cl pe_ckA t_M_typeOf (td_t_M_typeOf 0).1 (td_t_M_typeOf 0).2 = true := by decide +kernel
set_option maxRecDepth 40000 in
theorem ok_t_M_typeOf_1 : pe_ckB (pe_GA []) pe_cl pe_ckA t_M_typeOf (td_t_M_typeOf 1).1 (td_t_M_typeOf 1).2 = true := by decide +kernel
set_option maxRecDepth 40000 in
theorem ok_t_M_typeOf_2 : pe_ckB (pe_GA []) pe_cl pe_ckA t_M_typeOf (td_t_M_typeOf 2).1 (td_t_M_typeOf 2).2 = true := by decide +kernel
set_option maxRecDepth 40000 in
theorem ok_t_M_typeOf_3 : pe_ckB (pe_GA []) pe_cl pe_ckA t_M_typeOf (td_t_M_typeOf 3).1 (td_t_M_typeOf 3).2 = true := by decide +kernel
set_option maxRecDepth 40000 in
theorem ok_t_M_typeOf_4 : pe_ckB (pe_GA []) pe_cl pe_ckA t_M_typeOf (td_t_M_typeOf 4).1 (td_t_M_typeOf 4).2 = true := by decide +kernel
set_option maxRecDepth 40000 in
theorem ok_t_M_typeOf_5 : pe_ckB (pe_GA []) pe_cl pe_ckA t_M_typeOf (td_t_M_typeOf 5).1 (td_t_M_typeOf 5).2 = true := by decide +kernel
set_option maxRecDepth 40000 in
theorem ok_t_M_typeOf_6 : pe_ckB (pe_GA []) pe_cl pe_ckA t_M_typeOf (td_t_M_typeOf 6).1 (td_t_M_typeOf 6).2 = true := by decide +kernel
set_option maxRecDepth 40000 in
theorem ok_t_M_typeOf_7 : pe_ckB (pe_GA []) pe_cl pe_ckA t_M_typeOf (td_t_M_typeOf 7).1 (td_t_M_typeOf 7).2 = true := by decide +kernel
set_option maxRecDepth 40000 in
theorem ok_t_M_typeOf_8 : pe_ckB (pe_GA []) pe_cl pe_ckA t_M_typeOf (td_t_M_typeOf 8).1 (td_t_M_typeOf 8).2 = true := by decide +kernel
theorem ok_t_M_typeOf_a : ∀ b ∈ t_M_typeOf.bl, pe_ckB (pe_GA []) pe_cl pe_ckA t_M_typeOf b.1 b.2 = true := by
  intro b hb
  obtain ⟨n, hn⟩ := List.getElem?_of_mem hb
  rw [← pe_at_eq] at hn
  match n, hn with
  | 0, hn =>
    have h2 : td_t_M_typeOf 0 = b := by unfold td_t_M_typeOf; rw [hn]; rfl
    rw [← h2]; exact ok_t_M_typeOf_0
  | 1, hn =>
    have h2 : td_t_M_typeOf 1 = b := by unfold td_t_M_typeOf; rw [hn]; rfl
    rw [← h2]; exact ok_t_M_typeOf_1
  | 2, hn =>
    have h2 : td_t_M_typeOf 2 = b := by unfold td_t_M_typeOf; rw [hn]; rfl
    rw [← h2]; exact ok_t_M_typeOf_2
  | 3, hn =>
    have h2 : td_t_M_typeOf 3 = b := by unfold td_t_M_typeOf; rw [hn]; rfl
    rw [← h2]; exact ok_t_M_typeOf_3
  | 4, hn =>
    have h2 : td_t_M_typeOf 4 = b := by unfold td_t_M_typeOf; rw [hn]; rfl
    rw [← h2]; exact ok_t_M_typeOf_4
  | 5, hn =>
    have h2 : td_t_M_typeOf 5 = b := by unfold td_t_M_typeOf; rw [hn]; rfl
    rw [← h2]; exact ok_t_M_typeOf_5
  | 6, hn =>
    have h2 : td_t_M_typeOf 6 = b := by unfold td_t_M_typeOf; rw [hn]; rfl
    rw [← h2]; exact ok_t_M_typeOf_6
  | 7, hn =>
    have h2 : td_t_M_typeOf 7 = b := by unfold td_t_M_typeOf; rw [hn]; rfl
    rw [← h2]; exact ok_t_M_typeOf_7
  | 8, hn =>
    have h2 : td_t_M_typeOf 8 = b := by unfold td_t_M_typeOf; rw [hn]; rfl
    rw [← h2]; exact ok_t_M_typeOf_8
  | n + 9, hn =>
    rw [pe_at_eq] at hn
    exact absurd (List.getElem?_eq_some_iff.mp hn).1 (by show ¬ n + 9 < 9; omega)
theorem ok_t_M_typeOf : pe_okM (pe_GA []) pe_cl pe_ckA t_M_typeOf = true := pe_okM_mk (pe_w_of (by rfl) (by rfl)) (by decide +kernel) ok_t_M_typeOf_a
def td_t_M_looksAtThing (k : Nat) : Nat × List pe_I := (pe_at t_M_looksAtThing.bl k).getD (0, [])
set_option maxRecDepth 40000 in
theorem ok_t_M_looksAtThing_0 : pe_ckB (pe_GA []) pe_cl pe_ckA t_M_looksAtThing (td_t_M_looksAtThing 0).1 (td_t_M_looksAtThing 0).2 = true := by decide +kernel
set_option maxRecDepth 40000 in
theorem ok_t_M_looksAtThing_1 : pe_ckB (pe_GA []) pe_cl pe_ckA t_M_looksAtThing (td_t_M_looksAtThing 1).1 (td_t_M_looksAtThing 1).2 = true := by decide +kernel
set_option maxRecDepth 40000 in
theorem ok_t_M_looksAtThing_2 : pe_ckB (pe_GA []) pe_cl pe_ckA t_M_looksAtThing (td_t_M_looksAtThing 2).1 (td_t_M_looksAtThing 2).2 = true := by decide +kernel
set_option maxRecDepth 40000 in
theorem ok_t_M_looksAtThing_3 : pe_ckB (pe_GA []) pe_cl pe_ckA t_M_looksAtThing (td_t_M_looksAtThing 3).1 (td_t_M_looksAtThing 3).2 = true := by decide +kernel
set_option maxRecDepth 40000 in
theorem ok_t_M_looksAtThing_4 : pe_ckB (pe_GA []) pe_cl pe_ckA t_M_looksAtThing (td_t_M_looksAtThing 4).1 (td_t_M_looksAtThing 4).2 = true := by decide +kernel
set_option maxRecDepth 40000 in
theorem ok_t_M_looksAtThing_5 : pe_ckB (pe_GA []) pe_cl pe_ckA t_M_looksAtThing (td_t_M_looksAtThing 5).1 (td_t_M_looksAtThing 5).2 = true := by decide +kernel
set_option maxRecDepth 40000 in
theorem ok_t_M_looksAtThing_6 : pe_ckB (pe_GA []) pe_cl pe_ckA t_M_looksAtThing (td_t_M_looksAtThing 6).1 (td_t_M_looksAtThing 6).2 = true := by decide +kernel
set_option maxRecDepth 40000 in
theorem ok_t_M_looksAtThing_7 : pe_ckB (pe_GA []) pe_cl pe_ckA t_M_looksAtThing (td_t_M_looksAtThing 7).1 (td_t_M_looksAtThing 7).2 = true := by decide +kernel
set_option maxRecDepth 40000 in
theorem ok_t_M_looksAtThing_8 : pe_ckB (pe_GA []) pe_cl pe_ckA t_M_looksAtThing (td_t_M_looksAtThing 8).1 (td_t_M_looksAtThing 8).2 = true := by decide +kernel
set_option maxRecDepth 40000 in
theorem ok_t_M_looksAtThing_9 : pe_ckB (pe_GA []) pe_cl pe_ckA t_M_looksAtThing (td_t_M_looksAtThing 9).1 (td_t_M_looksAtThing 9).2 = true := by decide +kernel
set_option maxRecDepth 40000 in
theorem ok_t_M_looksAtThing_10 : pe_ckB (pe_GA []) pe_cl pe_ckA t_M_looksAtThing (td_t_M_looksAtThing 10).1 (td_t_M_looksAtThing 10).2 = true := by decide +kernel
set_option maxRecDepth 40000 in
theorem ok_t_M_looksAtThing_11 : pe_ckB (pe_GA []) pe_cl pe_ckA t_M_looksAtThing (td_t_M_looksAtThing 11).1 (td_t_M_looksAtThing 11).2 = true := by decide +kernel
set_option maxRecDepth 40000 in
theorem ok_t_M_looksAtThing_12 : pe_ckB (pe_GA []) pe_cl pe_ckA t_M_looksAtThing (td_t_M_looksAtThing 12).1 (td_t_M_looksAtThing 12).2 = true := by decide +kernel
set_option maxRecDepth 40000 in
theorem ok_t_M_looksAtThing_13 : pe_ckB (pe_GA []) pe_cl pe_ckA t_M_looksAtThing (td_t_M_looksAtThing 13).1 (td_t_M_looksAtThing 13).2 = true := by decide +kernel
set_option maxRecDepth 40000 in
theorem ok_t_M_looksAtThing_14 : pe_ckB (pe_GA []) pe_cl pe_ckA t_M_looksAtThing (td_t_M_looksAtThing 14).1 (td_t_M_looksAtThing 14).2 = true := by decide +kernel
set_option maxRecDepth 40000 in
theorem ok_t_M_looksAtThing_15 : pe_ckB (pe_GA []) pe_cl pe_ckA t_M_looksAtThing (td_t_M_looksAtThing 15).1 (td_t_M_looksAtThing 15).2 = true := by decide +kernel
set_option maxRecDepth 40000 in
theorem ok_t_M_looksAtThing_16 : pe_ckB (pe_GA []) pe_cl pe_ckA t_M_looksAtThing (td_t_M_looksAtThing 16).1 (td_t_M_looksAtThing 16).2 = true := by decide +kernel
set_option maxRecDepth 40000 in
theorem ok_t_M_looksAtThing_17 : pe_ckB (pe_GA []) pe_cl pe_ckA t_M_looksAtThing (td_t_M_looksAtThing 17).1 (td_t_M_looksAtThing 17).2 = true := by decide +kernel
set_option maxRecDepth 40000 in
theorem ok_t_M_looksAtThing_18 : pe_ckB (pe_GA []) pe_cl pe_ckA t_M_looksAtThing (td_t_M_looksAtThing 18).1 (td_t_M_looksAtThing 18).2 = true := by decide +kernel
theorem ok_t_M_looksAtThing_a : ∀ b ∈ t_M_looksAtThing.bl, pe_ckB (pe_GA []) pe_cl pe_ckA t_M_looksAtThing b.1 b.2 = true := by
  intro b hb
  obtain ⟨n, hn⟩ := List.getElem?_of_mem hb
  rw [← pe_at_eq] at hn
  match n, hn with
  | 0, hn =>
    have h2 : td_t_M_looksAtThing 0 = b := by unfold td_t_M_looksAtThing; rw [hn]; rfl
    rw [← h2]; exact ok_t_M_looksAtThing_0
  | 1, hn =>
    have h2 : td_t_M_looksAtThing 1 = b := by unfold td_t_M_looksAtThing; rw [hn]; rfl
    rw [← h2]; exact ok_t_M_looksAtThing_1
  | 2, hn =>
    have h2 : td_t_M_looksAtThing 2 = b := by unfold td_t_M_looksAtThing; rw [hn]; rfl
    rw [← h2]; exact ok_t_M_looksAtThing_2
  | 3, hn =>
    have h2 : td_t_M_looksAtThing 3 = b := by unfold td_t_M_looksAtThing; rw [hn]; rfl
    rw [← h2]; exact ok_t_M_looksAtThing_3
  | 4, hn =>
    have h2 : td_t_M_looksAtThing 4 = b := by unfold td_t_M_looksAtThing; rw [hn]; rfl
    rw [← h2]; exact ok_t_M_looksAtThing_4
  | 5, hn =>
    have h2 : td_t_M_looksAtThing 5 = b := by unfold td_t_M_looksAtThing; rw [hn]; rfl
    rw [← h2]; exact ok_t_M_looksAtThing_5
  | 6, hn =>
    have h2 : td_t_M_looksAtThing 6 = b := by unfold td_t_M_looksAtThing; rw [hn]; rfl
    rw [← h2]; exact ok_t_M_looksAtThing_6
  | 7, hn =>
    have h2 : td_t_M_looksAtThing 7 = b := by unfold td_t_M_looksAtThing; rw [hn]; rfl
    rw [← h2]; exact ok_t_M_looksAtThing_7
  | 8, hn =>
    have h2 : td_t_M_looksAtThing 8 = b := by unfold td_t_M_looksAtThing; rw [hn]; rfl
    rw [← h2]; exact ok_t_M_looksAtThing_8
  | 9, hn =>
    have h2 : td_t_M_looksAtThing 9 = b := by unfold td_t_M_looksAtThing; rw [hn]; rfl
    rw [← h2]; exact ok_t_M_looksAtThing_9
  | 10, hn =>
    have h2 : td_t_M_looksAtThing 10 = b := by unfold td_t_M_looksAtThing; rw [hn]; rfl
    rw [← h2]; exact ok_t_M_looksAtThing_10
  | 11, hn =>
    have h2 : td_t_M_looksAtThing 11 = b := by unfold td_t_M_looksAtThing; rw [hn]; rfl
    rw [← h2]; exact ok_t_M_looksAtThing_11
  | 12, hn =>
    have h2 : td_t_M_looksAtThing 12 = b := by unfold td_t_M_looksAtThing; rw [hn]; rfl
    rw [← h2]; exact ok_t_M_looksAtThing_12
  | 13, hn =>
    have h2 : td_t_M_looksAtThing 13 = b := by unfold td_t_M_looksAtThing; rw [hn]; rfl
    rw [← h2]; exact ok_t_M_looksAtThing_13
  | 14, hn =>
    have h2 : td_t_M_looksAtThing 14 = b := by unfold td_t_M_looksAtThing; rw [hn]; rfl
    rw [← h2]; exact ok_t_M_looksAtThing_14
  | 15, hn =>
    have h2 : td_t_M_looksAtThing 15 = b := by unfold td_t_M_looksAtThing; rw [hn]; rfl
    rw [← h2]; exact ok_t_M_looksAtThing_15
  | 16, hn =>
    have h2 : td_t_M_looksAtThing 16 = b := by unfold td_t_M_looksAtThing; rw [hn]; rfl
    rw [← h2]; exact ok_t_M_looksAtThing_16
  | 17, hn =>
    have h2 : td_t_M_looksAtThing 17 = b := by unfold td_t_M_looksAtThing; rw [hn]; rfl
    rw [← h2]; exact ok_t_M_looksAtThing_17
  | 18, hn =>
    have h2 : td_t_M_looksAtThing 18 = b := by unfold td_t_M_looksAtThing; rw [hn]; rfl
    rw [← h2]; exact ok_t_M_looksAtThing_18
  | n + 19, hn =>
    rw [pe_at_eq] at hn
    exact absurd (List.getElem?_eq_some_iff.mp hn).1 (by show ¬ n + 19 < 19; omega)
theorem ok_t_M_looksAtThing : pe_okM (pe_GA []) pe_cl pe_ckA t_M_looksAtThing = true := pe_okM_mk (pe_w_of (by rfl) (by rfl)) (by decide +kernel) ok_t_M_looksAtThing_a
def td_t_M_looksAtRow (k : Nat) : Nat × List pe_I := (pe_at t_M_looksAtRow.bl k).getD (0, [])
set_option maxRecDepth 40000 in
theorem ok_t_M_looksAtRow_0 : pe_ckB (pe_GA []) pe_cl pe_ckA t_M_looksAtRow (td_t_M_looksAtRow 0).1 (td_t_M_looksAtRow 0).2 = true := by decide +kernel
set_option maxRecDepth 40000 in
theorem ok_t_M_looksAtRow_1 : pe_ckB (pe_GA []) pe_cl pe_ckA t_M_looksAtRow (td_t_M_looksAtRow 1).1 (td_t_M_looksAtRow 1).2 = true := by decide +kernel
set_option maxRecDepth 40000 in
theorem ok_t_M_looksAtRow_2 : pe_ckB (pe_GA []) pe_cl pe_ckA t_M_looksAtRow (td_t_M_looksAtRow 2).1 (td_t_M_looksAtRow 2).2 = true := by decide +kernel
set_option maxRecDepth 40000 in
theorem ok_t_M_looksAtRow_3 : pe_ckB (pe_GA []) pe_cl pe_ckA t_M_looksAtRow (td_t_M_looksAtRow 3).1 (td_t_M_looksAtRow 3).2 = true := by decide +kernel
set_option maxRecDepth 40000 in
theorem ok_t_M_looksAtRow_4 : pe_ckB (pe_GA []) pe_cl pe_ckA t_M_looksAtRow (td_t_M_looksAtRow 4).1 (td_t_M_looksAtRow 4).2 = true := by decide +kernel
set_option maxRecDepth 40000 in
theorem ok_t_M_looksAtRow_5 : pe_ckB (pe_GA []) pe_cl pe_ckA t_M_looksAtRow (td_t_M_looksAtRow 5).1 (td_t_M_looksAtRow 5).2 = true := by decide +kernel
set_option maxRecDepth 40000 in
theorem ok_t_M_looksAtRow_6 : pe_ckB (pe_GA []) pe_cl pe_ckA t_M_looksAtRow (td_t_M_looksAtRow 6).1 (td_t_M_looksAtRow 6).2 = true := by decide +kernel
set_option maxRecDepth 40000 in
theorem ok_t_M_looksAtRow_7 : pe_ckB (pe_GA []) pe_cl pe_ckA t_M_looksAtRow (td_t_M_looksAtRow 7).1 (td_t_M_looksAtRow 7).2 = true := by decide +kernel
set_option maxRecDepth 40000 in
theorem ok_t_M_looksAtRow_8 : pe_ckB (pe_GA []) pe_cl pe_ckA t_M_looksAtRow (td_t_M_looksAtRow 8).1 (td_t_M_looksAtRow 8).2 = true := by decide +kernel
set_option maxRecDepth 40000 in
theorem ok_t_M_looksAtRow_9 : pe_ckB (pe_GA []) pe_cl pe_ckA t_M_looksAtRow (td_t_M_looksAtRow 9).1 (td_t_M_looksAtRow 9).2 = true := by decide +kernel
set_option maxRecDepth 40000 in
theorem ok_t_M_looksAtRow_10 : pe_ckB (pe_GA []) pe_cl pe_ckA t_M_looksAtRow (td_t_M_looksAtRow 10).1 (td_t_M_looksAtRow 10).2 = true := by decide +kernel
set_option maxRecDepth 40000 in
theorem ok_t_M_looksAtRow_11 : pe_ckB (pe_GA []) pe_cl pe_ckA t_M_looksAtRow (td_t_M_looksAtRow 11).1 (td_t_M_looksAtRow 11).2 = true := by decide +kernel
set_option maxRecDepth 40000 in
theorem ok_t_M_looksAtRow_12 : pe_ckB (pe_GA []) pe_cl pe_ckA t_M_looksAtRow (td_t_M_looksAtRow 12).1 (td_t_M_looksAtRow 12).2 = true := by decide +kernel
set_option maxRecDepth 40000 in
theorem ok_t_M_looksAtRow_13 : pe_ckB (pe_GA []) pe_cl pe_ckA t_M_looksAtRow (td_t_M_looksAtRow 13).1 (td_t_M_looksAtRow 13).2 = true := by decide +kernel
set_option maxRecDepth 40000 in
theorem ok_t_M_looksAtRow_14 : pe_ckB (pe_GA []) pe_cl pe_ckA t_M_looksAtRow (td_t_M_looksAtRow 14).1 (td_t_M_looksAtRow 14).2 = true := by decide +kernel
set_option maxRecDepth 40000 in
theorem ok_t_M_looksAtRow_15 : pe_ckB (pe_GA []) pe_cl pe_ckA t_M_looksAtRow (td_t_M_looksAtRow 15).1 (td_t_M_looksAtRow 15).2 = true := by decide +kernel
set_option maxRecDepth 40000 in
theorem ok_t_M_looksAtRow_16 : pe_ckB (pe_GA []) pe_cl pe_ckA t_M_looksAtRow (td_t_M_looksAtRow 16).1 (td_t_M_looksAtRow 16).2 = true := by decide +kernel
set_option maxRecDepth 40000 in
theorem ok_t_M_looksAtRow_17 : pe_ckB (pe_GA []) pe_cl pe_ckA t_M_looksAtRow (td_t_M_looksAtRow 17).1 (td_t_M_looksAtRow 17).2 = true := by decide +kernel
set_option maxRecDepth 40000 in
theorem ok_t_M_looksAtRow_18 : pe_ckB (pe_GA []) pe_cl pe_ckA t_M_looksAtRow (td_t_M_looksAtRow 18).1 (td_t_M_looksAtRow 18).2 = true := by decide +kernel
theorem ok_t_M_looksAtRow_a : ∀ b ∈ t_M_looksAtRow.bl, pe_ckB (pe_GA []) pe_cl pe_ckA t_M_looksAtRow b.1 b.2 = true := by
  intro b hb
  obtain ⟨n, hn⟩ := List.getElem?_of_mem hb
  rw [← pe_at_eq] at hn
  match n, hn with
  | 0, hn =>
    have h2 : td_t_M_looksAtRow 0 = b := by unfold td_t_M_looksAtRow; rw [hn]; rfl
    rw [← h2]; exact ok_t_M_looksAtRow_0
  | 1, hn =>
    have h2 : td_t_M_looksAtRow 1 = b := by unfold td_t_M_looksAtRow; rw [hn]; rfl
    rw [← h2]; exact ok_t_M_looksAtRow_1
  | 2, hn =>
    have h2 : td_t_M_looksAtRow 2 = b := by unfold td_t_M_looksAtRow; rw [hn]; rfl
    rw [← h2]; exact ok_t_M_looksAtRow_2
  | 3, hn =>
    have h2 : td_t_M_looksAtRow 3 = b := by unfold td_t_M_looksAtRow; rw [hn]; rfl
    rw [← h2]; exact ok_t_M_looksAtRow_3
  | 4, hn =>
    have h2 : td_t_M_looksAtRow 4 = b := by unfold td_t_M_looksAtRow; rw [hn]; rfl
    rw [← h2]; exact ok_t_M_looksAtRow_4
  | 5, hn =>
    have h2 : td_t_M_looksAtRow 5 = b := by unfold td_t_M_looksAtRow; rw [hn]; rfl
    rw [← h2]; exact ok_t_M_looksAtRow_5
  | 6, hn =>
    have h2 : td_t_M_looksAtRow 6 = b := by unfold td_t_M_looksAtRow; rw [hn]; rfl
    rw [← h2]; exact ok_t_M_looksAtRow_6
  | 7, hn =>
    have h2 : td_t_M_looksAtRow 7 = b := by unfold td_t_M_looksAtRow; rw [hn]; rfl
    rw [← h2]; exact ok_t_M_looksAtRow_7
  | 8, hn =>
    have h2 : td_t_M_looksAtRow 8 = b := by unfold td_t_M_looksAtRow; rw [hn]; rfl
    rw [← h2]; exact ok_t_M_looksAtRow_8
  | 9, hn =>
    have h2 : td_t_M_looksAtRow 9 = b := by unfold td_t_M_looksAtRow; rw [hn]; rfl
    rw [← h2]; exact ok_t_M_looksAtRow_9
  | 10, hn =>
    have h2 : td_t_M_looksAtRow 10 = b := by unfold td_t_M_looksAtRow; rw [hn]; rfl
    rw [← h2]; exact ok_t_M_looksAtRow_10
  | 11, hn =>
    have h2 : td_t_M_looksAtRow 11 = b := by unfold td_t_M_looksAtRow; rw [hn]; rfl
    rw [← h2]; exact ok_t_M_looksAtRow_11
  | 12, hn =>
    have h2 : td_t_M_looksAtRow 12 = b := by unfold td_t_M_looksAtRow; rw [hn]; rfl
    rw [← h2]; exact ok_t_M_looksAtRow_12
  | 13, hn =>
    have h2 : td_t_M_looksAtRow 13 = b := by unfold td_t_M_looksAtRow; rw [hn]; rfl
    rw [← h2]; exact ok_t_M_looksAtRow_13
  | 14, hn =>
    have h2 : td_t_M_looksAtRow 14 = b := by unfold td_t_M_looksAtRow; rw [hn]; rfl
    rw [← h2]; exact ok_t_M_looksAtRow_14
  | 15, hn =>
    have h2 : td_t_M_looksAtRow 15 = b := by unfold td_t_M_looksAtRow; rw [hn]; rfl
    rw [← h2]; exact ok_t_M_looksAtRow_15
  | 16, hn =>
    have h2 : td_t_M_looksAtRow 16 = b := by unfold td_t_M_looksAtRow; rw [hn]; rfl
    rw [← h2]; exact ok_t_M_looksAtRow_16
  | 17, hn =>
    have h2 : td_t_M_looksAtRow 17 = b := by unfold td_t_M_looksAtRow; rw [hn]; rfl
    rw [← h2]; exact ok_t_M_looksAtRow_17
  | 18, hn =>
    have h2 : td_t_M_looksAtRow 18 = b := by unfold td_t_M_looksAtRow; rw [hn]; rfl
    rw [← h2]; exact ok_t_M_looksAtRow_18
  | n + 19, hn =>
    rw [pe_at_eq] at hn
    exact absurd (List.getElem?_eq_some_iff.mp hn).1 (by show ¬ n + 19 < 19; omega)
theorem ok_t_M_looksAtRow : pe_okM (pe_GA []) pe_cl pe_ckA t_M_looksAtRow = true := pe_okM_mk (pe_w_of (by rfl) (by rfl)) (by decide +kernel) ok_t_M_looksAtRow_a
def td_t_M_looksAtHost (k : Nat) : Nat × List pe_I := (pe_at t_M_looksAtHost.bl k).getD (0, [])
set_option maxRecDepth 40000 in
theorem ok_t_M_looksAtHost_0 : pe_ckB (pe_GA []) pe_cl pe_ckA t_M_looksAtHost (td_t_M_looksAtHost 0).1 (td_t_M_looksAtHost 0).2 = true := by decide +kernel
set_option maxRecDepth 40000 in
theorem ok_t_M_looksAtHost_1 : pe_ckB (pe_GA []) pe_cl pe_ckA t_M_looksAtHost (td_t_M_looksAtHost 1).1 (td_t_M_looksAtHost 1).2 = true := by decide +kernel
set_option maxRecDepth 40000 in
theorem ok_t_M_looksAtHost_2 : pe_ckB (pe_GA []) pe_cl pe_ckA t_M_looksAtHost (td_t_M_looksAtHost 2).1 (td_t_M_looksAtHost 2).2 = true := by decide +kernel
set_option maxRecDepth 40000 in
theorem ok_t_M_looksAtHost_3 : pe_ckB (pe_GA []) pe_cl pe_ckA t_M_looksAtHost (td_t_M_looksAtHost 3).1 (td_t_M_looksAtHost 3).2 = true := by decide +kernel
set_option maxRecDepth 40000 in
theorem ok_t_M_looksAtHost_4 : pe_ckB (pe_GA []) pe_cl pe_ckA t_M_looksAtHost (td_t_M_looksAtHost 4).1 (td_t_M_looksAtHost 4).2 = true := by decide +kernel
set_option maxRecDepth 40000 in
theorem ok_t_M_looksAtHost_5 : pe_ckB (pe_GA []) pe_cl pe_ckA t_M_looksAtHost (td_t_M_looksAtHost 5).1 (td_t_M_looksAtHost 5).2 = true := by decide +kernel
set_option maxRecDepth 40000 in
theorem ok_t_M_looksAtHost_6 : pe_ckB (pe_GA []) pe_cl pe_ckA t_M_looksAtHost (td_t_M_looksAtHost 6).1 (td_t_M_looksAtHost 6).2 = true := by decide +kernel
set_option maxRecDepth 40000 in
theorem ok_t_M_looksAtHost_7 : pe_ckB (pe_GA []) pe_cl pe_ckA t_M_looksAtHost (td_t_M_looksAtHost 7).1 (td_t_M_looksAtHost 7).2 = true := by decide +kernel
set_option maxRecDepth 40000 in
theorem ok_t_M_looksAtHost_8 : pe_ckB (pe_GA []) pe_cl pe_ckA t_M_looksAtHost (td_t_M_looksAtHost 8).1 (td_t_M_looksAtHost 8).2 = true := by decide +kernel
set_option maxRecDepth 40000 in
theorem ok_t_M_looksAtHost_9 : pe_ckB (pe_GA []) pe_cl pe_ckA t_M_looksAtHost (td_t_M_looksAtHost 9).1 (td_t_M_looksAtHost 9).2 = true := by decide +kernel
set_option maxRecDepth 40000 in
theorem ok_t_M_looksAtHost_10 : pe_ckB (pe_GA []) pe_cl pe_ckA t_M_looksAtHost (td_t_M_looksAtHost 10).1 (td_t_M_looksAtHost 10).2 = true := by decide +kernel
set_option maxRecDepth 40000 in
theorem ok_t_M_looksAtHost_11 : pe_ckB (pe_GA []) pe_cl pe_ckA t_M_looksAtHost (td_t_M_looksAtHost 11).1 (td_t_M_looksAtHost 11).2 = true := by decide +kernel
set_option maxRecDepth 40000 in
theorem ok_t_M_looksAtHost_12 : pe_ckB (pe_GA []) pe_cl pe_ckA t_M_looksAtHost (td_t_M_looksAtHost 12).1 (td_t_M_looksAtHost 12).2 = true := by decide +kernel
set_option maxRecDepth 40000 in
theorem ok_t_M_looksAtHost_13 : pe_ckB (pe_GA []) pe_cl pe_ckA t_M_looksAtHost (td_t_M_looksAtHost 13).1 (td_t_M_looksAtHost 13).2 = true := by decide +kernel
set_option maxRecDepth 40000 in
theorem ok_t_M_looksAtHost_14 : pe_ckB (pe_GA []) pe_cl pe_ckA t_M_looksAtHost (td_t_M_looksAtHost 14).1 (td_t_M_looksAtHost 14).2 = true := by decide +kernel
theorem ok_t_M_looksAtHost_a : ∀ b ∈ t_M_looksAtHost.bl, pe_ckB (pe_GA []) pe_cl pe_ckA t_M_looksAtHost b.1 b.2 = true := by
  intro b hb
  obtain ⟨n, hn⟩ := List.getElem?_of_mem hb
  rw [← pe_at_eq] at hn
  match n, hn with
  | 0, hn =>
    have h2 : td_t_M_looksAtHost 0 = b := by unfold td_t_M_looksAtHost; rw [hn]; rfl
    rw [← h2]; exact ok_t_M_looksAtHost_0
  | 1, hn =>
    have h2 : td_t_M_looksAtHost 1 = b := by unfold td_t_M_looksAtHost; rw [hn]; rfl
    rw [← h2]; exact ok_t_M_looksAtHost_1
  | 2, hn =>
    have h2 : td_t_M_looksAtHost 2 = b := by unfold td_t_M_looksAtHost; rw [hn]; rfl
    rw [← h2]; exact ok_t_M_looksAtHost_2
  | 3, hn =>
    have h2 : td_t_M_looksAtHost 3 = b := by unfold td_t_M_looksAtHost; rw [hn]; rfl
    rw [← h2]; exact ok_t_M_looksAtHost_3
  | 4, hn =>
    have h2 : td_t_M_looksAtHost 4 = b := by unfold td_t_M_looksAtHost; rw [hn]; rfl
    rw [← h2]; exact ok_t_M_looksAtHost_4
  | 5, hn =>
    have h2 : td_t_M_looksAtHost 5 = b := by unfold td_t_M_looksAtHost; rw [hn]; rfl
    rw [← h2]; exact ok_t_M_looksAtHost_5
  | 6, hn =>
    have h2 : td_t_M_looksAtHost 6 = b := by unfold td_t_M_looksAtHost; rw [hn]; rfl
    rw [← h2]; exact ok_t_M_looksAtHost_6
  | 7, hn =>
    have h2 : td_t_M_looksAtHost 7 = b := by unfold td_t_M_looksAtHost; rw [hn]; rfl
    rw [← h2]; exact ok_t_M_looksAtHost_7
  | 8, hn =>
    have h2 : td_t_M_looksAtHost 8 = b := by unfold td_t_M_looksAtHost; rw [hn]; rfl
    rw [← h2]; exact ok_t_M_looksAtHost_8
  | 9, hn =>
    have h2 : td_t_M_looksAtHost 9 = b := by unfold td_t_M_looksAtHost; rw [hn]; rfl
    rw [← h2]; exact ok_t_M_looksAtHost_9
  | 10, hn =>
    have h2 : td_t_M_looksAtHost 10 = b := by unfold td_t_M_looksAtHost; rw [hn]; rfl
    rw [← h2]; exact ok_t_M_looksAtHost_10
  | 11, hn =>
    have h2 : td_t_M_looksAtHost 11 = b := by unfold td_t_M_looksAtHost; rw [hn]; rfl
    rw [← h2]; exact ok_t_M_looksAtHost_11
  | 12, hn =>
    have h2 : td_t_M_looksAtHost 12 = b := by unfold td_t_M_looksAtHost; rw [hn]; rfl
    rw [← h2]; exact ok_t_M_looksAtHost_12
  | 13, hn =>
    have h2 : td_t_M_looksAtHost 13 = b := by unfold td_t_M_looksAtHost; rw [hn]; rfl
    rw [← h2]; exact ok_t_M_looksAtHost_13
  | 14, hn =>
    have h2 : td_t_M_looksAtHost 14 = b := by unfold td_t_M_looksAtHost; rw [hn]; rfl
    rw [← h2]; exact ok_t_M_looksAtHost_14
  | n + 15, hn =>
    rw [pe_at_eq] at hn
    exact absurd (List.getElem?_eq_some_iff.mp hn).1 (by show ¬ n + 15 < 15; omega)
theorem ok_t_M_looksAtHost : pe_okM (pe_GA []) pe_cl pe_ckA t_M_looksAtHost = true := pe_okM_mk (pe_w_of (by rfl) (by rfl)) (by decide +kernel) ok_t_M_looksAtHost_a
def td_t_M_actsOnThing (k : Nat) : Nat × List pe_I := (pe_at t_M_actsOnThing.bl k).getD (0, [])
set_option maxRecDepth 40000 in
theorem ok_t_M_actsOnThing_0 : pe_ckB (pe_GA []) pe_cl pe_ckA t_M_actsOnThing (td_t_M_actsOnThing 0).1 (td_t_M_actsOnThing 0).2 = true := by decide +kernel
set_option maxRecDepth 40000 in
theorem ok_t_M_actsOnThing_1 : pe_ckB (pe_GA []) pe_cl pe_ckA t_M_actsOnThing (td_t_M_actsOnThing 1).1 (td_t_M_actsOnThing 1).2 = true := by decide +kernel
set_option maxRecDepth 40000 in
theorem ok_t_M_actsOnThing_2 : pe_ckB (pe_GA []) pe_cl pe_ckA t_M_actsOnThing (td_t_M_actsOnThing 2).1 (td_t_M_actsOnThing 2).2 = true := by decide +kernel
set_option maxRecDepth 40000 in
theorem ok_t_M_actsOnThing_3 : pe_ckB (pe_GA []) pe_cl pe_ckA t_M_actsOnThing (td_t_M_actsOnThing 3).1 (td_t_M_actsOnThing 3).2 = true := by decide +kernel
set_option maxRecDepth 40000 in
theorem ok_t_M_actsOnThing_4 : pe_ckB (pe_GA []) pe_cl pe_ckA t_M_actsOnThing (td_t_M_actsOnThing 4).1 (td_t_M_actsOnThing 4).2 = true := by decide +kernel
set_option maxRecDepth 40000 in
theorem ok_t_M_actsOnThing_5 : pe_ckB (pe_GA []) pe_cl pe_ckA t_M_actsOnThing (td_t_M_actsOnThing 5).1 (td_t_M_actsOnThing 5).2 = true := by decide +kernel
set_option maxRecDepth 40000 in
theorem ok_t_M_actsOnThing_6 : pe_ckB (pe_GA []) pe_cl pe_ckA t_M_actsOnThing (td_t_M_actsOnThing 6).1 (td_t_M_actsOnThing 6).2 = true := by decide +kernel
set_option maxRecDepth 40000 in
theorem ok_t_M_actsOnThing_7 : pe_ckB (pe_GA []) pe_cl pe_ckA t_M_actsOnThing (td_t_M_actsOnThing 7).1 (td_t_M_actsOnThing 7).2 = true := by decide +kernel
set_option maxRecDepth 40000 in
theorem ok_t_M_actsOnThing_8 : pe_ckB (pe_GA []) pe_cl pe_ckA t_M_actsOnThing (td_t_M_actsOnThing 8).1 (td_t_M_actsOnThing 8).2 = true := by decide +kernel
set_option maxRecDepth 40000 in
theorem ok_t_M_actsOnThing_9 : pe_ckB (pe_GA []) pe_cl pe_ckA t_M_actsOnThing (td_t_M_actsOnThing 9).1 (td_t_M_actsOnThing 9).2 = true := by decide +kernel
set_option maxRecDepth 40000 in
theorem ok_t_M_actsOnThing_10 : pe_ckB (pe_GA []) pe_cl pe_ckA t_M_actsOnThing (td_t_M_actsOnThing 10).1 (td_t_M_actsOnThing 10).2 = true := by decide +kernel
set_option maxRecDepth 40000 in
theorem ok_t_M_actsOnThing_11 : pe_ckB (pe_GA []) pe_cl pe_ckA t_M_actsOnThing (td_t_M_actsOnThing 11).1 (td_t_M_actsOnThing 11).2 = true := by decide +kernel
set_option maxRecDepth 40000 in
theorem ok_t_M_actsOnThing_12 : pe_ckB (pe_GA []) pe_cl pe_ckA t_M_actsOnThing (td_t_M_actsOnThing 12).1 (td_t_M_actsOnThing 12).2 = true := by decide +kernel
set_option maxRecDepth 40000 in
theorem ok_t_M_actsOnThing_13 : pe_ckB (pe_GA []) pe_cl pe_ckA t_M_actsOnThing (td_t_M_actsOnThing 13).1 (td_t_M_actsOnThing 13).2 = true := by decide +kernel
set_option maxRecDepth 40000 in
theorem ok_t_M_actsOnThing_14 : pe_ckB (pe_GA []) pe_cl pe_ckA t_M_actsOnThing (td_t_M_actsOnThing 14).1 (td_t_M_actsOnThing 14).2 = true := by decide +kernel
set_option maxRecDepth 40000 in
theorem ok_t_M_actsOnThing_15 : pe_ckB (pe_GA []) pe_cl pe_ckA t_M_actsOnThing (td_t_M_actsOnThing 15).1 (td_t_M_actsOnThing 15).2 = true := by decide +kernel
set_option maxRecDepth 40000 in
theorem ok_t_M_actsOnThing_16 : pe_ckB (pe_GA []) pe_cl pe_ckA t_M_actsOnThing (td_t_M_actsOnThing 16).1 (td_t_M_actsOnThing 16).2 = true := by decide +kernel
set_option maxRecDepth 40000 in
theorem ok_t_M_actsOnThing_17 : pe_ckB (pe_GA []) pe_cl pe_ckA t_M_actsOnThing (td_t_M_actsOnThing 17).1 (td_t_M_actsOnThing 17).2 = true := by decide +kernel
set_option maxRecDepth 40000 in
theorem ok_t_M_actsOnThing_18 : pe_ckB (pe_GA []) pe_cl pe_ckA t_M_actsOnThing (td_t_M_actsOnThing 18).1 (td_t_M_actsOnThing 18).2 = true := by decide +kernel
theorem ok_t_M_actsOnThing_a : ∀ b ∈ t_M_actsOnThing.bl, pe_ckB (pe_GA []) pe_cl pe_ckA t_M_actsOnThing b.1 b.2 = true := by
  intro b hb
  obtain ⟨n, hn⟩ := List.getElem?_of_mem hb
  rw [← pe_at_eq] at hn
  match n, hn with
  | 0, hn =>
    have h2 : td_t_M_actsOnThing 0 = b := by unfold td_t_M_actsOnThing; rw [hn]; rfl
    rw [← h2]; exact ok_t_M_actsOnThing_0
  | 1, hn =>
    have h2 : td_t_M_actsOnThing 1 = b := by unfold td_t_M_actsOnThing; rw [hn]; rfl
    rw [← h2]; exact ok_t_M_actsOnThing_1
  | 2, hn =>
    have h2 : td_t_M_actsOnThing 2 = b := by unfold td_t_M_actsOnThing; rw [hn]; rfl
    rw [← h2]; exact ok_t_M_actsOnThing_2
  | 3, hn =>
    have h2 : td_t_M_actsOnThing 3 = b := by unfold td_t_M_actsOnThing; rw [hn]; rfl
    rw [← h2]; exact ok_t_M_actsOnThing_3
  | 4, hn =>
    have h2 : td_t_M_actsOnThing 4 = b := by unfold td_t_M_actsOnThing; rw [hn]; rfl
    rw [← h2]; exact ok_t_M_actsOnThing_4
  | 5, hn =>
    have h2 : td_t_M_actsOnThing 5 = b := by unfold td_t_M_actsOnThing; rw [hn]; rfl
    rw [← h2]; exact ok_t_M_actsOnThing_5
  | 6, hn =>
    have h2 : td_t_M_actsOnThing 6 = b := by unfold td_t_M_actsOnThing; rw [hn]; rfl
    rw [← h2]; exact ok_t_M_actsOnThing_6
  | 7, hn =>
    have h2 : td_t_M_actsOnThing 7 = b := by unfold td_t_M_actsOnThing; rw [hn]; rfl
    rw [← h2]; exact ok_t_M_actsOnThing_7
  | 8, hn =>
    have h2 : td_t_M_actsOnThing 8 = b := by unfold td_t_M_actsOnThing; rw [hn]; rfl
    rw [← h2]; exact ok_t_M_actsOnThing_8
  | 9, hn =>
    have h2 : td_t_M_actsOnThing 9 = b := by unfold td_t_M_actsOnThing; rw [hn]; rfl
    rw [← h2]; exact ok_t_M_actsOnThing_9
  | 10, hn =>
    have h2 : td_t_M_actsOnThing 10 = b := by unfold td_t_M_actsOnThing; rw [hn]; rfl
    rw [← h2]; exact ok_t_M_actsOnThing_10
  | 11, hn =>
    have h2 : td_t_M_actsOnThing 11 = b := by unfold td_t_M_actsOnThing; rw [hn]; rfl
    rw [← h2]; exact ok_t_M_actsOnThing_11
  | 12, hn =>
    have h2 : td_t_M_actsOnThing 12 = b := by unfold td_t_M_actsOnThing; rw [hn]; rfl
    rw [← h2]; exact ok_t_M_actsOnThing_12
  | 13, hn =>
    have h2 : td_t_M_actsOnThing 13 = b := by unfold td_t_M_actsOnThing; rw [hn]; rfl
    rw [← h2]; exact ok_t_M_actsOnThing_13
  | 14, hn =>
    have h2 : td_t_M_actsOnThing 14 = b := by unfold td_t_M_actsOnThing; rw [hn]; rfl
    rw [← h2]; exact ok_t_M_actsOnThing_14
  | 15, hn =>
    have h2 : td_t_M_actsOnThing 15 = b := by unfold td_t_M_actsOnThing; rw [hn]; rfl
    rw [← h2]; exact ok_t_M_actsOnThing_15
  | 16, hn =>
    have h2 : td_t_M_actsOnThing 16 = b := by unfold td_t_M_actsOnThing; rw [hn]; rfl
    rw [← h2]; exact ok_t_M_actsOnThing_16
  | 17, hn =>
    have h2 : td_t_M_actsOnThing 17 = b := by unfold td_t_M_actsOnThing; rw [hn]; rfl
    rw [← h2]; exact ok_t_M_actsOnThing_17
  | 18, hn =>
    have h2 : td_t_M_actsOnThing 18 = b := by unfold td_t_M_actsOnThing; rw [hn]; rfl
    rw [← h2]; exact ok_t_M_actsOnThing_18
  | n + 19, hn =>
    rw [pe_at_eq] at hn
    exact absurd (List.getElem?_eq_some_iff.mp hn).1 (by show ¬ n + 19 < 19; omega)
theorem ok_t_M_actsOnThing : pe_okM (pe_GA []) pe_cl pe_ckA t_M_actsOnThing = true := pe_okM_mk (pe_w_of (by rfl) (by rfl)) (by decide +kernel) ok_t_M_actsOnThing_a
def td_t_M_actsOnRow (k : Nat) : Nat × List pe_I := (pe_at t_M_actsOnRow.bl k).getD (0, [])
set_option maxRecDepth 40000 in
theorem ok_t_M_actsOnRow_0 : pe_ckB (pe_GA []) pe_cl pe_ckA t_M_actsOnRow (td_t_M_actsOnRow 0).1 (td_t_M_actsOnRow 0).2 = true := by decide +kernel
set_option maxRecDepth 40000 in
theorem ok_t_M_actsOnRow_1 : pe_ckB (pe_GA []) pe_cl pe_ckA t_M_actsOnRow (td_t_M_actsOnRow 1).1 (td_t_M_actsOnRow 1).2 = true := by decide +kernel
set_option maxRecDepth 40000 in
theorem ok_t_M_actsOnRow_2 : pe_ckB (pe_GA []) pe_cl pe_ckA t_M_actsOnRow (td_t_M_actsOnRow 2).1 (td_t_M_actsOnRow 2).2 = true := by decide +kernel
set_option maxRecDepth 40000 in
theorem ok_t_M_actsOnRow_3 : pe_ckB (pe_GA []) pe_cl pe_ckA t_M_actsOnRow (td_t_M_actsOnRow 3).1 (td_t_M_actsOnRow 3).2 = true := by decide +kernel
set_option maxRecDepth 40000 in
theorem ok_t_M_actsOnRow_4 : pe_ckB (pe_GA []) pe_cl pe_ckA t_M_actsOnRow (td_t_M_actsOnRow 4).1 (td_t_M_actsOnRow 4).2 = true := by decide +kernel
set_option maxRecDepth 40000 in
theorem ok_t_M_actsOnRow_5 : pe_ckB (pe_GA []) pe_cl pe_ckA t_M_actsOnRow (td_t_M_actsOnRow 5).1 (td_t_M_actsOnRow 5).2 = true := by decide +kernel
set_option maxRecDepth 40000 in
theorem ok_t_M_actsOnRow_6 : pe_ckB (pe_GA []) pe_cl pe_ckA t_M_actsOnRow (td_t_M_actsOnRow 6).1 (td_t_M_actsOnRow 6).2 = true := by decide +kernel
set_option maxRecDepth 40000 in
theorem ok_t_M_actsOnRow_7 : pe_ckB (pe_GA []) pe_cl pe_ckA t_M_actsOnRow (td_t_M_actsOnRow 7).1 (td_t_M_actsOnRow 7).2 = true := by decide +kernel
set_option maxRecDepth 40000 in
theorem ok_t_M_actsOnRow_8 : pe_ckB (pe_GA []) pe_cl pe_ckA t_M_actsOnRow (td_t_M_actsOnRow 8).1 (td_t_M_actsOnRow 8).2 = true := by decide +kernel
set_option maxRecDepth 40000 in
theorem ok_t_M_actsOnRow_9 : pe_ckB (pe_GA []) pe_cl pe_ckA t_M_actsOnRow (td_t_M_actsOnRow 9).1 (td_t_M_actsOnRow 9).2 = true := by decide +kernel
set_option maxRecDepth 40000 in
theorem ok_t_M_actsOnRow_10 : pe_ckB (pe_GA []) pe_cl pe_ckA t_M_actsOnRow (td_t_M_actsOnRow 10).1 (td_t_M_actsOnRow 10).2 = true := by decide +kernel
set_option maxRecDepth 40000 in
theorem ok_t_M_actsOnRow_11 : pe_ckB (pe_GA []) pe_cl pe_ckA t_M_actsOnRow (td_t_M_actsOnRow 11).1 (td_t_M_actsOnRow 11).2 = true := by decide +kernel
set_option maxRecDepth 40000 in
theorem ok_t_M_actsOnRow_12 : pe_ckB (pe_GA []) pe_cl pe_ckA t_M_actsOnRow (td_t_M_actsOnRow 12).1 (td_t_M_actsOnRow 12).2 = true := by decide +kernel
set_option maxRecDepth 40000 in
theorem ok_t_M_actsOnRow_13 : pe_ckB (pe_GA []) pe_cl pe_ckA t_M_actsOnRow (td_t_M_actsOnRow 13).1 (td_t_M_actsOnRow 13).2 = true := by decide +kernel
set_option maxRecDepth 40000 in
theorem ok_t_M_actsOnRow_14 : pe_ckB (pe_GA []) pe_cl pe_ckA t_M_actsOnRow (td_t_M_actsOnRow 14).1 (td_t_M_actsOnRow 14).2 = true := by decide +kernel
set_option maxRecDepth 40000 in
theorem ok_t_M_actsOnRow_15 : pe_ckB (pe_GA []) pe_cl pe_ckA t_M_actsOnRow (td_t_M_actsOnRow 15).1 (td_t_M_actsOnRow 15).2 = true := by decide +kernel
set_option maxRecDepth 40000 in
theorem ok_t_M_actsOnRow_16 : pe_ckB (pe_GA []) pe_cl pe_ckA t_M_actsOnRow (td_t_M_actsOnRow 16).1 (td_t_M_actsOnRow 16).2 = true := by decide +kernel
set_option maxRecDepth 40000 in
theorem ok_t_M_actsOnRow_17 : pe_ckB (pe_GA []) pe_cl pe_ckA t_M_actsOnRow (td_t_M_actsOnRow 17).1 (td_t_M_actsOnRow 17).2 = true := by decide +kernel
set_option maxRecDepth 40000 in
theorem ok_t_M_actsOnRow_18 : pe_ckB (pe_GA []) pe_cl pe_ckA t_M_actsOnRow (td_t_M_actsOnRow 18).1 (td_t_M_actsOnRow 18).2 = true := by decide +kernel
set_option maxRecDepth 40000 in
theorem ok_t_M_actsOnRow_19 : pe_ckB (pe_GA []) pe_cl pe_ckA t_M_actsOnRow (td_t_M_actsOnRow 19).1 (td_t_M_actsOnRow 19).2 = true := by decide +kernel
theorem ok_t_M_actsOnRow_a : ∀ b ∈ t_M_actsOnRow.bl, pe_ckB (pe_GA []) pe_cl pe_ckA t_M_actsOnRow b.1 b.2 = true := by
  intro b hb
  obtain ⟨n, hn⟩ := List.getElem?_of_mem hb
  rw [← pe_at_eq] at hn
  match n, hn with
  | 0, hn =>
    have h2 : td_t_M_actsOnRow 0 = b := by unfold td_t_M_actsOnRow; rw [hn]; rfl
    rw [← h2]; exact ok_t_M_actsOnRow_0
  | 1, hn =>
    have h2 : td_t_M_actsOnRow 1 = b := by unfold td_t_M_actsOnRow; rw [hn]; rfl
    rw [← h2]; exact ok_t_M_actsOnRow_1
  | 2, hn =>
    have h2 : td_t_M_actsOnRow 2 = b := by unfold td_t_M_actsOnRow; rw [hn]; rfl
    rw [← h2]; exact ok_t_M_actsOnRow_2
  | 3, hn =>
    have h2 : td_t_M_actsOnRow 3 = b := by unfold td_t_M_actsOnRow; rw [hn]; rfl
    rw [← h2]; exact ok_t_M_actsOnRow_3
  | 4, hn =>
    have h2 : td_t_M_actsOnRow 4 = b := by unfold td_t_M_actsOnRow; rw [hn]; rfl
    rw [← h2]; exact ok_t_M_actsOnRow_4
  | 5, hn =>
    have h2 : td_t_M_actsOnRow 5 = b := by unfold td_t_M_actsOnRow; rw [hn]; rfl
    rw [← h2]; exact ok_t_M_actsOnRow_5
  | 6, hn =>
    have h2 : td_t_M_actsOnRow 6 = b := by unfold td_t_M_actsOnRow; rw [hn]; rfl
    rw [← h2]; exact ok_t_M_actsOnRow_6
  | 7, hn =>
    have h2 : td_t_M_actsOnRow 7 = b := by unfold td_t_M_actsOnRow; rw [hn]; rfl
    rw [← h2]; exact ok_t_M_actsOnRow_7
  | 8, hn =>
    have h2 : td_t_M_actsOnRow 8 = b := by unfold td_t_M_actsOnRow; rw [hn]; rfl
    rw [← h2]; exact ok_t_M_actsOnRow_8
  | 9, hn =>
    have h2 : td_t_M_actsOnRow 9 = b := by unfold td_t_M_actsOnRow; rw [hn]; rfl
    rw [← h2]; exact ok_t_M_actsOnRow_9
  | 10, hn =>
    have h2 : td_t_M_actsOnRow 10 = b := by unfold td_t_M_actsOnRow; rw [hn]; rfl
    rw [← h2]; exact ok_t_M_actsOnRow_10
  | 11, hn =>
    have h2 : td_t_M_actsOnRow 11 = b := by unfold td_t_M_actsOnRow; rw [hn]; rfl
    rw [← h2]; exact ok_t_M_actsOnRow_11
  | 12, hn =>
    have h2 : td_t_M_actsOnRow 12 = b := by unfold td_t_M_actsOnRow; rw [hn]; rfl
    rw [← h2]; exact ok_t_M_actsOnRow_12
  | 13, hn =>
    have h2 : td_t_M_actsOnRow 13 = b := by unfold td_t_M_actsOnRow; rw [hn]; rfl
    rw [← h2]; exact ok_t_M_actsOnRow_13
  | 14, hn =>
    have h2 : td_t_M_actsOnRow 14 = b := by unfold td_t_M_actsOnRow; rw [hn]; rfl
    rw [← h2]; exact ok_t_M_actsOnRow_14
  | 15, hn =>
    have h2 : td_t_M_actsOnRow 15 = b := by unfold td_t_M_actsOnRow; rw [hn]; rfl
    rw [← h2]; exact ok_t_M_actsOnRow_15
  | 16, hn =>
    have h2 : td_t_M_actsOnRow 16 = b := by unfold td_t_M_actsOnRow; rw [hn]; rfl
    rw [← h2]; exact ok_t_M_actsOnRow_16
  | 17, hn =>
    have h2 : td_t_M_actsOnRow 17 = b := by unfold td_t_M_actsOnRow; rw [hn]; rfl
    rw [← h2]; exact ok_t_M_actsOnRow_17
  | 18, hn =>
    have h2 : td_t_M_actsOnRow 18 = b := by unfold td_t_M_actsOnRow; rw [hn]; rfl
    rw [← h2]; exact ok_t_M_actsOnRow_18
  | 19, hn =>
    have h2 : td_t_M_actsOnRow 19 = b := by unfold td_t_M_actsOnRow; rw [hn]; rfl
    rw [← h2]; exact ok_t_M_actsOnRow_19
  | n + 20, hn =>
    rw [pe_at_eq] at hn
    exact absurd (List.getElem?_eq_some_iff.mp hn).1 (by show ¬ n + 20 < 20; omega)
theorem ok_t_M_actsOnRow : pe_okM (pe_GA []) pe_cl pe_ckA t_M_actsOnRow = true := pe_okM_mk (pe_w_of (by rfl) (by rfl)) (by decide +kernel) ok_t_M_actsOnRow_a
def td_t_M_actsOnHost (k : Nat) : Nat × List pe_I := (pe_at t_M_actsOnHost.bl k).getD (0, [])
set_option maxRecDepth 40000 in
theorem ok_t_M_actsOnHost_0 : pe_ckB (pe_GA []) pe_cl pe_ckA t_M_actsOnHost (td_t_M_actsOnHost 0).1 (td_t_M_actsOnHost 0).2 = true := by decide +kernel
set_option maxRecDepth 40000 in
theorem ok_t_M_actsOnHost_1 : pe_ckB (pe_GA []) pe_cl pe_ckA t_M_actsOnHost (td_t_M_actsOnHost 1).1 (td_t_M_actsOnHost 1).2 = true := by decide +kernel
set_option maxRecDepth 40000 in
theorem ok_t_M_actsOnHost_2 : pe_ckB (pe_GA []) pe_cl pe_ckA t_M_actsOnHost (td_t_M_actsOnHost 2).1 (td_t_M_actsOnHost 2).2 = true := by decide +kernel
set_option maxRecDepth 40000 in
theorem ok_t_M_actsOnHost_3 : pe_ckB (pe_GA []) pe_cl pe_ckA t_M_actsOnHost (td_t_M_actsOnHost 3).1 (td_t_M_actsOnHost 3).2 = true := by decide +kernel
set_option maxRecDepth 40000 in
theorem ok_t_M_actsOnHost_4 : pe_ckB (pe_GA []) pe_cl pe_ckA t_M_actsOnHost (td_t_M_actsOnHost 4).1 (td_t_M_actsOnHost 4).2 = true := by decide +kernel
set_option maxRecDepth 40000 in
theorem ok_t_M_actsOnHost_5 : pe_ckB (pe_GA []) pe_cl pe_ckA t_M_actsOnHost (td_t_M_actsOnHost 5).1 (td_t_M_actsOnHost 5).2 = true := by decide +kernel
theorem ok_t_M_actsOnHost_a : ∀ b ∈ t_M_actsOnHost.bl, pe_ckB (pe_GA []) pe_cl pe_ckA t_M_actsOnHost b.1 b.2 = true := by
  intro b hb
  obtain ⟨n, hn⟩ := List.getElem?_of_mem hb
  rw [← pe_at_eq] at hn
  match n, hn with
  | 0, hn =>
    have h2 : td_t_M_actsOnHost 0 = b := by unfold td_t_M_actsOnHost; rw [hn]; rfl
    rw [← h2]; exact ok_t_M_actsOnHost_0
  | 1, hn =>
    have h2 : td_t_M_actsOnHost 1 = b := by unfold td_t_M_actsOnHost; rw [hn]; rfl
    rw [← h2]; exact ok_t_M_actsOnHost_1
  | 2, hn =>
    have h2 : td_t_M_actsOnHost 2 = b := by unfold td_t_M_actsOnHost; rw [hn]; rfl
    rw [← h2]; exact ok_t_M_actsOnHost_2
  | 3, hn =>
    have h2 : td_t_M_actsOnHost 3 = b := by unfold td_t_M_actsOnHost; rw [hn]; rfl
    rw [← h2]; exact ok_t_M_actsOnHost_3
  | 4, hn =>
    have h2 : td_t_M_actsOnHost 4 = b := by unfold td_t_M_actsOnHost; rw [hn]; rfl
    rw [← h2]; exact ok_t_M_actsOnHost_4
  | 5, hn =>
    have h2 : td_t_M_actsOnHost 5 = b := by unfold td_t_M_actsOnHost; rw [hn]; rfl
    rw [← h2]; exact ok_t_M_actsOnHost_5
  | n + 6, hn =>
    rw [pe_at_eq] at hn
    exact absurd (List.getElem?_eq_some_iff.mp hn).1 (by show ¬ n + 6 < 6; omega)
theorem ok_t_M_actsOnHost : pe_okM (pe_GA []) pe_cl pe_ckA t_M_actsOnHost = true := pe_okM_mk (pe_w_of (by rfl) (by rfl)) (by decide +kernel) ok_t_M_actsOnHost_a
set_option maxRecDepth 40000 in
theorem ok_t_M_prints : pe_okM (pe_GA []) pe_cl pe_ckA t_M_prints = true := by decide +kernel
def td_t_M_joined (k : Nat) : Nat × List pe_I := (pe_at t_M_joined.bl k).getD (0, [])
set_option maxRecDepth 40000 in
theorem ok_t_M_joined_0 : pe_ckB (pe_GA []) pe_cl pe_ckA t_M_joined (td_t_M_joined 0).1 (td_t_M_joined 0).2 = true := by decide +kernel
set_option maxRecDepth 40000 in
theorem ok_t_M_joined_1 : pe_ckB (pe_GA []) pe_cl pe_ckA t_M_joined (td_t_M_joined 1).1 (td_t_M_joined 1).2 = true := by decide +kernel
set_option maxRecDepth 40000 in
theorem ok_t_M_joined_2 : pe_ckB (pe_GA []) pe_cl pe_ckA t_M_joined (td_t_M_joined 2).1 (td_t_M_joined 2).2 = true := by decide +kernel
set_option maxRecDepth 40000 in
theorem ok_t_M_joined_3 : pe_ckB (pe_GA []) pe_cl pe_ckA t_M_joined (td_t_M_joined 3).1 (td_t_M_joined 3).2 = true := by decide +kernel
set_option maxRecDepth 40000 in
theorem ok_t_M_joined_4 : pe_ckB (pe_GA []) pe_cl pe_ckA t_M_joined (td_t_M_joined 4).1 (td_t_M_joined 4).2 = true := by decide +kernel
set_option maxRecDepth 40000 in
theorem ok_t_M_joined_5 : pe_ckB (pe_GA []) pe_cl pe_ckA t_M_joined (td_t_M_joined 5).1 (td_t_M_joined 5).2 = true := by decide +kernel
set_option maxRecDepth 40000 in
theorem ok_t_M_joined_6 : pe_ckB (pe_GA []) pe_cl pe_ckA t_M_joined (td_t_M_joined 6).1 (td_t_M_joined 6).2 = true := by decide +kernel
set_option maxRecDepth 40000 in
theorem ok_t_M_joined_7 : pe_ckB (pe_GA []) pe_cl pe_ckA t_M_joined (td_t_M_joined 7).1 (td_t_M_joined 7).2 = true := by decide +kernel
set_option maxRecDepth 40000 in
theorem ok_t_M_joined_8 : pe_ckB (pe_GA []) pe_cl pe_ckA t_M_joined (td_t_M_joined 8).1 (td_t_M_joined 8).2 = true := by decide +kernel
set_option maxRecDepth 40000 in
theorem ok_t_M_joined_9 : pe_ckB (pe_GA []) pe_cl pe_ckA t_M_joined (td_t_M_joined 9).1 (td_t_M_joined 9).2 = true := by decide +kernel
set_option maxRecDepth 40000 in
theorem ok_t_M_joined_10 : pe_ckB (pe_GA []) pe_cl pe_ckA t_M_joined (td_t_M_joined 10).1 (td_t_M_joined 10).2 = true := by decide +kernel
set_option maxRecDepth 40000 in
theorem ok_t_M_joined_11 : pe_ckB (pe_GA []) pe_cl pe_ckA t_M_joined (td_t_M_joined 11).1 (td_t_M_joined 11).2 = true := by decide +kernel
set_option maxRecDepth 40000 in
theorem ok_t_M_joined_12 : pe_ckB (pe_GA []) pe_cl pe_ckA t_M_joined (td_t_M_joined 12).1 (td_t_M_joined 12).2 = true := by decide +kernel
set_option maxRecDepth 40000 in
theorem ok_t_M_joined_13 : pe_ckB (pe_GA []) pe_cl pe_ckA t_M_joined (td_t_M_joined 13).1 (td_t_M_joined 13).2 = true := by decide +kernel
set_option maxRecDepth 40000 in
theorem ok_t_M_joined_14 : pe_ckB (pe_GA []) pe_cl pe_ckA t_M_joined (td_t_M_joined 14).1 (td_t_M_joined 14).2 = true := by decide +kernel
theorem ok_t_M_joined_a : ∀ b ∈ t_M_joined.bl, pe_ckB (pe_GA []) pe_cl pe_ckA t_M_joined b.1 b.2 = true := by
  intro b hb
  obtain ⟨n, hn⟩ := List.getElem?_of_mem hb
  rw [← pe_at_eq] at hn
  match n, hn with
  | 0, hn =>
    have h2 : td_t_M_joined 0 = b := by unfold td_t_M_joined; rw [hn]; rfl
    rw [← h2]; exact ok_t_M_joined_0
  | 1, hn =>
    have h2 : td_t_M_joined 1 = b := by unfold td_t_M_joined; rw [hn]; rfl
    rw [← h2]; exact ok_t_M_joined_1
  | 2, hn =>
    have h2 : td_t_M_joined 2 = b := by unfold td_t_M_joined; rw [hn]; rfl
    rw [← h2]; exact ok_t_M_joined_2
  | 3, hn =>
    have h2 : td_t_M_joined 3 = b := by unfold td_t_M_joined; rw [hn]; rfl
    rw [← h2]; exact ok_t_M_joined_3
  | 4, hn =>
    have h2 : td_t_M_joined 4 = b := by unfold td_t_M_joined; rw [hn]; rfl
    rw [← h2]; exact ok_t_M_joined_4
  | 5, hn =>
    have h2 : td_t_M_joined 5 = b := by unfold td_t_M_joined; rw [hn]; rfl
    rw [← h2]; exact ok_t_M_joined_5
  | 6, hn =>
    have h2 : td_t_M_joined 6 = b := by unfold td_t_M_joined; rw [hn]; rfl
    rw [← h2]; exact ok_t_M_joined_6
  | 7, hn =>
    have h2 : td_t_M_joined 7 = b := by unfold td_t_M_joined; rw [hn]; rfl
    rw [← h2]; exact ok_t_M_joined_7
  | 8, hn =>
    have h2 : td_t_M_joined 8 = b := by unfold td_t_M_joined; rw [hn]; rfl
    rw [← h2]; exact ok_t_M_joined_8
  | 9, hn =>
    have h2 : td_t_M_joined 9 = b := by unfold td_t_M_joined; rw [hn]; rfl
    rw [← h2]; exact ok_t_M_joined_9
  | 10, hn =>
    have h2 : td_t_M_joined 10 = b := by unfold td_t_M_joined; rw [hn]; rfl
    rw [← h2]; exact ok_t_M_joined_10
  | 11, hn =>
    have h2 : td_t_M_joined 11 = b := by unfold td_t_M_joined; rw [hn]; rfl
    rw [← h2]; exact ok_t_M_joined_11
  | 12, hn =>
    have h2 : td_t_M_joined 12 = b := by unfold td_t_M_joined; rw [hn]; rfl
    rw [← h2]; exact ok_t_M_joined_12
  | 13, hn =>
    have h2 : td_t_M_joined 13 = b := by unfold td_t_M_joined; rw [hn]; rfl
    rw [← h2]; exact ok_t_M_joined_13
  | 14, hn =>
    have h2 : td_t_M_joined 14 = b := by unfold td_t_M_joined; rw [hn]; rfl
    rw [← h2]; exact ok_t_M_joined_14
  | n + 15, hn =>
    rw [pe_at_eq] at hn
    exact absurd (List.getElem?_eq_some_iff.mp hn).1 (by show ¬ n + 15 < 15; omega)
theorem ok_t_M_joined : pe_okM (pe_GA []) pe_cl pe_ckA t_M_joined = true := pe_okM_mk (pe_w_of (by rfl) (by rfl)) (by decide +kernel) ok_t_M_joined_a
set_option maxRecDepth 40000 in
theorem ok_t_M_alike : pe_okM (pe_GA []) pe_cl pe_ckA t_M_alike = true := by decide +kernel
set_option maxRecDepth 40000 in
theorem ok_t_JL_compare : pe_okM (pe_GA []) pe_cl pe_ckA t_JL_compare = true := by decide +kernel
def td_t_M_compareTexts (k : Nat) : Nat × List pe_I := (pe_at t_M_compareTexts.bl k).getD (0, [])
set_option maxRecDepth 40000 in
theorem ok_t_M_compareTexts_0 : pe_ckB (pe_GA []) pe_cl pe_ckA t_M_compareTexts (td_t_M_compareTexts 0).1 (td_t_M_compareTexts 0).2 = true := by decide +kernel
set_option maxRecDepth 40000 in
theorem ok_t_M_compareTexts_1 : pe_ckB (pe_GA []) pe_cl pe_ckA t_M_compareTexts (td_t_M_compareTexts 1).1 (td_t_M_compareTexts 1).2 = true := by decide +kernel
set_option maxRecDepth 40000 in
theorem ok_t_M_compareTexts_2 : pe_ckB (pe_GA []) pe_cl pe_ckA t_M_compareTexts (td_t_M_compareTexts 2).1 (td_t_M_compareTexts 2).2 = true := by decide +kernel
set_option maxRecDepth 40000 in
theorem ok_t_M_compareTexts_3 : pe_ckB (pe_GA []) pe_cl pe_ckA t_M_compareTexts (td_t_M_compareTexts 3).1 (td_t_M_compareTexts 3).2 = true := by decide +kernel
theorem ok_t_M_compareTexts_a : ∀ b ∈ t_M_compareTexts.bl, pe_ckB (pe_GA []) pe_cl pe_ckA t_M_compareTexts b.1 b.2 = true := by
  intro b hb
  obtain ⟨n, hn⟩ := List.getElem?_of_mem hb
  rw [← pe_at_eq] at hn
  match n, hn with
  | 0, hn =>
    have h2 : td_t_M_compareTexts 0 = b := by unfold td_t_M_compareTexts; rw [hn]; rfl
    rw [← h2]; exact ok_t_M_compareTexts_0
  | 1, hn =>
    have h2 : td_t_M_compareTexts 1 = b := by unfold td_t_M_compareTexts; rw [hn]; rfl
    rw [← h2]; exact ok_t_M_compareTexts_1
  | 2, hn =>
    have h2 : td_t_M_compareTexts 2 = b := by unfold td_t_M_compareTexts; rw [hn]; rfl
    rw [← h2]; exact ok_t_M_compareTexts_2
  | 3, hn =>
    have h2 : td_t_M_compareTexts 3 = b := by unfold td_t_M_compareTexts; rw [hn]; rfl
    rw [← h2]; exact ok_t_M_compareTexts_3
  | n + 4, hn =>
    rw [pe_at_eq] at hn
    exact absurd (List.getElem?_eq_some_iff.mp hn).1 (by show ¬ n + 4 < 4; omega)
theorem ok_t_M_compareTexts : pe_okM (pe_GA []) pe_cl pe_ckA t_M_compareTexts = true := pe_okM_mk (pe_w_of (by rfl) (by rfl)) (by decide +kernel) ok_t_M_compareTexts_a
def td_t_M_addSlot (k : Nat) : Nat × List pe_I := (pe_at t_M_addSlot.bl k).getD (0, [])
set_option maxRecDepth 40000 in
theorem ok_t_M_addSlot_0 : pe_ckB (pe_GA []) pe_cl pe_ckA t_M_addSlot (td_t_M_addSlot 0).1 (td_t_M_addSlot 0).2 = true := by decide +kernel
set_option maxRecDepth 40000 in
theorem ok_t_M_addSlot_1 : pe_ckB (pe_GA []) pe_cl pe_ckA t_M_addSlot (td_t_M_addSlot 1).1 (td_t_M_addSlot 1).2 = true := by decide +kernel
set_option maxRecDepth 40000 in
theorem ok_t_M_addSlot_2 : pe_ckB (pe_GA []) pe_cl pe_ckA t_M_addSlot (td_t_M_addSlot 2).1 (td_t_M_addSlot 2).2 = true := by decide +kernel
theorem ok_t_M_addSlot_a : ∀ b ∈ t_M_addSlot.bl, pe_ckB (pe_GA []) pe_cl pe_ckA t_M_addSlot b.1 b.2 = true := by
  intro b hb
  obtain ⟨n, hn⟩ := List.getElem?_of_mem hb
  rw [← pe_at_eq] at hn
  match n, hn with
  | 0, hn =>
    have h2 : td_t_M_addSlot 0 = b := by unfold td_t_M_addSlot; rw [hn]; rfl
    rw [← h2]; exact ok_t_M_addSlot_0
  | 1, hn =>
    have h2 : td_t_M_addSlot 1 = b := by unfold td_t_M_addSlot; rw [hn]; rfl
    rw [← h2]; exact ok_t_M_addSlot_1
  | 2, hn =>
    have h2 : td_t_M_addSlot 2 = b := by unfold td_t_M_addSlot; rw [hn]; rfl
    rw [← h2]; exact ok_t_M_addSlot_2
  | n + 3, hn =>
    rw [pe_at_eq] at hn
    exact absurd (List.getElem?_eq_some_iff.mp hn).1 (by show ¬ n + 3 < 3; omega)
theorem ok_t_M_addSlot : pe_okM (pe_GA []) pe_cl pe_ckA t_M_addSlot = true := pe_okM_mk (pe_w_of (by rfl) (by rfl)) (by decide +kernel) ok_t_M_addSlot_a
def td_t_M_shows (k : Nat) : Nat × List pe_I := (pe_at t_M_shows.bl k).getD (0, [])
set_option maxRecDepth 40000 in
theorem ok_t_M_shows_0 : pe_ckB (pe_GA []) pe_cl pe_ckA t_M_shows (td_t_M_shows 0).1 (td_t_M_shows 0).2 = true := by decide +kernel
set_option maxRecDepth 40000 in
theorem ok_t_M_shows_1 : pe_ckB (pe_GA []) pe_cl pe_ckA t_M_shows (td_t_M_shows 1).1 (td_t_M_shows 1).2 = true := by decide +kernel
set_option maxRecDepth 40000 in
theorem ok_t_M_shows_2 : pe_ckB (pe_GA []) pe_cl pe_ckA t_M_shows (td_t_M_shows 2).1 (td_t_M_shows 2).2 = true := by decide +kernel
set_option maxRecDepth 40000 in
theorem ok_t_M_shows_3 : pe_ckB (pe_GA []) pe_cl pe_ckA t_M_shows (td_t_M_shows 3).1 (td_t_M_shows 3).2 = true := by decide +kernel
set_option maxRecDepth 40000 in
theorem ok_t_M_shows_4 : pe_ckB (pe_GA []) pe_cl pe_ckA t_M_shows (td_t_M_shows 4).1 (td_t_M_shows 4).2 = true := by decide +kernel
set_option maxRecDepth 40000 in
theorem ok_t_M_shows_5 : pe_ckB (pe_GA []) pe_cl pe_ckA t_M_shows (td_t_M_shows 5).1 (td_t_M_shows 5).2 = true := by decide +kernel
set_option maxRecDepth 40000 in
theorem ok_t_M_shows_6 : pe_ckB (pe_GA []) pe_cl pe_ckA t_M_shows (td_t_M_shows 6).1 (td_t_M_shows 6).2 = true := by decide +kernel
set_option maxRecDepth 40000 in
theorem ok_t_M_shows_7 : pe_ckB (pe_GA []) pe_cl pe_ckA t_M_shows (td_t_M_shows 7).1 (td_t_M_shows 7).2 = true := by decide +kernel
set_option maxRecDepth 40000 in
theorem ok_t_M_shows_8 : pe_ckB (pe_GA []) pe_cl pe_ckA t_M_shows (td_t_M_shows 8).1 (td_t_M_shows 8).2 = true := by decide +kernel
set_option maxRecDepth 40000 in
theorem ok_t_M_shows_9 : pe_ckB (pe_GA []) pe_cl pe_ckA t_M_shows (td_t_M_shows 9).1 (td_t_M_shows 9).2 = true := by decide +kernel
set_option maxRecDepth 40000 in
theorem ok_t_M_shows_10 : pe_ckB (pe_GA []) pe_cl pe_ckA t_M_shows (td_t_M_shows 10).1 (td_t_M_shows 10).2 = true := by decide +kernel
set_option maxRecDepth 40000 in
theorem ok_t_M_shows_11 : pe_ckB (pe_GA []) pe_cl pe_ckA t_M_shows (td_t_M_shows 11).1 (td_t_M_shows 11).2 = true := by decide +kernel
set_option maxRecDepth 40000 in
theorem ok_t_M_shows_12 : pe_ckB (pe_GA []) pe_cl pe_ckA t_M_shows (td_t_M_shows 12).1 (td_t_M_shows 12).2 = true := by decide +kernel
set_option maxRecDepth 40000 in
theorem ok_t_M_shows_13 : pe_ckB (pe_GA []) pe_cl pe_ckA t_M_shows (td_t_M_shows 13).1 (td_t_M_shows 13).2 = true := by decide +kernel
theorem ok_t_M_shows_a : ∀ b ∈ t_M_shows.bl, pe_ckB (pe_GA []) pe_cl pe_ckA t_M_shows b.1 b.2 = true := by
  intro b hb
  obtain ⟨n, hn⟩ := List.getElem?_of_mem hb
  rw [← pe_at_eq] at hn
  match n, hn with
  | 0, hn =>
    have h2 : td_t_M_shows 0 = b := by unfold td_t_M_shows; rw [hn]; rfl
    rw [← h2]; exact ok_t_M_shows_0
  | 1, hn =>
    have h2 : td_t_M_shows 1 = b := by unfold td_t_M_shows; rw [hn]; rfl
    rw [← h2]; exact ok_t_M_shows_1
  | 2, hn =>
    have h2 : td_t_M_shows 2 = b := by unfold td_t_M_shows; rw [hn]; rfl
    rw [← h2]; exact ok_t_M_shows_2
  | 3, hn =>
    have h2 : td_t_M_shows 3 = b := by unfold td_t_M_shows; rw [hn]; rfl
    rw [← h2]; exact ok_t_M_shows_3
  | 4, hn =>
    have h2 : td_t_M_shows 4 = b := by unfold td_t_M_shows; rw [hn]; rfl
    rw [← h2]; exact ok_t_M_shows_4
  | 5, hn =>
    have h2 : td_t_M_shows 5 = b := by unfold td_t_M_shows; rw [hn]; rfl
    rw [← h2]; exact ok_t_M_shows_5
  | 6, hn =>
    have h2 : td_t_M_shows 6 = b := by unfold td_t_M_shows; rw [hn]; rfl
    rw [← h2]; exact ok_t_M_shows_6
  | 7, hn =>
    have h2 : td_t_M_shows 7 = b := by unfold td_t_M_shows; rw [hn]; rfl
    rw [← h2]; exact ok_t_M_shows_7
  | 8, hn =>
    have h2 : td_t_M_shows 8 = b := by unfold td_t_M_shows; rw [hn]; rfl
    rw [← h2]; exact ok_t_M_shows_8
  | 9, hn =>
    have h2 : td_t_M_shows 9 = b := by unfold td_t_M_shows; rw [hn]; rfl
    rw [← h2]; exact ok_t_M_shows_9
  | 10, hn =>
    have h2 : td_t_M_shows 10 = b := by unfold td_t_M_shows; rw [hn]; rfl
    rw [← h2]; exact ok_t_M_shows_10
  | 11, hn =>
    have h2 : td_t_M_shows 11 = b := by unfold td_t_M_shows; rw [hn]; rfl
    rw [← h2]; exact ok_t_M_shows_11
  | 12, hn =>
    have h2 : td_t_M_shows 12 = b := by unfold td_t_M_shows; rw [hn]; rfl
    rw [← h2]; exact ok_t_M_shows_12
  | 13, hn =>
    have h2 : td_t_M_shows 13 = b := by unfold td_t_M_shows; rw [hn]; rfl
    rw [← h2]; exact ok_t_M_shows_13
  | n + 14, hn =>
    rw [pe_at_eq] at hn
    exact absurd (List.getElem?_eq_some_iff.mp hn).1 (by show ¬ n + 14 < 14; omega)
theorem ok_t_M_shows : pe_okM (pe_GA []) pe_cl pe_ckA t_M_shows = true := pe_okM_mk (pe_w_of (by rfl) (by rfl)) (by decide +kernel) ok_t_M_shows_a
set_option maxRecDepth 40000 in
theorem ok_t_M_put : pe_okM (pe_GA []) pe_cl pe_ckA t_M_put = true := by decide +kernel
def td_t_M_madeShape (k : Nat) : Nat × List pe_I := (pe_at t_M_madeShape.bl k).getD (0, [])
set_option maxRecDepth 40000 in
theorem ok_t_M_madeShape_0 : pe_ckB (pe_GA []) pe_cl pe_ckA t_M_madeShape (td_t_M_madeShape 0).1 (td_t_M_madeShape 0).2 = true := by decide +kernel
set_option maxRecDepth 40000 in
theorem ok_t_M_madeShape_1 : pe_ckB (pe_GA []) pe_cl pe_ckA t_M_madeShape (td_t_M_madeShape 1).1 (td_t_M_madeShape 1).2 = true := by decide +kernel
set_option maxRecDepth 40000 in
theorem ok_t_M_madeShape_2 : pe_ckB (pe_GA []) pe_cl pe_ckA t_M_madeShape (td_t_M_madeShape 2).1 (td_t_M_madeShape 2).2 = true := by decide +kernel
set_option maxRecDepth 40000 in
theorem ok_t_M_madeShape_3 : pe_ckB (pe_GA []) pe_cl pe_ckA t_M_madeShape (td_t_M_madeShape 3).1 (td_t_M_madeShape 3).2 = true := by decide +kernel
set_option maxRecDepth 40000 in
theorem ok_t_M_madeShape_4 : pe_ckB (pe_GA []) pe_cl pe_ckA t_M_madeShape (td_t_M_madeShape 4).1 (td_t_M_madeShape 4).2 = true := by decide +kernel
set_option maxRecDepth 40000 in
theorem ok_t_M_madeShape_5 : pe_ckB (pe_GA []) pe_cl pe_ckA t_M_madeShape (td_t_M_madeShape 5).1 (td_t_M_madeShape 5).2 = true := by decide +kernel
set_option maxRecDepth 40000 in
theorem ok_t_M_madeShape_6 : pe_ckB (pe_GA []) pe_cl pe_ckA t_M_madeShape (td_t_M_madeShape 6).1 (td_t_M_madeShape 6).2 = true := by decide +kernel
theorem ok_t_M_madeShape_a : ∀ b ∈ t_M_madeShape.bl, pe_ckB (pe_GA []) pe_cl pe_ckA t_M_madeShape b.1 b.2 = true := by
  intro b hb
  obtain ⟨n, hn⟩ := List.getElem?_of_mem hb
  rw [← pe_at_eq] at hn
  match n, hn with
  | 0, hn =>
    have h2 : td_t_M_madeShape 0 = b := by unfold td_t_M_madeShape; rw [hn]; rfl
    rw [← h2]; exact ok_t_M_madeShape_0
  | 1, hn =>
    have h2 : td_t_M_madeShape 1 = b := by unfold td_t_M_madeShape; rw [hn]; rfl
    rw [← h2]; exact ok_t_M_madeShape_1
  | 2, hn =>
    have h2 : td_t_M_madeShape 2 = b := by unfold td_t_M_madeShape; rw [hn]; rfl
    rw [← h2]; exact ok_t_M_madeShape_2
  | 3, hn =>
    have h2 : td_t_M_madeShape 3 = b := by unfold td_t_M_madeShape; rw [hn]; rfl
    rw [← h2]; exact ok_t_M_madeShape_3
  | 4, hn =>
    have h2 : td_t_M_madeShape 4 = b := by unfold td_t_M_madeShape; rw [hn]; rfl
    rw [← h2]; exact ok_t_M_madeShape_4
  | 5, hn =>
    have h2 : td_t_M_madeShape 5 = b := by unfold td_t_M_madeShape; rw [hn]; rfl
    rw [← h2]; exact ok_t_M_madeShape_5
  | 6, hn =>
    have h2 : td_t_M_madeShape 6 = b := by unfold td_t_M_madeShape; rw [hn]; rfl
    rw [← h2]; exact ok_t_M_madeShape_6
  | n + 7, hn =>
    rw [pe_at_eq] at hn
    exact absurd (List.getElem?_eq_some_iff.mp hn).1 (by show ¬ n + 7 < 7; omega)
theorem ok_t_M_madeShape : pe_okM (pe_GA []) pe_cl pe_ckA t_M_madeShape = true := pe_okM_mk (pe_w_of (by rfl) (by rfl)) (by decide +kernel) ok_t_M_madeShape_a
set_option maxRecDepth 40000 in
theorem ok_t_M_puts : pe_okM (pe_GA []) pe_cl pe_ckA t_M_puts = true := by decide +kernel
def td_t_M_turns (k : Nat) : Nat × List pe_I := (pe_at t_M_turns.bl k).getD (0, [])
set_option maxRecDepth 40000 in
theorem ok_t_M_turns_0 : pe_ckB (pe_GA []) pe_cl pe_ckA t_M_turns (td_t_M_turns 0).1 (td_t_M_turns 0).2 = true := by decide +kernel
set_option maxRecDepth 40000 in
theorem ok_t_M_turns_1 : pe_ckB (pe_GA []) pe_cl pe_ckA t_M_turns (td_t_M_turns 1).1 (td_t_M_turns 1).2 = true := by decide +kernel
set_option maxRecDepth 40000 in
theorem ok_t_M_turns_2 : pe_ckB (pe_GA []) pe_cl pe_ckA t_M_turns (td_t_M_turns 2).1 (td_t_M_turns 2).2 = true := by decide +kernel
set_option maxRecDepth 40000 in
theorem ok_t_M_turns_3 : pe_ckB (pe_GA []) pe_cl pe_ckA t_M_turns (td_t_M_turns 3).1 (td_t_M_turns 3).2 = true := by decide +kernel
set_option maxRecDepth 40000 in
theorem ok_t_M_turns_4 : pe_ckB (pe_GA []) pe_cl pe_ckA t_M_turns (td_t_M_turns 4).1 (td_t_M_turns 4).2 = true := by decide +kernel
set_option maxRecDepth 40000 in
theorem ok_t_M_turns_5 : pe_ckB (pe_GA []) pe_cl pe_ckA t_M_turns (td_t_M_turns 5).1 (td_t_M_turns 5).2 = true := by decide +kernel
set_option maxRecDepth 40000 in
theorem ok_t_M_turns_6 : pe_ckB (pe_GA []) pe_cl pe_ckA t_M_turns (td_t_M_turns 6).1 (td_t_M_turns 6).2 = true := by decide +kernel
set_option maxRecDepth 40000 in
theorem ok_t_M_turns_7 : pe_ckB (pe_GA []) pe_cl pe_ckA t_M_turns (td_t_M_turns 7).1 (td_t_M_turns 7).2 = true := by decide +kernel
theorem ok_t_M_turns_a : ∀ b ∈ t_M_turns.bl, pe_ckB (pe_GA []) pe_cl pe_ckA t_M_turns b.1 b.2 = true := by
  intro b hb
  obtain ⟨n, hn⟩ := List.getElem?_of_mem hb
  rw [← pe_at_eq] at hn
  match n, hn with
  | 0, hn =>
    have h2 : td_t_M_turns 0 = b := by unfold td_t_M_turns; rw [hn]; rfl
    rw [← h2]; exact ok_t_M_turns_0
  | 1, hn =>
    have h2 : td_t_M_turns 1 = b := by unfold td_t_M_turns; rw [hn]; rfl
    rw [← h2]; exact ok_t_M_turns_1
  | 2, hn =>
    have h2 : td_t_M_turns 2 = b := by unfold td_t_M_turns; rw [hn]; rfl
    rw [← h2]; exact ok_t_M_turns_2
  | 3, hn =>
    have h2 : td_t_M_turns 3 = b := by unfold td_t_M_turns; rw [hn]; rfl
    rw [← h2]; exact ok_t_M_turns_3
  | 4, hn =>
    have h2 : td_t_M_turns 4 = b := by unfold td_t_M_turns; rw [hn]; rfl
    rw [← h2]; exact ok_t_M_turns_4
  | 5, hn =>
    have h2 : td_t_M_turns 5 = b := by unfold td_t_M_turns; rw [hn]; rfl
    rw [← h2]; exact ok_t_M_turns_5
  | 6, hn =>
    have h2 : td_t_M_turns 6 = b := by unfold td_t_M_turns; rw [hn]; rfl
    rw [← h2]; exact ok_t_M_turns_6
  | 7, hn =>
    have h2 : td_t_M_turns 7 = b := by unfold td_t_M_turns; rw [hn]; rfl
    rw [← h2]; exact ok_t_M_turns_7
  | n + 8, hn =>
    rw [pe_at_eq] at hn
    exact absurd (List.getElem?_eq_some_iff.mp hn).1 (by show ¬ n + 8 < 8; omega)
theorem ok_t_M_turns : pe_okM (pe_GA []) pe_cl pe_ckA t_M_turns = true := pe_okM_mk (pe_w_of (by rfl) (by rfl)) (by decide +kernel) ok_t_M_turns_a
set_option maxRecDepth 40000 in
theorem ok_t_M_drops : pe_okM (pe_GA []) pe_cl pe_ckA t_M_drops = true := by decide +kernel
set_option maxRecDepth 40000 in
theorem ok_t_M_has : pe_okM (pe_GA []) pe_cl pe_ckA t_M_has = true := by decide +kernel
def td_t_M_spellKind (k : Nat) : Nat × List pe_I := (pe_at t_M_spellKind.bl k).getD (0, [])
set_option maxRecDepth 40000 in
theorem ok_t_M_spellKind_0 : pe_ckB (pe_GA []) pe_cl pe_ckA t_M_spellKind (td_t_M_spellKind 0).1 (td_t_M_spellKind 0).2 = true := by decide +kernel
set_option maxRecDepth 40000 in
theorem ok_t_M_spellKind_1 : pe_ckB (pe_GA []) pe_cl pe_ckA t_M_spellKind (td_t_M_spellKind 1).1 (td_t_M_spellKind 1).2 = true := by decide +kernel
set_option maxRecDepth 40000 in
theorem ok_t_M_spellKind_2 : pe_ckB (pe_GA []) pe_cl pe_ckA t_M_spellKind (td_t_M_spellKind 2).1 (td_t_M_spellKind 2).2 = true := by decide +kernel
set_option maxRecDepth 40000 in
theorem ok_t_M_spellKind_3 : pe_ckB (pe_GA []) pe_cl pe_ckA t_M_spellKind (td_t_M_spellKind 3).1 (td_t_M_spellKind 3).2 = true := by decide +kernel
set_option maxRecDepth 40000 in
theorem ok_t_M_spellKind_4 : pe_ckB (pe_GA []) pe_cl pe_ckA t_M_spellKind (td_t_M_spellKind 4).1 (td_t_M_spellKind 4).2 = true := by decide +kernel
set_option maxRecDepth 40000 in
theorem ok_t_M_spellKind_5 : pe_ckB (pe_GA []) pe_cl pe_ckA t_M_spellKind (td_t_M_spellKind 5).1 (td_t_M_spellKind 5).2 = true := by decide +kernel
set_option maxRecDepth 40000 in
theorem ok_t_M_spellKind_6 : pe_ckB (pe_GA []) pe_cl pe_ckA t_M_spellKind (td_t_M_spellKind 6).1 (td_t_M_spellKind 6).2 = true := by decide +kernel
set_option maxRecDepth 40000 in
theorem ok_t_M_spellKind_7 : pe_ckB (pe_GA []) pe_cl pe_ckA t_M_spellKind (td_t_M_spellKind 7).1 (td_t_M_spellKind 7).2 = true := by decide +kernel
set_option maxRecDepth 40000 in
theorem ok_t_M_spellKind_8 : pe_ckB (pe_GA []) pe_cl pe_ckA t_M_spellKind (td_t_M_spellKind 8).1 (td_t_M_spellKind 8).2 = true := by decide +kernel
set_option maxRecDepth 40000 in
theorem ok_t_M_spellKind_9 : pe_ckB (pe_GA []) pe_cl pe_ckA t_M_spellKind (td_t_M_spellKind 9).1 (td_t_M_spellKind 9).2 = true := by decide +kernel
set_option maxRecDepth 40000 in
theorem ok_t_M_spellKind_10 : pe_ckB (pe_GA []) pe_cl pe_ckA t_M_spellKind (td_t_M_spellKind 10).1 (td_t_M_spellKind 10).2 = true := by decide +kernel
theorem ok_t_M_spellKind_a : ∀ b ∈ t_M_spellKind.bl, pe_ckB (pe_GA []) pe_cl pe_ckA t_M_spellKind b.1 b.2 = true := by
  intro b hb
  obtain ⟨n, hn⟩ := List.getElem?_of_mem hb
  rw [← pe_at_eq] at hn
  match n, hn with
  | 0, hn =>
    have h2 : td_t_M_spellKind 0 = b := by unfold td_t_M_spellKind; rw [hn]; rfl
    rw [← h2]; exact ok_t_M_spellKind_0
  | 1, hn =>
    have h2 : td_t_M_spellKind 1 = b := by unfold td_t_M_spellKind; rw [hn]; rfl
    rw [← h2]; exact ok_t_M_spellKind_1
  | 2, hn =>
    have h2 : td_t_M_spellKind 2 = b := by unfold td_t_M_spellKind; rw [hn]; rfl
    rw [← h2]; exact ok_t_M_spellKind_2
  | 3, hn =>
    have h2 : td_t_M_spellKind 3 = b := by unfold td_t_M_spellKind; rw [hn]; rfl
    rw [← h2]; exact ok_t_M_spellKind_3
  | 4, hn =>
    have h2 : td_t_M_spellKind 4 = b := by unfold td_t_M_spellKind; rw [hn]; rfl
    rw [← h2]; exact ok_t_M_spellKind_4
  | 5, hn =>
    have h2 : td_t_M_spellKind 5 = b := by unfold td_t_M_spellKind; rw [hn]; rfl
    rw [← h2]; exact ok_t_M_spellKind_5
  | 6, hn =>
    have h2 : td_t_M_spellKind 6 = b := by unfold td_t_M_spellKind; rw [hn]; rfl
    rw [← h2]; exact ok_t_M_spellKind_6
  | 7, hn =>
    have h2 : td_t_M_spellKind 7 = b := by unfold td_t_M_spellKind; rw [hn]; rfl
    rw [← h2]; exact ok_t_M_spellKind_7
  | 8, hn =>
    have h2 : td_t_M_spellKind 8 = b := by unfold td_t_M_spellKind; rw [hn]; rfl
    rw [← h2]; exact ok_t_M_spellKind_8
  | 9, hn =>
    have h2 : td_t_M_spellKind 9 = b := by unfold td_t_M_spellKind; rw [hn]; rfl
    rw [← h2]; exact ok_t_M_spellKind_9
  | 10, hn =>
    have h2 : td_t_M_spellKind 10 = b := by unfold td_t_M_spellKind; rw [hn]; rfl
    rw [← h2]; exact ok_t_M_spellKind_10
  | n + 11, hn =>
    rw [pe_at_eq] at hn
    exact absurd (List.getElem?_eq_some_iff.mp hn).1 (by show ¬ n + 11 < 11; omega)
theorem ok_t_M_spellKind : pe_okM (pe_GA []) pe_cl pe_ckA t_M_spellKind = true := pe_okM_mk (pe_w_of (by rfl) (by rfl)) (by decide +kernel) ok_t_M_spellKind_a
set_option maxRecDepth 40000 in
theorem ok_t_M_madeText : pe_okM (pe_GA []) pe_cl pe_ckA t_M_madeText = true := by decide +kernel
def td_t_M_classNamed (k : Nat) : Nat × List pe_I := (pe_at t_M_classNamed.bl k).getD (0, [])
set_option maxRecDepth 40000 in
theorem ok_t_M_classNamed_0 : pe_ckB (pe_GA []) pe_cl pe_ckA t_M_classNamed (td_t_M_classNamed 0).1 (td_t_M_classNamed 0).2 = true := by decide +kernel
set_option maxRecDepth 40000 in
theorem ok_t_M_classNamed_1 : pe_ckB (pe_GA []) pe_cl pe_ckA t_M_classNamed (td_t_M_classNamed 1).1 (td_t_M_classNamed 1).2 = true := by decide +kernel
set_option maxRecDepth 40000 in
theorem ok_t_M_classNamed_2 : pe_ckB (pe_GA []) pe_cl pe_ckA t_M_classNamed (td_t_M_classNamed 2).1 (td_t_M_classNamed 2).2 = true := by decide +kernel
set_option maxRecDepth 40000 in
theorem ok_t_M_classNamed_3 : pe_ckB (pe_GA []) pe_cl pe_ckA t_M_classNamed (td_t_M_classNamed 3).1 (td_t_M_classNamed 3).2 = true := by decide +kernel
set_option maxRecDepth 40000 in
theorem ok_t_M_classNamed_4 : pe_ckB (pe_GA []) pe_cl pe_ckA t_M_classNamed (td_t_M_classNamed 4).1 (td_t_M_classNamed 4).2 = true := by decide +kernel
set_option maxRecDepth 40000 in
theorem ok_t_M_classNamed_5 : pe_ckB (pe_GA []) pe_cl pe_ckA t_M_classNamed (td_t_M_classNamed 5).1 (td_t_M_classNamed 5).2 = true := by decide +kernel
set_option maxRecDepth 40000 in
theorem ok_t_M_classNamed_6 : pe_ckB (pe_GA []) pe_cl pe_ckA t_M_classNamed (td_t_M_classNamed 6).1 (td_t_M_classNamed 6).2 = true := by decide +kernel
set_option maxRecDepth 40000 in
theorem ok_t_M_classNamed_7 : pe_ckB (pe_GA []) pe_cl pe_ckA t_M_classNamed (td_t_M_classNamed 7).1 (td_t_M_classNamed 7).2 = true := by decide +kernel
set_option maxRecDepth 40000 in
theorem ok_t_M_classNamed_8 : pe_ckB (pe_GA []) pe_cl pe_ckA t_M_classNamed (td_t_M_classNamed 8).1 (td_t_M_classNamed 8).2 = true := by decide +kernel
set_option maxRecDepth 40000 in
theorem ok_t_M_classNamed_9 : pe_ckB (pe_GA []) pe_cl pe_ckA t_M_classNamed (td_t_M_classNamed 9).1 (td_t_M_classNamed 9).2 = true := by decide +kernel
theorem ok_t_M_classNamed_a : ∀ b ∈ t_M_classNamed.bl, pe_ckB (pe_GA []) pe_cl pe_ckA t_M_classNamed b.1 b.2 = true := by
  intro b hb
  obtain ⟨n, hn⟩ := List.getElem?_of_mem hb
  rw [← pe_at_eq] at hn
  match n, hn with
  | 0, hn =>
    have h2 : td_t_M_classNamed 0 = b := by unfold td_t_M_classNamed; rw [hn]; rfl
    rw [← h2]; exact ok_t_M_classNamed_0
  | 1, hn =>
    have h2 : td_t_M_classNamed 1 = b := by unfold td_t_M_classNamed; rw [hn]; rfl
    rw [← h2]; exact ok_t_M_classNamed_1
  | 2, hn =>
    have h2 : td_t_M_classNamed 2 = b := by unfold td_t_M_classNamed; rw [hn]; rfl
    rw [← h2]; exact ok_t_M_classNamed_2
  | 3, hn =>
    have h2 : td_t_M_classNamed 3 = b := by unfold td_t_M_classNamed; rw [hn]; rfl
    rw [← h2]; exact ok_t_M_classNamed_3
  | 4, hn =>
    have h2 : td_t_M_classNamed 4 = b := by unfold td_t_M_classNamed; rw [hn]; rfl
    rw [← h2]; exact ok_t_M_classNamed_4
  | 5, hn =>
    have h2 : td_t_M_classNamed 5 = b := by unfold td_t_M_classNamed; rw [hn]; rfl
    rw [← h2]; exact ok_t_M_classNamed_5
  | 6, hn =>
    have h2 : td_t_M_classNamed 6 = b := by unfold td_t_M_classNamed; rw [hn]; rfl
    rw [← h2]; exact ok_t_M_classNamed_6
  | 7, hn =>
    have h2 : td_t_M_classNamed 7 = b := by unfold td_t_M_classNamed; rw [hn]; rfl
    rw [← h2]; exact ok_t_M_classNamed_7
  | 8, hn =>
    have h2 : td_t_M_classNamed 8 = b := by unfold td_t_M_classNamed; rw [hn]; rfl
    rw [← h2]; exact ok_t_M_classNamed_8
  | 9, hn =>
    have h2 : td_t_M_classNamed 9 = b := by unfold td_t_M_classNamed; rw [hn]; rfl
    rw [← h2]; exact ok_t_M_classNamed_9
  | n + 10, hn =>
    rw [pe_at_eq] at hn
    exact absurd (List.getElem?_eq_some_iff.mp hn).1 (by show ¬ n + 10 < 10; omega)
theorem ok_t_M_classNamed : pe_okM (pe_GA []) pe_cl pe_ckA t_M_classNamed = true := pe_okM_mk (pe_w_of (by rfl) (by rfl)) (by decide +kernel) ok_t_M_classNamed_a
set_option maxRecDepth 40000 in
theorem ok_t_XW_isWord : pe_okM (pe_GA []) pe_cl pe_ckA t_XW_isWord = true := by decide +kernel
set_option maxRecDepth 40000 in
theorem ok_t_X_isCapital : pe_okM (pe_GA []) pe_cl pe_ckA t_X_isCapital = true := by decide +kernel
set_option maxRecDepth 40000 in
theorem ok_t_X_isSmall : pe_okM (pe_GA []) pe_cl pe_ckA t_X_isSmall = true := by decide +kernel
set_option maxRecDepth 40000 in
theorem ok_t_XR_addBad : pe_okM (pe_GA []) pe_cl pe_ckA t_XR_addBad = true := by decide +kernel
def td_t_XW_nameFor (k : Nat) : Nat × List pe_I := (pe_at t_XW_nameFor.bl k).getD (0, [])
set_option maxRecDepth 40000 in
theorem ok_t_XW_nameFor_0 : pe_ckB (pe_GA []) pe_cl pe_ckA t_XW_nameFor (td_t_XW_nameFor 0).1 (td_t_XW_nameFor 0).2 = true := by decide +kernel
set_option maxRecDepth 40000 in
theorem ok_t_XW_nameFor_1 : pe_ckB (pe_GA []) pe_cl pe_ckA t_XW_nameFor (td_t_XW_nameFor 1).1 (td_t_XW_nameFor 1).2 = true := by decide +kernel
set_option maxRecDepth 40000 in
theorem ok_t_XW_nameFor_2 : pe_ckB (pe_GA []) pe_cl pe_ckA t_XW_nameFor (td_t_XW_nameFor 2).1 (td_t_XW_nameFor 2).2 = true := by decide +kernel
theorem ok_t_XW_nameFor_a : ∀ b ∈ t_XW_nameFor.bl, pe_ckB (pe_GA []) pe_cl pe_ckA t_XW_nameFor b.1 b.2 = true := by
  intro b hb
  obtain ⟨n, hn⟩ := List.getElem?_of_mem hb
  rw [← pe_at_eq] at hn
  match n, hn with
  | 0, hn =>
    have h2 : td_t_XW_nameFor 0 = b := by unfold td_t_XW_nameFor; rw [hn]; rfl
    rw [← h2]; exact ok_t_XW_nameFor_0
  | 1, hn =>
    have h2 : td_t_XW_nameFor 1 = b := by unfold td_t_XW_nameFor; rw [hn]; rfl
    rw [← h2]; exact ok_t_XW_nameFor_1
  | 2, hn =>
    have h2 : td_t_XW_nameFor 2 = b := by unfold td_t_XW_nameFor; rw [hn]; rfl
    rw [← h2]; exact ok_t_XW_nameFor_2
  | n + 3, hn =>
    rw [pe_at_eq] at hn
    exact absurd (List.getElem?_eq_some_iff.mp hn).1 (by show ¬ n + 3 < 3; omega)
theorem ok_t_XW_nameFor : pe_okM (pe_GA []) pe_cl pe_ckA t_XW_nameFor = true := pe_okM_mk (pe_w_of (by rfl) (by rfl)) (by decide +kernel) ok_t_XW_nameFor_a
set_option maxRecDepth 40000 in
theorem ok_t_XR_escaped : pe_okM (pe_GA []) pe_cl pe_ckA t_XR_escaped = true := by decide +kernel
