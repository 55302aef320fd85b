/-! PART o6m: tables checked once. -/
def td_t_XL_setProperty (k : Nat) : Nat × List pe_I := (pe_at t_XL_setProperty.bl k).getD (0, [])
set_option maxRecDepth 40000 in
theorem ok_t_XL_setProperty_0 : pe_ckB (pe_GA []) pe_cl pe_ckA t_XL_setProperty (td_t_XL_setProperty 0).1 (td_t_XL_setProperty 0).2 = true := by decide +kernel
set_option maxRecDepth 40000 in
theorem ok_t_XL_setProperty_1 : pe_ckB (pe_GA []) pe_cl pe_ckA t_XL_setProperty (td_t_XL_setProperty 1).1 (td_t_XL_setProperty 1).2 = true := by decide +kernel
set_option maxRecDepth 40000 in
theorem ok_t_XL_setProperty_2 : pe_ckB (pe_GA []) pe_cl pe_ckA t_XL_setProperty (td_t_XL_setProperty 2).1 (td_t_XL_setProperty 2).2 = true := by decide +kernel
set_option maxRecDepth 40000 in
theorem ok_t_XL_setProperty_3 : pe_ckB (pe_GA []) pe_cl pe_ckA t_XL_setProperty (td_t_XL_setProperty 3).1 (td_t_XL_setProperty 3).2 = true := by decide +kernel
set_option maxRecDepth 40000 in
theorem ok_t_XL_setProperty_4 : pe_ckB (pe_GA []) pe_cl pe_ckA t_XL_setProperty (td_t_XL_setProperty 4).1 (td_t_XL_setProperty 4).2 = true := by decide +kernel
theorem ok_t_XL_setProperty_a : ∀ b ∈ t_XL_setProperty.bl, pe_ckB (pe_GA []) pe_cl pe_ckA t_XL_setProperty b.1 b.2 = true := by
  intro b hb
  obtain ⟨n, hn⟩ := List.getElem?_of_mem hb
  rw [← pe_at_eq] at hn
  match n, hn with
  | 0, hn =>
    have h2 : td_t_XL_setProperty 0 = b := by unfold td_t_XL_setProperty; rw [hn]; rfl
    rw [← h2]; exact ok_t_XL_setProperty_0
  | 1, hn =>
    have h2 : td_t_XL_setProperty 1 = b := by unfold td_t_XL_setProperty; rw [hn]; rfl
    rw [← h2]; exact ok_t_XL_setProperty_1
  | 2, hn =>
    have h2 : td_t_XL_setProperty 2 = b := by unfold td_t_XL_setProperty; rw [hn]; rfl
    rw [← h2]; exact ok_t_XL_setProperty_2
  | 3, hn =>
    have h2 : td_t_XL_setProperty 3 = b := by unfold td_t_XL_setProperty; rw [hn]; rfl
    rw [← h2]; exact ok_t_XL_setProperty_3
  | 4, hn =>
    have h2 : td_t_XL_setProperty 4 = b := by unfold td_t_XL_setProperty; rw [hn]; rfl
    rw [← h2]; exact ok_t_XL_setProperty_4
  | n + 5, hn =>
    rw [pe_at_eq] at hn
    exact absurd (List.getElem?_eq_some_iff.mp hn).1 (by show ¬ n + 5 < 5; omega)
theorem ok_t_XL_setProperty : pe_okM (pe_GA []) pe_cl pe_ckA t_XL_setProperty = true := pe_okM_mk (pe_w_of (by rfl) (by rfl)) (by decide +kernel) ok_t_XL_setProperty_a
set_option maxRecDepth 40000 in
theorem ok_t_XL_giveValue : pe_okM (pe_GA []) pe_cl pe_ckA t_XL_giveValue = true := by decide +kernel
set_option maxRecDepth 40000 in
theorem ok_t_XH_hasTextRoom : pe_okM (pe_GA []) pe_cl pe_ckA t_XH_hasTextRoom = true := by decide +kernel
set_option maxRecDepth 40000 in
theorem ok_t_XH_useText : pe_okM (pe_GA []) pe_cl pe_ckA t_XH_useText = true := by decide +kernel
set_option maxRecDepth 40000 in
theorem ok_t_X_slice : pe_okM (pe_GA []) pe_cl pe_ckA t_X_slice = true := by decide +kernel
set_option maxRecDepth 40000 in
theorem ok_t_XL_addElement : pe_okM (pe_GA []) pe_cl pe_ckA t_XL_addElement = true := by decide +kernel
set_option maxRecDepth 40000 in
theorem ok_t_XL_rowOf : pe_okM (pe_GA []) pe_cl pe_ckA t_XL_rowOf = true := by decide +kernel
set_option maxRecDepth 40000 in
theorem ok_t_XL_placeOf : pe_okM (pe_GA []) pe_cl pe_ckA t_XL_placeOf = true := by decide +kernel
set_option maxRecDepth 40000 in
theorem ok_t_XO_goesTo : pe_okM (pe_GA []) pe_cl pe_ckA t_XO_goesTo = true := by decide +kernel
set_option maxRecDepth 40000 in
theorem ok_t_XH_addTrace : pe_okM (pe_GA []) pe_cl pe_ckA t_XH_addTrace = true := by decide +kernel
def td_t_XL_construct (k : Nat) : Nat × List pe_I := (pe_at t_XL_construct.bl k).getD (0, [])
set_option maxRecDepth 40000 in
theorem ok_t_XL_construct_0 : pe_ckB (pe_GA []) pe_cl pe_ckA t_XL_construct (td_t_XL_construct 0).1 (td_t_XL_construct 0).2 = true := by decide +kernel
set_option maxRecDepth 40000 in
theorem ok_t_XL_construct_1 : pe_ckB (pe_GA []) pe_cl pe_ckA t_XL_construct (td_t_XL_construct 1).1 (td_t_XL_construct 1).2 = true := by decide +kernel
set_option maxRecDepth 40000 in
theorem ok_t_XL_construct_2 : pe_ckB (pe_GA []) pe_cl pe_ckA t_XL_construct (td_t_XL_construct 2).1 (td_t_XL_construct 2).2 = true := by decide +kernel
set_option maxRecDepth 40000 in
theorem ok_t_XL_construct_3 : pe_ckB (pe_GA []) pe_cl pe_ckA t_XL_construct (td_t_XL_construct 3).1 (td_t_XL_construct 3).2 = true := by decide +kernel
set_option maxRecDepth 40000 in
theorem ok_t_XL_construct_4 : pe_ckB (pe_GA []) pe_cl pe_ckA t_XL_construct (td_t_XL_construct 4).1 (td_t_XL_construct 4).2 = true := by decide +kernel
set_option maxRecDepth 40000 in
theorem ok_t_XL_construct_5 : pe_ckB (pe_GA []) pe_cl pe_ckA t_XL_construct (td_t_XL_construct 5).1 (td_t_XL_construct 5).2 = true := by decide +kernel
set_option maxRecDepth 40000 in
theorem ok_t_XL_construct_6 : pe_ckB (pe_GA []) pe_cl pe_ckA t_XL_construct (td_t_XL_construct 6).1 (td_t_XL_construct 6).2 = true := by decide +kernel
set_option maxRecDepth 40000 in
theorem ok_t_XL_construct_7 : pe_ckB (pe_GA []) pe_cl pe_ckA t_XL_construct (td_t_XL_construct 7).1 (td_t_XL_construct 7).2 = true := by decide +kernel
set_option maxRecDepth 40000 in
theorem ok_t_XL_construct_8 : pe_ckB (pe_GA []) pe_cl pe_ckA t_XL_construct (td_t_XL_construct 8).1 (td_t_XL_construct 8).2 = true := by decide +kernel
theorem ok_t_XL_construct_a : ∀ b ∈ t_XL_construct.bl, pe_ckB (pe_GA []) pe_cl pe_ckA t_XL_construct b.1 b.2 = true := by
  intro b hb
  obtain ⟨n, hn⟩ := List.getElem?_of_mem hb
  rw [← pe_at_eq] at hn
  match n, hn with
  | 0, hn =>
    have h2 : td_t_XL_construct 0 = b := by unfold td_t_XL_construct; rw [hn]; rfl
    rw [← h2]; exact ok_t_XL_construct_0
  | 1, hn =>
    have h2 : td_t_XL_construct 1 = b := by unfold td_t_XL_construct; rw [hn]; rfl
    rw [← h2]; exact ok_t_XL_construct_1
  | 2, hn =>
    have h2 : td_t_XL_construct 2 = b := by unfold td_t_XL_construct; rw [hn]; rfl
    rw [← h2]; exact ok_t_XL_construct_2
  | 3, hn =>
    have h2 : td_t_XL_construct 3 = b := by unfold td_t_XL_construct; rw [hn]; rfl
    rw [← h2]; exact ok_t_XL_construct_3
  | 4, hn =>
    have h2 : td_t_XL_construct 4 = b := by unfold td_t_XL_construct; rw [hn]; rfl
    rw [← h2]; exact ok_t_XL_construct_4
  | 5, hn =>
    have h2 : td_t_XL_construct 5 = b := by unfold td_t_XL_construct; rw [hn]; rfl
    rw [← h2]; exact ok_t_XL_construct_5
  | 6, hn =>
    have h2 : td_t_XL_construct 6 = b := by unfold td_t_XL_construct; rw [hn]; rfl
    rw [← h2]; exact ok_t_XL_construct_6
  | 7, hn =>
    have h2 : td_t_XL_construct 7 = b := by unfold td_t_XL_construct; rw [hn]; rfl
    rw [← h2]; exact ok_t_XL_construct_7
  | 8, hn =>
    have h2 : td_t_XL_construct 8 = b := by unfold td_t_XL_construct; rw [hn]; rfl
    rw [← h2]; exact ok_t_XL_construct_8
  | n + 9, hn =>
    rw [pe_at_eq] at hn
    exact absurd (List.getElem?_eq_some_iff.mp hn).1 (by show ¬ n + 9 < 9; omega)
theorem ok_t_XL_construct : pe_okM (pe_GA []) pe_cl pe_ckA t_XL_construct = true := pe_okM_mk (pe_w_of (by rfl) (by rfl)) (by decide +kernel) ok_t_XL_construct_a
def td_t_XL_useField (k : Nat) : Nat × List pe_I := (pe_at t_XL_useField.bl k).getD (0, [])
set_option maxRecDepth 40000 in
theorem ok_t_XL_useField_0 : pe_ckB (pe_GA []) pe_cl pe_ckA t_XL_useField (td_t_XL_useField 0).1 (td_t_XL_useField 0).2 = true := by decide +kernel
set_option maxRecDepth 40000 in
theorem ok_t_XL_useField_1 : pe_ckB (pe_GA []) pe_cl pe_ckA t_XL_useField (td_t_XL_useField 1).1 (td_t_XL_useField 1).2 = true := by decide +kernel
set_option maxRecDepth 40000 in
theorem ok_t_XL_useField_2 : pe_ckB (pe_GA []) pe_cl pe_ckA t_XL_useField (td_t_XL_useField 2).1 (td_t_XL_useField 2).2 = true := by decide +kernel
theorem ok_t_XL_useField_a : ∀ b ∈ t_XL_useField.bl, pe_ckB (pe_GA []) pe_cl pe_ckA t_XL_useField b.1 b.2 = true := by
  intro b hb
  obtain ⟨n, hn⟩ := List.getElem?_of_mem hb
  rw [← pe_at_eq] at hn
  match n, hn with
  | 0, hn =>
    have h2 : td_t_XL_useField 0 = b := by unfold td_t_XL_useField; rw [hn]; rfl
    rw [← h2]; exact ok_t_XL_useField_0
  | 1, hn =>
    have h2 : td_t_XL_useField 1 = b := by unfold td_t_XL_useField; rw [hn]; rfl
    rw [← h2]; exact ok_t_XL_useField_1
  | 2, hn =>
    have h2 : td_t_XL_useField 2 = b := by unfold td_t_XL_useField; rw [hn]; rfl
    rw [← h2]; exact ok_t_XL_useField_2
  | n + 3, hn =>
    rw [pe_at_eq] at hn
    exact absurd (List.getElem?_eq_some_iff.mp hn).1 (by show ¬ n + 3 < 3; omega)
theorem ok_t_XL_useField : pe_okM (pe_GA []) pe_cl pe_ckA t_XL_useField = true := pe_okM_mk (pe_w_of (by rfl) (by rfl)) (by decide +kernel) ok_t_XL_useField_a
def td_t_XL_answer (k : Nat) : Nat × List pe_I := (pe_at t_XL_answer.bl k).getD (0, [])
set_option maxRecDepth 40000 in
theorem ok_t_XL_answer_0 : pe_ckB (pe_GA []) pe_cl pe_ckA t_XL_answer (td_t_XL_answer 0).1 (td_t_XL_answer 0).2 = true := by decide +kernel
set_option maxRecDepth 40000 in
theorem ok_t_XL_answer_1 : pe_ckB (pe_GA []) pe_cl pe_ckA t_XL_answer (td_t_XL_answer 1).1 (td_t_XL_answer 1).2 = true := by decide +kernel
set_option maxRecDepth 40000 in
theorem ok_t_XL_answer_2 : pe_ckB (pe_GA []) pe_cl pe_ckA t_XL_answer (td_t_XL_answer 2).1 (td_t_XL_answer 2).2 = true := by decide +kernel
set_option maxRecDepth 40000 in
theorem ok_t_XL_answer_3 : pe_ckB (pe_GA []) pe_cl pe_ckA t_XL_answer (td_t_XL_answer 3).1 (td_t_XL_answer 3).2 = true := by decide +kernel
set_option maxRecDepth 40000 in
theorem ok_t_XL_answer_4 : pe_ckB (pe_GA []) pe_cl pe_ckA t_XL_answer (td_t_XL_answer 4).1 (td_t_XL_answer 4).2 = true := by decide +kernel
set_option maxRecDepth 40000 in
theorem ok_t_XL_answer_5 : pe_ckB (pe_GA []) pe_cl pe_ckA t_XL_answer (td_t_XL_answer 5).1 (td_t_XL_answer 5).2 = true := by decide +kernel
set_option maxRecDepth 40000 in
theorem ok_t_XL_answer_6 : pe_ckB (pe_GA []) pe_cl pe_ckA t_XL_answer (td_t_XL_answer 6).1 (td_t_XL_answer 6).2 = true := by decide +kernel
set_option maxRecDepth 40000 in
theorem ok_t_XL_answer_7 : pe_ckB (pe_GA []) pe_cl pe_ckA t_XL_answer (td_t_XL_answer 7).1 (td_t_XL_answer 7).2 = true := by decide +kernel
set_option maxRecDepth 40000 in
theorem ok_t_XL_answer_8 : pe_ckB (pe_GA []) pe_cl pe_ckA t_XL_answer (td_t_XL_answer 8).1 (td_t_XL_answer 8).2 = true := by decide +kernel
set_option maxRecDepth 40000 in
theorem ok_t_XL_answer_9 : pe_ckB (pe_GA []) pe_cl pe_ckA t_XL_answer (td_t_XL_answer 9).1 (td_t_XL_answer 9).2 = true := by decide +kernel
set_option maxRecDepth 40000 in
theorem ok_t_XL_answer_10 : pe_ckB (pe_GA []) pe_cl pe_ckA t_XL_answer (td_t_XL_answer 10).1 (td_t_XL_answer 10).2 = true := by decide +kernel
set_option maxRecDepth 40000 in
theorem ok_t_XL_answer_11 : pe_ckB (pe_GA []) pe_cl pe_ckA t_XL_answer (td_t_XL_answer 11).1 (td_t_XL_answer 11).2 = true := by decide +kernel
set_option maxRecDepth 40000 in
theorem ok_t_XL_answer_12 : pe_ckB (pe_GA []) pe_cl pe_ckA t_XL_answer (td_t_XL_answer 12).1 (td_t_XL_answer 12).2 = true := by decide +kernel
set_option maxRecDepth 40000 in
theorem ok_t_XL_answer_13 : pe_ckB (pe_GA []) pe_cl pe_ckA t_XL_answer (td_t_XL_answer 13).1 (td_t_XL_answer 13).2 = true := by decide +kernel
set_option maxRecDepth 40000 in
theorem ok_t_XL_answer_14 : pe_ckB (pe_GA []) pe_cl pe_ckA t_XL_answer (td_t_XL_answer 14).1 (td_t_XL_answer 14).2 = true := by decide +kernel
set_option maxRecDepth 40000 in
theorem ok_t_XL_answer_15 : pe_ckB (pe_GA []) pe_cl pe_ckA t_XL_answer (td_t_XL_answer 15).1 (td_t_XL_answer 15).2 = true := by decide +kernel
set_option maxRecDepth 40000 in
theorem ok_t_XL_answer_16 : pe_ckB (pe_GA []) pe_cl pe_ckA t_XL_answer (td_t_XL_answer 16).1 (td_t_XL_answer 16).2 = true := by decide +kernel
set_option maxRecDepth 40000 in
theorem ok_t_XL_answer_17 : pe_ckB (pe_GA []) pe_cl pe_ckA t_XL_answer (td_t_XL_answer 17).1 (td_t_XL_answer 17).2 = true := by decide +kernel
set_option maxRecDepth 40000 in
theorem ok_t_XL_answer_18 : pe_ckB (pe_GA []) pe_cl pe_ckA t_XL_answer (td_t_XL_answer 18).1 (td_t_XL_answer 18).2 = true := by decide +kernel
theorem ok_t_XL_answer_a : ∀ b ∈ t_XL_answer.bl, pe_ckB (pe_GA []) pe_cl pe_ckA t_XL_answer b.1 b.2 = true := by
  intro b hb
  obtain ⟨n, hn⟩ := List.getElem?_of_mem hb
  rw [← pe_at_eq] at hn
  match n, hn with
  | 0, hn =>
    have h2 : td_t_XL_answer 0 = b := by unfold td_t_XL_answer; rw [hn]; rfl
    rw [← h2]; exact ok_t_XL_answer_0
  | 1, hn =>
    have h2 : td_t_XL_answer 1 = b := by unfold td_t_XL_answer; rw [hn]; rfl
    rw [← h2]; exact ok_t_XL_answer_1
  | 2, hn =>
    have h2 : td_t_XL_answer 2 = b := by unfold td_t_XL_answer; rw [hn]; rfl
    rw [← h2]; exact ok_t_XL_answer_2
  | 3, hn =>
    have h2 : td_t_XL_answer 3 = b := by unfold td_t_XL_answer; rw [hn]; rfl
    rw [← h2]; exact ok_t_XL_answer_3
  | 4, hn =>
    have h2 : td_t_XL_answer 4 = b := by unfold td_t_XL_answer; rw [hn]; rfl
    rw [← h2]; exact ok_t_XL_answer_4
  | 5, hn =>
    have h2 : td_t_XL_answer 5 = b := by unfold td_t_XL_answer; rw [hn]; rfl
    rw [← h2]; exact ok_t_XL_answer_5
  | 6, hn =>
    have h2 : td_t_XL_answer 6 = b := by unfold td_t_XL_answer; rw [hn]; rfl
    rw [← h2]; exact ok_t_XL_answer_6
  | 7, hn =>
    have h2 : td_t_XL_answer 7 = b := by unfold td_t_XL_answer; rw [hn]; rfl
    rw [← h2]; exact ok_t_XL_answer_7
  | 8, hn =>
    have h2 : td_t_XL_answer 8 = b := by unfold td_t_XL_answer; rw [hn]; rfl
    rw [← h2]; exact ok_t_XL_answer_8
  | 9, hn =>
    have h2 : td_t_XL_answer 9 = b := by unfold td_t_XL_answer; rw [hn]; rfl
    rw [← h2]; exact ok_t_XL_answer_9
  | 10, hn =>
    have h2 : td_t_XL_answer 10 = b := by unfold td_t_XL_answer; rw [hn]; rfl
    rw [← h2]; exact ok_t_XL_answer_10
  | 11, hn =>
    have h2 : td_t_XL_answer 11 = b := by unfold td_t_XL_answer; rw [hn]; rfl
    rw [← h2]; exact ok_t_XL_answer_11
  | 12, hn =>
    have h2 : td_t_XL_answer 12 = b := by unfold td_t_XL_answer; rw [hn]; rfl
    rw [← h2]; exact ok_t_XL_answer_12
  | 13, hn =>
    have h2 : td_t_XL_answer 13 = b := by unfold td_t_XL_answer; rw [hn]; rfl
    rw [← h2]; exact ok_t_XL_answer_13
  | 14, hn =>
    have h2 : td_t_XL_answer 14 = b := by unfold td_t_XL_answer; rw [hn]; rfl
    rw [← h2]; exact ok_t_XL_answer_14
  | 15, hn =>
    have h2 : td_t_XL_answer 15 = b := by unfold td_t_XL_answer; rw [hn]; rfl
    rw [← h2]; exact ok_t_XL_answer_15
  | 16, hn =>
    have h2 : td_t_XL_answer 16 = b := by unfold td_t_XL_answer; rw [hn]; rfl
    rw [← h2]; exact ok_t_XL_answer_16
  | 17, hn =>
    have h2 : td_t_XL_answer 17 = b := by unfold td_t_XL_answer; rw [hn]; rfl
    rw [← h2]; exact ok_t_XL_answer_17
  | 18, hn =>
    have h2 : td_t_XL_answer 18 = b := by unfold td_t_XL_answer; rw [hn]; rfl
    rw [← h2]; exact ok_t_XL_answer_18
  | n + 19, hn =>
    rw [pe_at_eq] at hn
    exact absurd (List.getElem?_eq_some_iff.mp hn).1 (by show ¬ n + 19 < 19; omega)
theorem ok_t_XL_answer : pe_okM (pe_GA []) pe_cl pe_ckA t_XL_answer = true := pe_okM_mk (pe_w_of (by rfl) (by rfl)) (by decide +kernel) ok_t_XL_answer_a
def td_t_XH_show (k : Nat) : Nat × List pe_I := (pe_at t_XH_show.bl k).getD (0, [])
set_option maxRecDepth 40000 in
theorem ok_t_XH_show_0 : pe_ckB (pe_GA []) pe_cl pe_ckA t_XH_show (td_t_XH_show 0).1 (td_t_XH_show 0).2 = true := by decide +kernel
set_option maxRecDepth 40000 in
theorem ok_t_XH_show_1 : pe_ckB (pe_GA []) pe_cl pe_ckA t_XH_show (td_t_XH_show 1).1 (td_t_XH_show 1).2 = true := by decide +kernel
set_option maxRecDepth 40000 in
theorem ok_t_XH_show_2 : pe_ckB (pe_GA []) pe_cl pe_ckA t_XH_show (td_t_XH_show 2).1 (td_t_XH_show 2).2 = true := by decide +kernel
set_option maxRecDepth 40000 in
theorem ok_t_XH_show_3 : pe_ckB (pe_GA []) pe_cl pe_ckA t_XH_show (td_t_XH_show 3).1 (td_t_XH_show 3).2 = true := by decide +kernel
set_option maxRecDepth 40000 in
theorem ok_t_XH_show_4 : pe_ckB (pe_GA []) pe_cl pe_ckA t_XH_show (td_t_XH_show 4).1 (td_t_XH_show 4).2 = true := by decide +kernel
set_option maxRecDepth 40000 in
theorem ok_t_XH_show_5 : pe_ckB (pe_GA []) pe_cl pe_ckA t_XH_show (td_t_XH_show 5).1 (td_t_XH_show 5).2 = true := by decide +kernel
set_option maxRecDepth 40000 in
theorem ok_t_XH_show_6 : pe_ckB (pe_GA []) pe_cl pe_ckA t_XH_show (td_t_XH_show 6).1 (td_t_XH_show 6).2 = true := by decide +kernel
set_option maxRecDepth 40000 in
theorem ok_t_XH_show_7 : pe_ckB (pe_GA []) pe_cl pe_ckA t_XH_show (td_t_XH_show 7).1 (td_t_XH_show 7).2 = true := by decide +kernel
set_option maxRecDepth 40000 in
theorem ok_t_XH_show_8 : pe_ckB (pe_GA []) pe_cl pe_ckA t_XH_show (td_t_XH_show 8).1 (td_t_XH_show 8).2 = true := by decide +kernel
set_option maxRecDepth 40000 in
theorem ok_t_XH_show_9 : pe_ckB (pe_GA []) pe_cl pe_ckA t_XH_show (td_t_XH_show 9).1 (td_t_XH_show 9).2 = true := by decide +kernel
set_option maxRecDepth 40000 in
theorem ok_t_XH_show_10 : pe_ckB (pe_GA []) pe_cl pe_ckA t_XH_show (td_t_XH_show 10).1 (td_t_XH_show 10).2 = true := by decide +kernel
set_option maxRecDepth 40000 in
theorem ok_t_XH_show_11 : pe_ckB (pe_GA []) pe_cl pe_ckA t_XH_show (td_t_XH_show 11).1 (td_t_XH_show 11).2 = true := by decide +kernel
set_option maxRecDepth 40000 in
theorem ok_t_XH_show_12 : pe_ckB (pe_GA []) pe_cl pe_ckA t_XH_show (td_t_XH_show 12).1 (td_t_XH_show 12).2 = true := by decide +kernel
theorem ok_t_XH_show_a : ∀ b ∈ t_XH_show.bl, pe_ckB (pe_GA []) pe_cl pe_ckA t_XH_show b.1 b.2 = true := by
  intro b hb
  obtain ⟨n, hn⟩ := List.getElem?_of_mem hb
  rw [← pe_at_eq] at hn
  match n, hn with
  | 0, hn =>
    have h2 : td_t_XH_show 0 = b := by unfold td_t_XH_show; rw [hn]; rfl
    rw [← h2]; exact ok_t_XH_show_0
  | 1, hn =>
    have h2 : td_t_XH_show 1 = b := by unfold td_t_XH_show; rw [hn]; rfl
    rw [← h2]; exact ok_t_XH_show_1
  | 2, hn =>
    have h2 : td_t_XH_show 2 = b := by unfold td_t_XH_show; rw [hn]; rfl
    rw [← h2]; exact ok_t_XH_show_2
  | 3, hn =>
    have h2 : td_t_XH_show 3 = b := by unfold td_t_XH_show; rw [hn]; rfl
    rw [← h2]; exact ok_t_XH_show_3
  | 4, hn =>
    have h2 : td_t_XH_show 4 = b := by unfold td_t_XH_show; rw [hn]; rfl
    rw [← h2]; exact ok_t_XH_show_4
  | 5, hn =>
    have h2 : td_t_XH_show 5 = b := by unfold td_t_XH_show; rw [hn]; rfl
    rw [← h2]; exact ok_t_XH_show_5
  | 6, hn =>
    have h2 : td_t_XH_show 6 = b := by unfold td_t_XH_show; rw [hn]; rfl
    rw [← h2]; exact ok_t_XH_show_6
  | 7, hn =>
    have h2 : td_t_XH_show 7 = b := by unfold td_t_XH_show; rw [hn]; rfl
    rw [← h2]; exact ok_t_XH_show_7
  | 8, hn =>
    have h2 : td_t_XH_show 8 = b := by unfold td_t_XH_show; rw [hn]; rfl
    rw [← h2]; exact ok_t_XH_show_8
  | 9, hn =>
    have h2 : td_t_XH_show 9 = b := by unfold td_t_XH_show; rw [hn]; rfl
    rw [← h2]; exact ok_t_XH_show_9
  | 10, hn =>
    have h2 : td_t_XH_show 10 = b := by unfold td_t_XH_show; rw [hn]; rfl
    rw [← h2]; exact ok_t_XH_show_10
  | 11, hn =>
    have h2 : td_t_XH_show 11 = b := by unfold td_t_XH_show; rw [hn]; rfl
    rw [← h2]; exact ok_t_XH_show_11
  | 12, hn =>
    have h2 : td_t_XH_show 12 = b := by unfold td_t_XH_show; rw [hn]; rfl
    rw [← h2]; exact ok_t_XH_show_12
  | n + 13, hn =>
    rw [pe_at_eq] at hn
    exact absurd (List.getElem?_eq_some_iff.mp hn).1 (by show ¬ n + 13 < 13; omega)
theorem ok_t_XH_show : pe_okM (pe_GA []) pe_cl pe_ckA t_XH_show = true := pe_okM_mk (pe_w_of (by rfl) (by rfl)) (by decide +kernel) ok_t_XH_show_a
set_option maxRecDepth 40000 in
theorem ok_t_XH_appendShown : pe_okM (pe_GA []) pe_cl pe_ckA t_XH_appendShown = true := by decide +kernel
set_option maxRecDepth 40000 in
theorem ok_t_XH_print : pe_okM (pe_GA []) pe_cl pe_ckA t_XH_print = true := by decide +kernel
def td_t_XH_reshaped (k : Nat) : Nat × List pe_I := (pe_at t_XH_reshaped.bl k).getD (0, [])
set_option maxRecDepth 40000 in
theorem ok_t_XH_reshaped_0 : pe_ckB (pe_GA []) pe_cl pe_ckA t_XH_reshaped (td_t_XH_reshaped 0).1 (td_t_XH_reshaped 0).2 = true := by decide +kernel
set_option maxRecDepth 40000 in
theorem ok_t_XH_reshaped_1 : pe_ckB (pe_GA []) pe_cl pe_ckA t_XH_reshaped (td_t_XH_reshaped 1).1 (td_t_XH_reshaped 1).2 = true := by decide +kernel
set_option maxRecDepth 40000 in
theorem ok_t_XH_reshaped_2 : pe_ckB (pe_GA []) pe_cl pe_ckA t_XH_reshaped (td_t_XH_reshaped 2).1 (td_t_XH_reshaped 2).2 = true := by decide +kernel
set_option maxRecDepth 40000 in
theorem ok_t_XH_reshaped_3 : pe_ckB (pe_GA []) pe_cl pe_ckA t_XH_reshaped (td_t_XH_reshaped 3).1 (td_t_XH_reshaped 3).2 = true := by decide +kernel
set_option maxRecDepth 40000 in
theorem ok_t_XH_reshaped_4 : pe_ckB (pe_GA []) pe_cl pe_ckA t_XH_reshaped (td_t_XH_reshaped 4).1 (td_t_XH_reshaped 4).2 = true := by decide +kernel
set_option maxRecDepth 40000 in
theorem ok_t_XH_reshaped_5 : pe_ckB (pe_GA []) pe_cl pe_ckA t_XH_reshaped (td_t_XH_reshaped 5).1 (td_t_XH_reshaped 5).2 = true := by decide +kernel
set_option maxRecDepth 40000 in
theorem ok_t_XH_reshaped_6 : pe_ckB (pe_GA []) pe_cl pe_ckA t_XH_reshaped (td_t_XH_reshaped 6).1 (td_t_XH_reshaped 6).2 = true := by decide +kernel
set_option maxRecDepth 40000 in
theorem ok_t_XH_reshaped_7 : pe_ckB (pe_GA []) pe_cl pe_ckA t_XH_reshaped (td_t_XH_reshaped 7).1 (td_t_XH_reshaped 7).2 = true := by decide +kernel
set_option maxRecDepth 40000 in
theorem ok_t_XH_reshaped_8 : pe_ckB (pe_GA []) pe_cl pe_ckA t_XH_reshaped (td_t_XH_reshaped 8).1 (td_t_XH_reshaped 8).2 = true := by decide +kernel
set_option maxRecDepth 40000 in
theorem ok_t_XH_reshaped_9 : pe_ckB (pe_GA []) pe_cl pe_ckA t_XH_reshaped (td_t_XH_reshaped 9).1 (td_t_XH_reshaped 9).2 = true := by decide +kernel
set_option maxRecDepth 40000 in
theorem ok_t_XH_reshaped_10 : pe_ckB (pe_GA []) pe_cl pe_ckA t_XH_reshaped (td_t_XH_reshaped 10).1 (td_t_XH_reshaped 10).2 = true := by decide +kernel
set_option maxRecDepth 40000 in
theorem ok_t_XH_reshaped_11 : pe_ckB (pe_GA []) pe_cl pe_ckA t_XH_reshaped (td_t_XH_reshaped 11).1 (td_t_XH_reshaped 11).2 = true := by decide +kernel
set_option maxRecDepth 40000 in
theorem ok_t_XH_reshaped_12 : pe_ckB (pe_GA []) pe_cl pe_ckA t_XH_reshaped (td_t_XH_reshaped 12).1 (td_t_XH_reshaped 12).2 = true := by decide +kernel
set_option maxRecDepth 40000 in
theorem ok_t_XH_reshaped_13 : pe_ckB (pe_GA []) pe_cl pe_ckA t_XH_reshaped (td_t_XH_reshaped 13).1 (td_t_XH_reshaped 13).2 = true := by decide +kernel
set_option maxRecDepth 40000 in
theorem ok_t_XH_reshaped_14 : pe_ckB (pe_GA []) pe_cl pe_ckA t_XH_reshaped (td_t_XH_reshaped 14).1 (td_t_XH_reshaped 14).2 = true := by decide +kernel
set_option maxRecDepth 40000 in
theorem ok_t_XH_reshaped_15 : pe_ckB (pe_GA []) pe_cl pe_ckA t_XH_reshaped (td_t_XH_reshaped 15).1 (td_t_XH_reshaped 15).2 = true := by decide +kernel
set_option maxRecDepth 40000 in
theorem ok_t_XH_reshaped_16 : pe_ckB (pe_GA []) pe_cl pe_ckA t_XH_reshaped (td_t_XH_reshaped 16).1 (td_t_XH_reshaped 16).2 = true := by decide +kernel
set_option maxRecDepth 40000 in
theorem ok_t_XH_reshaped_17 : pe_ckB (pe_GA []) pe_cl pe_ckA t_XH_reshaped (td_t_XH_reshaped 17).1 (td_t_XH_reshaped 17).2 = true := by decide +kernel
theorem ok_t_XH_reshaped_a : ∀ b ∈ t_XH_reshaped.bl, pe_ckB (pe_GA []) pe_cl pe_ckA t_XH_reshaped b.1 b.2 = true := by
  intro b hb
  obtain ⟨n, hn⟩ := List.getElem?_of_mem hb
  rw [← pe_at_eq] at hn
  match n, hn with
  | 0, hn =>
    have h2 : td_t_XH_reshaped 0 = b := by unfold td_t_XH_reshaped; rw [hn]; rfl
    rw [← h2]; exact ok_t_XH_reshaped_0
  | 1, hn =>
    have h2 : td_t_XH_reshaped 1 = b := by unfold td_t_XH_reshaped; rw [hn]; rfl
    rw [← h2]; exact ok_t_XH_reshaped_1
  | 2, hn =>
    have h2 : td_t_XH_reshaped 2 = b := by unfold td_t_XH_reshaped; rw [hn]; rfl
    rw [← h2]; exact ok_t_XH_reshaped_2
  | 3, hn =>
    have h2 : td_t_XH_reshaped 3 = b := by unfold td_t_XH_reshaped; rw [hn]; rfl
    rw [← h2]; exact ok_t_XH_reshaped_3
  | 4, hn =>
    have h2 : td_t_XH_reshaped 4 = b := by unfold td_t_XH_reshaped; rw [hn]; rfl
    rw [← h2]; exact ok_t_XH_reshaped_4
  | 5, hn =>
    have h2 : td_t_XH_reshaped 5 = b := by unfold td_t_XH_reshaped; rw [hn]; rfl
    rw [← h2]; exact ok_t_XH_reshaped_5
  | 6, hn =>
    have h2 : td_t_XH_reshaped 6 = b := by unfold td_t_XH_reshaped; rw [hn]; rfl
    rw [← h2]; exact ok_t_XH_reshaped_6
  | 7, hn =>
    have h2 : td_t_XH_reshaped 7 = b := by unfold td_t_XH_reshaped; rw [hn]; rfl
    rw [← h2]; exact ok_t_XH_reshaped_7
  | 8, hn =>
    have h2 : td_t_XH_reshaped 8 = b := by unfold td_t_XH_reshaped; rw [hn]; rfl
    rw [← h2]; exact ok_t_XH_reshaped_8
  | 9, hn =>
    have h2 : td_t_XH_reshaped 9 = b := by unfold td_t_XH_reshaped; rw [hn]; rfl
    rw [← h2]; exact ok_t_XH_reshaped_9
  | 10, hn =>
    have h2 : td_t_XH_reshaped 10 = b := by unfold td_t_XH_reshaped; rw [hn]; rfl
    rw [← h2]; exact ok_t_XH_reshaped_10
  | 11, hn =>
    have h2 : td_t_XH_reshaped 11 = b := by unfold td_t_XH_reshaped; rw [hn]; rfl
    rw [← h2]; exact ok_t_XH_reshaped_11
  | 12, hn =>
    have h2 : td_t_XH_reshaped 12 = b := by unfold td_t_XH_reshaped; rw [hn]; rfl
    rw [← h2]; exact ok_t_XH_reshaped_12
  | 13, hn =>
    have h2 : td_t_XH_reshaped 13 = b := by unfold td_t_XH_reshaped; rw [hn]; rfl
    rw [← h2]; exact ok_t_XH_reshaped_13
  | 14, hn =>
    have h2 : td_t_XH_reshaped 14 = b := by unfold td_t_XH_reshaped; rw [hn]; rfl
    rw [← h2]; exact ok_t_XH_reshaped_14
  | 15, hn =>
    have h2 : td_t_XH_reshaped 15 = b := by unfold td_t_XH_reshaped; rw [hn]; rfl
    rw [← h2]; exact ok_t_XH_reshaped_15
  | 16, hn =>
    have h2 : td_t_XH_reshaped 16 = b := by unfold td_t_XH_reshaped; rw [hn]; rfl
    rw [← h2]; exact ok_t_XH_reshaped_16
  | 17, hn =>
    have h2 : td_t_XH_reshaped 17 = b := by unfold td_t_XH_reshaped; rw [hn]; rfl
    rw [← h2]; exact ok_t_XH_reshaped_17
  | n + 18, hn =>
    rw [pe_at_eq] at hn
    exact absurd (List.getElem?_eq_some_iff.mp hn).1 (by show ¬ n + 18 < 18; omega)
theorem ok_t_XH_reshaped : pe_okM (pe_GA []) pe_cl pe_ckA t_XH_reshaped = true := pe_okM_mk (pe_w_of (by rfl) (by rfl)) (by decide +kernel) ok_t_XH_reshaped_a
set_option maxRecDepth 40000 in
theorem ok_t_XH_noteChange : pe_okM (pe_GA []) pe_cl pe_ckA t_XH_noteChange = true := by decide +kernel
set_option maxRecDepth 40000 in
theorem ok_t_XH_dropValue : pe_okM (pe_GA []) pe_cl pe_ckA t_XH_dropValue = true := by decide +kernel
set_option maxRecDepth 40000 in
theorem ok_t_XW_sliceOf : pe_okM (pe_GA []) pe_cl pe_ckA t_XW_sliceOf = true := by decide +kernel
def td_t_XH_addValue (k : Nat) : Nat × List pe_I := (pe_at t_XH_addValue.bl k).getD (0, [])
set_option maxRecDepth 40000 in
theorem ok_t_XH_addValue_0 : pe_ckB (pe_GA []) pe_cl pe_ckA t_XH_addValue (td_t_XH_addValue 0).1 (td_t_XH_addValue 0).2 = true := by decide +kernel
set_option maxRecDepth 40000 in
theorem ok_t_XH_addValue_1 : pe_ckB (pe_GA []) pe_cl pe_ckA t_XH_addValue (td_t_XH_addValue 1).1 (td_t_XH_addValue 1).2 = true := by decide +kernel
set_option maxRecDepth 40000 in
theorem ok_t_XH_addValue_2 : pe_ckB (pe_GA []) pe_cl pe_ckA t_XH_addValue (td_t_XH_addValue 2).1 (td_t_XH_addValue 2).2 = true := by decide +kernel
set_option maxRecDepth 40000 in
theorem ok_t_XH_addValue_3 : pe_ckB (pe_GA []) pe_cl pe_ckA t_XH_addValue (td_t_XH_addValue 3).1 (td_t_XH_addValue 3).2 = true := by decide +kernel
set_option maxRecDepth 40000 in
theorem ok_t_XH_addValue_4 : pe_ckB (pe_GA []) pe_cl pe_ckA t_XH_addValue (td_t_XH_addValue 4).1 (td_t_XH_addValue 4).2 = true := by decide +kernel
theorem ok_t_XH_addValue_a : ∀ b ∈ t_XH_addValue.bl, pe_ckB (pe_GA []) pe_cl pe_ckA t_XH_addValue b.1 b.2 = true := by
  intro b hb
  obtain ⟨n, hn⟩ := List.getElem?_of_mem hb
  rw [← pe_at_eq] at hn
  match n, hn with
  | 0, hn =>
    have h2 : td_t_XH_addValue 0 = b := by unfold td_t_XH_addValue; rw [hn]; rfl
    rw [← h2]; exact ok_t_XH_addValue_0
  | 1, hn =>
    have h2 : td_t_XH_addValue 1 = b := by unfold td_t_XH_addValue; rw [hn]; rfl
    rw [← h2]; exact ok_t_XH_addValue_1
  | 2, hn =>
    have h2 : td_t_XH_addValue 2 = b := by unfold td_t_XH_addValue; rw [hn]; rfl
    rw [← h2]; exact ok_t_XH_addValue_2
  | 3, hn =>
    have h2 : td_t_XH_addValue 3 = b := by unfold td_t_XH_addValue; rw [hn]; rfl
    rw [← h2]; exact ok_t_XH_addValue_3
  | 4, hn =>
    have h2 : td_t_XH_addValue 4 = b := by unfold td_t_XH_addValue; rw [hn]; rfl
    rw [← h2]; exact ok_t_XH_addValue_4
  | n + 5, hn =>
    rw [pe_at_eq] at hn
    exact absurd (List.getElem?_eq_some_iff.mp hn).1 (by show ¬ n + 5 < 5; omega)
theorem ok_t_XH_addValue : pe_okM (pe_GA []) pe_cl pe_ckA t_XH_addValue = true := pe_okM_mk (pe_w_of (by rfl) (by rfl)) (by decide +kernel) ok_t_XH_addValue_a
def td_t_XK_comeBack (k : Nat) : Nat × List pe_I := (pe_at t_XK_comeBack.bl k).getD (0, [])
set_option maxRecDepth 40000 in
theorem ok_t_XK_comeBack_0 : pe_ckB (pe_GA []) pe_cl pe_ckA t_XK_comeBack (td_t_XK_comeBack 0).1 (td_t_XK_comeBack 0).2 = true := by decide +kernel
set_option maxRecDepth 40000 in
theorem ok_t_XK_comeBack_1 : pe_ckB (pe_GA []) pe_cl pe_ckA t_XK_comeBack (td_t_XK_comeBack 1).1 (td_t_XK_comeBack 1).2 = true := by decide +kernel
set_option maxRecDepth 40000 in
theorem ok_t_XK_comeBack_2 : pe_ckB (pe_GA []) pe_cl pe_ckA t_XK_comeBack (td_t_XK_comeBack 2).1 (td_t_XK_comeBack 2).2 = true := by decide +kernel
set_option maxRecDepth 40000 in
theorem ok_t_XK_comeBack_3 : pe_ckB (pe_GA []) pe_cl pe_ckA t_XK_comeBack (td_t_XK_comeBack 3).1 (td_t_XK_comeBack 3).2 = true := by decide +kernel
set_option maxRecDepth 40000 in
theorem ok_t_XK_comeBack_4 : pe_ckB (pe_GA []) pe_cl pe_ckA t_XK_comeBack (td_t_XK_comeBack 4).1 (td_t_XK_comeBack 4).2 = true := by decide +kernel
set_option maxRecDepth 40000 in
theorem ok_t_XK_comeBack_5 : pe_ckB (pe_GA []) pe_cl pe_ckA t_XK_comeBack (td_t_XK_comeBack 5).1 (td_t_XK_comeBack 5).2 = true := by decide +kernel
theorem ok_t_XK_comeBack_a : ∀ b ∈ t_XK_comeBack.bl, pe_ckB (pe_GA []) pe_cl pe_ckA t_XK_comeBack b.1 b.2 = true := by
  intro b hb
  obtain ⟨n, hn⟩ := List.getElem?_of_mem hb
  rw [← pe_at_eq] at hn
  match n, hn with
  | 0, hn =>
    have h2 : td_t_XK_comeBack 0 = b := by unfold td_t_XK_comeBack; rw [hn]; rfl
    rw [← h2]; exact ok_t_XK_comeBack_0
  | 1, hn =>
    have h2 : td_t_XK_comeBack 1 = b := by unfold td_t_XK_comeBack; rw [hn]; rfl
    rw [← h2]; exact ok_t_XK_comeBack_1
  | 2, hn =>
    have h2 : td_t_XK_comeBack 2 = b := by unfold td_t_XK_comeBack; rw [hn]; rfl
    rw [← h2]; exact ok_t_XK_comeBack_2
  | 3, hn =>
    have h2 : td_t_XK_comeBack 3 = b := by unfold td_t_XK_comeBack; rw [hn]; rfl
    rw [← h2]; exact ok_t_XK_comeBack_3
  | 4, hn =>
    have h2 : td_t_XK_comeBack 4 = b := by unfold td_t_XK_comeBack; rw [hn]; rfl
    rw [← h2]; exact ok_t_XK_comeBack_4
  | 5, hn =>
    have h2 : td_t_XK_comeBack 5 = b := by unfold td_t_XK_comeBack; rw [hn]; rfl
    rw [← h2]; exact ok_t_XK_comeBack_5
  | n + 6, hn =>
    rw [pe_at_eq] at hn
    exact absurd (List.getElem?_eq_some_iff.mp hn).1 (by show ¬ n + 6 < 6; omega)
theorem ok_t_XK_comeBack : pe_okM (pe_GA []) pe_cl pe_ckA t_XK_comeBack = true := pe_okM_mk (pe_w_of (by rfl) (by rfl)) (by decide +kernel) ok_t_XK_comeBack_a
set_option maxRecDepth 40000 in
theorem ok_t_XK_noteTry : pe_okM (pe_GA []) pe_cl pe_ckA t_XK_noteTry = true := by decide +kernel
set_option maxRecDepth 40000 in
theorem ok_t_M_own : pe_okM (pe_GA []) pe_cl pe_ckA t_M_own = true := by decide +kernel
set_option maxRecDepth 40000 in
theorem ok_t_M_findShape : pe_okM (pe_GA []) pe_cl pe_ckA t_M_findShape = true := by decide +kernel
def td_t_M_isNamed (k : Nat) : Nat × List pe_I := (pe_at t_M_isNamed.bl k).getD (0, [])
set_option maxRecDepth 40000 in
theorem ok_t_M_isNamed_0 : pe_ckB (pe_GA []) pe_cl pe_ckA t_M_isNamed (td_t_M_isNamed 0).1 (td_t_M_isNamed 0).2 = true := by decide +kernel
set_option maxRecDepth 40000 in
theorem ok_t_M_isNamed_1 : pe_ckB (pe_GA []) pe_cl pe_ckA t_M_isNamed (td_t_M_isNamed 1).1 (td_t_M_isNamed 1).2 = true := by decide +kernel
set_option maxRecDepth 40000 in
theorem ok_t_M_isNamed_2 : pe_ckB (pe_GA []) pe_cl pe_ckA t_M_isNamed (td_t_M_isNamed 2).1 (td_t_M_isNamed 2).2 = true := by decide +kernel
set_option maxRecDepth 40000 in
theorem ok_t_M_isNamed_3 : pe_ckB (pe_GA []) pe_cl pe_ckA t_M_isNamed (td_t_M_isNamed 3).1 (td_t_M_isNamed 3).2 = true := by decide +kernel
set_option maxRecDepth 40000 in
theorem ok_t_M_isNamed_4 : pe_ckB (pe_GA []) pe_cl pe_ckA t_M_isNamed (td_t_M_isNamed 4).1 (td_t_M_isNamed 4).2 = true := by decide +kernel
set_option maxRecDepth 40000 in
theorem ok_t_M_isNamed_5 : pe_ckB (pe_GA []) pe_cl pe_ckA t_M_isNamed (td_t_M_isNamed 5).1 (td_t_M_isNamed 5).2 = true := by decide +kernel
set_option maxRecDepth 40000 in
theorem ok_t_M_isNamed_6 : pe_ckB (pe_GA []) pe_cl pe_ckA t_M_isNamed (td_t_M_isNamed 6).1 (td_t_M_isNamed 6).2 = true := by decide +kernel
theorem ok_t_M_isNamed_a : ∀ b ∈ t_M_isNamed.bl, pe_ckB (pe_GA []) pe_cl pe_ckA t_M_isNamed b.1 b.2 = true := by
  intro b hb
  obtain ⟨n, hn⟩ := List.getElem?_of_mem hb
  rw [← pe_at_eq] at hn
  match n, hn with
  | 0, hn =>
    have h2 : td_t_M_isNamed 0 = b := by unfold td_t_M_isNamed; rw [hn]; rfl
    rw [← h2]; exact ok_t_M_isNamed_0
  | 1, hn =>
    have h2 : td_t_M_isNamed 1 = b := by unfold td_t_M_isNamed; rw [hn]; rfl
    rw [← h2]; exact ok_t_M_isNamed_1
  | 2, hn =>
    have h2 : td_t_M_isNamed 2 = b := by unfold td_t_M_isNamed; rw [hn]; rfl
    rw [← h2]; exact ok_t_M_isNamed_2
  | 3, hn =>
    have h2 : td_t_M_isNamed 3 = b := by unfold td_t_M_isNamed; rw [hn]; rfl
    rw [← h2]; exact ok_t_M_isNamed_3
  | 4, hn =>
    have h2 : td_t_M_isNamed 4 = b := by unfold td_t_M_isNamed; rw [hn]; rfl
    rw [← h2]; exact ok_t_M_isNamed_4
  | 5, hn =>
    have h2 : td_t_M_isNamed 5 = b := by unfold td_t_M_isNamed; rw [hn]; rfl
    rw [← h2]; exact ok_t_M_isNamed_5
  | 6, hn =>
    have h2 : td_t_M_isNamed 6 = b := by unfold td_t_M_isNamed; rw [hn]; rfl
    rw [← h2]; exact ok_t_M_isNamed_6
  | n + 7, hn =>
    rw [pe_at_eq] at hn
    exact absurd (List.getElem?_eq_some_iff.mp hn).1 (by show ¬ n + 7 < 7; omega)
theorem ok_t_M_isNamed : pe_okM (pe_GA []) pe_cl pe_ckA t_M_isNamed = true := pe_okM_mk (pe_w_of (by rfl) (by rfl)) (by decide +kernel) ok_t_M_isNamed_a
def td_t_M_getter (k : Nat) : Nat × List pe_I := (pe_at t_M_getter.bl k).getD (0, [])
set_option maxRecDepth 40000 in
theorem ok_t_M_getter_0 : pe_ckB (pe_GA []) pe_cl pe_ckA t_M_getter (td_t_M_getter 0).1 (td_t_M_getter 0).2 = true := by decide +kernel
set_option maxRecDepth 40000 in
theorem ok_t_M_getter_1 : pe_ckB (pe_GA []) pe_cl pe_ckA t_M_getter (td_t_M_getter 1).1 (td_t_M_getter 1).2 = true := by decide +kernel
set_option maxRecDepth 40000 in
theorem ok_t_M_getter_2 : pe_ckB (pe_GA []) pe_cl pe_ckA t_M_getter (td_t_M_getter 2).1 (td_t_M_getter 2).2 = true := by decide +kernel
set_option maxRecDepth 40000 in
theorem ok_t_M_getter_3 : pe_ckB (pe_GA []) pe_cl pe_ckA t_M_getter (td_t_M_getter 3).1 (td_t_M_getter 3).2 = true := by decide +kernel
set_option maxRecDepth 40000 in
theorem ok_t_M_getter_4 : pe_ckB (pe_GA []) pe_cl pe_ckA t_M_getter (td_t_M_getter 4).1 (td_t_M_getter 4).2 = true := by decide +kernel
theorem ok_t_M_getter_a : ∀ b ∈ t_M_getter.bl, pe_ckB (pe_GA []) pe_cl pe_ckA t_M_getter b.1 b.2 = true := by
  intro b hb
  obtain ⟨n, hn⟩ := List.getElem?_of_mem hb
  rw [← pe_at_eq] at hn
  match n, hn with
  | 0, hn =>
    have h2 : td_t_M_getter 0 = b := by unfold td_t_M_getter; rw [hn]; rfl
    rw [← h2]; exact ok_t_M_getter_0
  | 1, hn =>
    have h2 : td_t_M_getter 1 = b := by unfold td_t_M_getter; rw [hn]; rfl
    rw [← h2]; exact ok_t_M_getter_1
  | 2, hn =>
    have h2 : td_t_M_getter 2 = b := by unfold td_t_M_getter; rw [hn]; rfl
    rw [← h2]; exact ok_t_M_getter_2
  | 3, hn =>
    have h2 : td_t_M_getter 3 = b := by unfold td_t_M_getter; rw [hn]; rfl
    rw [← h2]; exact ok_t_M_getter_3
  | 4, hn =>
    have h2 : td_t_M_getter 4 = b := by unfold td_t_M_getter; rw [hn]; rfl
    rw [← h2]; exact ok_t_M_getter_4
  | n + 5, hn =>
    rw [pe_at_eq] at hn
    exact absurd (List.getElem?_eq_some_iff.mp hn).1 (by show ¬ n + 5 < 5; omega)
theorem ok_t_M_getter : pe_okM (pe_GA []) pe_cl pe_ckA t_M_getter = true := pe_okM_mk (pe_w_of (by rfl) (by rfl)) (by decide +kernel) ok_t_M_getter_a
def td_t_M_wants (k : Nat) : Nat × List pe_I := (pe_at t_M_wants.bl k).getD (0, [])
set_option maxRecDepth 40000 in
theorem ok_t_M_wants_0 : pe_ckB (pe_GA []) pe_cl pe_ckA t_M_wants (td_t_M_wants 0).1 (td_t_M_wants 0).2 = true := by decide +kernel
set_option maxRecDepth 40000 in
theorem ok_t_M_wants_1 : pe_ckB (pe_GA []) pe_cl pe_ckA t_M_wants (td_t_M_wants 1).1 (td_t_M_wants 1).2 = true := by decide +kernel
set_option maxRecDepth 40000 in
theorem ok_t_M_wants_2 : pe_ckB (pe_GA []) pe_cl pe_ckA t_M_wants (td_t_M_wants 2).1 (td_t_M_wants 2).2 = true := by decide +kernel
set_option maxRecDepth 40000 in
theorem ok_t_M_wants_3 : pe_ckB (pe_GA []) pe_cl pe_ckA t_M_wants (td_t_M_wants 3).1 (td_t_M_wants 3).2 = true := by decide +kernel
set_option maxRecDepth 40000 in
theorem ok_t_M_wants_4 : pe_ckB (pe_GA []) pe_cl pe_ckA t_M_wants (td_t_M_wants 4).1 (td_t_M_wants 4).2 = true := by decide +kernel
set_option maxRecDepth 40000 in
theorem ok_t_M_wants_5 : pe_ckB (pe_GA []) pe_cl pe_ckA t_M_wants (td_t_M_wants 5).1 (td_t_M_wants 5).2 = true := by decide +kernel
set_option maxRecDepth 40000 in
theorem ok_t_M_wants_6 : pe_ckB (pe_GA []) pe_cl pe_ckA t_M_wants (td_t_M_wants 6).1 (td_t_M_wants 6).2 = true := by decide +kernel
theorem ok_t_M_wants_a : ∀ b ∈ t_M_wants.bl, pe_ckB (pe_GA []) pe_cl pe_ckA t_M_wants b.1 b.2 = true := by
  intro b hb
  obtain ⟨n, hn⟩ := List.getElem?_of_mem hb
  rw [← pe_at_eq] at hn
  match n, hn with
  | 0, hn =>
    have h2 : td_t_M_wants 0 = b := by unfold td_t_M_wants; rw [hn]; rfl
    rw [← h2]; exact ok_t_M_wants_0
  | 1, hn =>
    have h2 : td_t_M_wants 1 = b := by unfold td_t_M_wants; rw [hn]; rfl
    rw [← h2]; exact ok_t_M_wants_1
  | 2, hn =>
    have h2 : td_t_M_wants 2 = b := by unfold td_t_M_wants; rw [hn]; rfl
    rw [← h2]; exact ok_t_M_wants_2
  | 3, hn =>
    have h2 : td_t_M_wants 3 = b := by unfold td_t_M_wants; rw [hn]; rfl
    rw [← h2]; exact ok_t_M_wants_3
  | 4, hn =>
    have h2 : td_t_M_wants 4 = b := by unfold td_t_M_wants; rw [hn]; rfl
    rw [← h2]; exact ok_t_M_wants_4
  | 5, hn =>
    have h2 : td_t_M_wants 5 = b := by unfold td_t_M_wants; rw [hn]; rfl
    rw [← h2]; exact ok_t_M_wants_5
  | 6, hn =>
    have h2 : td_t_M_wants 6 = b := by unfold td_t_M_wants; rw [hn]; rfl
    rw [← h2]; exact ok_t_M_wants_6
  | n + 7, hn =>
    rw [pe_at_eq] at hn
    exact absurd (List.getElem?_eq_some_iff.mp hn).1 (by show ¬ n + 7 < 7; omega)
theorem ok_t_M_wants : pe_okM (pe_GA []) pe_cl pe_ckA t_M_wants = true := pe_okM_mk (pe_w_of (by rfl) (by rfl)) (by decide +kernel) ok_t_M_wants_a
def td_t_M_collects (k : Nat) : Nat × List pe_I := (pe_at t_M_collects.bl k).getD (0, [])
set_option maxRecDepth 40000 in
theorem ok_t_M_collects_0 : pe_ckB (pe_GA []) pe_cl pe_ckA t_M_collects (td_t_M_collects 0).1 (td_t_M_collects 0).2 = true := by decide +kernel
set_option maxRecDepth 40000 in
theorem ok_t_M_collects_1 : pe_ckB (pe_GA []) pe_cl pe_ckA t_M_collects (td_t_M_collects 1).1 (td_t_M_collects 1).2 = true := by decide +kernel
set_option maxRecDepth 40000 in
theorem ok_t_M_collects_2 : pe_ckB (pe_GA []) pe_cl pe_ckA t_M_collects (td_t_M_collects 2).1 (td_t_M_collects 2).2 = true := by decide +kernel
set_option maxRecDepth 40000 in
theorem ok_t_M_collects_3 : pe_ckB (pe_GA []) pe_cl pe_ckA t_M_collects (td_t_M_collects 3).1 (td_t_M_collects 3).2 = true := by decide +kernel
set_option maxRecDepth 40000 in
theorem ok_t_M_collects_4 : pe_ckB (pe_GA []) pe_cl pe_ckA t_M_collects (td_t_M_collects 4).1 (td_t_M_collects 4).2 = true := by decide +kernel
set_option maxRecDepth 40000 in
theorem ok_t_M_collects_5 : pe_ckB (pe_GA []) pe_cl pe_ckA t_M_collects (td_t_M_collects 5).1 (td_t_M_collects 5).2 = true := by decide +kernel
set_option maxRecDepth 40000 in
theorem ok_t_M_collects_6 : pe_ckB (pe_GA []) pe_cl pe_ckA t_M_collects (td_t_M_collects 6).1 (td_t_M_collects 6).2 = true := by decide +kernel
set_option maxRecDepth 40000 in
theorem ok_t_M_collects_7 : pe_ckB (pe_GA []) pe_cl pe_ckA t_M_collects (td_t_M_collects 7).1 (td_t_M_collects 7).2 = true := by decide +kernel
set_option maxRecDepth 40000 in
theorem ok_t_M_collects_8 : pe_ckB (pe_GA []) pe_cl pe_ckA t_M_collects (td_t_M_collects 8).1 (td_t_M_collects 8).2 = true := by decide +kernel
set_option maxRecDepth 40000 in
theorem ok_t_M_collects_9 : pe_ckB (pe_GA []) pe_cl pe_ckA t_M_collects (td_t_M_collects 9).1 (td_t_M_collects 9).2 = true := by decide +kernel
set_option maxRecDepth 40000 in
theorem ok_t_M_collects_10 : pe_ckB (pe_GA []) pe_cl pe_ckA t_M_collects (td_t_M_collects 10).1 (td_t_M_collects 10).2 = true := by decide +kernel
set_option maxRecDepth 40000 in
theorem ok_t_M_collects_11 : pe_ckB (pe_GA []) pe_cl pe_ckA t_M_collects (td_t_M_collects 11).1 (td_t_M_collects 11).2 = true := by decide +kernel
set_option maxRecDepth 40000 in
theorem ok_t_M_collects_12 : pe_ckB (pe_GA []) pe_cl pe_ckA t_M_collects (td_t_M_collects 12).1 (td_t_M_collects 12).2 = true := by decide +kernel
theorem ok_t_M_collects_a : ∀ b ∈ t_M_collects.bl, pe_ckB (pe_GA []) pe_cl pe_ckA t_M_collects b.1 b.2 = true := by
  intro b hb
  obtain ⟨n, hn⟩ := List.getElem?_of_mem hb
  rw [← pe_at_eq] at hn
  match n, hn with
  | 0, hn =>
    have h2 : td_t_M_collects 0 = b := by unfold td_t_M_collects; rw [hn]; rfl
    rw [← h2]; exact ok_t_M_collects_0
  | 1, hn =>
    have h2 : td_t_M_collects 1 = b := by unfold td_t_M_collects; rw [hn]; rfl
    rw [← h2]; exact ok_t_M_collects_1
  | 2, hn =>
    have h2 : td_t_M_collects 2 = b := by unfold td_t_M_collects; rw [hn]; rfl
    rw [← h2]; exact ok_t_M_collects_2
  | 3, hn =>
    have h2 : td_t_M_collects 3 = b := by unfold td_t_M_collects; rw [hn]; rfl
    rw [← h2]; exact ok_t_M_collects_3
  | 4, hn =>
    have h2 : td_t_M_collects 4 = b := by unfold td_t_M_collects; rw [hn]; rfl
    rw [← h2]; exact ok_t_M_collects_4
  | 5, hn =>
    have h2 : td_t_M_collects 5 = b := by unfold td_t_M_collects; rw [hn]; rfl
    rw [← h2]; exact ok_t_M_collects_5
  | 6, hn =>
    have h2 : td_t_M_collects 6 = b := by unfold td_t_M_collects; rw [hn]; rfl
    rw [← h2]; exact ok_t_M_collects_6
  | 7, hn =>
    have h2 : td_t_M_collects 7 = b := by unfold td_t_M_collects; rw [hn]; rfl
    rw [← h2]; exact ok_t_M_collects_7
  | 8, hn =>
    have h2 : td_t_M_collects 8 = b := by unfold td_t_M_collects; rw [hn]; rfl
    rw [← h2]; exact ok_t_M_collects_8
  | 9, hn =>
    have h2 : td_t_M_collects 9 = b := by unfold td_t_M_collects; rw [hn]; rfl
    rw [← h2]; exact ok_t_M_collects_9
  | 10, hn =>
    have h2 : td_t_M_collects 10 = b := by unfold td_t_M_collects; rw [hn]; rfl
    rw [← h2]; exact ok_t_M_collects_10
  | 11, hn =>
    have h2 : td_t_M_collects 11 = b := by unfold td_t_M_collects; rw [hn]; rfl
    rw [← h2]; exact ok_t_M_collects_11
  | 12, hn =>
    have h2 : td_t_M_collects 12 = b := by unfold td_t_M_collects; rw [hn]; rfl
    rw [← h2]; exact ok_t_M_collects_12
  | n + 13, hn =>
    rw [pe_at_eq] at hn
    exact absurd (List.getElem?_eq_some_iff.mp hn).1 (by show ¬ n + 13 < 13; omega)
theorem ok_t_M_collects : pe_okM (pe_GA []) pe_cl pe_ckA t_M_collects = true := pe_okM_mk (pe_w_of (by rfl) (by rfl)) (by decide +kernel) ok_t_M_collects_a
set_option maxRecDepth 40000 in
theorem ok_t_M_typesOfEs : pe_okM (pe_GA []) pe_cl pe_ckA t_M_typesOfEs = true := by decide +kernel
set_option maxRecDepth 40000 in
theorem ok_t_M_chooses : pe_okM (pe_GA []) pe_cl pe_ckA t_M_chooses = true := by decide +kernel
def td_t_M_field (k : Nat) : Nat × List pe_I := (pe_at t_M_field.bl k).getD (0, [])
set_option maxRecDepth 40000 in
theorem ok_t_M_field_0 : pe_ckB (pe_GA []) pe_cl pe_ckA t_M_field (td_t_M_field 0).1 (td_t_M_field 0).2 = true := by decide +kernel
set_option maxRecDepth 40000 in
theorem ok_t_M_field_1 : pe_ckB (pe_GA []) pe_cl pe_ckA t_M_field (td_t_M_field 1).1 (td_t_M_field 1).2 = true := by decide +kernel
set_option maxRecDepth 40000 in
theorem ok_t_M_field_2 : pe_ckB (pe_GA []) pe_cl pe_ckA t_M_field (td_t_M_field 2).1 (td_t_M_field 2).2 = true := by decide +kernel
set_option maxRecDepth 40000 in
theorem ok_t_M_field_3 : pe_ckB (pe_GA []) pe_cl pe_ckA t_M_field (td_t_M_field 3).1 (td_t_M_field 3).2 = true := by decide +kernel
set_option maxRecDepth 40000 in
theorem ok_t_M_field_4 : pe_ckB (pe_GA []) pe_cl pe_ckA t_M_field (td_t_M_field 4).1 (td_t_M_field 4).2 = true := by decide +kernel
set_option maxRecDepth 40000 in
theorem ok_t_M_field_5 : pe_ckB (pe_GA []) pe_cl pe_ckA t_M_field (td_t_M_field 5).1 (td_t_M_field 5).2 = true := by decide +kernel
set_option maxRecDepth 40000 in
theorem ok_t_M_field_6 : pe_ckB (pe_GA []) pe_cl pe_ckA t_M_field (td_t_M_field 6).1 (td_t_M_field 6).2 = true := by decide +kernel
set_option maxRecDepth 40000 in
theorem ok_t_M_field_7 : pe_ckB (pe_GA []) pe_cl pe_ckA t_M_field (td_t_M_field 7).1 (td_t_M_field 7).2 = true := by decide +kernel
set_option maxRecDepth 40000 in
theorem ok_t_M_field_8 : pe_ckB (pe_GA []) pe_cl pe_ckA t_M_field (td_t_M_field 8).1 (td_t_M_field 8).2 = true := by decide +kernel
theorem ok_t_M_field_a : ∀ b ∈ t_M_field.bl, pe_ckB (pe_GA []) pe_cl pe_ckA t_M_field b.1 b.2 = true := by
  intro b hb
  obtain ⟨n, hn⟩ := List.getElem?_of_mem hb
  rw [← pe_at_eq] at hn
  match n, hn with
  | 0, hn =>
    have h2 : td_t_M_field 0 = b := by unfold td_t_M_field; rw [hn]; rfl
    rw [← h2]; exact ok_t_M_field_0
  | 1, hn =>
    have h2 : td_t_M_field 1 = b := by unfold td_t_M_field; rw [hn]; rfl
    rw [← h2]; exact ok_t_M_field_1
  | 2, hn =>
    have h2 : td_t_M_field 2 = b := by unfold td_t_M_field; rw [hn]; rfl
    rw [← h2]; exact ok_t_M_field_2
  | 3, hn =>
    have h2 : td_t_M_field 3 = b := by unfold td_t_M_field; rw [hn]; rfl
    rw [← h2]; exact ok_t_M_field_3
  | 4, hn =>
    have h2 : td_t_M_field 4 = b := by unfold td_t_M_field; rw [hn]; rfl
    rw [← h2]; exact ok_t_M_field_4
  | 5, hn =>
    have h2 : td_t_M_field 5 = b := by unfold td_t_M_field; rw [hn]; rfl
    rw [← h2]; exact ok_t_M_field_5
  | 6, hn =>
    have h2 : td_t_M_field 6 = b := by unfold td_t_M_field; rw [hn]; rfl
    rw [← h2]; exact ok_t_M_field_6
  | 7, hn =>
    have h2 : td_t_M_field 7 = b := by unfold td_t_M_field; rw [hn]; rfl
    rw [← h2]; exact ok_t_M_field_7
  | 8, hn =>
    have h2 : td_t_M_field 8 = b := by unfold td_t_M_field; rw [hn]; rfl
    rw [← h2]; exact ok_t_M_field_8
  | n + 9, hn =>
    rw [pe_at_eq] at hn
    exact absurd (List.getElem?_eq_some_iff.mp hn).1 (by show ¬ n + 9 < 9; omega)
theorem ok_t_M_field : pe_okM (pe_GA []) pe_cl pe_ckA t_M_field = true := pe_okM_mk (pe_w_of (by rfl) (by rfl)) (by decide +kernel) ok_t_M_field_a
def td_t_M_collectsMakers (k : Nat) : Nat × List pe_I := (pe_at t_M_collectsMakers.bl k).getD (0, [])
set_option maxRecDepth 40000 in
theorem ok_t_M_collectsMakers_0 : pe_ckB (pe_GA []) pe_cl pe_ckA t_M_collectsMakers (td_t_M_collectsMakers 0).1 (td_t_M_collectsMakers 0).2 = true := by decide +kernel
set_option maxRecDepth 40000 in
theorem ok_t_M_collectsMakers_1 : pe_ckB (pe_GA []) pe_cl pe_ckA t_M_collectsMakers (td_t_M_collectsMakers 1).1 (td_t_M_collectsMakers 1).2 = true := by decide +kernel
set_option maxRecDepth 40000 in
theorem ok_t_M_collectsMakers_2 : pe_ckB (pe_GA []) pe_cl pe_ckA t_M_collectsMakers (td_t_M_collectsMakers 2).1 (td_t_M_collectsMakers 2).2 = true := by decide +kernel
set_option maxRecDepth 40000 in
theorem ok_t_M_collectsMakers_3 : pe_ckB (pe_GA []) pe_cl pe_ckA t_M_collectsMakers (td_t_M_collectsMakers 3).1 (td_t_M_collectsMakers 3).2 = true := by decide +kernel
theorem ok_t_M_collectsMakers_a : ∀ b ∈ t_M_collectsMakers.bl, pe_ckB (pe_GA []) pe_cl pe_ckA t_M_collectsMakers b.1 b.2 = true := by
  intro b hb
  obtain ⟨n, hn⟩ := List.getElem?_of_mem hb
  rw [← pe_at_eq] at hn
  match n, hn with
  | 0, hn =>
    have h2 : td_t_M_collectsMakers 0 = b := by unfold td_t_M_collectsMakers; rw [hn]; rfl
    rw [← h2]; exact ok_t_M_collectsMakers_0
  | 1, hn =>
    have h2 : td_t_M_collectsMakers 1 = b := by unfold td_t_M_collectsMakers; rw [hn]; rfl
    rw [← h2]; exact ok_t_M_collectsMakers_1
  | 2, hn =>
    have h2 : td_t_M_collectsMakers 2 = b := by unfold td_t_M_collectsMakers; rw [hn]; rfl
    rw [← h2]; exact ok_t_M_collectsMakers_2
  | 3, hn =>
    have h2 : td_t_M_collectsMakers 3 = b := by unfold td_t_M_collectsMakers; rw [hn]; rfl
    rw [← h2]; exact ok_t_M_collectsMakers_3
  | n + 4, hn =>
    rw [pe_at_eq] at hn
    exact absurd (List.getElem?_eq_some_iff.mp hn).1 (by show ¬ n + 4 < 4; omega)
theorem ok_t_M_collectsMakers : pe_okM (pe_GA []) pe_cl pe_ckA t_M_collectsMakers = true := pe_okM_mk (pe_w_of (by rfl) (by rfl)) (by decide +kernel) ok_t_M_collectsMakers_a
set_option maxRecDepth 40000 in
theorem ok_t_M_callsFun : pe_okM (pe_GA []) pe_cl pe_ckA t_M_callsFun = true := by decide +kernel
