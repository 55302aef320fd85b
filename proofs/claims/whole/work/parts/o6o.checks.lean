/-! PART o6o: tables checked once. -/
def td_t_XO_fits (k : Nat) : Nat × List pe_I := (pe_at t_XO_fits.bl k).getD (0, [])
set_option maxRecDepth 40000 in
theorem ok_t_XO_fits_0 : pe_ckB (pe_GA []) pe_cl pe_ckA t_XO_fits (td_t_XO_fits 0).1 (td_t_XO_fits 0).2 = true := by decide +kernel
set_option maxRecDepth 40000 in
theorem ok_t_XO_fits_1 : pe_ckB (pe_GA []) pe_cl pe_ckA t_XO_fits (td_t_XO_fits 1).1 (td_t_XO_fits 1).2 = true := by decide +kernel
set_option maxRecDepth 40000 in
theorem ok_t_XO_fits_2 : pe_ckB (pe_GA []) pe_cl pe_ckA t_XO_fits (td_t_XO_fits 2).1 (td_t_XO_fits 2).2 = true := by decide +kernel
set_option maxRecDepth 40000 in
theorem ok_t_XO_fits_3 : pe_ckB (pe_GA []) pe_cl pe_ckA t_XO_fits (td_t_XO_fits 3).1 (td_t_XO_fits 3).2 = true := by decide +kernel
set_option maxRecDepth 40000 in
theorem ok_t_XO_fits_4 : pe_ckB (pe_GA []) pe_cl pe_ckA t_XO_fits (td_t_XO_fits 4).1 (td_t_XO_fits 4).2 = true := by decide +kernel
set_option maxRecDepth 40000 in
theorem ok_t_XO_fits_5 : pe_ckB (pe_GA []) pe_cl pe_ckA t_XO_fits (td_t_XO_fits 5).1 (td_t_XO_fits 5).2 = true := by decide +kernel
set_option maxRecDepth 40000 in
theorem ok_t_XO_fits_6 : pe_ckB (pe_GA []) pe_cl pe_ckA t_XO_fits (td_t_XO_fits 6).1 (td_t_XO_fits 6).2 = true := by decide +kernel
set_option maxRecDepth 40000 in
theorem ok_t_XO_fits_7 : pe_ckB (pe_GA []) pe_cl pe_ckA t_XO_fits (td_t_XO_fits 7).1 (td_t_XO_fits 7).2 = true := by decide +kernel
set_option maxRecDepth 40000 in
theorem ok_t_XO_fits_8 : pe_ckB (pe_GA []) pe_cl pe_ckA t_XO_fits (td_t_XO_fits 8).1 (td_t_XO_fits 8).2 = true := by decide +kernel
set_option maxRecDepth 40000 in
theorem ok_t_XO_fits_9 : pe_ckB (pe_GA []) pe_cl pe_ckA t_XO_fits (td_t_XO_fits 9).1 (td_t_XO_fits 9).2 = true := by decide +kernel
set_option maxRecDepth 40000 in
theorem ok_t_XO_fits_10 : pe_ckB (pe_GA []) pe_cl pe_ckA t_XO_fits (td_t_XO_fits 10).1 (td_t_XO_fits 10).2 = true := by decide +kernel
set_option maxRecDepth 40000 in
theorem ok_t_XO_fits_11 : pe_ckB (pe_GA []) pe_cl pe_ckA t_XO_fits (td_t_XO_fits 11).1 (td_t_XO_fits 11).2 = true := by decide +kernel
set_option maxRecDepth 40000 in
theorem ok_t_XO_fits_12 : pe_ckB (pe_GA []) pe_cl pe_ckA t_XO_fits (td_t_XO_fits 12).1 (td_t_XO_fits 12).2 = true := by decide +kernel
set_option maxRecDepth 40000 in
theorem ok_t_XO_fits_13 : pe_ckB (pe_GA []) pe_cl pe_ckA t_XO_fits (td_t_XO_fits 13).1 (td_t_XO_fits 13).2 = true := by decide +kernel
theorem ok_t_XO_fits_a : ∀ b ∈ t_XO_fits.bl, pe_ckB (pe_GA []) pe_cl pe_ckA t_XO_fits b.1 b.2 = true := by
  intro b hb
  obtain ⟨n, hn⟩ := List.getElem?_of_mem hb
  rw [← pe_at_eq] at hn
  match n, hn with
  | 0, hn =>
    have h2 : td_t_XO_fits 0 = b := by unfold td_t_XO_fits; rw [hn]; rfl
    rw [← h2]; exact ok_t_XO_fits_0
  | 1, hn =>
    have h2 : td_t_XO_fits 1 = b := by unfold td_t_XO_fits; rw [hn]; rfl
    rw [← h2]; exact ok_t_XO_fits_1
  | 2, hn =>
    have h2 : td_t_XO_fits 2 = b := by unfold td_t_XO_fits; rw [hn]; rfl
    rw [← h2]; exact ok_t_XO_fits_2
  | 3, hn =>
    have h2 : td_t_XO_fits 3 = b := by unfold td_t_XO_fits; rw [hn]; rfl
    rw [← h2]; exact ok_t_XO_fits_3
  | 4, hn =>
    have h2 : td_t_XO_fits 4 = b := by unfold td_t_XO_fits; rw [hn]; rfl
    rw [← h2]; exact ok_t_XO_fits_4
  | 5, hn =>
    have h2 : td_t_XO_fits 5 = b := by unfold td_t_XO_fits; rw [hn]; rfl
    rw [← h2]; exact ok_t_XO_fits_5
  | 6, hn =>
    have h2 : td_t_XO_fits 6 = b := by unfold td_t_XO_fits; rw [hn]; rfl
    rw [← h2]; exact ok_t_XO_fits_6
  | 7, hn =>
    have h2 : td_t_XO_fits 7 = b := by unfold td_t_XO_fits; rw [hn]; rfl
    rw [← h2]; exact ok_t_XO_fits_7
  | 8, hn =>
    have h2 : td_t_XO_fits 8 = b := by unfold td_t_XO_fits; rw [hn]; rfl
    rw [← h2]; exact ok_t_XO_fits_8
  | 9, hn =>
    have h2 : td_t_XO_fits 9 = b := by unfold td_t_XO_fits; rw [hn]; rfl
    rw [← h2]; exact ok_t_XO_fits_9
  | 10, hn =>
    have h2 : td_t_XO_fits 10 = b := by unfold td_t_XO_fits; rw [hn]; rfl
    rw [← h2]; exact ok_t_XO_fits_10
  | 11, hn =>
    have h2 : td_t_XO_fits 11 = b := by unfold td_t_XO_fits; rw [hn]; rfl
    rw [← h2]; exact ok_t_XO_fits_11
  | 12, hn =>
    have h2 : td_t_XO_fits 12 = b := by unfold td_t_XO_fits; rw [hn]; rfl
    rw [← h2]; exact ok_t_XO_fits_12
  | 13, hn =>
    have h2 : td_t_XO_fits 13 = b := by unfold td_t_XO_fits; rw [hn]; rfl
    rw [← h2]; exact ok_t_XO_fits_13
  | n + 14, hn =>
    rw [pe_at_eq] at hn
    exact absurd (List.getElem?_eq_some_iff.mp hn).1 (by show ¬ n + 14 < 14; omega)
theorem ok_t_XO_fits : pe_okM (pe_GA []) pe_cl pe_ckA t_XO_fits = true := pe_okM_mk (pe_w_of (by rfl) (by rfl)) (by decide +kernel) ok_t_XO_fits_a
def td_t_XO_mostSpecific (k : Nat) : Nat × List pe_I := (pe_at t_XO_mostSpecific.bl k).getD (0, [])
set_option maxRecDepth 40000 in
theorem ok_t_XO_mostSpecific_0 : pe_ckB (pe_GA []) pe_cl pe_ckA t_XO_mostSpecific (td_t_XO_mostSpecific 0).1 (td_t_XO_mostSpecific 0).2 = true := by decide +kernel
set_option maxRecDepth 40000 in
theorem ok_t_XO_mostSpecific_1 : pe_ckB (pe_GA []) pe_cl pe_ckA t_XO_mostSpecific (td_t_XO_mostSpecific 1).1 (td_t_XO_mostSpecific 1).2 = true := by decide +kernel
set_option maxRecDepth 40000 in
theorem ok_t_XO_mostSpecific_2 : pe_ckB (pe_GA []) pe_cl pe_ckA t_XO_mostSpecific (td_t_XO_mostSpecific 2).1 (td_t_XO_mostSpecific 2).2 = true := by decide +kernel
set_option maxRecDepth 40000 in
theorem ok_t_XO_mostSpecific_3 : pe_ckB (pe_GA []) pe_cl pe_ckA t_XO_mostSpecific (td_t_XO_mostSpecific 3).1 (td_t_XO_mostSpecific 3).2 = true := by decide +kernel
set_option maxRecDepth 40000 in
theorem ok_t_XO_mostSpecific_4 : pe_ckB (pe_GA []) pe_cl pe_ckA t_XO_mostSpecific (td_t_XO_mostSpecific 4).1 (td_t_XO_mostSpecific 4).2 = true := by decide +kernel
set_option maxRecDepth 40000 in
theorem ok_t_XO_mostSpecific_5 : pe_ckB (pe_GA []) pe_cl pe_ckA t_XO_mostSpecific (td_t_XO_mostSpecific 5).1 (td_t_XO_mostSpecific 5).2 = true := by decide +kernel
set_option maxRecDepth 40000 in
theorem ok_t_XO_mostSpecific_6 : pe_ckB (pe_GA []) pe_cl pe_ckA t_XO_mostSpecific (td_t_XO_mostSpecific 6).1 (td_t_XO_mostSpecific 6).2 = true := by decide +kernel
set_option maxRecDepth 40000 in
theorem ok_t_XO_mostSpecific_7 : pe_ckB (pe_GA []) pe_cl pe_ckA t_XO_mostSpecific (td_t_XO_mostSpecific 7).1 (td_t_XO_mostSpecific 7).2 = true := by decide +kernel
theorem ok_t_XO_mostSpecific_a : ∀ b ∈ t_XO_mostSpecific.bl, pe_ckB (pe_GA []) pe_cl pe_ckA t_XO_mostSpecific b.1 b.2 = true := by
  intro b hb
  obtain ⟨n, hn⟩ := List.getElem?_of_mem hb
  rw [← pe_at_eq] at hn
  match n, hn with
  | 0, hn =>
    have h2 : td_t_XO_mostSpecific 0 = b := by unfold td_t_XO_mostSpecific; rw [hn]; rfl
    rw [← h2]; exact ok_t_XO_mostSpecific_0
  | 1, hn =>
    have h2 : td_t_XO_mostSpecific 1 = b := by unfold td_t_XO_mostSpecific; rw [hn]; rfl
    rw [← h2]; exact ok_t_XO_mostSpecific_1
  | 2, hn =>
    have h2 : td_t_XO_mostSpecific 2 = b := by unfold td_t_XO_mostSpecific; rw [hn]; rfl
    rw [← h2]; exact ok_t_XO_mostSpecific_2
  | 3, hn =>
    have h2 : td_t_XO_mostSpecific 3 = b := by unfold td_t_XO_mostSpecific; rw [hn]; rfl
    rw [← h2]; exact ok_t_XO_mostSpecific_3
  | 4, hn =>
    have h2 : td_t_XO_mostSpecific 4 = b := by unfold td_t_XO_mostSpecific; rw [hn]; rfl
    rw [← h2]; exact ok_t_XO_mostSpecific_4
  | 5, hn =>
    have h2 : td_t_XO_mostSpecific 5 = b := by unfold td_t_XO_mostSpecific; rw [hn]; rfl
    rw [← h2]; exact ok_t_XO_mostSpecific_5
  | 6, hn =>
    have h2 : td_t_XO_mostSpecific 6 = b := by unfold td_t_XO_mostSpecific; rw [hn]; rfl
    rw [← h2]; exact ok_t_XO_mostSpecific_6
  | 7, hn =>
    have h2 : td_t_XO_mostSpecific 7 = b := by unfold td_t_XO_mostSpecific; rw [hn]; rfl
    rw [← h2]; exact ok_t_XO_mostSpecific_7
  | n + 8, hn =>
    rw [pe_at_eq] at hn
    exact absurd (List.getElem?_eq_some_iff.mp hn).1 (by show ¬ n + 8 < 8; omega)
theorem ok_t_XO_mostSpecific : pe_okM (pe_GA []) pe_cl pe_ckA t_XO_mostSpecific = true := pe_okM_mk (pe_w_of (by rfl) (by rfl)) (by decide +kernel) ok_t_XO_mostSpecific_a
def td_t_XO_keep (k : Nat) : Nat × List pe_I := (pe_at t_XO_keep.bl k).getD (0, [])
set_option maxRecDepth 40000 in
theorem ok_t_XO_keep_0 : pe_ckB (pe_GA []) pe_cl pe_ckA t_XO_keep (td_t_XO_keep 0).1 (td_t_XO_keep 0).2 = true := by decide +kernel
set_option maxRecDepth 40000 in
theorem ok_t_XO_keep_1 : pe_ckB (pe_GA []) pe_cl pe_ckA t_XO_keep (td_t_XO_keep 1).1 (td_t_XO_keep 1).2 = true := by decide +kernel
set_option maxRecDepth 40000 in
theorem ok_t_XO_keep_2 : pe_ckB (pe_GA []) pe_cl pe_ckA t_XO_keep (td_t_XO_keep 2).1 (td_t_XO_keep 2).2 = true := by decide +kernel
set_option maxRecDepth 40000 in
theorem ok_t_XO_keep_3 : pe_ckB (pe_GA []) pe_cl pe_ckA t_XO_keep (td_t_XO_keep 3).1 (td_t_XO_keep 3).2 = true := by decide +kernel
theorem ok_t_XO_keep_a : ∀ b ∈ t_XO_keep.bl, pe_ckB (pe_GA []) pe_cl pe_ckA t_XO_keep b.1 b.2 = true := by
  intro b hb
  obtain ⟨n, hn⟩ := List.getElem?_of_mem hb
  rw [← pe_at_eq] at hn
  match n, hn with
  | 0, hn =>
    have h2 : td_t_XO_keep 0 = b := by unfold td_t_XO_keep; rw [hn]; rfl
    rw [← h2]; exact ok_t_XO_keep_0
  | 1, hn =>
    have h2 : td_t_XO_keep 1 = b := by unfold td_t_XO_keep; rw [hn]; rfl
    rw [← h2]; exact ok_t_XO_keep_1
  | 2, hn =>
    have h2 : td_t_XO_keep 2 = b := by unfold td_t_XO_keep; rw [hn]; rfl
    rw [← h2]; exact ok_t_XO_keep_2
  | 3, hn =>
    have h2 : td_t_XO_keep 3 = b := by unfold td_t_XO_keep; rw [hn]; rfl
    rw [← h2]; exact ok_t_XO_keep_3
  | n + 4, hn =>
    rw [pe_at_eq] at hn
    exact absurd (List.getElem?_eq_some_iff.mp hn).1 (by show ¬ n + 4 < 4; omega)
theorem ok_t_XO_keep : pe_okM (pe_GA []) pe_cl pe_ckA t_XO_keep = true := pe_okM_mk (pe_w_of (by rfl) (by rfl)) (by decide +kernel) ok_t_XO_keep_a
set_option maxRecDepth 40000 in
theorem ok_t_XO_parameterType : pe_okM (pe_GA []) pe_cl pe_ckA t_XO_parameterType = true := by decide +kernel
def td_t_XL_firstUnset (k : Nat) : Nat × List pe_I := (pe_at t_XL_firstUnset.bl k).getD (0, [])
set_option maxRecDepth 40000 in
theorem ok_t_XL_firstUnset_0 : pe_ckB (pe_GA []) pe_cl pe_ckA t_XL_firstUnset (td_t_XL_firstUnset 0).1 (td_t_XL_firstUnset 0).2 = true := by decide +kernel
set_option maxRecDepth 40000 in
theorem ok_t_XL_firstUnset_1 : pe_ckB (pe_GA []) pe_cl pe_ckA t_XL_firstUnset (td_t_XL_firstUnset 1).1 (td_t_XL_firstUnset 1).2 = true := by decide +kernel
set_option maxRecDepth 40000 in
theorem ok_t_XL_firstUnset_2 : pe_ckB (pe_GA []) pe_cl pe_ckA t_XL_firstUnset (td_t_XL_firstUnset 2).1 (td_t_XL_firstUnset 2).2 = true := by decide +kernel
set_option maxRecDepth 40000 in
theorem ok_t_XL_firstUnset_3 : pe_ckB (pe_GA []) pe_cl pe_ckA t_XL_firstUnset (td_t_XL_firstUnset 3).1 (td_t_XL_firstUnset 3).2 = true := by decide +kernel
theorem ok_t_XL_firstUnset_a : ∀ b ∈ t_XL_firstUnset.bl, pe_ckB (pe_GA []) pe_cl pe_ckA t_XL_firstUnset b.1 b.2 = true := by
  intro b hb
  obtain ⟨n, hn⟩ := List.getElem?_of_mem hb
  rw [← pe_at_eq] at hn
  match n, hn with
  | 0, hn =>
    have h2 : td_t_XL_firstUnset 0 = b := by unfold td_t_XL_firstUnset; rw [hn]; rfl
    rw [← h2]; exact ok_t_XL_firstUnset_0
  | 1, hn =>
    have h2 : td_t_XL_firstUnset 1 = b := by unfold td_t_XL_firstUnset; rw [hn]; rfl
    rw [← h2]; exact ok_t_XL_firstUnset_1
  | 2, hn =>
    have h2 : td_t_XL_firstUnset 2 = b := by unfold td_t_XL_firstUnset; rw [hn]; rfl
    rw [← h2]; exact ok_t_XL_firstUnset_2
  | 3, hn =>
    have h2 : td_t_XL_firstUnset 3 = b := by unfold td_t_XL_firstUnset; rw [hn]; rfl
    rw [← h2]; exact ok_t_XL_firstUnset_3
  | n + 4, hn =>
    rw [pe_at_eq] at hn
    exact absurd (List.getElem?_eq_some_iff.mp hn).1 (by show ¬ n + 4 < 4; omega)
theorem ok_t_XL_firstUnset : pe_okM (pe_GA []) pe_cl pe_ckA t_XL_firstUnset = true := pe_okM_mk (pe_w_of (by rfl) (by rfl)) (by decide +kernel) ok_t_XL_firstUnset_a
set_option maxRecDepth 40000 in
theorem ok_t_XL_answerName : pe_okM (pe_GA []) pe_cl pe_ckA t_XL_answerName = true := by decide +kernel
def td_t_XL_answerThing (k : Nat) : Nat × List pe_I := (pe_at t_XL_answerThing.bl k).getD (0, [])
set_option maxRecDepth 40000 in
theorem ok_t_XL_answerThing_0 : pe_ckB (pe_GA []) pe_cl pe_ckA t_XL_answerThing (td_t_XL_answerThing 0).1 (td_t_XL_answerThing 0).2 = true := by decide +kernel
set_option maxRecDepth 40000 in
theorem ok_t_XL_answerThing_1 : pe_ckB (pe_GA []) pe_cl pe_ckA t_XL_answerThing (td_t_XL_answerThing 1).1 (td_t_XL_answerThing 1).2 = true := by decide +kernel
set_option maxRecDepth 40000 in
theorem ok_t_XL_answerThing_2 : pe_ckB (pe_GA []) pe_cl pe_ckA t_XL_answerThing (td_t_XL_answerThing 2).1 (td_t_XL_answerThing 2).2 = true := by decide +kernel
set_option maxRecDepth 40000 in
theorem ok_t_XL_answerThing_3 : pe_ckB (pe_GA []) pe_cl pe_ckA t_XL_answerThing (td_t_XL_answerThing 3).1 (td_t_XL_answerThing 3).2 = true := by decide +kernel
set_option maxRecDepth 40000 in
theorem ok_t_XL_answerThing_4 : pe_ckB (pe_GA []) pe_cl pe_ckA t_XL_answerThing (td_t_XL_answerThing 4).1 (td_t_XL_answerThing 4).2 = true := by decide +kernel
theorem ok_t_XL_answerThing_a : ∀ b ∈ t_XL_answerThing.bl, pe_ckB (pe_GA []) pe_cl pe_ckA t_XL_answerThing b.1 b.2 = true := by
  intro b hb
  obtain ⟨n, hn⟩ := List.getElem?_of_mem hb
  rw [← pe_at_eq] at hn
  match n, hn with
  | 0, hn =>
    have h2 : td_t_XL_answerThing 0 = b := by unfold td_t_XL_answerThing; rw [hn]; rfl
    rw [← h2]; exact ok_t_XL_answerThing_0
  | 1, hn =>
    have h2 : td_t_XL_answerThing 1 = b := by unfold td_t_XL_answerThing; rw [hn]; rfl
    rw [← h2]; exact ok_t_XL_answerThing_1
  | 2, hn =>
    have h2 : td_t_XL_answerThing 2 = b := by unfold td_t_XL_answerThing; rw [hn]; rfl
    rw [← h2]; exact ok_t_XL_answerThing_2
  | 3, hn =>
    have h2 : td_t_XL_answerThing 3 = b := by unfold td_t_XL_answerThing; rw [hn]; rfl
    rw [← h2]; exact ok_t_XL_answerThing_3
  | 4, hn =>
    have h2 : td_t_XL_answerThing 4 = b := by unfold td_t_XL_answerThing; rw [hn]; rfl
    rw [← h2]; exact ok_t_XL_answerThing_4
  | n + 5, hn =>
    rw [pe_at_eq] at hn
    exact absurd (List.getElem?_eq_some_iff.mp hn).1 (by show ¬ n + 5 < 5; omega)
theorem ok_t_XL_answerThing : pe_okM (pe_GA []) pe_cl pe_ckA t_XL_answerThing = true := pe_okM_mk (pe_w_of (by rfl) (by rfl)) (by decide +kernel) ok_t_XL_answerThing_a
set_option maxRecDepth 40000 in
theorem ok_t_XH_showText : pe_okM (pe_GA []) pe_cl pe_ckA t_XH_showText = true := by decide +kernel
def td_t_XH_showNumber (k : Nat) : Nat × List pe_I := (pe_at t_XH_showNumber.bl k).getD (0, [])
set_option maxRecDepth 40000 in
theorem ok_t_XH_showNumber_0 : pe_ckB (pe_GA []) pe_cl pe_ckA t_XH_showNumber (td_t_XH_showNumber 0).1 (td_t_XH_showNumber 0).2 = true := by decide +kernel
set_option maxRecDepth 40000 in
theorem ok_t_XH_showNumber_1 : pe_ckB (pe_GA []) pe_cl pe_ckA t_XH_showNumber (td_t_XH_showNumber 1).1 (td_t_XH_showNumber 1).2 = true := by decide +kernel
set_option maxRecDepth 40000 in
theorem ok_t_XH_showNumber_2 : pe_ckB (pe_GA []) pe_cl pe_ckA t_XH_showNumber (td_t_XH_showNumber 2).1 (td_t_XH_showNumber 2).2 = true := by decide +kernel
set_option maxRecDepth 40000 in
theorem ok_t_XH_showNumber_3 : pe_ckB (pe_GA []) pe_cl pe_ckA t_XH_showNumber (td_t_XH_showNumber 3).1 (td_t_XH_showNumber 3).2 = true := by decide +kernel
set_option maxRecDepth 40000 in
theorem ok_t_XH_showNumber_4 : pe_ckB (pe_GA []) pe_cl pe_ckA t_XH_showNumber (td_t_XH_showNumber 4).1 (td_t_XH_showNumber 4).2 = true := by decide +kernel
theorem ok_t_XH_showNumber_a : ∀ b ∈ t_XH_showNumber.bl, pe_ckB (pe_GA []) pe_cl pe_ckA t_XH_showNumber b.1 b.2 = true := by
  intro b hb
  obtain ⟨n, hn⟩ := List.getElem?_of_mem hb
  rw [← pe_at_eq] at hn
  match n, hn with
  | 0, hn =>
    have h2 : td_t_XH_showNumber 0 = b := by unfold td_t_XH_showNumber; rw [hn]; rfl
    rw [← h2]; exact ok_t_XH_showNumber_0
  | 1, hn =>
    have h2 : td_t_XH_showNumber 1 = b := by unfold td_t_XH_showNumber; rw [hn]; rfl
    rw [← h2]; exact ok_t_XH_showNumber_1
  | 2, hn =>
    have h2 : td_t_XH_showNumber 2 = b := by unfold td_t_XH_showNumber; rw [hn]; rfl
    rw [← h2]; exact ok_t_XH_showNumber_2
  | 3, hn =>
    have h2 : td_t_XH_showNumber 3 = b := by unfold td_t_XH_showNumber; rw [hn]; rfl
    rw [← h2]; exact ok_t_XH_showNumber_3
  | 4, hn =>
    have h2 : td_t_XH_showNumber 4 = b := by unfold td_t_XH_showNumber; rw [hn]; rfl
    rw [← h2]; exact ok_t_XH_showNumber_4
  | n + 5, hn =>
    rw [pe_at_eq] at hn
    exact absurd (List.getElem?_eq_some_iff.mp hn).1 (by show ¬ n + 5 < 5; omega)
theorem ok_t_XH_showNumber : pe_okM (pe_GA []) pe_cl pe_ckA t_XH_showNumber = true := pe_okM_mk (pe_w_of (by rfl) (by rfl)) (by decide +kernel) ok_t_XH_showNumber_a
set_option maxRecDepth 40000 in
theorem ok_t_XH_showClass : pe_okM (pe_GA []) pe_cl pe_ckA t_XH_showClass = true := by decide +kernel
set_option maxRecDepth 40000 in
theorem ok_t_XH_shownIn : pe_okM (pe_GA []) pe_cl pe_ckA t_XH_shownIn = true := by decide +kernel
set_option maxRecDepth 40000 in
theorem ok_t_M_orders : pe_okM (pe_GA []) pe_cl pe_ckA t_M_orders = true := by decide +kernel
def td_t_M_isWanted (k : Nat) : Nat × List pe_I := (pe_at t_M_isWanted.bl k).getD (0, [])
set_option maxRecDepth 40000 in
theorem ok_t_M_isWanted_0 : pe_ckB (pe_GA []) pe_cl pe_ckA t_M_isWanted (td_t_M_isWanted 0).1 (td_t_M_isWanted 0).2 = true := by decide +kernel
set_option maxRecDepth 40000 in
theorem ok_t_M_isWanted_1 : pe_ckB (pe_GA []) pe_cl pe_ckA t_M_isWanted (td_t_M_isWanted 1).1 (td_t_M_isWanted 1).2 = true := by decide +kernel
set_option maxRecDepth 40000 in
theorem ok_t_M_isWanted_2 : pe_ckB (pe_GA []) pe_cl pe_ckA t_M_isWanted (td_t_M_isWanted 2).1 (td_t_M_isWanted 2).2 = true := by decide +kernel
set_option maxRecDepth 40000 in
theorem ok_t_M_isWanted_3 : pe_ckB (pe_GA []) pe_cl pe_ckA t_M_isWanted (td_t_M_isWanted 3).1 (td_t_M_isWanted 3).2 = true := by decide +kernel
set_option maxRecDepth 40000 in
theorem ok_t_M_isWanted_4 : pe_ckB (pe_GA []) pe_cl pe_ckA t_M_isWanted (td_t_M_isWanted 4).1 (td_t_M_isWanted 4).2 = true := by decide +kernel
set_option maxRecDepth 40000 in
theorem ok_t_M_isWanted_5 : pe_ckB (pe_GA []) pe_cl pe_ckA t_M_isWanted (td_t_M_isWanted 5).1 (td_t_M_isWanted 5).2 = true := by decide +kernel
set_option maxRecDepth 40000 in
theorem ok_t_M_isWanted_6 : pe_ckB (pe_GA []) pe_cl pe_ckA t_M_isWanted (td_t_M_isWanted 6).1 (td_t_M_isWanted 6).2 = true := by decide +kernel
theorem ok_t_M_isWanted_a : ∀ b ∈ t_M_isWanted.bl, pe_ckB (pe_GA []) pe_cl pe_ckA t_M_isWanted b.1 b.2 = true := by
  intro b hb
  obtain ⟨n, hn⟩ := List.getElem?_of_mem hb
  rw [← pe_at_eq] at hn
  match n, hn with
  | 0, hn =>
    have h2 : td_t_M_isWanted 0 = b := by unfold td_t_M_isWanted; rw [hn]; rfl
    rw [← h2]; exact ok_t_M_isWanted_0
  | 1, hn =>
    have h2 : td_t_M_isWanted 1 = b := by unfold td_t_M_isWanted; rw [hn]; rfl
    rw [← h2]; exact ok_t_M_isWanted_1
  | 2, hn =>
    have h2 : td_t_M_isWanted 2 = b := by unfold td_t_M_isWanted; rw [hn]; rfl
    rw [← h2]; exact ok_t_M_isWanted_2
  | 3, hn =>
    have h2 : td_t_M_isWanted 3 = b := by unfold td_t_M_isWanted; rw [hn]; rfl
    rw [← h2]; exact ok_t_M_isWanted_3
  | 4, hn =>
    have h2 : td_t_M_isWanted 4 = b := by unfold td_t_M_isWanted; rw [hn]; rfl
    rw [← h2]; exact ok_t_M_isWanted_4
  | 5, hn =>
    have h2 : td_t_M_isWanted 5 = b := by unfold td_t_M_isWanted; rw [hn]; rfl
    rw [← h2]; exact ok_t_M_isWanted_5
  | 6, hn =>
    have h2 : td_t_M_isWanted 6 = b := by unfold td_t_M_isWanted; rw [hn]; rfl
    rw [← h2]; exact ok_t_M_isWanted_6
  | n + 7, hn =>
    rw [pe_at_eq] at hn
    exact absurd (List.getElem?_eq_some_iff.mp hn).1 (by show ¬ n + 7 < 7; omega)
theorem ok_t_M_isWanted : pe_okM (pe_GA []) pe_cl pe_ckA t_M_isWanted = true := pe_okM_mk (pe_w_of (by rfl) (by rfl)) (by decide +kernel) ok_t_M_isWanted_a
def td_t_M_chosen (k : Nat) : Nat × List pe_I := (pe_at t_M_chosen.bl k).getD (0, [])
set_option maxRecDepth 40000 in
theorem ok_t_M_chosen_0 : pe_ckB (pe_GA []) pe_cl pe_ckA t_M_chosen (td_t_M_chosen 0).1 (td_t_M_chosen 0).2 = true := by decide +kernel
set_option maxRecDepth 40000 in
theorem ok_t_M_chosen_1 : pe_ckB (pe_GA []) pe_cl pe_ckA t_M_chosen (td_t_M_chosen 1).1 (td_t_M_chosen 1).2 = true := by decide +kernel
set_option maxRecDepth 40000 in
theorem ok_t_M_chosen_2 : pe_ckB (pe_GA []) pe_cl pe_ckA t_M_chosen (td_t_M_chosen 2).1 (td_t_M_chosen 2).2 = true := by decide +kernel
set_option maxRecDepth 40000 in
theorem ok_t_M_chosen_3 : pe_ckB (pe_GA []) pe_cl pe_ckA t_M_chosen (td_t_M_chosen 3).1 (td_t_M_chosen 3).2 = true := by decide +kernel
set_option maxRecDepth 40000 in
theorem ok_t_M_chosen_4 : pe_ckB (pe_GA []) pe_cl pe_ckA t_M_chosen (td_t_M_chosen 4).1 (td_t_M_chosen 4).2 = true := by decide +kernel
set_option maxRecDepth 40000 in
theorem ok_t_M_chosen_5 : pe_ckB (pe_GA []) pe_cl pe_ckA t_M_chosen (td_t_M_chosen 5).1 (td_t_M_chosen 5).2 = true := by decide +kernel
set_option maxRecDepth 40000 in
theorem ok_t_M_chosen_6 : pe_ckB (pe_GA []) pe_cl pe_ckA t_M_chosen (td_t_M_chosen 6).1 (td_t_M_chosen 6).2 = true := by decide +kernel
set_option maxRecDepth 40000 in
theorem ok_t_M_chosen_7 : pe_ckB (pe_GA []) pe_cl pe_ckA t_M_chosen (td_t_M_chosen 7).1 (td_t_M_chosen 7).2 = true := by decide +kernel
set_option maxRecDepth 40000 in
theorem ok_t_M_chosen_8 : pe_ckB (pe_GA []) pe_cl pe_ckA t_M_chosen (td_t_M_chosen 8).1 (td_t_M_chosen 8).2 = true := by decide +kernel
set_option maxRecDepth 40000 in
theorem ok_t_M_chosen_9 : pe_ckB (pe_GA []) pe_cl pe_ckA t_M_chosen (td_t_M_chosen 9).1 (td_t_M_chosen 9).2 = true := by decide +kernel
set_option maxRecDepth 40000 in
theorem ok_t_M_chosen_10 : pe_ckB (pe_GA []) pe_cl pe_ckA t_M_chosen (td_t_M_chosen 10).1 (td_t_M_chosen 10).2 = true := by decide +kernel
set_option maxRecDepth 40000 in
theorem ok_t_M_chosen_11 : pe_ckB (pe_GA []) pe_cl pe_ckA t_M_chosen (td_t_M_chosen 11).1 (td_t_M_chosen 11).2 = true := by decide +kernel
set_option maxRecDepth 40000 in
theorem ok_t_M_chosen_12 : pe_ckB (pe_GA []) pe_cl pe_ckA t_M_chosen (td_t_M_chosen 12).1 (td_t_M_chosen 12).2 = true := by decide +kernel
theorem ok_t_M_chosen_a : ∀ b ∈ t_M_chosen.bl, pe_ckB (pe_GA []) pe_cl pe_ckA t_M_chosen b.1 b.2 = true := by
  intro b hb
  obtain ⟨n, hn⟩ := List.getElem?_of_mem hb
  rw [← pe_at_eq] at hn
  match n, hn with
  | 0, hn =>
    have h2 : td_t_M_chosen 0 = b := by unfold td_t_M_chosen; rw [hn]; rfl
    rw [← h2]; exact ok_t_M_chosen_0
  | 1, hn =>
    have h2 : td_t_M_chosen 1 = b := by unfold td_t_M_chosen; rw [hn]; rfl
    rw [← h2]; exact ok_t_M_chosen_1
  | 2, hn =>
    have h2 : td_t_M_chosen 2 = b := by unfold td_t_M_chosen; rw [hn]; rfl
    rw [← h2]; exact ok_t_M_chosen_2
  | 3, hn =>
    have h2 : td_t_M_chosen 3 = b := by unfold td_t_M_chosen; rw [hn]; rfl
    rw [← h2]; exact ok_t_M_chosen_3
  | 4, hn =>
    have h2 : td_t_M_chosen 4 = b := by unfold td_t_M_chosen; rw [hn]; rfl
    rw [← h2]; exact ok_t_M_chosen_4
  | 5, hn =>
    have h2 : td_t_M_chosen 5 = b := by unfold td_t_M_chosen; rw [hn]; rfl
    rw [← h2]; exact ok_t_M_chosen_5
  | 6, hn =>
    have h2 : td_t_M_chosen 6 = b := by unfold td_t_M_chosen; rw [hn]; rfl
    rw [← h2]; exact ok_t_M_chosen_6
  | 7, hn =>
    have h2 : td_t_M_chosen 7 = b := by unfold td_t_M_chosen; rw [hn]; rfl
    rw [← h2]; exact ok_t_M_chosen_7
  | 8, hn =>
    have h2 : td_t_M_chosen 8 = b := by unfold td_t_M_chosen; rw [hn]; rfl
    rw [← h2]; exact ok_t_M_chosen_8
  | 9, hn =>
    have h2 : td_t_M_chosen 9 = b := by unfold td_t_M_chosen; rw [hn]; rfl
    rw [← h2]; exact ok_t_M_chosen_9
  | 10, hn =>
    have h2 : td_t_M_chosen 10 = b := by unfold td_t_M_chosen; rw [hn]; rfl
    rw [← h2]; exact ok_t_M_chosen_10
  | 11, hn =>
    have h2 : td_t_M_chosen 11 = b := by unfold td_t_M_chosen; rw [hn]; rfl
    rw [← h2]; exact ok_t_M_chosen_11
  | 12, hn =>
    have h2 : td_t_M_chosen 12 = b := by unfold td_t_M_chosen; rw [hn]; rfl
    rw [← h2]; exact ok_t_M_chosen_12
  | n + 13, hn =>
    rw [pe_at_eq] at hn
    exact absurd (List.getElem?_eq_some_iff.mp hn).1 (by show ¬ n + 13 < 13; omega)
theorem ok_t_M_chosen : pe_okM (pe_GA []) pe_cl pe_ckA t_M_chosen = true := pe_okM_mk (pe_w_of (by rfl) (by rfl)) (by decide +kernel) ok_t_M_chosen_a
def td_t_M_single (k : Nat) : Nat × List pe_I := (pe_at t_M_single.bl k).getD (0, [])
set_option maxRecDepth 40000 in
theorem ok_t_M_single_0 : pe_ckB (pe_GA []) pe_cl pe_ckA t_M_single (td_t_M_single 0).1 (td_t_M_single 0).2 = true := by decide +kernel
set_option maxRecDepth 40000 in
theorem ok_t_M_single_1 : pe_ckB (pe_GA []) pe_cl pe_ckA t_M_single (td_t_M_single 1).1 (td_t_M_single 1).2 = true := by decide +kernel
set_option maxRecDepth 40000 in
theorem ok_t_M_single_2 : pe_ckB (pe_GA []) pe_cl pe_ckA t_M_single (td_t_M_single 2).1 (td_t_M_single 2).2 = true := by decide +kernel
set_option maxRecDepth 40000 in
theorem ok_t_M_single_3 : pe_ckB (pe_GA []) pe_cl pe_ckA t_M_single (td_t_M_single 3).1 (td_t_M_single 3).2 = true := by decide +kernel
set_option maxRecDepth 40000 in
theorem ok_t_M_single_4 : pe_ckB (pe_GA []) pe_cl pe_ckA t_M_single (td_t_M_single 4).1 (td_t_M_single 4).2 = true := by decide +kernel
set_option maxRecDepth 40000 in
theorem ok_t_M_single_5 : pe_ckB (pe_GA []) pe_cl pe_ckA t_M_single (td_t_M_single 5).1 (td_t_M_single 5).2 = true := by decide +kernel
set_option maxRecDepth 40000 in
theorem ok_t_M_single_6 : pe_ckB (pe_GA []) pe_cl pe_ckA t_M_single (td_t_M_single 6).1 (td_t_M_single 6).2 = true := by decide +kernel
set_option maxRecDepth 40000 in
theorem ok_t_M_single_7 : pe_ckB (pe_GA []) pe_cl pe_ckA t_M_single (td_t_M_single 7).1 (td_t_M_single 7).2 = true := by decide +kernel
set_option maxRecDepth 40000 in
theorem ok_t_M_single_8 : pe_ckB (pe_GA []) pe_cl pe_ckA t_M_single (td_t_M_single 8).1 (td_t_M_single 8).2 = true := by decide +kernel
set_option maxRecDepth 40000 in
theorem ok_t_M_single_9 : pe_ckB (pe_GA []) pe_cl pe_ckA t_M_single (td_t_M_single 9).1 (td_t_M_single 9).2 = true := by decide +kernel
set_option maxRecDepth 40000 in
theorem ok_t_M_single_10 : pe_ckB (pe_GA []) pe_cl pe_ckA t_M_single (td_t_M_single 10).1 (td_t_M_single 10).2 = true := by decide +kernel
set_option maxRecDepth 40000 in
theorem ok_t_M_single_11 : pe_ckB (pe_GA []) pe_cl pe_ckA t_M_single (td_t_M_single 11).1 (td_t_M_single 11).2 = true := by decide +kernel
set_option maxRecDepth 40000 in
theorem ok_t_M_single_12 : pe_ckB (pe_GA []) pe_cl pe_ckA t_M_single (td_t_M_single 12).1 (td_t_M_single 12).2 = true := by decide +kernel
set_option maxRecDepth 40000 in
theorem ok_t_M_single_13 : pe_ckB (pe_GA []) pe_cl pe_ckA t_M_single (td_t_M_single 13).1 (td_t_M_single 13).2 = true := by decide +kernel
set_option maxRecDepth 40000 in
theorem ok_t_M_single_14 : pe_ckB (pe_GA []) pe_cl pe_ckA t_M_single (td_t_M_single 14).1 (td_t_M_single 14).2 = true := by decide +kernel
set_option maxRecDepth 40000 in
theorem ok_t_M_single_15 : pe_ckB (pe_GA []) pe_cl pe_ckA t_M_single (td_t_M_single 15).1 (td_t_M_single 15).2 = true := by decide +kernel
set_option maxRecDepth 40000 in
theorem ok_t_M_single_16 : pe_ckB (pe_GA []) pe_cl pe_ckA t_M_single (td_t_M_single 16).1 (td_t_M_single 16).2 = true := by decide +kernel
set_option maxRecDepth 40000 in
theorem ok_t_M_single_17 : pe_ckB (pe_GA []) pe_cl pe_ckA t_M_single (td_t_M_single 17).1 (td_t_M_single 17).2 = true := by decide +kernel
theorem ok_t_M_single_a : ∀ b ∈ t_M_single.bl, pe_ckB (pe_GA []) pe_cl pe_ckA t_M_single b.1 b.2 = true := by
  intro b hb
  obtain ⟨n, hn⟩ := List.getElem?_of_mem hb
  rw [← pe_at_eq] at hn
  match n, hn with
  | 0, hn =>
    have h2 : td_t_M_single 0 = b := by unfold td_t_M_single; rw [hn]; rfl
    rw [← h2]; exact ok_t_M_single_0
  | 1, hn =>
    have h2 : td_t_M_single 1 = b := by unfold td_t_M_single; rw [hn]; rfl
    rw [← h2]; exact ok_t_M_single_1
  | 2, hn =>
    have h2 : td_t_M_single 2 = b := by unfold td_t_M_single; rw [hn]; rfl
    rw [← h2]; exact ok_t_M_single_2
  | 3, hn =>
    have h2 : td_t_M_single 3 = b := by unfold td_t_M_single; rw [hn]; rfl
    rw [← h2]; exact ok_t_M_single_3
  | 4, hn =>
    have h2 : td_t_M_single 4 = b := by unfold td_t_M_single; rw [hn]; rfl
    rw [← h2]; exact ok_t_M_single_4
  | 5, hn =>
    have h2 : td_t_M_single 5 = b := by unfold td_t_M_single; rw [hn]; rfl
    rw [← h2]; exact ok_t_M_single_5
  | 6, hn =>
    have h2 : td_t_M_single 6 = b := by unfold td_t_M_single; rw [hn]; rfl
    rw [← h2]; exact ok_t_M_single_6
  | 7, hn =>
    have h2 : td_t_M_single 7 = b := by unfold td_t_M_single; rw [hn]; rfl
    rw [← h2]; exact ok_t_M_single_7
  | 8, hn =>
    have h2 : td_t_M_single 8 = b := by unfold td_t_M_single; rw [hn]; rfl
    rw [← h2]; exact ok_t_M_single_8
  | 9, hn =>
    have h2 : td_t_M_single 9 = b := by unfold td_t_M_single; rw [hn]; rfl
    rw [← h2]; exact ok_t_M_single_9
  | 10, hn =>
    have h2 : td_t_M_single 10 = b := by unfold td_t_M_single; rw [hn]; rfl
    rw [← h2]; exact ok_t_M_single_10
  | 11, hn =>
    have h2 : td_t_M_single 11 = b := by unfold td_t_M_single; rw [hn]; rfl
    rw [← h2]; exact ok_t_M_single_11
  | 12, hn =>
    have h2 : td_t_M_single 12 = b := by unfold td_t_M_single; rw [hn]; rfl
    rw [← h2]; exact ok_t_M_single_12
  | 13, hn =>
    have h2 : td_t_M_single 13 = b := by unfold td_t_M_single; rw [hn]; rfl
    rw [← h2]; exact ok_t_M_single_13
  | 14, hn =>
    have h2 : td_t_M_single 14 = b := by unfold td_t_M_single; rw [hn]; rfl
    rw [← h2]; exact ok_t_M_single_14
  | 15, hn =>
    have h2 : td_t_M_single 15 = b := by unfold td_t_M_single; rw [hn]; rfl
    rw [← h2]; exact ok_t_M_single_15
  | 16, hn =>
    have h2 : td_t_M_single 16 = b := by unfold td_t_M_single; rw [hn]; rfl
    rw [← h2]; exact ok_t_M_single_16
  | 17, hn =>
    have h2 : td_t_M_single 17 = b := by unfold td_t_M_single; rw [hn]; rfl
    rw [← h2]; exact ok_t_M_single_17
  | n + 18, hn =>
    rw [pe_at_eq] at hn
    exact absurd (List.getElem?_eq_some_iff.mp hn).1 (by show ¬ n + 18 < 18; omega)
theorem ok_t_M_single : pe_okM (pe_GA []) pe_cl pe_ckA t_M_single = true := pe_okM_mk (pe_w_of (by rfl) (by rfl)) (by decide +kernel) ok_t_M_single_a
set_option maxRecDepth 40000 in
theorem ok_t_M_fieldSlot : pe_okM (pe_GA []) pe_cl pe_ckA t_M_fieldSlot = true := by decide +kernel
set_option maxRecDepth 40000 in
theorem ok_t_M_strict : pe_okM (pe_GA []) pe_cl pe_ckA t_M_strict = true := by decide +kernel
def td_t_M_makes (k : Nat) : Nat × List pe_I := (pe_at t_M_makes.bl k).getD (0, [])
set_option maxRecDepth 40000 in
theorem ok_t_M_makes_0 : pe_ckB (pe_GA []) pe_cl pe_ckA t_M_makes (td_t_M_makes 0).1 (td_t_M_makes 0).2 = true := by decide +kernel
set_option maxRecDepth 40000 in
theorem ok_t_M_makes_1 : pe_ckB (pe_GA []) pe_cl pe_ckA t_M_makes (td_t_M_makes 1).1 (td_t_M_makes 1).2 = true := by decide +kernel
set_option maxRecDepth 40000 in
theorem ok_t_M_makes_2 : pe_ckB (pe_GA []) pe_cl pe_ckA t_M_makes (td_t_M_makes 2).1 (td_t_M_makes 2).2 = true := by decide +kernel
set_option maxRecDepth 40000 in
theorem ok_t_M_makes_3 : pe_ckB (pe_GA []) pe_cl pe_ckA t_M_makes (td_t_M_makes 3).1 (td_t_M_makes 3).2 = true := by decide +kernel
set_option maxRecDepth 40000 in
theorem ok_t_M_makes_4 : pe_ckB (pe_GA []) pe_cl pe_ckA t_M_makes (td_t_M_makes 4).1 (td_t_M_makes 4).2 = true := by decide +kernel
set_option maxRecDepth 40000 in
theorem ok_t_M_makes_5 : pe_ckB (pe_GA []) pe_cl pe_ckA t_M_makes (td_t_M_makes 5).1 (td_t_M_makes 5).2 = true := by decide +kernel
set_option maxRecDepth 40000 in
theorem ok_t_M_makes_6 : pe_ckB (pe_GA []) pe_cl pe_ckA t_M_makes (td_t_M_makes 6).1 (td_t_M_makes 6).2 = true := by decide +kernel
set_option maxRecDepth 40000 in
theorem ok_t_M_makes_7 : pe_ckB (pe_GA []) pe_cl pe_ckA t_M_makes (td_t_M_makes 7).1 (td_t_M_makes 7).2 = true := by decide +kernel
set_option maxRecDepth 40000 in
theorem ok_t_M_makes_8 : pe_ckB (pe_GA []) pe_cl pe_ckA t_M_makes (td_t_M_makes 8).1 (td_t_M_makes 8).2 = true := by decide +kernel
set_option maxRecDepth 40000 in
theorem ok_t_M_makes_9 : pe_ckB (pe_GA []) pe_cl pe_ckA t_M_makes (td_t_M_makes 9).1 (td_t_M_makes 9).2 = true := by decide +kernel
set_option maxRecDepth 40000 in
theorem ok_t_M_makes_10 : pe_ckB (pe_GA []) pe_cl pe_ckA t_M_makes (td_t_M_makes 10).1 (td_t_M_makes 10).2 = true := by decide +kernel
set_option maxRecDepth 40000 in
theorem ok_t_M_makes_11 : pe_ckB (pe_GA []) pe_cl pe_ckA t_M_makes (td_t_M_makes 11).1 (td_t_M_makes 11).2 = true := by decide +kernel
set_option maxRecDepth 40000 in
theorem ok_t_M_makes_12 : pe_ckB (pe_GA []) pe_cl pe_ckA t_M_makes (td_t_M_makes 12).1 (td_t_M_makes 12).2 = true := by decide +kernel
theorem ok_t_M_makes_a : ∀ b ∈ t_M_makes.bl, pe_ckB (pe_GA []) pe_cl pe_ckA t_M_makes b.1 b.2 = true := by
  intro b hb
  obtain ⟨n, hn⟩ := List.getElem?_of_mem hb
  rw [← pe_at_eq] at hn
  match n, hn with
  | 0, hn =>
    have h2 : td_t_M_makes 0 = b := by unfold td_t_M_makes; rw [hn]; rfl
    rw [← h2]; exact ok_t_M_makes_0
  | 1, hn =>
    have h2 : td_t_M_makes 1 = b := by unfold td_t_M_makes; rw [hn]; rfl
    rw [← h2]; exact ok_t_M_makes_1
  | 2, hn =>
    have h2 : td_t_M_makes 2 = b := by unfold td_t_M_makes; rw [hn]; rfl
    rw [← h2]; exact ok_t_M_makes_2
  | 3, hn =>
    have h2 : td_t_M_makes 3 = b := by unfold td_t_M_makes; rw [hn]; rfl
    rw [← h2]; exact ok_t_M_makes_3
  | 4, hn =>
    have h2 : td_t_M_makes 4 = b := by unfold td_t_M_makes; rw [hn]; rfl
    rw [← h2]; exact ok_t_M_makes_4
  | 5, hn =>
    have h2 : td_t_M_makes 5 = b := by unfold td_t_M_makes; rw [hn]; rfl
    rw [← h2]; exact ok_t_M_makes_5
  | 6, hn =>
    have h2 : td_t_M_makes 6 = b := by unfold td_t_M_makes; rw [hn]; rfl
    rw [← h2]; exact ok_t_M_makes_6
  | 7, hn =>
    have h2 : td_t_M_makes 7 = b := by unfold td_t_M_makes; rw [hn]; rfl
    rw [← h2]; exact ok_t_M_makes_7
  | 8, hn =>
    have h2 : td_t_M_makes 8 = b := by unfold td_t_M_makes; rw [hn]; rfl
    rw [← h2]; exact ok_t_M_makes_8
  | 9, hn =>
    have h2 : td_t_M_makes 9 = b := by unfold td_t_M_makes; rw [hn]; rfl
    rw [← h2]; exact ok_t_M_makes_9
  | 10, hn =>
    have h2 : td_t_M_makes 10 = b := by unfold td_t_M_makes; rw [hn]; rfl
    rw [← h2]; exact ok_t_M_makes_10
  | 11, hn =>
    have h2 : td_t_M_makes 11 = b := by unfold td_t_M_makes; rw [hn]; rfl
    rw [← h2]; exact ok_t_M_makes_11
  | 12, hn =>
    have h2 : td_t_M_makes 12 = b := by unfold td_t_M_makes; rw [hn]; rfl
    rw [← h2]; exact ok_t_M_makes_12
  | n + 13, hn =>
    rw [pe_at_eq] at hn
    exact absurd (List.getElem?_eq_some_iff.mp hn).1 (by show ¬ n + 13 < 13; omega)
theorem ok_t_M_makes : pe_okM (pe_GA []) pe_cl pe_ckA t_M_makes = true := pe_okM_mk (pe_w_of (by rfl) (by rfl)) (by decide +kernel) ok_t_M_makes_a
def td_t_M_fieldFor (k : Nat) : Nat × List pe_I := (pe_at t_M_fieldFor.bl k).getD (0, [])
set_option maxRecDepth 40000 in
theorem ok_t_M_fieldFor_0 : pe_ckB (pe_GA []) pe_cl pe_ckA t_M_fieldFor (td_t_M_fieldFor 0).1 (td_t_M_fieldFor 0).2 = true := by decide +kernel
set_option maxRecDepth 40000 in
theorem ok_t_M_fieldFor_1 : pe_ckB (pe_GA []) pe_cl pe_ckA t_M_fieldFor (td_t_M_fieldFor 1).1 (td_t_M_fieldFor 1).2 = true := by decide +kernel
set_option maxRecDepth 40000 in
theorem ok_t_M_fieldFor_2 : pe_ckB (pe_GA []) pe_cl pe_ckA t_M_fieldFor (td_t_M_fieldFor 2).1 (td_t_M_fieldFor 2).2 = true := by decide +kernel
set_option maxRecDepth 40000 in
theorem ok_t_M_fieldFor_3 : pe_ckB (pe_GA []) pe_cl pe_ckA t_M_fieldFor (td_t_M_fieldFor 3).1 (td_t_M_fieldFor 3).2 = true := by decide +kernel
set_option maxRecDepth 40000 in
theorem ok_t_M_fieldFor_4 : pe_ckB (pe_GA []) pe_cl pe_ckA t_M_fieldFor (td_t_M_fieldFor 4).1 (td_t_M_fieldFor 4).2 = true := by decide +kernel
set_option maxRecDepth 40000 in
theorem ok_t_M_fieldFor_5 : pe_ckB (pe_GA []) pe_cl pe_ckA t_M_fieldFor (td_t_M_fieldFor 5).1 (td_t_M_fieldFor 5).2 = true := by decide +kernel
set_option maxRecDepth 40000 in
theorem ok_t_M_fieldFor_6 : pe_ckB (pe_GA []) pe_cl pe_ckA t_M_fieldFor (td_t_M_fieldFor 6).1 (td_t_M_fieldFor 6).2 = true := by decide +kernel
set_option maxRecDepth 40000 in
theorem ok_t_M_fieldFor_7 : pe_ckB (pe_GA []) pe_cl pe_ckA t_M_fieldFor (td_t_M_fieldFor 7).1 (td_t_M_fieldFor 7).2 = true := by decide +kernel
set_option maxRecDepth 40000 in
theorem ok_t_M_fieldFor_8 : pe_ckB (pe_GA []) pe_cl pe_ckA t_M_fieldFor (td_t_M_fieldFor 8).1 (td_t_M_fieldFor 8).2 = true := by decide +kernel
set_option maxRecDepth 40000 in
theorem ok_t_M_fieldFor_9 : pe_ckB (pe_GA []) pe_cl pe_ckA t_M_fieldFor (td_t_M_fieldFor 9).1 (td_t_M_fieldFor 9).2 = true := by decide +kernel
set_option maxRecDepth 40000 in
theorem ok_t_M_fieldFor_10 : pe_ckB (pe_GA []) pe_cl pe_ckA t_M_fieldFor (td_t_M_fieldFor 10).1 (td_t_M_fieldFor 10).2 = true := by decide +kernel
set_option maxRecDepth 40000 in
theorem ok_t_M_fieldFor_11 : pe_ckB (pe_GA []) pe_cl pe_ckA t_M_fieldFor (td_t_M_fieldFor 11).1 (td_t_M_fieldFor 11).2 = true := by decide +kernel
set_option maxRecDepth 40000 in
theorem ok_t_M_fieldFor_12 : pe_ckB (pe_GA []) pe_cl pe_ckA t_M_fieldFor (td_t_M_fieldFor 12).1 (td_t_M_fieldFor 12).2 = true := by decide +kernel
set_option maxRecDepth 40000 in
theorem ok_t_M_fieldFor_13 : pe_ckB (pe_GA []) pe_cl pe_ckA t_M_fieldFor (td_t_M_fieldFor 13).1 (td_t_M_fieldFor 13).2 = true := by decide +kernel
set_option maxRecDepth 40000 in
theorem ok_t_M_fieldFor_14 : pe_ckB (pe_GA []) pe_cl pe_ckA t_M_fieldFor (td_t_M_fieldFor 14).1 (td_t_M_fieldFor 14).2 = true := by decide +kernel
set_option maxRecDepth 40000 in
theorem ok_t_M_fieldFor_15 : pe_ckB (pe_GA []) pe_cl pe_ckA t_M_fieldFor (td_t_M_fieldFor 15).1 (td_t_M_fieldFor 15).2 = true := by decide +kernel
set_option maxRecDepth 40000 in
theorem ok_t_M_fieldFor_16 : pe_ckB (pe_GA []) pe_cl pe_ckA t_M_fieldFor (td_t_M_fieldFor 16).1 (td_t_M_fieldFor 16).2 = true := by decide +kernel
set_option maxRecDepth 40000 in
theorem ok_t_M_fieldFor_17 : pe_ckB (pe_GA []) pe_cl pe_ckA t_M_fieldFor (td_t_M_fieldFor 17).1 (td_t_M_fieldFor 17).2 = true := by decide +kernel
set_option maxRecDepth 40000 in
theorem ok_t_M_fieldFor_18 : pe_ckB (pe_GA []) pe_cl pe_ckA t_M_fieldFor (td_t_M_fieldFor 18).1 (td_t_M_fieldFor 18).2 = true := by decide +kernel
theorem ok_t_M_fieldFor_a : ∀ b ∈ t_M_fieldFor.bl, pe_ckB (pe_GA []) pe_cl pe_ckA t_M_fieldFor b.1 b.2 = true := by
  intro b hb
  obtain ⟨n, hn⟩ := List.getElem?_of_mem hb
  rw [← pe_at_eq] at hn
  match n, hn with
  | 0, hn =>
    have h2 : td_t_M_fieldFor 0 = b := by unfold td_t_M_fieldFor; rw [hn]; rfl
    rw [← h2]; exact ok_t_M_fieldFor_0
  | 1, hn =>
    have h2 : td_t_M_fieldFor 1 = b := by unfold td_t_M_fieldFor; rw [hn]; rfl
    rw [← h2]; exact ok_t_M_fieldFor_1
  | 2, hn =>
    have h2 : td_t_M_fieldFor 2 = b := by unfold td_t_M_fieldFor; rw [hn]; rfl
    rw [← h2]; exact ok_t_M_fieldFor_2
  | 3, hn =>
    have h2 : td_t_M_fieldFor 3 = b := by unfold td_t_M_fieldFor; rw [hn]; rfl
    rw [← h2]; exact ok_t_M_fieldFor_3
  | 4, hn =>
    have h2 : td_t_M_fieldFor 4 = b := by unfold td_t_M_fieldFor; rw [hn]; rfl
    rw [← h2]; exact ok_t_M_fieldFor_4
  | 5, hn =>
    have h2 : td_t_M_fieldFor 5 = b := by unfold td_t_M_fieldFor; rw [hn]; rfl
    rw [← h2]; exact ok_t_M_fieldFor_5
  | 6, hn =>
    have h2 : td_t_M_fieldFor 6 = b := by unfold td_t_M_fieldFor; rw [hn]; rfl
    rw [← h2]; exact ok_t_M_fieldFor_6
  | 7, hn =>
    have h2 : td_t_M_fieldFor 7 = b := by unfold td_t_M_fieldFor; rw [hn]; rfl
    rw [← h2]; exact ok_t_M_fieldFor_7
  | 8, hn =>
    have h2 : td_t_M_fieldFor 8 = b := by unfold td_t_M_fieldFor; rw [hn]; rfl
    rw [← h2]; exact ok_t_M_fieldFor_8
  | 9, hn =>
    have h2 : td_t_M_fieldFor 9 = b := by unfold td_t_M_fieldFor; rw [hn]; rfl
    rw [← h2]; exact ok_t_M_fieldFor_9
  | 10, hn =>
    have h2 : td_t_M_fieldFor 10 = b := by unfold td_t_M_fieldFor; rw [hn]; rfl
    rw [← h2]; exact ok_t_M_fieldFor_10
  | 11, hn =>
    have h2 : td_t_M_fieldFor 11 = b := by unfold td_t_M_fieldFor; rw [hn]; rfl
    rw [← h2]; exact ok_t_M_fieldFor_11
  | 12, hn =>
    have h2 : td_t_M_fieldFor 12 = b := by unfold td_t_M_fieldFor; rw [hn]; rfl
    rw [← h2]; exact ok_t_M_fieldFor_12
  | 13, hn =>
    have h2 : td_t_M_fieldFor 13 = b := by unfold td_t_M_fieldFor; rw [hn]; rfl
    rw [← h2]; exact ok_t_M_fieldFor_13
  | 14, hn =>
    have h2 : td_t_M_fieldFor 14 = b := by unfold td_t_M_fieldFor; rw [hn]; rfl
    rw [← h2]; exact ok_t_M_fieldFor_14
  | 15, hn =>
    have h2 : td_t_M_fieldFor 15 = b := by unfold td_t_M_fieldFor; rw [hn]; rfl
    rw [← h2]; exact ok_t_M_fieldFor_15
  | 16, hn =>
    have h2 : td_t_M_fieldFor 16 = b := by unfold td_t_M_fieldFor; rw [hn]; rfl
    rw [← h2]; exact ok_t_M_fieldFor_16
  | 17, hn =>
    have h2 : td_t_M_fieldFor 17 = b := by unfold td_t_M_fieldFor; rw [hn]; rfl
    rw [← h2]; exact ok_t_M_fieldFor_17
  | 18, hn =>
    have h2 : td_t_M_fieldFor 18 = b := by unfold td_t_M_fieldFor; rw [hn]; rfl
    rw [← h2]; exact ok_t_M_fieldFor_18
  | n + 19, hn =>
    rw [pe_at_eq] at hn
    exact absurd (List.getElem?_eq_some_iff.mp hn).1 (by show ¬ n + 19 < 19; omega)
theorem ok_t_M_fieldFor : pe_okM (pe_GA []) pe_cl pe_ckA t_M_fieldFor = true := pe_okM_mk (pe_w_of (by rfl) (by rfl)) (by decide +kernel) ok_t_M_fieldFor_a
set_option maxRecDepth 40000 in
theorem ok_t_M_traces : pe_okM (pe_GA []) pe_cl pe_ckA t_M_traces = true := by decide +kernel
def td_t_M_answersByType (k : Nat) : Nat × List pe_I := (pe_at t_M_answersByType.bl k).getD (0, [])
set_option maxRecDepth 40000 in
theorem ok_t_M_answersByType_0 : pe_ckB (pe_GA []) pe_cl pe_ckA t_M_answersByType (td_t_M_answersByType 0).1 (td_t_M_answersByType 0).2 = true := by decide +kernel
set_option maxRecDepth 40000 in
theorem ok_t_M_answersByType_1 : pe_ckB (pe_GA []) pe_cl pe_ckA t_M_answersByType (td_t_M_answersByType 1).1 (td_t_M_answersByType 1).2 = true := by decide +kernel
set_option maxRecDepth 40000 in
theorem ok_t_M_answersByType_2 : pe_ckB (pe_GA []) pe_cl pe_ckA t_M_answersByType (td_t_M_answersByType 2).1 (td_t_M_answersByType 2).2 = true := by decide +kernel
set_option maxRecDepth 40000 in
theorem ok_t_M_answersByType_3 : pe_ckB (pe_GA []) pe_cl pe_ckA t_M_answersByType (td_t_M_answersByType 3).1 (td_t_M_answersByType 3).2 = true := by decide +kernel
set_option maxRecDepth 40000 in
theorem ok_t_M_answersByType_4 : pe_ckB (pe_GA []) pe_cl pe_ckA t_M_answersByType (td_t_M_answersByType 4).1 (td_t_M_answersByType 4).2 = true := by decide +kernel
set_option maxRecDepth 40000 in
theorem ok_t_M_answersByType_5 : pe_ckB (pe_GA []) pe_cl pe_ckA t_M_answersByType (td_t_M_answersByType 5).1 (td_t_M_answersByType 5).2 = true := by decide +kernel
set_option maxRecDepth 40000 in
theorem ok_t_M_answersByType_6 : pe_ckB (pe_GA []) pe_cl pe_ckA t_M_answersByType (td_t_M_answersByType 6).1 (td_t_M_answersByType 6).2 = true := by decide +kernel
set_option maxRecDepth 40000 in
theorem ok_t_M_answersByType_7 : pe_ckB (pe_GA []) pe_cl pe_ckA t_M_answersByType (td_t_M_answersByType 7).1 (td_t_M_answersByType 7).2 = true := by decide +kernel
set_option maxRecDepth 40000 in
theorem ok_t_M_answersByType_8 : pe_ckB (pe_GA []) pe_cl pe_ckA t_M_answersByType (td_t_M_answersByType 8).1 (td_t_M_answersByType 8).2 = true := by decide +kernel
set_option maxRecDepth 40000 in
theorem ok_t_M_answersByType_9 : pe_ckB (pe_GA []) pe_cl pe_ckA t_M_answersByType (td_t_M_answersByType 9).1 (td_t_M_answersByType 9).2 = true := by decide +kernel
set_option maxRecDepth 40000 in
theorem ok_t_M_answersByType_10 : pe_ckB (pe_GA []) pe_cl pe_ckA t_M_answersByType (td_t_M_answersByType 10).1 (td_t_M_answersByType 10).2 = true := by decide +kernel
set_option maxRecDepth 40000 in
theorem ok_t_M_answersByType_11 : pe_ckB (pe_GA []) pe_cl pe_ckA t_M_answersByType (td_t_M_answersByType 11).1 (td_t_M_answersByType 11).2 = true := by decide +kernel
set_option maxRecDepth 40000 in
theorem ok_t_M_answersByType_12 : pe_ckB (pe_GA []) pe_cl pe_ckA t_M_answersByType (td_t_M_answersByType 12).1 (td_t_M_answersByType 12).2 = true := by decide +kernel
set_option maxRecDepth 40000 in
theorem ok_t_M_answersByType_13 : pe_ckB (pe_GA []) pe_cl pe_ckA t_M_answersByType (td_t_M_answersByType 13).1 (td_t_M_answersByType 13).2 = true := by decide +kernel
set_option maxRecDepth 40000 in
theorem ok_t_M_answersByType_14 : pe_ckB (pe_GA []) pe_cl pe_ckA t_M_answersByType (td_t_M_answersByType 14).1 (td_t_M_answersByType 14).2 = true := by decide +kernel
set_option maxRecDepth 40000 in
theorem ok_t_M_answersByType_15 : pe_ckB (pe_GA []) pe_cl pe_ckA t_M_answersByType (td_t_M_answersByType 15).1 (td_t_M_answersByType 15).2 = true := by decide +kernel
set_option maxRecDepth 40000 in
theorem ok_t_M_answersByType_16 : pe_ckB (pe_GA []) pe_cl pe_ckA t_M_answersByType (td_t_M_answersByType 16).1 (td_t_M_answersByType 16).2 = true := by decide +kernel
set_option maxRecDepth 40000 in
theorem ok_t_M_answersByType_17 : pe_ckB (pe_GA []) pe_cl pe_ckA t_M_answersByType (td_t_M_answersByType 17).1 (td_t_M_answersByType 17).2 = true := by decide +kernel
set_option maxRecDepth 40000 in
theorem ok_t_M_answersByType_18 : pe_ckB (pe_GA []) pe_cl pe_ckA t_M_answersByType (td_t_M_answersByType 18).1 (td_t_M_answersByType 18).2 = true := by decide +kernel
theorem ok_t_M_answersByType_a : ∀ b ∈ t_M_answersByType.bl, pe_ckB (pe_GA []) pe_cl pe_ckA t_M_answersByType b.1 b.2 = true := by
  intro b hb
  obtain ⟨n, hn⟩ := List.getElem?_of_mem hb
  rw [← pe_at_eq] at hn
  match n, hn with
  | 0, hn =>
    have h2 : td_t_M_answersByType 0 = b := by unfold td_t_M_answersByType; rw [hn]; rfl
    rw [← h2]; exact ok_t_M_answersByType_0
  | 1, hn =>
    have h2 : td_t_M_answersByType 1 = b := by unfold td_t_M_answersByType; rw [hn]; rfl
    rw [← h2]; exact ok_t_M_answersByType_1
  | 2, hn =>
    have h2 : td_t_M_answersByType 2 = b := by unfold td_t_M_answersByType; rw [hn]; rfl
    rw [← h2]; exact ok_t_M_answersByType_2
  | 3, hn =>
    have h2 : td_t_M_answersByType 3 = b := by unfold td_t_M_answersByType; rw [hn]; rfl
    rw [← h2]; exact ok_t_M_answersByType_3
  | 4, hn =>
    have h2 : td_t_M_answersByType 4 = b := by unfold td_t_M_answersByType; rw [hn]; rfl
    rw [← h2]; exact ok_t_M_answersByType_4
  | 5, hn =>
    have h2 : td_t_M_answersByType 5 = b := by unfold td_t_M_answersByType; rw [hn]; rfl
    rw [← h2]; exact ok_t_M_answersByType_5
  | 6, hn =>
    have h2 : td_t_M_answersByType 6 = b := by unfold td_t_M_answersByType; rw [hn]; rfl
    rw [← h2]; exact ok_t_M_answersByType_6
  | 7, hn =>
    have h2 : td_t_M_answersByType 7 = b := by unfold td_t_M_answersByType; rw [hn]; rfl
    rw [← h2]; exact ok_t_M_answersByType_7
  | 8, hn =>
    have h2 : td_t_M_answersByType 8 = b := by unfold td_t_M_answersByType; rw [hn]; rfl
    rw [← h2]; exact ok_t_M_answersByType_8
  | 9, hn =>
    have h2 : td_t_M_answersByType 9 = b := by unfold td_t_M_answersByType; rw [hn]; rfl
    rw [← h2]; exact ok_t_M_answersByType_9
  | 10, hn =>
    have h2 : td_t_M_answersByType 10 = b := by unfold td_t_M_answersByType; rw [hn]; rfl
    rw [← h2]; exact ok_t_M_answersByType_10
  | 11, hn =>
    have h2 : td_t_M_answersByType 11 = b := by unfold td_t_M_answersByType; rw [hn]; rfl
    rw [← h2]; exact ok_t_M_answersByType_11
  | 12, hn =>
    have h2 : td_t_M_answersByType 12 = b := by unfold td_t_M_answersByType; rw [hn]; rfl
    rw [← h2]; exact ok_t_M_answersByType_12
  | 13, hn =>
    have h2 : td_t_M_answersByType 13 = b := by unfold td_t_M_answersByType; rw [hn]; rfl
    rw [← h2]; exact ok_t_M_answersByType_13
  | 14, hn =>
    have h2 : td_t_M_answersByType 14 = b := by unfold td_t_M_answersByType; rw [hn]; rfl
    rw [← h2]; exact ok_t_M_answersByType_14
  | 15, hn =>
    have h2 : td_t_M_answersByType 15 = b := by unfold td_t_M_answersByType; rw [hn]; rfl
    rw [← h2]; exact ok_t_M_answersByType_15
  | 16, hn =>
    have h2 : td_t_M_answersByType 16 = b := by unfold td_t_M_answersByType; rw [hn]; rfl
    rw [← h2]; exact ok_t_M_answersByType_16
  | 17, hn =>
    have h2 : td_t_M_answersByType 17 = b := by unfold td_t_M_answersByType; rw [hn]; rfl
    rw [← h2]; exact ok_t_M_answersByType_17
  | 18, hn =>
    have h2 : td_t_M_answersByType 18 = b := by unfold td_t_M_answersByType; rw [hn]; rfl
    rw [← h2]; exact ok_t_M_answersByType_18
  | n + 19, hn =>
    rw [pe_at_eq] at hn
    exact absurd (List.getElem?_eq_some_iff.mp hn).1 (by show ¬ n + 19 < 19; omega)
theorem ok_t_M_answersByType : pe_okM (pe_GA []) pe_cl pe_ckA t_M_answersByType = true := pe_okM_mk (pe_w_of (by rfl) (by rfl)) (by decide +kernel) ok_t_M_answersByType_a
def td_t_M_spellNumber (k : Nat) : Nat × List pe_I := (pe_at t_M_spellNumber.bl k).getD (0, [])
set_option maxRecDepth 40000 in
theorem ok_t_M_spellNumber_0 : pe_ckB (pe_GA []) pe_cl pe_ckA t_M_spellNumber (td_t_M_spellNumber 0).1 (td_t_M_spellNumber 0).2 = true := by decide +kernel
set_option maxRecDepth 40000 in
theorem ok_t_M_spellNumber_1 : pe_ckB (pe_GA []) pe_cl pe_ckA t_M_spellNumber (td_t_M_spellNumber 1).1 (td_t_M_spellNumber 1).2 = true := by decide +kernel
set_option maxRecDepth 40000 in
theorem ok_t_M_spellNumber_2 : pe_ckB (pe_GA []) pe_cl pe_ckA t_M_spellNumber (td_t_M_spellNumber 2).1 (td_t_M_spellNumber 2).2 = true := by decide +kernel
set_option maxRecDepth 40000 in
theorem ok_t_M_spellNumber_3 : pe_ckB (pe_GA []) pe_cl pe_ckA t_M_spellNumber (td_t_M_spellNumber 3).1 (td_t_M_spellNumber 3).2 = true := by decide +kernel
set_option maxRecDepth 40000 in
theorem ok_t_M_spellNumber_4 : pe_ckB (pe_GA []) pe_cl pe_ckA t_M_spellNumber (td_t_M_spellNumber 4).1 (td_t_M_spellNumber 4).2 = true := by decide +kernel
set_option maxRecDepth 40000 in
theorem ok_t_M_spellNumber_5 : pe_ckB (pe_GA []) pe_cl pe_ckA t_M_spellNumber (td_t_M_spellNumber 5).1 (td_t_M_spellNumber 5).2 = true := by decide +kernel
set_option maxRecDepth 40000 in
theorem ok_t_M_spellNumber_6 : pe_ckB (pe_GA []) pe_cl pe_ckA t_M_spellNumber (td_t_M_spellNumber 6).1 (td_t_M_spellNumber 6).2 = true := by decide +kernel
set_option maxRecDepth 40000 in
theorem ok_t_M_spellNumber_7 : pe_ckB (pe_GA []) pe_cl pe_ckA t_M_spellNumber (td_t_M_spellNumber 7).1 (td_t_M_spellNumber 7).2 = true := by decide +kernel
theorem ok_t_M_spellNumber_a : ∀ b ∈ t_M_spellNumber.bl, pe_ckB (pe_GA []) pe_cl pe_ckA t_M_spellNumber b.1 b.2 = true := by
  intro b hb
  obtain ⟨n, hn⟩ := List.getElem?_of_mem hb
  rw [← pe_at_eq] at hn
  match n, hn with
  | 0, hn =>
    have h2 : td_t_M_spellNumber 0 = b := by unfold td_t_M_spellNumber; rw [hn]; rfl
    rw [← h2]; exact ok_t_M_spellNumber_0
  | 1, hn =>
    have h2 : td_t_M_spellNumber 1 = b := by unfold td_t_M_spellNumber; rw [hn]; rfl
    rw [← h2]; exact ok_t_M_spellNumber_1
  | 2, hn =>
    have h2 : td_t_M_spellNumber 2 = b := by unfold td_t_M_spellNumber; rw [hn]; rfl
    rw [← h2]; exact ok_t_M_spellNumber_2
  | 3, hn =>
    have h2 : td_t_M_spellNumber 3 = b := by unfold td_t_M_spellNumber; rw [hn]; rfl
    rw [← h2]; exact ok_t_M_spellNumber_3
  | 4, hn =>
    have h2 : td_t_M_spellNumber 4 = b := by unfold td_t_M_spellNumber; rw [hn]; rfl
    rw [← h2]; exact ok_t_M_spellNumber_4
  | 5, hn =>
    have h2 : td_t_M_spellNumber 5 = b := by unfold td_t_M_spellNumber; rw [hn]; rfl
    rw [← h2]; exact ok_t_M_spellNumber_5
  | 6, hn =>
    have h2 : td_t_M_spellNumber 6 = b := by unfold td_t_M_spellNumber; rw [hn]; rfl
    rw [← h2]; exact ok_t_M_spellNumber_6
  | 7, hn =>
    have h2 : td_t_M_spellNumber 7 = b := by unfold td_t_M_spellNumber; rw [hn]; rfl
    rw [← h2]; exact ok_t_M_spellNumber_7
  | n + 8, hn =>
    rw [pe_at_eq] at hn
    exact absurd (List.getElem?_eq_some_iff.mp hn).1 (by show ¬ n + 8 < 8; omega)
theorem ok_t_M_spellNumber : pe_okM (pe_GA []) pe_cl pe_ckA t_M_spellNumber = true := pe_okM_mk (pe_w_of (by rfl) (by rfl)) (by decide +kernel) ok_t_M_spellNumber_a
set_option maxRecDepth 40000 in
theorem ok_t_M_spellClass : pe_okM (pe_GA []) pe_cl pe_ckA t_M_spellClass = true := by decide +kernel
set_option maxRecDepth 40000 in
theorem ok_t_M_hasRoomForText : pe_okM (pe_GA []) pe_cl pe_ckA t_M_hasRoomForText = true := by decide +kernel
def td_t_XP_readFirst (k : Nat) : Nat × List pe_I := (pe_at t_XP_readFirst.bl k).getD (0, [])
set_option maxRecDepth 40000 in
theorem ok_t_XP_readFirst_0 : pe_ckB (pe_GA []) pe_cl pe_ckA t_XP_readFirst (td_t_XP_readFirst 0).1 (td_t_XP_readFirst 0).2 = true := by decide +kernel
set_option maxRecDepth 40000 in
theorem ok_t_XP_readFirst_1 : pe_ckB (pe_GA []) pe_cl pe_ckA t_XP_readFirst (td_t_XP_readFirst 1).1 (td_t_XP_readFirst 1).2 = true := by decide +kernel
set_option maxRecDepth 40000 in
theorem ok_t_XP_readFirst_2 : pe_ckB (pe_GA []) pe_cl pe_ckA t_XP_readFirst (td_t_XP_readFirst 2).1 (td_t_XP_readFirst 2).2 = true := by decide +kernel
set_option maxRecDepth 40000 in
theorem ok_t_XP_readFirst_3 : pe_ckB (pe_GA []) pe_cl pe_ckA t_XP_readFirst (td_t_XP_readFirst 3).1 (td_t_XP_readFirst 3).2 = true := by decide +kernel
set_option maxRecDepth 40000 in
theorem ok_t_XP_readFirst_4 : pe_ckB (pe_GA []) pe_cl pe_ckA t_XP_readFirst (td_t_XP_readFirst 4).1 (td_t_XP_readFirst 4).2 = true := by decide +kernel
set_option maxRecDepth 40000 in
theorem ok_t_XP_readFirst_5 : pe_ckB (pe_GA []) pe_cl pe_ckA t_XP_readFirst (td_t_XP_readFirst 5).1 (td_t_XP_readFirst 5).2 = true := by decide +kernel
set_option maxRecDepth 40000 in
theorem ok_t_XP_readFirst_6 : pe_ckB (pe_GA []) pe_cl pe_ckA t_XP_readFirst (td_t_XP_readFirst 6).1 (td_t_XP_readFirst 6).2 = true := by decide +kernel
set_option maxRecDepth 40000 in
theorem ok_t_XP_readFirst_7 : pe_ckB (pe_GA []) pe_cl pe_ckA t_XP_readFirst (td_t_XP_readFirst 7).1 (td_t_XP_readFirst 7).2 = true := by decide +kernel
set_option maxRecDepth 40000 in
theorem ok_t_XP_readFirst_8 : pe_ckB (pe_GA []) pe_cl pe_ckA t_XP_readFirst (td_t_XP_readFirst 8).1 (td_t_XP_readFirst 8).2 = true := by decide +kernel
theorem ok_t_XP_readFirst_a : ∀ b ∈ t_XP_readFirst.bl, pe_ckB (pe_GA []) pe_cl pe_ckA t_XP_readFirst b.1 b.2 = true := by
  intro b hb
  obtain ⟨n, hn⟩ := List.getElem?_of_mem hb
  rw [← pe_at_eq] at hn
  match n, hn with
  | 0, hn =>
    have h2 : td_t_XP_readFirst 0 = b := by unfold td_t_XP_readFirst; rw [hn]; rfl
    rw [← h2]; exact ok_t_XP_readFirst_0
  | 1, hn =>
    have h2 : td_t_XP_readFirst 1 = b := by unfold td_t_XP_readFirst; rw [hn]; rfl
    rw [← h2]; exact ok_t_XP_readFirst_1
  | 2, hn =>
    have h2 : td_t_XP_readFirst 2 = b := by unfold td_t_XP_readFirst; rw [hn]; rfl
    rw [← h2]; exact ok_t_XP_readFirst_2
  | 3, hn =>
    have h2 : td_t_XP_readFirst 3 = b := by unfold td_t_XP_readFirst; rw [hn]; rfl
    rw [← h2]; exact ok_t_XP_readFirst_3
  | 4, hn =>
    have h2 : td_t_XP_readFirst 4 = b := by unfold td_t_XP_readFirst; rw [hn]; rfl
    rw [← h2]; exact ok_t_XP_readFirst_4
  | 5, hn =>
    have h2 : td_t_XP_readFirst 5 = b := by unfold td_t_XP_readFirst; rw [hn]; rfl
    rw [← h2]; exact ok_t_XP_readFirst_5
  | 6, hn =>
    have h2 : td_t_XP_readFirst 6 = b := by unfold td_t_XP_readFirst; rw [hn]; rfl
    rw [← h2]; exact ok_t_XP_readFirst_6
  | 7, hn =>
    have h2 : td_t_XP_readFirst 7 = b := by unfold td_t_XP_readFirst; rw [hn]; rfl
    rw [← h2]; exact ok_t_XP_readFirst_7
  | 8, hn =>
    have h2 : td_t_XP_readFirst 8 = b := by unfold td_t_XP_readFirst; rw [hn]; rfl
    rw [← h2]; exact ok_t_XP_readFirst_8
  | n + 9, hn =>
    rw [pe_at_eq] at hn
    exact absurd (List.getElem?_eq_some_iff.mp hn).1 (by show ¬ n + 9 < 9; omega)
theorem ok_t_XP_readFirst : pe_okM (pe_GA []) pe_cl pe_ckA t_XP_readFirst = true := pe_okM_mk (pe_w_of (by rfl) (by rfl)) (by decide +kernel) ok_t_XP_readFirst_a
set_option maxRecDepth 40000 in
theorem ok_t_XP_readDot : pe_okM (pe_GA []) pe_cl pe_ckA t_XP_readDot = true := by decide +kernel
set_option maxRecDepth 40000 in
theorem ok_t_XP_noteSite : pe_okM (pe_GA []) pe_cl pe_ckA t_XP_noteSite = true := by decide +kernel
def td_t_XP_readEs (k : Nat) : Nat × List pe_I := (pe_at t_XP_readEs.bl k).getD (0, [])
set_option maxRecDepth 40000 in
theorem ok_t_XP_readEs_0 : pe_ckB (pe_GA []) pe_cl pe_ckA t_XP_readEs (td_t_XP_readEs 0).1 (td_t_XP_readEs 0).2 = true := by decide +kernel
set_option maxRecDepth 40000 in
theorem ok_t_XP_readEs_1 : pe_ckB (pe_GA []) pe_cl pe_ckA t_XP_readEs (td_t_XP_readEs 1).1 (td_t_XP_readEs 1).2 = true := by decide +kernel
set_option maxRecDepth 40000 in
theorem ok_t_XP_readEs_2 : pe_ckB (pe_GA []) pe_cl pe_ckA t_XP_readEs (td_t_XP_readEs 2).1 (td_t_XP_readEs 2).2 = true := by decide +kernel
set_option maxRecDepth 40000 in
theorem ok_t_XP_readEs_3 : pe_ckB (pe_GA []) pe_cl pe_ckA t_XP_readEs (td_t_XP_readEs 3).1 (td_t_XP_readEs 3).2 = true := by decide +kernel
set_option maxRecDepth 40000 in
theorem ok_t_XP_readEs_4 : pe_ckB (pe_GA []) pe_cl pe_ckA t_XP_readEs (td_t_XP_readEs 4).1 (td_t_XP_readEs 4).2 = true := by decide +kernel
set_option maxRecDepth 40000 in
theorem ok_t_XP_readEs_5 : pe_ckB (pe_GA []) pe_cl pe_ckA t_XP_readEs (td_t_XP_readEs 5).1 (td_t_XP_readEs 5).2 = true := by decide +kernel
set_option maxRecDepth 40000 in
theorem ok_t_XP_readEs_6 : pe_ckB (pe_GA []) pe_cl pe_ckA t_XP_readEs (td_t_XP_readEs 6).1 (td_t_XP_readEs 6).2 = true := by decide +kernel
set_option maxRecDepth 40000 in
theorem ok_t_XP_readEs_7 : pe_ckB (pe_GA []) pe_cl pe_ckA t_XP_readEs (td_t_XP_readEs 7).1 (td_t_XP_readEs 7).2 = true := by decide +kernel
set_option maxRecDepth 40000 in
theorem ok_t_XP_readEs_8 : pe_ckB (pe_GA []) pe_cl pe_ckA t_XP_readEs (td_t_XP_readEs 8).1 (td_t_XP_readEs 8).2 = true := by decide +kernel
set_option maxRecDepth 40000 in
theorem ok_t_XP_readEs_9 : pe_ckB (pe_GA []) pe_cl pe_ckA t_XP_readEs (td_t_XP_readEs 9).1 (td_t_XP_readEs 9).2 = true := by decide +kernel
theorem ok_t_XP_readEs_a : ∀ b ∈ t_XP_readEs.bl, pe_ckB (pe_GA []) pe_cl pe_ckA t_XP_readEs b.1 b.2 = true := by
  intro b hb
  obtain ⟨n, hn⟩ := List.getElem?_of_mem hb
  rw [← pe_at_eq] at hn
  match n, hn with
  | 0, hn =>
    have h2 : td_t_XP_readEs 0 = b := by unfold td_t_XP_readEs; rw [hn]; rfl
    rw [← h2]; exact ok_t_XP_readEs_0
  | 1, hn =>
    have h2 : td_t_XP_readEs 1 = b := by unfold td_t_XP_readEs; rw [hn]; rfl
    rw [← h2]; exact ok_t_XP_readEs_1
  | 2, hn =>
    have h2 : td_t_XP_readEs 2 = b := by unfold td_t_XP_readEs; rw [hn]; rfl
    rw [← h2]; exact ok_t_XP_readEs_2
  | 3, hn =>
    have h2 : td_t_XP_readEs 3 = b := by unfold td_t_XP_readEs; rw [hn]; rfl
    rw [← h2]; exact ok_t_XP_readEs_3
  | 4, hn =>
    have h2 : td_t_XP_readEs 4 = b := by unfold td_t_XP_readEs; rw [hn]; rfl
    rw [← h2]; exact ok_t_XP_readEs_4
  | 5, hn =>
    have h2 : td_t_XP_readEs 5 = b := by unfold td_t_XP_readEs; rw [hn]; rfl
    rw [← h2]; exact ok_t_XP_readEs_5
  | 6, hn =>
    have h2 : td_t_XP_readEs 6 = b := by unfold td_t_XP_readEs; rw [hn]; rfl
    rw [← h2]; exact ok_t_XP_readEs_6
  | 7, hn =>
    have h2 : td_t_XP_readEs 7 = b := by unfold td_t_XP_readEs; rw [hn]; rfl
    rw [← h2]; exact ok_t_XP_readEs_7
  | 8, hn =>
    have h2 : td_t_XP_readEs 8 = b := by unfold td_t_XP_readEs; rw [hn]; rfl
    rw [← h2]; exact ok_t_XP_readEs_8
  | 9, hn =>
    have h2 : td_t_XP_readEs 9 = b := by unfold td_t_XP_readEs; rw [hn]; rfl
    rw [← h2]; exact ok_t_XP_readEs_9
  | n + 10, hn =>
    rw [pe_at_eq] at hn
    exact absurd (List.getElem?_eq_some_iff.mp hn).1 (by show ¬ n + 10 < 10; omega)
theorem ok_t_XP_readEs : pe_okM (pe_GA []) pe_cl pe_ckA t_XP_readEs = true := pe_okM_mk (pe_w_of (by rfl) (by rfl)) (by decide +kernel) ok_t_XP_readEs_a
