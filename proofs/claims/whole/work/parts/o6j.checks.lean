/-! PART o6j: tables checked once. -/
def td_t_XL_actOnThing (k : Nat) : Nat × List pe_I := (pe_at t_XL_actOnThing.bl k).getD (0, [])
set_option maxRecDepth 40000 in
theorem ok_t_XL_actOnThing_0 : pe_ckB (pe_GA []) pe_cl pe_ckA t_XL_actOnThing (td_t_XL_actOnThing 0).1 (td_t_XL_actOnThing 0).2 = true := by decide +kernel
set_option maxRecDepth 40000 in
theorem ok_t_XL_actOnThing_1 : pe_ckB (pe_GA []) pe_cl pe_ckA t_XL_actOnThing (td_t_XL_actOnThing 1).1 (td_t_XL_actOnThing 1).2 = true := by decide +kernel
set_option maxRecDepth 40000 in
theorem ok_t_XL_actOnThing_2 : pe_ckB (pe_GA []) pe_cl pe_ckA t_XL_actOnThing (td_t_XL_actOnThing 2).1 (td_t_XL_actOnThing 2).2 = true := by decide +kernel
set_option maxRecDepth 40000 in
theorem ok_t_XL_actOnThing_3 : pe_ckB (pe_GA []) pe_cl pe_ckA t_XL_actOnThing (td_t_XL_actOnThing 3).1 (td_t_XL_actOnThing 3).2 = true := by decide +kernel
set_option maxRecDepth 40000 in
theorem ok_t_XL_actOnThing_4 : pe_ckB (pe_GA []) pe_cl pe_ckA t_XL_actOnThing (td_t_XL_actOnThing 4).1 (td_t_XL_actOnThing 4).2 = true := by decide +kernel
set_option maxRecDepth 40000 in
theorem ok_t_XL_actOnThing_5 : pe_ckB (pe_GA []) pe_cl pe_ckA t_XL_actOnThing (td_t_XL_actOnThing 5).1 (td_t_XL_actOnThing 5).2 = true := by decide +kernel
set_option maxRecDepth 40000 in
theorem ok_t_XL_actOnThing_6 : pe_ckB (pe_GA []) pe_cl pe_ckA t_XL_actOnThing (td_t_XL_actOnThing 6).1 (td_t_XL_actOnThing 6).2 = true := by decide +kernel
set_option maxRecDepth 40000 in
theorem ok_t_XL_actOnThing_7 : pe_ckB (pe_GA []) pe_cl pe_ckA t_XL_actOnThing (td_t_XL_actOnThing 7).1 (td_t_XL_actOnThing 7).2 = true := by decide +kernel
set_option maxRecDepth 40000 in
theorem ok_t_XL_actOnThing_8 : pe_ckB (pe_GA []) pe_cl pe_ckA t_XL_actOnThing (td_t_XL_actOnThing 8).1 (td_t_XL_actOnThing 8).2 = true := by decide +kernel
set_option maxRecDepth 40000 in
theorem ok_t_XL_actOnThing_9 : pe_ckB (pe_GA []) pe_cl pe_ckA t_XL_actOnThing (td_t_XL_actOnThing 9).1 (td_t_XL_actOnThing 9).2 = true := by decide +kernel
set_option maxRecDepth 40000 in
theorem ok_t_XL_actOnThing_10 : pe_ckB (pe_GA []) pe_cl pe_ckA t_XL_actOnThing (td_t_XL_actOnThing 10).1 (td_t_XL_actOnThing 10).2 = true := by decide +kernel
set_option maxRecDepth 40000 in
theorem ok_t_XL_actOnThing_11 : pe_ckB (pe_GA []) pe_cl pe_ckA t_XL_actOnThing (td_t_XL_actOnThing 11).1 (td_t_XL_actOnThing 11).2 = true := by decide +kernel
set_option maxRecDepth 40000 in
theorem ok_t_XL_actOnThing_12 : pe_ckB (pe_GA []) pe_cl pe_ckA t_XL_actOnThing (td_t_XL_actOnThing 12).1 (td_t_XL_actOnThing 12).2 = true := by decide +kernel
set_option maxRecDepth 40000 in
theorem ok_t_XL_actOnThing_13 : pe_ckB (pe_GA []) pe_cl pe_ckA t_XL_actOnThing (td_t_XL_actOnThing 13).1 (td_t_XL_actOnThing 13).2 = true := by decide +kernel
set_option maxRecDepth 40000 in
theorem ok_t_XL_actOnThing_14 : pe_ckB (pe_GA []) pe_cl pe_ckA t_XL_actOnThing (td_t_XL_actOnThing 14).1 (td_t_XL_actOnThing 14).2 = true := by decide +kernel
theorem ok_t_XL_actOnThing_a : ∀ b ∈ t_XL_actOnThing.bl, pe_ckB (pe_GA []) pe_cl pe_ckA t_XL_actOnThing b.1 b.2 = true := by
  intro b hb
  obtain ⟨n, hn⟩ := List.getElem?_of_mem hb
  rw [← pe_at_eq] at hn
  match n, hn with
  | 0, hn =>
    have h2 : td_t_XL_actOnThing 0 = b := by unfold td_t_XL_actOnThing; rw [hn]; rfl
    rw [← h2]; exact ok_t_XL_actOnThing_0
  | 1, hn =>
    have h2 : td_t_XL_actOnThing 1 = b := by unfold td_t_XL_actOnThing; rw [hn]; rfl
    rw [← h2]; exact ok_t_XL_actOnThing_1
  | 2, hn =>
    have h2 : td_t_XL_actOnThing 2 = b := by unfold td_t_XL_actOnThing; rw [hn]; rfl
    rw [← h2]; exact ok_t_XL_actOnThing_2
  | 3, hn =>
    have h2 : td_t_XL_actOnThing 3 = b := by unfold td_t_XL_actOnThing; rw [hn]; rfl
    rw [← h2]; exact ok_t_XL_actOnThing_3
  | 4, hn =>
    have h2 : td_t_XL_actOnThing 4 = b := by unfold td_t_XL_actOnThing; rw [hn]; rfl
    rw [← h2]; exact ok_t_XL_actOnThing_4
  | 5, hn =>
    have h2 : td_t_XL_actOnThing 5 = b := by unfold td_t_XL_actOnThing; rw [hn]; rfl
    rw [← h2]; exact ok_t_XL_actOnThing_5
  | 6, hn =>
    have h2 : td_t_XL_actOnThing 6 = b := by unfold td_t_XL_actOnThing; rw [hn]; rfl
    rw [← h2]; exact ok_t_XL_actOnThing_6
  | 7, hn =>
    have h2 : td_t_XL_actOnThing 7 = b := by unfold td_t_XL_actOnThing; rw [hn]; rfl
    rw [← h2]; exact ok_t_XL_actOnThing_7
  | 8, hn =>
    have h2 : td_t_XL_actOnThing 8 = b := by unfold td_t_XL_actOnThing; rw [hn]; rfl
    rw [← h2]; exact ok_t_XL_actOnThing_8
  | 9, hn =>
    have h2 : td_t_XL_actOnThing 9 = b := by unfold td_t_XL_actOnThing; rw [hn]; rfl
    rw [← h2]; exact ok_t_XL_actOnThing_9
  | 10, hn =>
    have h2 : td_t_XL_actOnThing 10 = b := by unfold td_t_XL_actOnThing; rw [hn]; rfl
    rw [← h2]; exact ok_t_XL_actOnThing_10
  | 11, hn =>
    have h2 : td_t_XL_actOnThing 11 = b := by unfold td_t_XL_actOnThing; rw [hn]; rfl
    rw [← h2]; exact ok_t_XL_actOnThing_11
  | 12, hn =>
    have h2 : td_t_XL_actOnThing 12 = b := by unfold td_t_XL_actOnThing; rw [hn]; rfl
    rw [← h2]; exact ok_t_XL_actOnThing_12
  | 13, hn =>
    have h2 : td_t_XL_actOnThing 13 = b := by unfold td_t_XL_actOnThing; rw [hn]; rfl
    rw [← h2]; exact ok_t_XL_actOnThing_13
  | 14, hn =>
    have h2 : td_t_XL_actOnThing 14 = b := by unfold td_t_XL_actOnThing; rw [hn]; rfl
    rw [← h2]; exact ok_t_XL_actOnThing_14
  | n + 15, hn =>
    rw [pe_at_eq] at hn
    exact absurd (List.getElem?_eq_some_iff.mp hn).1 (by show ¬ n + 15 < 15; omega)
theorem ok_t_XL_actOnThing : pe_okM (pe_GA []) pe_cl pe_ckA t_XL_actOnThing = true := pe_okM_mk (pe_w_of (by rfl) (by rfl)) (by decide +kernel) ok_t_XL_actOnThing_a
def td_t_XL_actOnText (k : Nat) : Nat × List pe_I := (pe_at t_XL_actOnText.bl k).getD (0, [])
set_option maxRecDepth 40000 in
theorem ok_t_XL_actOnText_0 : pe_ckB (pe_GA []) pe_cl pe_ckA t_XL_actOnText (td_t_XL_actOnText 0).1 (td_t_XL_actOnText 0).2 = true := by decide +kernel
set_option maxRecDepth 40000 in
theorem ok_t_XL_actOnText_1 : pe_ckB (pe_GA []) pe_cl pe_ckA t_XL_actOnText (td_t_XL_actOnText 1).1 (td_t_XL_actOnText 1).2 = true := by decide +kernel
set_option maxRecDepth 40000 in
theorem ok_t_XL_actOnText_2 : pe_ckB (pe_GA []) pe_cl pe_ckA t_XL_actOnText (td_t_XL_actOnText 2).1 (td_t_XL_actOnText 2).2 = true := by decide +kernel
set_option maxRecDepth 40000 in
theorem ok_t_XL_actOnText_3 : pe_ckB (pe_GA []) pe_cl pe_ckA t_XL_actOnText (td_t_XL_actOnText 3).1 (td_t_XL_actOnText 3).2 = true := by decide +kernel
set_option maxRecDepth 40000 in
theorem ok_t_XL_actOnText_4 : pe_ckB (pe_GA []) pe_cl pe_ckA t_XL_actOnText (td_t_XL_actOnText 4).1 (td_t_XL_actOnText 4).2 = true := by decide +kernel
set_option maxRecDepth 40000 in
theorem ok_t_XL_actOnText_5 : pe_ckB (pe_GA []) pe_cl pe_ckA t_XL_actOnText (td_t_XL_actOnText 5).1 (td_t_XL_actOnText 5).2 = true := by decide +kernel
set_option maxRecDepth 40000 in
theorem ok_t_XL_actOnText_6 : pe_ckB (pe_GA []) pe_cl pe_ckA t_XL_actOnText (td_t_XL_actOnText 6).1 (td_t_XL_actOnText 6).2 = true := by decide +kernel
theorem ok_t_XL_actOnText_a : ∀ b ∈ t_XL_actOnText.bl, pe_ckB (pe_GA []) pe_cl pe_ckA t_XL_actOnText b.1 b.2 = true := by
  intro b hb
  obtain ⟨n, hn⟩ := List.getElem?_of_mem hb
  rw [← pe_at_eq] at hn
  match n, hn with
  | 0, hn =>
    have h2 : td_t_XL_actOnText 0 = b := by unfold td_t_XL_actOnText; rw [hn]; rfl
    rw [← h2]; exact ok_t_XL_actOnText_0
  | 1, hn =>
    have h2 : td_t_XL_actOnText 1 = b := by unfold td_t_XL_actOnText; rw [hn]; rfl
    rw [← h2]; exact ok_t_XL_actOnText_1
  | 2, hn =>
    have h2 : td_t_XL_actOnText 2 = b := by unfold td_t_XL_actOnText; rw [hn]; rfl
    rw [← h2]; exact ok_t_XL_actOnText_2
  | 3, hn =>
    have h2 : td_t_XL_actOnText 3 = b := by unfold td_t_XL_actOnText; rw [hn]; rfl
    rw [← h2]; exact ok_t_XL_actOnText_3
  | 4, hn =>
    have h2 : td_t_XL_actOnText 4 = b := by unfold td_t_XL_actOnText; rw [hn]; rfl
    rw [← h2]; exact ok_t_XL_actOnText_4
  | 5, hn =>
    have h2 : td_t_XL_actOnText 5 = b := by unfold td_t_XL_actOnText; rw [hn]; rfl
    rw [← h2]; exact ok_t_XL_actOnText_5
  | 6, hn =>
    have h2 : td_t_XL_actOnText 6 = b := by unfold td_t_XL_actOnText; rw [hn]; rfl
    rw [← h2]; exact ok_t_XL_actOnText_6
  | n + 7, hn =>
    rw [pe_at_eq] at hn
    exact absurd (List.getElem?_eq_some_iff.mp hn).1 (by show ¬ n + 7 < 7; omega)
theorem ok_t_XL_actOnText : pe_okM (pe_GA []) pe_cl pe_ckA t_XL_actOnText = true := pe_okM_mk (pe_w_of (by rfl) (by rfl)) (by decide +kernel) ok_t_XL_actOnText_a
def td_t_XL_actOnElement (k : Nat) : Nat × List pe_I := (pe_at t_XL_actOnElement.bl k).getD (0, [])
set_option maxRecDepth 40000 in
theorem ok_t_XL_actOnElement_0 : pe_ckB (pe_GA []) pe_cl pe_ckA t_XL_actOnElement (td_t_XL_actOnElement 0).1 (td_t_XL_actOnElement 0).2 = true := by decide +kernel
set_option maxRecDepth 40000 in
theorem ok_t_XL_actOnElement_1 : pe_ckB (pe_GA []) pe_cl pe_ckA t_XL_actOnElement (td_t_XL_actOnElement 1).1 (td_t_XL_actOnElement 1).2 = true := by decide +kernel
set_option maxRecDepth 40000 in
theorem ok_t_XL_actOnElement_2 : pe_ckB (pe_GA []) pe_cl pe_ckA t_XL_actOnElement (td_t_XL_actOnElement 2).1 (td_t_XL_actOnElement 2).2 = true := by decide +kernel
set_option maxRecDepth 40000 in
theorem ok_t_XL_actOnElement_3 : pe_ckB (pe_GA []) pe_cl pe_ckA t_XL_actOnElement (td_t_XL_actOnElement 3).1 (td_t_XL_actOnElement 3).2 = true := by decide +kernel
set_option maxRecDepth 40000 in
theorem ok_t_XL_actOnElement_4 : pe_ckB (pe_GA []) pe_cl pe_ckA t_XL_actOnElement (td_t_XL_actOnElement 4).1 (td_t_XL_actOnElement 4).2 = true := by decide +kernel
set_option maxRecDepth 40000 in
theorem ok_t_XL_actOnElement_5 : pe_ckB (pe_GA []) pe_cl pe_ckA t_XL_actOnElement (td_t_XL_actOnElement 5).1 (td_t_XL_actOnElement 5).2 = true := by decide +kernel
set_option maxRecDepth 40000 in
theorem ok_t_XL_actOnElement_6 : pe_ckB (pe_GA []) pe_cl pe_ckA t_XL_actOnElement (td_t_XL_actOnElement 6).1 (td_t_XL_actOnElement 6).2 = true := by decide +kernel
set_option maxRecDepth 40000 in
theorem ok_t_XL_actOnElement_7 : pe_ckB (pe_GA []) pe_cl pe_ckA t_XL_actOnElement (td_t_XL_actOnElement 7).1 (td_t_XL_actOnElement 7).2 = true := by decide +kernel
theorem ok_t_XL_actOnElement_a : ∀ b ∈ t_XL_actOnElement.bl, pe_ckB (pe_GA []) pe_cl pe_ckA t_XL_actOnElement b.1 b.2 = true := by
  intro b hb
  obtain ⟨n, hn⟩ := List.getElem?_of_mem hb
  rw [← pe_at_eq] at hn
  match n, hn with
  | 0, hn =>
    have h2 : td_t_XL_actOnElement 0 = b := by unfold td_t_XL_actOnElement; rw [hn]; rfl
    rw [← h2]; exact ok_t_XL_actOnElement_0
  | 1, hn =>
    have h2 : td_t_XL_actOnElement 1 = b := by unfold td_t_XL_actOnElement; rw [hn]; rfl
    rw [← h2]; exact ok_t_XL_actOnElement_1
  | 2, hn =>
    have h2 : td_t_XL_actOnElement 2 = b := by unfold td_t_XL_actOnElement; rw [hn]; rfl
    rw [← h2]; exact ok_t_XL_actOnElement_2
  | 3, hn =>
    have h2 : td_t_XL_actOnElement 3 = b := by unfold td_t_XL_actOnElement; rw [hn]; rfl
    rw [← h2]; exact ok_t_XL_actOnElement_3
  | 4, hn =>
    have h2 : td_t_XL_actOnElement 4 = b := by unfold td_t_XL_actOnElement; rw [hn]; rfl
    rw [← h2]; exact ok_t_XL_actOnElement_4
  | 5, hn =>
    have h2 : td_t_XL_actOnElement 5 = b := by unfold td_t_XL_actOnElement; rw [hn]; rfl
    rw [← h2]; exact ok_t_XL_actOnElement_5
  | 6, hn =>
    have h2 : td_t_XL_actOnElement 6 = b := by unfold td_t_XL_actOnElement; rw [hn]; rfl
    rw [← h2]; exact ok_t_XL_actOnElement_6
  | 7, hn =>
    have h2 : td_t_XL_actOnElement 7 = b := by unfold td_t_XL_actOnElement; rw [hn]; rfl
    rw [← h2]; exact ok_t_XL_actOnElement_7
  | n + 8, hn =>
    rw [pe_at_eq] at hn
    exact absurd (List.getElem?_eq_some_iff.mp hn).1 (by show ¬ n + 8 < 8; omega)
theorem ok_t_XL_actOnElement : pe_okM (pe_GA []) pe_cl pe_ckA t_XL_actOnElement = true := pe_okM_mk (pe_w_of (by rfl) (by rfl)) (by decide +kernel) ok_t_XL_actOnElement_a
def td_t_XL_actOnList (k : Nat) : Nat × List pe_I := (pe_at t_XL_actOnList.bl k).getD (0, [])
set_option maxRecDepth 40000 in
theorem ok_t_XL_actOnList_0 : pe_ckB (pe_GA []) pe_cl pe_ckA t_XL_actOnList (td_t_XL_actOnList 0).1 (td_t_XL_actOnList 0).2 = true := by decide +kernel
set_option maxRecDepth 40000 in
theorem ok_t_XL_actOnList_1 : pe_ckB (pe_GA []) pe_cl pe_ckA t_XL_actOnList (td_t_XL_actOnList 1).1 (td_t_XL_actOnList 1).2 = true := by decide +kernel
set_option maxRecDepth 40000 in
theorem ok_t_XL_actOnList_2 : pe_ckB (pe_GA []) pe_cl pe_ckA t_XL_actOnList (td_t_XL_actOnList 2).1 (td_t_XL_actOnList 2).2 = true := by decide +kernel
set_option maxRecDepth 40000 in
theorem ok_t_XL_actOnList_3 : pe_ckB (pe_GA []) pe_cl pe_ckA t_XL_actOnList (td_t_XL_actOnList 3).1 (td_t_XL_actOnList 3).2 = true := by decide +kernel
set_option maxRecDepth 40000 in
theorem ok_t_XL_actOnList_4 : pe_ckB (pe_GA []) pe_cl pe_ckA t_XL_actOnList (td_t_XL_actOnList 4).1 (td_t_XL_actOnList 4).2 = true := by decide +kernel
theorem ok_t_XL_actOnList_a : ∀ b ∈ t_XL_actOnList.bl, pe_ckB (pe_GA []) pe_cl pe_ckA t_XL_actOnList b.1 b.2 = true := by
  intro b hb
  obtain ⟨n, hn⟩ := List.getElem?_of_mem hb
  rw [← pe_at_eq] at hn
  match n, hn with
  | 0, hn =>
    have h2 : td_t_XL_actOnList 0 = b := by unfold td_t_XL_actOnList; rw [hn]; rfl
    rw [← h2]; exact ok_t_XL_actOnList_0
  | 1, hn =>
    have h2 : td_t_XL_actOnList 1 = b := by unfold td_t_XL_actOnList; rw [hn]; rfl
    rw [← h2]; exact ok_t_XL_actOnList_1
  | 2, hn =>
    have h2 : td_t_XL_actOnList 2 = b := by unfold td_t_XL_actOnList; rw [hn]; rfl
    rw [← h2]; exact ok_t_XL_actOnList_2
  | 3, hn =>
    have h2 : td_t_XL_actOnList 3 = b := by unfold td_t_XL_actOnList; rw [hn]; rfl
    rw [← h2]; exact ok_t_XL_actOnList_3
  | 4, hn =>
    have h2 : td_t_XL_actOnList 4 = b := by unfold td_t_XL_actOnList; rw [hn]; rfl
    rw [← h2]; exact ok_t_XL_actOnList_4
  | n + 5, hn =>
    rw [pe_at_eq] at hn
    exact absurd (List.getElem?_eq_some_iff.mp hn).1 (by show ¬ n + 5 < 5; omega)
theorem ok_t_XL_actOnList : pe_okM (pe_GA []) pe_cl pe_ckA t_XL_actOnList = true := pe_okM_mk (pe_w_of (by rfl) (by rfl)) (by decide +kernel) ok_t_XL_actOnList_a
def td_t_XL_actOnField (k : Nat) : Nat × List pe_I := (pe_at t_XL_actOnField.bl k).getD (0, [])
set_option maxRecDepth 40000 in
theorem ok_t_XL_actOnField_0 : pe_ckB (pe_GA []) pe_cl pe_ckA t_XL_actOnField (td_t_XL_actOnField 0).1 (td_t_XL_actOnField 0).2 = true := by decide +kernel
set_option maxRecDepth 40000 in
theorem ok_t_XL_actOnField_1 : pe_ckB (pe_GA []) pe_cl pe_ckA t_XL_actOnField (td_t_XL_actOnField 1).1 (td_t_XL_actOnField 1).2 = true := by decide +kernel
set_option maxRecDepth 40000 in
theorem ok_t_XL_actOnField_2 : pe_ckB (pe_GA []) pe_cl pe_ckA t_XL_actOnField (td_t_XL_actOnField 2).1 (td_t_XL_actOnField 2).2 = true := by decide +kernel
set_option maxRecDepth 40000 in
theorem ok_t_XL_actOnField_3 : pe_ckB (pe_GA []) pe_cl pe_ckA t_XL_actOnField (td_t_XL_actOnField 3).1 (td_t_XL_actOnField 3).2 = true := by decide +kernel
theorem ok_t_XL_actOnField_a : ∀ b ∈ t_XL_actOnField.bl, pe_ckB (pe_GA []) pe_cl pe_ckA t_XL_actOnField b.1 b.2 = true := by
  intro b hb
  obtain ⟨n, hn⟩ := List.getElem?_of_mem hb
  rw [← pe_at_eq] at hn
  match n, hn with
  | 0, hn =>
    have h2 : td_t_XL_actOnField 0 = b := by unfold td_t_XL_actOnField; rw [hn]; rfl
    rw [← h2]; exact ok_t_XL_actOnField_0
  | 1, hn =>
    have h2 : td_t_XL_actOnField 1 = b := by unfold td_t_XL_actOnField; rw [hn]; rfl
    rw [← h2]; exact ok_t_XL_actOnField_1
  | 2, hn =>
    have h2 : td_t_XL_actOnField 2 = b := by unfold td_t_XL_actOnField; rw [hn]; rfl
    rw [← h2]; exact ok_t_XL_actOnField_2
  | 3, hn =>
    have h2 : td_t_XL_actOnField 3 = b := by unfold td_t_XL_actOnField; rw [hn]; rfl
    rw [← h2]; exact ok_t_XL_actOnField_3
  | n + 4, hn =>
    rw [pe_at_eq] at hn
    exact absurd (List.getElem?_eq_some_iff.mp hn).1 (by show ¬ n + 4 < 4; omega)
theorem ok_t_XL_actOnField : pe_okM (pe_GA []) pe_cl pe_ckA t_XL_actOnField = true := pe_okM_mk (pe_w_of (by rfl) (by rfl)) (by decide +kernel) ok_t_XL_actOnField_a
def td_t_XL_callMember (k : Nat) : Nat × List pe_I := (pe_at t_XL_callMember.bl k).getD (0, [])
set_option maxRecDepth 40000 in
theorem ok_t_XL_callMember_0 : pe_ckB (pe_GA []) pe_cl pe_ckA t_XL_callMember (td_t_XL_callMember 0).1 (td_t_XL_callMember 0).2 = true := by decide +kernel
set_option maxRecDepth 40000 in
theorem ok_t_XL_callMember_1 : pe_ckB (pe_GA []) pe_cl pe_ckA t_XL_callMember (td_t_XL_callMember 1).1 (td_t_XL_callMember 1).2 = true := by decide +kernel
set_option maxRecDepth 40000 in
theorem ok_t_XL_callMember_2 : pe_ckB (pe_GA []) pe_cl pe_ckA t_XL_callMember (td_t_XL_callMember 2).1 (td_t_XL_callMember 2).2 = true := by decide +kernel
set_option maxRecDepth 40000 in
theorem ok_t_XL_callMember_3 : pe_ckB (pe_GA []) pe_cl pe_ckA t_XL_callMember (td_t_XL_callMember 3).1 (td_t_XL_callMember 3).2 = true := by decide +kernel
set_option maxRecDepth 40000 in
theorem ok_t_XL_callMember_4 : pe_ckB (pe_GA []) pe_cl pe_ckA t_XL_callMember (td_t_XL_callMember 4).1 (td_t_XL_callMember 4).2 = true := by decide +kernel
set_option maxRecDepth 40000 in
theorem ok_t_XL_callMember_5 : pe_ckB (pe_GA []) pe_cl pe_ckA t_XL_callMember (td_t_XL_callMember 5).1 (td_t_XL_callMember 5).2 = true := by decide +kernel
set_option maxRecDepth 40000 in
theorem ok_t_XL_callMember_6 : pe_ckB (pe_GA []) pe_cl pe_ckA t_XL_callMember (td_t_XL_callMember 6).1 (td_t_XL_callMember 6).2 = true := by decide +kernel
set_option maxRecDepth 40000 in
theorem ok_t_XL_callMember_7 : pe_ckB (pe_GA []) pe_cl pe_ckA t_XL_callMember (td_t_XL_callMember 7).1 (td_t_XL_callMember 7).2 = true := by decide +kernel
set_option maxRecDepth 40000 in
theorem ok_t_XL_callMember_8 : pe_ckB (pe_GA []) pe_cl pe_ckA t_XL_callMember (td_t_XL_callMember 8).1 (td_t_XL_callMember 8).2 = true := by decide +kernel
set_option maxRecDepth 40000 in
theorem ok_t_XL_callMember_9 : pe_ckB (pe_GA []) pe_cl pe_ckA t_XL_callMember (td_t_XL_callMember 9).1 (td_t_XL_callMember 9).2 = true := by decide +kernel
set_option maxRecDepth 40000 in
theorem ok_t_XL_callMember_10 : pe_ckB (pe_GA []) pe_cl pe_ckA t_XL_callMember (td_t_XL_callMember 10).1 (td_t_XL_callMember 10).2 = true := by decide +kernel
set_option maxRecDepth 40000 in
theorem ok_t_XL_callMember_11 : pe_ckB (pe_GA []) pe_cl pe_ckA t_XL_callMember (td_t_XL_callMember 11).1 (td_t_XL_callMember 11).2 = true := by decide +kernel
set_option maxRecDepth 40000 in
theorem ok_t_XL_callMember_12 : pe_ckB (pe_GA []) pe_cl pe_ckA t_XL_callMember (td_t_XL_callMember 12).1 (td_t_XL_callMember 12).2 = true := by decide +kernel
set_option maxRecDepth 40000 in
theorem ok_t_XL_callMember_13 : pe_ckB (pe_GA []) pe_cl pe_ckA t_XL_callMember (td_t_XL_callMember 13).1 (td_t_XL_callMember 13).2 = true := by decide +kernel
theorem ok_t_XL_callMember_a : ∀ b ∈ t_XL_callMember.bl, pe_ckB (pe_GA []) pe_cl pe_ckA t_XL_callMember b.1 b.2 = true := by
  intro b hb
  obtain ⟨n, hn⟩ := List.getElem?_of_mem hb
  rw [← pe_at_eq] at hn
  match n, hn with
  | 0, hn =>
    have h2 : td_t_XL_callMember 0 = b := by unfold td_t_XL_callMember; rw [hn]; rfl
    rw [← h2]; exact ok_t_XL_callMember_0
  | 1, hn =>
    have h2 : td_t_XL_callMember 1 = b := by unfold td_t_XL_callMember; rw [hn]; rfl
    rw [← h2]; exact ok_t_XL_callMember_1
  | 2, hn =>
    have h2 : td_t_XL_callMember 2 = b := by unfold td_t_XL_callMember; rw [hn]; rfl
    rw [← h2]; exact ok_t_XL_callMember_2
  | 3, hn =>
    have h2 : td_t_XL_callMember 3 = b := by unfold td_t_XL_callMember; rw [hn]; rfl
    rw [← h2]; exact ok_t_XL_callMember_3
  | 4, hn =>
    have h2 : td_t_XL_callMember 4 = b := by unfold td_t_XL_callMember; rw [hn]; rfl
    rw [← h2]; exact ok_t_XL_callMember_4
  | 5, hn =>
    have h2 : td_t_XL_callMember 5 = b := by unfold td_t_XL_callMember; rw [hn]; rfl
    rw [← h2]; exact ok_t_XL_callMember_5
  | 6, hn =>
    have h2 : td_t_XL_callMember 6 = b := by unfold td_t_XL_callMember; rw [hn]; rfl
    rw [← h2]; exact ok_t_XL_callMember_6
  | 7, hn =>
    have h2 : td_t_XL_callMember 7 = b := by unfold td_t_XL_callMember; rw [hn]; rfl
    rw [← h2]; exact ok_t_XL_callMember_7
  | 8, hn =>
    have h2 : td_t_XL_callMember 8 = b := by unfold td_t_XL_callMember; rw [hn]; rfl
    rw [← h2]; exact ok_t_XL_callMember_8
  | 9, hn =>
    have h2 : td_t_XL_callMember 9 = b := by unfold td_t_XL_callMember; rw [hn]; rfl
    rw [← h2]; exact ok_t_XL_callMember_9
  | 10, hn =>
    have h2 : td_t_XL_callMember 10 = b := by unfold td_t_XL_callMember; rw [hn]; rfl
    rw [← h2]; exact ok_t_XL_callMember_10
  | 11, hn =>
    have h2 : td_t_XL_callMember 11 = b := by unfold td_t_XL_callMember; rw [hn]; rfl
    rw [← h2]; exact ok_t_XL_callMember_11
  | 12, hn =>
    have h2 : td_t_XL_callMember 12 = b := by unfold td_t_XL_callMember; rw [hn]; rfl
    rw [← h2]; exact ok_t_XL_callMember_12
  | 13, hn =>
    have h2 : td_t_XL_callMember 13 = b := by unfold td_t_XL_callMember; rw [hn]; rfl
    rw [← h2]; exact ok_t_XL_callMember_13
  | n + 14, hn =>
    rw [pe_at_eq] at hn
    exact absurd (List.getElem?_eq_some_iff.mp hn).1 (by show ¬ n + 14 < 14; omega)
theorem ok_t_XL_callMember : pe_okM (pe_GA []) pe_cl pe_ckA t_XL_callMember = true := pe_okM_mk (pe_w_of (by rfl) (by rfl)) (by decide +kernel) ok_t_XL_callMember_a
set_option maxRecDepth 40000 in
theorem ok_t_XK_isNot : pe_okM (pe_GA []) pe_cl pe_ckA t_XK_isNot = true := by decide +kernel
set_option maxRecDepth 40000 in
theorem ok_t_XK_give : pe_okM (pe_GA []) pe_cl pe_ckA t_XK_give = true := by decide +kernel
def td_t_XK_areEqual (k : Nat) : Nat × List pe_I := (pe_at t_XK_areEqual.bl k).getD (0, [])
set_option maxRecDepth 40000 in
theorem ok_t_XK_areEqual_0 : pe_ckB (pe_GA []) pe_cl pe_ckA t_XK_areEqual (td_t_XK_areEqual 0).1 (td_t_XK_areEqual 0).2 = true := by decide +kernel
set_option maxRecDepth 40000 in
theorem ok_t_XK_areEqual_1 : pe_ckB (pe_GA []) pe_cl pe_ckA t_XK_areEqual (td_t_XK_areEqual 1).1 (td_t_XK_areEqual 1).2 = true := by decide +kernel
set_option maxRecDepth 40000 in
theorem ok_t_XK_areEqual_2 : pe_ckB (pe_GA []) pe_cl pe_ckA t_XK_areEqual (td_t_XK_areEqual 2).1 (td_t_XK_areEqual 2).2 = true := by decide +kernel
set_option maxRecDepth 40000 in
theorem ok_t_XK_areEqual_3 : pe_ckB (pe_GA []) pe_cl pe_ckA t_XK_areEqual (td_t_XK_areEqual 3).1 (td_t_XK_areEqual 3).2 = true := by decide +kernel
set_option maxRecDepth 40000 in
theorem ok_t_XK_areEqual_4 : pe_ckB (pe_GA []) pe_cl pe_ckA t_XK_areEqual (td_t_XK_areEqual 4).1 (td_t_XK_areEqual 4).2 = true := by decide +kernel
set_option maxRecDepth 40000 in
theorem ok_t_XK_areEqual_5 : pe_ckB (pe_GA []) pe_cl pe_ckA t_XK_areEqual (td_t_XK_areEqual 5).1 (td_t_XK_areEqual 5).2 = true := by decide +kernel
set_option maxRecDepth 40000 in
theorem ok_t_XK_areEqual_6 : pe_ckB (pe_GA []) pe_cl pe_ckA t_XK_areEqual (td_t_XK_areEqual 6).1 (td_t_XK_areEqual 6).2 = true := by decide +kernel
theorem ok_t_XK_areEqual_a : ∀ b ∈ t_XK_areEqual.bl, pe_ckB (pe_GA []) pe_cl pe_ckA t_XK_areEqual b.1 b.2 = true := by
  intro b hb
  obtain ⟨n, hn⟩ := List.getElem?_of_mem hb
  rw [← pe_at_eq] at hn
  match n, hn with
  | 0, hn =>
    have h2 : td_t_XK_areEqual 0 = b := by unfold td_t_XK_areEqual; rw [hn]; rfl
    rw [← h2]; exact ok_t_XK_areEqual_0
  | 1, hn =>
    have h2 : td_t_XK_areEqual 1 = b := by unfold td_t_XK_areEqual; rw [hn]; rfl
    rw [← h2]; exact ok_t_XK_areEqual_1
  | 2, hn =>
    have h2 : td_t_XK_areEqual 2 = b := by unfold td_t_XK_areEqual; rw [hn]; rfl
    rw [← h2]; exact ok_t_XK_areEqual_2
  | 3, hn =>
    have h2 : td_t_XK_areEqual 3 = b := by unfold td_t_XK_areEqual; rw [hn]; rfl
    rw [← h2]; exact ok_t_XK_areEqual_3
  | 4, hn =>
    have h2 : td_t_XK_areEqual 4 = b := by unfold td_t_XK_areEqual; rw [hn]; rfl
    rw [← h2]; exact ok_t_XK_areEqual_4
  | 5, hn =>
    have h2 : td_t_XK_areEqual 5 = b := by unfold td_t_XK_areEqual; rw [hn]; rfl
    rw [← h2]; exact ok_t_XK_areEqual_5
  | 6, hn =>
    have h2 : td_t_XK_areEqual 6 = b := by unfold td_t_XK_areEqual; rw [hn]; rfl
    rw [← h2]; exact ok_t_XK_areEqual_6
  | n + 7, hn =>
    rw [pe_at_eq] at hn
    exact absurd (List.getElem?_eq_some_iff.mp hn).1 (by show ¬ n + 7 < 7; omega)
theorem ok_t_XK_areEqual : pe_okM (pe_GA []) pe_cl pe_ckA t_XK_areEqual = true := pe_okM_mk (pe_w_of (by rfl) (by rfl)) (by decide +kernel) ok_t_XK_areEqual_a
def td_t_XK_operateOnNumbers (k : Nat) : Nat × List pe_I := (pe_at t_XK_operateOnNumbers.bl k).getD (0, [])
set_option maxRecDepth 40000 in
theorem ok_t_XK_operateOnNumbers_0 : pe_ckB (pe_GA []) pe_cl pe_ckA t_XK_operateOnNumbers (td_t_XK_operateOnNumbers 0).1 (td_t_XK_operateOnNumbers 0).2 = true := by decide +kernel
set_option maxRecDepth 40000 in
theorem ok_t_XK_operateOnNumbers_1 : pe_ckB (pe_GA []) pe_cl pe_ckA t_XK_operateOnNumbers (td_t_XK_operateOnNumbers 1).1 (td_t_XK_operateOnNumbers 1).2 = true := by decide +kernel
set_option maxRecDepth 40000 in
theorem ok_t_XK_operateOnNumbers_2 : pe_ckB (pe_GA []) pe_cl pe_ckA t_XK_operateOnNumbers (td_t_XK_operateOnNumbers 2).1 (td_t_XK_operateOnNumbers 2).2 = true := by decide +kernel
set_option maxRecDepth 40000 in
theorem ok_t_XK_operateOnNumbers_3 : pe_ckB (pe_GA []) pe_cl pe_ckA t_XK_operateOnNumbers (td_t_XK_operateOnNumbers 3).1 (td_t_XK_operateOnNumbers 3).2 = true := by decide +kernel
set_option maxRecDepth 40000 in
theorem ok_t_XK_operateOnNumbers_4 : pe_ckB (pe_GA []) pe_cl pe_ckA t_XK_operateOnNumbers (td_t_XK_operateOnNumbers 4).1 (td_t_XK_operateOnNumbers 4).2 = true := by decide +kernel
set_option maxRecDepth 40000 in
theorem ok_t_XK_operateOnNumbers_5 : pe_ckB (pe_GA []) pe_cl pe_ckA t_XK_operateOnNumbers (td_t_XK_operateOnNumbers 5).1 (td_t_XK_operateOnNumbers 5).2 = true := by decide +kernel
set_option maxRecDepth 40000 in
theorem ok_t_XK_operateOnNumbers_6 : pe_ckB (pe_GA []) pe_cl pe_ckA t_XK_operateOnNumbers (td_t_XK_operateOnNumbers 6).1 (td_t_XK_operateOnNumbers 6).2 = true := by decide +kernel
set_option maxRecDepth 40000 in
theorem ok_t_XK_operateOnNumbers_7 : pe_ckB (pe_GA []) pe_cl pe_ckA t_XK_operateOnNumbers (td_t_XK_operateOnNumbers 7).1 (td_t_XK_operateOnNumbers 7).2 = true := by decide +kernel
set_option maxRecDepth 40000 in
theorem ok_t_XK_operateOnNumbers_8 : pe_ckB (pe_GA []) pe_cl pe_ckA t_XK_operateOnNumbers (td_t_XK_operateOnNumbers 8).1 (td_t_XK_operateOnNumbers 8).2 = true := by decide +kernel
set_option maxRecDepth 40000 in
theorem ok_t_XK_operateOnNumbers_9 : pe_ckB (pe_GA []) pe_cl pe_ckA t_XK_operateOnNumbers (td_t_XK_operateOnNumbers 9).1 (td_t_XK_operateOnNumbers 9).2 = true := by decide +kernel
set_option maxRecDepth 40000 in
theorem ok_t_XK_operateOnNumbers_10 : pe_ckB (pe_GA []) pe_cl pe_ckA t_XK_operateOnNumbers (td_t_XK_operateOnNumbers 10).1 (td_t_XK_operateOnNumbers 10).2 = true := by decide +kernel
set_option maxRecDepth 40000 in
theorem ok_t_XK_operateOnNumbers_11 : pe_ckB (pe_GA []) pe_cl pe_ckA t_XK_operateOnNumbers (td_t_XK_operateOnNumbers 11).1 (td_t_XK_operateOnNumbers 11).2 = true := by decide +kernel
theorem ok_t_XK_operateOnNumbers_a : ∀ b ∈ t_XK_operateOnNumbers.bl, pe_ckB (pe_GA []) pe_cl pe_ckA t_XK_operateOnNumbers b.1 b.2 = true := by
  intro b hb
  obtain ⟨n, hn⟩ := List.getElem?_of_mem hb
  rw [← pe_at_eq] at hn
  match n, hn with
  | 0, hn =>
    have h2 : td_t_XK_operateOnNumbers 0 = b := by unfold td_t_XK_operateOnNumbers; rw [hn]; rfl
    rw [← h2]; exact ok_t_XK_operateOnNumbers_0
  | 1, hn =>
    have h2 : td_t_XK_operateOnNumbers 1 = b := by unfold td_t_XK_operateOnNumbers; rw [hn]; rfl
    rw [← h2]; exact ok_t_XK_operateOnNumbers_1
  | 2, hn =>
    have h2 : td_t_XK_operateOnNumbers 2 = b := by unfold td_t_XK_operateOnNumbers; rw [hn]; rfl
    rw [← h2]; exact ok_t_XK_operateOnNumbers_2
  | 3, hn =>
    have h2 : td_t_XK_operateOnNumbers 3 = b := by unfold td_t_XK_operateOnNumbers; rw [hn]; rfl
    rw [← h2]; exact ok_t_XK_operateOnNumbers_3
  | 4, hn =>
    have h2 : td_t_XK_operateOnNumbers 4 = b := by unfold td_t_XK_operateOnNumbers; rw [hn]; rfl
    rw [← h2]; exact ok_t_XK_operateOnNumbers_4
  | 5, hn =>
    have h2 : td_t_XK_operateOnNumbers 5 = b := by unfold td_t_XK_operateOnNumbers; rw [hn]; rfl
    rw [← h2]; exact ok_t_XK_operateOnNumbers_5
  | 6, hn =>
    have h2 : td_t_XK_operateOnNumbers 6 = b := by unfold td_t_XK_operateOnNumbers; rw [hn]; rfl
    rw [← h2]; exact ok_t_XK_operateOnNumbers_6
  | 7, hn =>
    have h2 : td_t_XK_operateOnNumbers 7 = b := by unfold td_t_XK_operateOnNumbers; rw [hn]; rfl
    rw [← h2]; exact ok_t_XK_operateOnNumbers_7
  | 8, hn =>
    have h2 : td_t_XK_operateOnNumbers 8 = b := by unfold td_t_XK_operateOnNumbers; rw [hn]; rfl
    rw [← h2]; exact ok_t_XK_operateOnNumbers_8
  | 9, hn =>
    have h2 : td_t_XK_operateOnNumbers 9 = b := by unfold td_t_XK_operateOnNumbers; rw [hn]; rfl
    rw [← h2]; exact ok_t_XK_operateOnNumbers_9
  | 10, hn =>
    have h2 : td_t_XK_operateOnNumbers 10 = b := by unfold td_t_XK_operateOnNumbers; rw [hn]; rfl
    rw [← h2]; exact ok_t_XK_operateOnNumbers_10
  | 11, hn =>
    have h2 : td_t_XK_operateOnNumbers 11 = b := by unfold td_t_XK_operateOnNumbers; rw [hn]; rfl
    rw [← h2]; exact ok_t_XK_operateOnNumbers_11
  | n + 12, hn =>
    rw [pe_at_eq] at hn
    exact absurd (List.getElem?_eq_some_iff.mp hn).1 (by show ¬ n + 12 < 12; omega)
theorem ok_t_XK_operateOnNumbers : pe_okM (pe_GA []) pe_cl pe_ckA t_XK_operateOnNumbers = true := pe_okM_mk (pe_w_of (by rfl) (by rfl)) (by decide +kernel) ok_t_XK_operateOnNumbers_a
def td_t_XK_join (k : Nat) : Nat × List pe_I := (pe_at t_XK_join.bl k).getD (0, [])
set_option maxRecDepth 40000 in
theorem ok_t_XK_join_0 : pe_ckB (pe_GA []) pe_cl pe_ckA t_XK_join (td_t_XK_join 0).1 (td_t_XK_join 0).2 = true := by decide +kernel
set_option maxRecDepth 40000 in
theorem ok_t_XK_join_1 : pe_ckB (pe_GA []) pe_cl pe_ckA t_XK_join (td_t_XK_join 1).1 (td_t_XK_join 1).2 = true := by decide +kernel
set_option maxRecDepth 40000 in
theorem ok_t_XK_join_2 : pe_ckB (pe_GA []) pe_cl pe_ckA t_XK_join (td_t_XK_join 2).1 (td_t_XK_join 2).2 = true := by decide +kernel
set_option maxRecDepth 40000 in
theorem ok_t_XK_join_3 : pe_ckB (pe_GA []) pe_cl pe_ckA t_XK_join (td_t_XK_join 3).1 (td_t_XK_join 3).2 = true := by decide +kernel
theorem ok_t_XK_join_a : ∀ b ∈ t_XK_join.bl, pe_ckB (pe_GA []) pe_cl pe_ckA t_XK_join b.1 b.2 = true := by
  intro b hb
  obtain ⟨n, hn⟩ := List.getElem?_of_mem hb
  rw [← pe_at_eq] at hn
  match n, hn with
  | 0, hn =>
    have h2 : td_t_XK_join 0 = b := by unfold td_t_XK_join; rw [hn]; rfl
    rw [← h2]; exact ok_t_XK_join_0
  | 1, hn =>
    have h2 : td_t_XK_join 1 = b := by unfold td_t_XK_join; rw [hn]; rfl
    rw [← h2]; exact ok_t_XK_join_1
  | 2, hn =>
    have h2 : td_t_XK_join 2 = b := by unfold td_t_XK_join; rw [hn]; rfl
    rw [← h2]; exact ok_t_XK_join_2
  | 3, hn =>
    have h2 : td_t_XK_join 3 = b := by unfold td_t_XK_join; rw [hn]; rfl
    rw [← h2]; exact ok_t_XK_join_3
  | n + 4, hn =>
    rw [pe_at_eq] at hn
    exact absurd (List.getElem?_eq_some_iff.mp hn).1 (by show ¬ n + 4 < 4; omega)
theorem ok_t_XK_join : pe_okM (pe_GA []) pe_cl pe_ckA t_XK_join = true := pe_okM_mk (pe_w_of (by rfl) (by rfl)) (by decide +kernel) ok_t_XK_join_a
def td_t_XW_compare (k : Nat) : Nat × List pe_I := (pe_at t_XW_compare.bl k).getD (0, [])
set_option maxRecDepth 40000 in
theorem ok_t_XW_compare_0 : pe_ckB (pe_GA []) pe_cl pe_ckA t_XW_compare (td_t_XW_compare 0).1 (td_t_XW_compare 0).2 = true := by decide +kernel
set_option maxRecDepth 40000 in
theorem ok_t_XW_compare_1 : pe_ckB (pe_GA []) pe_cl pe_ckA t_XW_compare (td_t_XW_compare 1).1 (td_t_XW_compare 1).2 = true := by decide +kernel
set_option maxRecDepth 40000 in
theorem ok_t_XW_compare_2 : pe_ckB (pe_GA []) pe_cl pe_ckA t_XW_compare (td_t_XW_compare 2).1 (td_t_XW_compare 2).2 = true := by decide +kernel
set_option maxRecDepth 40000 in
theorem ok_t_XW_compare_3 : pe_ckB (pe_GA []) pe_cl pe_ckA t_XW_compare (td_t_XW_compare 3).1 (td_t_XW_compare 3).2 = true := by decide +kernel
set_option maxRecDepth 40000 in
theorem ok_t_XW_compare_4 : pe_ckB (pe_GA []) pe_cl pe_ckA t_XW_compare (td_t_XW_compare 4).1 (td_t_XW_compare 4).2 = true := by decide +kernel
theorem ok_t_XW_compare_a : ∀ b ∈ t_XW_compare.bl, pe_ckB (pe_GA []) pe_cl pe_ckA t_XW_compare b.1 b.2 = true := by
  intro b hb
  obtain ⟨n, hn⟩ := List.getElem?_of_mem hb
  rw [← pe_at_eq] at hn
  match n, hn with
  | 0, hn =>
    have h2 : td_t_XW_compare 0 = b := by unfold td_t_XW_compare; rw [hn]; rfl
    rw [← h2]; exact ok_t_XW_compare_0
  | 1, hn =>
    have h2 : td_t_XW_compare 1 = b := by unfold td_t_XW_compare; rw [hn]; rfl
    rw [← h2]; exact ok_t_XW_compare_1
  | 2, hn =>
    have h2 : td_t_XW_compare 2 = b := by unfold td_t_XW_compare; rw [hn]; rfl
    rw [← h2]; exact ok_t_XW_compare_2
  | 3, hn =>
    have h2 : td_t_XW_compare 3 = b := by unfold td_t_XW_compare; rw [hn]; rfl
    rw [← h2]; exact ok_t_XW_compare_3
  | 4, hn =>
    have h2 : td_t_XW_compare 4 = b := by unfold td_t_XW_compare; rw [hn]; rfl
    rw [← h2]; exact ok_t_XW_compare_4
  | n + 5, hn =>
    rw [pe_at_eq] at hn
    exact absurd (List.getElem?_eq_some_iff.mp hn).1 (by show ¬ n + 5 < 5; omega)
theorem ok_t_XW_compare : pe_okM (pe_GA []) pe_cl pe_ckA t_XW_compare = true := pe_okM_mk (pe_w_of (by rfl) (by rfl)) (by decide +kernel) ok_t_XW_compare_a
set_option maxRecDepth 40000 in
theorem ok_t_XK_isOrdered : pe_okM (pe_GA []) pe_cl pe_ckA t_XK_isOrdered = true := by decide +kernel
set_option maxRecDepth 40000 in
theorem ok_t_XK_print : pe_okM (pe_GA []) pe_cl pe_ckA t_XK_print = true := by decide +kernel
set_option maxRecDepth 40000 in
theorem ok_t_XK_isPrototype : pe_okM (pe_GA []) pe_cl pe_ckA t_XK_isPrototype = true := by decide +kernel
set_option maxRecDepth 40000 in
theorem ok_t_XK_makeObject : pe_okM (pe_GA []) pe_cl pe_ckA t_XK_makeObject = true := by decide +kernel
set_option maxRecDepth 40000 in
theorem ok_t_XK_isHolder : pe_okM (pe_GA []) pe_cl pe_ckA t_XK_isHolder = true := by decide +kernel
def td_t_XK_turn (k : Nat) : Nat × List pe_I := (pe_at t_XK_turn.bl k).getD (0, [])
set_option maxRecDepth 40000 in
theorem ok_t_XK_turn_0 : pe_ckB (pe_GA []) pe_cl pe_ckA t_XK_turn (td_t_XK_turn 0).1 (td_t_XK_turn 0).2 = true := by decide +kernel
set_option maxRecDepth 40000 in
theorem ok_t_XK_turn_1 : pe_ckB (pe_GA []) pe_cl pe_ckA t_XK_turn (td_t_XK_turn 1).1 (td_t_XK_turn 1).2 = true := by decide +kernel
set_option maxRecDepth 40000 in
theorem ok_t_XK_turn_2 : pe_ckB (pe_GA []) pe_cl pe_ckA t_XK_turn (td_t_XK_turn 2).1 (td_t_XK_turn 2).2 = true := by decide +kernel
set_option maxRecDepth 40000 in
theorem ok_t_XK_turn_3 : pe_ckB (pe_GA []) pe_cl pe_ckA t_XK_turn (td_t_XK_turn 3).1 (td_t_XK_turn 3).2 = true := by decide +kernel
set_option maxRecDepth 40000 in
theorem ok_t_XK_turn_4 : pe_ckB (pe_GA []) pe_cl pe_ckA t_XK_turn (td_t_XK_turn 4).1 (td_t_XK_turn 4).2 = true := by decide +kernel
set_option maxRecDepth 40000 in
theorem ok_t_XK_turn_5 : pe_ckB (pe_GA []) pe_cl pe_ckA t_XK_turn (td_t_XK_turn 5).1 (td_t_XK_turn 5).2 = true := by decide +kernel
set_option maxRecDepth 40000 in
theorem ok_t_XK_turn_6 : pe_ckB (pe_GA []) pe_cl pe_ckA t_XK_turn (td_t_XK_turn 6).1 (td_t_XK_turn 6).2 = true := by decide +kernel
set_option maxRecDepth 40000 in
theorem ok_t_XK_turn_7 : pe_ckB (pe_GA []) pe_cl pe_ckA t_XK_turn (td_t_XK_turn 7).1 (td_t_XK_turn 7).2 = true := by decide +kernel
set_option maxRecDepth 40000 in
theorem ok_t_XK_turn_8 : pe_ckB (pe_GA []) pe_cl pe_ckA t_XK_turn (td_t_XK_turn 8).1 (td_t_XK_turn 8).2 = true := by decide +kernel
theorem ok_t_XK_turn_a : ∀ b ∈ t_XK_turn.bl, pe_ckB (pe_GA []) pe_cl pe_ckA t_XK_turn b.1 b.2 = true := by
  intro b hb
  obtain ⟨n, hn⟩ := List.getElem?_of_mem hb
  rw [← pe_at_eq] at hn
  match n, hn with
  | 0, hn =>
    have h2 : td_t_XK_turn 0 = b := by unfold td_t_XK_turn; rw [hn]; rfl
    rw [← h2]; exact ok_t_XK_turn_0
  | 1, hn =>
    have h2 : td_t_XK_turn 1 = b := by unfold td_t_XK_turn; rw [hn]; rfl
    rw [← h2]; exact ok_t_XK_turn_1
  | 2, hn =>
    have h2 : td_t_XK_turn 2 = b := by unfold td_t_XK_turn; rw [hn]; rfl
    rw [← h2]; exact ok_t_XK_turn_2
  | 3, hn =>
    have h2 : td_t_XK_turn 3 = b := by unfold td_t_XK_turn; rw [hn]; rfl
    rw [← h2]; exact ok_t_XK_turn_3
  | 4, hn =>
    have h2 : td_t_XK_turn 4 = b := by unfold td_t_XK_turn; rw [hn]; rfl
    rw [← h2]; exact ok_t_XK_turn_4
  | 5, hn =>
    have h2 : td_t_XK_turn 5 = b := by unfold td_t_XK_turn; rw [hn]; rfl
    rw [← h2]; exact ok_t_XK_turn_5
  | 6, hn =>
    have h2 : td_t_XK_turn 6 = b := by unfold td_t_XK_turn; rw [hn]; rfl
    rw [← h2]; exact ok_t_XK_turn_6
  | 7, hn =>
    have h2 : td_t_XK_turn 7 = b := by unfold td_t_XK_turn; rw [hn]; rfl
    rw [← h2]; exact ok_t_XK_turn_7
  | 8, hn =>
    have h2 : td_t_XK_turn 8 = b := by unfold td_t_XK_turn; rw [hn]; rfl
    rw [← h2]; exact ok_t_XK_turn_8
  | n + 9, hn =>
    rw [pe_at_eq] at hn
    exact absurd (List.getElem?_eq_some_iff.mp hn).1 (by show ¬ n + 9 < 9; omega)
theorem ok_t_XK_turn : pe_okM (pe_GA []) pe_cl pe_ckA t_XK_turn = true := pe_okM_mk (pe_w_of (by rfl) (by rfl)) (by decide +kernel) ok_t_XK_turn_a
def td_t_XK_askFor (k : Nat) : Nat × List pe_I := (pe_at t_XK_askFor.bl k).getD (0, [])
set_option maxRecDepth 40000 in
theorem ok_t_XK_askFor_0 : pe_ckB (pe_GA []) pe_cl pe_ckA t_XK_askFor (td_t_XK_askFor 0).1 (td_t_XK_askFor 0).2 = true := by decide +kernel
set_option maxRecDepth 40000 in
theorem ok_t_XK_askFor_1 : pe_ckB (pe_GA []) pe_cl pe_ckA t_XK_askFor (td_t_XK_askFor 1).1 (td_t_XK_askFor 1).2 = true := by decide +kernel
set_option maxRecDepth 40000 in
theorem ok_t_XK_askFor_2 : pe_ckB (pe_GA []) pe_cl pe_ckA t_XK_askFor (td_t_XK_askFor 2).1 (td_t_XK_askFor 2).2 = true := by decide +kernel
set_option maxRecDepth 40000 in
theorem ok_t_XK_askFor_3 : pe_ckB (pe_GA []) pe_cl pe_ckA t_XK_askFor (td_t_XK_askFor 3).1 (td_t_XK_askFor 3).2 = true := by decide +kernel
set_option maxRecDepth 40000 in
theorem ok_t_XK_askFor_4 : pe_ckB (pe_GA []) pe_cl pe_ckA t_XK_askFor (td_t_XK_askFor 4).1 (td_t_XK_askFor 4).2 = true := by decide +kernel
set_option maxRecDepth 40000 in
theorem ok_t_XK_askFor_5 : pe_ckB (pe_GA []) pe_cl pe_ckA t_XK_askFor (td_t_XK_askFor 5).1 (td_t_XK_askFor 5).2 = true := by decide +kernel
set_option maxRecDepth 40000 in
theorem ok_t_XK_askFor_6 : pe_ckB (pe_GA []) pe_cl pe_ckA t_XK_askFor (td_t_XK_askFor 6).1 (td_t_XK_askFor 6).2 = true := by decide +kernel
set_option maxRecDepth 40000 in
theorem ok_t_XK_askFor_7 : pe_ckB (pe_GA []) pe_cl pe_ckA t_XK_askFor (td_t_XK_askFor 7).1 (td_t_XK_askFor 7).2 = true := by decide +kernel
set_option maxRecDepth 40000 in
theorem ok_t_XK_askFor_8 : pe_ckB (pe_GA []) pe_cl pe_ckA t_XK_askFor (td_t_XK_askFor 8).1 (td_t_XK_askFor 8).2 = true := by decide +kernel
set_option maxRecDepth 40000 in
theorem ok_t_XK_askFor_9 : pe_ckB (pe_GA []) pe_cl pe_ckA t_XK_askFor (td_t_XK_askFor 9).1 (td_t_XK_askFor 9).2 = true := by decide +kernel
set_option maxRecDepth 40000 in
theorem ok_t_XK_askFor_10 : pe_ckB (pe_GA []) pe_cl pe_ckA t_XK_askFor (td_t_XK_askFor 10).1 (td_t_XK_askFor 10).2 = true := by decide +kernel
set_option maxRecDepth 40000 in
theorem ok_t_XK_askFor_11 : pe_ckB (pe_GA []) pe_cl pe_ckA t_XK_askFor (td_t_XK_askFor 11).1 (td_t_XK_askFor 11).2 = true := by decide +kernel
theorem ok_t_XK_askFor_a : ∀ b ∈ t_XK_askFor.bl, pe_ckB (pe_GA []) pe_cl pe_ckA t_XK_askFor b.1 b.2 = true := by
  intro b hb
  obtain ⟨n, hn⟩ := List.getElem?_of_mem hb
  rw [← pe_at_eq] at hn
  match n, hn with
  | 0, hn =>
    have h2 : td_t_XK_askFor 0 = b := by unfold td_t_XK_askFor; rw [hn]; rfl
    rw [← h2]; exact ok_t_XK_askFor_0
  | 1, hn =>
    have h2 : td_t_XK_askFor 1 = b := by unfold td_t_XK_askFor; rw [hn]; rfl
    rw [← h2]; exact ok_t_XK_askFor_1
  | 2, hn =>
    have h2 : td_t_XK_askFor 2 = b := by unfold td_t_XK_askFor; rw [hn]; rfl
    rw [← h2]; exact ok_t_XK_askFor_2
  | 3, hn =>
    have h2 : td_t_XK_askFor 3 = b := by unfold td_t_XK_askFor; rw [hn]; rfl
    rw [← h2]; exact ok_t_XK_askFor_3
  | 4, hn =>
    have h2 : td_t_XK_askFor 4 = b := by unfold td_t_XK_askFor; rw [hn]; rfl
    rw [← h2]; exact ok_t_XK_askFor_4
  | 5, hn =>
    have h2 : td_t_XK_askFor 5 = b := by unfold td_t_XK_askFor; rw [hn]; rfl
    rw [← h2]; exact ok_t_XK_askFor_5
  | 6, hn =>
    have h2 : td_t_XK_askFor 6 = b := by unfold td_t_XK_askFor; rw [hn]; rfl
    rw [← h2]; exact ok_t_XK_askFor_6
  | 7, hn =>
    have h2 : td_t_XK_askFor 7 = b := by unfold td_t_XK_askFor; rw [hn]; rfl
    rw [← h2]; exact ok_t_XK_askFor_7
  | 8, hn =>
    have h2 : td_t_XK_askFor 8 = b := by unfold td_t_XK_askFor; rw [hn]; rfl
    rw [← h2]; exact ok_t_XK_askFor_8
  | 9, hn =>
    have h2 : td_t_XK_askFor 9 = b := by unfold td_t_XK_askFor; rw [hn]; rfl
    rw [← h2]; exact ok_t_XK_askFor_9
  | 10, hn =>
    have h2 : td_t_XK_askFor 10 = b := by unfold td_t_XK_askFor; rw [hn]; rfl
    rw [← h2]; exact ok_t_XK_askFor_10
  | 11, hn =>
    have h2 : td_t_XK_askFor 11 = b := by unfold td_t_XK_askFor; rw [hn]; rfl
    rw [← h2]; exact ok_t_XK_askFor_11
  | n + 12, hn =>
    rw [pe_at_eq] at hn
    exact absurd (List.getElem?_eq_some_iff.mp hn).1 (by show ¬ n + 12 < 12; omega)
theorem ok_t_XK_askFor : pe_okM (pe_GA []) pe_cl pe_ckA t_XK_askFor = true := pe_okM_mk (pe_w_of (by rfl) (by rfl)) (by decide +kernel) ok_t_XK_askFor_a
set_option maxRecDepth 40000 in
theorem ok_t_XK_tellKind : pe_okM (pe_GA []) pe_cl pe_ckA t_XK_tellKind = true := by decide +kernel
def td_t_XK_giveClass (k : Nat) : Nat × List pe_I := (pe_at t_XK_giveClass.bl k).getD (0, [])
set_option maxRecDepth 40000 in
theorem ok_t_XK_giveClass_0 : pe_ckB (pe_GA []) pe_cl pe_ckA t_XK_giveClass (td_t_XK_giveClass 0).1 (td_t_XK_giveClass 0).2 = true := by decide +kernel
set_option maxRecDepth 40000 in
theorem ok_t_XK_giveClass_1 : pe_ckB (pe_GA []) pe_cl pe_ckA t_XK_giveClass (td_t_XK_giveClass 1).1 (td_t_XK_giveClass 1).2 = true := by decide +kernel
set_option maxRecDepth 40000 in
theorem ok_t_XK_giveClass_2 : pe_ckB (pe_GA []) pe_cl pe_ckA t_XK_giveClass (td_t_XK_giveClass 2).1 (td_t_XK_giveClass 2).2 = true := by decide +kernel
set_option maxRecDepth 40000 in
theorem ok_t_XK_giveClass_3 : pe_ckB (pe_GA []) pe_cl pe_ckA t_XK_giveClass (td_t_XK_giveClass 3).1 (td_t_XK_giveClass 3).2 = true := by decide +kernel
set_option maxRecDepth 40000 in
theorem ok_t_XK_giveClass_4 : pe_ckB (pe_GA []) pe_cl pe_ckA t_XK_giveClass (td_t_XK_giveClass 4).1 (td_t_XK_giveClass 4).2 = true := by decide +kernel
set_option maxRecDepth 40000 in
theorem ok_t_XK_giveClass_5 : pe_ckB (pe_GA []) pe_cl pe_ckA t_XK_giveClass (td_t_XK_giveClass 5).1 (td_t_XK_giveClass 5).2 = true := by decide +kernel
theorem ok_t_XK_giveClass_a : ∀ b ∈ t_XK_giveClass.bl, pe_ckB (pe_GA []) pe_cl pe_ckA t_XK_giveClass b.1 b.2 = true := by
  intro b hb
  obtain ⟨n, hn⟩ := List.getElem?_of_mem hb
  rw [← pe_at_eq] at hn
  match n, hn with
  | 0, hn =>
    have h2 : td_t_XK_giveClass 0 = b := by unfold td_t_XK_giveClass; rw [hn]; rfl
    rw [← h2]; exact ok_t_XK_giveClass_0
  | 1, hn =>
    have h2 : td_t_XK_giveClass 1 = b := by unfold td_t_XK_giveClass; rw [hn]; rfl
    rw [← h2]; exact ok_t_XK_giveClass_1
  | 2, hn =>
    have h2 : td_t_XK_giveClass 2 = b := by unfold td_t_XK_giveClass; rw [hn]; rfl
    rw [← h2]; exact ok_t_XK_giveClass_2
  | 3, hn =>
    have h2 : td_t_XK_giveClass 3 = b := by unfold td_t_XK_giveClass; rw [hn]; rfl
    rw [← h2]; exact ok_t_XK_giveClass_3
  | 4, hn =>
    have h2 : td_t_XK_giveClass 4 = b := by unfold td_t_XK_giveClass; rw [hn]; rfl
    rw [← h2]; exact ok_t_XK_giveClass_4
  | 5, hn =>
    have h2 : td_t_XK_giveClass 5 = b := by unfold td_t_XK_giveClass; rw [hn]; rfl
    rw [← h2]; exact ok_t_XK_giveClass_5
  | n + 6, hn =>
    rw [pe_at_eq] at hn
    exact absurd (List.getElem?_eq_some_iff.mp hn).1 (by show ¬ n + 6 < 6; omega)
theorem ok_t_XK_giveClass : pe_okM (pe_GA []) pe_cl pe_ckA t_XK_giveClass = true := pe_okM_mk (pe_w_of (by rfl) (by rfl)) (by decide +kernel) ok_t_XK_giveClass_a
def td_t_XK_pushConstant (k : Nat) : Nat × List pe_I := (pe_at t_XK_pushConstant.bl k).getD (0, [])
set_option maxRecDepth 40000 in
theorem ok_t_XK_pushConstant_0 : pe_ckB (pe_GA []) pe_cl pe_ckA t_XK_pushConstant (td_t_XK_pushConstant 0).1 (td_t_XK_pushConstant 0).2 = true := by decide +kernel
set_option maxRecDepth 40000 in
theorem ok_t_XK_pushConstant_1 : pe_ckB (pe_GA []) pe_cl pe_ckA t_XK_pushConstant (td_t_XK_pushConstant 1).1 (td_t_XK_pushConstant 1).2 = true := by decide +kernel
set_option maxRecDepth 40000 in
theorem ok_t_XK_pushConstant_2 : pe_ckB (pe_GA []) pe_cl pe_ckA t_XK_pushConstant (td_t_XK_pushConstant 2).1 (td_t_XK_pushConstant 2).2 = true := by decide +kernel
set_option maxRecDepth 40000 in
theorem ok_t_XK_pushConstant_3 : pe_ckB (pe_GA []) pe_cl pe_ckA t_XK_pushConstant (td_t_XK_pushConstant 3).1 (td_t_XK_pushConstant 3).2 = true := by decide +kernel
set_option maxRecDepth 40000 in
theorem ok_t_XK_pushConstant_4 : pe_ckB (pe_GA []) pe_cl pe_ckA t_XK_pushConstant (td_t_XK_pushConstant 4).1 (td_t_XK_pushConstant 4).2 = true := by decide +kernel
set_option maxRecDepth 40000 in
theorem ok_t_XK_pushConstant_5 : pe_ckB (pe_GA []) pe_cl pe_ckA t_XK_pushConstant (td_t_XK_pushConstant 5).1 (td_t_XK_pushConstant 5).2 = true := by decide +kernel
set_option maxRecDepth 40000 in
theorem ok_t_XK_pushConstant_6 : pe_ckB (pe_GA []) pe_cl pe_ckA t_XK_pushConstant (td_t_XK_pushConstant 6).1 (td_t_XK_pushConstant 6).2 = true := by decide +kernel
set_option maxRecDepth 40000 in
theorem ok_t_XK_pushConstant_7 : pe_ckB (pe_GA []) pe_cl pe_ckA t_XK_pushConstant (td_t_XK_pushConstant 7).1 (td_t_XK_pushConstant 7).2 = true := by decide +kernel
theorem ok_t_XK_pushConstant_a : ∀ b ∈ t_XK_pushConstant.bl, pe_ckB (pe_GA []) pe_cl pe_ckA t_XK_pushConstant b.1 b.2 = true := by
  intro b hb
  obtain ⟨n, hn⟩ := List.getElem?_of_mem hb
  rw [← pe_at_eq] at hn
  match n, hn with
  | 0, hn =>
    have h2 : td_t_XK_pushConstant 0 = b := by unfold td_t_XK_pushConstant; rw [hn]; rfl
    rw [← h2]; exact ok_t_XK_pushConstant_0
  | 1, hn =>
    have h2 : td_t_XK_pushConstant 1 = b := by unfold td_t_XK_pushConstant; rw [hn]; rfl
    rw [← h2]; exact ok_t_XK_pushConstant_1
  | 2, hn =>
    have h2 : td_t_XK_pushConstant 2 = b := by unfold td_t_XK_pushConstant; rw [hn]; rfl
    rw [← h2]; exact ok_t_XK_pushConstant_2
  | 3, hn =>
    have h2 : td_t_XK_pushConstant 3 = b := by unfold td_t_XK_pushConstant; rw [hn]; rfl
    rw [← h2]; exact ok_t_XK_pushConstant_3
  | 4, hn =>
    have h2 : td_t_XK_pushConstant 4 = b := by unfold td_t_XK_pushConstant; rw [hn]; rfl
    rw [← h2]; exact ok_t_XK_pushConstant_4
  | 5, hn =>
    have h2 : td_t_XK_pushConstant 5 = b := by unfold td_t_XK_pushConstant; rw [hn]; rfl
    rw [← h2]; exact ok_t_XK_pushConstant_5
  | 6, hn =>
    have h2 : td_t_XK_pushConstant 6 = b := by unfold td_t_XK_pushConstant; rw [hn]; rfl
    rw [← h2]; exact ok_t_XK_pushConstant_6
  | 7, hn =>
    have h2 : td_t_XK_pushConstant 7 = b := by unfold td_t_XK_pushConstant; rw [hn]; rfl
    rw [← h2]; exact ok_t_XK_pushConstant_7
  | n + 8, hn =>
    rw [pe_at_eq] at hn
    exact absurd (List.getElem?_eq_some_iff.mp hn).1 (by show ¬ n + 8 < 8; omega)
theorem ok_t_XK_pushConstant : pe_okM (pe_GA []) pe_cl pe_ckA t_XK_pushConstant = true := pe_okM_mk (pe_w_of (by rfl) (by rfl)) (by decide +kernel) ok_t_XK_pushConstant_a
set_option maxRecDepth 40000 in
theorem ok_t_XK_variablesOut : pe_okM (pe_GA []) pe_cl pe_ckA t_XK_variablesOut = true := by decide +kernel
set_option maxRecDepth 40000 in
theorem ok_t_XV_put : pe_okM (pe_GA []) pe_cl pe_ckA t_XV_put = true := by decide +kernel
set_option maxRecDepth 40000 in
theorem ok_t_XK_loadGlobal : pe_okM (pe_GA []) pe_cl pe_ckA t_XK_loadGlobal = true := by decide +kernel
set_option maxRecDepth 40000 in
theorem ok_t_XK_storeGlobal : pe_okM (pe_GA []) pe_cl pe_ckA t_XK_storeGlobal = true := by decide +kernel
set_option maxRecDepth 40000 in
theorem ok_t_XK_makeFun : pe_okM (pe_GA []) pe_cl pe_ckA t_XK_makeFun = true := by decide +kernel
def td_t_XK_makeList (k : Nat) : Nat × List pe_I := (pe_at t_XK_makeList.bl k).getD (0, [])
set_option maxRecDepth 40000 in
theorem ok_t_XK_makeList_0 : pe_ckB (pe_GA []) pe_cl pe_ckA t_XK_makeList (td_t_XK_makeList 0).1 (td_t_XK_makeList 0).2 = true := by decide +kernel
set_option maxRecDepth 40000 in
theorem ok_t_XK_makeList_1 : pe_ckB (pe_GA []) pe_cl pe_ckA t_XK_makeList (td_t_XK_makeList 1).1 (td_t_XK_makeList 1).2 = true := by decide +kernel
set_option maxRecDepth 40000 in
theorem ok_t_XK_makeList_2 : pe_ckB (pe_GA []) pe_cl pe_ckA t_XK_makeList (td_t_XK_makeList 2).1 (td_t_XK_makeList 2).2 = true := by decide +kernel
set_option maxRecDepth 40000 in
theorem ok_t_XK_makeList_3 : pe_ckB (pe_GA []) pe_cl pe_ckA t_XK_makeList (td_t_XK_makeList 3).1 (td_t_XK_makeList 3).2 = true := by decide +kernel
set_option maxRecDepth 40000 in
theorem ok_t_XK_makeList_4 : pe_ckB (pe_GA []) pe_cl pe_ckA t_XK_makeList (td_t_XK_makeList 4).1 (td_t_XK_makeList 4).2 = true := by decide +kernel
theorem ok_t_XK_makeList_a : ∀ b ∈ t_XK_makeList.bl, pe_ckB (pe_GA []) pe_cl pe_ckA t_XK_makeList b.1 b.2 = true := by
  intro b hb
  obtain ⟨n, hn⟩ := List.getElem?_of_mem hb
  rw [← pe_at_eq] at hn
  match n, hn with
  | 0, hn =>
    have h2 : td_t_XK_makeList 0 = b := by unfold td_t_XK_makeList; rw [hn]; rfl
    rw [← h2]; exact ok_t_XK_makeList_0
  | 1, hn =>
    have h2 : td_t_XK_makeList 1 = b := by unfold td_t_XK_makeList; rw [hn]; rfl
    rw [← h2]; exact ok_t_XK_makeList_1
  | 2, hn =>
    have h2 : td_t_XK_makeList 2 = b := by unfold td_t_XK_makeList; rw [hn]; rfl
    rw [← h2]; exact ok_t_XK_makeList_2
  | 3, hn =>
    have h2 : td_t_XK_makeList 3 = b := by unfold td_t_XK_makeList; rw [hn]; rfl
    rw [← h2]; exact ok_t_XK_makeList_3
  | 4, hn =>
    have h2 : td_t_XK_makeList 4 = b := by unfold td_t_XK_makeList; rw [hn]; rfl
    rw [← h2]; exact ok_t_XK_makeList_4
  | n + 5, hn =>
    rw [pe_at_eq] at hn
    exact absurd (List.getElem?_eq_some_iff.mp hn).1 (by show ¬ n + 5 < 5; omega)
theorem ok_t_XK_makeList : pe_okM (pe_GA []) pe_cl pe_ckA t_XK_makeList = true := pe_okM_mk (pe_w_of (by rfl) (by rfl)) (by decide +kernel) ok_t_XK_makeList_a
def td_t_XK_goOn (k : Nat) : Nat × List pe_I := (pe_at t_XK_goOn.bl k).getD (0, [])
set_option maxRecDepth 40000 in
theorem ok_t_XK_goOn_0 : pe_ckB (pe_GA []) pe_cl pe_ckA t_XK_goOn (td_t_XK_goOn 0).1 (td_t_XK_goOn 0).2 = true := by decide +kernel
set_option maxRecDepth 40000 in
theorem ok_t_XK_goOn_1 : pe_ckB (pe_GA []) pe_cl pe_ckA t_XK_goOn (td_t_XK_goOn 1).1 (td_t_XK_goOn 1).2 = true := by decide +kernel
set_option maxRecDepth 40000 in
theorem ok_t_XK_goOn_2 : pe_ckB (pe_GA []) pe_cl pe_ckA t_XK_goOn (td_t_XK_goOn 2).1 (td_t_XK_goOn 2).2 = true := by decide +kernel
set_option maxRecDepth 40000 in
theorem ok_t_XK_goOn_3 : pe_ckB (pe_GA []) pe_cl pe_ckA t_XK_goOn (td_t_XK_goOn 3).1 (td_t_XK_goOn 3).2 = true := by decide +kernel
set_option maxRecDepth 40000 in
theorem ok_t_XK_goOn_4 : pe_ckB (pe_GA []) pe_cl pe_ckA t_XK_goOn (td_t_XK_goOn 4).1 (td_t_XK_goOn 4).2 = true := by decide +kernel
set_option maxRecDepth 40000 in
theorem ok_t_XK_goOn_5 : pe_ckB (pe_GA []) pe_cl pe_ckA t_XK_goOn (td_t_XK_goOn 5).1 (td_t_XK_goOn 5).2 = true := by decide +kernel
set_option maxRecDepth 40000 in
theorem ok_t_XK_goOn_6 : pe_ckB (pe_GA []) pe_cl pe_ckA t_XK_goOn (td_t_XK_goOn 6).1 (td_t_XK_goOn 6).2 = true := by decide +kernel
set_option maxRecDepth 40000 in
theorem ok_t_XK_goOn_7 : pe_ckB (pe_GA []) pe_cl pe_ckA t_XK_goOn (td_t_XK_goOn 7).1 (td_t_XK_goOn 7).2 = true := by decide +kernel
set_option maxRecDepth 40000 in
theorem ok_t_XK_goOn_8 : pe_ckB (pe_GA []) pe_cl pe_ckA t_XK_goOn (td_t_XK_goOn 8).1 (td_t_XK_goOn 8).2 = true := by decide +kernel
set_option maxRecDepth 40000 in
theorem ok_t_XK_goOn_9 : pe_ckB (pe_GA []) pe_cl pe_ckA t_XK_goOn (td_t_XK_goOn 9).1 (td_t_XK_goOn 9).2 = true := by decide +kernel
set_option maxRecDepth 40000 in
theorem ok_t_XK_goOn_10 : pe_ckB (pe_GA []) pe_cl pe_ckA t_XK_goOn (td_t_XK_goOn 10).1 (td_t_XK_goOn 10).2 = true := by decide +kernel
set_option maxRecDepth 40000 in
theorem ok_t_XK_goOn_11 : pe_ckB (pe_GA []) pe_cl pe_ckA t_XK_goOn (td_t_XK_goOn 11).1 (td_t_XK_goOn 11).2 = true := by decide +kernel
set_option maxRecDepth 40000 in
theorem ok_t_XK_goOn_12 : pe_ckB (pe_GA []) pe_cl pe_ckA t_XK_goOn (td_t_XK_goOn 12).1 (td_t_XK_goOn 12).2 = true := by decide +kernel
set_option maxRecDepth 40000 in
theorem ok_t_XK_goOn_13 : pe_ckB (pe_GA []) pe_cl pe_ckA t_XK_goOn (td_t_XK_goOn 13).1 (td_t_XK_goOn 13).2 = true := by decide +kernel
theorem ok_t_XK_goOn_a : ∀ b ∈ t_XK_goOn.bl, pe_ckB (pe_GA []) pe_cl pe_ckA t_XK_goOn b.1 b.2 = true := by
  intro b hb
  obtain ⟨n, hn⟩ := List.getElem?_of_mem hb
  rw [← pe_at_eq] at hn
  match n, hn with
  | 0, hn =>
    have h2 : td_t_XK_goOn 0 = b := by unfold td_t_XK_goOn; rw [hn]; rfl
    rw [← h2]; exact ok_t_XK_goOn_0
  | 1, hn =>
    have h2 : td_t_XK_goOn 1 = b := by unfold td_t_XK_goOn; rw [hn]; rfl
    rw [← h2]; exact ok_t_XK_goOn_1
  | 2, hn =>
    have h2 : td_t_XK_goOn 2 = b := by unfold td_t_XK_goOn; rw [hn]; rfl
    rw [← h2]; exact ok_t_XK_goOn_2
  | 3, hn =>
    have h2 : td_t_XK_goOn 3 = b := by unfold td_t_XK_goOn; rw [hn]; rfl
    rw [← h2]; exact ok_t_XK_goOn_3
  | 4, hn =>
    have h2 : td_t_XK_goOn 4 = b := by unfold td_t_XK_goOn; rw [hn]; rfl
    rw [← h2]; exact ok_t_XK_goOn_4
  | 5, hn =>
    have h2 : td_t_XK_goOn 5 = b := by unfold td_t_XK_goOn; rw [hn]; rfl
    rw [← h2]; exact ok_t_XK_goOn_5
  | 6, hn =>
    have h2 : td_t_XK_goOn 6 = b := by unfold td_t_XK_goOn; rw [hn]; rfl
    rw [← h2]; exact ok_t_XK_goOn_6
  | 7, hn =>
    have h2 : td_t_XK_goOn 7 = b := by unfold td_t_XK_goOn; rw [hn]; rfl
    rw [← h2]; exact ok_t_XK_goOn_7
  | 8, hn =>
    have h2 : td_t_XK_goOn 8 = b := by unfold td_t_XK_goOn; rw [hn]; rfl
    rw [← h2]; exact ok_t_XK_goOn_8
  | 9, hn =>
    have h2 : td_t_XK_goOn 9 = b := by unfold td_t_XK_goOn; rw [hn]; rfl
    rw [← h2]; exact ok_t_XK_goOn_9
  | 10, hn =>
    have h2 : td_t_XK_goOn 10 = b := by unfold td_t_XK_goOn; rw [hn]; rfl
    rw [← h2]; exact ok_t_XK_goOn_10
  | 11, hn =>
    have h2 : td_t_XK_goOn 11 = b := by unfold td_t_XK_goOn; rw [hn]; rfl
    rw [← h2]; exact ok_t_XK_goOn_11
  | 12, hn =>
    have h2 : td_t_XK_goOn 12 = b := by unfold td_t_XK_goOn; rw [hn]; rfl
    rw [← h2]; exact ok_t_XK_goOn_12
  | 13, hn =>
    have h2 : td_t_XK_goOn 13 = b := by unfold td_t_XK_goOn; rw [hn]; rfl
    rw [← h2]; exact ok_t_XK_goOn_13
  | n + 14, hn =>
    rw [pe_at_eq] at hn
    exact absurd (List.getElem?_eq_some_iff.mp hn).1 (by show ¬ n + 14 < 14; omega)
theorem ok_t_XK_goOn : pe_okM (pe_GA []) pe_cl pe_ckA t_XK_goOn = true := pe_okM_mk (pe_w_of (by rfl) (by rfl)) (by decide +kernel) ok_t_XK_goOn_a
set_option maxRecDepth 40000 in
theorem ok_t_XK_end : pe_okM (pe_GA []) pe_cl pe_ckA t_XK_end = true := by decide +kernel
