/-! PART o6l: tables checked once. -/
def td_t_XW_textFor (k : Nat) : Nat × List pe_I := (pe_at t_XW_textFor.bl k).getD (0, [])
set_option maxRecDepth 40000 in
theorem ok_t_XW_textFor_0 : pe_ckB (pe_GA []) pe_cl pe_ckA t_XW_textFor (td_t_XW_textFor 0).1 (td_t_XW_textFor 0).2 = true := by decide +kernel
set_option maxRecDepth 40000 in
theorem ok_t_XW_textFor_1 : pe_ckB (pe_GA []) pe_cl pe_ckA t_XW_textFor (td_t_XW_textFor 1).1 (td_t_XW_textFor 1).2 = true := by decide +kernel
set_option maxRecDepth 40000 in
theorem ok_t_XW_textFor_2 : pe_ckB (pe_GA []) pe_cl pe_ckA t_XW_textFor (td_t_XW_textFor 2).1 (td_t_XW_textFor 2).2 = true := by decide +kernel
theorem ok_t_XW_textFor_a : ∀ b ∈ t_XW_textFor.bl, pe_ckB (pe_GA []) pe_cl pe_ckA t_XW_textFor b.1 b.2 = true := by
  intro b hb
  obtain ⟨n, hn⟩ := List.getElem?_of_mem hb
  rw [← pe_at_eq] at hn
  match n, hn with
  | 0, hn =>
    have h2 : td_t_XW_textFor 0 = b := by unfold td_t_XW_textFor; rw [hn]; rfl
    rw [← h2]; exact ok_t_XW_textFor_0
  | 1, hn =>
    have h2 : td_t_XW_textFor 1 = b := by unfold td_t_XW_textFor; rw [hn]; rfl
    rw [← h2]; exact ok_t_XW_textFor_1
  | 2, hn =>
    have h2 : td_t_XW_textFor 2 = b := by unfold td_t_XW_textFor; rw [hn]; rfl
    rw [← h2]; exact ok_t_XW_textFor_2
  | n + 3, hn =>
    rw [pe_at_eq] at hn
    exact absurd (List.getElem?_eq_some_iff.mp hn).1 (by show ¬ n + 3 < 3; omega)
theorem ok_t_XW_textFor : pe_okM (pe_GA []) pe_cl pe_ckA t_XW_textFor = true := pe_okM_mk (pe_w_of (by rfl) (by rfl)) (by decide +kernel) ok_t_XW_textFor_a
set_option maxRecDepth 40000 in
theorem ok_t_XT_isSuper : pe_okM (pe_GA []) pe_cl pe_ckA t_XT_isSuper = true := by decide +kernel
set_option maxRecDepth 40000 in
theorem ok_t_XO_addToOrder : pe_okM (pe_GA []) pe_cl pe_ckA t_XO_addToOrder = true := by decide +kernel
set_option maxRecDepth 40000 in
theorem ok_t_XO_addOrder : pe_okM (pe_GA []) pe_cl pe_ckA t_XO_addOrder = true := by decide +kernel
set_option maxRecDepth 40000 in
theorem ok_t_XT_typeHere : pe_okM (pe_GA []) pe_cl pe_ckA t_XT_typeHere = true := by decide +kernel
set_option maxRecDepth 40000 in
theorem ok_t_XO_addMember : pe_okM (pe_GA []) pe_cl pe_ckA t_XO_addMember = true := by decide +kernel
def td_t_XT_readName (k : Nat) : Nat × List pe_I := (pe_at t_XT_readName.bl k).getD (0, [])
set_option maxRecDepth 40000 in
theorem ok_t_XT_readName_0 : pe_ckB (pe_GA []) pe_cl pe_ckA t_XT_readName (td_t_XT_readName 0).1 (td_t_XT_readName 0).2 = true := by decide +kernel
set_option maxRecDepth 40000 in
theorem ok_t_XT_readName_1 : pe_ckB (pe_GA []) pe_cl pe_ckA t_XT_readName (td_t_XT_readName 1).1 (td_t_XT_readName 1).2 = true := by decide +kernel
set_option maxRecDepth 40000 in
theorem ok_t_XT_readName_2 : pe_ckB (pe_GA []) pe_cl pe_ckA t_XT_readName (td_t_XT_readName 2).1 (td_t_XT_readName 2).2 = true := by decide +kernel
set_option maxRecDepth 40000 in
theorem ok_t_XT_readName_3 : pe_ckB (pe_GA []) pe_cl pe_ckA t_XT_readName (td_t_XT_readName 3).1 (td_t_XT_readName 3).2 = true := by decide +kernel
set_option maxRecDepth 40000 in
theorem ok_t_XT_readName_4 : pe_ckB (pe_GA []) pe_cl pe_ckA t_XT_readName (td_t_XT_readName 4).1 (td_t_XT_readName 4).2 = true := by decide +kernel
set_option maxRecDepth 40000 in
theorem ok_t_XT_readName_5 : pe_ckB (pe_GA []) pe_cl pe_ckA t_XT_readName (td_t_XT_readName 5).1 (td_t_XT_readName 5).2 = true := by decide +kernel
set_option maxRecDepth 40000 in
theorem ok_t_XT_readName_6 : pe_ckB (pe_GA []) pe_cl pe_ckA t_XT_readName (td_t_XT_readName 6).1 (td_t_XT_readName 6).2 = true := by decide +kernel
set_option maxRecDepth 40000 in
theorem ok_t_XT_readName_7 : pe_ckB (pe_GA []) pe_cl pe_ckA t_XT_readName (td_t_XT_readName 7).1 (td_t_XT_readName 7).2 = true := by decide +kernel
theorem ok_t_XT_readName_a : ∀ b ∈ t_XT_readName.bl, pe_ckB (pe_GA []) pe_cl pe_ckA t_XT_readName b.1 b.2 = true := by
  intro b hb
  obtain ⟨n, hn⟩ := List.getElem?_of_mem hb
  rw [← pe_at_eq] at hn
  match n, hn with
  | 0, hn =>
    have h2 : td_t_XT_readName 0 = b := by unfold td_t_XT_readName; rw [hn]; rfl
    rw [← h2]; exact ok_t_XT_readName_0
  | 1, hn =>
    have h2 : td_t_XT_readName 1 = b := by unfold td_t_XT_readName; rw [hn]; rfl
    rw [← h2]; exact ok_t_XT_readName_1
  | 2, hn =>
    have h2 : td_t_XT_readName 2 = b := by unfold td_t_XT_readName; rw [hn]; rfl
    rw [← h2]; exact ok_t_XT_readName_2
  | 3, hn =>
    have h2 : td_t_XT_readName 3 = b := by unfold td_t_XT_readName; rw [hn]; rfl
    rw [← h2]; exact ok_t_XT_readName_3
  | 4, hn =>
    have h2 : td_t_XT_readName 4 = b := by unfold td_t_XT_readName; rw [hn]; rfl
    rw [← h2]; exact ok_t_XT_readName_4
  | 5, hn =>
    have h2 : td_t_XT_readName 5 = b := by unfold td_t_XT_readName; rw [hn]; rfl
    rw [← h2]; exact ok_t_XT_readName_5
  | 6, hn =>
    have h2 : td_t_XT_readName 6 = b := by unfold td_t_XT_readName; rw [hn]; rfl
    rw [← h2]; exact ok_t_XT_readName_6
  | 7, hn =>
    have h2 : td_t_XT_readName 7 = b := by unfold td_t_XT_readName; rw [hn]; rfl
    rw [← h2]; exact ok_t_XT_readName_7
  | n + 8, hn =>
    rw [pe_at_eq] at hn
    exact absurd (List.getElem?_eq_some_iff.mp hn).1 (by show ¬ n + 8 < 8; omega)
theorem ok_t_XT_readName : pe_okM (pe_GA []) pe_cl pe_ckA t_XT_readName = true := pe_okM_mk (pe_w_of (by rfl) (by rfl)) (by decide +kernel) ok_t_XT_readName_a
def td_t_XO_isToldAlready (k : Nat) : Nat × List pe_I := (pe_at t_XO_isToldAlready.bl k).getD (0, [])
set_option maxRecDepth 40000 in
theorem ok_t_XO_isToldAlready_0 : pe_ckB (pe_GA []) pe_cl pe_ckA t_XO_isToldAlready (td_t_XO_isToldAlready 0).1 (td_t_XO_isToldAlready 0).2 = true := by decide +kernel
set_option maxRecDepth 40000 in
theorem ok_t_XO_isToldAlready_1 : pe_ckB (pe_GA []) pe_cl pe_ckA t_XO_isToldAlready (td_t_XO_isToldAlready 1).1 (td_t_XO_isToldAlready 1).2 = true := by decide +kernel
set_option maxRecDepth 40000 in
theorem ok_t_XO_isToldAlready_2 : pe_ckB (pe_GA []) pe_cl pe_ckA t_XO_isToldAlready (td_t_XO_isToldAlready 2).1 (td_t_XO_isToldAlready 2).2 = true := by decide +kernel
set_option maxRecDepth 40000 in
theorem ok_t_XO_isToldAlready_3 : pe_ckB (pe_GA []) pe_cl pe_ckA t_XO_isToldAlready (td_t_XO_isToldAlready 3).1 (td_t_XO_isToldAlready 3).2 = true := by decide +kernel
theorem ok_t_XO_isToldAlready_a : ∀ b ∈ t_XO_isToldAlready.bl, pe_ckB (pe_GA []) pe_cl pe_ckA t_XO_isToldAlready b.1 b.2 = true := by
  intro b hb
  obtain ⟨n, hn⟩ := List.getElem?_of_mem hb
  rw [← pe_at_eq] at hn
  match n, hn with
  | 0, hn =>
    have h2 : td_t_XO_isToldAlready 0 = b := by unfold td_t_XO_isToldAlready; rw [hn]; rfl
    rw [← h2]; exact ok_t_XO_isToldAlready_0
  | 1, hn =>
    have h2 : td_t_XO_isToldAlready 1 = b := by unfold td_t_XO_isToldAlready; rw [hn]; rfl
    rw [← h2]; exact ok_t_XO_isToldAlready_1
  | 2, hn =>
    have h2 : td_t_XO_isToldAlready 2 = b := by unfold td_t_XO_isToldAlready; rw [hn]; rfl
    rw [← h2]; exact ok_t_XO_isToldAlready_2
  | 3, hn =>
    have h2 : td_t_XO_isToldAlready 3 = b := by unfold td_t_XO_isToldAlready; rw [hn]; rfl
    rw [← h2]; exact ok_t_XO_isToldAlready_3
  | n + 4, hn =>
    rw [pe_at_eq] at hn
    exact absurd (List.getElem?_eq_some_iff.mp hn).1 (by show ¬ n + 4 < 4; omega)
theorem ok_t_XO_isToldAlready : pe_okM (pe_GA []) pe_cl pe_ckA t_XO_isToldAlready = true := pe_okM_mk (pe_w_of (by rfl) (by rfl)) (by decide +kernel) ok_t_XO_isToldAlready_a
def td_t_XO_layOut (k : Nat) : Nat × List pe_I := (pe_at t_XO_layOut.bl k).getD (0, [])
set_option maxRecDepth 40000 in
theorem ok_t_XO_layOut_0 : pe_ckB (pe_GA []) pe_cl pe_ckA t_XO_layOut (td_t_XO_layOut 0).1 (td_t_XO_layOut 0).2 = true := by decide +kernel
set_option maxRecDepth 40000 in
theorem ok_t_XO_layOut_1 : pe_ckB (pe_GA []) pe_cl pe_ckA t_XO_layOut (td_t_XO_layOut 1).1 (td_t_XO_layOut 1).2 = true := by decide +kernel
set_option maxRecDepth 40000 in
theorem ok_t_XO_layOut_2 : pe_ckB (pe_GA []) pe_cl pe_ckA t_XO_layOut (td_t_XO_layOut 2).1 (td_t_XO_layOut 2).2 = true := by decide +kernel
theorem ok_t_XO_layOut_a : ∀ b ∈ t_XO_layOut.bl, pe_ckB (pe_GA []) pe_cl pe_ckA t_XO_layOut b.1 b.2 = true := by
  intro b hb
  obtain ⟨n, hn⟩ := List.getElem?_of_mem hb
  rw [← pe_at_eq] at hn
  match n, hn with
  | 0, hn =>
    have h2 : td_t_XO_layOut 0 = b := by unfold td_t_XO_layOut; rw [hn]; rfl
    rw [← h2]; exact ok_t_XO_layOut_0
  | 1, hn =>
    have h2 : td_t_XO_layOut 1 = b := by unfold td_t_XO_layOut; rw [hn]; rfl
    rw [← h2]; exact ok_t_XO_layOut_1
  | 2, hn =>
    have h2 : td_t_XO_layOut 2 = b := by unfold td_t_XO_layOut; rw [hn]; rfl
    rw [← h2]; exact ok_t_XO_layOut_2
  | n + 3, hn =>
    rw [pe_at_eq] at hn
    exact absurd (List.getElem?_eq_some_iff.mp hn).1 (by show ¬ n + 3 < 3; omega)
theorem ok_t_XO_layOut : pe_okM (pe_GA []) pe_cl pe_ckA t_XO_layOut = true := pe_okM_mk (pe_w_of (by rfl) (by rfl)) (by decide +kernel) ok_t_XO_layOut_a
def td_t_XO_fieldOf (k : Nat) : Nat × List pe_I := (pe_at t_XO_fieldOf.bl k).getD (0, [])
set_option maxRecDepth 40000 in
theorem ok_t_XO_fieldOf_0 : pe_ckB (pe_GA []) pe_cl pe_ckA t_XO_fieldOf (td_t_XO_fieldOf 0).1 (td_t_XO_fieldOf 0).2 = true := by decide +kernel
set_option maxRecDepth 40000 in
theorem ok_t_XO_fieldOf_1 : pe_ckB (pe_GA []) pe_cl pe_ckA t_XO_fieldOf (td_t_XO_fieldOf 1).1 (td_t_XO_fieldOf 1).2 = true := by decide +kernel
set_option maxRecDepth 40000 in
theorem ok_t_XO_fieldOf_2 : pe_ckB (pe_GA []) pe_cl pe_ckA t_XO_fieldOf (td_t_XO_fieldOf 2).1 (td_t_XO_fieldOf 2).2 = true := by decide +kernel
set_option maxRecDepth 40000 in
theorem ok_t_XO_fieldOf_3 : pe_ckB (pe_GA []) pe_cl pe_ckA t_XO_fieldOf (td_t_XO_fieldOf 3).1 (td_t_XO_fieldOf 3).2 = true := by decide +kernel
set_option maxRecDepth 40000 in
theorem ok_t_XO_fieldOf_4 : pe_ckB (pe_GA []) pe_cl pe_ckA t_XO_fieldOf (td_t_XO_fieldOf 4).1 (td_t_XO_fieldOf 4).2 = true := by decide +kernel
set_option maxRecDepth 40000 in
theorem ok_t_XO_fieldOf_5 : pe_ckB (pe_GA []) pe_cl pe_ckA t_XO_fieldOf (td_t_XO_fieldOf 5).1 (td_t_XO_fieldOf 5).2 = true := by decide +kernel
set_option maxRecDepth 40000 in
theorem ok_t_XO_fieldOf_6 : pe_ckB (pe_GA []) pe_cl pe_ckA t_XO_fieldOf (td_t_XO_fieldOf 6).1 (td_t_XO_fieldOf 6).2 = true := by decide +kernel
set_option maxRecDepth 40000 in
theorem ok_t_XO_fieldOf_7 : pe_ckB (pe_GA []) pe_cl pe_ckA t_XO_fieldOf (td_t_XO_fieldOf 7).1 (td_t_XO_fieldOf 7).2 = true := by decide +kernel
set_option maxRecDepth 40000 in
theorem ok_t_XO_fieldOf_8 : pe_ckB (pe_GA []) pe_cl pe_ckA t_XO_fieldOf (td_t_XO_fieldOf 8).1 (td_t_XO_fieldOf 8).2 = true := by decide +kernel
set_option maxRecDepth 40000 in
theorem ok_t_XO_fieldOf_9 : pe_ckB (pe_GA []) pe_cl pe_ckA t_XO_fieldOf (td_t_XO_fieldOf 9).1 (td_t_XO_fieldOf 9).2 = true := by decide +kernel
set_option maxRecDepth 40000 in
theorem ok_t_XO_fieldOf_10 : pe_ckB (pe_GA []) pe_cl pe_ckA t_XO_fieldOf (td_t_XO_fieldOf 10).1 (td_t_XO_fieldOf 10).2 = true := by decide +kernel
set_option maxRecDepth 40000 in
theorem ok_t_XO_fieldOf_11 : pe_ckB (pe_GA []) pe_cl pe_ckA t_XO_fieldOf (td_t_XO_fieldOf 11).1 (td_t_XO_fieldOf 11).2 = true := by decide +kernel
set_option maxRecDepth 40000 in
theorem ok_t_XO_fieldOf_12 : pe_ckB (pe_GA []) pe_cl pe_ckA t_XO_fieldOf (td_t_XO_fieldOf 12).1 (td_t_XO_fieldOf 12).2 = true := by decide +kernel
set_option maxRecDepth 40000 in
theorem ok_t_XO_fieldOf_13 : pe_ckB (pe_GA []) pe_cl pe_ckA t_XO_fieldOf (td_t_XO_fieldOf 13).1 (td_t_XO_fieldOf 13).2 = true := by decide +kernel
set_option maxRecDepth 40000 in
theorem ok_t_XO_fieldOf_14 : pe_ckB (pe_GA []) pe_cl pe_ckA t_XO_fieldOf (td_t_XO_fieldOf 14).1 (td_t_XO_fieldOf 14).2 = true := by decide +kernel
set_option maxRecDepth 40000 in
theorem ok_t_XO_fieldOf_15 : pe_ckB (pe_GA []) pe_cl pe_ckA t_XO_fieldOf (td_t_XO_fieldOf 15).1 (td_t_XO_fieldOf 15).2 = true := by decide +kernel
set_option maxRecDepth 40000 in
theorem ok_t_XO_fieldOf_16 : pe_ckB (pe_GA []) pe_cl pe_ckA t_XO_fieldOf (td_t_XO_fieldOf 16).1 (td_t_XO_fieldOf 16).2 = true := by decide +kernel
set_option maxRecDepth 40000 in
theorem ok_t_XO_fieldOf_17 : pe_ckB (pe_GA []) pe_cl pe_ckA t_XO_fieldOf (td_t_XO_fieldOf 17).1 (td_t_XO_fieldOf 17).2 = true := by decide +kernel
set_option maxRecDepth 40000 in
theorem ok_t_XO_fieldOf_18 : pe_ckB (pe_GA []) pe_cl pe_ckA t_XO_fieldOf (td_t_XO_fieldOf 18).1 (td_t_XO_fieldOf 18).2 = true := by decide +kernel
theorem ok_t_XO_fieldOf_a : ∀ b ∈ t_XO_fieldOf.bl, pe_ckB (pe_GA []) pe_cl pe_ckA t_XO_fieldOf b.1 b.2 = true := by
  intro b hb
  obtain ⟨n, hn⟩ := List.getElem?_of_mem hb
  rw [← pe_at_eq] at hn
  match n, hn with
  | 0, hn =>
    have h2 : td_t_XO_fieldOf 0 = b := by unfold td_t_XO_fieldOf; rw [hn]; rfl
    rw [← h2]; exact ok_t_XO_fieldOf_0
  | 1, hn =>
    have h2 : td_t_XO_fieldOf 1 = b := by unfold td_t_XO_fieldOf; rw [hn]; rfl
    rw [← h2]; exact ok_t_XO_fieldOf_1
  | 2, hn =>
    have h2 : td_t_XO_fieldOf 2 = b := by unfold td_t_XO_fieldOf; rw [hn]; rfl
    rw [← h2]; exact ok_t_XO_fieldOf_2
  | 3, hn =>
    have h2 : td_t_XO_fieldOf 3 = b := by unfold td_t_XO_fieldOf; rw [hn]; rfl
    rw [← h2]; exact ok_t_XO_fieldOf_3
  | 4, hn =>
    have h2 : td_t_XO_fieldOf 4 = b := by unfold td_t_XO_fieldOf; rw [hn]; rfl
    rw [← h2]; exact ok_t_XO_fieldOf_4
  | 5, hn =>
    have h2 : td_t_XO_fieldOf 5 = b := by unfold td_t_XO_fieldOf; rw [hn]; rfl
    rw [← h2]; exact ok_t_XO_fieldOf_5
  | 6, hn =>
    have h2 : td_t_XO_fieldOf 6 = b := by unfold td_t_XO_fieldOf; rw [hn]; rfl
    rw [← h2]; exact ok_t_XO_fieldOf_6
  | 7, hn =>
    have h2 : td_t_XO_fieldOf 7 = b := by unfold td_t_XO_fieldOf; rw [hn]; rfl
    rw [← h2]; exact ok_t_XO_fieldOf_7
  | 8, hn =>
    have h2 : td_t_XO_fieldOf 8 = b := by unfold td_t_XO_fieldOf; rw [hn]; rfl
    rw [← h2]; exact ok_t_XO_fieldOf_8
  | 9, hn =>
    have h2 : td_t_XO_fieldOf 9 = b := by unfold td_t_XO_fieldOf; rw [hn]; rfl
    rw [← h2]; exact ok_t_XO_fieldOf_9
  | 10, hn =>
    have h2 : td_t_XO_fieldOf 10 = b := by unfold td_t_XO_fieldOf; rw [hn]; rfl
    rw [← h2]; exact ok_t_XO_fieldOf_10
  | 11, hn =>
    have h2 : td_t_XO_fieldOf 11 = b := by unfold td_t_XO_fieldOf; rw [hn]; rfl
    rw [← h2]; exact ok_t_XO_fieldOf_11
  | 12, hn =>
    have h2 : td_t_XO_fieldOf 12 = b := by unfold td_t_XO_fieldOf; rw [hn]; rfl
    rw [← h2]; exact ok_t_XO_fieldOf_12
  | 13, hn =>
    have h2 : td_t_XO_fieldOf 13 = b := by unfold td_t_XO_fieldOf; rw [hn]; rfl
    rw [← h2]; exact ok_t_XO_fieldOf_13
  | 14, hn =>
    have h2 : td_t_XO_fieldOf 14 = b := by unfold td_t_XO_fieldOf; rw [hn]; rfl
    rw [← h2]; exact ok_t_XO_fieldOf_14
  | 15, hn =>
    have h2 : td_t_XO_fieldOf 15 = b := by unfold td_t_XO_fieldOf; rw [hn]; rfl
    rw [← h2]; exact ok_t_XO_fieldOf_15
  | 16, hn =>
    have h2 : td_t_XO_fieldOf 16 = b := by unfold td_t_XO_fieldOf; rw [hn]; rfl
    rw [← h2]; exact ok_t_XO_fieldOf_16
  | 17, hn =>
    have h2 : td_t_XO_fieldOf 17 = b := by unfold td_t_XO_fieldOf; rw [hn]; rfl
    rw [← h2]; exact ok_t_XO_fieldOf_17
  | 18, hn =>
    have h2 : td_t_XO_fieldOf 18 = b := by unfold td_t_XO_fieldOf; rw [hn]; rfl
    rw [← h2]; exact ok_t_XO_fieldOf_18
  | n + 19, hn =>
    rw [pe_at_eq] at hn
    exact absurd (List.getElem?_eq_some_iff.mp hn).1 (by show ¬ n + 19 < 19; omega)
theorem ok_t_XO_fieldOf : pe_okM (pe_GA []) pe_cl pe_ckA t_XO_fieldOf = true := pe_okM_mk (pe_w_of (by rfl) (by rfl)) (by decide +kernel) ok_t_XO_fieldOf_a
def td_t_XP_takeVariable (k : Nat) : Nat × List pe_I := (pe_at t_XP_takeVariable.bl k).getD (0, [])
set_option maxRecDepth 40000 in
theorem ok_t_XP_takeVariable_0 : pe_ckB (pe_GA []) pe_cl pe_ckA t_XP_takeVariable (td_t_XP_takeVariable 0).1 (td_t_XP_takeVariable 0).2 = true := by decide +kernel
set_option maxRecDepth 40000 in
theorem ok_t_XP_takeVariable_1 : pe_ckB (pe_GA []) pe_cl pe_ckA t_XP_takeVariable (td_t_XP_takeVariable 1).1 (td_t_XP_takeVariable 1).2 = true := by decide +kernel
set_option maxRecDepth 40000 in
theorem ok_t_XP_takeVariable_2 : pe_ckB (pe_GA []) pe_cl pe_ckA t_XP_takeVariable (td_t_XP_takeVariable 2).1 (td_t_XP_takeVariable 2).2 = true := by decide +kernel
theorem ok_t_XP_takeVariable_a : ∀ b ∈ t_XP_takeVariable.bl, pe_ckB (pe_GA []) pe_cl pe_ckA t_XP_takeVariable b.1 b.2 = true := by
  intro b hb
  obtain ⟨n, hn⟩ := List.getElem?_of_mem hb
  rw [← pe_at_eq] at hn
  match n, hn with
  | 0, hn =>
    have h2 : td_t_XP_takeVariable 0 = b := by unfold td_t_XP_takeVariable; rw [hn]; rfl
    rw [← h2]; exact ok_t_XP_takeVariable_0
  | 1, hn =>
    have h2 : td_t_XP_takeVariable 1 = b := by unfold td_t_XP_takeVariable; rw [hn]; rfl
    rw [← h2]; exact ok_t_XP_takeVariable_1
  | 2, hn =>
    have h2 : td_t_XP_takeVariable 2 = b := by unfold td_t_XP_takeVariable; rw [hn]; rfl
    rw [← h2]; exact ok_t_XP_takeVariable_2
  | n + 3, hn =>
    rw [pe_at_eq] at hn
    exact absurd (List.getElem?_eq_some_iff.mp hn).1 (by show ¬ n + 3 < 3; omega)
theorem ok_t_XP_takeVariable : pe_okM (pe_GA []) pe_cl pe_ckA t_XP_takeVariable = true := pe_okM_mk (pe_w_of (by rfl) (by rfl)) (by decide +kernel) ok_t_XP_takeVariable_a
def td_t_XP_readExpression (k : Nat) : Nat × List pe_I := (pe_at t_XP_readExpression.bl k).getD (0, [])
set_option maxRecDepth 40000 in
theorem ok_t_XP_readExpression_0 : pe_ckB (pe_GA []) pe_cl pe_ckA t_XP_readExpression (td_t_XP_readExpression 0).1 (td_t_XP_readExpression 0).2 = true := by decide +kernel
set_option maxRecDepth 40000 in
theorem ok_t_XP_readExpression_1 : pe_ckB (pe_GA []) pe_cl pe_ckA t_XP_readExpression (td_t_XP_readExpression 1).1 (td_t_XP_readExpression 1).2 = true := by decide +kernel
set_option maxRecDepth 40000 in
theorem ok_t_XP_readExpression_2 : pe_ckB (pe_GA []) pe_cl pe_ckA t_XP_readExpression (td_t_XP_readExpression 2).1 (td_t_XP_readExpression 2).2 = true := by decide +kernel
set_option maxRecDepth 40000 in
theorem ok_t_XP_readExpression_3 : pe_ckB (pe_GA []) pe_cl pe_ckA t_XP_readExpression (td_t_XP_readExpression 3).1 (td_t_XP_readExpression 3).2 = true := by decide +kernel
set_option maxRecDepth 40000 in
theorem ok_t_XP_readExpression_4 : pe_ckB (pe_GA []) pe_cl pe_ckA t_XP_readExpression (td_t_XP_readExpression 4).1 (td_t_XP_readExpression 4).2 = true := by decide +kernel
set_option maxRecDepth 40000 in
theorem ok_t_XP_readExpression_5 : pe_ckB (pe_GA []) pe_cl pe_ckA t_XP_readExpression (td_t_XP_readExpression 5).1 (td_t_XP_readExpression 5).2 = true := by decide +kernel
set_option maxRecDepth 40000 in
theorem ok_t_XP_readExpression_6 : pe_ckB (pe_GA []) pe_cl pe_ckA t_XP_readExpression (td_t_XP_readExpression 6).1 (td_t_XP_readExpression 6).2 = true := by decide +kernel
set_option maxRecDepth 40000 in
theorem ok_t_XP_readExpression_7 : pe_ckB (pe_GA []) pe_cl pe_ckA t_XP_readExpression (td_t_XP_readExpression 7).1 (td_t_XP_readExpression 7).2 = true := by decide +kernel
set_option maxRecDepth 40000 in
theorem ok_t_XP_readExpression_8 : pe_ckB (pe_GA []) pe_cl pe_ckA t_XP_readExpression (td_t_XP_readExpression 8).1 (td_t_XP_readExpression 8).2 = true := by decide +kernel
set_option maxRecDepth 40000 in
theorem ok_t_XP_readExpression_9 : pe_ckB (pe_GA []) pe_cl pe_ckA t_XP_readExpression (td_t_XP_readExpression 9).1 (td_t_XP_readExpression 9).2 = true := by decide +kernel
set_option maxRecDepth 40000 in
theorem ok_t_XP_readExpression_10 : pe_ckB (pe_GA []) pe_cl pe_ckA t_XP_readExpression (td_t_XP_readExpression 10).1 (td_t_XP_readExpression 10).2 = true := by decide +kernel
set_option maxRecDepth 40000 in
theorem ok_t_XP_readExpression_11 : pe_ckB (pe_GA []) pe_cl pe_ckA t_XP_readExpression (td_t_XP_readExpression 11).1 (td_t_XP_readExpression 11).2 = true := by decide +kernel
theorem ok_t_XP_readExpression_a : ∀ b ∈ t_XP_readExpression.bl, pe_ckB (pe_GA []) pe_cl pe_ckA t_XP_readExpression b.1 b.2 = true := by
  intro b hb
  obtain ⟨n, hn⟩ := List.getElem?_of_mem hb
  rw [← pe_at_eq] at hn
  match n, hn with
  | 0, hn =>
    have h2 : td_t_XP_readExpression 0 = b := by unfold td_t_XP_readExpression; rw [hn]; rfl
    rw [← h2]; exact ok_t_XP_readExpression_0
  | 1, hn =>
    have h2 : td_t_XP_readExpression 1 = b := by unfold td_t_XP_readExpression; rw [hn]; rfl
    rw [← h2]; exact ok_t_XP_readExpression_1
  | 2, hn =>
    have h2 : td_t_XP_readExpression 2 = b := by unfold td_t_XP_readExpression; rw [hn]; rfl
    rw [← h2]; exact ok_t_XP_readExpression_2
  | 3, hn =>
    have h2 : td_t_XP_readExpression 3 = b := by unfold td_t_XP_readExpression; rw [hn]; rfl
    rw [← h2]; exact ok_t_XP_readExpression_3
  | 4, hn =>
    have h2 : td_t_XP_readExpression 4 = b := by unfold td_t_XP_readExpression; rw [hn]; rfl
    rw [← h2]; exact ok_t_XP_readExpression_4
  | 5, hn =>
    have h2 : td_t_XP_readExpression 5 = b := by unfold td_t_XP_readExpression; rw [hn]; rfl
    rw [← h2]; exact ok_t_XP_readExpression_5
  | 6, hn =>
    have h2 : td_t_XP_readExpression 6 = b := by unfold td_t_XP_readExpression; rw [hn]; rfl
    rw [← h2]; exact ok_t_XP_readExpression_6
  | 7, hn =>
    have h2 : td_t_XP_readExpression 7 = b := by unfold td_t_XP_readExpression; rw [hn]; rfl
    rw [← h2]; exact ok_t_XP_readExpression_7
  | 8, hn =>
    have h2 : td_t_XP_readExpression 8 = b := by unfold td_t_XP_readExpression; rw [hn]; rfl
    rw [← h2]; exact ok_t_XP_readExpression_8
  | 9, hn =>
    have h2 : td_t_XP_readExpression 9 = b := by unfold td_t_XP_readExpression; rw [hn]; rfl
    rw [← h2]; exact ok_t_XP_readExpression_9
  | 10, hn =>
    have h2 : td_t_XP_readExpression 10 = b := by unfold td_t_XP_readExpression; rw [hn]; rfl
    rw [← h2]; exact ok_t_XP_readExpression_10
  | 11, hn =>
    have h2 : td_t_XP_readExpression 11 = b := by unfold td_t_XP_readExpression; rw [hn]; rfl
    rw [← h2]; exact ok_t_XP_readExpression_11
  | n + 12, hn =>
    rw [pe_at_eq] at hn
    exact absurd (List.getElem?_eq_some_iff.mp hn).1 (by show ¬ n + 12 < 12; omega)
theorem ok_t_XP_readExpression : pe_okM (pe_GA []) pe_cl pe_ckA t_XP_readExpression = true := pe_okM_mk (pe_w_of (by rfl) (by rfl)) (by decide +kernel) ok_t_XP_readExpression_a
set_option maxRecDepth 40000 in
theorem ok_t_XP_take : pe_okM (pe_GA []) pe_cl pe_ckA t_XP_take = true := by decide +kernel
def td_t_XP_enterFunction (k : Nat) : Nat × List pe_I := (pe_at t_XP_enterFunction.bl k).getD (0, [])
set_option maxRecDepth 40000 in
theorem ok_t_XP_enterFunction_0 : pe_ckB (pe_GA []) pe_cl pe_ckA t_XP_enterFunction (td_t_XP_enterFunction 0).1 (td_t_XP_enterFunction 0).2 = true := by decide +kernel
set_option maxRecDepth 40000 in
theorem ok_t_XP_enterFunction_1 : pe_ckB (pe_GA []) pe_cl pe_ckA t_XP_enterFunction (td_t_XP_enterFunction 1).1 (td_t_XP_enterFunction 1).2 = true := by decide +kernel
set_option maxRecDepth 40000 in
theorem ok_t_XP_enterFunction_2 : pe_ckB (pe_GA []) pe_cl pe_ckA t_XP_enterFunction (td_t_XP_enterFunction 2).1 (td_t_XP_enterFunction 2).2 = true := by decide +kernel
set_option maxRecDepth 40000 in
theorem ok_t_XP_enterFunction_3 : pe_ckB (pe_GA []) pe_cl pe_ckA t_XP_enterFunction (td_t_XP_enterFunction 3).1 (td_t_XP_enterFunction 3).2 = true := by decide +kernel
set_option maxRecDepth 40000 in
theorem ok_t_XP_enterFunction_4 : pe_ckB (pe_GA []) pe_cl pe_ckA t_XP_enterFunction (td_t_XP_enterFunction 4).1 (td_t_XP_enterFunction 4).2 = true := by decide +kernel
set_option maxRecDepth 40000 in
theorem ok_t_XP_enterFunction_5 : pe_ckB (pe_GA []) pe_cl pe_ckA t_XP_enterFunction (td_t_XP_enterFunction 5).1 (td_t_XP_enterFunction 5).2 = true := by decide +kernel
set_option maxRecDepth 40000 in
theorem ok_t_XP_enterFunction_6 : pe_ckB (pe_GA []) pe_cl pe_ckA t_XP_enterFunction (td_t_XP_enterFunction 6).1 (td_t_XP_enterFunction 6).2 = true := by decide +kernel
set_option maxRecDepth 40000 in
theorem ok_t_XP_enterFunction_7 : pe_ckB (pe_GA []) pe_cl pe_ckA t_XP_enterFunction (td_t_XP_enterFunction 7).1 (td_t_XP_enterFunction 7).2 = true := by decide +kernel
set_option maxRecDepth 40000 in
theorem ok_t_XP_enterFunction_8 : pe_ckB (pe_GA []) pe_cl pe_ckA t_XP_enterFunction (td_t_XP_enterFunction 8).1 (td_t_XP_enterFunction 8).2 = true := by decide +kernel
set_option maxRecDepth 40000 in
theorem ok_t_XP_enterFunction_9 : pe_ckB (pe_GA []) pe_cl pe_ckA t_XP_enterFunction (td_t_XP_enterFunction 9).1 (td_t_XP_enterFunction 9).2 = true := by decide +kernel
theorem ok_t_XP_enterFunction_a : ∀ b ∈ t_XP_enterFunction.bl, pe_ckB (pe_GA []) pe_cl pe_ckA t_XP_enterFunction b.1 b.2 = true := by
  intro b hb
  obtain ⟨n, hn⟩ := List.getElem?_of_mem hb
  rw [← pe_at_eq] at hn
  match n, hn with
  | 0, hn =>
    have h2 : td_t_XP_enterFunction 0 = b := by unfold td_t_XP_enterFunction; rw [hn]; rfl
    rw [← h2]; exact ok_t_XP_enterFunction_0
  | 1, hn =>
    have h2 : td_t_XP_enterFunction 1 = b := by unfold td_t_XP_enterFunction; rw [hn]; rfl
    rw [← h2]; exact ok_t_XP_enterFunction_1
  | 2, hn =>
    have h2 : td_t_XP_enterFunction 2 = b := by unfold td_t_XP_enterFunction; rw [hn]; rfl
    rw [← h2]; exact ok_t_XP_enterFunction_2
  | 3, hn =>
    have h2 : td_t_XP_enterFunction 3 = b := by unfold td_t_XP_enterFunction; rw [hn]; rfl
    rw [← h2]; exact ok_t_XP_enterFunction_3
  | 4, hn =>
    have h2 : td_t_XP_enterFunction 4 = b := by unfold td_t_XP_enterFunction; rw [hn]; rfl
    rw [← h2]; exact ok_t_XP_enterFunction_4
  | 5, hn =>
    have h2 : td_t_XP_enterFunction 5 = b := by unfold td_t_XP_enterFunction; rw [hn]; rfl
    rw [← h2]; exact ok_t_XP_enterFunction_5
  | 6, hn =>
    have h2 : td_t_XP_enterFunction 6 = b := by unfold td_t_XP_enterFunction; rw [hn]; rfl
    rw [← h2]; exact ok_t_XP_enterFunction_6
  | 7, hn =>
    have h2 : td_t_XP_enterFunction 7 = b := by unfold td_t_XP_enterFunction; rw [hn]; rfl
    rw [← h2]; exact ok_t_XP_enterFunction_7
  | 8, hn =>
    have h2 : td_t_XP_enterFunction 8 = b := by unfold td_t_XP_enterFunction; rw [hn]; rfl
    rw [← h2]; exact ok_t_XP_enterFunction_8
  | 9, hn =>
    have h2 : td_t_XP_enterFunction 9 = b := by unfold td_t_XP_enterFunction; rw [hn]; rfl
    rw [← h2]; exact ok_t_XP_enterFunction_9
  | n + 10, hn =>
    rw [pe_at_eq] at hn
    exact absurd (List.getElem?_eq_some_iff.mp hn).1 (by show ¬ n + 10 < 10; omega)
theorem ok_t_XP_enterFunction : pe_okM (pe_GA []) pe_cl pe_ckA t_XP_enterFunction = true := pe_okM_mk (pe_w_of (by rfl) (by rfl)) (by decide +kernel) ok_t_XP_enterFunction_a
set_option maxRecDepth 40000 in
theorem ok_t_XP_leaveFunction : pe_okM (pe_GA []) pe_cl pe_ckA t_XP_leaveFunction = true := by decide +kernel
set_option maxRecDepth 40000 in
theorem ok_t_XP_readCondition : pe_okM (pe_GA []) pe_cl pe_ckA t_XP_readCondition = true := by decide +kernel
set_option maxRecDepth 40000 in
theorem ok_t_XP_readBlock : pe_okM (pe_GA []) pe_cl pe_ckA t_XP_readBlock = true := by decide +kernel
set_option maxRecDepth 40000 in
theorem ok_t_XP_aimHere : pe_okM (pe_GA []) pe_cl pe_ckA t_XP_aimHere = true := by decide +kernel
set_option maxRecDepth 40000 in
theorem ok_t_XP_here : pe_okM (pe_GA []) pe_cl pe_ckA t_XP_here = true := by decide +kernel
set_option maxRecDepth 40000 in
theorem ok_t_XP_open : pe_okM (pe_GA []) pe_cl pe_ckA t_XP_open = true := by decide +kernel
set_option maxRecDepth 40000 in
theorem ok_t_M_isKeyword : pe_okM (pe_GA []) pe_cl pe_ckA t_M_isKeyword = true := by decide +kernel
set_option maxRecDepth 40000 in
theorem ok_t_M_and : pe_okM (pe_GA []) pe_cl pe_ckA t_M_and = true := by decide +kernel
def td_t_MI_add (k : Nat) : Nat × List pe_I := (pe_at t_MI_add.bl k).getD (0, [])
set_option maxRecDepth 40000 in
theorem ok_t_MI_add_0 : pe_ckB (pe_GA []) pe_cl pe_ckA t_MI_add (td_t_MI_add 0).1 (td_t_MI_add 0).2 = true := by decide +kernel
set_option maxRecDepth 40000 in
theorem ok_t_MI_add_1 : pe_ckB (pe_GA []) pe_cl pe_ckA t_MI_add (td_t_MI_add 1).1 (td_t_MI_add 1).2 = true := by decide +kernel
set_option maxRecDepth 40000 in
theorem ok_t_MI_add_2 : pe_ckB (pe_GA []) pe_cl pe_ckA t_MI_add (td_t_MI_add 2).1 (td_t_MI_add 2).2 = true := by decide +kernel
set_option maxRecDepth 40000 in
theorem ok_t_MI_add_3 : pe_ckB (pe_GA []) pe_cl pe_ckA t_MI_add (td_t_MI_add 3).1 (td_t_MI_add 3).2 = true := by decide +kernel
set_option maxRecDepth 40000 in
theorem ok_t_MI_add_4 : pe_ckB (pe_GA []) pe_cl pe_ckA t_MI_add (td_t_MI_add 4).1 (td_t_MI_add 4).2 = true := by decide +kernel
theorem ok_t_MI_add_a : ∀ b ∈ t_MI_add.bl, pe_ckB (pe_GA []) pe_cl pe_ckA t_MI_add b.1 b.2 = true := by
  intro b hb
  obtain ⟨n, hn⟩ := List.getElem?_of_mem hb
  rw [← pe_at_eq] at hn
  match n, hn with
  | 0, hn =>
    have h2 : td_t_MI_add 0 = b := by unfold td_t_MI_add; rw [hn]; rfl
    rw [← h2]; exact ok_t_MI_add_0
  | 1, hn =>
    have h2 : td_t_MI_add 1 = b := by unfold td_t_MI_add; rw [hn]; rfl
    rw [← h2]; exact ok_t_MI_add_1
  | 2, hn =>
    have h2 : td_t_MI_add 2 = b := by unfold td_t_MI_add; rw [hn]; rfl
    rw [← h2]; exact ok_t_MI_add_2
  | 3, hn =>
    have h2 : td_t_MI_add 3 = b := by unfold td_t_MI_add; rw [hn]; rfl
    rw [← h2]; exact ok_t_MI_add_3
  | 4, hn =>
    have h2 : td_t_MI_add 4 = b := by unfold td_t_MI_add; rw [hn]; rfl
    rw [← h2]; exact ok_t_MI_add_4
  | n + 5, hn =>
    rw [pe_at_eq] at hn
    exact absurd (List.getElem?_eq_some_iff.mp hn).1 (by show ¬ n + 5 < 5; omega)
theorem ok_t_MI_add : pe_okM (pe_GA []) pe_cl pe_ckA t_MI_add = true := pe_okM_mk (pe_w_of (by rfl) (by rfl)) (by decide +kernel) ok_t_MI_add_a
def td_t_XL_holdsOn (k : Nat) : Nat × List pe_I := (pe_at t_XL_holdsOn.bl k).getD (0, [])
set_option maxRecDepth 40000 in
theorem ok_t_XL_holdsOn_0 : pe_ckB (pe_GA []) pe_cl pe_ckA t_XL_holdsOn (td_t_XL_holdsOn 0).1 (td_t_XL_holdsOn 0).2 = true := by decide +kernel
set_option maxRecDepth 40000 in
theorem ok_t_XL_holdsOn_1 : pe_ckB (pe_GA []) pe_cl pe_ckA t_XL_holdsOn (td_t_XL_holdsOn 1).1 (td_t_XL_holdsOn 1).2 = true := by decide +kernel
set_option maxRecDepth 40000 in
theorem ok_t_XL_holdsOn_2 : pe_ckB (pe_GA []) pe_cl pe_ckA t_XL_holdsOn (td_t_XL_holdsOn 2).1 (td_t_XL_holdsOn 2).2 = true := by decide +kernel
set_option maxRecDepth 40000 in
theorem ok_t_XL_holdsOn_3 : pe_ckB (pe_GA []) pe_cl pe_ckA t_XL_holdsOn (td_t_XL_holdsOn 3).1 (td_t_XL_holdsOn 3).2 = true := by decide +kernel
set_option maxRecDepth 40000 in
theorem ok_t_XL_holdsOn_4 : pe_ckB (pe_GA []) pe_cl pe_ckA t_XL_holdsOn (td_t_XL_holdsOn 4).1 (td_t_XL_holdsOn 4).2 = true := by decide +kernel
set_option maxRecDepth 40000 in
theorem ok_t_XL_holdsOn_5 : pe_ckB (pe_GA []) pe_cl pe_ckA t_XL_holdsOn (td_t_XL_holdsOn 5).1 (td_t_XL_holdsOn 5).2 = true := by decide +kernel
set_option maxRecDepth 40000 in
theorem ok_t_XL_holdsOn_6 : pe_ckB (pe_GA []) pe_cl pe_ckA t_XL_holdsOn (td_t_XL_holdsOn 6).1 (td_t_XL_holdsOn 6).2 = true := by decide +kernel
theorem ok_t_XL_holdsOn_a : ∀ b ∈ t_XL_holdsOn.bl, pe_ckB (pe_GA []) pe_cl pe_ckA t_XL_holdsOn b.1 b.2 = true := by
  intro b hb
  obtain ⟨n, hn⟩ := List.getElem?_of_mem hb
  rw [← pe_at_eq] at hn
  match n, hn with
  | 0, hn =>
    have h2 : td_t_XL_holdsOn 0 = b := by unfold td_t_XL_holdsOn; rw [hn]; rfl
    rw [← h2]; exact ok_t_XL_holdsOn_0
  | 1, hn =>
    have h2 : td_t_XL_holdsOn 1 = b := by unfold td_t_XL_holdsOn; rw [hn]; rfl
    rw [← h2]; exact ok_t_XL_holdsOn_1
  | 2, hn =>
    have h2 : td_t_XL_holdsOn 2 = b := by unfold td_t_XL_holdsOn; rw [hn]; rfl
    rw [← h2]; exact ok_t_XL_holdsOn_2
  | 3, hn =>
    have h2 : td_t_XL_holdsOn 3 = b := by unfold td_t_XL_holdsOn; rw [hn]; rfl
    rw [← h2]; exact ok_t_XL_holdsOn_3
  | 4, hn =>
    have h2 : td_t_XL_holdsOn 4 = b := by unfold td_t_XL_holdsOn; rw [hn]; rfl
    rw [← h2]; exact ok_t_XL_holdsOn_4
  | 5, hn =>
    have h2 : td_t_XL_holdsOn 5 = b := by unfold td_t_XL_holdsOn; rw [hn]; rfl
    rw [← h2]; exact ok_t_XL_holdsOn_5
  | 6, hn =>
    have h2 : td_t_XL_holdsOn 6 = b := by unfold td_t_XL_holdsOn; rw [hn]; rfl
    rw [← h2]; exact ok_t_XL_holdsOn_6
  | n + 7, hn =>
    rw [pe_at_eq] at hn
    exact absurd (List.getElem?_eq_some_iff.mp hn).1 (by show ¬ n + 7 < 7; omega)
theorem ok_t_XL_holdsOn : pe_okM (pe_GA []) pe_cl pe_ckA t_XL_holdsOn = true := pe_okM_mk (pe_w_of (by rfl) (by rfl)) (by decide +kernel) ok_t_XL_holdsOn_a
set_option maxRecDepth 40000 in
theorem ok_t_XL_holdsForEs : pe_okM (pe_GA []) pe_cl pe_ckA t_XL_holdsForEs = true := by decide +kernel
set_option maxRecDepth 40000 in
theorem ok_t_XH_indexIn : pe_okM (pe_GA []) pe_cl pe_ckA t_XH_indexIn = true := by decide +kernel
def td_t_XH_shapeBehind (k : Nat) : Nat × List pe_I := (pe_at t_XH_shapeBehind.bl k).getD (0, [])
set_option maxRecDepth 40000 in
theorem ok_t_XH_shapeBehind_0 : pe_ckB (pe_GA []) pe_cl pe_ckA t_XH_shapeBehind (td_t_XH_shapeBehind 0).1 (td_t_XH_shapeBehind 0).2 = true := by decide +kernel
set_option maxRecDepth 40000 in
theorem ok_t_XH_shapeBehind_1 : pe_ckB (pe_GA []) pe_cl pe_ckA t_XH_shapeBehind (td_t_XH_shapeBehind 1).1 (td_t_XH_shapeBehind 1).2 = true := by decide +kernel
set_option maxRecDepth 40000 in
theorem ok_t_XH_shapeBehind_2 : pe_ckB (pe_GA []) pe_cl pe_ckA t_XH_shapeBehind (td_t_XH_shapeBehind 2).1 (td_t_XH_shapeBehind 2).2 = true := by decide +kernel
set_option maxRecDepth 40000 in
theorem ok_t_XH_shapeBehind_3 : pe_ckB (pe_GA []) pe_cl pe_ckA t_XH_shapeBehind (td_t_XH_shapeBehind 3).1 (td_t_XH_shapeBehind 3).2 = true := by decide +kernel
theorem ok_t_XH_shapeBehind_a : ∀ b ∈ t_XH_shapeBehind.bl, pe_ckB (pe_GA []) pe_cl pe_ckA t_XH_shapeBehind b.1 b.2 = true := by
  intro b hb
  obtain ⟨n, hn⟩ := List.getElem?_of_mem hb
  rw [← pe_at_eq] at hn
  match n, hn with
  | 0, hn =>
    have h2 : td_t_XH_shapeBehind 0 = b := by unfold td_t_XH_shapeBehind; rw [hn]; rfl
    rw [← h2]; exact ok_t_XH_shapeBehind_0
  | 1, hn =>
    have h2 : td_t_XH_shapeBehind 1 = b := by unfold td_t_XH_shapeBehind; rw [hn]; rfl
    rw [← h2]; exact ok_t_XH_shapeBehind_1
  | 2, hn =>
    have h2 : td_t_XH_shapeBehind 2 = b := by unfold td_t_XH_shapeBehind; rw [hn]; rfl
    rw [← h2]; exact ok_t_XH_shapeBehind_2
  | 3, hn =>
    have h2 : td_t_XH_shapeBehind 3 = b := by unfold td_t_XH_shapeBehind; rw [hn]; rfl
    rw [← h2]; exact ok_t_XH_shapeBehind_3
  | n + 4, hn =>
    rw [pe_at_eq] at hn
    exact absurd (List.getElem?_eq_some_iff.mp hn).1 (by show ¬ n + 4 < 4; omega)
theorem ok_t_XH_shapeBehind : pe_okM (pe_GA []) pe_cl pe_ckA t_XH_shapeBehind = true := pe_okM_mk (pe_w_of (by rfl) (by rfl)) (by decide +kernel) ok_t_XH_shapeBehind_a
set_option maxRecDepth 40000 in
theorem ok_t_XH_holderOf : pe_okM (pe_GA []) pe_cl pe_ckA t_XH_holderOf = true := by decide +kernel
set_option maxRecDepth 40000 in
theorem ok_t_XH_reachShape : pe_okM (pe_GA []) pe_cl pe_ckA t_XH_reachShape = true := by decide +kernel
def td_t_XL_getter (k : Nat) : Nat × List pe_I := (pe_at t_XL_getter.bl k).getD (0, [])
set_option maxRecDepth 40000 in
theorem ok_t_XL_getter_0 : pe_ckB (pe_GA []) pe_cl pe_ckA t_XL_getter (td_t_XL_getter 0).1 (td_t_XL_getter 0).2 = true := by decide +kernel
set_option maxRecDepth 40000 in
theorem ok_t_XL_getter_1 : pe_ckB (pe_GA []) pe_cl pe_ckA t_XL_getter (td_t_XL_getter 1).1 (td_t_XL_getter 1).2 = true := by decide +kernel
set_option maxRecDepth 40000 in
theorem ok_t_XL_getter_2 : pe_ckB (pe_GA []) pe_cl pe_ckA t_XL_getter (td_t_XL_getter 2).1 (td_t_XL_getter 2).2 = true := by decide +kernel
set_option maxRecDepth 40000 in
theorem ok_t_XL_getter_3 : pe_ckB (pe_GA []) pe_cl pe_ckA t_XL_getter (td_t_XL_getter 3).1 (td_t_XL_getter 3).2 = true := by decide +kernel
set_option maxRecDepth 40000 in
theorem ok_t_XL_getter_4 : pe_ckB (pe_GA []) pe_cl pe_ckA t_XL_getter (td_t_XL_getter 4).1 (td_t_XL_getter 4).2 = true := by decide +kernel
set_option maxRecDepth 40000 in
theorem ok_t_XL_getter_5 : pe_ckB (pe_GA []) pe_cl pe_ckA t_XL_getter (td_t_XL_getter 5).1 (td_t_XL_getter 5).2 = true := by decide +kernel
set_option maxRecDepth 40000 in
theorem ok_t_XL_getter_6 : pe_ckB (pe_GA []) pe_cl pe_ckA t_XL_getter (td_t_XL_getter 6).1 (td_t_XL_getter 6).2 = true := by decide +kernel
set_option maxRecDepth 40000 in
theorem ok_t_XL_getter_7 : pe_ckB (pe_GA []) pe_cl pe_ckA t_XL_getter (td_t_XL_getter 7).1 (td_t_XL_getter 7).2 = true := by decide +kernel
theorem ok_t_XL_getter_a : ∀ b ∈ t_XL_getter.bl, pe_ckB (pe_GA []) pe_cl pe_ckA t_XL_getter b.1 b.2 = true := by
  intro b hb
  obtain ⟨n, hn⟩ := List.getElem?_of_mem hb
  rw [← pe_at_eq] at hn
  match n, hn with
  | 0, hn =>
    have h2 : td_t_XL_getter 0 = b := by unfold td_t_XL_getter; rw [hn]; rfl
    rw [← h2]; exact ok_t_XL_getter_0
  | 1, hn =>
    have h2 : td_t_XL_getter 1 = b := by unfold td_t_XL_getter; rw [hn]; rfl
    rw [← h2]; exact ok_t_XL_getter_1
  | 2, hn =>
    have h2 : td_t_XL_getter 2 = b := by unfold td_t_XL_getter; rw [hn]; rfl
    rw [← h2]; exact ok_t_XL_getter_2
  | 3, hn =>
    have h2 : td_t_XL_getter 3 = b := by unfold td_t_XL_getter; rw [hn]; rfl
    rw [← h2]; exact ok_t_XL_getter_3
  | 4, hn =>
    have h2 : td_t_XL_getter 4 = b := by unfold td_t_XL_getter; rw [hn]; rfl
    rw [← h2]; exact ok_t_XL_getter_4
  | 5, hn =>
    have h2 : td_t_XL_getter 5 = b := by unfold td_t_XL_getter; rw [hn]; rfl
    rw [← h2]; exact ok_t_XL_getter_5
  | 6, hn =>
    have h2 : td_t_XL_getter 6 = b := by unfold td_t_XL_getter; rw [hn]; rfl
    rw [← h2]; exact ok_t_XL_getter_6
  | 7, hn =>
    have h2 : td_t_XL_getter 7 = b := by unfold td_t_XL_getter; rw [hn]; rfl
    rw [← h2]; exact ok_t_XL_getter_7
  | n + 8, hn =>
    rw [pe_at_eq] at hn
    exact absurd (List.getElem?_eq_some_iff.mp hn).1 (by show ¬ n + 8 < 8; omega)
theorem ok_t_XL_getter : pe_okM (pe_GA []) pe_cl pe_ckA t_XL_getter = true := pe_okM_mk (pe_w_of (by rfl) (by rfl)) (by decide +kernel) ok_t_XL_getter_a
def td_t_XL_wordBehind (k : Nat) : Nat × List pe_I := (pe_at t_XL_wordBehind.bl k).getD (0, [])
set_option maxRecDepth 40000 in
theorem ok_t_XL_wordBehind_0 : pe_ckB (pe_GA []) pe_cl pe_ckA t_XL_wordBehind (td_t_XL_wordBehind 0).1 (td_t_XL_wordBehind 0).2 = true := by decide +kernel
set_option maxRecDepth 40000 in
theorem ok_t_XL_wordBehind_1 : pe_ckB (pe_GA []) pe_cl pe_ckA t_XL_wordBehind (td_t_XL_wordBehind 1).1 (td_t_XL_wordBehind 1).2 = true := by decide +kernel
set_option maxRecDepth 40000 in
theorem ok_t_XL_wordBehind_2 : pe_ckB (pe_GA []) pe_cl pe_ckA t_XL_wordBehind (td_t_XL_wordBehind 2).1 (td_t_XL_wordBehind 2).2 = true := by decide +kernel
set_option maxRecDepth 40000 in
theorem ok_t_XL_wordBehind_3 : pe_ckB (pe_GA []) pe_cl pe_ckA t_XL_wordBehind (td_t_XL_wordBehind 3).1 (td_t_XL_wordBehind 3).2 = true := by decide +kernel
set_option maxRecDepth 40000 in
theorem ok_t_XL_wordBehind_4 : pe_ckB (pe_GA []) pe_cl pe_ckA t_XL_wordBehind (td_t_XL_wordBehind 4).1 (td_t_XL_wordBehind 4).2 = true := by decide +kernel
theorem ok_t_XL_wordBehind_a : ∀ b ∈ t_XL_wordBehind.bl, pe_ckB (pe_GA []) pe_cl pe_ckA t_XL_wordBehind b.1 b.2 = true := by
  intro b hb
  obtain ⟨n, hn⟩ := List.getElem?_of_mem hb
  rw [← pe_at_eq] at hn
  match n, hn with
  | 0, hn =>
    have h2 : td_t_XL_wordBehind 0 = b := by unfold td_t_XL_wordBehind; rw [hn]; rfl
    rw [← h2]; exact ok_t_XL_wordBehind_0
  | 1, hn =>
    have h2 : td_t_XL_wordBehind 1 = b := by unfold td_t_XL_wordBehind; rw [hn]; rfl
    rw [← h2]; exact ok_t_XL_wordBehind_1
  | 2, hn =>
    have h2 : td_t_XL_wordBehind 2 = b := by unfold td_t_XL_wordBehind; rw [hn]; rfl
    rw [← h2]; exact ok_t_XL_wordBehind_2
  | 3, hn =>
    have h2 : td_t_XL_wordBehind 3 = b := by unfold td_t_XL_wordBehind; rw [hn]; rfl
    rw [← h2]; exact ok_t_XL_wordBehind_3
  | 4, hn =>
    have h2 : td_t_XL_wordBehind 4 = b := by unfold td_t_XL_wordBehind; rw [hn]; rfl
    rw [← h2]; exact ok_t_XL_wordBehind_4
  | n + 5, hn =>
    rw [pe_at_eq] at hn
    exact absurd (List.getElem?_eq_some_iff.mp hn).1 (by show ¬ n + 5 < 5; omega)
theorem ok_t_XL_wordBehind : pe_okM (pe_GA []) pe_cl pe_ckA t_XL_wordBehind = true := pe_okM_mk (pe_w_of (by rfl) (by rfl)) (by decide +kernel) ok_t_XL_wordBehind_a
def td_t_XO_choose (k : Nat) : Nat × List pe_I := (pe_at t_XO_choose.bl k).getD (0, [])
set_option maxRecDepth 40000 in
theorem ok_t_XO_choose_0 : pe_ckB (pe_GA []) pe_cl pe_ckA t_XO_choose (td_t_XO_choose 0).1 (td_t_XO_choose 0).2 = true := by decide +kernel
set_option maxRecDepth 40000 in
theorem ok_t_XO_choose_1 : pe_ckB (pe_GA []) pe_cl pe_ckA t_XO_choose (td_t_XO_choose 1).1 (td_t_XO_choose 1).2 = true := by decide +kernel
set_option maxRecDepth 40000 in
theorem ok_t_XO_choose_2 : pe_ckB (pe_GA []) pe_cl pe_ckA t_XO_choose (td_t_XO_choose 2).1 (td_t_XO_choose 2).2 = true := by decide +kernel
set_option maxRecDepth 40000 in
theorem ok_t_XO_choose_3 : pe_ckB (pe_GA []) pe_cl pe_ckA t_XO_choose (td_t_XO_choose 3).1 (td_t_XO_choose 3).2 = true := by decide +kernel
set_option maxRecDepth 40000 in
theorem ok_t_XO_choose_4 : pe_ckB (pe_GA []) pe_cl pe_ckA t_XO_choose (td_t_XO_choose 4).1 (td_t_XO_choose 4).2 = true := by decide +kernel
set_option maxRecDepth 40000 in
theorem ok_t_XO_choose_5 : pe_ckB (pe_GA []) pe_cl pe_ckA t_XO_choose (td_t_XO_choose 5).1 (td_t_XO_choose 5).2 = true := by decide +kernel
set_option maxRecDepth 40000 in
theorem ok_t_XO_choose_6 : pe_ckB (pe_GA []) pe_cl pe_ckA t_XO_choose (td_t_XO_choose 6).1 (td_t_XO_choose 6).2 = true := by decide +kernel
set_option maxRecDepth 40000 in
theorem ok_t_XO_choose_7 : pe_ckB (pe_GA []) pe_cl pe_ckA t_XO_choose (td_t_XO_choose 7).1 (td_t_XO_choose 7).2 = true := by decide +kernel
set_option maxRecDepth 40000 in
theorem ok_t_XO_choose_8 : pe_ckB (pe_GA []) pe_cl pe_ckA t_XO_choose (td_t_XO_choose 8).1 (td_t_XO_choose 8).2 = true := by decide +kernel
set_option maxRecDepth 40000 in
theorem ok_t_XO_choose_9 : pe_ckB (pe_GA []) pe_cl pe_ckA t_XO_choose (td_t_XO_choose 9).1 (td_t_XO_choose 9).2 = true := by decide +kernel
set_option maxRecDepth 40000 in
theorem ok_t_XO_choose_10 : pe_ckB (pe_GA []) pe_cl pe_ckA t_XO_choose (td_t_XO_choose 10).1 (td_t_XO_choose 10).2 = true := by decide +kernel
set_option maxRecDepth 40000 in
theorem ok_t_XO_choose_11 : pe_ckB (pe_GA []) pe_cl pe_ckA t_XO_choose (td_t_XO_choose 11).1 (td_t_XO_choose 11).2 = true := by decide +kernel
set_option maxRecDepth 40000 in
theorem ok_t_XO_choose_12 : pe_ckB (pe_GA []) pe_cl pe_ckA t_XO_choose (td_t_XO_choose 12).1 (td_t_XO_choose 12).2 = true := by decide +kernel
theorem ok_t_XO_choose_a : ∀ b ∈ t_XO_choose.bl, pe_ckB (pe_GA []) pe_cl pe_ckA t_XO_choose b.1 b.2 = true := by
  intro b hb
  obtain ⟨n, hn⟩ := List.getElem?_of_mem hb
  rw [← pe_at_eq] at hn
  match n, hn with
  | 0, hn =>
    have h2 : td_t_XO_choose 0 = b := by unfold td_t_XO_choose; rw [hn]; rfl
    rw [← h2]; exact ok_t_XO_choose_0
  | 1, hn =>
    have h2 : td_t_XO_choose 1 = b := by unfold td_t_XO_choose; rw [hn]; rfl
    rw [← h2]; exact ok_t_XO_choose_1
  | 2, hn =>
    have h2 : td_t_XO_choose 2 = b := by unfold td_t_XO_choose; rw [hn]; rfl
    rw [← h2]; exact ok_t_XO_choose_2
  | 3, hn =>
    have h2 : td_t_XO_choose 3 = b := by unfold td_t_XO_choose; rw [hn]; rfl
    rw [← h2]; exact ok_t_XO_choose_3
  | 4, hn =>
    have h2 : td_t_XO_choose 4 = b := by unfold td_t_XO_choose; rw [hn]; rfl
    rw [← h2]; exact ok_t_XO_choose_4
  | 5, hn =>
    have h2 : td_t_XO_choose 5 = b := by unfold td_t_XO_choose; rw [hn]; rfl
    rw [← h2]; exact ok_t_XO_choose_5
  | 6, hn =>
    have h2 : td_t_XO_choose 6 = b := by unfold td_t_XO_choose; rw [hn]; rfl
    rw [← h2]; exact ok_t_XO_choose_6
  | 7, hn =>
    have h2 : td_t_XO_choose 7 = b := by unfold td_t_XO_choose; rw [hn]; rfl
    rw [← h2]; exact ok_t_XO_choose_7
  | 8, hn =>
    have h2 : td_t_XO_choose 8 = b := by unfold td_t_XO_choose; rw [hn]; rfl
    rw [← h2]; exact ok_t_XO_choose_8
  | 9, hn =>
    have h2 : td_t_XO_choose 9 = b := by unfold td_t_XO_choose; rw [hn]; rfl
    rw [← h2]; exact ok_t_XO_choose_9
  | 10, hn =>
    have h2 : td_t_XO_choose 10 = b := by unfold td_t_XO_choose; rw [hn]; rfl
    rw [← h2]; exact ok_t_XO_choose_10
  | 11, hn =>
    have h2 : td_t_XO_choose 11 = b := by unfold td_t_XO_choose; rw [hn]; rfl
    rw [← h2]; exact ok_t_XO_choose_11
  | 12, hn =>
    have h2 : td_t_XO_choose 12 = b := by unfold td_t_XO_choose; rw [hn]; rfl
    rw [← h2]; exact ok_t_XO_choose_12
  | n + 13, hn =>
    rw [pe_at_eq] at hn
    exact absurd (List.getElem?_eq_some_iff.mp hn).1 (by show ¬ n + 13 < 13; omega)
theorem ok_t_XO_choose : pe_okM (pe_GA []) pe_cl pe_ckA t_XO_choose = true := pe_okM_mk (pe_w_of (by rfl) (by rfl)) (by decide +kernel) ok_t_XO_choose_a
set_option maxRecDepth 40000 in
theorem ok_t_XL_fieldOf : pe_okM (pe_GA []) pe_cl pe_ckA t_XL_fieldOf = true := by decide +kernel
set_option maxRecDepth 40000 in
theorem ok_t_XL_removeLast : pe_okM (pe_GA []) pe_cl pe_ckA t_XL_removeLast = true := by decide +kernel
def td_t_XK_canEnter (k : Nat) : Nat × List pe_I := (pe_at t_XK_canEnter.bl k).getD (0, [])
set_option maxRecDepth 40000 in
theorem ok_t_XK_canEnter_0 : pe_ckB (pe_GA []) pe_cl pe_ckA t_XK_canEnter (td_t_XK_canEnter 0).1 (td_t_XK_canEnter 0).2 = true := by decide +kernel
set_option maxRecDepth 40000 in
theorem ok_t_XK_canEnter_1 : pe_ckB (pe_GA []) pe_cl pe_ckA t_XK_canEnter (td_t_XK_canEnter 1).1 (td_t_XK_canEnter 1).2 = true := by decide +kernel
set_option maxRecDepth 40000 in
theorem ok_t_XK_canEnter_2 : pe_ckB (pe_GA []) pe_cl pe_ckA t_XK_canEnter (td_t_XK_canEnter 2).1 (td_t_XK_canEnter 2).2 = true := by decide +kernel
set_option maxRecDepth 40000 in
theorem ok_t_XK_canEnter_3 : pe_ckB (pe_GA []) pe_cl pe_ckA t_XK_canEnter (td_t_XK_canEnter 3).1 (td_t_XK_canEnter 3).2 = true := by decide +kernel
set_option maxRecDepth 40000 in
theorem ok_t_XK_canEnter_4 : pe_ckB (pe_GA []) pe_cl pe_ckA t_XK_canEnter (td_t_XK_canEnter 4).1 (td_t_XK_canEnter 4).2 = true := by decide +kernel
set_option maxRecDepth 40000 in
theorem ok_t_XK_canEnter_5 : pe_ckB (pe_GA []) pe_cl pe_ckA t_XK_canEnter (td_t_XK_canEnter 5).1 (td_t_XK_canEnter 5).2 = true := by decide +kernel
theorem ok_t_XK_canEnter_a : ∀ b ∈ t_XK_canEnter.bl, pe_ckB (pe_GA []) pe_cl pe_ckA t_XK_canEnter b.1 b.2 = true := by
  intro b hb
  obtain ⟨n, hn⟩ := List.getElem?_of_mem hb
  rw [← pe_at_eq] at hn
  match n, hn with
  | 0, hn =>
    have h2 : td_t_XK_canEnter 0 = b := by unfold td_t_XK_canEnter; rw [hn]; rfl
    rw [← h2]; exact ok_t_XK_canEnter_0
  | 1, hn =>
    have h2 : td_t_XK_canEnter 1 = b := by unfold td_t_XK_canEnter; rw [hn]; rfl
    rw [← h2]; exact ok_t_XK_canEnter_1
  | 2, hn =>
    have h2 : td_t_XK_canEnter 2 = b := by unfold td_t_XK_canEnter; rw [hn]; rfl
    rw [← h2]; exact ok_t_XK_canEnter_2
  | 3, hn =>
    have h2 : td_t_XK_canEnter 3 = b := by unfold td_t_XK_canEnter; rw [hn]; rfl
    rw [← h2]; exact ok_t_XK_canEnter_3
  | 4, hn =>
    have h2 : td_t_XK_canEnter 4 = b := by unfold td_t_XK_canEnter; rw [hn]; rfl
    rw [← h2]; exact ok_t_XK_canEnter_4
  | 5, hn =>
    have h2 : td_t_XK_canEnter 5 = b := by unfold td_t_XK_canEnter; rw [hn]; rfl
    rw [← h2]; exact ok_t_XK_canEnter_5
  | n + 6, hn =>
    rw [pe_at_eq] at hn
    exact absurd (List.getElem?_eq_some_iff.mp hn).1 (by show ¬ n + 6 < 6; omega)
theorem ok_t_XK_canEnter : pe_okM (pe_GA []) pe_cl pe_ckA t_XK_canEnter = true := pe_okM_mk (pe_w_of (by rfl) (by rfl)) (by decide +kernel) ok_t_XK_canEnter_a
set_option maxRecDepth 40000 in
theorem ok_t_XH_hasObjectRoom : pe_okM (pe_GA []) pe_cl pe_ckA t_XH_hasObjectRoom = true := by decide +kernel
set_option maxRecDepth 40000 in
theorem ok_t_XH_bareShape : pe_okM (pe_GA []) pe_cl pe_ckA t_XH_bareShape = true := by decide +kernel
def td_t_XH_addThing (k : Nat) : Nat × List pe_I := (pe_at t_XH_addThing.bl k).getD (0, [])
set_option maxRecDepth 40000 in
theorem ok_t_XH_addThing_0 : pe_ckB (pe_GA []) pe_cl pe_ckA t_XH_addThing (td_t_XH_addThing 0).1 (td_t_XH_addThing 0).2 = true := by decide +kernel
set_option maxRecDepth 40000 in
theorem ok_t_XH_addThing_1 : pe_ckB (pe_GA []) pe_cl pe_ckA t_XH_addThing (td_t_XH_addThing 1).1 (td_t_XH_addThing 1).2 = true := by decide +kernel
set_option maxRecDepth 40000 in
theorem ok_t_XH_addThing_2 : pe_ckB (pe_GA []) pe_cl pe_ckA t_XH_addThing (td_t_XH_addThing 2).1 (td_t_XH_addThing 2).2 = true := by decide +kernel
theorem ok_t_XH_addThing_a : ∀ b ∈ t_XH_addThing.bl, pe_ckB (pe_GA []) pe_cl pe_ckA t_XH_addThing b.1 b.2 = true := by
  intro b hb
  obtain ⟨n, hn⟩ := List.getElem?_of_mem hb
  rw [← pe_at_eq] at hn
  match n, hn with
  | 0, hn =>
    have h2 : td_t_XH_addThing 0 = b := by unfold td_t_XH_addThing; rw [hn]; rfl
    rw [← h2]; exact ok_t_XH_addThing_0
  | 1, hn =>
    have h2 : td_t_XH_addThing 1 = b := by unfold td_t_XH_addThing; rw [hn]; rfl
    rw [← h2]; exact ok_t_XH_addThing_1
  | 2, hn =>
    have h2 : td_t_XH_addThing 2 = b := by unfold td_t_XH_addThing; rw [hn]; rfl
    rw [← h2]; exact ok_t_XH_addThing_2
  | n + 3, hn =>
    rw [pe_at_eq] at hn
    exact absurd (List.getElem?_eq_some_iff.mp hn).1 (by show ¬ n + 3 < 3; omega)
theorem ok_t_XH_addThing : pe_okM (pe_GA []) pe_cl pe_ckA t_XH_addThing = true := pe_okM_mk (pe_w_of (by rfl) (by rfl)) (by decide +kernel) ok_t_XH_addThing_a
def td_t_XK_enter (k : Nat) : Nat × List pe_I := (pe_at t_XK_enter.bl k).getD (0, [])
set_option maxRecDepth 40000 in
theorem ok_t_XK_enter_0 : pe_ckB (pe_GA []) pe_cl pe_ckA t_XK_enter (td_t_XK_enter 0).1 (td_t_XK_enter 0).2 = true := by decide +kernel
set_option maxRecDepth 40000 in
theorem ok_t_XK_enter_1 : pe_ckB (pe_GA []) pe_cl pe_ckA t_XK_enter (td_t_XK_enter 1).1 (td_t_XK_enter 1).2 = true := by decide +kernel
set_option maxRecDepth 40000 in
theorem ok_t_XK_enter_2 : pe_ckB (pe_GA []) pe_cl pe_ckA t_XK_enter (td_t_XK_enter 2).1 (td_t_XK_enter 2).2 = true := by decide +kernel
set_option maxRecDepth 40000 in
theorem ok_t_XK_enter_3 : pe_ckB (pe_GA []) pe_cl pe_ckA t_XK_enter (td_t_XK_enter 3).1 (td_t_XK_enter 3).2 = true := by decide +kernel
set_option maxRecDepth 40000 in
theorem ok_t_XK_enter_4 : pe_ckB (pe_GA []) pe_cl pe_ckA t_XK_enter (td_t_XK_enter 4).1 (td_t_XK_enter 4).2 = true := by decide +kernel
set_option maxRecDepth 40000 in
theorem ok_t_XK_enter_5 : pe_ckB (pe_GA []) pe_cl pe_ckA t_XK_enter (td_t_XK_enter 5).1 (td_t_XK_enter 5).2 = true := by decide +kernel
theorem ok_t_XK_enter_a : ∀ b ∈ t_XK_enter.bl, pe_ckB (pe_GA []) pe_cl pe_ckA t_XK_enter b.1 b.2 = true := by
  intro b hb
  obtain ⟨n, hn⟩ := List.getElem?_of_mem hb
  rw [← pe_at_eq] at hn
  match n, hn with
  | 0, hn =>
    have h2 : td_t_XK_enter 0 = b := by unfold td_t_XK_enter; rw [hn]; rfl
    rw [← h2]; exact ok_t_XK_enter_0
  | 1, hn =>
    have h2 : td_t_XK_enter 1 = b := by unfold td_t_XK_enter; rw [hn]; rfl
    rw [← h2]; exact ok_t_XK_enter_1
  | 2, hn =>
    have h2 : td_t_XK_enter 2 = b := by unfold td_t_XK_enter; rw [hn]; rfl
    rw [← h2]; exact ok_t_XK_enter_2
  | 3, hn =>
    have h2 : td_t_XK_enter 3 = b := by unfold td_t_XK_enter; rw [hn]; rfl
    rw [← h2]; exact ok_t_XK_enter_3
  | 4, hn =>
    have h2 : td_t_XK_enter 4 = b := by unfold td_t_XK_enter; rw [hn]; rfl
    rw [← h2]; exact ok_t_XK_enter_4
  | 5, hn =>
    have h2 : td_t_XK_enter 5 = b := by unfold td_t_XK_enter; rw [hn]; rfl
    rw [← h2]; exact ok_t_XK_enter_5
  | n + 6, hn =>
    rw [pe_at_eq] at hn
    exact absurd (List.getElem?_eq_some_iff.mp hn).1 (by show ¬ n + 6 < 6; omega)
theorem ok_t_XK_enter : pe_okM (pe_GA []) pe_cl pe_ckA t_XK_enter = true := pe_okM_mk (pe_w_of (by rfl) (by rfl)) (by decide +kernel) ok_t_XK_enter_a
