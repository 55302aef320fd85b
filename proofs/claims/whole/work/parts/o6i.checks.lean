/-! PART o6i: tables checked once. -/
set_option maxRecDepth 40000 in
theorem ok_t_XP_readVar : pe_okM (pe_GA []) pe_cl pe_ckA t_XP_readVar = true := by decide +kernel
set_option maxRecDepth 40000 in
theorem ok_t_XP_readFun : pe_okM (pe_GA []) pe_cl pe_ckA t_XP_readFun = true := by decide +kernel
def td_t_XP_readIf (k : Nat) : Nat × List pe_I := (pe_at t_XP_readIf.bl k).getD (0, [])
set_option maxRecDepth 40000 in
theorem ok_t_XP_readIf_0 : pe_ckB (pe_GA []) pe_cl pe_ckA t_XP_readIf (td_t_XP_readIf 0).1 (td_t_XP_readIf 0).2 = true := by decide +kernel
set_option maxRecDepth 40000 in
theorem ok_t_XP_readIf_1 : pe_ckB (pe_GA []) pe_cl pe_ckA t_XP_readIf (td_t_XP_readIf 1).1 (td_t_XP_readIf 1).2 = true := by decide +kernel
set_option maxRecDepth 40000 in
theorem ok_t_XP_readIf_2 : pe_ckB (pe_GA []) pe_cl pe_ckA t_XP_readIf (td_t_XP_readIf 2).1 (td_t_XP_readIf 2).2 = true := by decide +kernel
set_option maxRecDepth 40000 in
theorem ok_t_XP_readIf_3 : pe_ckB (pe_GA []) pe_cl pe_ckA t_XP_readIf (td_t_XP_readIf 3).1 (td_t_XP_readIf 3).2 = true := by decide +kernel
set_option maxRecDepth 40000 in
theorem ok_t_XP_readIf_4 : pe_ckB (pe_GA []) pe_cl pe_ckA t_XP_readIf (td_t_XP_readIf 4).1 (td_t_XP_readIf 4).2 = true := by decide +kernel
set_option maxRecDepth 40000 in
theorem ok_t_XP_readIf_5 : pe_ckB (pe_GA []) pe_cl pe_ckA t_XP_readIf (td_t_XP_readIf 5).1 (td_t_XP_readIf 5).2 = true := by decide +kernel
set_option maxRecDepth 40000 in
theorem ok_t_XP_readIf_6 : pe_ckB (pe_GA []) pe_cl pe_ckA t_XP_readIf (td_t_XP_readIf 6).1 (td_t_XP_readIf 6).2 = true := by decide +kernel
set_option maxRecDepth 40000 in
theorem ok_t_XP_readIf_7 : pe_ckB (pe_GA []) pe_cl pe_ckA t_XP_readIf (td_t_XP_readIf 7).1 (td_t_XP_readIf 7).2 = true := by decide +kernel
set_option maxRecDepth 40000 in
theorem ok_t_XP_readIf_8 : pe_ckB (pe_GA []) pe_cl pe_ckA t_XP_readIf (td_t_XP_readIf 8).1 (td_t_XP_readIf 8).2 = true := by decide +kernel
set_option maxRecDepth 40000 in
theorem ok_t_XP_readIf_9 : pe_ckB (pe_GA []) pe_cl pe_ckA t_XP_readIf (td_t_XP_readIf 9).1 (td_t_XP_readIf 9).2 = true := by decide +kernel
theorem ok_t_XP_readIf_a : ∀ b ∈ t_XP_readIf.bl, pe_ckB (pe_GA []) pe_cl pe_ckA t_XP_readIf b.1 b.2 = true := by
  intro b hb
  obtain ⟨n, hn⟩ := List.getElem?_of_mem hb
  rw [← pe_at_eq] at hn
  match n, hn with
  | 0, hn =>
    have h2 : td_t_XP_readIf 0 = b := by unfold td_t_XP_readIf; rw [hn]; rfl
    rw [← h2]; exact ok_t_XP_readIf_0
  | 1, hn =>
    have h2 : td_t_XP_readIf 1 = b := by unfold td_t_XP_readIf; rw [hn]; rfl
    rw [← h2]; exact ok_t_XP_readIf_1
  | 2, hn =>
    have h2 : td_t_XP_readIf 2 = b := by unfold td_t_XP_readIf; rw [hn]; rfl
    rw [← h2]; exact ok_t_XP_readIf_2
  | 3, hn =>
    have h2 : td_t_XP_readIf 3 = b := by unfold td_t_XP_readIf; rw [hn]; rfl
    rw [← h2]; exact ok_t_XP_readIf_3
  | 4, hn =>
    have h2 : td_t_XP_readIf 4 = b := by unfold td_t_XP_readIf; rw [hn]; rfl
    rw [← h2]; exact ok_t_XP_readIf_4
  | 5, hn =>
    have h2 : td_t_XP_readIf 5 = b := by unfold td_t_XP_readIf; rw [hn]; rfl
    rw [← h2]; exact ok_t_XP_readIf_5
  | 6, hn =>
    have h2 : td_t_XP_readIf 6 = b := by unfold td_t_XP_readIf; rw [hn]; rfl
    rw [← h2]; exact ok_t_XP_readIf_6
  | 7, hn =>
    have h2 : td_t_XP_readIf 7 = b := by unfold td_t_XP_readIf; rw [hn]; rfl
    rw [← h2]; exact ok_t_XP_readIf_7
  | 8, hn =>
    have h2 : td_t_XP_readIf 8 = b := by unfold td_t_XP_readIf; rw [hn]; rfl
    rw [← h2]; exact ok_t_XP_readIf_8
  | 9, hn =>
    have h2 : td_t_XP_readIf 9 = b := by unfold td_t_XP_readIf; rw [hn]; rfl
    rw [← h2]; exact ok_t_XP_readIf_9
  | n + 10, hn =>
    rw [pe_at_eq] at hn
    exact absurd (List.getElem?_eq_some_iff.mp hn).1 (by show ¬ n + 10 < 10; omega)
theorem ok_t_XP_readIf : pe_okM (pe_GA []) pe_cl pe_ckA t_XP_readIf = true := pe_okM_mk (pe_w_of (by rfl) (by rfl)) (by decide +kernel) ok_t_XP_readIf_a
set_option maxRecDepth 40000 in
theorem ok_t_XP_readWhile : pe_okM (pe_GA []) pe_cl pe_ckA t_XP_readWhile = true := by decide +kernel
def td_t_XP_readLeaving (k : Nat) : Nat × List pe_I := (pe_at t_XP_readLeaving.bl k).getD (0, [])
set_option maxRecDepth 40000 in
theorem ok_t_XP_readLeaving_0 : pe_ckB (pe_GA []) pe_cl pe_ckA t_XP_readLeaving (td_t_XP_readLeaving 0).1 (td_t_XP_readLeaving 0).2 = true := by decide +kernel
set_option maxRecDepth 40000 in
theorem ok_t_XP_readLeaving_1 : pe_ckB (pe_GA []) pe_cl pe_ckA t_XP_readLeaving (td_t_XP_readLeaving 1).1 (td_t_XP_readLeaving 1).2 = true := by decide +kernel
set_option maxRecDepth 40000 in
theorem ok_t_XP_readLeaving_2 : pe_ckB (pe_GA []) pe_cl pe_ckA t_XP_readLeaving (td_t_XP_readLeaving 2).1 (td_t_XP_readLeaving 2).2 = true := by decide +kernel
set_option maxRecDepth 40000 in
theorem ok_t_XP_readLeaving_3 : pe_ckB (pe_GA []) pe_cl pe_ckA t_XP_readLeaving (td_t_XP_readLeaving 3).1 (td_t_XP_readLeaving 3).2 = true := by decide +kernel
set_option maxRecDepth 40000 in
theorem ok_t_XP_readLeaving_4 : pe_ckB (pe_GA []) pe_cl pe_ckA t_XP_readLeaving (td_t_XP_readLeaving 4).1 (td_t_XP_readLeaving 4).2 = true := by decide +kernel
set_option maxRecDepth 40000 in
theorem ok_t_XP_readLeaving_5 : pe_ckB (pe_GA []) pe_cl pe_ckA t_XP_readLeaving (td_t_XP_readLeaving 5).1 (td_t_XP_readLeaving 5).2 = true := by decide +kernel
set_option maxRecDepth 40000 in
theorem ok_t_XP_readLeaving_6 : pe_ckB (pe_GA []) pe_cl pe_ckA t_XP_readLeaving (td_t_XP_readLeaving 6).1 (td_t_XP_readLeaving 6).2 = true := by decide +kernel
theorem ok_t_XP_readLeaving_a : ∀ b ∈ t_XP_readLeaving.bl, pe_ckB (pe_GA []) pe_cl pe_ckA t_XP_readLeaving b.1 b.2 = true := by
  intro b hb
  obtain ⟨n, hn⟩ := List.getElem?_of_mem hb
  rw [← pe_at_eq] at hn
  match n, hn with
  | 0, hn =>
    have h2 : td_t_XP_readLeaving 0 = b := by unfold td_t_XP_readLeaving; rw [hn]; rfl
    rw [← h2]; exact ok_t_XP_readLeaving_0
  | 1, hn =>
    have h2 : td_t_XP_readLeaving 1 = b := by unfold td_t_XP_readLeaving; rw [hn]; rfl
    rw [← h2]; exact ok_t_XP_readLeaving_1
  | 2, hn =>
    have h2 : td_t_XP_readLeaving 2 = b := by unfold td_t_XP_readLeaving; rw [hn]; rfl
    rw [← h2]; exact ok_t_XP_readLeaving_2
  | 3, hn =>
    have h2 : td_t_XP_readLeaving 3 = b := by unfold td_t_XP_readLeaving; rw [hn]; rfl
    rw [← h2]; exact ok_t_XP_readLeaving_3
  | 4, hn =>
    have h2 : td_t_XP_readLeaving 4 = b := by unfold td_t_XP_readLeaving; rw [hn]; rfl
    rw [← h2]; exact ok_t_XP_readLeaving_4
  | 5, hn =>
    have h2 : td_t_XP_readLeaving 5 = b := by unfold td_t_XP_readLeaving; rw [hn]; rfl
    rw [← h2]; exact ok_t_XP_readLeaving_5
  | 6, hn =>
    have h2 : td_t_XP_readLeaving 6 = b := by unfold td_t_XP_readLeaving; rw [hn]; rfl
    rw [← h2]; exact ok_t_XP_readLeaving_6
  | n + 7, hn =>
    rw [pe_at_eq] at hn
    exact absurd (List.getElem?_eq_some_iff.mp hn).1 (by show ¬ n + 7 < 7; omega)
theorem ok_t_XP_readLeaving : pe_okM (pe_GA []) pe_cl pe_ckA t_XP_readLeaving = true := pe_okM_mk (pe_w_of (by rfl) (by rfl)) (by decide +kernel) ok_t_XP_readLeaving_a
set_option maxRecDepth 40000 in
theorem ok_t_XP_readTry : pe_okM (pe_GA []) pe_cl pe_ckA t_XP_readTry = true := by decide +kernel
set_option maxRecDepth 40000 in
theorem ok_t_XP_readPlain : pe_okM (pe_GA []) pe_cl pe_ckA t_XP_readPlain = true := by decide +kernel
def td_t_XP_note (k : Nat) : Nat × List pe_I := (pe_at t_XP_note.bl k).getD (0, [])
set_option maxRecDepth 40000 in
theorem ok_t_XP_note_0 : pe_ckB (pe_GA []) pe_cl pe_ckA t_XP_note (td_t_XP_note 0).1 (td_t_XP_note 0).2 = true := by decide +kernel
set_option maxRecDepth 40000 in
theorem ok_t_XP_note_1 : pe_ckB (pe_GA []) pe_cl pe_ckA t_XP_note (td_t_XP_note 1).1 (td_t_XP_note 1).2 = true := by decide +kernel
set_option maxRecDepth 40000 in
theorem ok_t_XP_note_2 : pe_ckB (pe_GA []) pe_cl pe_ckA t_XP_note (td_t_XP_note 2).1 (td_t_XP_note 2).2 = true := by decide +kernel
set_option maxRecDepth 40000 in
theorem ok_t_XP_note_3 : pe_ckB (pe_GA []) pe_cl pe_ckA t_XP_note (td_t_XP_note 3).1 (td_t_XP_note 3).2 = true := by decide +kernel
theorem ok_t_XP_note_a : ∀ b ∈ t_XP_note.bl, pe_ckB (pe_GA []) pe_cl pe_ckA t_XP_note b.1 b.2 = true := by
  intro b hb
  obtain ⟨n, hn⟩ := List.getElem?_of_mem hb
  rw [← pe_at_eq] at hn
  match n, hn with
  | 0, hn =>
    have h2 : td_t_XP_note 0 = b := by unfold td_t_XP_note; rw [hn]; rfl
    rw [← h2]; exact ok_t_XP_note_0
  | 1, hn =>
    have h2 : td_t_XP_note 1 = b := by unfold td_t_XP_note; rw [hn]; rfl
    rw [← h2]; exact ok_t_XP_note_1
  | 2, hn =>
    have h2 : td_t_XP_note 2 = b := by unfold td_t_XP_note; rw [hn]; rfl
    rw [← h2]; exact ok_t_XP_note_2
  | 3, hn =>
    have h2 : td_t_XP_note 3 = b := by unfold td_t_XP_note; rw [hn]; rfl
    rw [← h2]; exact ok_t_XP_note_3
  | n + 4, hn =>
    rw [pe_at_eq] at hn
    exact absurd (List.getElem?_eq_some_iff.mp hn).1 (by show ¬ n + 4 < 4; omega)
theorem ok_t_XP_note : pe_okM (pe_GA []) pe_cl pe_ckA t_XP_note = true := pe_okM_mk (pe_w_of (by rfl) (by rfl)) (by decide +kernel) ok_t_XP_note_a
def td_t_XC_descriptorOf (k : Nat) : Nat × List pe_I := (pe_at t_XC_descriptorOf.bl k).getD (0, [])
set_option maxRecDepth 40000 in
theorem ok_t_XC_descriptorOf_0 : pe_ckB (pe_GA []) pe_cl pe_ckA t_XC_descriptorOf (td_t_XC_descriptorOf 0).1 (td_t_XC_descriptorOf 0).2 = true := by decide +kernel
set_option maxRecDepth 40000 in
theorem ok_t_XC_descriptorOf_1 : pe_ckB (pe_GA []) pe_cl pe_ckA t_XC_descriptorOf (td_t_XC_descriptorOf 1).1 (td_t_XC_descriptorOf 1).2 = true := by decide +kernel
set_option maxRecDepth 40000 in
theorem ok_t_XC_descriptorOf_2 : pe_ckB (pe_GA []) pe_cl pe_ckA t_XC_descriptorOf (td_t_XC_descriptorOf 2).1 (td_t_XC_descriptorOf 2).2 = true := by decide +kernel
set_option maxRecDepth 40000 in
theorem ok_t_XC_descriptorOf_3 : pe_ckB (pe_GA []) pe_cl pe_ckA t_XC_descriptorOf (td_t_XC_descriptorOf 3).1 (td_t_XC_descriptorOf 3).2 = true := by decide +kernel
set_option maxRecDepth 40000 in
theorem ok_t_XC_descriptorOf_4 : pe_ckB (pe_GA []) pe_cl pe_ckA t_XC_descriptorOf (td_t_XC_descriptorOf 4).1 (td_t_XC_descriptorOf 4).2 = true := by decide +kernel
set_option maxRecDepth 40000 in
theorem ok_t_XC_descriptorOf_5 : pe_ckB (pe_GA []) pe_cl pe_ckA t_XC_descriptorOf (td_t_XC_descriptorOf 5).1 (td_t_XC_descriptorOf 5).2 = true := by decide +kernel
theorem ok_t_XC_descriptorOf_a : ∀ b ∈ t_XC_descriptorOf.bl, pe_ckB (pe_GA []) pe_cl pe_ckA t_XC_descriptorOf b.1 b.2 = true := by
  intro b hb
  obtain ⟨n, hn⟩ := List.getElem?_of_mem hb
  rw [← pe_at_eq] at hn
  match n, hn with
  | 0, hn =>
    have h2 : td_t_XC_descriptorOf 0 = b := by unfold td_t_XC_descriptorOf; rw [hn]; rfl
    rw [← h2]; exact ok_t_XC_descriptorOf_0
  | 1, hn =>
    have h2 : td_t_XC_descriptorOf 1 = b := by unfold td_t_XC_descriptorOf; rw [hn]; rfl
    rw [← h2]; exact ok_t_XC_descriptorOf_1
  | 2, hn =>
    have h2 : td_t_XC_descriptorOf 2 = b := by unfold td_t_XC_descriptorOf; rw [hn]; rfl
    rw [← h2]; exact ok_t_XC_descriptorOf_2
  | 3, hn =>
    have h2 : td_t_XC_descriptorOf 3 = b := by unfold td_t_XC_descriptorOf; rw [hn]; rfl
    rw [← h2]; exact ok_t_XC_descriptorOf_3
  | 4, hn =>
    have h2 : td_t_XC_descriptorOf 4 = b := by unfold td_t_XC_descriptorOf; rw [hn]; rfl
    rw [← h2]; exact ok_t_XC_descriptorOf_4
  | 5, hn =>
    have h2 : td_t_XC_descriptorOf 5 = b := by unfold td_t_XC_descriptorOf; rw [hn]; rfl
    rw [← h2]; exact ok_t_XC_descriptorOf_5
  | n + 6, hn =>
    rw [pe_at_eq] at hn
    exact absurd (List.getElem?_eq_some_iff.mp hn).1 (by show ¬ n + 6 < 6; omega)
theorem ok_t_XC_descriptorOf : pe_okM (pe_GA []) pe_cl pe_ckA t_XC_descriptorOf = true := pe_okM_mk (pe_w_of (by rfl) (by rfl)) (by decide +kernel) ok_t_XC_descriptorOf_a
set_option maxRecDepth 40000 in
theorem ok_t_XP_variableOf : pe_okM (pe_GA []) pe_cl pe_ckA t_XP_variableOf = true := by decide +kernel
set_option maxRecDepth 40000 in
theorem ok_t_M_isName : pe_okM (pe_GA []) pe_cl pe_ckA t_M_isName = true := by decide +kernel
def td_t_M_takesName (k : Nat) : Nat × List pe_I := (pe_at t_M_takesName.bl k).getD (0, [])
set_option maxRecDepth 40000 in
theorem ok_t_M_takesName_0 : pe_ckB (pe_GA []) pe_cl pe_ckA t_M_takesName (td_t_M_takesName 0).1 (td_t_M_takesName 0).2 = true := by decide +kernel
set_option maxRecDepth 40000 in
theorem ok_t_M_takesName_1 : pe_ckB (pe_GA []) pe_cl pe_ckA t_M_takesName (td_t_M_takesName 1).1 (td_t_M_takesName 1).2 = true := by decide +kernel
set_option maxRecDepth 40000 in
theorem ok_t_M_takesName_2 : pe_ckB (pe_GA []) pe_cl pe_ckA t_M_takesName (td_t_M_takesName 2).1 (td_t_M_takesName 2).2 = true := by decide +kernel
set_option maxRecDepth 40000 in
theorem ok_t_M_takesName_3 : pe_ckB (pe_GA []) pe_cl pe_ckA t_M_takesName (td_t_M_takesName 3).1 (td_t_M_takesName 3).2 = true := by decide +kernel
theorem ok_t_M_takesName_a : ∀ b ∈ t_M_takesName.bl, pe_ckB (pe_GA []) pe_cl pe_ckA t_M_takesName b.1 b.2 = true := by
  intro b hb
  obtain ⟨n, hn⟩ := List.getElem?_of_mem hb
  rw [← pe_at_eq] at hn
  match n, hn with
  | 0, hn =>
    have h2 : td_t_M_takesName 0 = b := by unfold td_t_M_takesName; rw [hn]; rfl
    rw [← h2]; exact ok_t_M_takesName_0
  | 1, hn =>
    have h2 : td_t_M_takesName 1 = b := by unfold td_t_M_takesName; rw [hn]; rfl
    rw [← h2]; exact ok_t_M_takesName_1
  | 2, hn =>
    have h2 : td_t_M_takesName 2 = b := by unfold td_t_M_takesName; rw [hn]; rfl
    rw [← h2]; exact ok_t_M_takesName_2
  | 3, hn =>
    have h2 : td_t_M_takesName 3 = b := by unfold td_t_M_takesName; rw [hn]; rfl
    rw [← h2]; exact ok_t_M_takesName_3
  | n + 4, hn =>
    rw [pe_at_eq] at hn
    exact absurd (List.getElem?_eq_some_iff.mp hn).1 (by show ¬ n + 4 < 4; omega)
theorem ok_t_M_takesName : pe_okM (pe_GA []) pe_cl pe_ckA t_M_takesName = true := pe_okM_mk (pe_w_of (by rfl) (by rfl)) (by decide +kernel) ok_t_M_takesName_a
set_option maxRecDepth 40000 in
theorem ok_t_M_or : pe_okM (pe_GA []) pe_cl pe_ckA t_M_or = true := by decide +kernel
set_option maxRecDepth 40000 in
theorem ok_t_M_deeper : pe_okM (pe_GA []) pe_cl pe_ckA t_M_deeper = true := by decide +kernel
set_option maxRecDepth 40000 in
theorem ok_t_M_dropsSite : pe_okM (pe_GA []) pe_cl pe_ckA t_M_dropsSite = true := by decide +kernel
set_option maxRecDepth 40000 in
theorem ok_t_MP_drop : pe_okM (pe_GA []) pe_cl pe_ckA t_MP_drop = true := by decide +kernel
set_option maxRecDepth 40000 in
theorem ok_t_M_newSite : pe_okM (pe_GA []) pe_cl pe_ckA t_M_newSite = true := by decide +kernel
set_option maxRecDepth 40000 in
theorem ok_t_MP_add : pe_okM (pe_GA []) pe_cl pe_ckA t_MP_add = true := by decide +kernel
def td_t_M_parameter (k : Nat) : Nat × List pe_I := (pe_at t_M_parameter.bl k).getD (0, [])
set_option maxRecDepth 40000 in
theorem ok_t_M_parameter_0 : pe_ckB (pe_GA []) pe_cl pe_ckA t_M_parameter (td_t_M_parameter 0).1 (td_t_M_parameter 0).2 = true := by decide +kernel
set_option maxRecDepth 40000 in
theorem ok_t_M_parameter_1 : pe_ckB (pe_GA []) pe_cl pe_ckA t_M_parameter (td_t_M_parameter 1).1 (td_t_M_parameter 1).2 = true := by decide +kernel
set_option maxRecDepth 40000 in
theorem ok_t_M_parameter_2 : pe_ckB (pe_GA []) pe_cl pe_ckA t_M_parameter (td_t_M_parameter 2).1 (td_t_M_parameter 2).2 = true := by decide +kernel
set_option maxRecDepth 40000 in
theorem ok_t_M_parameter_3 : pe_ckB (pe_GA []) pe_cl pe_ckA t_M_parameter (td_t_M_parameter 3).1 (td_t_M_parameter 3).2 = true := by decide +kernel
set_option maxRecDepth 40000 in
theorem ok_t_M_parameter_4 : pe_ckB (pe_GA []) pe_cl pe_ckA t_M_parameter (td_t_M_parameter 4).1 (td_t_M_parameter 4).2 = true := by decide +kernel
set_option maxRecDepth 40000 in
theorem ok_t_M_parameter_5 : pe_ckB (pe_GA []) pe_cl pe_ckA t_M_parameter (td_t_M_parameter 5).1 (td_t_M_parameter 5).2 = true := by decide +kernel
theorem ok_t_M_parameter_a : ∀ b ∈ t_M_parameter.bl, pe_ckB (pe_GA []) pe_cl pe_ckA t_M_parameter b.1 b.2 = true := by
  intro b hb
  obtain ⟨n, hn⟩ := List.getElem?_of_mem hb
  rw [← pe_at_eq] at hn
  match n, hn with
  | 0, hn =>
    have h2 : td_t_M_parameter 0 = b := by unfold td_t_M_parameter; rw [hn]; rfl
    rw [← h2]; exact ok_t_M_parameter_0
  | 1, hn =>
    have h2 : td_t_M_parameter 1 = b := by unfold td_t_M_parameter; rw [hn]; rfl
    rw [← h2]; exact ok_t_M_parameter_1
  | 2, hn =>
    have h2 : td_t_M_parameter 2 = b := by unfold td_t_M_parameter; rw [hn]; rfl
    rw [← h2]; exact ok_t_M_parameter_2
  | 3, hn =>
    have h2 : td_t_M_parameter 3 = b := by unfold td_t_M_parameter; rw [hn]; rfl
    rw [← h2]; exact ok_t_M_parameter_3
  | 4, hn =>
    have h2 : td_t_M_parameter 4 = b := by unfold td_t_M_parameter; rw [hn]; rfl
    rw [← h2]; exact ok_t_M_parameter_4
  | 5, hn =>
    have h2 : td_t_M_parameter 5 = b := by unfold td_t_M_parameter; rw [hn]; rfl
    rw [← h2]; exact ok_t_M_parameter_5
  | n + 6, hn =>
    rw [pe_at_eq] at hn
    exact absurd (List.getElem?_eq_some_iff.mp hn).1 (by show ¬ n + 6 < 6; omega)
theorem ok_t_M_parameter : pe_okM (pe_GA []) pe_cl pe_ckA t_M_parameter = true := pe_okM_mk (pe_w_of (by rfl) (by rfl)) (by decide +kernel) ok_t_M_parameter_a
set_option maxRecDepth 40000 in
theorem ok_t_JA_copyOf_3 : pe_okM (pe_GA []) pe_cl pe_ckA t_JA_copyOf_3 = true := by decide +kernel
def td_t_XH_classOf (k : Nat) : Nat × List pe_I := (pe_at t_XH_classOf.bl k).getD (0, [])
set_option maxRecDepth 40000 in
theorem ok_t_XH_classOf_0 : pe_ckB (pe_GA []) pe_cl pe_ckA t_XH_classOf (td_t_XH_classOf 0).1 (td_t_XH_classOf 0).2 = true := by decide +kernel
set_option maxRecDepth 40000 in
theorem ok_t_XH_classOf_1 : pe_ckB (pe_GA []) pe_cl pe_ckA t_XH_classOf (td_t_XH_classOf 1).1 (td_t_XH_classOf 1).2 = true := by decide +kernel
set_option maxRecDepth 40000 in
theorem ok_t_XH_classOf_2 : pe_ckB (pe_GA []) pe_cl pe_ckA t_XH_classOf (td_t_XH_classOf 2).1 (td_t_XH_classOf 2).2 = true := by decide +kernel
set_option maxRecDepth 40000 in
theorem ok_t_XH_classOf_3 : pe_ckB (pe_GA []) pe_cl pe_ckA t_XH_classOf (td_t_XH_classOf 3).1 (td_t_XH_classOf 3).2 = true := by decide +kernel
set_option maxRecDepth 40000 in
theorem ok_t_XH_classOf_4 : pe_ckB (pe_GA []) pe_cl pe_ckA t_XH_classOf (td_t_XH_classOf 4).1 (td_t_XH_classOf 4).2 = true := by decide +kernel
set_option maxRecDepth 40000 in
theorem ok_t_XH_classOf_5 : pe_ckB (pe_GA []) pe_cl pe_ckA t_XH_classOf (td_t_XH_classOf 5).1 (td_t_XH_classOf 5).2 = true := by decide +kernel
set_option maxRecDepth 40000 in
theorem ok_t_XH_classOf_6 : pe_ckB (pe_GA []) pe_cl pe_ckA t_XH_classOf (td_t_XH_classOf 6).1 (td_t_XH_classOf 6).2 = true := by decide +kernel
set_option maxRecDepth 40000 in
theorem ok_t_XH_classOf_7 : pe_ckB (pe_GA []) pe_cl pe_ckA t_XH_classOf (td_t_XH_classOf 7).1 (td_t_XH_classOf 7).2 = true := by decide +kernel
set_option maxRecDepth 40000 in
theorem ok_t_XH_classOf_8 : pe_ckB (pe_GA []) pe_cl pe_ckA t_XH_classOf (td_t_XH_classOf 8).1 (td_t_XH_classOf 8).2 = true := by decide +kernel
theorem ok_t_XH_classOf_a : ∀ b ∈ t_XH_classOf.bl, pe_ckB (pe_GA []) pe_cl pe_ckA t_XH_classOf b.1 b.2 = true := by
  intro b hb
  obtain ⟨n, hn⟩ := List.getElem?_of_mem hb
  rw [← pe_at_eq] at hn
  match n, hn with
  | 0, hn =>
    have h2 : td_t_XH_classOf 0 = b := by unfold td_t_XH_classOf; rw [hn]; rfl
    rw [← h2]; exact ok_t_XH_classOf_0
  | 1, hn =>
    have h2 : td_t_XH_classOf 1 = b := by unfold td_t_XH_classOf; rw [hn]; rfl
    rw [← h2]; exact ok_t_XH_classOf_1
  | 2, hn =>
    have h2 : td_t_XH_classOf 2 = b := by unfold td_t_XH_classOf; rw [hn]; rfl
    rw [← h2]; exact ok_t_XH_classOf_2
  | 3, hn =>
    have h2 : td_t_XH_classOf 3 = b := by unfold td_t_XH_classOf; rw [hn]; rfl
    rw [← h2]; exact ok_t_XH_classOf_3
  | 4, hn =>
    have h2 : td_t_XH_classOf 4 = b := by unfold td_t_XH_classOf; rw [hn]; rfl
    rw [← h2]; exact ok_t_XH_classOf_4
  | 5, hn =>
    have h2 : td_t_XH_classOf 5 = b := by unfold td_t_XH_classOf; rw [hn]; rfl
    rw [← h2]; exact ok_t_XH_classOf_5
  | 6, hn =>
    have h2 : td_t_XH_classOf 6 = b := by unfold td_t_XH_classOf; rw [hn]; rfl
    rw [← h2]; exact ok_t_XH_classOf_6
  | 7, hn =>
    have h2 : td_t_XH_classOf 7 = b := by unfold td_t_XH_classOf; rw [hn]; rfl
    rw [← h2]; exact ok_t_XH_classOf_7
  | 8, hn =>
    have h2 : td_t_XH_classOf 8 = b := by unfold td_t_XH_classOf; rw [hn]; rfl
    rw [← h2]; exact ok_t_XH_classOf_8
  | n + 9, hn =>
    rw [pe_at_eq] at hn
    exact absurd (List.getElem?_eq_some_iff.mp hn).1 (by show ¬ n + 9 < 9; omega)
theorem ok_t_XH_classOf : pe_okM (pe_GA []) pe_cl pe_ckA t_XH_classOf = true := pe_okM_mk (pe_w_of (by rfl) (by rfl)) (by decide +kernel) ok_t_XH_classOf_a
set_option maxRecDepth 40000 in
theorem ok_t_XL_isHolder : pe_okM (pe_GA []) pe_cl pe_ckA t_XL_isHolder = true := by decide +kernel
def td_t_XL_elementName (k : Nat) : Nat × List pe_I := (pe_at t_XL_elementName.bl k).getD (0, [])
set_option maxRecDepth 40000 in
theorem ok_t_XL_elementName_0 : pe_ckB (pe_GA []) pe_cl pe_ckA t_XL_elementName (td_t_XL_elementName 0).1 (td_t_XL_elementName 0).2 = true := by decide +kernel
set_option maxRecDepth 40000 in
theorem ok_t_XL_elementName_1 : pe_ckB (pe_GA []) pe_cl pe_ckA t_XL_elementName (td_t_XL_elementName 1).1 (td_t_XL_elementName 1).2 = true := by decide +kernel
set_option maxRecDepth 40000 in
theorem ok_t_XL_elementName_2 : pe_ckB (pe_GA []) pe_cl pe_ckA t_XL_elementName (td_t_XL_elementName 2).1 (td_t_XL_elementName 2).2 = true := by decide +kernel
set_option maxRecDepth 40000 in
theorem ok_t_XL_elementName_3 : pe_ckB (pe_GA []) pe_cl pe_ckA t_XL_elementName (td_t_XL_elementName 3).1 (td_t_XL_elementName 3).2 = true := by decide +kernel
set_option maxRecDepth 40000 in
theorem ok_t_XL_elementName_4 : pe_ckB (pe_GA []) pe_cl pe_ckA t_XL_elementName (td_t_XL_elementName 4).1 (td_t_XL_elementName 4).2 = true := by decide +kernel
theorem ok_t_XL_elementName_a : ∀ b ∈ t_XL_elementName.bl, pe_ckB (pe_GA []) pe_cl pe_ckA t_XL_elementName b.1 b.2 = true := by
  intro b hb
  obtain ⟨n, hn⟩ := List.getElem?_of_mem hb
  rw [← pe_at_eq] at hn
  match n, hn with
  | 0, hn =>
    have h2 : td_t_XL_elementName 0 = b := by unfold td_t_XL_elementName; rw [hn]; rfl
    rw [← h2]; exact ok_t_XL_elementName_0
  | 1, hn =>
    have h2 : td_t_XL_elementName 1 = b := by unfold td_t_XL_elementName; rw [hn]; rfl
    rw [← h2]; exact ok_t_XL_elementName_1
  | 2, hn =>
    have h2 : td_t_XL_elementName 2 = b := by unfold td_t_XL_elementName; rw [hn]; rfl
    rw [← h2]; exact ok_t_XL_elementName_2
  | 3, hn =>
    have h2 : td_t_XL_elementName 3 = b := by unfold td_t_XL_elementName; rw [hn]; rfl
    rw [← h2]; exact ok_t_XL_elementName_3
  | 4, hn =>
    have h2 : td_t_XL_elementName 4 = b := by unfold td_t_XL_elementName; rw [hn]; rfl
    rw [← h2]; exact ok_t_XL_elementName_4
  | n + 5, hn =>
    rw [pe_at_eq] at hn
    exact absurd (List.getElem?_eq_some_iff.mp hn).1 (by show ¬ n + 5 < 5; omega)
theorem ok_t_XL_elementName : pe_okM (pe_GA []) pe_cl pe_ckA t_XL_elementName = true := pe_okM_mk (pe_w_of (by rfl) (by rfl)) (by decide +kernel) ok_t_XL_elementName_a
set_option maxRecDepth 40000 in
theorem ok_t_XC_removeEntry : pe_okM (pe_GA []) pe_cl pe_ckA t_XC_removeEntry = true := by decide +kernel
def td_t_XL_holds (k : Nat) : Nat × List pe_I := (pe_at t_XL_holds.bl k).getD (0, [])
set_option maxRecDepth 40000 in
theorem ok_t_XL_holds_0 : pe_ckB (pe_GA []) pe_cl pe_ckA t_XL_holds (td_t_XL_holds 0).1 (td_t_XL_holds 0).2 = true := by decide +kernel
set_option maxRecDepth 40000 in
theorem ok_t_XL_holds_1 : pe_ckB (pe_GA []) pe_cl pe_ckA t_XL_holds (td_t_XL_holds 1).1 (td_t_XL_holds 1).2 = true := by decide +kernel
set_option maxRecDepth 40000 in
theorem ok_t_XL_holds_2 : pe_ckB (pe_GA []) pe_cl pe_ckA t_XL_holds (td_t_XL_holds 2).1 (td_t_XL_holds 2).2 = true := by decide +kernel
set_option maxRecDepth 40000 in
theorem ok_t_XL_holds_3 : pe_ckB (pe_GA []) pe_cl pe_ckA t_XL_holds (td_t_XL_holds 3).1 (td_t_XL_holds 3).2 = true := by decide +kernel
set_option maxRecDepth 40000 in
theorem ok_t_XL_holds_4 : pe_ckB (pe_GA []) pe_cl pe_ckA t_XL_holds (td_t_XL_holds 4).1 (td_t_XL_holds 4).2 = true := by decide +kernel
set_option maxRecDepth 40000 in
theorem ok_t_XL_holds_5 : pe_ckB (pe_GA []) pe_cl pe_ckA t_XL_holds (td_t_XL_holds 5).1 (td_t_XL_holds 5).2 = true := by decide +kernel
set_option maxRecDepth 40000 in
theorem ok_t_XL_holds_6 : pe_ckB (pe_GA []) pe_cl pe_ckA t_XL_holds (td_t_XL_holds 6).1 (td_t_XL_holds 6).2 = true := by decide +kernel
set_option maxRecDepth 40000 in
theorem ok_t_XL_holds_7 : pe_ckB (pe_GA []) pe_cl pe_ckA t_XL_holds (td_t_XL_holds 7).1 (td_t_XL_holds 7).2 = true := by decide +kernel
set_option maxRecDepth 40000 in
theorem ok_t_XL_holds_8 : pe_ckB (pe_GA []) pe_cl pe_ckA t_XL_holds (td_t_XL_holds 8).1 (td_t_XL_holds 8).2 = true := by decide +kernel
set_option maxRecDepth 40000 in
theorem ok_t_XL_holds_9 : pe_ckB (pe_GA []) pe_cl pe_ckA t_XL_holds (td_t_XL_holds 9).1 (td_t_XL_holds 9).2 = true := by decide +kernel
set_option maxRecDepth 40000 in
theorem ok_t_XL_holds_10 : pe_ckB (pe_GA []) pe_cl pe_ckA t_XL_holds (td_t_XL_holds 10).1 (td_t_XL_holds 10).2 = true := by decide +kernel
set_option maxRecDepth 40000 in
theorem ok_t_XL_holds_11 : pe_ckB (pe_GA []) pe_cl pe_ckA t_XL_holds (td_t_XL_holds 11).1 (td_t_XL_holds 11).2 = true := by decide +kernel
set_option maxRecDepth 40000 in
theorem ok_t_XL_holds_12 : pe_ckB (pe_GA []) pe_cl pe_ckA t_XL_holds (td_t_XL_holds 12).1 (td_t_XL_holds 12).2 = true := by decide +kernel
set_option maxRecDepth 40000 in
theorem ok_t_XL_holds_13 : pe_ckB (pe_GA []) pe_cl pe_ckA t_XL_holds (td_t_XL_holds 13).1 (td_t_XL_holds 13).2 = true := by decide +kernel
set_option maxRecDepth 40000 in
theorem ok_t_XL_holds_14 : pe_ckB (pe_GA []) pe_cl pe_ckA t_XL_holds (td_t_XL_holds 14).1 (td_t_XL_holds 14).2 = true := by decide +kernel
theorem ok_t_XL_holds_a : ∀ b ∈ t_XL_holds.bl, pe_ckB (pe_GA []) pe_cl pe_ckA t_XL_holds b.1 b.2 = true := by
  intro b hb
  obtain ⟨n, hn⟩ := List.getElem?_of_mem hb
  rw [← pe_at_eq] at hn
  match n, hn with
  | 0, hn =>
    have h2 : td_t_XL_holds 0 = b := by unfold td_t_XL_holds; rw [hn]; rfl
    rw [← h2]; exact ok_t_XL_holds_0
  | 1, hn =>
    have h2 : td_t_XL_holds 1 = b := by unfold td_t_XL_holds; rw [hn]; rfl
    rw [← h2]; exact ok_t_XL_holds_1
  | 2, hn =>
    have h2 : td_t_XL_holds 2 = b := by unfold td_t_XL_holds; rw [hn]; rfl
    rw [← h2]; exact ok_t_XL_holds_2
  | 3, hn =>
    have h2 : td_t_XL_holds 3 = b := by unfold td_t_XL_holds; rw [hn]; rfl
    rw [← h2]; exact ok_t_XL_holds_3
  | 4, hn =>
    have h2 : td_t_XL_holds 4 = b := by unfold td_t_XL_holds; rw [hn]; rfl
    rw [← h2]; exact ok_t_XL_holds_4
  | 5, hn =>
    have h2 : td_t_XL_holds 5 = b := by unfold td_t_XL_holds; rw [hn]; rfl
    rw [← h2]; exact ok_t_XL_holds_5
  | 6, hn =>
    have h2 : td_t_XL_holds 6 = b := by unfold td_t_XL_holds; rw [hn]; rfl
    rw [← h2]; exact ok_t_XL_holds_6
  | 7, hn =>
    have h2 : td_t_XL_holds 7 = b := by unfold td_t_XL_holds; rw [hn]; rfl
    rw [← h2]; exact ok_t_XL_holds_7
  | 8, hn =>
    have h2 : td_t_XL_holds 8 = b := by unfold td_t_XL_holds; rw [hn]; rfl
    rw [← h2]; exact ok_t_XL_holds_8
  | 9, hn =>
    have h2 : td_t_XL_holds 9 = b := by unfold td_t_XL_holds; rw [hn]; rfl
    rw [← h2]; exact ok_t_XL_holds_9
  | 10, hn =>
    have h2 : td_t_XL_holds 10 = b := by unfold td_t_XL_holds; rw [hn]; rfl
    rw [← h2]; exact ok_t_XL_holds_10
  | 11, hn =>
    have h2 : td_t_XL_holds 11 = b := by unfold td_t_XL_holds; rw [hn]; rfl
    rw [← h2]; exact ok_t_XL_holds_11
  | 12, hn =>
    have h2 : td_t_XL_holds 12 = b := by unfold td_t_XL_holds; rw [hn]; rfl
    rw [← h2]; exact ok_t_XL_holds_12
  | 13, hn =>
    have h2 : td_t_XL_holds 13 = b := by unfold td_t_XL_holds; rw [hn]; rfl
    rw [← h2]; exact ok_t_XL_holds_13
  | 14, hn =>
    have h2 : td_t_XL_holds 14 = b := by unfold td_t_XL_holds; rw [hn]; rfl
    rw [← h2]; exact ok_t_XL_holds_14
  | n + 15, hn =>
    rw [pe_at_eq] at hn
    exact absurd (List.getElem?_eq_some_iff.mp hn).1 (by show ¬ n + 15 < 15; omega)
theorem ok_t_XL_holds : pe_okM (pe_GA []) pe_cl pe_ckA t_XL_holds = true := pe_okM_mk (pe_w_of (by rfl) (by rfl)) (by decide +kernel) ok_t_XL_holds_a
def td_t_XL_isRight (k : Nat) : Nat × List pe_I := (pe_at t_XL_isRight.bl k).getD (0, [])
set_option maxRecDepth 40000 in
theorem ok_t_XL_isRight_0 : pe_ckB (pe_GA []) pe_cl pe_ckA t_XL_isRight (td_t_XL_isRight 0).1 (td_t_XL_isRight 0).2 = true := by decide +kernel
set_option maxRecDepth 40000 in
theorem ok_t_XL_isRight_1 : pe_ckB (pe_GA []) pe_cl pe_ckA t_XL_isRight (td_t_XL_isRight 1).1 (td_t_XL_isRight 1).2 = true := by decide +kernel
set_option maxRecDepth 40000 in
theorem ok_t_XL_isRight_2 : pe_ckB (pe_GA []) pe_cl pe_ckA t_XL_isRight (td_t_XL_isRight 2).1 (td_t_XL_isRight 2).2 = true := by decide +kernel
set_option maxRecDepth 40000 in
theorem ok_t_XL_isRight_3 : pe_ckB (pe_GA []) pe_cl pe_ckA t_XL_isRight (td_t_XL_isRight 3).1 (td_t_XL_isRight 3).2 = true := by decide +kernel
set_option maxRecDepth 40000 in
theorem ok_t_XL_isRight_4 : pe_ckB (pe_GA []) pe_cl pe_ckA t_XL_isRight (td_t_XL_isRight 4).1 (td_t_XL_isRight 4).2 = true := by decide +kernel
set_option maxRecDepth 40000 in
theorem ok_t_XL_isRight_5 : pe_ckB (pe_GA []) pe_cl pe_ckA t_XL_isRight (td_t_XL_isRight 5).1 (td_t_XL_isRight 5).2 = true := by decide +kernel
set_option maxRecDepth 40000 in
theorem ok_t_XL_isRight_6 : pe_ckB (pe_GA []) pe_cl pe_ckA t_XL_isRight (td_t_XL_isRight 6).1 (td_t_XL_isRight 6).2 = true := by decide +kernel
set_option maxRecDepth 40000 in
theorem ok_t_XL_isRight_7 : pe_ckB (pe_GA []) pe_cl pe_ckA t_XL_isRight (td_t_XL_isRight 7).1 (td_t_XL_isRight 7).2 = true := by decide +kernel
set_option maxRecDepth 40000 in
theorem ok_t_XL_isRight_8 : pe_ckB (pe_GA []) pe_cl pe_ckA t_XL_isRight (td_t_XL_isRight 8).1 (td_t_XL_isRight 8).2 = true := by decide +kernel
set_option maxRecDepth 40000 in
theorem ok_t_XL_isRight_9 : pe_ckB (pe_GA []) pe_cl pe_ckA t_XL_isRight (td_t_XL_isRight 9).1 (td_t_XL_isRight 9).2 = true := by decide +kernel
set_option maxRecDepth 40000 in
theorem ok_t_XL_isRight_10 : pe_ckB (pe_GA []) pe_cl pe_ckA t_XL_isRight (td_t_XL_isRight 10).1 (td_t_XL_isRight 10).2 = true := by decide +kernel
set_option maxRecDepth 40000 in
theorem ok_t_XL_isRight_11 : pe_ckB (pe_GA []) pe_cl pe_ckA t_XL_isRight (td_t_XL_isRight 11).1 (td_t_XL_isRight 11).2 = true := by decide +kernel
set_option maxRecDepth 40000 in
theorem ok_t_XL_isRight_12 : pe_ckB (pe_GA []) pe_cl pe_ckA t_XL_isRight (td_t_XL_isRight 12).1 (td_t_XL_isRight 12).2 = true := by decide +kernel
set_option maxRecDepth 40000 in
theorem ok_t_XL_isRight_13 : pe_ckB (pe_GA []) pe_cl pe_ckA t_XL_isRight (td_t_XL_isRight 13).1 (td_t_XL_isRight 13).2 = true := by decide +kernel
set_option maxRecDepth 40000 in
theorem ok_t_XL_isRight_14 : pe_ckB (pe_GA []) pe_cl pe_ckA t_XL_isRight (td_t_XL_isRight 14).1 (td_t_XL_isRight 14).2 = true := by decide +kernel
theorem ok_t_XL_isRight_a : ∀ b ∈ t_XL_isRight.bl, pe_ckB (pe_GA []) pe_cl pe_ckA t_XL_isRight b.1 b.2 = true := by
  intro b hb
  obtain ⟨n, hn⟩ := List.getElem?_of_mem hb
  rw [← pe_at_eq] at hn
  match n, hn with
  | 0, hn =>
    have h2 : td_t_XL_isRight 0 = b := by unfold td_t_XL_isRight; rw [hn]; rfl
    rw [← h2]; exact ok_t_XL_isRight_0
  | 1, hn =>
    have h2 : td_t_XL_isRight 1 = b := by unfold td_t_XL_isRight; rw [hn]; rfl
    rw [← h2]; exact ok_t_XL_isRight_1
  | 2, hn =>
    have h2 : td_t_XL_isRight 2 = b := by unfold td_t_XL_isRight; rw [hn]; rfl
    rw [← h2]; exact ok_t_XL_isRight_2
  | 3, hn =>
    have h2 : td_t_XL_isRight 3 = b := by unfold td_t_XL_isRight; rw [hn]; rfl
    rw [← h2]; exact ok_t_XL_isRight_3
  | 4, hn =>
    have h2 : td_t_XL_isRight 4 = b := by unfold td_t_XL_isRight; rw [hn]; rfl
    rw [← h2]; exact ok_t_XL_isRight_4
  | 5, hn =>
    have h2 : td_t_XL_isRight 5 = b := by unfold td_t_XL_isRight; rw [hn]; rfl
    rw [← h2]; exact ok_t_XL_isRight_5
  | 6, hn =>
    have h2 : td_t_XL_isRight 6 = b := by unfold td_t_XL_isRight; rw [hn]; rfl
    rw [← h2]; exact ok_t_XL_isRight_6
  | 7, hn =>
    have h2 : td_t_XL_isRight 7 = b := by unfold td_t_XL_isRight; rw [hn]; rfl
    rw [← h2]; exact ok_t_XL_isRight_7
  | 8, hn =>
    have h2 : td_t_XL_isRight 8 = b := by unfold td_t_XL_isRight; rw [hn]; rfl
    rw [← h2]; exact ok_t_XL_isRight_8
  | 9, hn =>
    have h2 : td_t_XL_isRight 9 = b := by unfold td_t_XL_isRight; rw [hn]; rfl
    rw [← h2]; exact ok_t_XL_isRight_9
  | 10, hn =>
    have h2 : td_t_XL_isRight 10 = b := by unfold td_t_XL_isRight; rw [hn]; rfl
    rw [← h2]; exact ok_t_XL_isRight_10
  | 11, hn =>
    have h2 : td_t_XL_isRight 11 = b := by unfold td_t_XL_isRight; rw [hn]; rfl
    rw [← h2]; exact ok_t_XL_isRight_11
  | 12, hn =>
    have h2 : td_t_XL_isRight 12 = b := by unfold td_t_XL_isRight; rw [hn]; rfl
    rw [← h2]; exact ok_t_XL_isRight_12
  | 13, hn =>
    have h2 : td_t_XL_isRight 13 = b := by unfold td_t_XL_isRight; rw [hn]; rfl
    rw [← h2]; exact ok_t_XL_isRight_13
  | 14, hn =>
    have h2 : td_t_XL_isRight 14 = b := by unfold td_t_XL_isRight; rw [hn]; rfl
    rw [← h2]; exact ok_t_XL_isRight_14
  | n + 15, hn =>
    rw [pe_at_eq] at hn
    exact absurd (List.getElem?_eq_some_iff.mp hn).1 (by show ¬ n + 15 < 15; omega)
theorem ok_t_XL_isRight : pe_okM (pe_GA []) pe_cl pe_ckA t_XL_isRight = true := pe_okM_mk (pe_w_of (by rfl) (by rfl)) (by decide +kernel) ok_t_XL_isRight_a
def td_t_XL_lookAtThing (k : Nat) : Nat × List pe_I := (pe_at t_XL_lookAtThing.bl k).getD (0, [])
set_option maxRecDepth 40000 in
theorem ok_t_XL_lookAtThing_0 : pe_ckB (pe_GA []) pe_cl pe_ckA t_XL_lookAtThing (td_t_XL_lookAtThing 0).1 (td_t_XL_lookAtThing 0).2 = true := by decide +kernel
set_option maxRecDepth 40000 in
theorem ok_t_XL_lookAtThing_1 : pe_ckB (pe_GA []) pe_cl pe_ckA t_XL_lookAtThing (td_t_XL_lookAtThing 1).1 (td_t_XL_lookAtThing 1).2 = true := by decide +kernel
set_option maxRecDepth 40000 in
theorem ok_t_XL_lookAtThing_2 : pe_ckB (pe_GA []) pe_cl pe_ckA t_XL_lookAtThing (td_t_XL_lookAtThing 2).1 (td_t_XL_lookAtThing 2).2 = true := by decide +kernel
set_option maxRecDepth 40000 in
theorem ok_t_XL_lookAtThing_3 : pe_ckB (pe_GA []) pe_cl pe_ckA t_XL_lookAtThing (td_t_XL_lookAtThing 3).1 (td_t_XL_lookAtThing 3).2 = true := by decide +kernel
set_option maxRecDepth 40000 in
theorem ok_t_XL_lookAtThing_4 : pe_ckB (pe_GA []) pe_cl pe_ckA t_XL_lookAtThing (td_t_XL_lookAtThing 4).1 (td_t_XL_lookAtThing 4).2 = true := by decide +kernel
set_option maxRecDepth 40000 in
theorem ok_t_XL_lookAtThing_5 : pe_ckB (pe_GA []) pe_cl pe_ckA t_XL_lookAtThing (td_t_XL_lookAtThing 5).1 (td_t_XL_lookAtThing 5).2 = true := by decide +kernel
set_option maxRecDepth 40000 in
theorem ok_t_XL_lookAtThing_6 : pe_ckB (pe_GA []) pe_cl pe_ckA t_XL_lookAtThing (td_t_XL_lookAtThing 6).1 (td_t_XL_lookAtThing 6).2 = true := by decide +kernel
set_option maxRecDepth 40000 in
theorem ok_t_XL_lookAtThing_7 : pe_ckB (pe_GA []) pe_cl pe_ckA t_XL_lookAtThing (td_t_XL_lookAtThing 7).1 (td_t_XL_lookAtThing 7).2 = true := by decide +kernel
set_option maxRecDepth 40000 in
theorem ok_t_XL_lookAtThing_8 : pe_ckB (pe_GA []) pe_cl pe_ckA t_XL_lookAtThing (td_t_XL_lookAtThing 8).1 (td_t_XL_lookAtThing 8).2 = true := by decide +kernel
set_option maxRecDepth 40000 in
theorem ok_t_XL_lookAtThing_9 : pe_ckB (pe_GA []) pe_cl pe_ckA t_XL_lookAtThing (td_t_XL_lookAtThing 9).1 (td_t_XL_lookAtThing 9).2 = true := by decide +kernel
set_option maxRecDepth 40000 in
theorem ok_t_XL_lookAtThing_10 : pe_ckB (pe_GA []) pe_cl pe_ckA t_XL_lookAtThing (td_t_XL_lookAtThing 10).1 (td_t_XL_lookAtThing 10).2 = true := by decide +kernel
theorem ok_t_XL_lookAtThing_a : ∀ b ∈ t_XL_lookAtThing.bl, pe_ckB (pe_GA []) pe_cl pe_ckA t_XL_lookAtThing b.1 b.2 = true := by
  intro b hb
  obtain ⟨n, hn⟩ := List.getElem?_of_mem hb
  rw [← pe_at_eq] at hn
  match n, hn with
  | 0, hn =>
    have h2 : td_t_XL_lookAtThing 0 = b := by unfold td_t_XL_lookAtThing; rw [hn]; rfl
    rw [← h2]; exact ok_t_XL_lookAtThing_0
  | 1, hn =>
    have h2 : td_t_XL_lookAtThing 1 = b := by unfold td_t_XL_lookAtThing; rw [hn]; rfl
    rw [← h2]; exact ok_t_XL_lookAtThing_1
  | 2, hn =>
    have h2 : td_t_XL_lookAtThing 2 = b := by unfold td_t_XL_lookAtThing; rw [hn]; rfl
    rw [← h2]; exact ok_t_XL_lookAtThing_2
  | 3, hn =>
    have h2 : td_t_XL_lookAtThing 3 = b := by unfold td_t_XL_lookAtThing; rw [hn]; rfl
    rw [← h2]; exact ok_t_XL_lookAtThing_3
  | 4, hn =>
    have h2 : td_t_XL_lookAtThing 4 = b := by unfold td_t_XL_lookAtThing; rw [hn]; rfl
    rw [← h2]; exact ok_t_XL_lookAtThing_4
  | 5, hn =>
    have h2 : td_t_XL_lookAtThing 5 = b := by unfold td_t_XL_lookAtThing; rw [hn]; rfl
    rw [← h2]; exact ok_t_XL_lookAtThing_5
  | 6, hn =>
    have h2 : td_t_XL_lookAtThing 6 = b := by unfold td_t_XL_lookAtThing; rw [hn]; rfl
    rw [← h2]; exact ok_t_XL_lookAtThing_6
  | 7, hn =>
    have h2 : td_t_XL_lookAtThing 7 = b := by unfold td_t_XL_lookAtThing; rw [hn]; rfl
    rw [← h2]; exact ok_t_XL_lookAtThing_7
  | 8, hn =>
    have h2 : td_t_XL_lookAtThing 8 = b := by unfold td_t_XL_lookAtThing; rw [hn]; rfl
    rw [← h2]; exact ok_t_XL_lookAtThing_8
  | 9, hn =>
    have h2 : td_t_XL_lookAtThing 9 = b := by unfold td_t_XL_lookAtThing; rw [hn]; rfl
    rw [← h2]; exact ok_t_XL_lookAtThing_9
  | 10, hn =>
    have h2 : td_t_XL_lookAtThing 10 = b := by unfold td_t_XL_lookAtThing; rw [hn]; rfl
    rw [← h2]; exact ok_t_XL_lookAtThing_10
  | n + 11, hn =>
    rw [pe_at_eq] at hn
    exact absurd (List.getElem?_eq_some_iff.mp hn).1 (by show ¬ n + 11 < 11; omega)
theorem ok_t_XL_lookAtThing : pe_okM (pe_GA []) pe_cl pe_ckA t_XL_lookAtThing = true := pe_okM_mk (pe_w_of (by rfl) (by rfl)) (by decide +kernel) ok_t_XL_lookAtThing_a
def td_t_XL_lookAtRow (k : Nat) : Nat × List pe_I := (pe_at t_XL_lookAtRow.bl k).getD (0, [])
set_option maxRecDepth 40000 in
theorem ok_t_XL_lookAtRow_0 : pe_ckB (pe_GA []) pe_cl pe_ckA t_XL_lookAtRow (td_t_XL_lookAtRow 0).1 (td_t_XL_lookAtRow 0).2 = true := by decide +kernel
set_option maxRecDepth 40000 in
theorem ok_t_XL_lookAtRow_1 : pe_ckB (pe_GA []) pe_cl pe_ckA t_XL_lookAtRow (td_t_XL_lookAtRow 1).1 (td_t_XL_lookAtRow 1).2 = true := by decide +kernel
set_option maxRecDepth 40000 in
theorem ok_t_XL_lookAtRow_2 : pe_ckB (pe_GA []) pe_cl pe_ckA t_XL_lookAtRow (td_t_XL_lookAtRow 2).1 (td_t_XL_lookAtRow 2).2 = true := by decide +kernel
set_option maxRecDepth 40000 in
theorem ok_t_XL_lookAtRow_3 : pe_ckB (pe_GA []) pe_cl pe_ckA t_XL_lookAtRow (td_t_XL_lookAtRow 3).1 (td_t_XL_lookAtRow 3).2 = true := by decide +kernel
set_option maxRecDepth 40000 in
theorem ok_t_XL_lookAtRow_4 : pe_ckB (pe_GA []) pe_cl pe_ckA t_XL_lookAtRow (td_t_XL_lookAtRow 4).1 (td_t_XL_lookAtRow 4).2 = true := by decide +kernel
set_option maxRecDepth 40000 in
theorem ok_t_XL_lookAtRow_5 : pe_ckB (pe_GA []) pe_cl pe_ckA t_XL_lookAtRow (td_t_XL_lookAtRow 5).1 (td_t_XL_lookAtRow 5).2 = true := by decide +kernel
set_option maxRecDepth 40000 in
theorem ok_t_XL_lookAtRow_6 : pe_ckB (pe_GA []) pe_cl pe_ckA t_XL_lookAtRow (td_t_XL_lookAtRow 6).1 (td_t_XL_lookAtRow 6).2 = true := by decide +kernel
set_option maxRecDepth 40000 in
theorem ok_t_XL_lookAtRow_7 : pe_ckB (pe_GA []) pe_cl pe_ckA t_XL_lookAtRow (td_t_XL_lookAtRow 7).1 (td_t_XL_lookAtRow 7).2 = true := by decide +kernel
set_option maxRecDepth 40000 in
theorem ok_t_XL_lookAtRow_8 : pe_ckB (pe_GA []) pe_cl pe_ckA t_XL_lookAtRow (td_t_XL_lookAtRow 8).1 (td_t_XL_lookAtRow 8).2 = true := by decide +kernel
set_option maxRecDepth 40000 in
theorem ok_t_XL_lookAtRow_9 : pe_ckB (pe_GA []) pe_cl pe_ckA t_XL_lookAtRow (td_t_XL_lookAtRow 9).1 (td_t_XL_lookAtRow 9).2 = true := by decide +kernel
set_option maxRecDepth 40000 in
theorem ok_t_XL_lookAtRow_10 : pe_ckB (pe_GA []) pe_cl pe_ckA t_XL_lookAtRow (td_t_XL_lookAtRow 10).1 (td_t_XL_lookAtRow 10).2 = true := by decide +kernel
set_option maxRecDepth 40000 in
theorem ok_t_XL_lookAtRow_11 : pe_ckB (pe_GA []) pe_cl pe_ckA t_XL_lookAtRow (td_t_XL_lookAtRow 11).1 (td_t_XL_lookAtRow 11).2 = true := by decide +kernel
set_option maxRecDepth 40000 in
theorem ok_t_XL_lookAtRow_12 : pe_ckB (pe_GA []) pe_cl pe_ckA t_XL_lookAtRow (td_t_XL_lookAtRow 12).1 (td_t_XL_lookAtRow 12).2 = true := by decide +kernel
set_option maxRecDepth 40000 in
theorem ok_t_XL_lookAtRow_13 : pe_ckB (pe_GA []) pe_cl pe_ckA t_XL_lookAtRow (td_t_XL_lookAtRow 13).1 (td_t_XL_lookAtRow 13).2 = true := by decide +kernel
set_option maxRecDepth 40000 in
theorem ok_t_XL_lookAtRow_14 : pe_ckB (pe_GA []) pe_cl pe_ckA t_XL_lookAtRow (td_t_XL_lookAtRow 14).1 (td_t_XL_lookAtRow 14).2 = true := by decide +kernel
set_option maxRecDepth 40000 in
theorem ok_t_XL_lookAtRow_15 : pe_ckB (pe_GA []) pe_cl pe_ckA t_XL_lookAtRow (td_t_XL_lookAtRow 15).1 (td_t_XL_lookAtRow 15).2 = true := by decide +kernel
set_option maxRecDepth 40000 in
theorem ok_t_XL_lookAtRow_16 : pe_ckB (pe_GA []) pe_cl pe_ckA t_XL_lookAtRow (td_t_XL_lookAtRow 16).1 (td_t_XL_lookAtRow 16).2 = true := by decide +kernel
set_option maxRecDepth 40000 in
theorem ok_t_XL_lookAtRow_17 : pe_ckB (pe_GA []) pe_cl pe_ckA t_XL_lookAtRow (td_t_XL_lookAtRow 17).1 (td_t_XL_lookAtRow 17).2 = true := by decide +kernel
set_option maxRecDepth 40000 in
theorem ok_t_XL_lookAtRow_18 : pe_ckB (pe_GA []) pe_cl pe_ckA t_XL_lookAtRow (td_t_XL_lookAtRow 18).1 (td_t_XL_lookAtRow 18).2 = true := by decide +kernel
set_option maxRecDepth 40000 in
theorem ok_t_XL_lookAtRow_19 : pe_ckB (pe_GA []) pe_cl pe_ckA t_XL_lookAtRow (td_t_XL_lookAtRow 19).1 (td_t_XL_lookAtRow 19).2 = true := by decide +kernel
set_option maxRecDepth 40000 in
theorem ok_t_XL_lookAtRow_20 : pe_ckB (pe_GA []) pe_cl pe_ckA t_XL_lookAtRow (td_t_XL_lookAtRow 20).1 (td_t_XL_lookAtRow 20).2 = true := by decide +kernel
set_option maxRecDepth 40000 in
theorem ok_t_XL_lookAtRow_21 : pe_ckB (pe_GA []) pe_cl pe_ckA t_XL_lookAtRow (td_t_XL_lookAtRow 21).1 (td_t_XL_lookAtRow 21).2 = true := by decide +kernel
theorem ok_t_XL_lookAtRow_a : ∀ b ∈ t_XL_lookAtRow.bl, pe_ckB (pe_GA []) pe_cl pe_ckA t_XL_lookAtRow b.1 b.2 = true := by
  intro b hb
  obtain ⟨n, hn⟩ := List.getElem?_of_mem hb
  rw [← pe_at_eq] at hn
  match n, hn with
  | 0, hn =>
    have h2 : td_t_XL_lookAtRow 0 = b := by unfold td_t_XL_lookAtRow; rw [hn]; rfl
    rw [← h2]; exact ok_t_XL_lookAtRow_0
  | 1, hn =>
    have h2 : td_t_XL_lookAtRow 1 = b := by unfold td_t_XL_lookAtRow; rw [hn]; rfl
    rw [← h2]; exact ok_t_XL_lookAtRow_1
  | 2, hn =>
    have h2 : td_t_XL_lookAtRow 2 = b := by unfold td_t_XL_lookAtRow; rw [hn]; rfl
    rw [← h2]; exact ok_t_XL_lookAtRow_2
  | 3, hn =>
    have h2 : td_t_XL_lookAtRow 3 = b := by unfold td_t_XL_lookAtRow; rw [hn]; rfl
    rw [← h2]; exact ok_t_XL_lookAtRow_3
  | 4, hn =>
    have h2 : td_t_XL_lookAtRow 4 = b := by unfold td_t_XL_lookAtRow; rw [hn]; rfl
    rw [← h2]; exact ok_t_XL_lookAtRow_4
  | 5, hn =>
    have h2 : td_t_XL_lookAtRow 5 = b := by unfold td_t_XL_lookAtRow; rw [hn]; rfl
    rw [← h2]; exact ok_t_XL_lookAtRow_5
  | 6, hn =>
    have h2 : td_t_XL_lookAtRow 6 = b := by unfold td_t_XL_lookAtRow; rw [hn]; rfl
    rw [← h2]; exact ok_t_XL_lookAtRow_6
  | 7, hn =>
    have h2 : td_t_XL_lookAtRow 7 = b := by unfold td_t_XL_lookAtRow; rw [hn]; rfl
    rw [← h2]; exact ok_t_XL_lookAtRow_7
  | 8, hn =>
    have h2 : td_t_XL_lookAtRow 8 = b := by unfold td_t_XL_lookAtRow; rw [hn]; rfl
    rw [← h2]; exact ok_t_XL_lookAtRow_8
  | 9, hn =>
    have h2 : td_t_XL_lookAtRow 9 = b := by unfold td_t_XL_lookAtRow; rw [hn]; rfl
    rw [← h2]; exact ok_t_XL_lookAtRow_9
  | 10, hn =>
    have h2 : td_t_XL_lookAtRow 10 = b := by unfold td_t_XL_lookAtRow; rw [hn]; rfl
    rw [← h2]; exact ok_t_XL_lookAtRow_10
  | 11, hn =>
    have h2 : td_t_XL_lookAtRow 11 = b := by unfold td_t_XL_lookAtRow; rw [hn]; rfl
    rw [← h2]; exact ok_t_XL_lookAtRow_11
  | 12, hn =>
    have h2 : td_t_XL_lookAtRow 12 = b := by unfold td_t_XL_lookAtRow; rw [hn]; rfl
    rw [← h2]; exact ok_t_XL_lookAtRow_12
  | 13, hn =>
    have h2 : td_t_XL_lookAtRow 13 = b := by unfold td_t_XL_lookAtRow; rw [hn]; rfl
    rw [← h2]; exact ok_t_XL_lookAtRow_13
  | 14, hn =>
    have h2 : td_t_XL_lookAtRow 14 = b := by unfold td_t_XL_lookAtRow; rw [hn]; rfl
    rw [← h2]; exact ok_t_XL_lookAtRow_14
  | 15, hn =>
    have h2 : td_t_XL_lookAtRow 15 = b := by unfold td_t_XL_lookAtRow; rw [hn]; rfl
    rw [← h2]; exact ok_t_XL_lookAtRow_15
  | 16, hn =>
    have h2 : td_t_XL_lookAtRow 16 = b := by unfold td_t_XL_lookAtRow; rw [hn]; rfl
    rw [← h2]; exact ok_t_XL_lookAtRow_16
  | 17, hn =>
    have h2 : td_t_XL_lookAtRow 17 = b := by unfold td_t_XL_lookAtRow; rw [hn]; rfl
    rw [← h2]; exact ok_t_XL_lookAtRow_17
  | 18, hn =>
    have h2 : td_t_XL_lookAtRow 18 = b := by unfold td_t_XL_lookAtRow; rw [hn]; rfl
    rw [← h2]; exact ok_t_XL_lookAtRow_18
  | 19, hn =>
    have h2 : td_t_XL_lookAtRow 19 = b := by unfold td_t_XL_lookAtRow; rw [hn]; rfl
    rw [← h2]; exact ok_t_XL_lookAtRow_19
  | 20, hn =>
    have h2 : td_t_XL_lookAtRow 20 = b := by unfold td_t_XL_lookAtRow; rw [hn]; rfl
    rw [← h2]; exact ok_t_XL_lookAtRow_20
  | 21, hn =>
    have h2 : td_t_XL_lookAtRow 21 = b := by unfold td_t_XL_lookAtRow; rw [hn]; rfl
    rw [← h2]; exact ok_t_XL_lookAtRow_21
  | n + 22, hn =>
    rw [pe_at_eq] at hn
    exact absurd (List.getElem?_eq_some_iff.mp hn).1 (by show ¬ n + 22 < 22; omega)
theorem ok_t_XL_lookAtRow : pe_okM (pe_GA []) pe_cl pe_ckA t_XL_lookAtRow = true := pe_okM_mk (pe_w_of (by rfl) (by rfl)) (by decide +kernel) ok_t_XL_lookAtRow_a
def td_t_XL_lookAtHost (k : Nat) : Nat × List pe_I := (pe_at t_XL_lookAtHost.bl k).getD (0, [])
set_option maxRecDepth 40000 in
theorem ok_t_XL_lookAtHost_0 : pe_ckB (pe_GA []) pe_cl pe_ckA t_XL_lookAtHost (td_t_XL_lookAtHost 0).1 (td_t_XL_lookAtHost 0).2 = true := by decide +kernel
set_option maxRecDepth 40000 in
theorem ok_t_XL_lookAtHost_1 : pe_ckB (pe_GA []) pe_cl pe_ckA t_XL_lookAtHost (td_t_XL_lookAtHost 1).1 (td_t_XL_lookAtHost 1).2 = true := by decide +kernel
set_option maxRecDepth 40000 in
theorem ok_t_XL_lookAtHost_2 : pe_ckB (pe_GA []) pe_cl pe_ckA t_XL_lookAtHost (td_t_XL_lookAtHost 2).1 (td_t_XL_lookAtHost 2).2 = true := by decide +kernel
set_option maxRecDepth 40000 in
theorem ok_t_XL_lookAtHost_3 : pe_ckB (pe_GA []) pe_cl pe_ckA t_XL_lookAtHost (td_t_XL_lookAtHost 3).1 (td_t_XL_lookAtHost 3).2 = true := by decide +kernel
set_option maxRecDepth 40000 in
theorem ok_t_XL_lookAtHost_4 : pe_ckB (pe_GA []) pe_cl pe_ckA t_XL_lookAtHost (td_t_XL_lookAtHost 4).1 (td_t_XL_lookAtHost 4).2 = true := by decide +kernel
set_option maxRecDepth 40000 in
theorem ok_t_XL_lookAtHost_5 : pe_ckB (pe_GA []) pe_cl pe_ckA t_XL_lookAtHost (td_t_XL_lookAtHost 5).1 (td_t_XL_lookAtHost 5).2 = true := by decide +kernel
set_option maxRecDepth 40000 in
theorem ok_t_XL_lookAtHost_6 : pe_ckB (pe_GA []) pe_cl pe_ckA t_XL_lookAtHost (td_t_XL_lookAtHost 6).1 (td_t_XL_lookAtHost 6).2 = true := by decide +kernel
set_option maxRecDepth 40000 in
theorem ok_t_XL_lookAtHost_7 : pe_ckB (pe_GA []) pe_cl pe_ckA t_XL_lookAtHost (td_t_XL_lookAtHost 7).1 (td_t_XL_lookAtHost 7).2 = true := by decide +kernel
set_option maxRecDepth 40000 in
theorem ok_t_XL_lookAtHost_8 : pe_ckB (pe_GA []) pe_cl pe_ckA t_XL_lookAtHost (td_t_XL_lookAtHost 8).1 (td_t_XL_lookAtHost 8).2 = true := by decide +kernel
set_option maxRecDepth 40000 in
theorem ok_t_XL_lookAtHost_9 : pe_ckB (pe_GA []) pe_cl pe_ckA t_XL_lookAtHost (td_t_XL_lookAtHost 9).1 (td_t_XL_lookAtHost 9).2 = true := by decide +kernel
set_option maxRecDepth 40000 in
theorem ok_t_XL_lookAtHost_10 : pe_ckB (pe_GA []) pe_cl pe_ckA t_XL_lookAtHost (td_t_XL_lookAtHost 10).1 (td_t_XL_lookAtHost 10).2 = true := by decide +kernel
set_option maxRecDepth 40000 in
theorem ok_t_XL_lookAtHost_11 : pe_ckB (pe_GA []) pe_cl pe_ckA t_XL_lookAtHost (td_t_XL_lookAtHost 11).1 (td_t_XL_lookAtHost 11).2 = true := by decide +kernel
theorem ok_t_XL_lookAtHost_a : ∀ b ∈ t_XL_lookAtHost.bl, pe_ckB (pe_GA []) pe_cl pe_ckA t_XL_lookAtHost b.1 b.2 = true := by
  intro b hb
  obtain ⟨n, hn⟩ := List.getElem?_of_mem hb
  rw [← pe_at_eq] at hn
  match n, hn with
  | 0, hn =>
    have h2 : td_t_XL_lookAtHost 0 = b := by unfold td_t_XL_lookAtHost; rw [hn]; rfl
    rw [← h2]; exact ok_t_XL_lookAtHost_0
  | 1, hn =>
    have h2 : td_t_XL_lookAtHost 1 = b := by unfold td_t_XL_lookAtHost; rw [hn]; rfl
    rw [← h2]; exact ok_t_XL_lookAtHost_1
  | 2, hn =>
    have h2 : td_t_XL_lookAtHost 2 = b := by unfold td_t_XL_lookAtHost; rw [hn]; rfl
    rw [← h2]; exact ok_t_XL_lookAtHost_2
  | 3, hn =>
    have h2 : td_t_XL_lookAtHost 3 = b := by unfold td_t_XL_lookAtHost; rw [hn]; rfl
    rw [← h2]; exact ok_t_XL_lookAtHost_3
  | 4, hn =>
    have h2 : td_t_XL_lookAtHost 4 = b := by unfold td_t_XL_lookAtHost; rw [hn]; rfl
    rw [← h2]; exact ok_t_XL_lookAtHost_4
  | 5, hn =>
    have h2 : td_t_XL_lookAtHost 5 = b := by unfold td_t_XL_lookAtHost; rw [hn]; rfl
    rw [← h2]; exact ok_t_XL_lookAtHost_5
  | 6, hn =>
    have h2 : td_t_XL_lookAtHost 6 = b := by unfold td_t_XL_lookAtHost; rw [hn]; rfl
    rw [← h2]; exact ok_t_XL_lookAtHost_6
  | 7, hn =>
    have h2 : td_t_XL_lookAtHost 7 = b := by unfold td_t_XL_lookAtHost; rw [hn]; rfl
    rw [← h2]; exact ok_t_XL_lookAtHost_7
  | 8, hn =>
    have h2 : td_t_XL_lookAtHost 8 = b := by unfold td_t_XL_lookAtHost; rw [hn]; rfl
    rw [← h2]; exact ok_t_XL_lookAtHost_8
  | 9, hn =>
    have h2 : td_t_XL_lookAtHost 9 = b := by unfold td_t_XL_lookAtHost; rw [hn]; rfl
    rw [← h2]; exact ok_t_XL_lookAtHost_9
  | 10, hn =>
    have h2 : td_t_XL_lookAtHost 10 = b := by unfold td_t_XL_lookAtHost; rw [hn]; rfl
    rw [← h2]; exact ok_t_XL_lookAtHost_10
  | 11, hn =>
    have h2 : td_t_XL_lookAtHost 11 = b := by unfold td_t_XL_lookAtHost; rw [hn]; rfl
    rw [← h2]; exact ok_t_XL_lookAtHost_11
  | n + 12, hn =>
    rw [pe_at_eq] at hn
    exact absurd (List.getElem?_eq_some_iff.mp hn).1 (by show ¬ n + 12 < 12; omega)
theorem ok_t_XL_lookAtHost : pe_okM (pe_GA []) pe_cl pe_ckA t_XL_lookAtHost = true := pe_okM_mk (pe_w_of (by rfl) (by rfl)) (by decide +kernel) ok_t_XL_lookAtHost_a
def td_t_XL_link (k : Nat) : Nat × List pe_I := (pe_at t_XL_link.bl k).getD (0, [])
set_option maxRecDepth 40000 in
theorem ok_t_XL_link_0 : pe_ckB (pe_GA []) pe_cl pe_ckA t_XL_link (td_t_XL_link 0).1 (td_t_XL_link 0).2 = true := by decide +kernel
set_option maxRecDepth 40000 in
theorem ok_t_XL_link_1 : pe_ckB (pe_GA []) pe_cl pe_ckA t_XL_link (td_t_XL_link 1).1 (td_t_XL_link 1).2 = true := by decide +kernel
set_option maxRecDepth 40000 in
theorem ok_t_XL_link_2 : pe_ckB (pe_GA []) pe_cl pe_ckA t_XL_link (td_t_XL_link 2).1 (td_t_XL_link 2).2 = true := by decide +kernel
set_option maxRecDepth 40000 in
theorem ok_t_XL_link_3 : pe_ckB (pe_GA []) pe_cl pe_ckA t_XL_link (td_t_XL_link 3).1 (td_t_XL_link 3).2 = true := by decide +kernel
set_option maxRecDepth 40000 in
theorem ok_t_XL_link_4 : pe_ckB (pe_GA []) pe_cl pe_ckA t_XL_link (td_t_XL_link 4).1 (td_t_XL_link 4).2 = true := by decide +kernel
set_option maxRecDepth 40000 in
theorem ok_t_XL_link_5 : pe_ckB (pe_GA []) pe_cl pe_ckA t_XL_link (td_t_XL_link 5).1 (td_t_XL_link 5).2 = true := by decide +kernel
theorem ok_t_XL_link_a : ∀ b ∈ t_XL_link.bl, pe_ckB (pe_GA []) pe_cl pe_ckA t_XL_link b.1 b.2 = true := by
  intro b hb
  obtain ⟨n, hn⟩ := List.getElem?_of_mem hb
  rw [← pe_at_eq] at hn
  match n, hn with
  | 0, hn =>
    have h2 : td_t_XL_link 0 = b := by unfold td_t_XL_link; rw [hn]; rfl
    rw [← h2]; exact ok_t_XL_link_0
  | 1, hn =>
    have h2 : td_t_XL_link 1 = b := by unfold td_t_XL_link; rw [hn]; rfl
    rw [← h2]; exact ok_t_XL_link_1
  | 2, hn =>
    have h2 : td_t_XL_link 2 = b := by unfold td_t_XL_link; rw [hn]; rfl
    rw [← h2]; exact ok_t_XL_link_2
  | 3, hn =>
    have h2 : td_t_XL_link 3 = b := by unfold td_t_XL_link; rw [hn]; rfl
    rw [← h2]; exact ok_t_XL_link_3
  | 4, hn =>
    have h2 : td_t_XL_link 4 = b := by unfold td_t_XL_link; rw [hn]; rfl
    rw [← h2]; exact ok_t_XL_link_4
  | 5, hn =>
    have h2 : td_t_XL_link 5 = b := by unfold td_t_XL_link; rw [hn]; rfl
    rw [← h2]; exact ok_t_XL_link_5
  | n + 6, hn =>
    rw [pe_at_eq] at hn
    exact absurd (List.getElem?_eq_some_iff.mp hn).1 (by show ¬ n + 6 < 6; omega)
theorem ok_t_XL_link : pe_okM (pe_GA []) pe_cl pe_ckA t_XL_link = true := pe_okM_mk (pe_w_of (by rfl) (by rfl)) (by decide +kernel) ok_t_XL_link_a
def td_t_XL_makeNew (k : Nat) : Nat × List pe_I := (pe_at t_XL_makeNew.bl k).getD (0, [])
set_option maxRecDepth 40000 in
theorem ok_t_XL_makeNew_0 : pe_ckB (pe_GA []) pe_cl pe_ckA t_XL_makeNew (td_t_XL_makeNew 0).1 (td_t_XL_makeNew 0).2 = true := by decide +kernel
set_option maxRecDepth 40000 in
theorem ok_t_XL_makeNew_1 : pe_ckB (pe_GA []) pe_cl pe_ckA t_XL_makeNew (td_t_XL_makeNew 1).1 (td_t_XL_makeNew 1).2 = true := by decide +kernel
set_option maxRecDepth 40000 in
theorem ok_t_XL_makeNew_2 : pe_ckB (pe_GA []) pe_cl pe_ckA t_XL_makeNew (td_t_XL_makeNew 2).1 (td_t_XL_makeNew 2).2 = true := by decide +kernel
set_option maxRecDepth 40000 in
theorem ok_t_XL_makeNew_3 : pe_ckB (pe_GA []) pe_cl pe_ckA t_XL_makeNew (td_t_XL_makeNew 3).1 (td_t_XL_makeNew 3).2 = true := by decide +kernel
set_option maxRecDepth 40000 in
theorem ok_t_XL_makeNew_4 : pe_ckB (pe_GA []) pe_cl pe_ckA t_XL_makeNew (td_t_XL_makeNew 4).1 (td_t_XL_makeNew 4).2 = true := by decide +kernel
set_option maxRecDepth 40000 in
theorem ok_t_XL_makeNew_5 : pe_ckB (pe_GA []) pe_cl pe_ckA t_XL_makeNew (td_t_XL_makeNew 5).1 (td_t_XL_makeNew 5).2 = true := by decide +kernel
set_option maxRecDepth 40000 in
theorem ok_t_XL_makeNew_6 : pe_ckB (pe_GA []) pe_cl pe_ckA t_XL_makeNew (td_t_XL_makeNew 6).1 (td_t_XL_makeNew 6).2 = true := by decide +kernel
set_option maxRecDepth 40000 in
theorem ok_t_XL_makeNew_7 : pe_ckB (pe_GA []) pe_cl pe_ckA t_XL_makeNew (td_t_XL_makeNew 7).1 (td_t_XL_makeNew 7).2 = true := by decide +kernel
theorem ok_t_XL_makeNew_a : ∀ b ∈ t_XL_makeNew.bl, pe_ckB (pe_GA []) pe_cl pe_ckA t_XL_makeNew b.1 b.2 = true := by
  intro b hb
  obtain ⟨n, hn⟩ := List.getElem?_of_mem hb
  rw [← pe_at_eq] at hn
  match n, hn with
  | 0, hn =>
    have h2 : td_t_XL_makeNew 0 = b := by unfold td_t_XL_makeNew; rw [hn]; rfl
    rw [← h2]; exact ok_t_XL_makeNew_0
  | 1, hn =>
    have h2 : td_t_XL_makeNew 1 = b := by unfold td_t_XL_makeNew; rw [hn]; rfl
    rw [← h2]; exact ok_t_XL_makeNew_1
  | 2, hn =>
    have h2 : td_t_XL_makeNew 2 = b := by unfold td_t_XL_makeNew; rw [hn]; rfl
    rw [← h2]; exact ok_t_XL_makeNew_2
  | 3, hn =>
    have h2 : td_t_XL_makeNew 3 = b := by unfold td_t_XL_makeNew; rw [hn]; rfl
    rw [← h2]; exact ok_t_XL_makeNew_3
  | 4, hn =>
    have h2 : td_t_XL_makeNew 4 = b := by unfold td_t_XL_makeNew; rw [hn]; rfl
    rw [← h2]; exact ok_t_XL_makeNew_4
  | 5, hn =>
    have h2 : td_t_XL_makeNew 5 = b := by unfold td_t_XL_makeNew; rw [hn]; rfl
    rw [← h2]; exact ok_t_XL_makeNew_5
  | 6, hn =>
    have h2 : td_t_XL_makeNew 6 = b := by unfold td_t_XL_makeNew; rw [hn]; rfl
    rw [← h2]; exact ok_t_XL_makeNew_6
  | 7, hn =>
    have h2 : td_t_XL_makeNew 7 = b := by unfold td_t_XL_makeNew; rw [hn]; rfl
    rw [← h2]; exact ok_t_XL_makeNew_7
  | n + 8, hn =>
    rw [pe_at_eq] at hn
    exact absurd (List.getElem?_eq_some_iff.mp hn).1 (by show ¬ n + 8 < 8; omega)
theorem ok_t_XL_makeNew : pe_okM (pe_GA []) pe_cl pe_ckA t_XL_makeNew = true := pe_okM_mk (pe_w_of (by rfl) (by rfl)) (by decide +kernel) ok_t_XL_makeNew_a
