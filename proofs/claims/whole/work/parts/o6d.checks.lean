/-! PART o6d: tables checked once. -/
set_option maxRecDepth 40000 in
theorem ok_t_M_hasShape : pe_okM (pe_GA []) pe_cl pe_ckA t_M_hasShape = true := by decide +kernel
set_option maxRecDepth 40000 in
theorem ok_t_M_protoOf : pe_okM (pe_GA []) pe_cl pe_ckA t_M_protoOf = true := by decide +kernel
def td_t_X_property (k : Nat) : Nat × List pe_I := (pe_at t_X_property.bl k).getD (0, [])
set_option maxRecDepth 40000 in
theorem ok_t_X_property_0 : pe_ckB (pe_GA []) pe_cl pe_ckA t_X_property (td_t_X_property 0).1 (td_t_X_property 0).2 = true := by decide +kernel
set_option maxRecDepth 40000 in
theorem ok_t_X_property_1 : pe_ckB (pe_GA []) pe_cl pe_ckA t_X_property (td_t_X_property 1).1 (td_t_X_property 1).2 = true := by decide +kernel
set_option maxRecDepth 40000 in
theorem ok_t_X_property_2 : pe_ckB (pe_GA []) pe_cl pe_ckA t_X_property (td_t_X_property 2).1 (td_t_X_property 2).2 = true := by decide +kernel
set_option maxRecDepth 40000 in
theorem ok_t_X_property_3 : pe_ckB (pe_GA []) pe_cl pe_ckA t_X_property (td_t_X_property 3).1 (td_t_X_property 3).2 = true := by decide +kernel
set_option maxRecDepth 40000 in
theorem ok_t_X_property_4 : pe_ckB (pe_GA []) pe_cl pe_ckA t_X_property (td_t_X_property 4).1 (td_t_X_property 4).2 = true := by decide +kernel
set_option maxRecDepth 40000 in
theorem ok_t_X_property_5 : pe_ckB (pe_GA []) pe_cl pe_ckA t_X_property (td_t_X_property 5).1 (td_t_X_property 5).2 = true := by decide +kernel
set_option maxRecDepth 40000 in
theorem ok_t_X_property_6 : pe_ckB (pe_GA []) pe_cl pe_ckA t_X_property (td_t_X_property 6).1 (td_t_X_property 6).2 = true := by decide +kernel
set_option maxRecDepth 40000 in
theorem ok_t_X_property_7 : pe_ckB (pe_GA []) pe_cl pe_ckA t_X_property (td_t_X_property 7).1 (td_t_X_property 7).2 = true := by decide +kernel
theorem ok_t_X_property_a : ∀ b ∈ t_X_property.bl, pe_ckB (pe_GA []) pe_cl pe_ckA t_X_property b.1 b.2 = true := by
  intro b hb
  obtain ⟨n, hn⟩ := List.getElem?_of_mem hb
  rw [← pe_at_eq] at hn
  match n, hn with
  | 0, hn =>
    have h2 : td_t_X_property 0 = b := by unfold td_t_X_property; rw [hn]; rfl
    rw [← h2]; exact ok_t_X_property_0
  | 1, hn =>
    have h2 : td_t_X_property 1 = b := by unfold td_t_X_property; rw [hn]; rfl
    rw [← h2]; exact ok_t_X_property_1
  | 2, hn =>
    have h2 : td_t_X_property 2 = b := by unfold td_t_X_property; rw [hn]; rfl
    rw [← h2]; exact ok_t_X_property_2
  | 3, hn =>
    have h2 : td_t_X_property 3 = b := by unfold td_t_X_property; rw [hn]; rfl
    rw [← h2]; exact ok_t_X_property_3
  | 4, hn =>
    have h2 : td_t_X_property 4 = b := by unfold td_t_X_property; rw [hn]; rfl
    rw [← h2]; exact ok_t_X_property_4
  | 5, hn =>
    have h2 : td_t_X_property 5 = b := by unfold td_t_X_property; rw [hn]; rfl
    rw [← h2]; exact ok_t_X_property_5
  | 6, hn =>
    have h2 : td_t_X_property 6 = b := by unfold td_t_X_property; rw [hn]; rfl
    rw [← h2]; exact ok_t_X_property_6
  | 7, hn =>
    have h2 : td_t_X_property 7 = b := by unfold td_t_X_property; rw [hn]; rfl
    rw [← h2]; exact ok_t_X_property_7
  | n + 8, hn =>
    rw [pe_at_eq] at hn
    exact absurd (List.getElem?_eq_some_iff.mp hn).1 (by show ¬ n + 8 < 8; omega)
theorem ok_t_X_property : pe_okM (pe_GA []) pe_cl pe_ckA t_X_property = true := pe_okM_mk (pe_w_of (by rfl) (by rfl)) (by decide +kernel) ok_t_X_property_a
set_option maxRecDepth 40000 in
theorem ok_t_M_slotAt : pe_okM (pe_GA []) pe_cl pe_ckA t_M_slotAt = true := by decide +kernel
set_option maxRecDepth 40000 in
theorem ok_t_XH_nameIn : pe_okM (pe_GA []) pe_cl pe_ckA t_XH_nameIn = true := by decide +kernel
def td_t_X_countOfRuns (k : Nat) : Nat × List pe_I := (pe_at t_X_countOfRuns.bl k).getD (0, [])
set_option maxRecDepth 40000 in
theorem ok_t_X_countOfRuns_0 : pe_ckB (pe_GA []) pe_cl pe_ckA t_X_countOfRuns (td_t_X_countOfRuns 0).1 (td_t_X_countOfRuns 0).2 = true := by decide +kernel
set_option maxRecDepth 40000 in
theorem ok_t_X_countOfRuns_1 : pe_ckB (pe_GA []) pe_cl pe_ckA t_X_countOfRuns (td_t_X_countOfRuns 1).1 (td_t_X_countOfRuns 1).2 = true := by decide +kernel
set_option maxRecDepth 40000 in
theorem ok_t_X_countOfRuns_2 : pe_ckB (pe_GA []) pe_cl pe_ckA t_X_countOfRuns (td_t_X_countOfRuns 2).1 (td_t_X_countOfRuns 2).2 = true := by decide +kernel
set_option maxRecDepth 40000 in
theorem ok_t_X_countOfRuns_3 : pe_ckB (pe_GA []) pe_cl pe_ckA t_X_countOfRuns (td_t_X_countOfRuns 3).1 (td_t_X_countOfRuns 3).2 = true := by decide +kernel
set_option maxRecDepth 40000 in
theorem ok_t_X_countOfRuns_4 : pe_ckB (pe_GA []) pe_cl pe_ckA t_X_countOfRuns (td_t_X_countOfRuns 4).1 (td_t_X_countOfRuns 4).2 = true := by decide +kernel
set_option maxRecDepth 40000 in
theorem ok_t_X_countOfRuns_5 : pe_ckB (pe_GA []) pe_cl pe_ckA t_X_countOfRuns (td_t_X_countOfRuns 5).1 (td_t_X_countOfRuns 5).2 = true := by decide +kernel
set_option maxRecDepth 40000 in
theorem ok_t_X_countOfRuns_6 : pe_ckB (pe_GA []) pe_cl pe_ckA t_X_countOfRuns (td_t_X_countOfRuns 6).1 (td_t_X_countOfRuns 6).2 = true := by decide +kernel
set_option maxRecDepth 40000 in
theorem ok_t_X_countOfRuns_7 : pe_ckB (pe_GA []) pe_cl pe_ckA t_X_countOfRuns (td_t_X_countOfRuns 7).1 (td_t_X_countOfRuns 7).2 = true := by decide +kernel
set_option maxRecDepth 40000 in
theorem ok_t_X_countOfRuns_8 : pe_ckB (pe_GA []) pe_cl pe_ckA t_X_countOfRuns (td_t_X_countOfRuns 8).1 (td_t_X_countOfRuns 8).2 = true := by decide +kernel
set_option maxRecDepth 40000 in
theorem ok_t_X_countOfRuns_9 : pe_ckB (pe_GA []) pe_cl pe_ckA t_X_countOfRuns (td_t_X_countOfRuns 9).1 (td_t_X_countOfRuns 9).2 = true := by decide +kernel
set_option maxRecDepth 40000 in
theorem ok_t_X_countOfRuns_10 : pe_ckB (pe_GA []) pe_cl pe_ckA t_X_countOfRuns (td_t_X_countOfRuns 10).1 (td_t_X_countOfRuns 10).2 = true := by decide +kernel
set_option maxRecDepth 40000 in
theorem ok_t_X_countOfRuns_11 : pe_ckB (pe_GA []) pe_cl pe_ckA t_X_countOfRuns (td_t_X_countOfRuns 11).1 (td_t_X_countOfRuns 11).2 = true := by decide +kernel
theorem ok_t_X_countOfRuns_a : ∀ b ∈ t_X_countOfRuns.bl, pe_ckB (pe_GA []) pe_cl pe_ckA t_X_countOfRuns b.1 b.2 = true := by
  intro b hb
  obtain ⟨n, hn⟩ := List.getElem?_of_mem hb
  rw [← pe_at_eq] at hn
  match n, hn with
  | 0, hn =>
    have h2 : td_t_X_countOfRuns 0 = b := by unfold td_t_X_countOfRuns; rw [hn]; rfl
    rw [← h2]; exact ok_t_X_countOfRuns_0
  | 1, hn =>
    have h2 : td_t_X_countOfRuns 1 = b := by unfold td_t_X_countOfRuns; rw [hn]; rfl
    rw [← h2]; exact ok_t_X_countOfRuns_1
  | 2, hn =>
    have h2 : td_t_X_countOfRuns 2 = b := by unfold td_t_X_countOfRuns; rw [hn]; rfl
    rw [← h2]; exact ok_t_X_countOfRuns_2
  | 3, hn =>
    have h2 : td_t_X_countOfRuns 3 = b := by unfold td_t_X_countOfRuns; rw [hn]; rfl
    rw [← h2]; exact ok_t_X_countOfRuns_3
  | 4, hn =>
    have h2 : td_t_X_countOfRuns 4 = b := by unfold td_t_X_countOfRuns; rw [hn]; rfl
    rw [← h2]; exact ok_t_X_countOfRuns_4
  | 5, hn =>
    have h2 : td_t_X_countOfRuns 5 = b := by unfold td_t_X_countOfRuns; rw [hn]; rfl
    rw [← h2]; exact ok_t_X_countOfRuns_5
  | 6, hn =>
    have h2 : td_t_X_countOfRuns 6 = b := by unfold td_t_X_countOfRuns; rw [hn]; rfl
    rw [← h2]; exact ok_t_X_countOfRuns_6
  | 7, hn =>
    have h2 : td_t_X_countOfRuns 7 = b := by unfold td_t_X_countOfRuns; rw [hn]; rfl
    rw [← h2]; exact ok_t_X_countOfRuns_7
  | 8, hn =>
    have h2 : td_t_X_countOfRuns 8 = b := by unfold td_t_X_countOfRuns; rw [hn]; rfl
    rw [← h2]; exact ok_t_X_countOfRuns_8
  | 9, hn =>
    have h2 : td_t_X_countOfRuns 9 = b := by unfold td_t_X_countOfRuns; rw [hn]; rfl
    rw [← h2]; exact ok_t_X_countOfRuns_9
  | 10, hn =>
    have h2 : td_t_X_countOfRuns 10 = b := by unfold td_t_X_countOfRuns; rw [hn]; rfl
    rw [← h2]; exact ok_t_X_countOfRuns_10
  | 11, hn =>
    have h2 : td_t_X_countOfRuns 11 = b := by unfold td_t_X_countOfRuns; rw [hn]; rfl
    rw [← h2]; exact ok_t_X_countOfRuns_11
  | n + 12, hn =>
    rw [pe_at_eq] at hn
    exact absurd (List.getElem?_eq_some_iff.mp hn).1 (by show ¬ n + 12 < 12; omega)
theorem ok_t_X_countOfRuns : pe_okM (pe_GA []) pe_cl pe_ckA t_X_countOfRuns = true := pe_okM_mk (pe_w_of (by rfl) (by rfl)) (by decide +kernel) ok_t_X_countOfRuns_a
set_option maxRecDepth 40000 in
theorem ok_t_XW_addAll : pe_okM (pe_GA []) pe_cl pe_ckA t_XW_addAll = true := by decide +kernel
set_option maxRecDepth 40000 in
theorem ok_t_XV_init : pe_okM (pe_GA []) pe_cl pe_ckA t_XV_init = true := by decide +kernel
def td_t_XH_addShape (k : Nat) : Nat × List pe_I := (pe_at t_XH_addShape.bl k).getD (0, [])
set_option maxRecDepth 40000 in
theorem ok_t_XH_addShape_0 : pe_ckB (pe_GA []) pe_cl pe_ckA t_XH_addShape (td_t_XH_addShape 0).1 (td_t_XH_addShape 0).2 = true := by decide +kernel
set_option maxRecDepth 40000 in
theorem ok_t_XH_addShape_1 : pe_ckB (pe_GA []) pe_cl pe_ckA t_XH_addShape (td_t_XH_addShape 1).1 (td_t_XH_addShape 1).2 = true := by decide +kernel
set_option maxRecDepth 40000 in
theorem ok_t_XH_addShape_2 : pe_ckB (pe_GA []) pe_cl pe_ckA t_XH_addShape (td_t_XH_addShape 2).1 (td_t_XH_addShape 2).2 = true := by decide +kernel
set_option maxRecDepth 40000 in
theorem ok_t_XH_addShape_3 : pe_ckB (pe_GA []) pe_cl pe_ckA t_XH_addShape (td_t_XH_addShape 3).1 (td_t_XH_addShape 3).2 = true := by decide +kernel
theorem ok_t_XH_addShape_a : ∀ b ∈ t_XH_addShape.bl, pe_ckB (pe_GA []) pe_cl pe_ckA t_XH_addShape b.1 b.2 = true := by
  intro b hb
  obtain ⟨n, hn⟩ := List.getElem?_of_mem hb
  rw [← pe_at_eq] at hn
  match n, hn with
  | 0, hn =>
    have h2 : td_t_XH_addShape 0 = b := by unfold td_t_XH_addShape; rw [hn]; rfl
    rw [← h2]; exact ok_t_XH_addShape_0
  | 1, hn =>
    have h2 : td_t_XH_addShape 1 = b := by unfold td_t_XH_addShape; rw [hn]; rfl
    rw [← h2]; exact ok_t_XH_addShape_1
  | 2, hn =>
    have h2 : td_t_XH_addShape 2 = b := by unfold td_t_XH_addShape; rw [hn]; rfl
    rw [← h2]; exact ok_t_XH_addShape_2
  | 3, hn =>
    have h2 : td_t_XH_addShape 3 = b := by unfold td_t_XH_addShape; rw [hn]; rfl
    rw [← h2]; exact ok_t_XH_addShape_3
  | n + 4, hn =>
    rw [pe_at_eq] at hn
    exact absurd (List.getElem?_eq_some_iff.mp hn).1 (by show ¬ n + 4 < 4; omega)
theorem ok_t_XH_addShape : pe_okM (pe_GA []) pe_cl pe_ckA t_XH_addShape = true := pe_okM_mk (pe_w_of (by rfl) (by rfl)) (by decide +kernel) ok_t_XH_addShape_a
set_option maxRecDepth 40000 in
theorem ok_t_XC_takeEntry : pe_okM (pe_GA []) pe_cl pe_ckA t_XC_takeEntry = true := by decide +kernel
set_option maxRecDepth 40000 in
theorem ok_t_M_firstType : pe_okM (pe_GA []) pe_cl pe_ckA t_M_firstType = true := by decide +kernel
set_option maxRecDepth 40000 in
theorem ok_t_JM_min : pe_okM (pe_GA []) pe_cl pe_ckA t_JM_min = true := by decide +kernel
set_option maxRecDepth 40000 in
theorem ok_t_XO_clear : pe_okM (pe_GA []) pe_cl pe_ckA t_XO_clear = true := by decide +kernel
def td_t_XR_read (k : Nat) : Nat × List pe_I := (pe_at t_XR_read.bl k).getD (0, [])
set_option maxRecDepth 40000 in
theorem ok_t_XR_read_0 : pe_ckB (pe_GA []) pe_cl pe_ckA t_XR_read (td_t_XR_read 0).1 (td_t_XR_read 0).2 = true := by decide +kernel
set_option maxRecDepth 40000 in
theorem ok_t_XR_read_1 : pe_ckB (pe_GA []) pe_cl pe_ckA t_XR_read (td_t_XR_read 1).1 (td_t_XR_read 1).2 = true := by decide +kernel
set_option maxRecDepth 40000 in
theorem ok_t_XR_read_2 : pe_ckB (pe_GA []) pe_cl pe_ckA t_XR_read (td_t_XR_read 2).1 (td_t_XR_read 2).2 = true := by decide +kernel
theorem ok_t_XR_read_a : ∀ b ∈ t_XR_read.bl, pe_ckB (pe_GA []) pe_cl pe_ckA t_XR_read b.1 b.2 = true := by
  intro b hb
  obtain ⟨n, hn⟩ := List.getElem?_of_mem hb
  rw [← pe_at_eq] at hn
  match n, hn with
  | 0, hn =>
    have h2 : td_t_XR_read 0 = b := by unfold td_t_XR_read; rw [hn]; rfl
    rw [← h2]; exact ok_t_XR_read_0
  | 1, hn =>
    have h2 : td_t_XR_read 1 = b := by unfold td_t_XR_read; rw [hn]; rfl
    rw [← h2]; exact ok_t_XR_read_1
  | 2, hn =>
    have h2 : td_t_XR_read 2 = b := by unfold td_t_XR_read; rw [hn]; rfl
    rw [← h2]; exact ok_t_XR_read_2
  | n + 3, hn =>
    rw [pe_at_eq] at hn
    exact absurd (List.getElem?_eq_some_iff.mp hn).1 (by show ¬ n + 3 < 3; omega)
theorem ok_t_XR_read : pe_okM (pe_GA []) pe_cl pe_ckA t_XR_read = true := pe_okM_mk (pe_w_of (by rfl) (by rfl)) (by decide +kernel) ok_t_XR_read_a
def td_t_XT_readClasses (k : Nat) : Nat × List pe_I := (pe_at t_XT_readClasses.bl k).getD (0, [])
set_option maxRecDepth 40000 in
theorem ok_t_XT_readClasses_0 : pe_ckB (pe_GA []) pe_cl pe_ckA t_XT_readClasses (td_t_XT_readClasses 0).1 (td_t_XT_readClasses 0).2 = true := by decide +kernel
set_option maxRecDepth 40000 in
theorem ok_t_XT_readClasses_1 : pe_ckB (pe_GA []) pe_cl pe_ckA t_XT_readClasses (td_t_XT_readClasses 1).1 (td_t_XT_readClasses 1).2 = true := by decide +kernel
set_option maxRecDepth 40000 in
theorem ok_t_XT_readClasses_2 : pe_ckB (pe_GA []) pe_cl pe_ckA t_XT_readClasses (td_t_XT_readClasses 2).1 (td_t_XT_readClasses 2).2 = true := by decide +kernel
set_option maxRecDepth 40000 in
theorem ok_t_XT_readClasses_3 : pe_ckB (pe_GA []) pe_cl pe_ckA t_XT_readClasses (td_t_XT_readClasses 3).1 (td_t_XT_readClasses 3).2 = true := by decide +kernel
set_option maxRecDepth 40000 in
theorem ok_t_XT_readClasses_4 : pe_ckB (pe_GA []) pe_cl pe_ckA t_XT_readClasses (td_t_XT_readClasses 4).1 (td_t_XT_readClasses 4).2 = true := by decide +kernel
set_option maxRecDepth 40000 in
theorem ok_t_XT_readClasses_5 : pe_ckB (pe_GA []) pe_cl pe_ckA t_XT_readClasses (td_t_XT_readClasses 5).1 (td_t_XT_readClasses 5).2 = true := by decide +kernel
theorem ok_t_XT_readClasses_a : ∀ b ∈ t_XT_readClasses.bl, pe_ckB (pe_GA []) pe_cl pe_ckA t_XT_readClasses b.1 b.2 = true := by
  intro b hb
  obtain ⟨n, hn⟩ := List.getElem?_of_mem hb
  rw [← pe_at_eq] at hn
  match n, hn with
  | 0, hn =>
    have h2 : td_t_XT_readClasses 0 = b := by unfold td_t_XT_readClasses; rw [hn]; rfl
    rw [← h2]; exact ok_t_XT_readClasses_0
  | 1, hn =>
    have h2 : td_t_XT_readClasses 1 = b := by unfold td_t_XT_readClasses; rw [hn]; rfl
    rw [← h2]; exact ok_t_XT_readClasses_1
  | 2, hn =>
    have h2 : td_t_XT_readClasses 2 = b := by unfold td_t_XT_readClasses; rw [hn]; rfl
    rw [← h2]; exact ok_t_XT_readClasses_2
  | 3, hn =>
    have h2 : td_t_XT_readClasses 3 = b := by unfold td_t_XT_readClasses; rw [hn]; rfl
    rw [← h2]; exact ok_t_XT_readClasses_3
  | 4, hn =>
    have h2 : td_t_XT_readClasses 4 = b := by unfold td_t_XT_readClasses; rw [hn]; rfl
    rw [← h2]; exact ok_t_XT_readClasses_4
  | 5, hn =>
    have h2 : td_t_XT_readClasses 5 = b := by unfold td_t_XT_readClasses; rw [hn]; rfl
    rw [← h2]; exact ok_t_XT_readClasses_5
  | n + 6, hn =>
    rw [pe_at_eq] at hn
    exact absurd (List.getElem?_eq_some_iff.mp hn).1 (by show ¬ n + 6 < 6; omega)
theorem ok_t_XT_readClasses : pe_okM (pe_GA []) pe_cl pe_ckA t_XT_readClasses = true := pe_okM_mk (pe_w_of (by rfl) (by rfl)) (by decide +kernel) ok_t_XT_readClasses_a
def td_t_XW_takeBack (k : Nat) : Nat × List pe_I := (pe_at t_XW_takeBack.bl k).getD (0, [])
set_option maxRecDepth 40000 in
theorem ok_t_XW_takeBack_0 : pe_ckB (pe_GA []) pe_cl pe_ckA t_XW_takeBack (td_t_XW_takeBack 0).1 (td_t_XW_takeBack 0).2 = true := by decide +kernel
set_option maxRecDepth 40000 in
theorem ok_t_XW_takeBack_1 : pe_ckB (pe_GA []) pe_cl pe_ckA t_XW_takeBack (td_t_XW_takeBack 1).1 (td_t_XW_takeBack 1).2 = true := by decide +kernel
set_option maxRecDepth 40000 in
theorem ok_t_XW_takeBack_2 : pe_ckB (pe_GA []) pe_cl pe_ckA t_XW_takeBack (td_t_XW_takeBack 2).1 (td_t_XW_takeBack 2).2 = true := by decide +kernel
set_option maxRecDepth 40000 in
theorem ok_t_XW_takeBack_3 : pe_ckB (pe_GA []) pe_cl pe_ckA t_XW_takeBack (td_t_XW_takeBack 3).1 (td_t_XW_takeBack 3).2 = true := by decide +kernel
set_option maxRecDepth 40000 in
theorem ok_t_XW_takeBack_4 : pe_ckB (pe_GA []) pe_cl pe_ckA t_XW_takeBack (td_t_XW_takeBack 4).1 (td_t_XW_takeBack 4).2 = true := by decide +kernel
set_option maxRecDepth 40000 in
theorem ok_t_XW_takeBack_5 : pe_ckB (pe_GA []) pe_cl pe_ckA t_XW_takeBack (td_t_XW_takeBack 5).1 (td_t_XW_takeBack 5).2 = true := by decide +kernel
set_option maxRecDepth 40000 in
theorem ok_t_XW_takeBack_6 : pe_ckB (pe_GA []) pe_cl pe_ckA t_XW_takeBack (td_t_XW_takeBack 6).1 (td_t_XW_takeBack 6).2 = true := by decide +kernel
theorem ok_t_XW_takeBack_a : ∀ b ∈ t_XW_takeBack.bl, pe_ckB (pe_GA []) pe_cl pe_ckA t_XW_takeBack b.1 b.2 = true := by
  intro b hb
  obtain ⟨n, hn⟩ := List.getElem?_of_mem hb
  rw [← pe_at_eq] at hn
  match n, hn with
  | 0, hn =>
    have h2 : td_t_XW_takeBack 0 = b := by unfold td_t_XW_takeBack; rw [hn]; rfl
    rw [← h2]; exact ok_t_XW_takeBack_0
  | 1, hn =>
    have h2 : td_t_XW_takeBack 1 = b := by unfold td_t_XW_takeBack; rw [hn]; rfl
    rw [← h2]; exact ok_t_XW_takeBack_1
  | 2, hn =>
    have h2 : td_t_XW_takeBack 2 = b := by unfold td_t_XW_takeBack; rw [hn]; rfl
    rw [← h2]; exact ok_t_XW_takeBack_2
  | 3, hn =>
    have h2 : td_t_XW_takeBack 3 = b := by unfold td_t_XW_takeBack; rw [hn]; rfl
    rw [← h2]; exact ok_t_XW_takeBack_3
  | 4, hn =>
    have h2 : td_t_XW_takeBack 4 = b := by unfold td_t_XW_takeBack; rw [hn]; rfl
    rw [← h2]; exact ok_t_XW_takeBack_4
  | 5, hn =>
    have h2 : td_t_XW_takeBack 5 = b := by unfold td_t_XW_takeBack; rw [hn]; rfl
    rw [← h2]; exact ok_t_XW_takeBack_5
  | 6, hn =>
    have h2 : td_t_XW_takeBack 6 = b := by unfold td_t_XW_takeBack; rw [hn]; rfl
    rw [← h2]; exact ok_t_XW_takeBack_6
  | n + 7, hn =>
    rw [pe_at_eq] at hn
    exact absurd (List.getElem?_eq_some_iff.mp hn).1 (by show ¬ n + 7 < 7; omega)
theorem ok_t_XW_takeBack : pe_okM (pe_GA []) pe_cl pe_ckA t_XW_takeBack = true := pe_okM_mk (pe_w_of (by rfl) (by rfl)) (by decide +kernel) ok_t_XW_takeBack_a
set_option maxRecDepth 40000 in
theorem ok_t_JA_fill : pe_okM (pe_GA []) pe_cl pe_ckA t_JA_fill = true := by decide +kernel
def td_t_M_next (k : Nat) : Nat × List pe_I := (pe_at t_M_next.bl k).getD (0, [])
set_option maxRecDepth 40000 in
theorem ok_t_M_next_0 : pe_ckB (pe_GA []) pe_cl pe_ckA t_M_next (td_t_M_next 0).1 (td_t_M_next 0).2 = true := by decide +kernel
set_option maxRecDepth 40000 in
theorem ok_t_M_next_1 : pe_ckB (pe_GA []) pe_cl pe_ckA t_M_next (td_t_M_next 1).1 (td_t_M_next 1).2 = true := by decide +kernel
set_option maxRecDepth 40000 in
theorem ok_t_M_next_2 : pe_ckB (pe_GA []) pe_cl pe_ckA t_M_next (td_t_M_next 2).1 (td_t_M_next 2).2 = true := by decide +kernel
set_option maxRecDepth 40000 in
theorem ok_t_M_next_3 : pe_ckB (pe_GA []) pe_cl pe_ckA t_M_next (td_t_M_next 3).1 (td_t_M_next 3).2 = true := by decide +kernel
set_option maxRecDepth 40000 in
theorem ok_t_M_next_4 : pe_ckB (pe_GA []) pe_cl pe_ckA t_M_next (td_t_M_next 4).1 (td_t_M_next 4).2 = true := by decide +kernel
set_option maxRecDepth 40000 in
theorem ok_t_M_next_5 : pe_ckB (pe_GA []) pe_cl pe_ckA t_M_next (td_t_M_next 5).1 (td_t_M_next 5).2 = true := by decide +kernel
set_option maxRecDepth 40000 in
theorem ok_t_M_next_6 : pe_ckB (pe_GA []) pe_cl pe_ckA t_M_next (td_t_M_next 6).1 (td_t_M_next 6).2 = true := by decide +kernel
set_option maxRecDepth 40000 in
theorem ok_t_M_next_7 : pe_ckB (pe_GA []) pe_cl pe_ckA t_M_next (td_t_M_next 7).1 (td_t_M_next 7).2 = true := by decide +kernel
set_option maxRecDepth 40000 in
theorem ok_t_M_next_8 : pe_ckB (pe_GA []) pe_cl pe_ckA t_M_next (td_t_M_next 8).1 (td_t_M_next 8).2 = true := by decide +kernel
set_option maxRecDepth 40000 in
theorem ok_t_M_next_9 : pe_ckB (pe_GA []) pe_cl pe_ckA t_M_next (td_t_M_next 9).1 (td_t_M_next 9).2 = true := by decide +kernel
set_option maxRecDepth 40000 in
theorem ok_t_M_next_10 : pe_ckB (pe_GA []) pe_cl pe_ckA t_M_next (td_t_M_next 10).1 (td_t_M_next 10).2 = true := by decide +kernel
set_option maxRecDepth 40000 in
theorem ok_t_M_next_11 : pe_ckB (pe_GA []) pe_cl pe_ckA t_M_next (td_t_M_next 11).1 (td_t_M_next 11).2 = true := by decide +kernel
set_option maxRecDepth 40000 in
theorem ok_t_M_next_12 : pe_ckB (pe_GA []) pe_cl pe_ckA t_M_next (td_t_M_next 12).1 (td_t_M_next 12).2 = true := by decide +kernel
set_option maxRecDepth 40000 in
theorem ok_t_M_next_13 : pe_ckB (pe_GA []) pe_cl pe_ckA t_M_next (td_t_M_next 13).1 (td_t_M_next 13).2 = true := by decide +kernel
set_option maxRecDepth 40000 in
theorem ok_t_M_next_14 : pe_ckB (pe_GA []) pe_cl pe_ckA t_M_next (td_t_M_next 14).1 (td_t_M_next 14).2 = true := by decide +kernel
set_option maxRecDepth 40000 in
theorem ok_t_M_next_15 : pe_ckB (pe_GA []) pe_cl pe_ckA t_M_next (td_t_M_next 15).1 (td_t_M_next 15).2 = true := by decide +kernel
set_option maxRecDepth 40000 in
theorem ok_t_M_next_16 : pe_ckB (pe_GA []) pe_cl pe_ckA t_M_next (td_t_M_next 16).1 (td_t_M_next 16).2 = true := by decide +kernel
set_option maxRecDepth 40000 in
theorem ok_t_M_next_17 : pe_ckB (pe_GA []) pe_cl pe_ckA t_M_next (td_t_M_next 17).1 (td_t_M_next 17).2 = true := by decide +kernel
set_option maxRecDepth 40000 in
theorem ok_t_M_next_18 : pe_ckB (pe_GA []) pe_cl pe_ckA t_M_next (td_t_M_next 18).1 (td_t_M_next 18).2 = true := by decide +kernel
set_option maxRecDepth 40000 in
theorem ok_t_M_next_19 : pe_ckB (pe_GA []) pe_cl pe_ckA t_M_next (td_t_M_next 19).1 (td_t_M_next 19).2 = true := by decide +kernel
set_option maxRecDepth 40000 in
theorem ok_t_M_next_20 : pe_ckB (pe_GA []) pe_cl pe_ckA t_M_next (td_t_M_next 20).1 (td_t_M_next 20).2 = true := by decide +kernel
set_option maxRecDepth 40000 in
theorem ok_t_M_next_21 : pe_ckB (pe_GA []) pe_cl pe_ckA t_M_next (td_t_M_next 21).1 (td_t_M_next 21).2 = true := by decide +kernel
set_option maxRecDepth 40000 in
theorem ok_t_M_next_22 : pe_ckB (pe_GA []) pe_cl pe_ckA t_M_next (td_t_M_next 22).1 (td_t_M_next 22).2 = true := by decide +kernel
set_option maxRecDepth 40000 in
theorem ok_t_M_next_23 : pe_ckB (pe_GA []) pe_cl pe_ckA t_M_next (td_t_M_next 23).1 (td_t_M_next 23).2 = true := by decide +kernel
theorem ok_t_M_next_a : ∀ b ∈ t_M_next.bl, pe_ckB (pe_GA []) pe_cl pe_ckA t_M_next b.1 b.2 = true := by
  intro b hb
  obtain ⟨n, hn⟩ := List.getElem?_of_mem hb
  rw [← pe_at_eq] at hn
  match n, hn with
  | 0, hn =>
    have h2 : td_t_M_next 0 = b := by unfold td_t_M_next; rw [hn]; rfl
    rw [← h2]; exact ok_t_M_next_0
  | 1, hn =>
    have h2 : td_t_M_next 1 = b := by unfold td_t_M_next; rw [hn]; rfl
    rw [← h2]; exact ok_t_M_next_1
  | 2, hn =>
    have h2 : td_t_M_next 2 = b := by unfold td_t_M_next; rw [hn]; rfl
    rw [← h2]; exact ok_t_M_next_2
  | 3, hn =>
    have h2 : td_t_M_next 3 = b := by unfold td_t_M_next; rw [hn]; rfl
    rw [← h2]; exact ok_t_M_next_3
  | 4, hn =>
    have h2 : td_t_M_next 4 = b := by unfold td_t_M_next; rw [hn]; rfl
    rw [← h2]; exact ok_t_M_next_4
  | 5, hn =>
    have h2 : td_t_M_next 5 = b := by unfold td_t_M_next; rw [hn]; rfl
    rw [← h2]; exact ok_t_M_next_5
  | 6, hn =>
    have h2 : td_t_M_next 6 = b := by unfold td_t_M_next; rw [hn]; rfl
    rw [← h2]; exact ok_t_M_next_6
  | 7, hn =>
    have h2 : td_t_M_next 7 = b := by unfold td_t_M_next; rw [hn]; rfl
    rw [← h2]; exact ok_t_M_next_7
  | 8, hn =>
    have h2 : td_t_M_next 8 = b := by unfold td_t_M_next; rw [hn]; rfl
    rw [← h2]; exact ok_t_M_next_8
  | 9, hn =>
    have h2 : td_t_M_next 9 = b := by unfold td_t_M_next; rw [hn]; rfl
    rw [← h2]; exact ok_t_M_next_9
  | 10, hn =>
    have h2 : td_t_M_next 10 = b := by unfold td_t_M_next; rw [hn]; rfl
    rw [← h2]; exact ok_t_M_next_10
  | 11, hn =>
    have h2 : td_t_M_next 11 = b := by unfold td_t_M_next; rw [hn]; rfl
    rw [← h2]; exact ok_t_M_next_11
  | 12, hn =>
    have h2 : td_t_M_next 12 = b := by unfold td_t_M_next; rw [hn]; rfl
    rw [← h2]; exact ok_t_M_next_12
  | 13, hn =>
    have h2 : td_t_M_next 13 = b := by unfold td_t_M_next; rw [hn]; rfl
    rw [← h2]; exact ok_t_M_next_13
  | 14, hn =>
    have h2 : td_t_M_next 14 = b := by unfold td_t_M_next; rw [hn]; rfl
    rw [← h2]; exact ok_t_M_next_14
  | 15, hn =>
    have h2 : td_t_M_next 15 = b := by unfold td_t_M_next; rw [hn]; rfl
    rw [← h2]; exact ok_t_M_next_15
  | 16, hn =>
    have h2 : td_t_M_next 16 = b := by unfold td_t_M_next; rw [hn]; rfl
    rw [← h2]; exact ok_t_M_next_16
  | 17, hn =>
    have h2 : td_t_M_next 17 = b := by unfold td_t_M_next; rw [hn]; rfl
    rw [← h2]; exact ok_t_M_next_17
  | 18, hn =>
    have h2 : td_t_M_next 18 = b := by unfold td_t_M_next; rw [hn]; rfl
    rw [← h2]; exact ok_t_M_next_18
  | 19, hn =>
    have h2 : td_t_M_next 19 = b := by unfold td_t_M_next; rw [hn]; rfl
    rw [← h2]; exact ok_t_M_next_19
  | 20, hn =>
    have h2 : td_t_M_next 20 = b := by unfold td_t_M_next; rw [hn]; rfl
    rw [← h2]; exact ok_t_M_next_20
  | 21, hn =>
    have h2 : td_t_M_next 21 = b := by unfold td_t_M_next; rw [hn]; rfl
    rw [← h2]; exact ok_t_M_next_21
  | 22, hn =>
    have h2 : td_t_M_next 22 = b := by unfold td_t_M_next; rw [hn]; rfl
    rw [← h2]; exact ok_t_M_next_22
  | 23, hn =>
    have h2 : td_t_M_next 23 = b := by unfold td_t_M_next; rw [hn]; rfl
    rw [← h2]; exact ok_t_M_next_23
  | n + 24, hn =>
    rw [pe_at_eq] at hn
    exact absurd (List.getElem?_eq_some_iff.mp hn).1 (by show ¬ n + 24 < 24; omega)
theorem ok_t_M_next : pe_okM (pe_GA []) pe_cl pe_ckA t_M_next = true := pe_okM_mk (pe_w_of (by rfl) (by rfl)) (by decide +kernel) ok_t_M_next_a
def td_t_M_isWord (k : Nat) : Nat × List pe_I := (pe_at t_M_isWord.bl k).getD (0, [])
set_option maxRecDepth 40000 in
theorem ok_t_M_isWord_0 : pe_ckB (pe_GA []) pe_cl pe_ckA t_M_isWord (td_t_M_isWord 0).1 (td_t_M_isWord 0).2 = true := by decide +kernel
set_option maxRecDepth 40000 in
theorem ok_t_M_isWord_1 : pe_ckB (pe_GA []) pe_cl pe_ckA t_M_isWord (td_t_M_isWord 1).1 (td_t_M_isWord 1).2 = true := by decide +kernel
set_option maxRecDepth 40000 in
theorem ok_t_M_isWord_2 : pe_ckB (pe_GA []) pe_cl pe_ckA t_M_isWord (td_t_M_isWord 2).1 (td_t_M_isWord 2).2 = true := by decide +kernel
set_option maxRecDepth 40000 in
theorem ok_t_M_isWord_3 : pe_ckB (pe_GA []) pe_cl pe_ckA t_M_isWord (td_t_M_isWord 3).1 (td_t_M_isWord 3).2 = true := by decide +kernel
set_option maxRecDepth 40000 in
theorem ok_t_M_isWord_4 : pe_ckB (pe_GA []) pe_cl pe_ckA t_M_isWord (td_t_M_isWord 4).1 (td_t_M_isWord 4).2 = true := by decide +kernel
set_option maxRecDepth 40000 in
theorem ok_t_M_isWord_5 : pe_ckB (pe_GA []) pe_cl pe_ckA t_M_isWord (td_t_M_isWord 5).1 (td_t_M_isWord 5).2 = true := by decide +kernel
set_option maxRecDepth 40000 in
theorem ok_t_M_isWord_6 : pe_ckB (pe_GA []) pe_cl pe_ckA t_M_isWord (td_t_M_isWord 6).1 (td_t_M_isWord 6).2 = true := by decide +kernel
theorem ok_t_M_isWord_a : ∀ b ∈ t_M_isWord.bl, pe_ckB (pe_GA []) pe_cl pe_ckA t_M_isWord b.1 b.2 = true := by
  intro b hb
  obtain ⟨n, hn⟩ := List.getElem?_of_mem hb
  rw [← pe_at_eq] at hn
  match n, hn with
  | 0, hn =>
    have h2 : td_t_M_isWord 0 = b := by unfold td_t_M_isWord; rw [hn]; rfl
    rw [← h2]; exact ok_t_M_isWord_0
  | 1, hn =>
    have h2 : td_t_M_isWord 1 = b := by unfold td_t_M_isWord; rw [hn]; rfl
    rw [← h2]; exact ok_t_M_isWord_1
  | 2, hn =>
    have h2 : td_t_M_isWord 2 = b := by unfold td_t_M_isWord; rw [hn]; rfl
    rw [← h2]; exact ok_t_M_isWord_2
  | 3, hn =>
    have h2 : td_t_M_isWord 3 = b := by unfold td_t_M_isWord; rw [hn]; rfl
    rw [← h2]; exact ok_t_M_isWord_3
  | 4, hn =>
    have h2 : td_t_M_isWord 4 = b := by unfold td_t_M_isWord; rw [hn]; rfl
    rw [← h2]; exact ok_t_M_isWord_4
  | 5, hn =>
    have h2 : td_t_M_isWord 5 = b := by unfold td_t_M_isWord; rw [hn]; rfl
    rw [← h2]; exact ok_t_M_isWord_5
  | 6, hn =>
    have h2 : td_t_M_isWord 6 = b := by unfold td_t_M_isWord; rw [hn]; rfl
    rw [← h2]; exact ok_t_M_isWord_6
  | n + 7, hn =>
    rw [pe_at_eq] at hn
    exact absurd (List.getElem?_eq_some_iff.mp hn).1 (by show ¬ n + 7 < 7; omega)
theorem ok_t_M_isWord : pe_okM (pe_GA []) pe_cl pe_ckA t_M_isWord = true := pe_okM_mk (pe_w_of (by rfl) (by rfl)) (by decide +kernel) ok_t_M_isWord_a
set_option maxRecDepth 40000 in
theorem ok_t_M_must : pe_okM (pe_GA []) pe_cl pe_ckA t_M_must = true := by decide +kernel
def td_t_M_classHere (k : Nat) : Nat × List pe_I := (pe_at t_M_classHere.bl k).getD (0, [])
set_option maxRecDepth 40000 in
theorem ok_t_M_classHere_0 : pe_ckB (pe_GA []) pe_cl pe_ckA t_M_classHere (td_t_M_classHere 0).1 (td_t_M_classHere 0).2 = true := by decide +kernel
set_option maxRecDepth 40000 in
theorem ok_t_M_classHere_1 : pe_ckB (pe_GA []) pe_cl pe_ckA t_M_classHere (td_t_M_classHere 1).1 (td_t_M_classHere 1).2 = true := by decide +kernel
set_option maxRecDepth 40000 in
theorem ok_t_M_classHere_2 : pe_ckB (pe_GA []) pe_cl pe_ckA t_M_classHere (td_t_M_classHere 2).1 (td_t_M_classHere 2).2 = true := by decide +kernel
set_option maxRecDepth 40000 in
theorem ok_t_M_classHere_3 : pe_ckB (pe_GA []) pe_cl pe_ckA t_M_classHere (td_t_M_classHere 3).1 (td_t_M_classHere 3).2 = true := by decide +kernel
set_option maxRecDepth 40000 in
theorem ok_t_M_classHere_4 : pe_ckB (pe_GA []) pe_cl pe_ckA t_M_classHere (td_t_M_classHere 4).1 (td_t_M_classHere 4).2 = true := by decide +kernel
set_option maxRecDepth 40000 in
theorem ok_t_M_classHere_5 : pe_ckB (pe_GA []) pe_cl pe_ckA t_M_classHere (td_t_M_classHere 5).1 (td_t_M_classHere 5).2 = true := by decide +kernel
set_option maxRecDepth 40000 in
theorem ok_t_M_classHere_6 : pe_ckB (pe_GA []) pe_cl pe_ckA t_M_classHere (td_t_M_classHere 6).1 (td_t_M_classHere 6).2 = true := by decide +kernel
set_option maxRecDepth 40000 in
theorem ok_t_M_classHere_7 : pe_ckB (pe_GA []) pe_cl pe_ckA t_M_classHere (td_t_M_classHere 7).1 (td_t_M_classHere 7).2 = true := by decide +kernel
set_option maxRecDepth 40000 in
theorem ok_t_M_classHere_8 : pe_ckB (pe_GA []) pe_cl pe_ckA t_M_classHere (td_t_M_classHere 8).1 (td_t_M_classHere 8).2 = true := by decide +kernel
set_option maxRecDepth 40000 in
theorem ok_t_M_classHere_9 : pe_ckB (pe_GA []) pe_cl pe_ckA t_M_classHere (td_t_M_classHere 9).1 (td_t_M_classHere 9).2 = true := by decide +kernel
theorem ok_t_M_classHere_a : ∀ b ∈ t_M_classHere.bl, pe_ckB (pe_GA []) pe_cl pe_ckA t_M_classHere b.1 b.2 = true := by
  intro b hb
  obtain ⟨n, hn⟩ := List.getElem?_of_mem hb
  rw [← pe_at_eq] at hn
  match n, hn with
  | 0, hn =>
    have h2 : td_t_M_classHere 0 = b := by unfold td_t_M_classHere; rw [hn]; rfl
    rw [← h2]; exact ok_t_M_classHere_0
  | 1, hn =>
    have h2 : td_t_M_classHere 1 = b := by unfold td_t_M_classHere; rw [hn]; rfl
    rw [← h2]; exact ok_t_M_classHere_1
  | 2, hn =>
    have h2 : td_t_M_classHere 2 = b := by unfold td_t_M_classHere; rw [hn]; rfl
    rw [← h2]; exact ok_t_M_classHere_2
  | 3, hn =>
    have h2 : td_t_M_classHere 3 = b := by unfold td_t_M_classHere; rw [hn]; rfl
    rw [← h2]; exact ok_t_M_classHere_3
  | 4, hn =>
    have h2 : td_t_M_classHere 4 = b := by unfold td_t_M_classHere; rw [hn]; rfl
    rw [← h2]; exact ok_t_M_classHere_4
  | 5, hn =>
    have h2 : td_t_M_classHere 5 = b := by unfold td_t_M_classHere; rw [hn]; rfl
    rw [← h2]; exact ok_t_M_classHere_5
  | 6, hn =>
    have h2 : td_t_M_classHere 6 = b := by unfold td_t_M_classHere; rw [hn]; rfl
    rw [← h2]; exact ok_t_M_classHere_6
  | 7, hn =>
    have h2 : td_t_M_classHere 7 = b := by unfold td_t_M_classHere; rw [hn]; rfl
    rw [← h2]; exact ok_t_M_classHere_7
  | 8, hn =>
    have h2 : td_t_M_classHere 8 = b := by unfold td_t_M_classHere; rw [hn]; rfl
    rw [← h2]; exact ok_t_M_classHere_8
  | 9, hn =>
    have h2 : td_t_M_classHere 9 = b := by unfold td_t_M_classHere; rw [hn]; rfl
    rw [← h2]; exact ok_t_M_classHere_9
  | n + 10, hn =>
    rw [pe_at_eq] at hn
    exact absurd (List.getElem?_eq_some_iff.mp hn).1 (by show ¬ n + 10 < 10; omega)
theorem ok_t_M_classHere : pe_okM (pe_GA []) pe_cl pe_ckA t_M_classHere = true := pe_okM_mk (pe_w_of (by rfl) (by rfl)) (by decide +kernel) ok_t_M_classHere_a
set_option maxRecDepth 40000 in
theorem ok_t_M_isOneOf : pe_okM (pe_GA []) pe_cl pe_ckA t_M_isOneOf = true := by decide +kernel
set_option maxRecDepth 40000 in
theorem ok_t_M_accepts : pe_okM (pe_GA []) pe_cl pe_ckA t_M_accepts = true := by decide +kernel
def td_t_M_readsSuper (k : Nat) : Nat × List pe_I := (pe_at t_M_readsSuper.bl k).getD (0, [])
set_option maxRecDepth 40000 in
theorem ok_t_M_readsSuper_0 : pe_ckB (pe_GA []) pe_cl pe_ckA t_M_readsSuper (td_t_M_readsSuper 0).1 (td_t_M_readsSuper 0).2 = true := by decide +kernel
set_option maxRecDepth 40000 in
theorem ok_t_M_readsSuper_1 : pe_ckB (pe_GA []) pe_cl pe_ckA t_M_readsSuper (td_t_M_readsSuper 1).1 (td_t_M_readsSuper 1).2 = true := by decide +kernel
set_option maxRecDepth 40000 in
theorem ok_t_M_readsSuper_2 : pe_ckB (pe_GA []) pe_cl pe_ckA t_M_readsSuper (td_t_M_readsSuper 2).1 (td_t_M_readsSuper 2).2 = true := by decide +kernel
set_option maxRecDepth 40000 in
theorem ok_t_M_readsSuper_3 : pe_ckB (pe_GA []) pe_cl pe_ckA t_M_readsSuper (td_t_M_readsSuper 3).1 (td_t_M_readsSuper 3).2 = true := by decide +kernel
set_option maxRecDepth 40000 in
theorem ok_t_M_readsSuper_4 : pe_ckB (pe_GA []) pe_cl pe_ckA t_M_readsSuper (td_t_M_readsSuper 4).1 (td_t_M_readsSuper 4).2 = true := by decide +kernel
set_option maxRecDepth 40000 in
theorem ok_t_M_readsSuper_5 : pe_ckB (pe_GA []) pe_cl pe_ckA t_M_readsSuper (td_t_M_readsSuper 5).1 (td_t_M_readsSuper 5).2 = true := by decide +kernel
set_option maxRecDepth 40000 in
theorem ok_t_M_readsSuper_6 : pe_ckB (pe_GA []) pe_cl pe_ckA t_M_readsSuper (td_t_M_readsSuper 6).1 (td_t_M_readsSuper 6).2 = true := by decide +kernel
set_option maxRecDepth 40000 in
theorem ok_t_M_readsSuper_7 : pe_ckB (pe_GA []) pe_cl pe_ckA t_M_readsSuper (td_t_M_readsSuper 7).1 (td_t_M_readsSuper 7).2 = true := by decide +kernel
set_option maxRecDepth 40000 in
theorem ok_t_M_readsSuper_8 : pe_ckB (pe_GA []) pe_cl pe_ckA t_M_readsSuper (td_t_M_readsSuper 8).1 (td_t_M_readsSuper 8).2 = true := by decide +kernel
set_option maxRecDepth 40000 in
theorem ok_t_M_readsSuper_9 : pe_ckB (pe_GA []) pe_cl pe_ckA t_M_readsSuper (td_t_M_readsSuper 9).1 (td_t_M_readsSuper 9).2 = true := by decide +kernel
set_option maxRecDepth 40000 in
theorem ok_t_M_readsSuper_10 : pe_ckB (pe_GA []) pe_cl pe_ckA t_M_readsSuper (td_t_M_readsSuper 10).1 (td_t_M_readsSuper 10).2 = true := by decide +kernel
set_option maxRecDepth 40000 in
theorem ok_t_M_readsSuper_11 : pe_ckB (pe_GA []) pe_cl pe_ckA t_M_readsSuper (td_t_M_readsSuper 11).1 (td_t_M_readsSuper 11).2 = true := by decide +kernel
set_option maxRecDepth 40000 in
theorem ok_t_M_readsSuper_12 : pe_ckB (pe_GA []) pe_cl pe_ckA t_M_readsSuper (td_t_M_readsSuper 12).1 (td_t_M_readsSuper 12).2 = true := by decide +kernel
set_option maxRecDepth 40000 in
theorem ok_t_M_readsSuper_13 : pe_ckB (pe_GA []) pe_cl pe_ckA t_M_readsSuper (td_t_M_readsSuper 13).1 (td_t_M_readsSuper 13).2 = true := by decide +kernel
set_option maxRecDepth 40000 in
theorem ok_t_M_readsSuper_14 : pe_ckB (pe_GA []) pe_cl pe_ckA t_M_readsSuper (td_t_M_readsSuper 14).1 (td_t_M_readsSuper 14).2 = true := by decide +kernel
set_option maxRecDepth 40000 in
theorem ok_t_M_readsSuper_15 : pe_ckB (pe_GA []) pe_cl pe_ckA t_M_readsSuper (td_t_M_readsSuper 15).1 (td_t_M_readsSuper 15).2 = true := by decide +kernel
set_option maxRecDepth 40000 in
theorem ok_t_M_readsSuper_16 : pe_ckB (pe_GA []) pe_cl pe_ckA t_M_readsSuper (td_t_M_readsSuper 16).1 (td_t_M_readsSuper 16).2 = true := by decide +kernel
theorem ok_t_M_readsSuper_a : ∀ b ∈ t_M_readsSuper.bl, pe_ckB (pe_GA []) pe_cl pe_ckA t_M_readsSuper b.1 b.2 = true := by
  intro b hb
  obtain ⟨n, hn⟩ := List.getElem?_of_mem hb
  rw [← pe_at_eq] at hn
  match n, hn with
  | 0, hn =>
    have h2 : td_t_M_readsSuper 0 = b := by unfold td_t_M_readsSuper; rw [hn]; rfl
    rw [← h2]; exact ok_t_M_readsSuper_0
  | 1, hn =>
    have h2 : td_t_M_readsSuper 1 = b := by unfold td_t_M_readsSuper; rw [hn]; rfl
    rw [← h2]; exact ok_t_M_readsSuper_1
  | 2, hn =>
    have h2 : td_t_M_readsSuper 2 = b := by unfold td_t_M_readsSuper; rw [hn]; rfl
    rw [← h2]; exact ok_t_M_readsSuper_2
  | 3, hn =>
    have h2 : td_t_M_readsSuper 3 = b := by unfold td_t_M_readsSuper; rw [hn]; rfl
    rw [← h2]; exact ok_t_M_readsSuper_3
  | 4, hn =>
    have h2 : td_t_M_readsSuper 4 = b := by unfold td_t_M_readsSuper; rw [hn]; rfl
    rw [← h2]; exact ok_t_M_readsSuper_4
  | 5, hn =>
    have h2 : td_t_M_readsSuper 5 = b := by unfold td_t_M_readsSuper; rw [hn]; rfl
    rw [← h2]; exact ok_t_M_readsSuper_5
  | 6, hn =>
    have h2 : td_t_M_readsSuper 6 = b := by unfold td_t_M_readsSuper; rw [hn]; rfl
    rw [← h2]; exact ok_t_M_readsSuper_6
  | 7, hn =>
    have h2 : td_t_M_readsSuper 7 = b := by unfold td_t_M_readsSuper; rw [hn]; rfl
    rw [← h2]; exact ok_t_M_readsSuper_7
  | 8, hn =>
    have h2 : td_t_M_readsSuper 8 = b := by unfold td_t_M_readsSuper; rw [hn]; rfl
    rw [← h2]; exact ok_t_M_readsSuper_8
  | 9, hn =>
    have h2 : td_t_M_readsSuper 9 = b := by unfold td_t_M_readsSuper; rw [hn]; rfl
    rw [← h2]; exact ok_t_M_readsSuper_9
  | 10, hn =>
    have h2 : td_t_M_readsSuper 10 = b := by unfold td_t_M_readsSuper; rw [hn]; rfl
    rw [← h2]; exact ok_t_M_readsSuper_10
  | 11, hn =>
    have h2 : td_t_M_readsSuper 11 = b := by unfold td_t_M_readsSuper; rw [hn]; rfl
    rw [← h2]; exact ok_t_M_readsSuper_11
  | 12, hn =>
    have h2 : td_t_M_readsSuper 12 = b := by unfold td_t_M_readsSuper; rw [hn]; rfl
    rw [← h2]; exact ok_t_M_readsSuper_12
  | 13, hn =>
    have h2 : td_t_M_readsSuper 13 = b := by unfold td_t_M_readsSuper; rw [hn]; rfl
    rw [← h2]; exact ok_t_M_readsSuper_13
  | 14, hn =>
    have h2 : td_t_M_readsSuper 14 = b := by unfold td_t_M_readsSuper; rw [hn]; rfl
    rw [← h2]; exact ok_t_M_readsSuper_14
  | 15, hn =>
    have h2 : td_t_M_readsSuper 15 = b := by unfold td_t_M_readsSuper; rw [hn]; rfl
    rw [← h2]; exact ok_t_M_readsSuper_15
  | 16, hn =>
    have h2 : td_t_M_readsSuper 16 = b := by unfold td_t_M_readsSuper; rw [hn]; rfl
    rw [← h2]; exact ok_t_M_readsSuper_16
  | n + 17, hn =>
    rw [pe_at_eq] at hn
    exact absurd (List.getElem?_eq_some_iff.mp hn).1 (by show ¬ n + 17 < 17; omega)
theorem ok_t_M_readsSuper : pe_okM (pe_GA []) pe_cl pe_ckA t_M_readsSuper = true := pe_okM_mk (pe_w_of (by rfl) (by rfl)) (by decide +kernel) ok_t_M_readsSuper_a
set_option maxRecDepth 40000 in
theorem ok_t_M_takes : pe_okM (pe_GA []) pe_cl pe_ckA t_M_takes = true := by decide +kernel
set_option maxRecDepth 40000 in
theorem ok_t_M_isSign : pe_okM (pe_GA []) pe_cl pe_ckA t_M_isSign = true := by decide +kernel
def td_t_M_readsMember (k : Nat) : Nat × List pe_I := (pe_at t_M_readsMember.bl k).getD (0, [])
set_option maxRecDepth 40000 in
theorem ok_t_M_readsMember_0 : pe_ckB (pe_GA []) pe_cl pe_ckA t_M_readsMember (td_t_M_readsMember 0).1 (td_t_M_readsMember 0).2 = true := by decide +kernel
set_option maxRecDepth 40000 in
theorem ok_t_M_readsMember_1 : pe_ckB (pe_GA []) pe_cl pe_ckA t_M_readsMember (td_t_M_readsMember 1).1 (td_t_M_readsMember 1).2 = true := by decide +kernel
set_option maxRecDepth 40000 in
theorem ok_t_M_readsMember_2 : pe_ckB (pe_GA []) pe_cl pe_ckA t_M_readsMember (td_t_M_readsMember 2).1 (td_t_M_readsMember 2).2 = true := by decide +kernel
set_option maxRecDepth 40000 in
theorem ok_t_M_readsMember_3 : pe_ckB (pe_GA []) pe_cl pe_ckA t_M_readsMember (td_t_M_readsMember 3).1 (td_t_M_readsMember 3).2 = true := by decide +kernel
set_option maxRecDepth 40000 in
theorem ok_t_M_readsMember_4 : pe_ckB (pe_GA []) pe_cl pe_ckA t_M_readsMember (td_t_M_readsMember 4).1 (td_t_M_readsMember 4).2 = true := by decide +kernel
set_option maxRecDepth 40000 in
theorem ok_t_M_readsMember_5 : pe_ckB (pe_GA []) pe_cl pe_ckA t_M_readsMember (td_t_M_readsMember 5).1 (td_t_M_readsMember 5).2 = true := by decide +kernel
set_option maxRecDepth 40000 in
theorem ok_t_M_readsMember_6 : pe_ckB (pe_GA []) pe_cl pe_ckA t_M_readsMember (td_t_M_readsMember 6).1 (td_t_M_readsMember 6).2 = true := by decide +kernel
set_option maxRecDepth 40000 in
theorem ok_t_M_readsMember_7 : pe_ckB (pe_GA []) pe_cl pe_ckA t_M_readsMember (td_t_M_readsMember 7).1 (td_t_M_readsMember 7).2 = true := by decide +kernel
set_option maxRecDepth 40000 in
theorem ok_t_M_readsMember_8 : pe_ckB (pe_GA []) pe_cl pe_ckA t_M_readsMember (td_t_M_readsMember 8).1 (td_t_M_readsMember 8).2 = true := by decide +kernel
set_option maxRecDepth 40000 in
theorem ok_t_M_readsMember_9 : pe_ckB (pe_GA []) pe_cl pe_ckA t_M_readsMember (td_t_M_readsMember 9).1 (td_t_M_readsMember 9).2 = true := by decide +kernel
set_option maxRecDepth 40000 in
theorem ok_t_M_readsMember_10 : pe_ckB (pe_GA []) pe_cl pe_ckA t_M_readsMember (td_t_M_readsMember 10).1 (td_t_M_readsMember 10).2 = true := by decide +kernel
set_option maxRecDepth 40000 in
theorem ok_t_M_readsMember_11 : pe_ckB (pe_GA []) pe_cl pe_ckA t_M_readsMember (td_t_M_readsMember 11).1 (td_t_M_readsMember 11).2 = true := by decide +kernel
set_option maxRecDepth 40000 in
theorem ok_t_M_readsMember_12 : pe_ckB (pe_GA []) pe_cl pe_ckA t_M_readsMember (td_t_M_readsMember 12).1 (td_t_M_readsMember 12).2 = true := by decide +kernel
set_option maxRecDepth 40000 in
theorem ok_t_M_readsMember_13 : pe_ckB (pe_GA []) pe_cl pe_ckA t_M_readsMember (td_t_M_readsMember 13).1 (td_t_M_readsMember 13).2 = true := by decide +kernel
set_option maxRecDepth 40000 in
theorem ok_t_M_readsMember_14 : pe_ckB (pe_GA []) pe_cl pe_ckA t_M_readsMember (td_t_M_readsMember 14).1 (td_t_M_readsMember 14).2 = true := by decide +kernel
set_option maxRecDepth 40000 in
theorem ok_t_M_readsMember_15 : pe_ckB (pe_GA []) pe_cl pe_ckA t_M_readsMember (td_t_M_readsMember 15).1 (td_t_M_readsMember 15).2 = true := by decide +kernel
set_option maxRecDepth 40000 in
theorem ok_t_M_readsMember_16 : pe_ckB (pe_GA []) pe_cl pe_ckA t_M_readsMember (td_t_M_readsMember 16).1 (td_t_M_readsMember 16).2 = true := by decide +kernel
set_option maxRecDepth 40000 in
theorem ok_t_M_readsMember_17 : pe_ckB (pe_GA []) pe_cl pe_ckA t_M_readsMember (td_t_M_readsMember 17).1 (td_t_M_readsMember 17).2 = true := by decide +kernel
set_option maxRecDepth 40000 in
theorem ok_t_M_readsMember_18 : pe_ckB (pe_GA []) pe_cl pe_ckA t_M_readsMember (td_t_M_readsMember 18).1 (td_t_M_readsMember 18).2 = true := by decide +kernel
set_option maxRecDepth 40000 in
theorem ok_t_M_readsMember_19 : pe_ckB (pe_GA []) pe_cl pe_ckA t_M_readsMember (td_t_M_readsMember 19).1 (td_t_M_readsMember 19).2 = true := by decide +kernel
set_option maxRecDepth 40000 in
theorem ok_t_M_readsMember_20 : pe_ckB (pe_GA []) pe_cl pe_ckA t_M_readsMember (td_t_M_readsMember 20).1 (td_t_M_readsMember 20).2 = true := by decide +kernel
set_option maxRecDepth 40000 in
theorem ok_t_M_readsMember_21 : pe_ckB (pe_GA []) pe_cl pe_ckA t_M_readsMember (td_t_M_readsMember 21).1 (td_t_M_readsMember 21).2 = true := by decide +kernel
set_option maxRecDepth 40000 in
theorem ok_t_M_readsMember_22 : pe_ckB (pe_GA []) pe_cl pe_ckA t_M_readsMember (td_t_M_readsMember 22).1 (td_t_M_readsMember 22).2 = true := by decide +kernel
set_option maxRecDepth 40000 in
theorem ok_t_M_readsMember_23 : pe_ckB (pe_GA []) pe_cl pe_ckA t_M_readsMember (td_t_M_readsMember 23).1 (td_t_M_readsMember 23).2 = true := by decide +kernel
theorem ok_t_M_readsMember_a : ∀ b ∈ t_M_readsMember.bl, pe_ckB (pe_GA []) pe_cl pe_ckA t_M_readsMember b.1 b.2 = true := by
  intro b hb
  obtain ⟨n, hn⟩ := List.getElem?_of_mem hb
  rw [← pe_at_eq] at hn
  match n, hn with
  | 0, hn =>
    have h2 : td_t_M_readsMember 0 = b := by unfold td_t_M_readsMember; rw [hn]; rfl
    rw [← h2]; exact ok_t_M_readsMember_0
  | 1, hn =>
    have h2 : td_t_M_readsMember 1 = b := by unfold td_t_M_readsMember; rw [hn]; rfl
    rw [← h2]; exact ok_t_M_readsMember_1
  | 2, hn =>
    have h2 : td_t_M_readsMember 2 = b := by unfold td_t_M_readsMember; rw [hn]; rfl
    rw [← h2]; exact ok_t_M_readsMember_2
  | 3, hn =>
    have h2 : td_t_M_readsMember 3 = b := by unfold td_t_M_readsMember; rw [hn]; rfl
    rw [← h2]; exact ok_t_M_readsMember_3
  | 4, hn =>
    have h2 : td_t_M_readsMember 4 = b := by unfold td_t_M_readsMember; rw [hn]; rfl
    rw [← h2]; exact ok_t_M_readsMember_4
  | 5, hn =>
    have h2 : td_t_M_readsMember 5 = b := by unfold td_t_M_readsMember; rw [hn]; rfl
    rw [← h2]; exact ok_t_M_readsMember_5
  | 6, hn =>
    have h2 : td_t_M_readsMember 6 = b := by unfold td_t_M_readsMember; rw [hn]; rfl
    rw [← h2]; exact ok_t_M_readsMember_6
  | 7, hn =>
    have h2 : td_t_M_readsMember 7 = b := by unfold td_t_M_readsMember; rw [hn]; rfl
    rw [← h2]; exact ok_t_M_readsMember_7
  | 8, hn =>
    have h2 : td_t_M_readsMember 8 = b := by unfold td_t_M_readsMember; rw [hn]; rfl
    rw [← h2]; exact ok_t_M_readsMember_8
  | 9, hn =>
    have h2 : td_t_M_readsMember 9 = b := by unfold td_t_M_readsMember; rw [hn]; rfl
    rw [← h2]; exact ok_t_M_readsMember_9
  | 10, hn =>
    have h2 : td_t_M_readsMember 10 = b := by unfold td_t_M_readsMember; rw [hn]; rfl
    rw [← h2]; exact ok_t_M_readsMember_10
  | 11, hn =>
    have h2 : td_t_M_readsMember 11 = b := by unfold td_t_M_readsMember; rw [hn]; rfl
    rw [← h2]; exact ok_t_M_readsMember_11
  | 12, hn =>
    have h2 : td_t_M_readsMember 12 = b := by unfold td_t_M_readsMember; rw [hn]; rfl
    rw [← h2]; exact ok_t_M_readsMember_12
  | 13, hn =>
    have h2 : td_t_M_readsMember 13 = b := by unfold td_t_M_readsMember; rw [hn]; rfl
    rw [← h2]; exact ok_t_M_readsMember_13
  | 14, hn =>
    have h2 : td_t_M_readsMember 14 = b := by unfold td_t_M_readsMember; rw [hn]; rfl
    rw [← h2]; exact ok_t_M_readsMember_14
  | 15, hn =>
    have h2 : td_t_M_readsMember 15 = b := by unfold td_t_M_readsMember; rw [hn]; rfl
    rw [← h2]; exact ok_t_M_readsMember_15
  | 16, hn =>
    have h2 : td_t_M_readsMember 16 = b := by unfold td_t_M_readsMember; rw [hn]; rfl
    rw [← h2]; exact ok_t_M_readsMember_16
  | 17, hn =>
    have h2 : td_t_M_readsMember 17 = b := by unfold td_t_M_readsMember; rw [hn]; rfl
    rw [← h2]; exact ok_t_M_readsMember_17
  | 18, hn =>
    have h2 : td_t_M_readsMember 18 = b := by unfold td_t_M_readsMember; rw [hn]; rfl
    rw [← h2]; exact ok_t_M_readsMember_18
  | 19, hn =>
    have h2 : td_t_M_readsMember 19 = b := by unfold td_t_M_readsMember; rw [hn]; rfl
    rw [← h2]; exact ok_t_M_readsMember_19
  | 20, hn =>
    have h2 : td_t_M_readsMember 20 = b := by unfold td_t_M_readsMember; rw [hn]; rfl
    rw [← h2]; exact ok_t_M_readsMember_20
  | 21, hn =>
    have h2 : td_t_M_readsMember 21 = b := by unfold td_t_M_readsMember; rw [hn]; rfl
    rw [← h2]; exact ok_t_M_readsMember_21
  | 22, hn =>
    have h2 : td_t_M_readsMember 22 = b := by unfold td_t_M_readsMember; rw [hn]; rfl
    rw [← h2]; exact ok_t_M_readsMember_22
  | 23, hn =>
    have h2 : td_t_M_readsMember 23 = b := by unfold td_t_M_readsMember; rw [hn]; rfl
    rw [← h2]; exact ok_t_M_readsMember_23
  | n + 24, hn =>
    rw [pe_at_eq] at hn
    exact absurd (List.getElem?_eq_some_iff.mp hn).1 (by show ¬ n + 24 < 24; omega)
theorem ok_t_M_readsMember : pe_okM (pe_GA []) pe_cl pe_ckA t_M_readsMember = true := pe_okM_mk (pe_w_of (by rfl) (by rfl)) (by decide +kernel) ok_t_M_readsMember_a
set_option maxRecDepth 40000 in
theorem ok_t_XW_mark : pe_okM (pe_GA []) pe_cl pe_ckA t_XW_mark = true := by decide +kernel
def td_t_XP_readUnit (k : Nat) : Nat × List pe_I := (pe_at t_XP_readUnit.bl k).getD (0, [])
set_option maxRecDepth 40000 in
theorem ok_t_XP_readUnit_0 : pe_ckB (pe_GA []) pe_cl pe_ckA t_XP_readUnit (td_t_XP_readUnit 0).1 (td_t_XP_readUnit 0).2 = true := by decide +kernel
set_option maxRecDepth 40000 in
theorem ok_t_XP_readUnit_1 : pe_ckB (pe_GA []) pe_cl pe_ckA t_XP_readUnit (td_t_XP_readUnit 1).1 (td_t_XP_readUnit 1).2 = true := by decide +kernel
set_option maxRecDepth 40000 in
theorem ok_t_XP_readUnit_2 : pe_ckB (pe_GA []) pe_cl pe_ckA t_XP_readUnit (td_t_XP_readUnit 2).1 (td_t_XP_readUnit 2).2 = true := by decide +kernel
set_option maxRecDepth 40000 in
theorem ok_t_XP_readUnit_3 : pe_ckB (pe_GA []) pe_cl pe_ckA t_XP_readUnit (td_t_XP_readUnit 3).1 (td_t_XP_readUnit 3).2 = true := by decide +kernel
set_option maxRecDepth 40000 in
theorem ok_t_XP_readUnit_4 : pe_ckB (pe_GA []) pe_cl pe_ckA t_XP_readUnit (td_t_XP_readUnit 4).1 (td_t_XP_readUnit 4).2 = true := by decide +kernel
set_option maxRecDepth 40000 in
theorem ok_t_XP_readUnit_5 : pe_ckB (pe_GA []) pe_cl pe_ckA t_XP_readUnit (td_t_XP_readUnit 5).1 (td_t_XP_readUnit 5).2 = true := by decide +kernel
set_option maxRecDepth 40000 in
theorem ok_t_XP_readUnit_6 : pe_ckB (pe_GA []) pe_cl pe_ckA t_XP_readUnit (td_t_XP_readUnit 6).1 (td_t_XP_readUnit 6).2 = true := by decide +kernel
set_option maxRecDepth 40000 in
theorem ok_t_XP_readUnit_7 : pe_ckB (pe_GA []) pe_cl pe_ckA t_XP_readUnit (td_t_XP_readUnit 7).1 (td_t_XP_readUnit 7).2 = true := by decide +kernel
theorem ok_t_XP_readUnit_a : ∀ b ∈ t_XP_readUnit.bl, pe_ckB (pe_GA []) pe_cl pe_ckA t_XP_readUnit b.1 b.2 = true := by
  intro b hb
  obtain ⟨n, hn⟩ := List.getElem?_of_mem hb
  rw [← pe_at_eq] at hn
  match n, hn with
  | 0, hn =>
    have h2 : td_t_XP_readUnit 0 = b := by unfold td_t_XP_readUnit; rw [hn]; rfl
    rw [← h2]; exact ok_t_XP_readUnit_0
  | 1, hn =>
    have h2 : td_t_XP_readUnit 1 = b := by unfold td_t_XP_readUnit; rw [hn]; rfl
    rw [← h2]; exact ok_t_XP_readUnit_1
  | 2, hn =>
    have h2 : td_t_XP_readUnit 2 = b := by unfold td_t_XP_readUnit; rw [hn]; rfl
    rw [← h2]; exact ok_t_XP_readUnit_2
  | 3, hn =>
    have h2 : td_t_XP_readUnit 3 = b := by unfold td_t_XP_readUnit; rw [hn]; rfl
    rw [← h2]; exact ok_t_XP_readUnit_3
  | 4, hn =>
    have h2 : td_t_XP_readUnit 4 = b := by unfold td_t_XP_readUnit; rw [hn]; rfl
    rw [← h2]; exact ok_t_XP_readUnit_4
  | 5, hn =>
    have h2 : td_t_XP_readUnit 5 = b := by unfold td_t_XP_readUnit; rw [hn]; rfl
    rw [← h2]; exact ok_t_XP_readUnit_5
  | 6, hn =>
    have h2 : td_t_XP_readUnit 6 = b := by unfold td_t_XP_readUnit; rw [hn]; rfl
    rw [← h2]; exact ok_t_XP_readUnit_6
  | 7, hn =>
    have h2 : td_t_XP_readUnit 7 = b := by unfold td_t_XP_readUnit; rw [hn]; rfl
    rw [← h2]; exact ok_t_XP_readUnit_7
  | n + 8, hn =>
    rw [pe_at_eq] at hn
    exact absurd (List.getElem?_eq_some_iff.mp hn).1 (by show ¬ n + 8 < 8; omega)
theorem ok_t_XP_readUnit : pe_okM (pe_GA []) pe_cl pe_ckA t_XP_readUnit = true := pe_okM_mk (pe_w_of (by rfl) (by rfl)) (by decide +kernel) ok_t_XP_readUnit_a
def td_t_XC_addInstructions (k : Nat) : Nat × List pe_I := (pe_at t_XC_addInstructions.bl k).getD (0, [])
set_option maxRecDepth 40000 in
theorem ok_t_XC_addInstructions_0 : pe_ckB (pe_GA []) pe_cl pe_ckA t_XC_addInstructions (td_t_XC_addInstructions 0).1 (td_t_XC_addInstructions 0).2 = true := by decide +kernel
set_option maxRecDepth 40000 in
theorem ok_t_XC_addInstructions_1 : pe_ckB (pe_GA []) pe_cl pe_ckA t_XC_addInstructions (td_t_XC_addInstructions 1).1 (td_t_XC_addInstructions 1).2 = true := by decide +kernel
theorem ok_t_XC_addInstructions_a : ∀ b ∈ t_XC_addInstructions.bl, pe_ckB (pe_GA []) pe_cl pe_ckA t_XC_addInstructions b.1 b.2 = true := by
  intro b hb
  obtain ⟨n, hn⟩ := List.getElem?_of_mem hb
  rw [← pe_at_eq] at hn
  match n, hn with
  | 0, hn =>
    have h2 : td_t_XC_addInstructions 0 = b := by unfold td_t_XC_addInstructions; rw [hn]; rfl
    rw [← h2]; exact ok_t_XC_addInstructions_0
  | 1, hn =>
    have h2 : td_t_XC_addInstructions 1 = b := by unfold td_t_XC_addInstructions; rw [hn]; rfl
    rw [← h2]; exact ok_t_XC_addInstructions_1
  | n + 2, hn =>
    rw [pe_at_eq] at hn
    exact absurd (List.getElem?_eq_some_iff.mp hn).1 (by show ¬ n + 2 < 2; omega)
theorem ok_t_XC_addInstructions : pe_okM (pe_GA []) pe_cl pe_ckA t_XC_addInstructions = true := pe_okM_mk (pe_w_of (by rfl) (by rfl)) (by decide +kernel) ok_t_XC_addInstructions_a
def td_t_XP_finish (k : Nat) : Nat × List pe_I := (pe_at t_XP_finish.bl k).getD (0, [])
set_option maxRecDepth 40000 in
theorem ok_t_XP_finish_0 : pe_ckB (pe_GA []) pe_cl pe_ckA t_XP_finish (td_t_XP_finish 0).1 (td_t_XP_finish 0).2 = true := by decide +kernel
set_option maxRecDepth 40000 in
theorem ok_t_XP_finish_1 : pe_ckB (pe_GA []) pe_cl pe_ckA t_XP_finish (td_t_XP_finish 1).1 (td_t_XP_finish 1).2 = true := by decide +kernel
set_option maxRecDepth 40000 in
theorem ok_t_XP_finish_2 : pe_ckB (pe_GA []) pe_cl pe_ckA t_XP_finish (td_t_XP_finish 2).1 (td_t_XP_finish 2).2 = true := by decide +kernel
set_option maxRecDepth 40000 in
theorem ok_t_XP_finish_3 : pe_ckB (pe_GA []) pe_cl pe_ckA t_XP_finish (td_t_XP_finish 3).1 (td_t_XP_finish 3).2 = true := by decide +kernel
set_option maxRecDepth 40000 in
theorem ok_t_XP_finish_4 : pe_ckB (pe_GA []) pe_cl pe_ckA t_XP_finish (td_t_XP_finish 4).1 (td_t_XP_finish 4).2 = true := by decide +kernel
set_option maxRecDepth 40000 in
theorem ok_t_XP_finish_5 : pe_ckB (pe_GA []) pe_cl pe_ckA t_XP_finish (td_t_XP_finish 5).1 (td_t_XP_finish 5).2 = true := by decide +kernel
set_option maxRecDepth 40000 in
theorem ok_t_XP_finish_6 : pe_ckB (pe_GA []) pe_cl pe_ckA t_XP_finish (td_t_XP_finish 6).1 (td_t_XP_finish 6).2 = true := by decide +kernel
theorem ok_t_XP_finish_a : ∀ b ∈ t_XP_finish.bl, pe_ckB (pe_GA []) pe_cl pe_ckA t_XP_finish b.1 b.2 = true := by
  intro b hb
  obtain ⟨n, hn⟩ := List.getElem?_of_mem hb
  rw [← pe_at_eq] at hn
  match n, hn with
  | 0, hn =>
    have h2 : td_t_XP_finish 0 = b := by unfold td_t_XP_finish; rw [hn]; rfl
    rw [← h2]; exact ok_t_XP_finish_0
  | 1, hn =>
    have h2 : td_t_XP_finish 1 = b := by unfold td_t_XP_finish; rw [hn]; rfl
    rw [← h2]; exact ok_t_XP_finish_1
  | 2, hn =>
    have h2 : td_t_XP_finish 2 = b := by unfold td_t_XP_finish; rw [hn]; rfl
    rw [← h2]; exact ok_t_XP_finish_2
  | 3, hn =>
    have h2 : td_t_XP_finish 3 = b := by unfold td_t_XP_finish; rw [hn]; rfl
    rw [← h2]; exact ok_t_XP_finish_3
  | 4, hn =>
    have h2 : td_t_XP_finish 4 = b := by unfold td_t_XP_finish; rw [hn]; rfl
    rw [← h2]; exact ok_t_XP_finish_4
  | 5, hn =>
    have h2 : td_t_XP_finish 5 = b := by unfold td_t_XP_finish; rw [hn]; rfl
    rw [← h2]; exact ok_t_XP_finish_5
  | 6, hn =>
    have h2 : td_t_XP_finish 6 = b := by unfold td_t_XP_finish; rw [hn]; rfl
    rw [← h2]; exact ok_t_XP_finish_6
  | n + 7, hn =>
    rw [pe_at_eq] at hn
    exact absurd (List.getElem?_eq_some_iff.mp hn).1 (by show ¬ n + 7 < 7; omega)
theorem ok_t_XP_finish : pe_okM (pe_GA []) pe_cl pe_ckA t_XP_finish = true := pe_okM_mk (pe_w_of (by rfl) (by rfl)) (by decide +kernel) ok_t_XP_finish_a
set_option maxRecDepth 40000 in
theorem ok_t_M_canBeginStatement : pe_okM (pe_GA []) pe_cl pe_ckA t_M_canBeginStatement = true := by decide +kernel
set_option maxRecDepth 40000 in
theorem ok_t_M_fault : pe_okM (pe_GA []) pe_cl pe_ckA t_M_fault = true := by decide +kernel
set_option maxRecDepth 40000 in
theorem ok_t_M_beginsPart : pe_okM (pe_GA []) pe_cl pe_ckA t_M_beginsPart = true := by decide +kernel
set_option maxRecDepth 40000 in
theorem ok_t_M_into : pe_okM (pe_GA []) pe_cl pe_ckA t_M_into = true := by decide +kernel
def td_t_M_statement (k : Nat) : Nat × List pe_I := (pe_at t_M_statement.bl k).getD (0, [])
set_option maxRecDepth 40000 in
theorem ok_t_M_statement_0 : pe_ckB (pe_GA []) pe_cl pe_ckA t_M_statement (td_t_M_statement 0).1 (td_t_M_statement 0).2 = true := by decide +kernel
set_option maxRecDepth 40000 in
theorem ok_t_M_statement_1 : pe_ckB (pe_GA []) pe_cl pe_ckA t_M_statement (td_t_M_statement 1).1 (td_t_M_statement 1).2 = true := by decide +kernel
set_option maxRecDepth 40000 in
theorem ok_t_M_statement_2 : pe_ckB (pe_GA []) pe_cl pe_ckA t_M_statement (td_t_M_statement 2).1 (td_t_M_statement 2).2 = true := by decide +kernel
set_option maxRecDepth 40000 in
theorem ok_t_M_statement_3 : pe_ckB (pe_GA []) pe_cl pe_ckA t_M_statement (td_t_M_statement 3).1 (td_t_M_statement 3).2 = true := by decide +kernel
set_option maxRecDepth 40000 in
theorem ok_t_M_statement_4 : pe_ckB (pe_GA []) pe_cl pe_ckA t_M_statement (td_t_M_statement 4).1 (td_t_M_statement 4).2 = true := by decide +kernel
set_option maxRecDepth 40000 in
theorem ok_t_M_statement_5 : pe_ckB (pe_GA []) pe_cl pe_ckA t_M_statement (td_t_M_statement 5).1 (td_t_M_statement 5).2 = true := by decide +kernel
set_option maxRecDepth 40000 in
theorem ok_t_M_statement_6 : pe_ckB (pe_GA []) pe_cl pe_ckA t_M_statement (td_t_M_statement 6).1 (td_t_M_statement 6).2 = true := by decide +kernel
set_option maxRecDepth 40000 in
theorem ok_t_M_statement_7 : pe_ckB (pe_GA []) pe_cl pe_ckA t_M_statement (td_t_M_statement 7).1 (td_t_M_statement 7).2 = true := by decide +kernel
set_option maxRecDepth 40000 in
theorem ok_t_M_statement_8 : pe_ckB (pe_GA []) pe_cl pe_ckA t_M_statement (td_t_M_statement 8).1 (td_t_M_statement 8).2 = true := by decide +kernel
set_option maxRecDepth 40000 in
theorem ok_t_M_statement_9 : pe_ckB (pe_GA []) pe_cl pe_ckA t_M_statement (td_t_M_statement 9).1 (td_t_M_statement 9).2 = true := by decide +kernel
set_option maxRecDepth 40000 in
theorem ok_t_M_statement_10 : pe_ckB (pe_GA []) pe_cl pe_ckA t_M_statement (td_t_M_statement 10).1 (td_t_M_statement 10).2 = true := by decide +kernel
set_option maxRecDepth 40000 in
theorem ok_t_M_statement_11 : pe_ckB (pe_GA []) pe_cl pe_ckA t_M_statement (td_t_M_statement 11).1 (td_t_M_statement 11).2 = true := by decide +kernel
set_option maxRecDepth 40000 in
theorem ok_t_M_statement_12 : pe_ckB (pe_GA []) pe_cl pe_ckA t_M_statement (td_t_M_statement 12).1 (td_t_M_statement 12).2 = true := by decide +kernel
set_option maxRecDepth 40000 in
theorem ok_t_M_statement_13 : pe_ckB (pe_GA []) pe_cl pe_ckA t_M_statement (td_t_M_statement 13).1 (td_t_M_statement 13).2 = true := by decide +kernel
set_option maxRecDepth 40000 in
theorem ok_t_M_statement_14 : pe_ckB (pe_GA []) pe_cl pe_ckA t_M_statement (td_t_M_statement 14).1 (td_t_M_statement 14).2 = true := by decide +kernel
theorem ok_t_M_statement_a : ∀ b ∈ t_M_statement.bl, pe_ckB (pe_GA []) pe_cl pe_ckA t_M_statement b.1 b.2 = true := by
  intro b hb
  obtain ⟨n, hn⟩ := List.getElem?_of_mem hb
  rw [← pe_at_eq] at hn
  match n, hn with
  | 0, hn =>
    have h2 : td_t_M_statement 0 = b := by unfold td_t_M_statement; rw [hn]; rfl
    rw [← h2]; exact ok_t_M_statement_0
  | 1, hn =>
    have h2 : td_t_M_statement 1 = b := by unfold td_t_M_statement; rw [hn]; rfl
    rw [← h2]; exact ok_t_M_statement_1
  | 2, hn =>
    have h2 : td_t_M_statement 2 = b := by unfold td_t_M_statement; rw [hn]; rfl
    rw [← h2]; exact ok_t_M_statement_2
  | 3, hn =>
    have h2 : td_t_M_statement 3 = b := by unfold td_t_M_statement; rw [hn]; rfl
    rw [← h2]; exact ok_t_M_statement_3
  | 4, hn =>
    have h2 : td_t_M_statement 4 = b := by unfold td_t_M_statement; rw [hn]; rfl
    rw [← h2]; exact ok_t_M_statement_4
  | 5, hn =>
    have h2 : td_t_M_statement 5 = b := by unfold td_t_M_statement; rw [hn]; rfl
    rw [← h2]; exact ok_t_M_statement_5
  | 6, hn =>
    have h2 : td_t_M_statement 6 = b := by unfold td_t_M_statement; rw [hn]; rfl
    rw [← h2]; exact ok_t_M_statement_6
  | 7, hn =>
    have h2 : td_t_M_statement 7 = b := by unfold td_t_M_statement; rw [hn]; rfl
    rw [← h2]; exact ok_t_M_statement_7
  | 8, hn =>
    have h2 : td_t_M_statement 8 = b := by unfold td_t_M_statement; rw [hn]; rfl
    rw [← h2]; exact ok_t_M_statement_8
  | 9, hn =>
    have h2 : td_t_M_statement 9 = b := by unfold td_t_M_statement; rw [hn]; rfl
    rw [← h2]; exact ok_t_M_statement_9
  | 10, hn =>
    have h2 : td_t_M_statement 10 = b := by unfold td_t_M_statement; rw [hn]; rfl
    rw [← h2]; exact ok_t_M_statement_10
  | 11, hn =>
    have h2 : td_t_M_statement 11 = b := by unfold td_t_M_statement; rw [hn]; rfl
    rw [← h2]; exact ok_t_M_statement_11
  | 12, hn =>
    have h2 : td_t_M_statement 12 = b := by unfold td_t_M_statement; rw [hn]; rfl
    rw [← h2]; exact ok_t_M_statement_12
  | 13, hn =>
    have h2 : td_t_M_statement 13 = b := by unfold td_t_M_statement; rw [hn]; rfl
    rw [← h2]; exact ok_t_M_statement_13
  | 14, hn =>
    have h2 : td_t_M_statement 14 = b := by unfold td_t_M_statement; rw [hn]; rfl
    rw [← h2]; exact ok_t_M_statement_14
  | n + 15, hn =>
    rw [pe_at_eq] at hn
    exact absurd (List.getElem?_eq_some_iff.mp hn).1 (by show ¬ n + 15 < 15; omega)
theorem ok_t_M_statement : pe_okM (pe_GA []) pe_cl pe_ckA t_M_statement = true := pe_okM_mk (pe_w_of (by rfl) (by rfl)) (by decide +kernel) ok_t_M_statement_a
