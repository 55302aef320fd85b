/-! PART o6p: tables checked once. -/
def td_t_XP_operatorOf (k : Nat) : Nat × List pe_I := (pe_at t_XP_operatorOf.bl k).getD (0, [])
set_option maxRecDepth 40000 in
theorem ok_t_XP_operatorOf_0 : pe_ckB (pe_GA []) pe_cl pe_ckA t_XP_operatorOf (td_t_XP_operatorOf 0).1 (td_t_XP_operatorOf 0).2 = true := by decide +kernel
set_option maxRecDepth 40000 in
theorem ok_t_XP_operatorOf_1 : pe_ckB (pe_GA []) pe_cl pe_ckA t_XP_operatorOf (td_t_XP_operatorOf 1).1 (td_t_XP_operatorOf 1).2 = true := by decide +kernel
set_option maxRecDepth 40000 in
theorem ok_t_XP_operatorOf_2 : pe_ckB (pe_GA []) pe_cl pe_ckA t_XP_operatorOf (td_t_XP_operatorOf 2).1 (td_t_XP_operatorOf 2).2 = true := by decide +kernel
set_option maxRecDepth 40000 in
theorem ok_t_XP_operatorOf_3 : pe_ckB (pe_GA []) pe_cl pe_ckA t_XP_operatorOf (td_t_XP_operatorOf 3).1 (td_t_XP_operatorOf 3).2 = true := by decide +kernel
set_option maxRecDepth 40000 in
theorem ok_t_XP_operatorOf_4 : pe_ckB (pe_GA []) pe_cl pe_ckA t_XP_operatorOf (td_t_XP_operatorOf 4).1 (td_t_XP_operatorOf 4).2 = true := by decide +kernel
set_option maxRecDepth 40000 in
theorem ok_t_XP_operatorOf_5 : pe_ckB (pe_GA []) pe_cl pe_ckA t_XP_operatorOf (td_t_XP_operatorOf 5).1 (td_t_XP_operatorOf 5).2 = true := by decide +kernel
set_option maxRecDepth 40000 in
theorem ok_t_XP_operatorOf_6 : pe_ckB (pe_GA []) pe_cl pe_ckA t_XP_operatorOf (td_t_XP_operatorOf 6).1 (td_t_XP_operatorOf 6).2 = true := by decide +kernel
set_option maxRecDepth 40000 in
theorem ok_t_XP_operatorOf_7 : pe_ckB (pe_GA []) pe_cl pe_ckA t_XP_operatorOf (td_t_XP_operatorOf 7).1 (td_t_XP_operatorOf 7).2 = true := by decide +kernel
theorem ok_t_XP_operatorOf_a : ∀ b ∈ t_XP_operatorOf.bl, pe_ckB (pe_GA []) pe_cl pe_ckA t_XP_operatorOf b.1 b.2 = true := by
  intro b hb
  obtain ⟨n, hn⟩ := List.getElem?_of_mem hb
  rw [← pe_at_eq] at hn
  match n, hn with
  | 0, hn =>
    have h2 : td_t_XP_operatorOf 0 = b := by unfold td_t_XP_operatorOf; rw [hn]; rfl
    rw [← h2]; exact ok_t_XP_operatorOf_0
  | 1, hn =>
    have h2 : td_t_XP_operatorOf 1 = b := by unfold td_t_XP_operatorOf; rw [hn]; rfl
    rw [← h2]; exact ok_t_XP_operatorOf_1
  | 2, hn =>
    have h2 : td_t_XP_operatorOf 2 = b := by unfold td_t_XP_operatorOf; rw [hn]; rfl
    rw [← h2]; exact ok_t_XP_operatorOf_2
  | 3, hn =>
    have h2 : td_t_XP_operatorOf 3 = b := by unfold td_t_XP_operatorOf; rw [hn]; rfl
    rw [← h2]; exact ok_t_XP_operatorOf_3
  | 4, hn =>
    have h2 : td_t_XP_operatorOf 4 = b := by unfold td_t_XP_operatorOf; rw [hn]; rfl
    rw [← h2]; exact ok_t_XP_operatorOf_4
  | 5, hn =>
    have h2 : td_t_XP_operatorOf 5 = b := by unfold td_t_XP_operatorOf; rw [hn]; rfl
    rw [← h2]; exact ok_t_XP_operatorOf_5
  | 6, hn =>
    have h2 : td_t_XP_operatorOf 6 = b := by unfold td_t_XP_operatorOf; rw [hn]; rfl
    rw [← h2]; exact ok_t_XP_operatorOf_6
  | 7, hn =>
    have h2 : td_t_XP_operatorOf 7 = b := by unfold td_t_XP_operatorOf; rw [hn]; rfl
    rw [← h2]; exact ok_t_XP_operatorOf_7
  | n + 8, hn =>
    rw [pe_at_eq] at hn
    exact absurd (List.getElem?_eq_some_iff.mp hn).1 (by show ¬ n + 8 < 8; omega)
theorem ok_t_XP_operatorOf : pe_okM (pe_GA []) pe_cl pe_ckA t_XP_operatorOf = true := pe_okM_mk (pe_w_of (by rfl) (by rfl)) (by decide +kernel) ok_t_XP_operatorOf_a
set_option maxRecDepth 40000 in
theorem ok_t_M_front : pe_okM (pe_GA []) pe_cl pe_ckA t_M_front = true := by decide +kernel
def td_t_M_operator (k : Nat) : Nat × List pe_I := (pe_at t_M_operator.bl k).getD (0, [])
set_option maxRecDepth 40000 in
theorem ok_t_M_operator_0 : pe_ckB (pe_GA []) pe_cl pe_ckA t_M_operator (td_t_M_operator 0).1 (td_t_M_operator 0).2 = true := by decide +kernel
set_option maxRecDepth 40000 in
theorem ok_t_M_operator_1 : pe_ckB (pe_GA []) pe_cl pe_ckA t_M_operator (td_t_M_operator 1).1 (td_t_M_operator 1).2 = true := by decide +kernel
set_option maxRecDepth 40000 in
theorem ok_t_M_operator_2 : pe_ckB (pe_GA []) pe_cl pe_ckA t_M_operator (td_t_M_operator 2).1 (td_t_M_operator 2).2 = true := by decide +kernel
set_option maxRecDepth 40000 in
theorem ok_t_M_operator_3 : pe_ckB (pe_GA []) pe_cl pe_ckA t_M_operator (td_t_M_operator 3).1 (td_t_M_operator 3).2 = true := by decide +kernel
set_option maxRecDepth 40000 in
theorem ok_t_M_operator_4 : pe_ckB (pe_GA []) pe_cl pe_ckA t_M_operator (td_t_M_operator 4).1 (td_t_M_operator 4).2 = true := by decide +kernel
set_option maxRecDepth 40000 in
theorem ok_t_M_operator_5 : pe_ckB (pe_GA []) pe_cl pe_ckA t_M_operator (td_t_M_operator 5).1 (td_t_M_operator 5).2 = true := by decide +kernel
set_option maxRecDepth 40000 in
theorem ok_t_M_operator_6 : pe_ckB (pe_GA []) pe_cl pe_ckA t_M_operator (td_t_M_operator 6).1 (td_t_M_operator 6).2 = true := by decide +kernel
set_option maxRecDepth 40000 in
theorem ok_t_M_operator_7 : pe_ckB (pe_GA []) pe_cl pe_ckA t_M_operator (td_t_M_operator 7).1 (td_t_M_operator 7).2 = true := by decide +kernel
set_option maxRecDepth 40000 in
theorem ok_t_M_operator_8 : pe_ckB (pe_GA []) pe_cl pe_ckA t_M_operator (td_t_M_operator 8).1 (td_t_M_operator 8).2 = true := by decide +kernel
set_option maxRecDepth 40000 in
theorem ok_t_M_operator_9 : pe_ckB (pe_GA []) pe_cl pe_ckA t_M_operator (td_t_M_operator 9).1 (td_t_M_operator 9).2 = true := by decide +kernel
set_option maxRecDepth 40000 in
theorem ok_t_M_operator_10 : pe_ckB (pe_GA []) pe_cl pe_ckA t_M_operator (td_t_M_operator 10).1 (td_t_M_operator 10).2 = true := by decide +kernel
set_option maxRecDepth 40000 in
theorem ok_t_M_operator_11 : pe_ckB (pe_GA []) pe_cl pe_ckA t_M_operator (td_t_M_operator 11).1 (td_t_M_operator 11).2 = true := by decide +kernel
set_option maxRecDepth 40000 in
theorem ok_t_M_operator_12 : pe_ckB (pe_GA []) pe_cl pe_ckA t_M_operator (td_t_M_operator 12).1 (td_t_M_operator 12).2 = true := by decide +kernel
set_option maxRecDepth 40000 in
theorem ok_t_M_operator_13 : pe_ckB (pe_GA []) pe_cl pe_ckA t_M_operator (td_t_M_operator 13).1 (td_t_M_operator 13).2 = true := by decide +kernel
set_option maxRecDepth 40000 in
theorem ok_t_M_operator_14 : pe_ckB (pe_GA []) pe_cl pe_ckA t_M_operator (td_t_M_operator 14).1 (td_t_M_operator 14).2 = true := by decide +kernel
set_option maxRecDepth 40000 in
theorem ok_t_M_operator_15 : pe_ckB (pe_GA []) pe_cl pe_ckA t_M_operator (td_t_M_operator 15).1 (td_t_M_operator 15).2 = true := by decide +kernel
set_option maxRecDepth 40000 in
theorem ok_t_M_operator_16 : pe_ckB (pe_GA []) pe_cl pe_ckA t_M_operator (td_t_M_operator 16).1 (td_t_M_operator 16).2 = true := by decide +kernel
set_option maxRecDepth 40000 in
theorem ok_t_M_operator_17 : pe_ckB (pe_GA []) pe_cl pe_ckA t_M_operator (td_t_M_operator 17).1 (td_t_M_operator 17).2 = true := by decide +kernel
set_option maxRecDepth 40000 in
theorem ok_t_M_operator_18 : pe_ckB (pe_GA []) pe_cl pe_ckA t_M_operator (td_t_M_operator 18).1 (td_t_M_operator 18).2 = true := by decide +kernel
set_option maxRecDepth 40000 in
theorem ok_t_M_operator_19 : pe_ckB (pe_GA []) pe_cl pe_ckA t_M_operator (td_t_M_operator 19).1 (td_t_M_operator 19).2 = true := by decide +kernel
set_option maxRecDepth 40000 in
theorem ok_t_M_operator_20 : pe_ckB (pe_GA []) pe_cl pe_ckA t_M_operator (td_t_M_operator 20).1 (td_t_M_operator 20).2 = true := by decide +kernel
theorem ok_t_M_operator_a : ∀ b ∈ t_M_operator.bl, pe_ckB (pe_GA []) pe_cl pe_ckA t_M_operator b.1 b.2 = true := by
  intro b hb
  obtain ⟨n, hn⟩ := List.getElem?_of_mem hb
  rw [← pe_at_eq] at hn
  match n, hn with
  | 0, hn =>
    have h2 : td_t_M_operator 0 = b := by unfold td_t_M_operator; rw [hn]; rfl
    rw [← h2]; exact ok_t_M_operator_0
  | 1, hn =>
    have h2 : td_t_M_operator 1 = b := by unfold td_t_M_operator; rw [hn]; rfl
    rw [← h2]; exact ok_t_M_operator_1
  | 2, hn =>
    have h2 : td_t_M_operator 2 = b := by unfold td_t_M_operator; rw [hn]; rfl
    rw [← h2]; exact ok_t_M_operator_2
  | 3, hn =>
    have h2 : td_t_M_operator 3 = b := by unfold td_t_M_operator; rw [hn]; rfl
    rw [← h2]; exact ok_t_M_operator_3
  | 4, hn =>
    have h2 : td_t_M_operator 4 = b := by unfold td_t_M_operator; rw [hn]; rfl
    rw [← h2]; exact ok_t_M_operator_4
  | 5, hn =>
    have h2 : td_t_M_operator 5 = b := by unfold td_t_M_operator; rw [hn]; rfl
    rw [← h2]; exact ok_t_M_operator_5
  | 6, hn =>
    have h2 : td_t_M_operator 6 = b := by unfold td_t_M_operator; rw [hn]; rfl
    rw [← h2]; exact ok_t_M_operator_6
  | 7, hn =>
    have h2 : td_t_M_operator 7 = b := by unfold td_t_M_operator; rw [hn]; rfl
    rw [← h2]; exact ok_t_M_operator_7
  | 8, hn =>
    have h2 : td_t_M_operator 8 = b := by unfold td_t_M_operator; rw [hn]; rfl
    rw [← h2]; exact ok_t_M_operator_8
  | 9, hn =>
    have h2 : td_t_M_operator 9 = b := by unfold td_t_M_operator; rw [hn]; rfl
    rw [← h2]; exact ok_t_M_operator_9
  | 10, hn =>
    have h2 : td_t_M_operator 10 = b := by unfold td_t_M_operator; rw [hn]; rfl
    rw [← h2]; exact ok_t_M_operator_10
  | 11, hn =>
    have h2 : td_t_M_operator 11 = b := by unfold td_t_M_operator; rw [hn]; rfl
    rw [← h2]; exact ok_t_M_operator_11
  | 12, hn =>
    have h2 : td_t_M_operator 12 = b := by unfold td_t_M_operator; rw [hn]; rfl
    rw [← h2]; exact ok_t_M_operator_12
  | 13, hn =>
    have h2 : td_t_M_operator 13 = b := by unfold td_t_M_operator; rw [hn]; rfl
    rw [← h2]; exact ok_t_M_operator_13
  | 14, hn =>
    have h2 : td_t_M_operator 14 = b := by unfold td_t_M_operator; rw [hn]; rfl
    rw [← h2]; exact ok_t_M_operator_14
  | 15, hn =>
    have h2 : td_t_M_operator 15 = b := by unfold td_t_M_operator; rw [hn]; rfl
    rw [← h2]; exact ok_t_M_operator_15
  | 16, hn =>
    have h2 : td_t_M_operator 16 = b := by unfold td_t_M_operator; rw [hn]; rfl
    rw [← h2]; exact ok_t_M_operator_16
  | 17, hn =>
    have h2 : td_t_M_operator 17 = b := by unfold td_t_M_operator; rw [hn]; rfl
    rw [← h2]; exact ok_t_M_operator_17
  | 18, hn =>
    have h2 : td_t_M_operator 18 = b := by unfold td_t_M_operator; rw [hn]; rfl
    rw [← h2]; exact ok_t_M_operator_18
  | 19, hn =>
    have h2 : td_t_M_operator 19 = b := by unfold td_t_M_operator; rw [hn]; rfl
    rw [← h2]; exact ok_t_M_operator_19
  | 20, hn =>
    have h2 : td_t_M_operator 20 = b := by unfold td_t_M_operator; rw [hn]; rfl
    rw [← h2]; exact ok_t_M_operator_20
  | n + 21, hn =>
    rw [pe_at_eq] at hn
    exact absurd (List.getElem?_eq_some_iff.mp hn).1 (by show ¬ n + 21 < 21; omega)
theorem ok_t_M_operator : pe_okM (pe_GA []) pe_cl pe_ckA t_M_operator = true := pe_okM_mk (pe_w_of (by rfl) (by rfl)) (by decide +kernel) ok_t_M_operator_a
set_option maxRecDepth 40000 in
theorem ok_t_XO_keptHead : pe_okM (pe_GA []) pe_cl pe_ckA t_XO_keptHead = true := by decide +kernel
set_option maxRecDepth 40000 in
theorem ok_t_XO_isHidden : pe_okM (pe_GA []) pe_cl pe_ckA t_XO_isHidden = true := by decide +kernel
set_option maxRecDepth 40000 in
theorem ok_t_XO_addCandidate : pe_okM (pe_GA []) pe_cl pe_ckA t_XO_addCandidate = true := by decide +kernel
set_option maxRecDepth 40000 in
theorem ok_t_XO_isMoreSpecific : pe_okM (pe_GA []) pe_cl pe_ckA t_XO_isMoreSpecific = true := by decide +kernel
set_option maxRecDepth 40000 in
theorem ok_t_XL_isOf : pe_okM (pe_GA []) pe_cl pe_ckA t_XL_isOf = true := by decide +kernel
set_option maxRecDepth 40000 in
theorem ok_t_JM_abs : pe_okM (pe_GA []) pe_cl pe_ckA t_JM_abs = true := by decide +kernel
set_option maxRecDepth 40000 in
theorem ok_t_M_addOrder : pe_okM (pe_GA []) pe_cl pe_ckA t_M_addOrder = true := by decide +kernel
set_option maxRecDepth 40000 in
theorem ok_t_M_ordersSupers : pe_okM (pe_GA []) pe_cl pe_ckA t_M_ordersSupers = true := by decide +kernel
def td_t_M_fitsIn (k : Nat) : Nat × List pe_I := (pe_at t_M_fitsIn.bl k).getD (0, [])
set_option maxRecDepth 40000 in
theorem ok_t_M_fitsIn_0 : pe_ckB (pe_GA []) pe_cl pe_ckA t_M_fitsIn (td_t_M_fitsIn 0).1 (td_t_M_fitsIn 0).2 = true := by decide +kernel
set_option maxRecDepth 40000 in
theorem ok_t_M_fitsIn_1 : pe_ckB (pe_GA []) pe_cl pe_ckA t_M_fitsIn (td_t_M_fitsIn 1).1 (td_t_M_fitsIn 1).2 = true := by decide +kernel
set_option maxRecDepth 40000 in
theorem ok_t_M_fitsIn_2 : pe_ckB (pe_GA []) pe_cl pe_ckA t_M_fitsIn (td_t_M_fitsIn 2).1 (td_t_M_fitsIn 2).2 = true := by decide +kernel
set_option maxRecDepth 40000 in
theorem ok_t_M_fitsIn_3 : pe_ckB (pe_GA []) pe_cl pe_ckA t_M_fitsIn (td_t_M_fitsIn 3).1 (td_t_M_fitsIn 3).2 = true := by decide +kernel
set_option maxRecDepth 40000 in
theorem ok_t_M_fitsIn_4 : pe_ckB (pe_GA []) pe_cl pe_ckA t_M_fitsIn (td_t_M_fitsIn 4).1 (td_t_M_fitsIn 4).2 = true := by decide +kernel
set_option maxRecDepth 40000 in
theorem ok_t_M_fitsIn_5 : pe_ckB (pe_GA []) pe_cl pe_ckA t_M_fitsIn (td_t_M_fitsIn 5).1 (td_t_M_fitsIn 5).2 = true := by decide +kernel
set_option maxRecDepth 40000 in
theorem ok_t_M_fitsIn_6 : pe_ckB (pe_GA []) pe_cl pe_ckA t_M_fitsIn (td_t_M_fitsIn 6).1 (td_t_M_fitsIn 6).2 = true := by decide +kernel
set_option maxRecDepth 40000 in
theorem ok_t_M_fitsIn_7 : pe_ckB (pe_GA []) pe_cl pe_ckA t_M_fitsIn (td_t_M_fitsIn 7).1 (td_t_M_fitsIn 7).2 = true := by decide +kernel
set_option maxRecDepth 40000 in
theorem ok_t_M_fitsIn_8 : pe_ckB (pe_GA []) pe_cl pe_ckA t_M_fitsIn (td_t_M_fitsIn 8).1 (td_t_M_fitsIn 8).2 = true := by decide +kernel
set_option maxRecDepth 40000 in
theorem ok_t_M_fitsIn_9 : pe_ckB (pe_GA []) pe_cl pe_ckA t_M_fitsIn (td_t_M_fitsIn 9).1 (td_t_M_fitsIn 9).2 = true := by decide +kernel
set_option maxRecDepth 40000 in
theorem ok_t_M_fitsIn_10 : pe_ckB (pe_GA []) pe_cl pe_ckA t_M_fitsIn (td_t_M_fitsIn 10).1 (td_t_M_fitsIn 10).2 = true := by decide +kernel
theorem ok_t_M_fitsIn_a : ∀ b ∈ t_M_fitsIn.bl, pe_ckB (pe_GA []) pe_cl pe_ckA t_M_fitsIn b.1 b.2 = true := by
  intro b hb
  obtain ⟨n, hn⟩ := List.getElem?_of_mem hb
  rw [← pe_at_eq] at hn
  match n, hn with
  | 0, hn =>
    have h2 : td_t_M_fitsIn 0 = b := by unfold td_t_M_fitsIn; rw [hn]; rfl
    rw [← h2]; exact ok_t_M_fitsIn_0
  | 1, hn =>
    have h2 : td_t_M_fitsIn 1 = b := by unfold td_t_M_fitsIn; rw [hn]; rfl
    rw [← h2]; exact ok_t_M_fitsIn_1
  | 2, hn =>
    have h2 : td_t_M_fitsIn 2 = b := by unfold td_t_M_fitsIn; rw [hn]; rfl
    rw [← h2]; exact ok_t_M_fitsIn_2
  | 3, hn =>
    have h2 : td_t_M_fitsIn 3 = b := by unfold td_t_M_fitsIn; rw [hn]; rfl
    rw [← h2]; exact ok_t_M_fitsIn_3
  | 4, hn =>
    have h2 : td_t_M_fitsIn 4 = b := by unfold td_t_M_fitsIn; rw [hn]; rfl
    rw [← h2]; exact ok_t_M_fitsIn_4
  | 5, hn =>
    have h2 : td_t_M_fitsIn 5 = b := by unfold td_t_M_fitsIn; rw [hn]; rfl
    rw [← h2]; exact ok_t_M_fitsIn_5
  | 6, hn =>
    have h2 : td_t_M_fitsIn 6 = b := by unfold td_t_M_fitsIn; rw [hn]; rfl
    rw [← h2]; exact ok_t_M_fitsIn_6
  | 7, hn =>
    have h2 : td_t_M_fitsIn 7 = b := by unfold td_t_M_fitsIn; rw [hn]; rfl
    rw [← h2]; exact ok_t_M_fitsIn_7
  | 8, hn =>
    have h2 : td_t_M_fitsIn 8 = b := by unfold td_t_M_fitsIn; rw [hn]; rfl
    rw [← h2]; exact ok_t_M_fitsIn_8
  | 9, hn =>
    have h2 : td_t_M_fitsIn 9 = b := by unfold td_t_M_fitsIn; rw [hn]; rfl
    rw [← h2]; exact ok_t_M_fitsIn_9
  | 10, hn =>
    have h2 : td_t_M_fitsIn 10 = b := by unfold td_t_M_fitsIn; rw [hn]; rfl
    rw [← h2]; exact ok_t_M_fitsIn_10
  | n + 11, hn =>
    rw [pe_at_eq] at hn
    exact absurd (List.getElem?_eq_some_iff.mp hn).1 (by show ¬ n + 11 < 11; omega)
theorem ok_t_M_fitsIn : pe_okM (pe_GA []) pe_cl pe_ckA t_M_fitsIn = true := pe_okM_mk (pe_w_of (by rfl) (by rfl)) (by decide +kernel) ok_t_M_fitsIn_a
def td_t_M_isMoreSpecific (k : Nat) : Nat × List pe_I := (pe_at t_M_isMoreSpecific.bl k).getD (0, [])
set_option maxRecDepth 40000 in
theorem ok_t_M_isMoreSpecific_0 : pe_ckB (pe_GA []) pe_cl pe_ckA t_M_isMoreSpecific (td_t_M_isMoreSpecific 0).1 (td_t_M_isMoreSpecific 0).2 = true := by decide +kernel
set_option maxRecDepth 40000 in
theorem ok_t_M_isMoreSpecific_1 : pe_ckB (pe_GA []) pe_cl pe_ckA t_M_isMoreSpecific (td_t_M_isMoreSpecific 1).1 (td_t_M_isMoreSpecific 1).2 = true := by decide +kernel
set_option maxRecDepth 40000 in
theorem ok_t_M_isMoreSpecific_2 : pe_ckB (pe_GA []) pe_cl pe_ckA t_M_isMoreSpecific (td_t_M_isMoreSpecific 2).1 (td_t_M_isMoreSpecific 2).2 = true := by decide +kernel
set_option maxRecDepth 40000 in
theorem ok_t_M_isMoreSpecific_3 : pe_ckB (pe_GA []) pe_cl pe_ckA t_M_isMoreSpecific (td_t_M_isMoreSpecific 3).1 (td_t_M_isMoreSpecific 3).2 = true := by decide +kernel
set_option maxRecDepth 40000 in
theorem ok_t_M_isMoreSpecific_4 : pe_ckB (pe_GA []) pe_cl pe_ckA t_M_isMoreSpecific (td_t_M_isMoreSpecific 4).1 (td_t_M_isMoreSpecific 4).2 = true := by decide +kernel
theorem ok_t_M_isMoreSpecific_a : ∀ b ∈ t_M_isMoreSpecific.bl, pe_ckB (pe_GA []) pe_cl pe_ckA t_M_isMoreSpecific b.1 b.2 = true := by
  intro b hb
  obtain ⟨n, hn⟩ := List.getElem?_of_mem hb
  rw [← pe_at_eq] at hn
  match n, hn with
  | 0, hn =>
    have h2 : td_t_M_isMoreSpecific 0 = b := by unfold td_t_M_isMoreSpecific; rw [hn]; rfl
    rw [← h2]; exact ok_t_M_isMoreSpecific_0
  | 1, hn =>
    have h2 : td_t_M_isMoreSpecific 1 = b := by unfold td_t_M_isMoreSpecific; rw [hn]; rfl
    rw [← h2]; exact ok_t_M_isMoreSpecific_1
  | 2, hn =>
    have h2 : td_t_M_isMoreSpecific 2 = b := by unfold td_t_M_isMoreSpecific; rw [hn]; rfl
    rw [← h2]; exact ok_t_M_isMoreSpecific_2
  | 3, hn =>
    have h2 : td_t_M_isMoreSpecific 3 = b := by unfold td_t_M_isMoreSpecific; rw [hn]; rfl
    rw [← h2]; exact ok_t_M_isMoreSpecific_3
  | 4, hn =>
    have h2 : td_t_M_isMoreSpecific 4 = b := by unfold td_t_M_isMoreSpecific; rw [hn]; rfl
    rw [← h2]; exact ok_t_M_isMoreSpecific_4
  | n + 5, hn =>
    rw [pe_at_eq] at hn
    exact absurd (List.getElem?_eq_some_iff.mp hn).1 (by show ¬ n + 5 < 5; omega)
theorem ok_t_M_isMoreSpecific : pe_okM (pe_GA []) pe_cl pe_ckA t_M_isMoreSpecific = true := pe_okM_mk (pe_w_of (by rfl) (by rfl)) (by decide +kernel) ok_t_M_isMoreSpecific_a
set_option maxRecDepth 40000 in
theorem ok_t_M_placeOf : pe_okM (pe_GA []) pe_cl pe_ckA t_M_placeOf = true := by decide +kernel
def td_t_M_listsFields (k : Nat) : Nat × List pe_I := (pe_at t_M_listsFields.bl k).getD (0, [])
set_option maxRecDepth 40000 in
theorem ok_t_M_listsFields_0 : pe_ckB (pe_GA []) pe_cl pe_ckA t_M_listsFields (td_t_M_listsFields 0).1 (td_t_M_listsFields 0).2 = true := by decide +kernel
set_option maxRecDepth 40000 in
theorem ok_t_M_listsFields_1 : pe_ckB (pe_GA []) pe_cl pe_ckA t_M_listsFields (td_t_M_listsFields 1).1 (td_t_M_listsFields 1).2 = true := by decide +kernel
set_option maxRecDepth 40000 in
theorem ok_t_M_listsFields_2 : pe_ckB (pe_GA []) pe_cl pe_ckA t_M_listsFields (td_t_M_listsFields 2).1 (td_t_M_listsFields 2).2 = true := by decide +kernel
set_option maxRecDepth 40000 in
theorem ok_t_M_listsFields_3 : pe_ckB (pe_GA []) pe_cl pe_ckA t_M_listsFields (td_t_M_listsFields 3).1 (td_t_M_listsFields 3).2 = true := by decide +kernel
set_option maxRecDepth 40000 in
theorem ok_t_M_listsFields_4 : pe_ckB (pe_GA []) pe_cl pe_ckA t_M_listsFields (td_t_M_listsFields 4).1 (td_t_M_listsFields 4).2 = true := by decide +kernel
set_option maxRecDepth 40000 in
theorem ok_t_M_listsFields_5 : pe_ckB (pe_GA []) pe_cl pe_ckA t_M_listsFields (td_t_M_listsFields 5).1 (td_t_M_listsFields 5).2 = true := by decide +kernel
set_option maxRecDepth 40000 in
theorem ok_t_M_listsFields_6 : pe_ckB (pe_GA []) pe_cl pe_ckA t_M_listsFields (td_t_M_listsFields 6).1 (td_t_M_listsFields 6).2 = true := by decide +kernel
set_option maxRecDepth 40000 in
theorem ok_t_M_listsFields_7 : pe_ckB (pe_GA []) pe_cl pe_ckA t_M_listsFields (td_t_M_listsFields 7).1 (td_t_M_listsFields 7).2 = true := by decide +kernel
set_option maxRecDepth 40000 in
theorem ok_t_M_listsFields_8 : pe_ckB (pe_GA []) pe_cl pe_ckA t_M_listsFields (td_t_M_listsFields 8).1 (td_t_M_listsFields 8).2 = true := by decide +kernel
set_option maxRecDepth 40000 in
theorem ok_t_M_listsFields_9 : pe_ckB (pe_GA []) pe_cl pe_ckA t_M_listsFields (td_t_M_listsFields 9).1 (td_t_M_listsFields 9).2 = true := by decide +kernel
theorem ok_t_M_listsFields_a : ∀ b ∈ t_M_listsFields.bl, pe_ckB (pe_GA []) pe_cl pe_ckA t_M_listsFields b.1 b.2 = true := by
  intro b hb
  obtain ⟨n, hn⟩ := List.getElem?_of_mem hb
  rw [← pe_at_eq] at hn
  match n, hn with
  | 0, hn =>
    have h2 : td_t_M_listsFields 0 = b := by unfold td_t_M_listsFields; rw [hn]; rfl
    rw [← h2]; exact ok_t_M_listsFields_0
  | 1, hn =>
    have h2 : td_t_M_listsFields 1 = b := by unfold td_t_M_listsFields; rw [hn]; rfl
    rw [← h2]; exact ok_t_M_listsFields_1
  | 2, hn =>
    have h2 : td_t_M_listsFields 2 = b := by unfold td_t_M_listsFields; rw [hn]; rfl
    rw [← h2]; exact ok_t_M_listsFields_2
  | 3, hn =>
    have h2 : td_t_M_listsFields 3 = b := by unfold td_t_M_listsFields; rw [hn]; rfl
    rw [← h2]; exact ok_t_M_listsFields_3
  | 4, hn =>
    have h2 : td_t_M_listsFields 4 = b := by unfold td_t_M_listsFields; rw [hn]; rfl
    rw [← h2]; exact ok_t_M_listsFields_4
  | 5, hn =>
    have h2 : td_t_M_listsFields 5 = b := by unfold td_t_M_listsFields; rw [hn]; rfl
    rw [← h2]; exact ok_t_M_listsFields_5
  | 6, hn =>
    have h2 : td_t_M_listsFields 6 = b := by unfold td_t_M_listsFields; rw [hn]; rfl
    rw [← h2]; exact ok_t_M_listsFields_6
  | 7, hn =>
    have h2 : td_t_M_listsFields 7 = b := by unfold td_t_M_listsFields; rw [hn]; rfl
    rw [← h2]; exact ok_t_M_listsFields_7
  | 8, hn =>
    have h2 : td_t_M_listsFields 8 = b := by unfold td_t_M_listsFields; rw [hn]; rfl
    rw [← h2]; exact ok_t_M_listsFields_8
  | 9, hn =>
    have h2 : td_t_M_listsFields 9 = b := by unfold td_t_M_listsFields; rw [hn]; rfl
    rw [← h2]; exact ok_t_M_listsFields_9
  | n + 10, hn =>
    rw [pe_at_eq] at hn
    exact absurd (List.getElem?_eq_some_iff.mp hn).1 (by show ¬ n + 10 < 10; omega)
theorem ok_t_M_listsFields : pe_okM (pe_GA []) pe_cl pe_ckA t_M_listsFields = true := pe_okM_mk (pe_w_of (by rfl) (by rfl)) (by decide +kernel) ok_t_M_listsFields_a
set_option maxRecDepth 40000 in
theorem ok_t_M_parameterAt : pe_okM (pe_GA []) pe_cl pe_ckA t_M_parameterAt = true := by decide +kernel
def td_t_M_isPrefixed (k : Nat) : Nat × List pe_I := (pe_at t_M_isPrefixed.bl k).getD (0, [])
set_option maxRecDepth 40000 in
theorem ok_t_M_isPrefixed_0 : pe_ckB (pe_GA []) pe_cl pe_ckA t_M_isPrefixed (td_t_M_isPrefixed 0).1 (td_t_M_isPrefixed 0).2 = true := by decide +kernel
set_option maxRecDepth 40000 in
theorem ok_t_M_isPrefixed_1 : pe_ckB (pe_GA []) pe_cl pe_ckA t_M_isPrefixed (td_t_M_isPrefixed 1).1 (td_t_M_isPrefixed 1).2 = true := by decide +kernel
set_option maxRecDepth 40000 in
theorem ok_t_M_isPrefixed_2 : pe_ckB (pe_GA []) pe_cl pe_ckA t_M_isPrefixed (td_t_M_isPrefixed 2).1 (td_t_M_isPrefixed 2).2 = true := by decide +kernel
set_option maxRecDepth 40000 in
theorem ok_t_M_isPrefixed_3 : pe_ckB (pe_GA []) pe_cl pe_ckA t_M_isPrefixed (td_t_M_isPrefixed 3).1 (td_t_M_isPrefixed 3).2 = true := by decide +kernel
set_option maxRecDepth 40000 in
theorem ok_t_M_isPrefixed_4 : pe_ckB (pe_GA []) pe_cl pe_ckA t_M_isPrefixed (td_t_M_isPrefixed 4).1 (td_t_M_isPrefixed 4).2 = true := by decide +kernel
theorem ok_t_M_isPrefixed_a : ∀ b ∈ t_M_isPrefixed.bl, pe_ckB (pe_GA []) pe_cl pe_ckA t_M_isPrefixed b.1 b.2 = true := by
  intro b hb
  obtain ⟨n, hn⟩ := List.getElem?_of_mem hb
  rw [← pe_at_eq] at hn
  match n, hn with
  | 0, hn =>
    have h2 : td_t_M_isPrefixed 0 = b := by unfold td_t_M_isPrefixed; rw [hn]; rfl
    rw [← h2]; exact ok_t_M_isPrefixed_0
  | 1, hn =>
    have h2 : td_t_M_isPrefixed 1 = b := by unfold td_t_M_isPrefixed; rw [hn]; rfl
    rw [← h2]; exact ok_t_M_isPrefixed_1
  | 2, hn =>
    have h2 : td_t_M_isPrefixed 2 = b := by unfold td_t_M_isPrefixed; rw [hn]; rfl
    rw [← h2]; exact ok_t_M_isPrefixed_2
  | 3, hn =>
    have h2 : td_t_M_isPrefixed 3 = b := by unfold td_t_M_isPrefixed; rw [hn]; rfl
    rw [← h2]; exact ok_t_M_isPrefixed_3
  | 4, hn =>
    have h2 : td_t_M_isPrefixed 4 = b := by unfold td_t_M_isPrefixed; rw [hn]; rfl
    rw [← h2]; exact ok_t_M_isPrefixed_4
  | n + 5, hn =>
    rw [pe_at_eq] at hn
    exact absurd (List.getElem?_eq_some_iff.mp hn).1 (by show ¬ n + 5 < 5; omega)
theorem ok_t_M_isPrefixed : pe_okM (pe_GA []) pe_cl pe_ckA t_M_isPrefixed = true := pe_okM_mk (pe_w_of (by rfl) (by rfl)) (by decide +kernel) ok_t_M_isPrefixed_a
set_option maxRecDepth 40000 in
theorem ok_t_M_isSuch : pe_okM (pe_GA []) pe_cl pe_ckA t_M_isSuch = true := by decide +kernel
def td_t_XP_readList (k : Nat) : Nat × List pe_I := (pe_at t_XP_readList.bl k).getD (0, [])
set_option maxRecDepth 40000 in
theorem ok_t_XP_readList_0 : pe_ckB (pe_GA []) pe_cl pe_ckA t_XP_readList (td_t_XP_readList 0).1 (td_t_XP_readList 0).2 = true := by decide +kernel
set_option maxRecDepth 40000 in
theorem ok_t_XP_readList_1 : pe_ckB (pe_GA []) pe_cl pe_ckA t_XP_readList (td_t_XP_readList 1).1 (td_t_XP_readList 1).2 = true := by decide +kernel
set_option maxRecDepth 40000 in
theorem ok_t_XP_readList_2 : pe_ckB (pe_GA []) pe_cl pe_ckA t_XP_readList (td_t_XP_readList 2).1 (td_t_XP_readList 2).2 = true := by decide +kernel
set_option maxRecDepth 40000 in
theorem ok_t_XP_readList_3 : pe_ckB (pe_GA []) pe_cl pe_ckA t_XP_readList (td_t_XP_readList 3).1 (td_t_XP_readList 3).2 = true := by decide +kernel
set_option maxRecDepth 40000 in
theorem ok_t_XP_readList_4 : pe_ckB (pe_GA []) pe_cl pe_ckA t_XP_readList (td_t_XP_readList 4).1 (td_t_XP_readList 4).2 = true := by decide +kernel
set_option maxRecDepth 40000 in
theorem ok_t_XP_readList_5 : pe_ckB (pe_GA []) pe_cl pe_ckA t_XP_readList (td_t_XP_readList 5).1 (td_t_XP_readList 5).2 = true := by decide +kernel
set_option maxRecDepth 40000 in
theorem ok_t_XP_readList_6 : pe_ckB (pe_GA []) pe_cl pe_ckA t_XP_readList (td_t_XP_readList 6).1 (td_t_XP_readList 6).2 = true := by decide +kernel
set_option maxRecDepth 40000 in
theorem ok_t_XP_readList_7 : pe_ckB (pe_GA []) pe_cl pe_ckA t_XP_readList (td_t_XP_readList 7).1 (td_t_XP_readList 7).2 = true := by decide +kernel
theorem ok_t_XP_readList_a : ∀ b ∈ t_XP_readList.bl, pe_ckB (pe_GA []) pe_cl pe_ckA t_XP_readList b.1 b.2 = true := by
  intro b hb
  obtain ⟨n, hn⟩ := List.getElem?_of_mem hb
  rw [← pe_at_eq] at hn
  match n, hn with
  | 0, hn =>
    have h2 : td_t_XP_readList 0 = b := by unfold td_t_XP_readList; rw [hn]; rfl
    rw [← h2]; exact ok_t_XP_readList_0
  | 1, hn =>
    have h2 : td_t_XP_readList 1 = b := by unfold td_t_XP_readList; rw [hn]; rfl
    rw [← h2]; exact ok_t_XP_readList_1
  | 2, hn =>
    have h2 : td_t_XP_readList 2 = b := by unfold td_t_XP_readList; rw [hn]; rfl
    rw [← h2]; exact ok_t_XP_readList_2
  | 3, hn =>
    have h2 : td_t_XP_readList 3 = b := by unfold td_t_XP_readList; rw [hn]; rfl
    rw [← h2]; exact ok_t_XP_readList_3
  | 4, hn =>
    have h2 : td_t_XP_readList 4 = b := by unfold td_t_XP_readList; rw [hn]; rfl
    rw [← h2]; exact ok_t_XP_readList_4
  | 5, hn =>
    have h2 : td_t_XP_readList 5 = b := by unfold td_t_XP_readList; rw [hn]; rfl
    rw [← h2]; exact ok_t_XP_readList_5
  | 6, hn =>
    have h2 : td_t_XP_readList 6 = b := by unfold td_t_XP_readList; rw [hn]; rfl
    rw [← h2]; exact ok_t_XP_readList_6
  | 7, hn =>
    have h2 : td_t_XP_readList 7 = b := by unfold td_t_XP_readList; rw [hn]; rfl
    rw [← h2]; exact ok_t_XP_readList_7
  | n + 8, hn =>
    rw [pe_at_eq] at hn
    exact absurd (List.getElem?_eq_some_iff.mp hn).1 (by show ¬ n + 8 < 8; omega)
theorem ok_t_XP_readList : pe_okM (pe_GA []) pe_cl pe_ckA t_XP_readList = true := pe_okM_mk (pe_w_of (by rfl) (by rfl)) (by decide +kernel) ok_t_XP_readList_a
def td_t_XP_readObject (k : Nat) : Nat × List pe_I := (pe_at t_XP_readObject.bl k).getD (0, [])
set_option maxRecDepth 40000 in
theorem ok_t_XP_readObject_0 : pe_ckB (pe_GA []) pe_cl pe_ckA t_XP_readObject (td_t_XP_readObject 0).1 (td_t_XP_readObject 0).2 = true := by decide +kernel
set_option maxRecDepth 40000 in
theorem ok_t_XP_readObject_1 : pe_ckB (pe_GA []) pe_cl pe_ckA t_XP_readObject (td_t_XP_readObject 1).1 (td_t_XP_readObject 1).2 = true := by decide +kernel
set_option maxRecDepth 40000 in
theorem ok_t_XP_readObject_2 : pe_ckB (pe_GA []) pe_cl pe_ckA t_XP_readObject (td_t_XP_readObject 2).1 (td_t_XP_readObject 2).2 = true := by decide +kernel
set_option maxRecDepth 40000 in
theorem ok_t_XP_readObject_3 : pe_ckB (pe_GA []) pe_cl pe_ckA t_XP_readObject (td_t_XP_readObject 3).1 (td_t_XP_readObject 3).2 = true := by decide +kernel
set_option maxRecDepth 40000 in
theorem ok_t_XP_readObject_4 : pe_ckB (pe_GA []) pe_cl pe_ckA t_XP_readObject (td_t_XP_readObject 4).1 (td_t_XP_readObject 4).2 = true := by decide +kernel
set_option maxRecDepth 40000 in
theorem ok_t_XP_readObject_5 : pe_ckB (pe_GA []) pe_cl pe_ckA t_XP_readObject (td_t_XP_readObject 5).1 (td_t_XP_readObject 5).2 = true := by decide +kernel
set_option maxRecDepth 40000 in
theorem ok_t_XP_readObject_6 : pe_ckB (pe_GA []) pe_cl pe_ckA t_XP_readObject (td_t_XP_readObject 6).1 (td_t_XP_readObject 6).2 = true := by decide +kernel
set_option maxRecDepth 40000 in
theorem ok_t_XP_readObject_7 : pe_ckB (pe_GA []) pe_cl pe_ckA t_XP_readObject (td_t_XP_readObject 7).1 (td_t_XP_readObject 7).2 = true := by decide +kernel
theorem ok_t_XP_readObject_a : ∀ b ∈ t_XP_readObject.bl, pe_ckB (pe_GA []) pe_cl pe_ckA t_XP_readObject b.1 b.2 = true := by
  intro b hb
  obtain ⟨n, hn⟩ := List.getElem?_of_mem hb
  rw [← pe_at_eq] at hn
  match n, hn with
  | 0, hn =>
    have h2 : td_t_XP_readObject 0 = b := by unfold td_t_XP_readObject; rw [hn]; rfl
    rw [← h2]; exact ok_t_XP_readObject_0
  | 1, hn =>
    have h2 : td_t_XP_readObject 1 = b := by unfold td_t_XP_readObject; rw [hn]; rfl
    rw [← h2]; exact ok_t_XP_readObject_1
  | 2, hn =>
    have h2 : td_t_XP_readObject 2 = b := by unfold td_t_XP_readObject; rw [hn]; rfl
    rw [← h2]; exact ok_t_XP_readObject_2
  | 3, hn =>
    have h2 : td_t_XP_readObject 3 = b := by unfold td_t_XP_readObject; rw [hn]; rfl
    rw [← h2]; exact ok_t_XP_readObject_3
  | 4, hn =>
    have h2 : td_t_XP_readObject 4 = b := by unfold td_t_XP_readObject; rw [hn]; rfl
    rw [← h2]; exact ok_t_XP_readObject_4
  | 5, hn =>
    have h2 : td_t_XP_readObject 5 = b := by unfold td_t_XP_readObject; rw [hn]; rfl
    rw [← h2]; exact ok_t_XP_readObject_5
  | 6, hn =>
    have h2 : td_t_XP_readObject 6 = b := by unfold td_t_XP_readObject; rw [hn]; rfl
    rw [← h2]; exact ok_t_XP_readObject_6
  | 7, hn =>
    have h2 : td_t_XP_readObject 7 = b := by unfold td_t_XP_readObject; rw [hn]; rfl
    rw [← h2]; exact ok_t_XP_readObject_7
  | n + 8, hn =>
    rw [pe_at_eq] at hn
    exact absurd (List.getElem?_eq_some_iff.mp hn).1 (by show ¬ n + 8 < 8; omega)
theorem ok_t_XP_readObject : pe_okM (pe_GA []) pe_cl pe_ckA t_XP_readObject = true := pe_okM_mk (pe_w_of (by rfl) (by rfl)) (by decide +kernel) ok_t_XP_readObject_a
set_option maxRecDepth 40000 in
theorem ok_t_XP_readBuiltin : pe_okM (pe_GA []) pe_cl pe_ckA t_XP_readBuiltin = true := by decide +kernel
def td_t_XP_readConstant (k : Nat) : Nat × List pe_I := (pe_at t_XP_readConstant.bl k).getD (0, [])
set_option maxRecDepth 40000 in
theorem ok_t_XP_readConstant_0 : pe_ckB (pe_GA []) pe_cl pe_ckA t_XP_readConstant (td_t_XP_readConstant 0).1 (td_t_XP_readConstant 0).2 = true := by decide +kernel
set_option maxRecDepth 40000 in
theorem ok_t_XP_readConstant_1 : pe_ckB (pe_GA []) pe_cl pe_ckA t_XP_readConstant (td_t_XP_readConstant 1).1 (td_t_XP_readConstant 1).2 = true := by decide +kernel
set_option maxRecDepth 40000 in
theorem ok_t_XP_readConstant_2 : pe_ckB (pe_GA []) pe_cl pe_ckA t_XP_readConstant (td_t_XP_readConstant 2).1 (td_t_XP_readConstant 2).2 = true := by decide +kernel
set_option maxRecDepth 40000 in
theorem ok_t_XP_readConstant_3 : pe_ckB (pe_GA []) pe_cl pe_ckA t_XP_readConstant (td_t_XP_readConstant 3).1 (td_t_XP_readConstant 3).2 = true := by decide +kernel
set_option maxRecDepth 40000 in
theorem ok_t_XP_readConstant_4 : pe_ckB (pe_GA []) pe_cl pe_ckA t_XP_readConstant (td_t_XP_readConstant 4).1 (td_t_XP_readConstant 4).2 = true := by decide +kernel
set_option maxRecDepth 40000 in
theorem ok_t_XP_readConstant_5 : pe_ckB (pe_GA []) pe_cl pe_ckA t_XP_readConstant (td_t_XP_readConstant 5).1 (td_t_XP_readConstant 5).2 = true := by decide +kernel
set_option maxRecDepth 40000 in
theorem ok_t_XP_readConstant_6 : pe_ckB (pe_GA []) pe_cl pe_ckA t_XP_readConstant (td_t_XP_readConstant 6).1 (td_t_XP_readConstant 6).2 = true := by decide +kernel
set_option maxRecDepth 40000 in
theorem ok_t_XP_readConstant_7 : pe_ckB (pe_GA []) pe_cl pe_ckA t_XP_readConstant (td_t_XP_readConstant 7).1 (td_t_XP_readConstant 7).2 = true := by decide +kernel
set_option maxRecDepth 40000 in
theorem ok_t_XP_readConstant_8 : pe_ckB (pe_GA []) pe_cl pe_ckA t_XP_readConstant (td_t_XP_readConstant 8).1 (td_t_XP_readConstant 8).2 = true := by decide +kernel
set_option maxRecDepth 40000 in
theorem ok_t_XP_readConstant_9 : pe_ckB (pe_GA []) pe_cl pe_ckA t_XP_readConstant (td_t_XP_readConstant 9).1 (td_t_XP_readConstant 9).2 = true := by decide +kernel
theorem ok_t_XP_readConstant_a : ∀ b ∈ t_XP_readConstant.bl, pe_ckB (pe_GA []) pe_cl pe_ckA t_XP_readConstant b.1 b.2 = true := by
  intro b hb
  obtain ⟨n, hn⟩ := List.getElem?_of_mem hb
  rw [← pe_at_eq] at hn
  match n, hn with
  | 0, hn =>
    have h2 : td_t_XP_readConstant 0 = b := by unfold td_t_XP_readConstant; rw [hn]; rfl
    rw [← h2]; exact ok_t_XP_readConstant_0
  | 1, hn =>
    have h2 : td_t_XP_readConstant 1 = b := by unfold td_t_XP_readConstant; rw [hn]; rfl
    rw [← h2]; exact ok_t_XP_readConstant_1
  | 2, hn =>
    have h2 : td_t_XP_readConstant 2 = b := by unfold td_t_XP_readConstant; rw [hn]; rfl
    rw [← h2]; exact ok_t_XP_readConstant_2
  | 3, hn =>
    have h2 : td_t_XP_readConstant 3 = b := by unfold td_t_XP_readConstant; rw [hn]; rfl
    rw [← h2]; exact ok_t_XP_readConstant_3
  | 4, hn =>
    have h2 : td_t_XP_readConstant 4 = b := by unfold td_t_XP_readConstant; rw [hn]; rfl
    rw [← h2]; exact ok_t_XP_readConstant_4
  | 5, hn =>
    have h2 : td_t_XP_readConstant 5 = b := by unfold td_t_XP_readConstant; rw [hn]; rfl
    rw [← h2]; exact ok_t_XP_readConstant_5
  | 6, hn =>
    have h2 : td_t_XP_readConstant 6 = b := by unfold td_t_XP_readConstant; rw [hn]; rfl
    rw [← h2]; exact ok_t_XP_readConstant_6
  | 7, hn =>
    have h2 : td_t_XP_readConstant 7 = b := by unfold td_t_XP_readConstant; rw [hn]; rfl
    rw [← h2]; exact ok_t_XP_readConstant_7
  | 8, hn =>
    have h2 : td_t_XP_readConstant 8 = b := by unfold td_t_XP_readConstant; rw [hn]; rfl
    rw [← h2]; exact ok_t_XP_readConstant_8
  | 9, hn =>
    have h2 : td_t_XP_readConstant 9 = b := by unfold td_t_XP_readConstant; rw [hn]; rfl
    rw [← h2]; exact ok_t_XP_readConstant_9
  | n + 10, hn =>
    rw [pe_at_eq] at hn
    exact absurd (List.getElem?_eq_some_iff.mp hn).1 (by show ¬ n + 10 < 10; omega)
theorem ok_t_XP_readConstant : pe_okM (pe_GA []) pe_cl pe_ckA t_XP_readConstant = true := pe_okM_mk (pe_w_of (by rfl) (by rfl)) (by decide +kernel) ok_t_XP_readConstant_a
def td_t_XP_refuseNinth (k : Nat) : Nat × List pe_I := (pe_at t_XP_refuseNinth.bl k).getD (0, [])
set_option maxRecDepth 40000 in
theorem ok_t_XP_refuseNinth_0 : pe_ckB (pe_GA []) pe_cl pe_ckA t_XP_refuseNinth (td_t_XP_refuseNinth 0).1 (td_t_XP_refuseNinth 0).2 = true := by decide +kernel
set_option maxRecDepth 40000 in
theorem ok_t_XP_refuseNinth_1 : pe_ckB (pe_GA []) pe_cl pe_ckA t_XP_refuseNinth (td_t_XP_refuseNinth 1).1 (td_t_XP_refuseNinth 1).2 = true := by decide +kernel
set_option maxRecDepth 40000 in
theorem ok_t_XP_refuseNinth_2 : pe_ckB (pe_GA []) pe_cl pe_ckA t_XP_refuseNinth (td_t_XP_refuseNinth 2).1 (td_t_XP_refuseNinth 2).2 = true := by decide +kernel
set_option maxRecDepth 40000 in
theorem ok_t_XP_refuseNinth_3 : pe_ckB (pe_GA []) pe_cl pe_ckA t_XP_refuseNinth (td_t_XP_refuseNinth 3).1 (td_t_XP_refuseNinth 3).2 = true := by decide +kernel
set_option maxRecDepth 40000 in
theorem ok_t_XP_refuseNinth_4 : pe_ckB (pe_GA []) pe_cl pe_ckA t_XP_refuseNinth (td_t_XP_refuseNinth 4).1 (td_t_XP_refuseNinth 4).2 = true := by decide +kernel
set_option maxRecDepth 40000 in
theorem ok_t_XP_refuseNinth_5 : pe_ckB (pe_GA []) pe_cl pe_ckA t_XP_refuseNinth (td_t_XP_refuseNinth 5).1 (td_t_XP_refuseNinth 5).2 = true := by decide +kernel
set_option maxRecDepth 40000 in
theorem ok_t_XP_refuseNinth_6 : pe_ckB (pe_GA []) pe_cl pe_ckA t_XP_refuseNinth (td_t_XP_refuseNinth 6).1 (td_t_XP_refuseNinth 6).2 = true := by decide +kernel
theorem ok_t_XP_refuseNinth_a : ∀ b ∈ t_XP_refuseNinth.bl, pe_ckB (pe_GA []) pe_cl pe_ckA t_XP_refuseNinth b.1 b.2 = true := by
  intro b hb
  obtain ⟨n, hn⟩ := List.getElem?_of_mem hb
  rw [← pe_at_eq] at hn
  match n, hn with
  | 0, hn =>
    have h2 : td_t_XP_refuseNinth 0 = b := by unfold td_t_XP_refuseNinth; rw [hn]; rfl
    rw [← h2]; exact ok_t_XP_refuseNinth_0
  | 1, hn =>
    have h2 : td_t_XP_refuseNinth 1 = b := by unfold td_t_XP_refuseNinth; rw [hn]; rfl
    rw [← h2]; exact ok_t_XP_refuseNinth_1
  | 2, hn =>
    have h2 : td_t_XP_refuseNinth 2 = b := by unfold td_t_XP_refuseNinth; rw [hn]; rfl
    rw [← h2]; exact ok_t_XP_refuseNinth_2
  | 3, hn =>
    have h2 : td_t_XP_refuseNinth 3 = b := by unfold td_t_XP_refuseNinth; rw [hn]; rfl
    rw [← h2]; exact ok_t_XP_refuseNinth_3
  | 4, hn =>
    have h2 : td_t_XP_refuseNinth 4 = b := by unfold td_t_XP_refuseNinth; rw [hn]; rfl
    rw [← h2]; exact ok_t_XP_refuseNinth_4
  | 5, hn =>
    have h2 : td_t_XP_refuseNinth 5 = b := by unfold td_t_XP_refuseNinth; rw [hn]; rfl
    rw [← h2]; exact ok_t_XP_refuseNinth_5
  | 6, hn =>
    have h2 : td_t_XP_refuseNinth 6 = b := by unfold td_t_XP_refuseNinth; rw [hn]; rfl
    rw [← h2]; exact ok_t_XP_refuseNinth_6
  | n + 7, hn =>
    rw [pe_at_eq] at hn
    exact absurd (List.getElem?_eq_some_iff.mp hn).1 (by show ¬ n + 7 < 7; omega)
theorem ok_t_XP_refuseNinth : pe_okM (pe_GA []) pe_cl pe_ckA t_XP_refuseNinth = true := pe_okM_mk (pe_w_of (by rfl) (by rfl)) (by decide +kernel) ok_t_XP_refuseNinth_a
def td_t_M_behind (k : Nat) : Nat × List pe_I := (pe_at t_M_behind.bl k).getD (0, [])
set_option maxRecDepth 40000 in
theorem ok_t_M_behind_0 : pe_ckB (pe_GA []) pe_cl pe_ckA t_M_behind (td_t_M_behind 0).1 (td_t_M_behind 0).2 = true := by decide +kernel
set_option maxRecDepth 40000 in
theorem ok_t_M_behind_1 : pe_ckB (pe_GA []) pe_cl pe_ckA t_M_behind (td_t_M_behind 1).1 (td_t_M_behind 1).2 = true := by decide +kernel
set_option maxRecDepth 40000 in
theorem ok_t_M_behind_2 : pe_ckB (pe_GA []) pe_cl pe_ckA t_M_behind (td_t_M_behind 2).1 (td_t_M_behind 2).2 = true := by decide +kernel
set_option maxRecDepth 40000 in
theorem ok_t_M_behind_3 : pe_ckB (pe_GA []) pe_cl pe_ckA t_M_behind (td_t_M_behind 3).1 (td_t_M_behind 3).2 = true := by decide +kernel
set_option maxRecDepth 40000 in
theorem ok_t_M_behind_4 : pe_ckB (pe_GA []) pe_cl pe_ckA t_M_behind (td_t_M_behind 4).1 (td_t_M_behind 4).2 = true := by decide +kernel
set_option maxRecDepth 40000 in
theorem ok_t_M_behind_5 : pe_ckB (pe_GA []) pe_cl pe_ckA t_M_behind (td_t_M_behind 5).1 (td_t_M_behind 5).2 = true := by decide +kernel
set_option maxRecDepth 40000 in
theorem ok_t_M_behind_6 : pe_ckB (pe_GA []) pe_cl pe_ckA t_M_behind (td_t_M_behind 6).1 (td_t_M_behind 6).2 = true := by decide +kernel
set_option maxRecDepth 40000 in
theorem ok_t_M_behind_7 : pe_ckB (pe_GA []) pe_cl pe_ckA t_M_behind (td_t_M_behind 7).1 (td_t_M_behind 7).2 = true := by decide +kernel
theorem ok_t_M_behind_a : ∀ b ∈ t_M_behind.bl, pe_ckB (pe_GA []) pe_cl pe_ckA t_M_behind b.1 b.2 = true := by
  intro b hb
  obtain ⟨n, hn⟩ := List.getElem?_of_mem hb
  rw [← pe_at_eq] at hn
  match n, hn with
  | 0, hn =>
    have h2 : td_t_M_behind 0 = b := by unfold td_t_M_behind; rw [hn]; rfl
    rw [← h2]; exact ok_t_M_behind_0
  | 1, hn =>
    have h2 : td_t_M_behind 1 = b := by unfold td_t_M_behind; rw [hn]; rfl
    rw [← h2]; exact ok_t_M_behind_1
  | 2, hn =>
    have h2 : td_t_M_behind 2 = b := by unfold td_t_M_behind; rw [hn]; rfl
    rw [← h2]; exact ok_t_M_behind_2
  | 3, hn =>
    have h2 : td_t_M_behind 3 = b := by unfold td_t_M_behind; rw [hn]; rfl
    rw [← h2]; exact ok_t_M_behind_3
  | 4, hn =>
    have h2 : td_t_M_behind 4 = b := by unfold td_t_M_behind; rw [hn]; rfl
    rw [← h2]; exact ok_t_M_behind_4
  | 5, hn =>
    have h2 : td_t_M_behind 5 = b := by unfold td_t_M_behind; rw [hn]; rfl
    rw [← h2]; exact ok_t_M_behind_5
  | 6, hn =>
    have h2 : td_t_M_behind 6 = b := by unfold td_t_M_behind; rw [hn]; rfl
    rw [← h2]; exact ok_t_M_behind_6
  | 7, hn =>
    have h2 : td_t_M_behind 7 = b := by unfold td_t_M_behind; rw [hn]; rfl
    rw [← h2]; exact ok_t_M_behind_7
  | n + 8, hn =>
    rw [pe_at_eq] at hn
    exact absurd (List.getElem?_eq_some_iff.mp hn).1 (by show ¬ n + 8 < 8; omega)
theorem ok_t_M_behind : pe_okM (pe_GA []) pe_cl pe_ckA t_M_behind = true := pe_okM_mk (pe_w_of (by rfl) (by rfl)) (by decide +kernel) ok_t_M_behind_a
def td_t_M_first (k : Nat) : Nat × List pe_I := (pe_at t_M_first.bl k).getD (0, [])
set_option maxRecDepth 40000 in
theorem ok_t_M_first_0 : pe_ckB (pe_GA []) pe_cl pe_ckA t_M_first (td_t_M_first 0).1 (td_t_M_first 0).2 = true := by decide +kernel
set_option maxRecDepth 40000 in
theorem ok_t_M_first_1 : pe_ckB (pe_GA []) pe_cl pe_ckA t_M_first (td_t_M_first 1).1 (td_t_M_first 1).2 = true := by decide +kernel
set_option maxRecDepth 40000 in
theorem ok_t_M_first_2 : pe_ckB (pe_GA []) pe_cl pe_ckA t_M_first (td_t_M_first 2).1 (td_t_M_first 2).2 = true := by decide +kernel
set_option maxRecDepth 40000 in
theorem ok_t_M_first_3 : pe_ckB (pe_GA []) pe_cl pe_ckA t_M_first (td_t_M_first 3).1 (td_t_M_first 3).2 = true := by decide +kernel
set_option maxRecDepth 40000 in
theorem ok_t_M_first_4 : pe_ckB (pe_GA []) pe_cl pe_ckA t_M_first (td_t_M_first 4).1 (td_t_M_first 4).2 = true := by decide +kernel
set_option maxRecDepth 40000 in
theorem ok_t_M_first_5 : pe_ckB (pe_GA []) pe_cl pe_ckA t_M_first (td_t_M_first 5).1 (td_t_M_first 5).2 = true := by decide +kernel
set_option maxRecDepth 40000 in
theorem ok_t_M_first_6 : pe_ckB (pe_GA []) pe_cl pe_ckA t_M_first (td_t_M_first 6).1 (td_t_M_first 6).2 = true := by decide +kernel
set_option maxRecDepth 40000 in
theorem ok_t_M_first_7 : pe_ckB (pe_GA []) pe_cl pe_ckA t_M_first (td_t_M_first 7).1 (td_t_M_first 7).2 = true := by decide +kernel
set_option maxRecDepth 40000 in
theorem ok_t_M_first_8 : pe_ckB (pe_GA []) pe_cl pe_ckA t_M_first (td_t_M_first 8).1 (td_t_M_first 8).2 = true := by decide +kernel
set_option maxRecDepth 40000 in
theorem ok_t_M_first_9 : pe_ckB (pe_GA []) pe_cl pe_ckA t_M_first (td_t_M_first 9).1 (td_t_M_first 9).2 = true := by decide +kernel
set_option maxRecDepth 40000 in
theorem ok_t_M_first_10 : pe_ckB (pe_GA []) pe_cl pe_ckA t_M_first (td_t_M_first 10).1 (td_t_M_first 10).2 = true := by decide +kernel
set_option maxRecDepth 40000 in
theorem ok_t_M_first_11 : pe_ckB (pe_GA []) pe_cl pe_ckA t_M_first (td_t_M_first 11).1 (td_t_M_first 11).2 = true := by decide +kernel
set_option maxRecDepth 40000 in
theorem ok_t_M_first_12 : pe_ckB (pe_GA []) pe_cl pe_ckA t_M_first (td_t_M_first 12).1 (td_t_M_first 12).2 = true := by decide +kernel
set_option maxRecDepth 40000 in
theorem ok_t_M_first_13 : pe_ckB (pe_GA []) pe_cl pe_ckA t_M_first (td_t_M_first 13).1 (td_t_M_first 13).2 = true := by decide +kernel
theorem ok_t_M_first_a : ∀ b ∈ t_M_first.bl, pe_ckB (pe_GA []) pe_cl pe_ckA t_M_first b.1 b.2 = true := by
  intro b hb
  obtain ⟨n, hn⟩ := List.getElem?_of_mem hb
  rw [← pe_at_eq] at hn
  match n, hn with
  | 0, hn =>
    have h2 : td_t_M_first 0 = b := by unfold td_t_M_first; rw [hn]; rfl
    rw [← h2]; exact ok_t_M_first_0
  | 1, hn =>
    have h2 : td_t_M_first 1 = b := by unfold td_t_M_first; rw [hn]; rfl
    rw [← h2]; exact ok_t_M_first_1
  | 2, hn =>
    have h2 : td_t_M_first 2 = b := by unfold td_t_M_first; rw [hn]; rfl
    rw [← h2]; exact ok_t_M_first_2
  | 3, hn =>
    have h2 : td_t_M_first 3 = b := by unfold td_t_M_first; rw [hn]; rfl
    rw [← h2]; exact ok_t_M_first_3
  | 4, hn =>
    have h2 : td_t_M_first 4 = b := by unfold td_t_M_first; rw [hn]; rfl
    rw [← h2]; exact ok_t_M_first_4
  | 5, hn =>
    have h2 : td_t_M_first 5 = b := by unfold td_t_M_first; rw [hn]; rfl
    rw [← h2]; exact ok_t_M_first_5
  | 6, hn =>
    have h2 : td_t_M_first 6 = b := by unfold td_t_M_first; rw [hn]; rfl
    rw [← h2]; exact ok_t_M_first_6
  | 7, hn =>
    have h2 : td_t_M_first 7 = b := by unfold td_t_M_first; rw [hn]; rfl
    rw [← h2]; exact ok_t_M_first_7
  | 8, hn =>
    have h2 : td_t_M_first 8 = b := by unfold td_t_M_first; rw [hn]; rfl
    rw [← h2]; exact ok_t_M_first_8
  | 9, hn =>
    have h2 : td_t_M_first 9 = b := by unfold td_t_M_first; rw [hn]; rfl
    rw [← h2]; exact ok_t_M_first_9
  | 10, hn =>
    have h2 : td_t_M_first 10 = b := by unfold td_t_M_first; rw [hn]; rfl
    rw [← h2]; exact ok_t_M_first_10
  | 11, hn =>
    have h2 : td_t_M_first 11 = b := by unfold td_t_M_first; rw [hn]; rfl
    rw [← h2]; exact ok_t_M_first_11
  | 12, hn =>
    have h2 : td_t_M_first 12 = b := by unfold td_t_M_first; rw [hn]; rfl
    rw [← h2]; exact ok_t_M_first_12
  | 13, hn =>
    have h2 : td_t_M_first 13 = b := by unfold td_t_M_first; rw [hn]; rfl
    rw [← h2]; exact ok_t_M_first_13
  | n + 14, hn =>
    rw [pe_at_eq] at hn
    exact absurd (List.getElem?_eq_some_iff.mp hn).1 (by show ¬ n + 14 < 14; omega)
theorem ok_t_M_first : pe_okM (pe_GA []) pe_cl pe_ckA t_M_first = true := pe_okM_mk (pe_w_of (by rfl) (by rfl)) (by decide +kernel) ok_t_M_first_a
def td_t_M_values (k : Nat) : Nat × List pe_I := (pe_at t_M_values.bl k).getD (0, [])
set_option maxRecDepth 40000 in
theorem ok_t_M_values_0 : pe_ckB (pe_GA []) pe_cl pe_ckA t_M_values (td_t_M_values 0).1 (td_t_M_values 0).2 = true := by decide +kernel
set_option maxRecDepth 40000 in
theorem ok_t_M_values_1 : pe_ckB (pe_GA []) pe_cl pe_ckA t_M_values (td_t_M_values 1).1 (td_t_M_values 1).2 = true := by decide +kernel
set_option maxRecDepth 40000 in
theorem ok_t_M_values_2 : pe_ckB (pe_GA []) pe_cl pe_ckA t_M_values (td_t_M_values 2).1 (td_t_M_values 2).2 = true := by decide +kernel
set_option maxRecDepth 40000 in
theorem ok_t_M_values_3 : pe_ckB (pe_GA []) pe_cl pe_ckA t_M_values (td_t_M_values 3).1 (td_t_M_values 3).2 = true := by decide +kernel
set_option maxRecDepth 40000 in
theorem ok_t_M_values_4 : pe_ckB (pe_GA []) pe_cl pe_ckA t_M_values (td_t_M_values 4).1 (td_t_M_values 4).2 = true := by decide +kernel
set_option maxRecDepth 40000 in
theorem ok_t_M_values_5 : pe_ckB (pe_GA []) pe_cl pe_ckA t_M_values (td_t_M_values 5).1 (td_t_M_values 5).2 = true := by decide +kernel
set_option maxRecDepth 40000 in
theorem ok_t_M_values_6 : pe_ckB (pe_GA []) pe_cl pe_ckA t_M_values (td_t_M_values 6).1 (td_t_M_values 6).2 = true := by decide +kernel
set_option maxRecDepth 40000 in
theorem ok_t_M_values_7 : pe_ckB (pe_GA []) pe_cl pe_ckA t_M_values (td_t_M_values 7).1 (td_t_M_values 7).2 = true := by decide +kernel
set_option maxRecDepth 40000 in
theorem ok_t_M_values_8 : pe_ckB (pe_GA []) pe_cl pe_ckA t_M_values (td_t_M_values 8).1 (td_t_M_values 8).2 = true := by decide +kernel
set_option maxRecDepth 40000 in
theorem ok_t_M_values_9 : pe_ckB (pe_GA []) pe_cl pe_ckA t_M_values (td_t_M_values 9).1 (td_t_M_values 9).2 = true := by decide +kernel
set_option maxRecDepth 40000 in
theorem ok_t_M_values_10 : pe_ckB (pe_GA []) pe_cl pe_ckA t_M_values (td_t_M_values 10).1 (td_t_M_values 10).2 = true := by decide +kernel
theorem ok_t_M_values_a : ∀ b ∈ t_M_values.bl, pe_ckB (pe_GA []) pe_cl pe_ckA t_M_values b.1 b.2 = true := by
  intro b hb
  obtain ⟨n, hn⟩ := List.getElem?_of_mem hb
  rw [← pe_at_eq] at hn
  match n, hn with
  | 0, hn =>
    have h2 : td_t_M_values 0 = b := by unfold td_t_M_values; rw [hn]; rfl
    rw [← h2]; exact ok_t_M_values_0
  | 1, hn =>
    have h2 : td_t_M_values 1 = b := by unfold td_t_M_values; rw [hn]; rfl
    rw [← h2]; exact ok_t_M_values_1
  | 2, hn =>
    have h2 : td_t_M_values 2 = b := by unfold td_t_M_values; rw [hn]; rfl
    rw [← h2]; exact ok_t_M_values_2
  | 3, hn =>
    have h2 : td_t_M_values 3 = b := by unfold td_t_M_values; rw [hn]; rfl
    rw [← h2]; exact ok_t_M_values_3
  | 4, hn =>
    have h2 : td_t_M_values 4 = b := by unfold td_t_M_values; rw [hn]; rfl
    rw [← h2]; exact ok_t_M_values_4
  | 5, hn =>
    have h2 : td_t_M_values 5 = b := by unfold td_t_M_values; rw [hn]; rfl
    rw [← h2]; exact ok_t_M_values_5
  | 6, hn =>
    have h2 : td_t_M_values 6 = b := by unfold td_t_M_values; rw [hn]; rfl
    rw [← h2]; exact ok_t_M_values_6
  | 7, hn =>
    have h2 : td_t_M_values 7 = b := by unfold td_t_M_values; rw [hn]; rfl
    rw [← h2]; exact ok_t_M_values_7
  | 8, hn =>
    have h2 : td_t_M_values 8 = b := by unfold td_t_M_values; rw [hn]; rfl
    rw [← h2]; exact ok_t_M_values_8
  | 9, hn =>
    have h2 : td_t_M_values 9 = b := by unfold td_t_M_values; rw [hn]; rfl
    rw [← h2]; exact ok_t_M_values_9
  | 10, hn =>
    have h2 : td_t_M_values 10 = b := by unfold td_t_M_values; rw [hn]; rfl
    rw [← h2]; exact ok_t_M_values_10
  | n + 11, hn =>
    rw [pe_at_eq] at hn
    exact absurd (List.getElem?_eq_some_iff.mp hn).1 (by show ¬ n + 11 < 11; omega)
theorem ok_t_M_values : pe_okM (pe_GA []) pe_cl pe_ckA t_M_values = true := pe_okM_mk (pe_w_of (by rfl) (by rfl)) (by decide +kernel) ok_t_M_values_a
set_option maxRecDepth 40000 in
theorem ok_t_M_element : pe_okM (pe_GA []) pe_cl pe_ckA t_M_element = true := by decide +kernel
def td_t_M_takesText (k : Nat) : Nat × List pe_I := (pe_at t_M_takesText.bl k).getD (0, [])
set_option maxRecDepth 40000 in
theorem ok_t_M_takesText_0 : pe_ckB (pe_GA []) pe_cl pe_ckA t_M_takesText (td_t_M_takesText 0).1 (td_t_M_takesText 0).2 = true := by decide +kernel
set_option maxRecDepth 40000 in
theorem ok_t_M_takesText_1 : pe_ckB (pe_GA []) pe_cl pe_ckA t_M_takesText (td_t_M_takesText 1).1 (td_t_M_takesText 1).2 = true := by decide +kernel
set_option maxRecDepth 40000 in
theorem ok_t_M_takesText_2 : pe_ckB (pe_GA []) pe_cl pe_ckA t_M_takesText (td_t_M_takesText 2).1 (td_t_M_takesText 2).2 = true := by decide +kernel
set_option maxRecDepth 40000 in
theorem ok_t_M_takesText_3 : pe_ckB (pe_GA []) pe_cl pe_ckA t_M_takesText (td_t_M_takesText 3).1 (td_t_M_takesText 3).2 = true := by decide +kernel
set_option maxRecDepth 40000 in
theorem ok_t_M_takesText_4 : pe_ckB (pe_GA []) pe_cl pe_ckA t_M_takesText (td_t_M_takesText 4).1 (td_t_M_takesText 4).2 = true := by decide +kernel
set_option maxRecDepth 40000 in
theorem ok_t_M_takesText_5 : pe_ckB (pe_GA []) pe_cl pe_ckA t_M_takesText (td_t_M_takesText 5).1 (td_t_M_takesText 5).2 = true := by decide +kernel
set_option maxRecDepth 40000 in
theorem ok_t_M_takesText_6 : pe_ckB (pe_GA []) pe_cl pe_ckA t_M_takesText (td_t_M_takesText 6).1 (td_t_M_takesText 6).2 = true := by decide +kernel
set_option maxRecDepth 40000 in
theorem ok_t_M_takesText_7 : pe_ckB (pe_GA []) pe_cl pe_ckA t_M_takesText (td_t_M_takesText 7).1 (td_t_M_takesText 7).2 = true := by decide +kernel
set_option maxRecDepth 40000 in
theorem ok_t_M_takesText_8 : pe_ckB (pe_GA []) pe_cl pe_ckA t_M_takesText (td_t_M_takesText 8).1 (td_t_M_takesText 8).2 = true := by decide +kernel
set_option maxRecDepth 40000 in
theorem ok_t_M_takesText_9 : pe_ckB (pe_GA []) pe_cl pe_ckA t_M_takesText (td_t_M_takesText 9).1 (td_t_M_takesText 9).2 = true := by decide +kernel
set_option maxRecDepth 40000 in
theorem ok_t_M_takesText_10 : pe_ckB (pe_GA []) pe_cl pe_ckA t_M_takesText (td_t_M_takesText 10).1 (td_t_M_takesText 10).2 = true := by decide +kernel
set_option maxRecDepth 40000 in
theorem ok_t_M_takesText_11 : pe_ckB (pe_GA []) pe_cl pe_ckA t_M_takesText (td_t_M_takesText 11).1 (td_t_M_takesText 11).2 = true := by decide +kernel
set_option maxRecDepth 40000 in
theorem ok_t_M_takesText_12 : pe_ckB (pe_GA []) pe_cl pe_ckA t_M_takesText (td_t_M_takesText 12).1 (td_t_M_takesText 12).2 = true := by decide +kernel
set_option maxRecDepth 40000 in
theorem ok_t_M_takesText_13 : pe_ckB (pe_GA []) pe_cl pe_ckA t_M_takesText (td_t_M_takesText 13).1 (td_t_M_takesText 13).2 = true := by decide +kernel
theorem ok_t_M_takesText_a : ∀ b ∈ t_M_takesText.bl, pe_ckB (pe_GA []) pe_cl pe_ckA t_M_takesText b.1 b.2 = true := by
  intro b hb
  obtain ⟨n, hn⟩ := List.getElem?_of_mem hb
  rw [← pe_at_eq] at hn
  match n, hn with
  | 0, hn =>
    have h2 : td_t_M_takesText 0 = b := by unfold td_t_M_takesText; rw [hn]; rfl
    rw [← h2]; exact ok_t_M_takesText_0
  | 1, hn =>
    have h2 : td_t_M_takesText 1 = b := by unfold td_t_M_takesText; rw [hn]; rfl
    rw [← h2]; exact ok_t_M_takesText_1
  | 2, hn =>
    have h2 : td_t_M_takesText 2 = b := by unfold td_t_M_takesText; rw [hn]; rfl
    rw [← h2]; exact ok_t_M_takesText_2
  | 3, hn =>
    have h2 : td_t_M_takesText 3 = b := by unfold td_t_M_takesText; rw [hn]; rfl
    rw [← h2]; exact ok_t_M_takesText_3
  | 4, hn =>
    have h2 : td_t_M_takesText 4 = b := by unfold td_t_M_takesText; rw [hn]; rfl
    rw [← h2]; exact ok_t_M_takesText_4
  | 5, hn =>
    have h2 : td_t_M_takesText 5 = b := by unfold td_t_M_takesText; rw [hn]; rfl
    rw [← h2]; exact ok_t_M_takesText_5
  | 6, hn =>
    have h2 : td_t_M_takesText 6 = b := by unfold td_t_M_takesText; rw [hn]; rfl
    rw [← h2]; exact ok_t_M_takesText_6
  | 7, hn =>
    have h2 : td_t_M_takesText 7 = b := by unfold td_t_M_takesText; rw [hn]; rfl
    rw [← h2]; exact ok_t_M_takesText_7
  | 8, hn =>
    have h2 : td_t_M_takesText 8 = b := by unfold td_t_M_takesText; rw [hn]; rfl
    rw [← h2]; exact ok_t_M_takesText_8
  | 9, hn =>
    have h2 : td_t_M_takesText 9 = b := by unfold td_t_M_takesText; rw [hn]; rfl
    rw [← h2]; exact ok_t_M_takesText_9
  | 10, hn =>
    have h2 : td_t_M_takesText 10 = b := by unfold td_t_M_takesText; rw [hn]; rfl
    rw [← h2]; exact ok_t_M_takesText_10
  | 11, hn =>
    have h2 : td_t_M_takesText 11 = b := by unfold td_t_M_takesText; rw [hn]; rfl
    rw [← h2]; exact ok_t_M_takesText_11
  | 12, hn =>
    have h2 : td_t_M_takesText 12 = b := by unfold td_t_M_takesText; rw [hn]; rfl
    rw [← h2]; exact ok_t_M_takesText_12
  | 13, hn =>
    have h2 : td_t_M_takesText 13 = b := by unfold td_t_M_takesText; rw [hn]; rfl
    rw [← h2]; exact ok_t_M_takesText_13
  | n + 14, hn =>
    rw [pe_at_eq] at hn
    exact absurd (List.getElem?_eq_some_iff.mp hn).1 (by show ¬ n + 14 < 14; omega)
theorem ok_t_M_takesText : pe_okM (pe_GA []) pe_cl pe_ckA t_M_takesText = true := pe_okM_mk (pe_w_of (by rfl) (by rfl)) (by decide +kernel) ok_t_M_takesText_a
def td_t_M_object (k : Nat) : Nat × List pe_I := (pe_at t_M_object.bl k).getD (0, [])
set_option maxRecDepth 40000 in
theorem ok_t_M_object_0 : pe_ckB (pe_GA []) pe_cl pe_ckA t_M_object (td_t_M_object 0).1 (td_t_M_object 0).2 = true := by decide +kernel
set_option maxRecDepth 40000 in
theorem ok_t_M_object_1 : pe_ckB (pe_GA []) pe_cl pe_ckA t_M_object (td_t_M_object 1).1 (td_t_M_object 1).2 = true := by decide +kernel
set_option maxRecDepth 40000 in
theorem ok_t_M_object_2 : pe_ckB (pe_GA []) pe_cl pe_ckA t_M_object (td_t_M_object 2).1 (td_t_M_object 2).2 = true := by decide +kernel
set_option maxRecDepth 40000 in
theorem ok_t_M_object_3 : pe_ckB (pe_GA []) pe_cl pe_ckA t_M_object (td_t_M_object 3).1 (td_t_M_object 3).2 = true := by decide +kernel
set_option maxRecDepth 40000 in
theorem ok_t_M_object_4 : pe_ckB (pe_GA []) pe_cl pe_ckA t_M_object (td_t_M_object 4).1 (td_t_M_object 4).2 = true := by decide +kernel
theorem ok_t_M_object_a : ∀ b ∈ t_M_object.bl, pe_ckB (pe_GA []) pe_cl pe_ckA t_M_object b.1 b.2 = true := by
  intro b hb
  obtain ⟨n, hn⟩ := List.getElem?_of_mem hb
  rw [← pe_at_eq] at hn
  match n, hn with
  | 0, hn =>
    have h2 : td_t_M_object 0 = b := by unfold td_t_M_object; rw [hn]; rfl
    rw [← h2]; exact ok_t_M_object_0
  | 1, hn =>
    have h2 : td_t_M_object 1 = b := by unfold td_t_M_object; rw [hn]; rfl
    rw [← h2]; exact ok_t_M_object_1
  | 2, hn =>
    have h2 : td_t_M_object 2 = b := by unfold td_t_M_object; rw [hn]; rfl
    rw [← h2]; exact ok_t_M_object_2
  | 3, hn =>
    have h2 : td_t_M_object 3 = b := by unfold td_t_M_object; rw [hn]; rfl
    rw [← h2]; exact ok_t_M_object_3
  | 4, hn =>
    have h2 : td_t_M_object 4 = b := by unfold td_t_M_object; rw [hn]; rfl
    rw [← h2]; exact ok_t_M_object_4
  | n + 5, hn =>
    rw [pe_at_eq] at hn
    exact absurd (List.getElem?_eq_some_iff.mp hn).1 (by show ¬ n + 5 < 5; omega)
theorem ok_t_M_object : pe_okM (pe_GA []) pe_cl pe_ckA t_M_object = true := pe_okM_mk (pe_w_of (by rfl) (by rfl)) (by decide +kernel) ok_t_M_object_a
def td_t_M_word (k : Nat) : Nat × List pe_I := (pe_at t_M_word.bl k).getD (0, [])
set_option maxRecDepth 40000 in
theorem ok_t_M_word_0 : pe_ckB (pe_GA []) pe_cl pe_ckA t_M_word (td_t_M_word 0).1 (td_t_M_word 0).2 = true := by decide +kernel
set_option maxRecDepth 40000 in
theorem ok_t_M_word_1 : pe_ckB (pe_GA []) pe_cl pe_ckA t_M_word (td_t_M_word 1).1 (td_t_M_word 1).2 = true := by decide +kernel
set_option maxRecDepth 40000 in
theorem ok_t_M_word_2 : pe_ckB (pe_GA []) pe_cl pe_ckA t_M_word (td_t_M_word 2).1 (td_t_M_word 2).2 = true := by decide +kernel
set_option maxRecDepth 40000 in
theorem ok_t_M_word_3 : pe_ckB (pe_GA []) pe_cl pe_ckA t_M_word (td_t_M_word 3).1 (td_t_M_word 3).2 = true := by decide +kernel
set_option maxRecDepth 40000 in
theorem ok_t_M_word_4 : pe_ckB (pe_GA []) pe_cl pe_ckA t_M_word (td_t_M_word 4).1 (td_t_M_word 4).2 = true := by decide +kernel
set_option maxRecDepth 40000 in
theorem ok_t_M_word_5 : pe_ckB (pe_GA []) pe_cl pe_ckA t_M_word (td_t_M_word 5).1 (td_t_M_word 5).2 = true := by decide +kernel
set_option maxRecDepth 40000 in
theorem ok_t_M_word_6 : pe_ckB (pe_GA []) pe_cl pe_ckA t_M_word (td_t_M_word 6).1 (td_t_M_word 6).2 = true := by decide +kernel
set_option maxRecDepth 40000 in
theorem ok_t_M_word_7 : pe_ckB (pe_GA []) pe_cl pe_ckA t_M_word (td_t_M_word 7).1 (td_t_M_word 7).2 = true := by decide +kernel
set_option maxRecDepth 40000 in
theorem ok_t_M_word_8 : pe_ckB (pe_GA []) pe_cl pe_ckA t_M_word (td_t_M_word 8).1 (td_t_M_word 8).2 = true := by decide +kernel
set_option maxRecDepth 40000 in
theorem ok_t_M_word_9 : pe_ckB (pe_GA []) pe_cl pe_ckA t_M_word (td_t_M_word 9).1 (td_t_M_word 9).2 = true := by decide +kernel
set_option maxRecDepth 40000 in
theorem ok_t_M_word_10 : pe_ckB (pe_GA []) pe_cl pe_ckA t_M_word (td_t_M_word 10).1 (td_t_M_word 10).2 = true := by decide +kernel
set_option maxRecDepth 40000 in
theorem ok_t_M_word_11 : pe_ckB (pe_GA []) pe_cl pe_ckA t_M_word (td_t_M_word 11).1 (td_t_M_word 11).2 = true := by decide +kernel
set_option maxRecDepth 40000 in
theorem ok_t_M_word_12 : pe_ckB (pe_GA []) pe_cl pe_ckA t_M_word (td_t_M_word 12).1 (td_t_M_word 12).2 = true := by decide +kernel
set_option maxRecDepth 40000 in
theorem ok_t_M_word_13 : pe_ckB (pe_GA []) pe_cl pe_ckA t_M_word (td_t_M_word 13).1 (td_t_M_word 13).2 = true := by decide +kernel
theorem ok_t_M_word_a : ∀ b ∈ t_M_word.bl, pe_ckB (pe_GA []) pe_cl pe_ckA t_M_word b.1 b.2 = true := by
  intro b hb
  obtain ⟨n, hn⟩ := List.getElem?_of_mem hb
  rw [← pe_at_eq] at hn
  match n, hn with
  | 0, hn =>
    have h2 : td_t_M_word 0 = b := by unfold td_t_M_word; rw [hn]; rfl
    rw [← h2]; exact ok_t_M_word_0
  | 1, hn =>
    have h2 : td_t_M_word 1 = b := by unfold td_t_M_word; rw [hn]; rfl
    rw [← h2]; exact ok_t_M_word_1
  | 2, hn =>
    have h2 : td_t_M_word 2 = b := by unfold td_t_M_word; rw [hn]; rfl
    rw [← h2]; exact ok_t_M_word_2
  | 3, hn =>
    have h2 : td_t_M_word 3 = b := by unfold td_t_M_word; rw [hn]; rfl
    rw [← h2]; exact ok_t_M_word_3
  | 4, hn =>
    have h2 : td_t_M_word 4 = b := by unfold td_t_M_word; rw [hn]; rfl
    rw [← h2]; exact ok_t_M_word_4
  | 5, hn =>
    have h2 : td_t_M_word 5 = b := by unfold td_t_M_word; rw [hn]; rfl
    rw [← h2]; exact ok_t_M_word_5
  | 6, hn =>
    have h2 : td_t_M_word 6 = b := by unfold td_t_M_word; rw [hn]; rfl
    rw [← h2]; exact ok_t_M_word_6
  | 7, hn =>
    have h2 : td_t_M_word 7 = b := by unfold td_t_M_word; rw [hn]; rfl
    rw [← h2]; exact ok_t_M_word_7
  | 8, hn =>
    have h2 : td_t_M_word 8 = b := by unfold td_t_M_word; rw [hn]; rfl
    rw [← h2]; exact ok_t_M_word_8
  | 9, hn =>
    have h2 : td_t_M_word 9 = b := by unfold td_t_M_word; rw [hn]; rfl
    rw [← h2]; exact ok_t_M_word_9
  | 10, hn =>
    have h2 : td_t_M_word 10 = b := by unfold td_t_M_word; rw [hn]; rfl
    rw [← h2]; exact ok_t_M_word_10
  | 11, hn =>
    have h2 : td_t_M_word 11 = b := by unfold td_t_M_word; rw [hn]; rfl
    rw [← h2]; exact ok_t_M_word_11
  | 12, hn =>
    have h2 : td_t_M_word 12 = b := by unfold td_t_M_word; rw [hn]; rfl
    rw [← h2]; exact ok_t_M_word_12
  | 13, hn =>
    have h2 : td_t_M_word 13 = b := by unfold td_t_M_word; rw [hn]; rfl
    rw [← h2]; exact ok_t_M_word_13
  | n + 14, hn =>
    rw [pe_at_eq] at hn
    exact absurd (List.getElem?_eq_some_iff.mp hn).1 (by show ¬ n + 14 < 14; omega)
theorem ok_t_M_word : pe_okM (pe_GA []) pe_cl pe_ckA t_M_word = true := pe_okM_mk (pe_w_of (by rfl) (by rfl)) (by decide +kernel) ok_t_M_word_a
set_option maxRecDepth 40000 in
theorem ok_t_M_maker : pe_okM (pe_GA []) pe_cl pe_ckA t_M_maker = true := by decide +kernel
def td_t_M_builtin (k : Nat) : Nat × List pe_I := (pe_at t_M_builtin.bl k).getD (0, [])
set_option maxRecDepth 40000 in
theorem ok_t_M_builtin_0 : pe_ckB (pe_GA []) pe_cl pe_ckA t_M_builtin (td_t_M_builtin 0).1 (td_t_M_builtin 0).2 = true := by decide +kernel
set_option maxRecDepth 40000 in
theorem ok_t_M_builtin_1 : pe_ckB (pe_GA []) pe_cl pe_ckA t_M_builtin (td_t_M_builtin 1).1 (td_t_M_builtin 1).2 = true := by decide +kernel
set_option maxRecDepth 40000 in
theorem ok_t_M_builtin_2 : pe_ckB (pe_GA []) pe_cl pe_ckA t_M_builtin (td_t_M_builtin 2).1 (td_t_M_builtin 2).2 = true := by decide +kernel
set_option maxRecDepth 40000 in
theorem ok_t_M_builtin_3 : pe_ckB (pe_GA []) pe_cl pe_ckA t_M_builtin (td_t_M_builtin 3).1 (td_t_M_builtin 3).2 = true := by decide +kernel
set_option maxRecDepth 40000 in
theorem ok_t_M_builtin_4 : pe_ckB (pe_GA []) pe_cl pe_ckA t_M_builtin (td_t_M_builtin 4).1 (td_t_M_builtin 4).2 = true := by decide +kernel
set_option maxRecDepth 40000 in
theorem ok_t_M_builtin_5 : pe_ckB (pe_GA []) pe_cl pe_ckA t_M_builtin (td_t_M_builtin 5).1 (td_t_M_builtin 5).2 = true := by decide +kernel
set_option maxRecDepth 40000 in
theorem ok_t_M_builtin_6 : pe_ckB (pe_GA []) pe_cl pe_ckA t_M_builtin (td_t_M_builtin 6).1 (td_t_M_builtin 6).2 = true := by decide +kernel
set_option maxRecDepth 40000 in
theorem ok_t_M_builtin_7 : pe_ckB (pe_GA []) pe_cl pe_ckA t_M_builtin (td_t_M_builtin 7).1 (td_t_M_builtin 7).2 = true := by decide +kernel
set_option maxRecDepth 40000 in
theorem ok_t_M_builtin_8 : pe_ckB (pe_GA []) pe_cl pe_ckA t_M_builtin (td_t_M_builtin 8).1 (td_t_M_builtin 8).2 = true := by decide +kernel
set_option maxRecDepth 40000 in
theorem ok_t_M_builtin_9 : pe_ckB (pe_GA []) pe_cl pe_ckA t_M_builtin (td_t_M_builtin 9).1 (td_t_M_builtin 9).2 = true := by decide +kernel
set_option maxRecDepth 40000 in
theorem ok_t_M_builtin_10 : pe_ckB (pe_GA []) pe_cl pe_ckA t_M_builtin (td_t_M_builtin 10).1 (td_t_M_builtin 10).2 = true := by decide +kernel
theorem ok_t_M_builtin_a : ∀ b ∈ t_M_builtin.bl, pe_ckB (pe_GA []) pe_cl pe_ckA t_M_builtin b.1 b.2 = true := by
  intro b hb
  obtain ⟨n, hn⟩ := List.getElem?_of_mem hb
  rw [← pe_at_eq] at hn
  match n, hn with
  | 0, hn =>
    have h2 : td_t_M_builtin 0 = b := by unfold td_t_M_builtin; rw [hn]; rfl
    rw [← h2]; exact ok_t_M_builtin_0
  | 1, hn =>
    have h2 : td_t_M_builtin 1 = b := by unfold td_t_M_builtin; rw [hn]; rfl
    rw [← h2]; exact ok_t_M_builtin_1
  | 2, hn =>
    have h2 : td_t_M_builtin 2 = b := by unfold td_t_M_builtin; rw [hn]; rfl
    rw [← h2]; exact ok_t_M_builtin_2
  | 3, hn =>
    have h2 : td_t_M_builtin 3 = b := by unfold td_t_M_builtin; rw [hn]; rfl
    rw [← h2]; exact ok_t_M_builtin_3
  | 4, hn =>
    have h2 : td_t_M_builtin 4 = b := by unfold td_t_M_builtin; rw [hn]; rfl
    rw [← h2]; exact ok_t_M_builtin_4
  | 5, hn =>
    have h2 : td_t_M_builtin 5 = b := by unfold td_t_M_builtin; rw [hn]; rfl
    rw [← h2]; exact ok_t_M_builtin_5
  | 6, hn =>
    have h2 : td_t_M_builtin 6 = b := by unfold td_t_M_builtin; rw [hn]; rfl
    rw [← h2]; exact ok_t_M_builtin_6
  | 7, hn =>
    have h2 : td_t_M_builtin 7 = b := by unfold td_t_M_builtin; rw [hn]; rfl
    rw [← h2]; exact ok_t_M_builtin_7
  | 8, hn =>
    have h2 : td_t_M_builtin 8 = b := by unfold td_t_M_builtin; rw [hn]; rfl
    rw [← h2]; exact ok_t_M_builtin_8
  | 9, hn =>
    have h2 : td_t_M_builtin 9 = b := by unfold td_t_M_builtin; rw [hn]; rfl
    rw [← h2]; exact ok_t_M_builtin_9
  | 10, hn =>
    have h2 : td_t_M_builtin 10 = b := by unfold td_t_M_builtin; rw [hn]; rfl
    rw [← h2]; exact ok_t_M_builtin_10
  | n + 11, hn =>
    rw [pe_at_eq] at hn
    exact absurd (List.getElem?_eq_some_iff.mp hn).1 (by show ¬ n + 11 < 11; omega)
theorem ok_t_M_builtin : pe_okM (pe_GA []) pe_cl pe_ckA t_M_builtin = true := pe_okM_mk (pe_w_of (by rfl) (by rfl)) (by decide +kernel) ok_t_M_builtin_a
def td_t_LL_law (k : Nat) : Nat × List pe_I := (pe_at t_LL_law.bl k).getD (0, [])
set_option maxRecDepth 40000 in
theorem ok_t_LL_law_0 : pe_ckB (pe_GA []) pe_cl pe_ckA t_LL_law (td_t_LL_law 0).1 (td_t_LL_law 0).2 = true := by decide +kernel
set_option maxRecDepth 40000 in
theorem ok_t_LL_law_1 : pe_ckB (pe_GA []) pe_cl pe_ckA t_LL_law (td_t_LL_law 1).1 (td_t_LL_law 1).2 = true := by decide +kernel
set_option maxRecDepth 40000 in
theorem ok_t_LL_law_2 : pe_ckB (pe_GA []) pe_cl pe_ckA t_LL_law (td_t_LL_law 2).1 (td_t_LL_law 2).2 = true := by decide +kernel
set_option maxRecDepth 40000 in
theorem ok_t_LL_law_3 : pe_ckB (pe_GA []) pe_cl pe_ckA t_LL_law (td_t_LL_law 3).1 (td_t_LL_law 3).2 = true := by decide +kernel
set_option maxRecDepth 40000 in
theorem ok_t_LL_law_4 : pe_ckB (pe_GA []) pe_cl pe_ckA t_LL_law (td_t_LL_law 4).1 (td_t_LL_law 4).2 = true := by decide +kernel
set_option maxRecDepth 40000 in
theorem ok_t_LL_law_5 : pe_ckB (pe_GA []) pe_cl pe_ckA t_LL_law (td_t_LL_law 5).1 (td_t_LL_law 5).2 = true := by decide +kernel
set_option maxRecDepth 40000 in
theorem ok_t_LL_law_6 : pe_ckB (pe_GA []) pe_cl pe_ckA t_LL_law (td_t_LL_law 6).1 (td_t_LL_law 6).2 = true := by decide +kernel
set_option maxRecDepth 40000 in
theorem ok_t_LL_law_7 : pe_ckB (pe_GA []) pe_cl pe_ckA t_LL_law (td_t_LL_law 7).1 (td_t_LL_law 7).2 = true := by decide +kernel
set_option maxRecDepth 40000 in
theorem ok_t_LL_law_8 : pe_ckB (pe_GA []) pe_cl pe_ckA t_LL_law (td_t_LL_law 8).1 (td_t_LL_law 8).2 = true := by decide +kernel
set_option maxRecDepth 40000 in
theorem ok_t_LL_law_9 : pe_ckB (pe_GA []) pe_cl pe_ckA t_LL_law (td_t_LL_law 9).1 (td_t_LL_law 9).2 = true := by decide +kernel
set_option maxRecDepth 40000 in
theorem ok_t_LL_law_10 : pe_ckB (pe_GA []) pe_cl pe_ckA t_LL_law (td_t_LL_law 10).1 (td_t_LL_law 10).2 = true := by decide +kernel
set_option maxRecDepth 40000 in
theorem ok_t_LL_law_11 : pe_ckB (pe_GA []) pe_cl pe_ckA t_LL_law (td_t_LL_law 11).1 (td_t_LL_law 11).2 = true := by decide +kernel
set_option maxRecDepth 40000 in
theorem ok_t_LL_law_12 : pe_ckB (pe_GA []) pe_cl pe_ckA t_LL_law (td_t_LL_law 12).1 (td_t_LL_law 12).2 = true := by decide +kernel
set_option maxRecDepth 40000 in
theorem ok_t_LL_law_13 : pe_ckB (pe_GA []) pe_cl pe_ckA t_LL_law (td_t_LL_law 13).1 (td_t_LL_law 13).2 = true := by decide +kernel
set_option maxRecDepth 40000 in
theorem ok_t_LL_law_14 : pe_ckB (pe_GA []) pe_cl pe_ckA t_LL_law (td_t_LL_law 14).1 (td_t_LL_law 14).2 = true := by decide +kernel
set_option maxRecDepth 40000 in
theorem ok_t_LL_law_15 : pe_ckB (pe_GA []) pe_cl pe_ckA t_LL_law (td_t_LL_law 15).1 (td_t_LL_law 15).2 = true := by decide +kernel
set_option maxRecDepth 40000 in
theorem ok_t_LL_law_16 : pe_ckB (pe_GA []) pe_cl pe_ckA t_LL_law (td_t_LL_law 16).1 (td_t_LL_law 16).2 = true := by decide +kernel
set_option maxRecDepth 40000 in
theorem ok_t_LL_law_17 : pe_ckB (pe_GA []) pe_cl pe_ckA t_LL_law (td_t_LL_law 17).1 (td_t_LL_law 17).2 = true := by decide +kernel
set_option maxRecDepth 40000 in
theorem ok_t_LL_law_18 : pe_ckB (pe_GA []) pe_cl pe_ckA t_LL_law (td_t_LL_law 18).1 (td_t_LL_law 18).2 = true := by decide +kernel
set_option maxRecDepth 40000 in
theorem ok_t_LL_law_19 : pe_ckB (pe_GA []) pe_cl pe_ckA t_LL_law (td_t_LL_law 19).1 (td_t_LL_law 19).2 = true := by decide +kernel
set_option maxRecDepth 40000 in
theorem ok_t_LL_law_20 : pe_ckB (pe_GA []) pe_cl pe_ckA t_LL_law (td_t_LL_law 20).1 (td_t_LL_law 20).2 = true := by decide +kernel
set_option maxRecDepth 40000 in
theorem ok_t_LL_law_21 : pe_ckB (pe_GA []) pe_cl pe_ckA t_LL_law (td_t_LL_law 21).1 (td_t_LL_law 21).2 = true := by decide +kernel
set_option maxRecDepth 40000 in
theorem ok_t_LL_law_22 : pe_ckB (pe_GA []) pe_cl pe_ckA t_LL_law (td_t_LL_law 22).1 (td_t_LL_law 22).2 = true := by decide +kernel
set_option maxRecDepth 40000 in
theorem ok_t_LL_law_23 : pe_ckB (pe_GA []) pe_cl pe_ckA t_LL_law (td_t_LL_law 23).1 (td_t_LL_law 23).2 = true := by decide +kernel
set_option maxRecDepth 40000 in
theorem ok_t_LL_law_24 : pe_ckB (pe_GA []) pe_cl pe_ckA t_LL_law (td_t_LL_law 24).1 (td_t_LL_law 24).2 = true := by decide +kernel
set_option maxRecDepth 40000 in
theorem ok_t_LL_law_25 : pe_ckB (pe_GA []) pe_cl pe_ckA t_LL_law (td_t_LL_law 25).1 (td_t_LL_law 25).2 = true := by decide +kernel
set_option maxRecDepth 40000 in
theorem ok_t_LL_law_26 : pe_ckB (pe_GA []) pe_cl pe_ckA t_LL_law (td_t_LL_law 26).1 (td_t_LL_law 26).2 = true := by decide +kernel
set_option maxRecDepth 40000 in
theorem ok_t_LL_law_27 : pe_ckB (pe_GA []) pe_cl pe_ckA t_LL_law (td_t_LL_law 27).1 (td_t_LL_law 27).2 = true := by decide +kernel
set_option maxRecDepth 40000 in
theorem ok_t_LL_law_28 : pe_ckB (pe_GA []) pe_cl pe_ckA t_LL_law (td_t_LL_law 28).1 (td_t_LL_law 28).2 = true := by decide +kernel
set_option maxRecDepth 40000 in
theorem ok_t_LL_law_29 : pe_ckB (pe_GA []) pe_cl pe_ckA t_LL_law (td_t_LL_law 29).1 (td_t_LL_law 29).2 = true := by decide +kernel
set_option maxRecDepth 40000 in
theorem ok_t_LL_law_30 : pe_ckB (pe_GA []) pe_cl pe_ckA t_LL_law (td_t_LL_law 30).1 (td_t_LL_law 30).2 = true := by decide +kernel
set_option maxRecDepth 40000 in
theorem ok_t_LL_law_31 : pe_ckB (pe_GA []) pe_cl pe_ckA t_LL_law (td_t_LL_law 31).1 (td_t_LL_law 31).2 = true := by decide +kernel
set_option maxRecDepth 40000 in
theorem ok_t_LL_law_32 : pe_ckB (pe_GA []) pe_cl pe_ckA t_LL_law (td_t_LL_law 32).1 (td_t_LL_law 32).2 = true := by decide +kernel
set_option maxRecDepth 40000 in
theorem ok_t_LL_law_33 : pe_ckB (pe_GA []) pe_cl pe_ckA t_LL_law (td_t_LL_law 33).1 (td_t_LL_law 33).2 = true := by decide +kernel
set_option maxRecDepth 40000 in
theorem ok_t_LL_law_34 : pe_ckB (pe_GA []) pe_cl pe_ckA t_LL_law (td_t_LL_law 34).1 (td_t_LL_law 34).2 = true := by decide +kernel
set_option maxRecDepth 40000 in
theorem ok_t_LL_law_35 : pe_ckB (pe_GA []) pe_cl pe_ckA t_LL_law (td_t_LL_law 35).1 (td_t_LL_law 35).2 = true := by decide +kernel
set_option maxRecDepth 40000 in
theorem ok_t_LL_law_36 : pe_ckB (pe_GA []) pe_cl pe_ckA t_LL_law (td_t_LL_law 36).1 (td_t_LL_law 36).2 = true := by decide +kernel
set_option maxRecDepth 40000 in
theorem ok_t_LL_law_37 : pe_ckB (pe_GA []) pe_cl pe_ckA t_LL_law (td_t_LL_law 37).1 (td_t_LL_law 37).2 = true := by decide +kernel
theorem ok_t_LL_law_a : ∀ b ∈ t_LL_law.bl, pe_ckB (pe_GA []) pe_cl pe_ckA t_LL_law b.1 b.2 = true := by
  intro b hb
  obtain ⟨n, hn⟩ := List.getElem?_of_mem hb
  rw [← pe_at_eq] at hn
  match n, hn with
  | 0, hn =>
    have h2 : td_t_LL_law 0 = b := by unfold td_t_LL_law; rw [hn]; rfl
    rw [← h2]; exact ok_t_LL_law_0
  | 1, hn =>
    have h2 : td_t_LL_law 1 = b := by unfold td_t_LL_law; rw [hn]; rfl
    rw [← h2]; exact ok_t_LL_law_1
  | 2, hn =>
    have h2 : td_t_LL_law 2 = b := by unfold td_t_LL_law; rw [hn]; rfl
    rw [← h2]; exact ok_t_LL_law_2
  | 3, hn =>
    have h2 : td_t_LL_law 3 = b := by unfold td_t_LL_law; rw [hn]; rfl
    rw [← h2]; exact ok_t_LL_law_3
  | 4, hn =>
    have h2 : td_t_LL_law 4 = b := by unfold td_t_LL_law; rw [hn]; rfl
    rw [← h2]; exact ok_t_LL_law_4
  | 5, hn =>
    have h2 : td_t_LL_law 5 = b := by unfold td_t_LL_law; rw [hn]; rfl
    rw [← h2]; exact ok_t_LL_law_5
  | 6, hn =>
    have h2 : td_t_LL_law 6 = b := by unfold td_t_LL_law; rw [hn]; rfl
    rw [← h2]; exact ok_t_LL_law_6
  | 7, hn =>
    have h2 : td_t_LL_law 7 = b := by unfold td_t_LL_law; rw [hn]; rfl
    rw [← h2]; exact ok_t_LL_law_7
  | 8, hn =>
    have h2 : td_t_LL_law 8 = b := by unfold td_t_LL_law; rw [hn]; rfl
    rw [← h2]; exact ok_t_LL_law_8
  | 9, hn =>
    have h2 : td_t_LL_law 9 = b := by unfold td_t_LL_law; rw [hn]; rfl
    rw [← h2]; exact ok_t_LL_law_9
  | 10, hn =>
    have h2 : td_t_LL_law 10 = b := by unfold td_t_LL_law; rw [hn]; rfl
    rw [← h2]; exact ok_t_LL_law_10
  | 11, hn =>
    have h2 : td_t_LL_law 11 = b := by unfold td_t_LL_law; rw [hn]; rfl
    rw [← h2]; exact ok_t_LL_law_11
  | 12, hn =>
    have h2 : td_t_LL_law 12 = b := by unfold td_t_LL_law; rw [hn]; rfl
    rw [← h2]; exact ok_t_LL_law_12
  | 13, hn =>
    have h2 : td_t_LL_law 13 = b := by unfold td_t_LL_law; rw [hn]; rfl
    rw [← h2]; exact ok_t_LL_law_13
  | 14, hn =>
    have h2 : td_t_LL_law 14 = b := by unfold td_t_LL_law; rw [hn]; rfl
    rw [← h2]; exact ok_t_LL_law_14
  | 15, hn =>
    have h2 : td_t_LL_law 15 = b := by unfold td_t_LL_law; rw [hn]; rfl
    rw [← h2]; exact ok_t_LL_law_15
  | 16, hn =>
    have h2 : td_t_LL_law 16 = b := by unfold td_t_LL_law; rw [hn]; rfl
    rw [← h2]; exact ok_t_LL_law_16
  | 17, hn =>
    have h2 : td_t_LL_law 17 = b := by unfold td_t_LL_law; rw [hn]; rfl
    rw [← h2]; exact ok_t_LL_law_17
  | 18, hn =>
    have h2 : td_t_LL_law 18 = b := by unfold td_t_LL_law; rw [hn]; rfl
    rw [← h2]; exact ok_t_LL_law_18
  | 19, hn =>
    have h2 : td_t_LL_law 19 = b := by unfold td_t_LL_law; rw [hn]; rfl
    rw [← h2]; exact ok_t_LL_law_19
  | 20, hn =>
    have h2 : td_t_LL_law 20 = b := by unfold td_t_LL_law; rw [hn]; rfl
    rw [← h2]; exact ok_t_LL_law_20
  | 21, hn =>
    have h2 : td_t_LL_law 21 = b := by unfold td_t_LL_law; rw [hn]; rfl
    rw [← h2]; exact ok_t_LL_law_21
  | 22, hn =>
    have h2 : td_t_LL_law 22 = b := by unfold td_t_LL_law; rw [hn]; rfl
    rw [← h2]; exact ok_t_LL_law_22
  | 23, hn =>
    have h2 : td_t_LL_law 23 = b := by unfold td_t_LL_law; rw [hn]; rfl
    rw [← h2]; exact ok_t_LL_law_23
  | 24, hn =>
    have h2 : td_t_LL_law 24 = b := by unfold td_t_LL_law; rw [hn]; rfl
    rw [← h2]; exact ok_t_LL_law_24
  | 25, hn =>
    have h2 : td_t_LL_law 25 = b := by unfold td_t_LL_law; rw [hn]; rfl
    rw [← h2]; exact ok_t_LL_law_25
  | 26, hn =>
    have h2 : td_t_LL_law 26 = b := by unfold td_t_LL_law; rw [hn]; rfl
    rw [← h2]; exact ok_t_LL_law_26
  | 27, hn =>
    have h2 : td_t_LL_law 27 = b := by unfold td_t_LL_law; rw [hn]; rfl
    rw [← h2]; exact ok_t_LL_law_27
  | 28, hn =>
    have h2 : td_t_LL_law 28 = b := by unfold td_t_LL_law; rw [hn]; rfl
    rw [← h2]; exact ok_t_LL_law_28
  | 29, hn =>
    have h2 : td_t_LL_law 29 = b := by unfold td_t_LL_law; rw [hn]; rfl
    rw [← h2]; exact ok_t_LL_law_29
  | 30, hn =>
    have h2 : td_t_LL_law 30 = b := by unfold td_t_LL_law; rw [hn]; rfl
    rw [← h2]; exact ok_t_LL_law_30
  | 31, hn =>
    have h2 : td_t_LL_law 31 = b := by unfold td_t_LL_law; rw [hn]; rfl
    rw [← h2]; exact ok_t_LL_law_31
  | 32, hn =>
    have h2 : td_t_LL_law 32 = b := by unfold td_t_LL_law; rw [hn]; rfl
    rw [← h2]; exact ok_t_LL_law_32
  | 33, hn =>
    have h2 : td_t_LL_law 33 = b := by unfold td_t_LL_law; rw [hn]; rfl
    rw [← h2]; exact ok_t_LL_law_33
  | 34, hn =>
    have h2 : td_t_LL_law 34 = b := by unfold td_t_LL_law; rw [hn]; rfl
    rw [← h2]; exact ok_t_LL_law_34
  | 35, hn =>
    have h2 : td_t_LL_law 35 = b := by unfold td_t_LL_law; rw [hn]; rfl
    rw [← h2]; exact ok_t_LL_law_35
  | 36, hn =>
    have h2 : td_t_LL_law 36 = b := by unfold td_t_LL_law; rw [hn]; rfl
    rw [← h2]; exact ok_t_LL_law_36
  | 37, hn =>
    have h2 : td_t_LL_law 37 = b := by unfold td_t_LL_law; rw [hn]; rfl
    rw [← h2]; exact ok_t_LL_law_37
  | n + 38, hn =>
    rw [pe_at_eq] at hn
    exact absurd (List.getElem?_eq_some_iff.mp hn).1 (by show ¬ n + 38 < 38; omega)
theorem ok_t_LL_law (xs : List (Nat × List Int32)) : pe_okB (pe_GA xs) pe_cl pe_ckA t_LL_law = true := pe_okB_xs (xs := []) (List.all_eq_true.mpr ok_t_LL_law_a)
