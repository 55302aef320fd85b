/-! PART o6c: tables checked once. -/
def td_t_M_anew (k : Nat) : Nat × List pe_I := (pe_at t_M_anew.bl k).getD (0, [])
set_option maxRecDepth 40000 in
theorem ok_t_M_anew_0 : pe_ckB (pe_GA []) pe_cl pe_ckA t_M_anew (td_t_M_anew 0).1 (td_t_M_anew 0).2 = true := by decide +kernel
set_option maxRecDepth 40000 in
theorem ok_t_M_anew_1 : pe_ckB (pe_GA []) pe_cl pe_ckA t_M_anew (td_t_M_anew 1).1 (td_t_M_anew 1).2 = true := by decide +kernel
set_option maxRecDepth 40000 in
theorem ok_t_M_anew_2 : pe_ckB (pe_GA []) pe_cl pe_ckA t_M_anew (td_t_M_anew 2).1 (td_t_M_anew 2).2 = true := by decide +kernel
set_option maxRecDepth 40000 in
theorem ok_t_M_anew_3 : pe_ckB (pe_GA []) pe_cl pe_ckA t_M_anew (td_t_M_anew 3).1 (td_t_M_anew 3).2 = true := by decide +kernel
set_option maxRecDepth 40000 in
theorem ok_t_M_anew_4 : pe_ckB (pe_GA []) pe_cl pe_ckA t_M_anew (td_t_M_anew 4).1 (td_t_M_anew 4).2 = true := by decide +kernel
set_option maxRecDepth 40000 in
theorem ok_t_M_anew_5 : pe_ckB (pe_GA []) pe_cl pe_ckA t_M_anew (td_t_M_anew 5).1 (td_t_M_anew 5).2 = true := by decide +kernel
set_option maxRecDepth 40000 in
theorem ok_t_M_anew_6 : pe_ckB (pe_GA []) pe_cl pe_ckA t_M_anew (td_t_M_anew 6).1 (td_t_M_anew 6).2 = true := by decide +kernel
set_option maxRecDepth 40000 in
theorem ok_t_M_anew_7 : pe_ckB (pe_GA []) pe_cl pe_ckA t_M_anew (td_t_M_anew 7).1 (td_t_M_anew 7).2 = true := by decide +kernel
set_option maxRecDepth 40000 in
theorem ok_t_M_anew_8 : pe_ckB (pe_GA []) pe_cl pe_ckA t_M_anew (td_t_M_anew 8).1 (td_t_M_anew 8).2 = true := by decide +kernel
set_option maxRecDepth 40000 in
theorem ok_t_M_anew_9 : pe_ckB (pe_GA []) pe_cl pe_ckA t_M_anew (td_t_M_anew 9).1 (td_t_M_anew 9).2 = true := by decide +kernel
set_option maxRecDepth 40000 in
theorem ok_t_M_anew_10 : pe_ckB (pe_GA []) pe_cl pe_ckA t_M_anew (td_t_M_anew 10).1 (td_t_M_anew 10).2 = true := by decide +kernel
theorem ok_t_M_anew_a : ∀ b ∈ t_M_anew.bl, pe_ckB (pe_GA []) pe_cl pe_ckA t_M_anew b.1 b.2 = true := by
  intro b hb
  obtain ⟨n, hn⟩ := List.getElem?_of_mem hb
  rw [← pe_at_eq] at hn
  match n, hn with
  | 0, hn =>
    have h2 : td_t_M_anew 0 = b := by unfold td_t_M_anew; rw [hn]; rfl
    rw [← h2]; exact ok_t_M_anew_0
  | 1, hn =>
    have h2 : td_t_M_anew 1 = b := by unfold td_t_M_anew; rw [hn]; rfl
    rw [← h2]; exact ok_t_M_anew_1
  | 2, hn =>
    have h2 : td_t_M_anew 2 = b := by unfold td_t_M_anew; rw [hn]; rfl
    rw [← h2]; exact ok_t_M_anew_2
  | 3, hn =>
    have h2 : td_t_M_anew 3 = b := by unfold td_t_M_anew; rw [hn]; rfl
    rw [← h2]; exact ok_t_M_anew_3
  | 4, hn =>
    have h2 : td_t_M_anew 4 = b := by unfold td_t_M_anew; rw [hn]; rfl
    rw [← h2]; exact ok_t_M_anew_4
  | 5, hn =>
    have h2 : td_t_M_anew 5 = b := by unfold td_t_M_anew; rw [hn]; rfl
    rw [← h2]; exact ok_t_M_anew_5
  | 6, hn =>
    have h2 : td_t_M_anew 6 = b := by unfold td_t_M_anew; rw [hn]; rfl
    rw [← h2]; exact ok_t_M_anew_6
  | 7, hn =>
    have h2 : td_t_M_anew 7 = b := by unfold td_t_M_anew; rw [hn]; rfl
    rw [← h2]; exact ok_t_M_anew_7
  | 8, hn =>
    have h2 : td_t_M_anew 8 = b := by unfold td_t_M_anew; rw [hn]; rfl
    rw [← h2]; exact ok_t_M_anew_8
  | 9, hn =>
    have h2 : td_t_M_anew 9 = b := by unfold td_t_M_anew; rw [hn]; rfl
    rw [← h2]; exact ok_t_M_anew_9
  | 10, hn =>
    have h2 : td_t_M_anew 10 = b := by unfold td_t_M_anew; rw [hn]; rfl
    rw [← h2]; exact ok_t_M_anew_10
  | n + 11, hn =>
    rw [pe_at_eq] at hn
    exact absurd (List.getElem?_eq_some_iff.mp hn).1 (by show ¬ n + 11 < 11; omega)
theorem ok_t_M_anew : pe_okM (pe_GA []) pe_cl pe_ckA t_M_anew = true := pe_okM_mk (pe_w_of (by rfl) (by rfl)) (by decide +kernel) ok_t_M_anew_a
set_option maxRecDepth 40000 in
theorem ok_t_X_fedByte : pe_okM (pe_GA []) pe_cl pe_ckA t_X_fedByte = true := by decide +kernel
set_option maxRecDepth 40000 in
theorem ok_t_X_isSign : pe_okM (pe_GA []) pe_cl pe_ckA t_X_isSign = true := by decide +kernel
set_option maxRecDepth 40000 in
theorem ok_t_JA_copyOf : pe_okM (pe_GA []) pe_cl pe_ckA t_JA_copyOf = true := by decide +kernel
set_option maxRecDepth 40000 in
theorem ok_t_M_signsIn : pe_okM (pe_GA []) pe_cl pe_ckA t_M_signsIn = true := by decide +kernel
set_option maxRecDepth 40000 in
theorem ok_t_M_types : pe_okM (pe_GA []) pe_cl pe_ckA t_M_types = true := by decide +kernel
set_option maxRecDepth 40000 in
theorem ok_t_XT_read : pe_okM (pe_GA []) pe_cl pe_ckA t_XT_read = true := by decide +kernel
set_option maxRecDepth 40000 in
theorem ok_t_XW_clear : pe_okM (pe_GA []) pe_cl pe_ckA t_XW_clear = true := by decide +kernel
set_option maxRecDepth 40000 in
theorem ok_t_XC_clear : pe_okM (pe_GA []) pe_cl pe_ckA t_XC_clear = true := by decide +kernel
set_option maxRecDepth 40000 in
theorem ok_t_XH_clear : pe_okM (pe_GA []) pe_cl pe_ckA t_XH_clear = true := by decide +kernel
set_option maxRecDepth 40000 in
theorem ok_t_XL_clear : pe_okM (pe_GA []) pe_cl pe_ckA t_XL_clear = true := by decide +kernel
set_option maxRecDepth 40000 in
theorem ok_t_XK_clear : pe_okM (pe_GA []) pe_cl pe_ckA t_XK_clear = true := by decide +kernel
set_option maxRecDepth 40000 in
theorem ok_t_M_begins : pe_okM (pe_GA []) pe_cl pe_ckA t_M_begins = true := by decide +kernel
def td_t_M_readsClass (k : Nat) : Nat × List pe_I := (pe_at t_M_readsClass.bl k).getD (0, [])
set_option maxRecDepth 40000 in
theorem ok_t_M_readsClass_0 : pe_ckB (pe_GA []) pe_cl pe_ckA t_M_readsClass (td_t_M_readsClass 0).1 (td_t_M_readsClass 0).2 = true := by decide +kernel
set_option maxRecDepth 40000 in
theorem ok_t_M_readsClass_1 : pe_ckB (pe_GA []) pe_cl pe_ckA t_M_readsClass (td_t_M_readsClass 1).1 (td_t_M_readsClass 1).2 = true := by decide +kernel
set_option maxRecDepth 40000 in
theorem ok_t_M_readsClass_2 : pe_ckB (pe_GA []) pe_cl pe_ckA t_M_readsClass (td_t_M_readsClass 2).1 (td_t_M_readsClass 2).2 = true := by decide +kernel
set_option maxRecDepth 40000 in
theorem ok_t_M_readsClass_3 : pe_ckB (pe_GA []) pe_cl pe_ckA t_M_readsClass (td_t_M_readsClass 3).1 (td_t_M_readsClass 3).2 = true := by decide +kernel
set_option maxRecDepth 40000 in
theorem ok_t_M_readsClass_4 : pe_ckB (pe_GA []) pe_cl pe_ckA t_M_readsClass (td_t_M_readsClass 4).1 (td_t_M_readsClass 4).2 = true := by decide +kernel
set_option maxRecDepth 40000 in
theorem ok_t_M_readsClass_5 : pe_ckB (pe_GA []) pe_cl pe_ckA t_M_readsClass (td_t_M_readsClass 5).1 (td_t_M_readsClass 5).2 = true := by decide +kernel
set_option maxRecDepth 40000 in
theorem ok_t_M_readsClass_6 : pe_ckB (pe_GA []) pe_cl pe_ckA t_M_readsClass (td_t_M_readsClass 6).1 (td_t_M_readsClass 6).2 = true := by decide +kernel
set_option maxRecDepth 40000 in
theorem ok_t_M_readsClass_7 : pe_ckB (pe_GA []) pe_cl pe_ckA t_M_readsClass (td_t_M_readsClass 7).1 (td_t_M_readsClass 7).2 = true := by decide +kernel
set_option maxRecDepth 40000 in
theorem ok_t_M_readsClass_8 : pe_ckB (pe_GA []) pe_cl pe_ckA t_M_readsClass (td_t_M_readsClass 8).1 (td_t_M_readsClass 8).2 = true := by decide +kernel
set_option maxRecDepth 40000 in
theorem ok_t_M_readsClass_9 : pe_ckB (pe_GA []) pe_cl pe_ckA t_M_readsClass (td_t_M_readsClass 9).1 (td_t_M_readsClass 9).2 = true := by decide +kernel
set_option maxRecDepth 40000 in
theorem ok_t_M_readsClass_10 : pe_ckB (pe_GA []) pe_cl pe_ckA t_M_readsClass (td_t_M_readsClass 10).1 (td_t_M_readsClass 10).2 = true := by decide +kernel
set_option maxRecDepth 40000 in
theorem ok_t_M_readsClass_11 : pe_ckB (pe_GA []) pe_cl pe_ckA t_M_readsClass (td_t_M_readsClass 11).1 (td_t_M_readsClass 11).2 = true := by decide +kernel
set_option maxRecDepth 40000 in
theorem ok_t_M_readsClass_12 : pe_ckB (pe_GA []) pe_cl pe_ckA t_M_readsClass (td_t_M_readsClass 12).1 (td_t_M_readsClass 12).2 = true := by decide +kernel
set_option maxRecDepth 40000 in
theorem ok_t_M_readsClass_13 : pe_ckB (pe_GA []) pe_cl pe_ckA t_M_readsClass (td_t_M_readsClass 13).1 (td_t_M_readsClass 13).2 = true := by decide +kernel
set_option maxRecDepth 40000 in
theorem ok_t_M_readsClass_14 : pe_ckB (pe_GA []) pe_cl pe_ckA t_M_readsClass (td_t_M_readsClass 14).1 (td_t_M_readsClass 14).2 = true := by decide +kernel
theorem ok_t_M_readsClass_a : ∀ b ∈ t_M_readsClass.bl, pe_ckB (pe_GA []) pe_cl pe_ckA t_M_readsClass b.1 b.2 = true := by
  intro b hb
  obtain ⟨n, hn⟩ := List.getElem?_of_mem hb
  rw [← pe_at_eq] at hn
  match n, hn with
  | 0, hn =>
    have h2 : td_t_M_readsClass 0 = b := by unfold td_t_M_readsClass; rw [hn]; rfl
    rw [← h2]; exact ok_t_M_readsClass_0
  | 1, hn =>
    have h2 : td_t_M_readsClass 1 = b := by unfold td_t_M_readsClass; rw [hn]; rfl
    rw [← h2]; exact ok_t_M_readsClass_1
  | 2, hn =>
    have h2 : td_t_M_readsClass 2 = b := by unfold td_t_M_readsClass; rw [hn]; rfl
    rw [← h2]; exact ok_t_M_readsClass_2
  | 3, hn =>
    have h2 : td_t_M_readsClass 3 = b := by unfold td_t_M_readsClass; rw [hn]; rfl
    rw [← h2]; exact ok_t_M_readsClass_3
  | 4, hn =>
    have h2 : td_t_M_readsClass 4 = b := by unfold td_t_M_readsClass; rw [hn]; rfl
    rw [← h2]; exact ok_t_M_readsClass_4
  | 5, hn =>
    have h2 : td_t_M_readsClass 5 = b := by unfold td_t_M_readsClass; rw [hn]; rfl
    rw [← h2]; exact ok_t_M_readsClass_5
  | 6, hn =>
    have h2 : td_t_M_readsClass 6 = b := by unfold td_t_M_readsClass; rw [hn]; rfl
    rw [← h2]; exact ok_t_M_readsClass_6
  | 7, hn =>
    have h2 : td_t_M_readsClass 7 = b := by unfold td_t_M_readsClass; rw [hn]; rfl
    rw [← h2]; exact ok_t_M_readsClass_7
  | 8, hn =>
    have h2 : td_t_M_readsClass 8 = b := by unfold td_t_M_readsClass; rw [hn]; rfl
    rw [← h2]; exact ok_t_M_readsClass_8
  | 9, hn =>
    have h2 : td_t_M_readsClass 9 = b := by unfold td_t_M_readsClass; rw [hn]; rfl
    rw [← h2]; exact ok_t_M_readsClass_9
  | 10, hn =>
    have h2 : td_t_M_readsClass 10 = b := by unfold td_t_M_readsClass; rw [hn]; rfl
    rw [← h2]; exact ok_t_M_readsClass_10
  | 11, hn =>
    have h2 : td_t_M_readsClass 11 = b := by unfold td_t_M_readsClass; rw [hn]; rfl
    rw [← h2]; exact ok_t_M_readsClass_11
  | 12, hn =>
    have h2 : td_t_M_readsClass 12 = b := by unfold td_t_M_readsClass; rw [hn]; rfl
    rw [← h2]; exact ok_t_M_readsClass_12
  | 13, hn =>
    have h2 : td_t_M_readsClass 13 = b := by unfold td_t_M_readsClass; rw [hn]; rfl
    rw [← h2]; exact ok_t_M_readsClass_13
  | 14, hn =>
    have h2 : td_t_M_readsClass 14 = b := by unfold td_t_M_readsClass; rw [hn]; rfl
    rw [← h2]; exact ok_t_M_readsClass_14
  | n + 15, hn =>
    rw [pe_at_eq] at hn
    exact absurd (List.getElem?_eq_some_iff.mp hn).1 (by show ¬ n + 15 < 15; omega)
theorem ok_t_M_readsClass : pe_okM (pe_GA []) pe_cl pe_ckA t_M_readsClass = true := pe_okM_mk (pe_w_of (by rfl) (by rfl)) (by decide +kernel) ok_t_M_readsClass_a
set_option maxRecDepth 40000 in
theorem ok_t_M_in : pe_okM (pe_GA []) pe_cl pe_ckA t_M_in = true := by decide +kernel
def td_t_XO_isSubtype (k : Nat) : Nat × List pe_I := (pe_at t_XO_isSubtype.bl k).getD (0, [])
set_option maxRecDepth 40000 in
theorem ok_t_XO_isSubtype_0 : pe_ckB (pe_GA []) pe_cl pe_ckA t_XO_isSubtype (td_t_XO_isSubtype 0).1 (td_t_XO_isSubtype 0).2 = true := by decide +kernel
set_option maxRecDepth 40000 in
theorem ok_t_XO_isSubtype_1 : pe_ckB (pe_GA []) pe_cl pe_ckA t_XO_isSubtype (td_t_XO_isSubtype 1).1 (td_t_XO_isSubtype 1).2 = true := by decide +kernel
set_option maxRecDepth 40000 in
theorem ok_t_XO_isSubtype_2 : pe_ckB (pe_GA []) pe_cl pe_ckA t_XO_isSubtype (td_t_XO_isSubtype 2).1 (td_t_XO_isSubtype 2).2 = true := by decide +kernel
set_option maxRecDepth 40000 in
theorem ok_t_XO_isSubtype_3 : pe_ckB (pe_GA []) pe_cl pe_ckA t_XO_isSubtype (td_t_XO_isSubtype 3).1 (td_t_XO_isSubtype 3).2 = true := by decide +kernel
set_option maxRecDepth 40000 in
theorem ok_t_XO_isSubtype_4 : pe_ckB (pe_GA []) pe_cl pe_ckA t_XO_isSubtype (td_t_XO_isSubtype 4).1 (td_t_XO_isSubtype 4).2 = true := by decide +kernel
set_option maxRecDepth 40000 in
theorem ok_t_XO_isSubtype_5 : pe_ckB (pe_GA []) pe_cl pe_ckA t_XO_isSubtype (td_t_XO_isSubtype 5).1 (td_t_XO_isSubtype 5).2 = true := by decide +kernel
set_option maxRecDepth 40000 in
theorem ok_t_XO_isSubtype_6 : pe_ckB (pe_GA []) pe_cl pe_ckA t_XO_isSubtype (td_t_XO_isSubtype 6).1 (td_t_XO_isSubtype 6).2 = true := by decide +kernel
set_option maxRecDepth 40000 in
theorem ok_t_XO_isSubtype_7 : pe_ckB (pe_GA []) pe_cl pe_ckA t_XO_isSubtype (td_t_XO_isSubtype 7).1 (td_t_XO_isSubtype 7).2 = true := by decide +kernel
theorem ok_t_XO_isSubtype_a : ∀ b ∈ t_XO_isSubtype.bl, pe_ckB (pe_GA []) pe_cl pe_ckA t_XO_isSubtype b.1 b.2 = true := by
  intro b hb
  obtain ⟨n, hn⟩ := List.getElem?_of_mem hb
  rw [← pe_at_eq] at hn
  match n, hn with
  | 0, hn =>
    have h2 : td_t_XO_isSubtype 0 = b := by unfold td_t_XO_isSubtype; rw [hn]; rfl
    rw [← h2]; exact ok_t_XO_isSubtype_0
  | 1, hn =>
    have h2 : td_t_XO_isSubtype 1 = b := by unfold td_t_XO_isSubtype; rw [hn]; rfl
    rw [← h2]; exact ok_t_XO_isSubtype_1
  | 2, hn =>
    have h2 : td_t_XO_isSubtype 2 = b := by unfold td_t_XO_isSubtype; rw [hn]; rfl
    rw [← h2]; exact ok_t_XO_isSubtype_2
  | 3, hn =>
    have h2 : td_t_XO_isSubtype 3 = b := by unfold td_t_XO_isSubtype; rw [hn]; rfl
    rw [← h2]; exact ok_t_XO_isSubtype_3
  | 4, hn =>
    have h2 : td_t_XO_isSubtype 4 = b := by unfold td_t_XO_isSubtype; rw [hn]; rfl
    rw [← h2]; exact ok_t_XO_isSubtype_4
  | 5, hn =>
    have h2 : td_t_XO_isSubtype 5 = b := by unfold td_t_XO_isSubtype; rw [hn]; rfl
    rw [← h2]; exact ok_t_XO_isSubtype_5
  | 6, hn =>
    have h2 : td_t_XO_isSubtype 6 = b := by unfold td_t_XO_isSubtype; rw [hn]; rfl
    rw [← h2]; exact ok_t_XO_isSubtype_6
  | 7, hn =>
    have h2 : td_t_XO_isSubtype 7 = b := by unfold td_t_XO_isSubtype; rw [hn]; rfl
    rw [← h2]; exact ok_t_XO_isSubtype_7
  | n + 8, hn =>
    rw [pe_at_eq] at hn
    exact absurd (List.getElem?_eq_some_iff.mp hn).1 (by show ¬ n + 8 < 8; omega)
theorem ok_t_XO_isSubtype : pe_okM (pe_GA []) pe_cl pe_ckA t_XO_isSubtype = true := pe_okM_mk (pe_w_of (by rfl) (by rfl)) (by decide +kernel) ok_t_XO_isSubtype_a
def td_t_MO_isSub (k : Nat) : Nat × List pe_I := (pe_at t_MO_isSub.bl k).getD (0, [])
set_option maxRecDepth 40000 in
theorem ok_t_MO_isSub_0 : pe_ckB (pe_GA []) pe_cl pe_ckA t_MO_isSub (td_t_MO_isSub 0).1 (td_t_MO_isSub 0).2 = true := by decide +kernel
set_option maxRecDepth 40000 in
theorem ok_t_MO_isSub_1 : pe_ckB (pe_GA []) pe_cl pe_ckA t_MO_isSub (td_t_MO_isSub 1).1 (td_t_MO_isSub 1).2 = true := by decide +kernel
set_option maxRecDepth 40000 in
theorem ok_t_MO_isSub_2 : pe_ckB (pe_GA []) pe_cl pe_ckA t_MO_isSub (td_t_MO_isSub 2).1 (td_t_MO_isSub 2).2 = true := by decide +kernel
set_option maxRecDepth 40000 in
theorem ok_t_MO_isSub_3 : pe_ckB (pe_GA []) pe_cl pe_ckA t_MO_isSub (td_t_MO_isSub 3).1 (td_t_MO_isSub 3).2 = true := by decide +kernel
set_option maxRecDepth 40000 in
theorem ok_t_MO_isSub_4 : pe_ckB (pe_GA []) pe_cl pe_ckA t_MO_isSub (td_t_MO_isSub 4).1 (td_t_MO_isSub 4).2 = true := by decide +kernel
set_option maxRecDepth 40000 in
theorem ok_t_MO_isSub_5 : pe_ckB (pe_GA []) pe_cl pe_ckA t_MO_isSub (td_t_MO_isSub 5).1 (td_t_MO_isSub 5).2 = true := by decide +kernel
set_option maxRecDepth 40000 in
theorem ok_t_MO_isSub_6 : pe_ckB (pe_GA []) pe_cl pe_ckA t_MO_isSub (td_t_MO_isSub 6).1 (td_t_MO_isSub 6).2 = true := by decide +kernel
set_option maxRecDepth 40000 in
theorem ok_t_MO_isSub_7 : pe_ckB (pe_GA []) pe_cl pe_ckA t_MO_isSub (td_t_MO_isSub 7).1 (td_t_MO_isSub 7).2 = true := by decide +kernel
set_option maxRecDepth 40000 in
theorem ok_t_MO_isSub_8 : pe_ckB (pe_GA []) pe_cl pe_ckA t_MO_isSub (td_t_MO_isSub 8).1 (td_t_MO_isSub 8).2 = true := by decide +kernel
set_option maxRecDepth 40000 in
theorem ok_t_MO_isSub_9 : pe_ckB (pe_GA []) pe_cl pe_ckA t_MO_isSub (td_t_MO_isSub 9).1 (td_t_MO_isSub 9).2 = true := by decide +kernel
theorem ok_t_MO_isSub_a : ∀ b ∈ t_MO_isSub.bl, pe_ckB (pe_GA []) pe_cl pe_ckA t_MO_isSub b.1 b.2 = true := by
  intro b hb
  obtain ⟨n, hn⟩ := List.getElem?_of_mem hb
  rw [← pe_at_eq] at hn
  match n, hn with
  | 0, hn =>
    have h2 : td_t_MO_isSub 0 = b := by unfold td_t_MO_isSub; rw [hn]; rfl
    rw [← h2]; exact ok_t_MO_isSub_0
  | 1, hn =>
    have h2 : td_t_MO_isSub 1 = b := by unfold td_t_MO_isSub; rw [hn]; rfl
    rw [← h2]; exact ok_t_MO_isSub_1
  | 2, hn =>
    have h2 : td_t_MO_isSub 2 = b := by unfold td_t_MO_isSub; rw [hn]; rfl
    rw [← h2]; exact ok_t_MO_isSub_2
  | 3, hn =>
    have h2 : td_t_MO_isSub 3 = b := by unfold td_t_MO_isSub; rw [hn]; rfl
    rw [← h2]; exact ok_t_MO_isSub_3
  | 4, hn =>
    have h2 : td_t_MO_isSub 4 = b := by unfold td_t_MO_isSub; rw [hn]; rfl
    rw [← h2]; exact ok_t_MO_isSub_4
  | 5, hn =>
    have h2 : td_t_MO_isSub 5 = b := by unfold td_t_MO_isSub; rw [hn]; rfl
    rw [← h2]; exact ok_t_MO_isSub_5
  | 6, hn =>
    have h2 : td_t_MO_isSub 6 = b := by unfold td_t_MO_isSub; rw [hn]; rfl
    rw [← h2]; exact ok_t_MO_isSub_6
  | 7, hn =>
    have h2 : td_t_MO_isSub 7 = b := by unfold td_t_MO_isSub; rw [hn]; rfl
    rw [← h2]; exact ok_t_MO_isSub_7
  | 8, hn =>
    have h2 : td_t_MO_isSub 8 = b := by unfold td_t_MO_isSub; rw [hn]; rfl
    rw [← h2]; exact ok_t_MO_isSub_8
  | 9, hn =>
    have h2 : td_t_MO_isSub 9 = b := by unfold td_t_MO_isSub; rw [hn]; rfl
    rw [← h2]; exact ok_t_MO_isSub_9
  | n + 10, hn =>
    rw [pe_at_eq] at hn
    exact absurd (List.getElem?_eq_some_iff.mp hn).1 (by show ¬ n + 10 < 10; omega)
theorem ok_t_MO_isSub : pe_okM (pe_GA []) pe_cl pe_ckA t_MO_isSub = true := pe_okM_mk (pe_w_of (by rfl) (by rfl)) (by decide +kernel) ok_t_MO_isSub_a
def td_t_XP_read (k : Nat) : Nat × List pe_I := (pe_at t_XP_read.bl k).getD (0, [])
set_option maxRecDepth 40000 in
theorem ok_t_XP_read_0 : pe_ckB (pe_GA []) pe_cl pe_ckA t_XP_read (td_t_XP_read 0).1 (td_t_XP_read 0).2 = true := by decide +kernel
set_option maxRecDepth 40000 in
theorem ok_t_XP_read_1 : pe_ckB (pe_GA []) pe_cl pe_ckA t_XP_read (td_t_XP_read 1).1 (td_t_XP_read 1).2 = true := by decide +kernel
set_option maxRecDepth 40000 in
theorem ok_t_XP_read_2 : pe_ckB (pe_GA []) pe_cl pe_ckA t_XP_read (td_t_XP_read 2).1 (td_t_XP_read 2).2 = true := by decide +kernel
theorem ok_t_XP_read_a : ∀ b ∈ t_XP_read.bl, pe_ckB (pe_GA []) pe_cl pe_ckA t_XP_read b.1 b.2 = true := by
  intro b hb
  obtain ⟨n, hn⟩ := List.getElem?_of_mem hb
  rw [← pe_at_eq] at hn
  match n, hn with
  | 0, hn =>
    have h2 : td_t_XP_read 0 = b := by unfold td_t_XP_read; rw [hn]; rfl
    rw [← h2]; exact ok_t_XP_read_0
  | 1, hn =>
    have h2 : td_t_XP_read 1 = b := by unfold td_t_XP_read; rw [hn]; rfl
    rw [← h2]; exact ok_t_XP_read_1
  | 2, hn =>
    have h2 : td_t_XP_read 2 = b := by unfold td_t_XP_read; rw [hn]; rfl
    rw [← h2]; exact ok_t_XP_read_2
  | n + 3, hn =>
    rw [pe_at_eq] at hn
    exact absurd (List.getElem?_eq_some_iff.mp hn).1 (by show ¬ n + 3 < 3; omega)
theorem ok_t_XP_read : pe_okM (pe_GA []) pe_cl pe_ckA t_XP_read = true := pe_okM_mk (pe_w_of (by rfl) (by rfl)) (by decide +kernel) ok_t_XP_read_a
def td_t_XP_commit (k : Nat) : Nat × List pe_I := (pe_at t_XP_commit.bl k).getD (0, [])
set_option maxRecDepth 40000 in
theorem ok_t_XP_commit_0 : pe_ckB (pe_GA []) pe_cl pe_ckA t_XP_commit (td_t_XP_commit 0).1 (td_t_XP_commit 0).2 = true := by decide +kernel
set_option maxRecDepth 40000 in
theorem ok_t_XP_commit_1 : pe_ckB (pe_GA []) pe_cl pe_ckA t_XP_commit (td_t_XP_commit 1).1 (td_t_XP_commit 1).2 = true := by decide +kernel
set_option maxRecDepth 40000 in
theorem ok_t_XP_commit_2 : pe_ckB (pe_GA []) pe_cl pe_ckA t_XP_commit (td_t_XP_commit 2).1 (td_t_XP_commit 2).2 = true := by decide +kernel
set_option maxRecDepth 40000 in
theorem ok_t_XP_commit_3 : pe_ckB (pe_GA []) pe_cl pe_ckA t_XP_commit (td_t_XP_commit 3).1 (td_t_XP_commit 3).2 = true := by decide +kernel
set_option maxRecDepth 40000 in
theorem ok_t_XP_commit_4 : pe_ckB (pe_GA []) pe_cl pe_ckA t_XP_commit (td_t_XP_commit 4).1 (td_t_XP_commit 4).2 = true := by decide +kernel
set_option maxRecDepth 40000 in
theorem ok_t_XP_commit_5 : pe_ckB (pe_GA []) pe_cl pe_ckA t_XP_commit (td_t_XP_commit 5).1 (td_t_XP_commit 5).2 = true := by decide +kernel
set_option maxRecDepth 40000 in
theorem ok_t_XP_commit_6 : pe_ckB (pe_GA []) pe_cl pe_ckA t_XP_commit (td_t_XP_commit 6).1 (td_t_XP_commit 6).2 = true := by decide +kernel
set_option maxRecDepth 40000 in
theorem ok_t_XP_commit_7 : pe_ckB (pe_GA []) pe_cl pe_ckA t_XP_commit (td_t_XP_commit 7).1 (td_t_XP_commit 7).2 = true := by decide +kernel
theorem ok_t_XP_commit_a : ∀ b ∈ t_XP_commit.bl, pe_ckB (pe_GA []) pe_cl pe_ckA t_XP_commit b.1 b.2 = true := by
  intro b hb
  obtain ⟨n, hn⟩ := List.getElem?_of_mem hb
  rw [← pe_at_eq] at hn
  match n, hn with
  | 0, hn =>
    have h2 : td_t_XP_commit 0 = b := by unfold td_t_XP_commit; rw [hn]; rfl
    rw [← h2]; exact ok_t_XP_commit_0
  | 1, hn =>
    have h2 : td_t_XP_commit 1 = b := by unfold td_t_XP_commit; rw [hn]; rfl
    rw [← h2]; exact ok_t_XP_commit_1
  | 2, hn =>
    have h2 : td_t_XP_commit 2 = b := by unfold td_t_XP_commit; rw [hn]; rfl
    rw [← h2]; exact ok_t_XP_commit_2
  | 3, hn =>
    have h2 : td_t_XP_commit 3 = b := by unfold td_t_XP_commit; rw [hn]; rfl
    rw [← h2]; exact ok_t_XP_commit_3
  | 4, hn =>
    have h2 : td_t_XP_commit 4 = b := by unfold td_t_XP_commit; rw [hn]; rfl
    rw [← h2]; exact ok_t_XP_commit_4
  | 5, hn =>
    have h2 : td_t_XP_commit 5 = b := by unfold td_t_XP_commit; rw [hn]; rfl
    rw [← h2]; exact ok_t_XP_commit_5
  | 6, hn =>
    have h2 : td_t_XP_commit 6 = b := by unfold td_t_XP_commit; rw [hn]; rfl
    rw [← h2]; exact ok_t_XP_commit_6
  | 7, hn =>
    have h2 : td_t_XP_commit 7 = b := by unfold td_t_XP_commit; rw [hn]; rfl
    rw [← h2]; exact ok_t_XP_commit_7
  | n + 8, hn =>
    rw [pe_at_eq] at hn
    exact absurd (List.getElem?_eq_some_iff.mp hn).1 (by show ¬ n + 8 < 8; omega)
theorem ok_t_XP_commit : pe_okM (pe_GA []) pe_cl pe_ckA t_XP_commit = true := pe_okM_mk (pe_w_of (by rfl) (by rfl)) (by decide +kernel) ok_t_XP_commit_a
set_option maxRecDepth 40000 in
theorem ok_t_MH_of : pe_okM (pe_GA []) pe_cl pe_ckA t_MH_of = true := by decide +kernel
def td_t_M_readsUnit (k : Nat) : Nat × List pe_I := (pe_at t_M_readsUnit.bl k).getD (0, [])
set_option maxRecDepth 40000 in
theorem ok_t_M_readsUnit_0 : pe_ckB (pe_GA []) pe_cl pe_ckA t_M_readsUnit (td_t_M_readsUnit 0).1 (td_t_M_readsUnit 0).2 = true := by decide +kernel
set_option maxRecDepth 40000 in
theorem ok_t_M_readsUnit_1 : pe_ckB (pe_GA []) pe_cl pe_ckA t_M_readsUnit (td_t_M_readsUnit 1).1 (td_t_M_readsUnit 1).2 = true := by decide +kernel
set_option maxRecDepth 40000 in
theorem ok_t_M_readsUnit_2 : pe_ckB (pe_GA []) pe_cl pe_ckA t_M_readsUnit (td_t_M_readsUnit 2).1 (td_t_M_readsUnit 2).2 = true := by decide +kernel
set_option maxRecDepth 40000 in
theorem ok_t_M_readsUnit_3 : pe_ckB (pe_GA []) pe_cl pe_ckA t_M_readsUnit (td_t_M_readsUnit 3).1 (td_t_M_readsUnit 3).2 = true := by decide +kernel
set_option maxRecDepth 40000 in
theorem ok_t_M_readsUnit_4 : pe_ckB (pe_GA []) pe_cl pe_ckA t_M_readsUnit (td_t_M_readsUnit 4).1 (td_t_M_readsUnit 4).2 = true := by decide +kernel
set_option maxRecDepth 40000 in
theorem ok_t_M_readsUnit_5 : pe_ckB (pe_GA []) pe_cl pe_ckA t_M_readsUnit (td_t_M_readsUnit 5).1 (td_t_M_readsUnit 5).2 = true := by decide +kernel
set_option maxRecDepth 40000 in
theorem ok_t_M_readsUnit_6 : pe_ckB (pe_GA []) pe_cl pe_ckA t_M_readsUnit (td_t_M_readsUnit 6).1 (td_t_M_readsUnit 6).2 = true := by decide +kernel
theorem ok_t_M_readsUnit_a : ∀ b ∈ t_M_readsUnit.bl, pe_ckB (pe_GA []) pe_cl pe_ckA t_M_readsUnit b.1 b.2 = true := by
  intro b hb
  obtain ⟨n, hn⟩ := List.getElem?_of_mem hb
  rw [← pe_at_eq] at hn
  match n, hn with
  | 0, hn =>
    have h2 : td_t_M_readsUnit 0 = b := by unfold td_t_M_readsUnit; rw [hn]; rfl
    rw [← h2]; exact ok_t_M_readsUnit_0
  | 1, hn =>
    have h2 : td_t_M_readsUnit 1 = b := by unfold td_t_M_readsUnit; rw [hn]; rfl
    rw [← h2]; exact ok_t_M_readsUnit_1
  | 2, hn =>
    have h2 : td_t_M_readsUnit 2 = b := by unfold td_t_M_readsUnit; rw [hn]; rfl
    rw [← h2]; exact ok_t_M_readsUnit_2
  | 3, hn =>
    have h2 : td_t_M_readsUnit 3 = b := by unfold td_t_M_readsUnit; rw [hn]; rfl
    rw [← h2]; exact ok_t_M_readsUnit_3
  | 4, hn =>
    have h2 : td_t_M_readsUnit 4 = b := by unfold td_t_M_readsUnit; rw [hn]; rfl
    rw [← h2]; exact ok_t_M_readsUnit_4
  | 5, hn =>
    have h2 : td_t_M_readsUnit 5 = b := by unfold td_t_M_readsUnit; rw [hn]; rfl
    rw [← h2]; exact ok_t_M_readsUnit_5
  | 6, hn =>
    have h2 : td_t_M_readsUnit 6 = b := by unfold td_t_M_readsUnit; rw [hn]; rfl
    rw [← h2]; exact ok_t_M_readsUnit_6
  | n + 7, hn =>
    rw [pe_at_eq] at hn
    exact absurd (List.getElem?_eq_some_iff.mp hn).1 (by show ¬ n + 7 < 7; omega)
theorem ok_t_M_readsUnit : pe_okM (pe_GA []) pe_cl pe_ckA t_M_readsUnit = true := pe_okM_mk (pe_w_of (by rfl) (by rfl)) (by decide +kernel) ok_t_M_readsUnit_a
def td_t_M_keeps (k : Nat) : Nat × List pe_I := (pe_at t_M_keeps.bl k).getD (0, [])
set_option maxRecDepth 40000 in
theorem ok_t_M_keeps_0 : pe_ckB (pe_GA []) pe_cl pe_ckA t_M_keeps (td_t_M_keeps 0).1 (td_t_M_keeps 0).2 = true := by decide +kernel
set_option maxRecDepth 40000 in
theorem ok_t_M_keeps_1 : pe_ckB (pe_GA []) pe_cl pe_ckA t_M_keeps (td_t_M_keeps 1).1 (td_t_M_keeps 1).2 = true := by decide +kernel
set_option maxRecDepth 40000 in
theorem ok_t_M_keeps_2 : pe_ckB (pe_GA []) pe_cl pe_ckA t_M_keeps (td_t_M_keeps 2).1 (td_t_M_keeps 2).2 = true := by decide +kernel
set_option maxRecDepth 40000 in
theorem ok_t_M_keeps_3 : pe_ckB (pe_GA []) pe_cl pe_ckA t_M_keeps (td_t_M_keeps 3).1 (td_t_M_keeps 3).2 = true := by decide +kernel
set_option maxRecDepth 40000 in
theorem ok_t_M_keeps_4 : pe_ckB (pe_GA []) pe_cl pe_ckA t_M_keeps (td_t_M_keeps 4).1 (td_t_M_keeps 4).2 = true := by decide +kernel
set_option maxRecDepth 40000 in
theorem ok_t_M_keeps_5 : pe_ckB (pe_GA []) pe_cl pe_ckA t_M_keeps (td_t_M_keeps 5).1 (td_t_M_keeps 5).2 = true := by decide +kernel
set_option maxRecDepth 40000 in
theorem ok_t_M_keeps_6 : pe_ckB (pe_GA []) pe_cl pe_ckA t_M_keeps (td_t_M_keeps 6).1 (td_t_M_keeps 6).2 = true := by decide +kernel
theorem ok_t_M_keeps_a : ∀ b ∈ t_M_keeps.bl, pe_ckB (pe_GA []) pe_cl pe_ckA t_M_keeps b.1 b.2 = true := by
  intro b hb
  obtain ⟨n, hn⟩ := List.getElem?_of_mem hb
  rw [← pe_at_eq] at hn
  match n, hn with
  | 0, hn =>
    have h2 : td_t_M_keeps 0 = b := by unfold td_t_M_keeps; rw [hn]; rfl
    rw [← h2]; exact ok_t_M_keeps_0
  | 1, hn =>
    have h2 : td_t_M_keeps 1 = b := by unfold td_t_M_keeps; rw [hn]; rfl
    rw [← h2]; exact ok_t_M_keeps_1
  | 2, hn =>
    have h2 : td_t_M_keeps 2 = b := by unfold td_t_M_keeps; rw [hn]; rfl
    rw [← h2]; exact ok_t_M_keeps_2
  | 3, hn =>
    have h2 : td_t_M_keeps 3 = b := by unfold td_t_M_keeps; rw [hn]; rfl
    rw [← h2]; exact ok_t_M_keeps_3
  | 4, hn =>
    have h2 : td_t_M_keeps 4 = b := by unfold td_t_M_keeps; rw [hn]; rfl
    rw [← h2]; exact ok_t_M_keeps_4
  | 5, hn =>
    have h2 : td_t_M_keeps 5 = b := by unfold td_t_M_keeps; rw [hn]; rfl
    rw [← h2]; exact ok_t_M_keeps_5
  | 6, hn =>
    have h2 : td_t_M_keeps 6 = b := by unfold td_t_M_keeps; rw [hn]; rfl
    rw [← h2]; exact ok_t_M_keeps_6
  | n + 7, hn =>
    rw [pe_at_eq] at hn
    exact absurd (List.getElem?_eq_some_iff.mp hn).1 (by show ¬ n + 7 < 7; omega)
theorem ok_t_M_keeps : pe_okM (pe_GA []) pe_cl pe_ckA t_M_keeps = true := pe_okM_mk (pe_w_of (by rfl) (by rfl)) (by decide +kernel) ok_t_M_keeps_a
def td_t_XH_isStale (k : Nat) : Nat × List pe_I := (pe_at t_XH_isStale.bl k).getD (0, [])
set_option maxRecDepth 40000 in
theorem ok_t_XH_isStale_0 : pe_ckB (pe_GA []) pe_cl pe_ckA t_XH_isStale (td_t_XH_isStale 0).1 (td_t_XH_isStale 0).2 = true := by decide +kernel
set_option maxRecDepth 40000 in
theorem ok_t_XH_isStale_1 : pe_ckB (pe_GA []) pe_cl pe_ckA t_XH_isStale (td_t_XH_isStale 1).1 (td_t_XH_isStale 1).2 = true := by decide +kernel
set_option maxRecDepth 40000 in
theorem ok_t_XH_isStale_2 : pe_ckB (pe_GA []) pe_cl pe_ckA t_XH_isStale (td_t_XH_isStale 2).1 (td_t_XH_isStale 2).2 = true := by decide +kernel
set_option maxRecDepth 40000 in
theorem ok_t_XH_isStale_3 : pe_ckB (pe_GA []) pe_cl pe_ckA t_XH_isStale (td_t_XH_isStale 3).1 (td_t_XH_isStale 3).2 = true := by decide +kernel
set_option maxRecDepth 40000 in
theorem ok_t_XH_isStale_4 : pe_ckB (pe_GA []) pe_cl pe_ckA t_XH_isStale (td_t_XH_isStale 4).1 (td_t_XH_isStale 4).2 = true := by decide +kernel
set_option maxRecDepth 40000 in
theorem ok_t_XH_isStale_5 : pe_ckB (pe_GA []) pe_cl pe_ckA t_XH_isStale (td_t_XH_isStale 5).1 (td_t_XH_isStale 5).2 = true := by decide +kernel
set_option maxRecDepth 40000 in
theorem ok_t_XH_isStale_6 : pe_ckB (pe_GA []) pe_cl pe_ckA t_XH_isStale (td_t_XH_isStale 6).1 (td_t_XH_isStale 6).2 = true := by decide +kernel
set_option maxRecDepth 40000 in
theorem ok_t_XH_isStale_7 : pe_ckB (pe_GA []) pe_cl pe_ckA t_XH_isStale (td_t_XH_isStale 7).1 (td_t_XH_isStale 7).2 = true := by decide +kernel
theorem ok_t_XH_isStale_a : ∀ b ∈ t_XH_isStale.bl, pe_ckB (pe_GA []) pe_cl pe_ckA t_XH_isStale b.1 b.2 = true := by
  intro b hb
  obtain ⟨n, hn⟩ := List.getElem?_of_mem hb
  rw [← pe_at_eq] at hn
  match n, hn with
  | 0, hn =>
    have h2 : td_t_XH_isStale 0 = b := by unfold td_t_XH_isStale; rw [hn]; rfl
    rw [← h2]; exact ok_t_XH_isStale_0
  | 1, hn =>
    have h2 : td_t_XH_isStale 1 = b := by unfold td_t_XH_isStale; rw [hn]; rfl
    rw [← h2]; exact ok_t_XH_isStale_1
  | 2, hn =>
    have h2 : td_t_XH_isStale 2 = b := by unfold td_t_XH_isStale; rw [hn]; rfl
    rw [← h2]; exact ok_t_XH_isStale_2
  | 3, hn =>
    have h2 : td_t_XH_isStale 3 = b := by unfold td_t_XH_isStale; rw [hn]; rfl
    rw [← h2]; exact ok_t_XH_isStale_3
  | 4, hn =>
    have h2 : td_t_XH_isStale 4 = b := by unfold td_t_XH_isStale; rw [hn]; rfl
    rw [← h2]; exact ok_t_XH_isStale_4
  | 5, hn =>
    have h2 : td_t_XH_isStale 5 = b := by unfold td_t_XH_isStale; rw [hn]; rfl
    rw [← h2]; exact ok_t_XH_isStale_5
  | 6, hn =>
    have h2 : td_t_XH_isStale 6 = b := by unfold td_t_XH_isStale; rw [hn]; rfl
    rw [← h2]; exact ok_t_XH_isStale_6
  | 7, hn =>
    have h2 : td_t_XH_isStale 7 = b := by unfold td_t_XH_isStale; rw [hn]; rfl
    rw [← h2]; exact ok_t_XH_isStale_7
  | n + 8, hn =>
    rw [pe_at_eq] at hn
    exact absurd (List.getElem?_eq_some_iff.mp hn).1 (by show ¬ n + 8 < 8; omega)
theorem ok_t_XH_isStale : pe_okM (pe_GA []) pe_cl pe_ckA t_XH_isStale = true := pe_okM_mk (pe_w_of (by rfl) (by rfl)) (by decide +kernel) ok_t_XH_isStale_a
def td_t_M_isStale (k : Nat) : Nat × List pe_I := (pe_at t_M_isStale.bl k).getD (0, [])
set_option maxRecDepth 40000 in
theorem ok_t_M_isStale_0 : pe_ckB (pe_GA []) pe_cl pe_ckA t_M_isStale (td_t_M_isStale 0).1 (td_t_M_isStale 0).2 = true := by decide +kernel
set_option maxRecDepth 40000 in
theorem ok_t_M_isStale_1 : pe_ckB (pe_GA []) pe_cl pe_ckA t_M_isStale (td_t_M_isStale 1).1 (td_t_M_isStale 1).2 = true := by decide +kernel
set_option maxRecDepth 40000 in
theorem ok_t_M_isStale_2 : pe_ckB (pe_GA []) pe_cl pe_ckA t_M_isStale (td_t_M_isStale 2).1 (td_t_M_isStale 2).2 = true := by decide +kernel
set_option maxRecDepth 40000 in
theorem ok_t_M_isStale_3 : pe_ckB (pe_GA []) pe_cl pe_ckA t_M_isStale (td_t_M_isStale 3).1 (td_t_M_isStale 3).2 = true := by decide +kernel
set_option maxRecDepth 40000 in
theorem ok_t_M_isStale_4 : pe_ckB (pe_GA []) pe_cl pe_ckA t_M_isStale (td_t_M_isStale 4).1 (td_t_M_isStale 4).2 = true := by decide +kernel
set_option maxRecDepth 40000 in
theorem ok_t_M_isStale_5 : pe_ckB (pe_GA []) pe_cl pe_ckA t_M_isStale (td_t_M_isStale 5).1 (td_t_M_isStale 5).2 = true := by decide +kernel
set_option maxRecDepth 40000 in
theorem ok_t_M_isStale_6 : pe_ckB (pe_GA []) pe_cl pe_ckA t_M_isStale (td_t_M_isStale 6).1 (td_t_M_isStale 6).2 = true := by decide +kernel
set_option maxRecDepth 40000 in
theorem ok_t_M_isStale_7 : pe_ckB (pe_GA []) pe_cl pe_ckA t_M_isStale (td_t_M_isStale 7).1 (td_t_M_isStale 7).2 = true := by decide +kernel
set_option maxRecDepth 40000 in
theorem ok_t_M_isStale_8 : pe_ckB (pe_GA []) pe_cl pe_ckA t_M_isStale (td_t_M_isStale 8).1 (td_t_M_isStale 8).2 = true := by decide +kernel
set_option maxRecDepth 40000 in
theorem ok_t_M_isStale_9 : pe_ckB (pe_GA []) pe_cl pe_ckA t_M_isStale (td_t_M_isStale 9).1 (td_t_M_isStale 9).2 = true := by decide +kernel
theorem ok_t_M_isStale_a : ∀ b ∈ t_M_isStale.bl, pe_ckB (pe_GA []) pe_cl pe_ckA t_M_isStale b.1 b.2 = true := by
  intro b hb
  obtain ⟨n, hn⟩ := List.getElem?_of_mem hb
  rw [← pe_at_eq] at hn
  match n, hn with
  | 0, hn =>
    have h2 : td_t_M_isStale 0 = b := by unfold td_t_M_isStale; rw [hn]; rfl
    rw [← h2]; exact ok_t_M_isStale_0
  | 1, hn =>
    have h2 : td_t_M_isStale 1 = b := by unfold td_t_M_isStale; rw [hn]; rfl
    rw [← h2]; exact ok_t_M_isStale_1
  | 2, hn =>
    have h2 : td_t_M_isStale 2 = b := by unfold td_t_M_isStale; rw [hn]; rfl
    rw [← h2]; exact ok_t_M_isStale_2
  | 3, hn =>
    have h2 : td_t_M_isStale 3 = b := by unfold td_t_M_isStale; rw [hn]; rfl
    rw [← h2]; exact ok_t_M_isStale_3
  | 4, hn =>
    have h2 : td_t_M_isStale 4 = b := by unfold td_t_M_isStale; rw [hn]; rfl
    rw [← h2]; exact ok_t_M_isStale_4
  | 5, hn =>
    have h2 : td_t_M_isStale 5 = b := by unfold td_t_M_isStale; rw [hn]; rfl
    rw [← h2]; exact ok_t_M_isStale_5
  | 6, hn =>
    have h2 : td_t_M_isStale 6 = b := by unfold td_t_M_isStale; rw [hn]; rfl
    rw [← h2]; exact ok_t_M_isStale_6
  | 7, hn =>
    have h2 : td_t_M_isStale 7 = b := by unfold td_t_M_isStale; rw [hn]; rfl
    rw [← h2]; exact ok_t_M_isStale_7
  | 8, hn =>
    have h2 : td_t_M_isStale 8 = b := by unfold td_t_M_isStale; rw [hn]; rfl
    rw [← h2]; exact ok_t_M_isStale_8
  | 9, hn =>
    have h2 : td_t_M_isStale 9 = b := by unfold td_t_M_isStale; rw [hn]; rfl
    rw [← h2]; exact ok_t_M_isStale_9
  | n + 10, hn =>
    rw [pe_at_eq] at hn
    exact absurd (List.getElem?_eq_some_iff.mp hn).1 (by show ¬ n + 10 < 10; omega)
theorem ok_t_M_isStale : pe_okM (pe_GA []) pe_cl pe_ckA t_M_isStale = true := pe_okM_mk (pe_w_of (by rfl) (by rfl)) (by decide +kernel) ok_t_M_isStale_a
set_option maxRecDepth 40000 in
theorem ok_t_XH_hasRoom : pe_okM (pe_GA []) pe_cl pe_ckA t_XH_hasRoom = true := by decide +kernel
set_option maxRecDepth 40000 in
theorem ok_t_XK_begin : pe_okM (pe_GA []) pe_cl pe_ckA t_XK_begin = true := by decide +kernel
set_option maxRecDepth 40000 in
theorem ok_t_M_hasRoomForCall : pe_okM (pe_GA []) pe_cl pe_ckA t_M_hasRoomForCall = true := by decide +kernel
set_option maxRecDepth 40000 in
theorem ok_t_M_takesTask : pe_okM (pe_GA []) pe_cl pe_ckA t_M_takesTask = true := by decide +kernel
def td_t_M_newCall (k : Nat) : Nat × List pe_I := (pe_at t_M_newCall.bl k).getD (0, [])
set_option maxRecDepth 40000 in
theorem ok_t_M_newCall_0 : pe_ckB (pe_GA []) pe_cl pe_ckA t_M_newCall (td_t_M_newCall 0).1 (td_t_M_newCall 0).2 = true := by decide +kernel
set_option maxRecDepth 40000 in
theorem ok_t_M_newCall_1 : pe_ckB (pe_GA []) pe_cl pe_ckA t_M_newCall (td_t_M_newCall 1).1 (td_t_M_newCall 1).2 = true := by decide +kernel
set_option maxRecDepth 40000 in
theorem ok_t_M_newCall_2 : pe_ckB (pe_GA []) pe_cl pe_ckA t_M_newCall (td_t_M_newCall 2).1 (td_t_M_newCall 2).2 = true := by decide +kernel
set_option maxRecDepth 40000 in
theorem ok_t_M_newCall_3 : pe_ckB (pe_GA []) pe_cl pe_ckA t_M_newCall (td_t_M_newCall 3).1 (td_t_M_newCall 3).2 = true := by decide +kernel
set_option maxRecDepth 40000 in
theorem ok_t_M_newCall_4 : pe_ckB (pe_GA []) pe_cl pe_ckA t_M_newCall (td_t_M_newCall 4).1 (td_t_M_newCall 4).2 = true := by decide +kernel
set_option maxRecDepth 40000 in
theorem ok_t_M_newCall_5 : pe_ckB (pe_GA []) pe_cl pe_ckA t_M_newCall (td_t_M_newCall 5).1 (td_t_M_newCall 5).2 = true := by decide +kernel
set_option maxRecDepth 40000 in
theorem ok_t_M_newCall_6 : pe_ckB (pe_GA []) pe_cl pe_ckA t_M_newCall (td_t_M_newCall 6).1 (td_t_M_newCall 6).2 = true := by decide +kernel
set_option maxRecDepth 40000 in
theorem ok_t_M_newCall_7 : pe_ckB (pe_GA []) pe_cl pe_ckA t_M_newCall (td_t_M_newCall 7).1 (td_t_M_newCall 7).2 = true := by decide +kernel
set_option maxRecDepth 40000 in
theorem ok_t_M_newCall_8 : pe_ckB (pe_GA []) pe_cl pe_ckA t_M_newCall (td_t_M_newCall 8).1 (td_t_M_newCall 8).2 = true := by decide +kernel
theorem ok_t_M_newCall_a : ∀ b ∈ t_M_newCall.bl, pe_ckB (pe_GA []) pe_cl pe_ckA t_M_newCall b.1 b.2 = true := by
  intro b hb
  obtain ⟨n, hn⟩ := List.getElem?_of_mem hb
  rw [← pe_at_eq] at hn
  match n, hn with
  | 0, hn =>
    have h2 : td_t_M_newCall 0 = b := by unfold td_t_M_newCall; rw [hn]; rfl
    rw [← h2]; exact ok_t_M_newCall_0
  | 1, hn =>
    have h2 : td_t_M_newCall 1 = b := by unfold td_t_M_newCall; rw [hn]; rfl
    rw [← h2]; exact ok_t_M_newCall_1
  | 2, hn =>
    have h2 : td_t_M_newCall 2 = b := by unfold td_t_M_newCall; rw [hn]; rfl
    rw [← h2]; exact ok_t_M_newCall_2
  | 3, hn =>
    have h2 : td_t_M_newCall 3 = b := by unfold td_t_M_newCall; rw [hn]; rfl
    rw [← h2]; exact ok_t_M_newCall_3
  | 4, hn =>
    have h2 : td_t_M_newCall 4 = b := by unfold td_t_M_newCall; rw [hn]; rfl
    rw [← h2]; exact ok_t_M_newCall_4
  | 5, hn =>
    have h2 : td_t_M_newCall 5 = b := by unfold td_t_M_newCall; rw [hn]; rfl
    rw [← h2]; exact ok_t_M_newCall_5
  | 6, hn =>
    have h2 : td_t_M_newCall 6 = b := by unfold td_t_M_newCall; rw [hn]; rfl
    rw [← h2]; exact ok_t_M_newCall_6
  | 7, hn =>
    have h2 : td_t_M_newCall 7 = b := by unfold td_t_M_newCall; rw [hn]; rfl
    rw [← h2]; exact ok_t_M_newCall_7
  | 8, hn =>
    have h2 : td_t_M_newCall 8 = b := by unfold td_t_M_newCall; rw [hn]; rfl
    rw [← h2]; exact ok_t_M_newCall_8
  | n + 9, hn =>
    rw [pe_at_eq] at hn
    exact absurd (List.getElem?_eq_some_iff.mp hn).1 (by show ¬ n + 9 < 9; omega)
theorem ok_t_M_newCall : pe_okM (pe_GA []) pe_cl pe_ckA t_M_newCall = true := pe_okM_mk (pe_w_of (by rfl) (by rfl)) (by decide +kernel) ok_t_M_newCall_a
set_option maxRecDepth 40000 in
theorem ok_t_M_enters : pe_okM (pe_GA []) pe_cl pe_ckA t_M_enters = true := by decide +kernel
def td_t_X_steps (k : Nat) : Nat × List pe_I := (pe_at t_X_steps.bl k).getD (0, [])
set_option maxRecDepth 40000 in
theorem ok_t_X_steps_0 : pe_ckB (pe_GA []) pe_cl pe_ckA t_X_steps (td_t_X_steps 0).1 (td_t_X_steps 0).2 = true := by decide +kernel
set_option maxRecDepth 40000 in
theorem ok_t_X_steps_1 : pe_ckB (pe_GA []) pe_cl pe_ckA t_X_steps (td_t_X_steps 1).1 (td_t_X_steps 1).2 = true := by decide +kernel
set_option maxRecDepth 40000 in
theorem ok_t_X_steps_2 : pe_ckB (pe_GA []) pe_cl pe_ckA t_X_steps (td_t_X_steps 2).1 (td_t_X_steps 2).2 = true := by decide +kernel
set_option maxRecDepth 40000 in
theorem ok_t_X_steps_3 : pe_ckB (pe_GA []) pe_cl pe_ckA t_X_steps (td_t_X_steps 3).1 (td_t_X_steps 3).2 = true := by decide +kernel
set_option maxRecDepth 40000 in
theorem ok_t_X_steps_4 : pe_ckB (pe_GA []) pe_cl pe_ckA t_X_steps (td_t_X_steps 4).1 (td_t_X_steps 4).2 = true := by decide +kernel
set_option maxRecDepth 40000 in
theorem ok_t_X_steps_5 : pe_ckB (pe_GA []) pe_cl pe_ckA t_X_steps (td_t_X_steps 5).1 (td_t_X_steps 5).2 = true := by decide +kernel
set_option maxRecDepth 40000 in
theorem ok_t_X_steps_6 : pe_ckB (pe_GA []) pe_cl pe_ckA t_X_steps (td_t_X_steps 6).1 (td_t_X_steps 6).2 = true := by decide +kernel
theorem ok_t_X_steps_a : ∀ b ∈ t_X_steps.bl, pe_ckB (pe_GA []) pe_cl pe_ckA t_X_steps b.1 b.2 = true := by
  intro b hb
  obtain ⟨n, hn⟩ := List.getElem?_of_mem hb
  rw [← pe_at_eq] at hn
  match n, hn with
  | 0, hn =>
    have h2 : td_t_X_steps 0 = b := by unfold td_t_X_steps; rw [hn]; rfl
    rw [← h2]; exact ok_t_X_steps_0
  | 1, hn =>
    have h2 : td_t_X_steps 1 = b := by unfold td_t_X_steps; rw [hn]; rfl
    rw [← h2]; exact ok_t_X_steps_1
  | 2, hn =>
    have h2 : td_t_X_steps 2 = b := by unfold td_t_X_steps; rw [hn]; rfl
    rw [← h2]; exact ok_t_X_steps_2
  | 3, hn =>
    have h2 : td_t_X_steps 3 = b := by unfold td_t_X_steps; rw [hn]; rfl
    rw [← h2]; exact ok_t_X_steps_3
  | 4, hn =>
    have h2 : td_t_X_steps 4 = b := by unfold td_t_X_steps; rw [hn]; rfl
    rw [← h2]; exact ok_t_X_steps_4
  | 5, hn =>
    have h2 : td_t_X_steps 5 = b := by unfold td_t_X_steps; rw [hn]; rfl
    rw [← h2]; exact ok_t_X_steps_5
  | 6, hn =>
    have h2 : td_t_X_steps 6 = b := by unfold td_t_X_steps; rw [hn]; rfl
    rw [← h2]; exact ok_t_X_steps_6
  | n + 7, hn =>
    rw [pe_at_eq] at hn
    exact absurd (List.getElem?_eq_some_iff.mp hn).1 (by show ¬ n + 7 < 7; omega)
theorem ok_t_X_steps : pe_okM (pe_GA []) pe_cl pe_ckA t_X_steps = true := pe_okM_mk (pe_w_of (by rfl) (by rfl)) (by decide +kernel) ok_t_X_steps_a
def td_t_M_does (k : Nat) : Nat × List pe_I := (pe_at t_M_does.bl k).getD (0, [])
set_option maxRecDepth 40000 in
theorem ok_t_M_does_0 : pe_ckB (pe_GA []) pe_cl pe_ckA t_M_does (td_t_M_does 0).1 (td_t_M_does 0).2 = true := by decide +kernel
set_option maxRecDepth 40000 in
theorem ok_t_M_does_1 : pe_ckB (pe_GA []) pe_cl pe_ckA t_M_does (td_t_M_does 1).1 (td_t_M_does 1).2 = true := by decide +kernel
set_option maxRecDepth 40000 in
theorem ok_t_M_does_2 : pe_ckB (pe_GA []) pe_cl pe_ckA t_M_does (td_t_M_does 2).1 (td_t_M_does 2).2 = true := by decide +kernel
set_option maxRecDepth 40000 in
theorem ok_t_M_does_3 : pe_ckB (pe_GA []) pe_cl pe_ckA t_M_does (td_t_M_does 3).1 (td_t_M_does 3).2 = true := by decide +kernel
set_option maxRecDepth 40000 in
theorem ok_t_M_does_4 : pe_ckB (pe_GA []) pe_cl pe_ckA t_M_does (td_t_M_does 4).1 (td_t_M_does 4).2 = true := by decide +kernel
set_option maxRecDepth 40000 in
theorem ok_t_M_does_5 : pe_ckB (pe_GA []) pe_cl pe_ckA t_M_does (td_t_M_does 5).1 (td_t_M_does 5).2 = true := by decide +kernel
set_option maxRecDepth 40000 in
theorem ok_t_M_does_6 : pe_ckB (pe_GA []) pe_cl pe_ckA t_M_does (td_t_M_does 6).1 (td_t_M_does 6).2 = true := by decide +kernel
set_option maxRecDepth 40000 in
theorem ok_t_M_does_7 : pe_ckB (pe_GA []) pe_cl pe_ckA t_M_does (td_t_M_does 7).1 (td_t_M_does 7).2 = true := by decide +kernel
theorem ok_t_M_does_a : ∀ b ∈ t_M_does.bl, pe_ckB (pe_GA []) pe_cl pe_ckA t_M_does b.1 b.2 = true := by
  intro b hb
  obtain ⟨n, hn⟩ := List.getElem?_of_mem hb
  rw [← pe_at_eq] at hn
  match n, hn with
  | 0, hn =>
    have h2 : td_t_M_does 0 = b := by unfold td_t_M_does; rw [hn]; rfl
    rw [← h2]; exact ok_t_M_does_0
  | 1, hn =>
    have h2 : td_t_M_does 1 = b := by unfold td_t_M_does; rw [hn]; rfl
    rw [← h2]; exact ok_t_M_does_1
  | 2, hn =>
    have h2 : td_t_M_does 2 = b := by unfold td_t_M_does; rw [hn]; rfl
    rw [← h2]; exact ok_t_M_does_2
  | 3, hn =>
    have h2 : td_t_M_does 3 = b := by unfold td_t_M_does; rw [hn]; rfl
    rw [← h2]; exact ok_t_M_does_3
  | 4, hn =>
    have h2 : td_t_M_does 4 = b := by unfold td_t_M_does; rw [hn]; rfl
    rw [← h2]; exact ok_t_M_does_4
  | 5, hn =>
    have h2 : td_t_M_does 5 = b := by unfold td_t_M_does; rw [hn]; rfl
    rw [← h2]; exact ok_t_M_does_5
  | 6, hn =>
    have h2 : td_t_M_does 6 = b := by unfold td_t_M_does; rw [hn]; rfl
    rw [← h2]; exact ok_t_M_does_6
  | 7, hn =>
    have h2 : td_t_M_does 7 = b := by unfold td_t_M_does; rw [hn]; rfl
    rw [← h2]; exact ok_t_M_does_7
  | n + 8, hn =>
    rw [pe_at_eq] at hn
    exact absurd (List.getElem?_eq_some_iff.mp hn).1 (by show ¬ n + 8 < 8; omega)
theorem ok_t_M_does : pe_okM (pe_GA []) pe_cl pe_ckA t_M_does = true := pe_okM_mk (pe_w_of (by rfl) (by rfl)) (by decide +kernel) ok_t_M_does_a
set_option maxRecDepth 40000 in
theorem ok_t_M_thrownIs : pe_okM (pe_GA []) pe_cl pe_ckA t_M_thrownIs = true := by decide +kernel
set_option maxRecDepth 40000 in
theorem ok_t_X_result : pe_okM (pe_GA []) pe_cl pe_ckA t_X_result = true := by decide +kernel
set_option maxRecDepth 40000 in
theorem ok_t_M_told : pe_okM (pe_GA []) pe_cl pe_ckA t_M_told = true := by decide +kernel
set_option maxRecDepth 40000 in
theorem ok_t_X_sliceSize : pe_okM (pe_GA []) pe_cl pe_ckA t_X_sliceSize = true := by decide +kernel
set_option maxRecDepth 40000 in
theorem ok_t_X_sliceStart : pe_okM (pe_GA []) pe_cl pe_ckA t_X_sliceStart = true := by decide +kernel
def td_t_X_global (k : Nat) : Nat × List pe_I := (pe_at t_X_global.bl k).getD (0, [])
set_option maxRecDepth 40000 in
theorem ok_t_X_global_0 : pe_ckB (pe_GA []) pe_cl pe_ckA t_X_global (td_t_X_global 0).1 (td_t_X_global 0).2 = true := by decide +kernel
set_option maxRecDepth 40000 in
theorem ok_t_X_global_1 : pe_ckB (pe_GA []) pe_cl pe_ckA t_X_global (td_t_X_global 1).1 (td_t_X_global 1).2 = true := by decide +kernel
set_option maxRecDepth 40000 in
theorem ok_t_X_global_2 : pe_ckB (pe_GA []) pe_cl pe_ckA t_X_global (td_t_X_global 2).1 (td_t_X_global 2).2 = true := by decide +kernel
set_option maxRecDepth 40000 in
theorem ok_t_X_global_3 : pe_ckB (pe_GA []) pe_cl pe_ckA t_X_global (td_t_X_global 3).1 (td_t_X_global 3).2 = true := by decide +kernel
set_option maxRecDepth 40000 in
theorem ok_t_X_global_4 : pe_ckB (pe_GA []) pe_cl pe_ckA t_X_global (td_t_X_global 4).1 (td_t_X_global 4).2 = true := by decide +kernel
theorem ok_t_X_global_a : ∀ b ∈ t_X_global.bl, pe_ckB (pe_GA []) pe_cl pe_ckA t_X_global b.1 b.2 = true := by
  intro b hb
  obtain ⟨n, hn⟩ := List.getElem?_of_mem hb
  rw [← pe_at_eq] at hn
  match n, hn with
  | 0, hn =>
    have h2 : td_t_X_global 0 = b := by unfold td_t_X_global; rw [hn]; rfl
    rw [← h2]; exact ok_t_X_global_0
  | 1, hn =>
    have h2 : td_t_X_global 1 = b := by unfold td_t_X_global; rw [hn]; rfl
    rw [← h2]; exact ok_t_X_global_1
  | 2, hn =>
    have h2 : td_t_X_global 2 = b := by unfold td_t_X_global; rw [hn]; rfl
    rw [← h2]; exact ok_t_X_global_2
  | 3, hn =>
    have h2 : td_t_X_global 3 = b := by unfold td_t_X_global; rw [hn]; rfl
    rw [← h2]; exact ok_t_X_global_3
  | 4, hn =>
    have h2 : td_t_X_global 4 = b := by unfold td_t_X_global; rw [hn]; rfl
    rw [← h2]; exact ok_t_X_global_4
  | n + 5, hn =>
    rw [pe_at_eq] at hn
    exact absurd (List.getElem?_eq_some_iff.mp hn).1 (by show ¬ n + 5 < 5; omega)
theorem ok_t_X_global : pe_okM (pe_GA []) pe_cl pe_ckA t_X_global = true := pe_okM_mk (pe_w_of (by rfl) (by rfl)) (by decide +kernel) ok_t_X_global_a
def td_t_M_findName (k : Nat) : Nat × List pe_I := (pe_at t_M_findName.bl k).getD (0, [])
set_option maxRecDepth 40000 in
theorem ok_t_M_findName_0 : pe_ckB (pe_GA []) pe_cl pe_ckA t_M_findName (td_t_M_findName 0).1 (td_t_M_findName 0).2 = true := by decide +kernel
set_option maxRecDepth 40000 in
theorem ok_t_M_findName_1 : pe_ckB (pe_GA []) pe_cl pe_ckA t_M_findName (td_t_M_findName 1).1 (td_t_M_findName 1).2 = true := by decide +kernel
set_option maxRecDepth 40000 in
theorem ok_t_M_findName_2 : pe_ckB (pe_GA []) pe_cl pe_ckA t_M_findName (td_t_M_findName 2).1 (td_t_M_findName 2).2 = true := by decide +kernel
set_option maxRecDepth 40000 in
theorem ok_t_M_findName_3 : pe_ckB (pe_GA []) pe_cl pe_ckA t_M_findName (td_t_M_findName 3).1 (td_t_M_findName 3).2 = true := by decide +kernel
set_option maxRecDepth 40000 in
theorem ok_t_M_findName_4 : pe_ckB (pe_GA []) pe_cl pe_ckA t_M_findName (td_t_M_findName 4).1 (td_t_M_findName 4).2 = true := by decide +kernel
set_option maxRecDepth 40000 in
theorem ok_t_M_findName_5 : pe_ckB (pe_GA []) pe_cl pe_ckA t_M_findName (td_t_M_findName 5).1 (td_t_M_findName 5).2 = true := by decide +kernel
set_option maxRecDepth 40000 in
theorem ok_t_M_findName_6 : pe_ckB (pe_GA []) pe_cl pe_ckA t_M_findName (td_t_M_findName 6).1 (td_t_M_findName 6).2 = true := by decide +kernel
set_option maxRecDepth 40000 in
theorem ok_t_M_findName_7 : pe_ckB (pe_GA []) pe_cl pe_ckA t_M_findName (td_t_M_findName 7).1 (td_t_M_findName 7).2 = true := by decide +kernel
set_option maxRecDepth 40000 in
theorem ok_t_M_findName_8 : pe_ckB (pe_GA []) pe_cl pe_ckA t_M_findName (td_t_M_findName 8).1 (td_t_M_findName 8).2 = true := by decide +kernel
set_option maxRecDepth 40000 in
theorem ok_t_M_findName_9 : pe_ckB (pe_GA []) pe_cl pe_ckA t_M_findName (td_t_M_findName 9).1 (td_t_M_findName 9).2 = true := by decide +kernel
theorem ok_t_M_findName_a : ∀ b ∈ t_M_findName.bl, pe_ckB (pe_GA []) pe_cl pe_ckA t_M_findName b.1 b.2 = true := by
  intro b hb
  obtain ⟨n, hn⟩ := List.getElem?_of_mem hb
  rw [← pe_at_eq] at hn
  match n, hn with
  | 0, hn =>
    have h2 : td_t_M_findName 0 = b := by unfold td_t_M_findName; rw [hn]; rfl
    rw [← h2]; exact ok_t_M_findName_0
  | 1, hn =>
    have h2 : td_t_M_findName 1 = b := by unfold td_t_M_findName; rw [hn]; rfl
    rw [← h2]; exact ok_t_M_findName_1
  | 2, hn =>
    have h2 : td_t_M_findName 2 = b := by unfold td_t_M_findName; rw [hn]; rfl
    rw [← h2]; exact ok_t_M_findName_2
  | 3, hn =>
    have h2 : td_t_M_findName 3 = b := by unfold td_t_M_findName; rw [hn]; rfl
    rw [← h2]; exact ok_t_M_findName_3
  | 4, hn =>
    have h2 : td_t_M_findName 4 = b := by unfold td_t_M_findName; rw [hn]; rfl
    rw [← h2]; exact ok_t_M_findName_4
  | 5, hn =>
    have h2 : td_t_M_findName 5 = b := by unfold td_t_M_findName; rw [hn]; rfl
    rw [← h2]; exact ok_t_M_findName_5
  | 6, hn =>
    have h2 : td_t_M_findName 6 = b := by unfold td_t_M_findName; rw [hn]; rfl
    rw [← h2]; exact ok_t_M_findName_6
  | 7, hn =>
    have h2 : td_t_M_findName 7 = b := by unfold td_t_M_findName; rw [hn]; rfl
    rw [← h2]; exact ok_t_M_findName_7
  | 8, hn =>
    have h2 : td_t_M_findName 8 = b := by unfold td_t_M_findName; rw [hn]; rfl
    rw [← h2]; exact ok_t_M_findName_8
  | 9, hn =>
    have h2 : td_t_M_findName 9 = b := by unfold td_t_M_findName; rw [hn]; rfl
    rw [← h2]; exact ok_t_M_findName_9
  | n + 10, hn =>
    rw [pe_at_eq] at hn
    exact absurd (List.getElem?_eq_some_iff.mp hn).1 (by show ¬ n + 10 < 10; omega)
theorem ok_t_M_findName : pe_okM (pe_GA []) pe_cl pe_ckA t_M_findName = true := pe_okM_mk (pe_w_of (by rfl) (by rfl)) (by decide +kernel) ok_t_M_findName_a
