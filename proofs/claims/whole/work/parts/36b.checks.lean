/-! PART 36b: the methods of part 36, checked once. -/
set_option maxRecDepth 40000 in
theorem nk_26 : pe_okM (pe_GL []) pe_cl pe_ckS tn_26 = true := by decide +kernel
set_option maxRecDepth 40000 in
theorem nk_27 : pe_okM (pe_GL []) pe_cl pe_ckS tn_27 = true := by decide +kernel
def td_28 (k : Nat) : Nat × List pe_I := (pe_at tn_28.bl k).getD (0, [])
set_option maxRecDepth 40000 in
theorem nk_28_0 : pe_ckB (pe_GL []) pe_cl pe_ckS tn_28 (td_28 0).1 (td_28 0).2 = true := by decide +kernel
set_option maxRecDepth 40000 in
theorem nk_28_1 : pe_ckB (pe_GL []) pe_cl pe_ckS tn_28 (td_28 1).1 (td_28 1).2 = true := by decide +kernel
set_option maxRecDepth 40000 in
theorem nk_28_2 : pe_ckB (pe_GL []) pe_cl pe_ckS tn_28 (td_28 2).1 (td_28 2).2 = true := by decide +kernel
set_option maxRecDepth 40000 in
theorem nk_28_3 : pe_ckB (pe_GL []) pe_cl pe_ckS tn_28 (td_28 3).1 (td_28 3).2 = true := by decide +kernel
set_option maxRecDepth 40000 in
theorem nk_28_4 : pe_ckB (pe_GL []) pe_cl pe_ckS tn_28 (td_28 4).1 (td_28 4).2 = true := by decide +kernel
set_option maxRecDepth 40000 in
theorem nk_28_5 : pe_ckB (pe_GL []) pe_cl pe_ckS tn_28 (td_28 5).1 (td_28 5).2 = true := by decide +kernel
set_option maxRecDepth 40000 in
theorem nk_28_6 : pe_ckB (pe_GL []) pe_cl pe_ckS tn_28 (td_28 6).1 (td_28 6).2 = true := by decide +kernel
set_option maxRecDepth 40000 in
theorem nk_28_7 : pe_ckB (pe_GL []) pe_cl pe_ckS tn_28 (td_28 7).1 (td_28 7).2 = true := by decide +kernel
theorem nk_28_a : ∀ b ∈ tn_28.bl, pe_ckB (pe_GL []) pe_cl pe_ckS tn_28 b.1 b.2 = true := by
  intro b hb
  obtain ⟨n, hn⟩ := List.getElem?_of_mem hb
  rw [← pe_at_eq] at hn
  match n, hn with
  | 0, hn =>
    have h2 : td_28 0 = b := by unfold td_28; rw [hn]; rfl
    rw [← h2]; exact nk_28_0
  | 1, hn =>
    have h2 : td_28 1 = b := by unfold td_28; rw [hn]; rfl
    rw [← h2]; exact nk_28_1
  | 2, hn =>
    have h2 : td_28 2 = b := by unfold td_28; rw [hn]; rfl
    rw [← h2]; exact nk_28_2
  | 3, hn =>
    have h2 : td_28 3 = b := by unfold td_28; rw [hn]; rfl
    rw [← h2]; exact nk_28_3
  | 4, hn =>
    have h2 : td_28 4 = b := by unfold td_28; rw [hn]; rfl
    rw [← h2]; exact nk_28_4
  | 5, hn =>
    have h2 : td_28 5 = b := by unfold td_28; rw [hn]; rfl
    rw [← h2]; exact nk_28_5
  | 6, hn =>
    have h2 : td_28 6 = b := by unfold td_28; rw [hn]; rfl
    rw [← h2]; exact nk_28_6
  | 7, hn =>
    have h2 : td_28 7 = b := by unfold td_28; rw [hn]; rfl
    rw [← h2]; exact nk_28_7
  | n + 8, hn =>
    rw [pe_at_eq] at hn
    exact absurd (List.getElem?_eq_some_iff.mp hn).1 (by show ¬ n + 8 < 8; omega)
theorem nk_28 : pe_okM (pe_GL []) pe_cl pe_ckS tn_28 = true := pe_okM_mk (pe_w_of (by rfl) (by rfl)) (by decide +kernel) nk_28_a
set_option maxRecDepth 40000 in
theorem nk_29 : pe_okM (pe_GL []) pe_cl pe_ckS tn_29 = true := by decide +kernel
def td_30 (k : Nat) : Nat × List pe_I := (pe_at tn_30.bl k).getD (0, [])
set_option maxRecDepth 40000 in
theorem nk_30_0 : pe_ckB (pe_GL []) pe_cl pe_ckS tn_30 (td_30 0).1 (td_30 0).2 = true := by decide +kernel
set_option maxRecDepth 40000 in
theorem nk_30_1 : pe_ckB (pe_GL []) pe_cl pe_ckS tn_30 (td_30 1).1 (td_30 1).2 = true := by decide +kernel
set_option maxRecDepth 40000 in
theorem nk_30_2 : pe_ckB (pe_GL []) pe_cl pe_ckS tn_30 (td_30 2).1 (td_30 2).2 = true := by decide +kernel
set_option maxRecDepth 40000 in
theorem nk_30_3 : pe_ckB (pe_GL []) pe_cl pe_ckS tn_30 (td_30 3).1 (td_30 3).2 = true := by decide +kernel
set_option maxRecDepth 40000 in
theorem nk_30_4 : pe_ckB (pe_GL []) pe_cl pe_ckS tn_30 (td_30 4).1 (td_30 4).2 = true := by decide +kernel
set_option maxRecDepth 40000 in
theorem nk_30_5 : pe_ckB (pe_GL []) pe_cl pe_ckS tn_30 (td_30 5).1 (td_30 5).2 = true := by decide +kernel
set_option maxRecDepth 40000 in
theorem nk_30_6 : pe_ckB (pe_GL []) pe_cl pe_ckS tn_30 (td_30 6).1 (td_30 6).2 = true := by decide +kernel
theorem nk_30_a : ∀ b ∈ tn_30.bl, pe_ckB (pe_GL []) pe_cl pe_ckS tn_30 b.1 b.2 = true := by
  intro b hb
  obtain ⟨n, hn⟩ := List.getElem?_of_mem hb
  rw [← pe_at_eq] at hn
  match n, hn with
  | 0, hn =>
    have h2 : td_30 0 = b := by unfold td_30; rw [hn]; rfl
    rw [← h2]; exact nk_30_0
  | 1, hn =>
    have h2 : td_30 1 = b := by unfold td_30; rw [hn]; rfl
    rw [← h2]; exact nk_30_1
  | 2, hn =>
    have h2 : td_30 2 = b := by unfold td_30; rw [hn]; rfl
    rw [← h2]; exact nk_30_2
  | 3, hn =>
    have h2 : td_30 3 = b := by unfold td_30; rw [hn]; rfl
    rw [← h2]; exact nk_30_3
  | 4, hn =>
    have h2 : td_30 4 = b := by unfold td_30; rw [hn]; rfl
    rw [← h2]; exact nk_30_4
  | 5, hn =>
    have h2 : td_30 5 = b := by unfold td_30; rw [hn]; rfl
    rw [← h2]; exact nk_30_5
  | 6, hn =>
    have h2 : td_30 6 = b := by unfold td_30; rw [hn]; rfl
    rw [← h2]; exact nk_30_6
  | n + 7, hn =>
    rw [pe_at_eq] at hn
    exact absurd (List.getElem?_eq_some_iff.mp hn).1 (by show ¬ n + 7 < 7; omega)
theorem nk_30 : pe_okM (pe_GL []) pe_cl pe_ckS tn_30 = true := pe_okM_mk (pe_w_of (by rfl) (by rfl)) (by decide +kernel) nk_30_a
def td_31 (k : Nat) : Nat × List pe_I := (pe_at tn_31.bl k).getD (0, [])
set_option maxRecDepth 40000 in
theorem nk_31_0 : pe_ckB (pe_GL []) pe_cl pe_ckS tn_31 (td_31 0).1 (td_31 0).2 = true := by decide +kernel
set_option maxRecDepth 40000 in
theorem nk_31_1 : pe_ckB (pe_GL []) pe_cl pe_ckS tn_31 (td_31 1).1 (td_31 1).2 = true := by decide +kernel
set_option maxRecDepth 40000 in
theorem nk_31_2 : pe_ckB (pe_GL []) pe_cl pe_ckS tn_31 (td_31 2).1 (td_31 2).2 = true := by decide +kernel
set_option maxRecDepth 40000 in
theorem nk_31_3 : pe_ckB (pe_GL []) pe_cl pe_ckS tn_31 (td_31 3).1 (td_31 3).2 = true := by decide +kernel
theorem nk_31_a : ∀ b ∈ tn_31.bl, pe_ckB (pe_GL []) pe_cl pe_ckS tn_31 b.1 b.2 = true := by
  intro b hb
  obtain ⟨n, hn⟩ := List.getElem?_of_mem hb
  rw [← pe_at_eq] at hn
  match n, hn with
  | 0, hn =>
    have h2 : td_31 0 = b := by unfold td_31; rw [hn]; rfl
    rw [← h2]; exact nk_31_0
  | 1, hn =>
    have h2 : td_31 1 = b := by unfold td_31; rw [hn]; rfl
    rw [← h2]; exact nk_31_1
  | 2, hn =>
    have h2 : td_31 2 = b := by unfold td_31; rw [hn]; rfl
    rw [← h2]; exact nk_31_2
  | 3, hn =>
    have h2 : td_31 3 = b := by unfold td_31; rw [hn]; rfl
    rw [← h2]; exact nk_31_3
  | n + 4, hn =>
    rw [pe_at_eq] at hn
    exact absurd (List.getElem?_eq_some_iff.mp hn).1 (by show ¬ n + 4 < 4; omega)
theorem nk_31 : pe_okM (pe_GL []) pe_cl pe_ckS tn_31 = true := pe_okM_mk (pe_w_of (by rfl) (by rfl)) (by decide +kernel) nk_31_a
set_option maxRecDepth 40000 in
theorem nk_32 : pe_okM (pe_GL []) pe_cl pe_ckS tn_32 = true := by decide +kernel
set_option maxRecDepth 40000 in
theorem nk_33 : pe_okM (pe_GL []) pe_cl pe_ckS tn_33 = true := by decide +kernel
set_option maxRecDepth 40000 in
theorem nk_34 : pe_okM (pe_GL []) pe_cl pe_ckS tn_34 = true := by decide +kernel
set_option maxRecDepth 40000 in
theorem nk_35 : pe_okM (pe_GL []) pe_cl pe_ckS tn_35 = true := by decide +kernel
set_option maxRecDepth 40000 in
theorem nk_36 : pe_okM (pe_GL []) pe_cl pe_ckS tn_36 = true := by decide +kernel
set_option maxRecDepth 40000 in
theorem nk_37 : pe_okM (pe_GL []) pe_cl pe_ckS tn_37 = true := by decide +kernel
set_option maxRecDepth 40000 in
theorem nk_38 : pe_okM (pe_GL []) pe_cl pe_ckS tn_38 = true := by decide +kernel
set_option maxRecDepth 40000 in
theorem nk_39 : pe_okM (pe_GL []) pe_cl pe_ckS tn_39 = true := by decide +kernel
set_option maxRecDepth 40000 in
theorem nk_40 : pe_okM (pe_GL []) pe_cl pe_ckS tn_40 = true := by decide +kernel
set_option maxRecDepth 40000 in
theorem nk_41 : pe_okM (pe_GL []) pe_cl pe_ckS tn_41 = true := by decide +kernel
set_option maxRecDepth 40000 in
theorem nk_42 : pe_okM (pe_GL []) pe_cl pe_ckS tn_42 = true := by decide +kernel
set_option maxRecDepth 40000 in
theorem nk_43 : pe_okM (pe_GL []) pe_cl pe_ckS tn_43 = true := by decide +kernel
set_option maxRecDepth 40000 in
theorem nk_44 : pe_okM (pe_GL []) pe_cl pe_ckS tn_44 = true := by decide +kernel
set_option maxRecDepth 40000 in
theorem nk_45 : pe_okM (pe_GL []) pe_cl pe_ckS tn_45 = true := by decide +kernel
set_option maxRecDepth 40000 in
theorem nk_46 : pe_okM (pe_GL []) pe_cl pe_ckS tn_46 = true := by decide +kernel
set_option maxRecDepth 40000 in
theorem nk_47 : pe_okM (pe_GL []) pe_cl pe_ckS tn_47 = true := by decide +kernel
set_option maxRecDepth 40000 in
theorem nk_48 : pe_okM (pe_GL []) pe_cl pe_ckS tn_48 = true := by decide +kernel
set_option maxRecDepth 40000 in
theorem nk_49 : pe_okM (pe_GL []) pe_cl pe_ckS tn_49 = true := by decide +kernel
set_option maxRecDepth 40000 in
theorem nk_50 : pe_okM (pe_GL []) pe_cl pe_ckS tn_50 = true := by decide +kernel
def td_51 (k : Nat) : Nat × List pe_I := (pe_at tn_51.bl k).getD (0, [])
set_option maxRecDepth 40000 in
theorem nk_51_0 : pe_ckB (pe_GL []) pe_cl pe_ckS tn_51 (td_51 0).1 (td_51 0).2 = true := by decide +kernel
set_option maxRecDepth 40000 in
theorem nk_51_1 : pe_ckB (pe_GL []) pe_cl pe_ckS tn_51 (td_51 1).1 (td_51 1).2 = true := by decide +kernel
set_option maxRecDepth 40000 in
theorem nk_51_2 : pe_ckB (pe_GL []) pe_cl pe_ckS tn_51 (td_51 2).1 (td_51 2).2 = true := by decide +kernel
set_option maxRecDepth 40000 in
theorem nk_51_3 : pe_ckB (pe_GL []) pe_cl pe_ckS tn_51 (td_51 3).1 (td_51 3).2 = true := by decide +kernel
set_option maxRecDepth 40000 in
theorem nk_51_4 : pe_ckB (pe_GL []) pe_cl pe_ckS tn_51 (td_51 4).1 (td_51 4).2 = true := by decide +kernel
set_option maxRecDepth 40000 in
theorem nk_51_5 : pe_ckB (pe_GL []) pe_cl pe_ckS tn_51 (td_51 5).1 (td_51 5).2 = true := by decide +kernel
set_option maxRecDepth 40000 in
theorem nk_51_6 : pe_ckB (pe_GL []) pe_cl pe_ckS tn_51 (td_51 6).1 (td_51 6).2 = true := by decide +kernel
theorem nk_51_a : ∀ b ∈ tn_51.bl, pe_ckB (pe_GL []) pe_cl pe_ckS tn_51 b.1 b.2 = true := by
  intro b hb
  obtain ⟨n, hn⟩ := List.getElem?_of_mem hb
  rw [← pe_at_eq] at hn
  match n, hn with
  | 0, hn =>
    have h2 : td_51 0 = b := by unfold td_51; rw [hn]; rfl
    rw [← h2]; exact nk_51_0
  | 1, hn =>
    have h2 : td_51 1 = b := by unfold td_51; rw [hn]; rfl
    rw [← h2]; exact nk_51_1
  | 2, hn =>
    have h2 : td_51 2 = b := by unfold td_51; rw [hn]; rfl
    rw [← h2]; exact nk_51_2
  | 3, hn =>
    have h2 : td_51 3 = b := by unfold td_51; rw [hn]; rfl
    rw [← h2]; exact nk_51_3
  | 4, hn =>
    have h2 : td_51 4 = b := by unfold td_51; rw [hn]; rfl
    rw [← h2]; exact nk_51_4
  | 5, hn =>
    have h2 : td_51 5 = b := by unfold td_51; rw [hn]; rfl
    rw [← h2]; exact nk_51_5
  | 6, hn =>
    have h2 : td_51 6 = b := by unfold td_51; rw [hn]; rfl
    rw [← h2]; exact nk_51_6
  | n + 7, hn =>
    rw [pe_at_eq] at hn
    exact absurd (List.getElem?_eq_some_iff.mp hn).1 (by show ¬ n + 7 < 7; omega)
theorem nk_51 : pe_okM (pe_GL []) pe_cl pe_ckS tn_51 = true := pe_okM_mk (pe_w_of (by rfl) (by rfl)) (by decide +kernel) nk_51_a
