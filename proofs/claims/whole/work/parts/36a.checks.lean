/-! PART 36a: the methods of part 36, checked once. -/
set_option maxRecDepth 40000 in
theorem nk_0 : pe_okM (pe_GL []) pe_cl pe_ckS tn_0 = true := by decide +kernel
set_option maxRecDepth 40000 in
theorem nk_1 : pe_okM (pe_GL []) pe_cl pe_ckS tn_1 = true := by decide +kernel
set_option maxRecDepth 40000 in
theorem nk_2 : pe_okM (pe_GL []) pe_cl pe_ckS tn_2 = true := by decide +kernel
set_option maxRecDepth 40000 in
theorem nk_3 : pe_okM (pe_GL []) pe_cl pe_ckS tn_3 = true := by decide +kernel
def td_4 (k : Nat) : Nat × List pe_I := (pe_at tn_4.bl k).getD (0, [])
set_option maxRecDepth 40000 in
theorem nk_4_0 : pe_ckB (pe_GL []) pe_cl pe_ckS tn_4 (td_4 0).1 (td_4 0).2 = true := by decide +kernel
set_option maxRecDepth 40000 in
theorem nk_4_1 : pe_ckB (pe_GL []) pe_cl pe_ckS tn_4 (td_4 1).1 (td_4 1).2 = true := by decide +kernel
set_option maxRecDepth 40000 in
theorem nk_4_2 : pe_ckB (pe_GL []) pe_cl pe_ckS tn_4 (td_4 2).1 (td_4 2).2 = true := by decide +kernel
set_option maxRecDepth 40000 in
theorem nk_4_3 : pe_ckB (pe_GL []) pe_cl pe_ckS tn_4 (td_4 3).1 (td_4 3).2 = true := by decide +kernel
set_option maxRecDepth 40000 in
theorem nk_4_4 : pe_ckB (pe_GL []) pe_cl pe_ckS tn_4 (td_4 4).1 (td_4 4).2 = true := by decide +kernel
set_option maxRecDepth 40000 in
theorem nk_4_5 : pe_ckB (pe_GL []) pe_cl pe_ckS tn_4 (td_4 5).1 (td_4 5).2 = true := by decide +kernel
set_option maxRecDepth 40000 in
theorem nk_4_6 : pe_ckB (pe_GL []) pe_cl pe_ckS tn_4 (td_4 6).1 (td_4 6).2 = true := by decide +kernel
set_option maxRecDepth 40000 in
theorem nk_4_7 : pe_ckB (pe_GL []) pe_cl pe_ckS tn_4 (td_4 7).1 (td_4 7).2 = true := by decide +kernel
set_option maxRecDepth 40000 in
theorem nk_4_8 : pe_ckB (pe_GL []) pe_cl pe_ckS tn_4 (td_4 8).1 (td_4 8).2 = true := by decide +kernel
set_option maxRecDepth 40000 in
theorem nk_4_9 : pe_ckB (pe_GL []) pe_cl pe_ckS tn_4 (td_4 9).1 (td_4 9).2 = true := by decide +kernel
set_option maxRecDepth 40000 in
theorem nk_4_10 : pe_ckB (pe_GL []) pe_cl pe_ckS tn_4 (td_4 10).1 (td_4 10).2 = true := by decide +kernel
theorem nk_4_a : ∀ b ∈ tn_4.bl, pe_ckB (pe_GL []) pe_cl pe_ckS tn_4 b.1 b.2 = true := by
  intro b hb
  obtain ⟨n, hn⟩ := List.getElem?_of_mem hb
  rw [← pe_at_eq] at hn
  match n, hn with
  | 0, hn =>
    have h2 : td_4 0 = b := by unfold td_4; rw [hn]; rfl
    rw [← h2]; exact nk_4_0
  | 1, hn =>
    have h2 : td_4 1 = b := by unfold td_4; rw [hn]; rfl
    rw [← h2]; exact nk_4_1
  | 2, hn =>
    have h2 : td_4 2 = b := by unfold td_4; rw [hn]; rfl
    rw [← h2]; exact nk_4_2
  | 3, hn =>
    have h2 : td_4 3 = b := by unfold td_4; rw [hn]; rfl
    rw [← h2]; exact nk_4_3
  | 4, hn =>
    have h2 : td_4 4 = b := by unfold td_4; rw [hn]; rfl
    rw [← h2]; exact nk_4_4
  | 5, hn =>
    have h2 : td_4 5 = b := by unfold td_4; rw [hn]; rfl
    rw [← h2]; exact nk_4_5
  | 6, hn =>
    have h2 : td_4 6 = b := by unfold td_4; rw [hn]; rfl
    rw [← h2]; exact nk_4_6
  | 7, hn =>
    have h2 : td_4 7 = b := by unfold td_4; rw [hn]; rfl
    rw [← h2]; exact nk_4_7
  | 8, hn =>
    have h2 : td_4 8 = b := by unfold td_4; rw [hn]; rfl
    rw [← h2]; exact nk_4_8
  | 9, hn =>
    have h2 : td_4 9 = b := by unfold td_4; rw [hn]; rfl
    rw [← h2]; exact nk_4_9
  | 10, hn =>
    have h2 : td_4 10 = b := by unfold td_4; rw [hn]; rfl
    rw [← h2]; exact nk_4_10
  | n + 11, hn =>
    rw [pe_at_eq] at hn
    exact absurd (List.getElem?_eq_some_iff.mp hn).1 (by show ¬ n + 11 < 11; omega)
theorem nk_4 : pe_okM (pe_GL []) pe_cl pe_ckS tn_4 = true := pe_okM_mk (pe_w_of (by rfl) (by rfl)) (by decide +kernel) nk_4_a
set_option maxRecDepth 40000 in
theorem nk_5 : pe_okM (pe_GL []) pe_cl pe_ckS tn_5 = true := by decide +kernel
set_option maxRecDepth 40000 in
theorem nk_6 : pe_okM (pe_GL []) pe_cl pe_ckS tn_6 = true := by decide +kernel
set_option maxRecDepth 40000 in
theorem nk_7 : pe_okM (pe_GL []) pe_cl pe_ckS tn_7 = true := by decide +kernel
set_option maxRecDepth 40000 in
theorem nk_8 : pe_okM (pe_GL []) pe_cl pe_ckS tn_8 = true := by decide +kernel
set_option maxRecDepth 40000 in
theorem nk_9 : pe_okM (pe_GL []) pe_cl pe_ckS tn_9 = true := by decide +kernel
set_option maxRecDepth 40000 in
theorem nk_10 : pe_okM (pe_GL []) pe_cl pe_ckS tn_10 = true := by decide +kernel
set_option maxRecDepth 40000 in
theorem nk_11 : pe_okM (pe_GL []) pe_cl pe_ckS tn_11 = true := by decide +kernel
def td_12 (k : Nat) : Nat × List pe_I := (pe_at tn_12.bl k).getD (0, [])
set_option maxRecDepth 40000 in
theorem nk_12_0 : pe_ckB (pe_GL []) pe_cl pe_ckS tn_12 (td_12 0).1 (td_12 0).2 = true := by decide +kernel
set_option maxRecDepth 40000 in
theorem nk_12_1 : pe_ckB (pe_GL []) pe_cl pe_ckS tn_12 (td_12 1).1 (td_12 1).2 = true := by decide +kernel
set_option maxRecDepth 40000 in
theorem nk_12_2 : pe_ckB (pe_GL []) pe_cl pe_ckS tn_12 (td_12 2).1 (td_12 2).2 = true := by decide +kernel
set_option maxRecDepth 40000 in
theorem nk_12_3 : pe_ckB (pe_GL []) pe_cl pe_ckS tn_12 (td_12 3).1 (td_12 3).2 = true := by decide +kernel
set_option maxRecDepth 40000 in
theorem nk_12_4 : pe_ckB (pe_GL []) pe_cl pe_ckS tn_12 (td_12 4).1 (td_12 4).2 = true := by decide +kernel
set_option maxRecDepth 40000 in
theorem nk_12_5 : pe_ckB (pe_GL []) pe_cl pe_ckS tn_12 (td_12 5).1 (td_12 5).2 = true := by decide +kernel
set_option maxRecDepth 40000 in
theorem nk_12_6 : pe_ckB (pe_GL []) pe_cl pe_ckS tn_12 (td_12 6).1 (td_12 6).2 = true := by decide +kernel
set_option maxRecDepth 40000 in
theorem nk_12_7 : pe_ckB (pe_GL []) pe_cl pe_ckS tn_12 (td_12 7).1 (td_12 7).2 = true := by decide +kernel
theorem nk_12_a : ∀ b ∈ tn_12.bl, pe_ckB (pe_GL []) pe_cl pe_ckS tn_12 b.1 b.2 = true := by
  intro b hb
  obtain ⟨n, hn⟩ := List.getElem?_of_mem hb
  rw [← pe_at_eq] at hn
  match n, hn with
  | 0, hn =>
    have h2 : td_12 0 = b := by unfold td_12; rw [hn]; rfl
    rw [← h2]; exact nk_12_0
  | 1, hn =>
    have h2 : td_12 1 = b := by unfold td_12; rw [hn]; rfl
    rw [← h2]; exact nk_12_1
  | 2, hn =>
    have h2 : td_12 2 = b := by unfold td_12; rw [hn]; rfl
    rw [← h2]; exact nk_12_2
  | 3, hn =>
    have h2 : td_12 3 = b := by unfold td_12; rw [hn]; rfl
    rw [← h2]; exact nk_12_3
  | 4, hn =>
    have h2 : td_12 4 = b := by unfold td_12; rw [hn]; rfl
    rw [← h2]; exact nk_12_4
  | 5, hn =>
    have h2 : td_12 5 = b := by unfold td_12; rw [hn]; rfl
    rw [← h2]; exact nk_12_5
  | 6, hn =>
    have h2 : td_12 6 = b := by unfold td_12; rw [hn]; rfl
    rw [← h2]; exact nk_12_6
  | 7, hn =>
    have h2 : td_12 7 = b := by unfold td_12; rw [hn]; rfl
    rw [← h2]; exact nk_12_7
  | n + 8, hn =>
    rw [pe_at_eq] at hn
    exact absurd (List.getElem?_eq_some_iff.mp hn).1 (by show ¬ n + 8 < 8; omega)
theorem nk_12 : pe_okM (pe_GL []) pe_cl pe_ckS tn_12 = true := pe_okM_mk (pe_w_of (by rfl) (by rfl)) (by decide +kernel) nk_12_a
set_option maxRecDepth 40000 in
theorem nk_13 : pe_okM (pe_GL []) pe_cl pe_ckS tn_13 = true := by decide +kernel
set_option maxRecDepth 40000 in
theorem nk_14 : pe_okM (pe_GL []) pe_cl pe_ckS tn_14 = true := by decide +kernel
set_option maxRecDepth 40000 in
theorem nk_15 : pe_okM (pe_GL []) pe_cl pe_ckS tn_15 = true := by decide +kernel
set_option maxRecDepth 40000 in
theorem nk_16 : pe_okM (pe_GL []) pe_cl pe_ckS tn_16 = true := by decide +kernel
set_option maxRecDepth 40000 in
theorem nk_17 : pe_okM (pe_GL []) pe_cl pe_ckS tn_17 = true := by decide +kernel
set_option maxRecDepth 40000 in
theorem nk_18 : pe_okM (pe_GL []) pe_cl pe_ckS tn_18 = true := by decide +kernel
set_option maxRecDepth 40000 in
theorem nk_19 : pe_okM (pe_GL []) pe_cl pe_ckS tn_19 = true := by decide +kernel
set_option maxRecDepth 40000 in
theorem nk_20 : pe_okM (pe_GL []) pe_cl pe_ckS tn_20 = true := by decide +kernel
def td_21 (k : Nat) : Nat × List pe_I := (pe_at tn_21.bl k).getD (0, [])
set_option maxRecDepth 40000 in
theorem nk_21_0 : pe_ckB (pe_GL []) pe_cl pe_ckS tn_21 (td_21 0).1 (td_21 0).2 = true := by decide +kernel
set_option maxRecDepth 40000 in
theorem nk_21_1 : pe_ckB (pe_GL []) pe_cl pe_ckS tn_21 (td_21 1).1 (td_21 1).2 = true := by decide +kernel
set_option maxRecDepth 40000 in
theorem nk_21_2 : pe_ckB (pe_GL []) pe_cl pe_ckS tn_21 (td_21 2).1 (td_21 2).2 = true := by decide +kernel
set_option maxRecDepth 40000 in
theorem nk_21_3 : pe_ckB (pe_GL []) pe_cl pe_ckS tn_21 (td_21 3).1 (td_21 3).2 = true := by decide +kernel
set_option maxRecDepth 40000 in
theorem nk_21_4 : pe_ckB (pe_GL []) pe_cl pe_ckS tn_21 (td_21 4).1 (td_21 4).2 = true := by decide +kernel
set_option maxRecDepth 40000 in
theorem nk_21_5 : pe_ckB (pe_GL []) pe_cl pe_ckS tn_21 (td_21 5).1 (td_21 5).2 = true := by decide +kernel
set_option maxRecDepth 40000 in
theorem nk_21_6 : pe_ckB (pe_GL []) pe_cl pe_ckS tn_21 (td_21 6).1 (td_21 6).2 = true := by decide +kernel
set_option maxRecDepth 40000 in
theorem nk_21_7 : pe_ckB (pe_GL []) pe_cl pe_ckS tn_21 (td_21 7).1 (td_21 7).2 = true := by decide +kernel
set_option maxRecDepth 40000 in
theorem nk_21_8 : pe_ckB (pe_GL []) pe_cl pe_ckS tn_21 (td_21 8).1 (td_21 8).2 = true := by decide +kernel
set_option maxRecDepth 40000 in
theorem nk_21_9 : pe_ckB (pe_GL []) pe_cl pe_ckS tn_21 (td_21 9).1 (td_21 9).2 = true := by decide +kernel
set_option maxRecDepth 40000 in
theorem nk_21_10 : pe_ckB (pe_GL []) pe_cl pe_ckS tn_21 (td_21 10).1 (td_21 10).2 = true := by decide +kernel
set_option maxRecDepth 40000 in
theorem nk_21_11 : pe_ckB (pe_GL []) pe_cl pe_ckS tn_21 (td_21 11).1 (td_21 11).2 = true := by decide +kernel
set_option maxRecDepth 40000 in
theorem nk_21_12 : pe_ckB (pe_GL []) pe_cl pe_ckS tn_21 (td_21 12).1 (td_21 12).2 = true := by decide +kernel
set_option maxRecDepth 40000 in
theorem nk_21_13 : pe_ckB (pe_GL []) pe_cl pe_ckS tn_21 (td_21 13).1 (td_21 13).2 = true := by decide +kernel
set_option maxRecDepth 40000 in
theorem nk_21_14 : pe_ckB (pe_GL []) pe_cl pe_ckS tn_21 (td_21 14).1 (td_21 14).2 = true := by decide +kernel
set_option maxRecDepth 40000 in
theorem nk_21_15 : pe_ckB (pe_GL []) pe_cl pe_ckS tn_21 (td_21 15).1 (td_21 15).2 = true := by decide +kernel
set_option maxRecDepth 40000 in
theorem nk_21_16 : pe_ckB (pe_GL []) pe_cl pe_ckS tn_21 (td_21 16).1 (td_21 16).2 = true := by decide +kernel
set_option maxRecDepth 40000 in
theorem nk_21_17 : pe_ckB (pe_GL []) pe_cl pe_ckS tn_21 (td_21 17).1 (td_21 17).2 = true := by decide +kernel
theorem nk_21_a : ∀ b ∈ tn_21.bl, pe_ckB (pe_GL []) pe_cl pe_ckS tn_21 b.1 b.2 = true := by
  intro b hb
  obtain ⟨n, hn⟩ := List.getElem?_of_mem hb
  rw [← pe_at_eq] at hn
  match n, hn with
  | 0, hn =>
    have h2 : td_21 0 = b := by unfold td_21; rw [hn]; rfl
    rw [← h2]; exact nk_21_0
  | 1, hn =>
    have h2 : td_21 1 = b := by unfold td_21; rw [hn]; rfl
    rw [← h2]; exact nk_21_1
  | 2, hn =>
    have h2 : td_21 2 = b := by unfold td_21; rw [hn]; rfl
    rw [← h2]; exact nk_21_2
  | 3, hn =>
    have h2 : td_21 3 = b := by unfold td_21; rw [hn]; rfl
    rw [← h2]; exact nk_21_3
  | 4, hn =>
    have h2 : td_21 4 = b := by unfold td_21; rw [hn]; rfl
    rw [← h2]; exact nk_21_4
  | 5, hn =>
    have h2 : td_21 5 = b := by unfold td_21; rw [hn]; rfl
    rw [← h2]; exact nk_21_5
  | 6, hn =>
    have h2 : td_21 6 = b := by unfold td_21; rw [hn]; rfl
    rw [← h2]; exact nk_21_6
  | 7, hn =>
    have h2 : td_21 7 = b := by unfold td_21; rw [hn]; rfl
    rw [← h2]; exact nk_21_7
  | 8, hn =>
    have h2 : td_21 8 = b := by unfold td_21; rw [hn]; rfl
    rw [← h2]; exact nk_21_8
  | 9, hn =>
    have h2 : td_21 9 = b := by unfold td_21; rw [hn]; rfl
    rw [← h2]; exact nk_21_9
  | 10, hn =>
    have h2 : td_21 10 = b := by unfold td_21; rw [hn]; rfl
    rw [← h2]; exact nk_21_10
  | 11, hn =>
    have h2 : td_21 11 = b := by unfold td_21; rw [hn]; rfl
    rw [← h2]; exact nk_21_11
  | 12, hn =>
    have h2 : td_21 12 = b := by unfold td_21; rw [hn]; rfl
    rw [← h2]; exact nk_21_12
  | 13, hn =>
    have h2 : td_21 13 = b := by unfold td_21; rw [hn]; rfl
    rw [← h2]; exact nk_21_13
  | 14, hn =>
    have h2 : td_21 14 = b := by unfold td_21; rw [hn]; rfl
    rw [← h2]; exact nk_21_14
  | 15, hn =>
    have h2 : td_21 15 = b := by unfold td_21; rw [hn]; rfl
    rw [← h2]; exact nk_21_15
  | 16, hn =>
    have h2 : td_21 16 = b := by unfold td_21; rw [hn]; rfl
    rw [← h2]; exact nk_21_16
  | 17, hn =>
    have h2 : td_21 17 = b := by unfold td_21; rw [hn]; rfl
    rw [← h2]; exact nk_21_17
  | n + 18, hn =>
    rw [pe_at_eq] at hn
    exact absurd (List.getElem?_eq_some_iff.mp hn).1 (by show ¬ n + 18 < 18; omega)
theorem nk_21 : pe_okM (pe_GL []) pe_cl pe_ckS tn_21 = true := pe_okM_mk (pe_w_of (by rfl) (by rfl)) (by decide +kernel) nk_21_a
set_option maxRecDepth 40000 in
theorem nk_22 : pe_okM (pe_GL []) pe_cl pe_ckS tn_22 = true := by decide +kernel
set_option maxRecDepth 40000 in
theorem nk_23 : pe_okM (pe_GL []) pe_cl pe_ckS tn_23 = true := by decide +kernel
set_option maxRecDepth 40000 in
theorem nk_24 : pe_okM (pe_GL []) pe_cl pe_ckS tn_24 = true := by decide +kernel
set_option maxRecDepth 40000 in
theorem nk_25 : pe_okM (pe_GL []) pe_cl pe_ckS tn_25 = true := by decide +kernel
