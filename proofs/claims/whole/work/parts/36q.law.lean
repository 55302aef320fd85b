/-! PART 36b: the law's own code, as the evaluator knows it. -/
def td_L (k : Nat) : Nat × List pe_I := (pe_at tn_L.bl k).getD (0, [])
set_option maxRecDepth 40000 in
theorem nk_L_0 : pe_ckB (pe_GL []) pe_cl pe_ckS tn_L (td_L 0).1 (td_L 0).2 = true := by decide +kernel
set_option maxRecDepth 40000 in
theorem nk_L_1 : pe_ckB (pe_GL []) pe_cl pe_ckS tn_L (td_L 1).1 (td_L 1).2 = true := by decide +kernel
set_option maxRecDepth 40000 in
theorem nk_L_2 : pe_ckB (pe_GL []) pe_cl pe_ckS tn_L (td_L 2).1 (td_L 2).2 = true := by decide +kernel
set_option maxRecDepth 40000 in
theorem nk_L_3 : pe_ckB (pe_GL []) pe_cl pe_ckS tn_L (td_L 3).1 (td_L 3).2 = true := by decide +kernel
set_option maxRecDepth 40000 in
theorem nk_L_4 : pe_ckB (pe_GL []) pe_cl pe_ckS tn_L (td_L 4).1 (td_L 4).2 = true := by decide +kernel
set_option maxRecDepth 40000 in
theorem nk_L_5 : pe_ckB (pe_GL []) pe_cl pe_ckS tn_L (td_L 5).1 (td_L 5).2 = true := by decide +kernel
set_option maxRecDepth 40000 in
theorem nk_L_6 : pe_ckB (pe_GL []) pe_cl pe_ckS tn_L (td_L 6).1 (td_L 6).2 = true := by decide +kernel
set_option maxRecDepth 40000 in
theorem nk_L_7 : pe_ckB (pe_GL []) pe_cl pe_ckS tn_L (td_L 7).1 (td_L 7).2 = true := by decide +kernel
set_option maxRecDepth 40000 in
theorem nk_L_8 : pe_ckB (pe_GL []) pe_cl pe_ckS tn_L (td_L 8).1 (td_L 8).2 = true := by decide +kernel
set_option maxRecDepth 40000 in
theorem nk_L_9 : pe_ckB (pe_GL []) pe_cl pe_ckS tn_L (td_L 9).1 (td_L 9).2 = true := by decide +kernel
set_option maxRecDepth 40000 in
theorem nk_L_10 : pe_ckB (pe_GL []) pe_cl pe_ckS tn_L (td_L 10).1 (td_L 10).2 = true := by decide +kernel
set_option maxRecDepth 40000 in
theorem nk_L_11 : pe_ckB (pe_GL []) pe_cl pe_ckS tn_L (td_L 11).1 (td_L 11).2 = true := by decide +kernel
set_option maxRecDepth 40000 in
theorem nk_L_12 : pe_ckB (pe_GL []) pe_cl pe_ckS tn_L (td_L 12).1 (td_L 12).2 = true := by decide +kernel
set_option maxRecDepth 40000 in
theorem nk_L_13 : pe_ckB (pe_GL []) pe_cl pe_ckS tn_L (td_L 13).1 (td_L 13).2 = true := by decide +kernel
set_option maxRecDepth 40000 in
theorem nk_L_14 : pe_ckB (pe_GL []) pe_cl pe_ckS tn_L (td_L 14).1 (td_L 14).2 = true := by decide +kernel
set_option maxRecDepth 40000 in
theorem nk_L_15 : pe_ckB (pe_GL []) pe_cl pe_ckS tn_L (td_L 15).1 (td_L 15).2 = true := by decide +kernel
set_option maxRecDepth 40000 in
theorem nk_L_16 : pe_ckB (pe_GL []) pe_cl pe_ckS tn_L (td_L 16).1 (td_L 16).2 = true := by decide +kernel
set_option maxRecDepth 40000 in
theorem nk_L_17 : pe_ckB (pe_GL []) pe_cl pe_ckS tn_L (td_L 17).1 (td_L 17).2 = true := by decide +kernel
set_option maxRecDepth 40000 in
theorem nk_L_18 : pe_ckB (pe_GL []) pe_cl pe_ckS tn_L (td_L 18).1 (td_L 18).2 = true := by decide +kernel
set_option maxRecDepth 40000 in
theorem nk_L_19 : pe_ckB (pe_GL []) pe_cl pe_ckS tn_L (td_L 19).1 (td_L 19).2 = true := by decide +kernel
set_option maxRecDepth 40000 in
theorem nk_L_20 : pe_ckB (pe_GL []) pe_cl pe_ckS tn_L (td_L 20).1 (td_L 20).2 = true := by decide +kernel
set_option maxRecDepth 40000 in
theorem nk_L_21 : pe_ckB (pe_GL []) pe_cl pe_ckS tn_L (td_L 21).1 (td_L 21).2 = true := by decide +kernel
set_option maxRecDepth 40000 in
theorem nk_L_22 : pe_ckB (pe_GL []) pe_cl pe_ckS tn_L (td_L 22).1 (td_L 22).2 = true := by decide +kernel
set_option maxRecDepth 40000 in
theorem nk_L_23 : pe_ckB (pe_GL []) pe_cl pe_ckS tn_L (td_L 23).1 (td_L 23).2 = true := by decide +kernel
set_option maxRecDepth 40000 in
theorem nk_L_24 : pe_ckB (pe_GL []) pe_cl pe_ckS tn_L (td_L 24).1 (td_L 24).2 = true := by decide +kernel
set_option maxRecDepth 40000 in
theorem nk_L_25 : pe_ckB (pe_GL []) pe_cl pe_ckS tn_L (td_L 25).1 (td_L 25).2 = true := by decide +kernel
set_option maxRecDepth 40000 in
theorem nk_L_26 : pe_ckB (pe_GL []) pe_cl pe_ckS tn_L (td_L 26).1 (td_L 26).2 = true := by decide +kernel
set_option maxRecDepth 40000 in
theorem nk_L_27 : pe_ckB (pe_GL []) pe_cl pe_ckS tn_L (td_L 27).1 (td_L 27).2 = true := by decide +kernel
set_option maxRecDepth 40000 in
theorem nk_L_28 : pe_ckB (pe_GL []) pe_cl pe_ckS tn_L (td_L 28).1 (td_L 28).2 = true := by decide +kernel
set_option maxRecDepth 40000 in
theorem nk_L_29 : pe_ckB (pe_GL []) pe_cl pe_ckS tn_L (td_L 29).1 (td_L 29).2 = true := by decide +kernel
set_option maxRecDepth 40000 in
theorem nk_L_30 : pe_ckB (pe_GL []) pe_cl pe_ckS tn_L (td_L 30).1 (td_L 30).2 = true := by decide +kernel
set_option maxRecDepth 40000 in
theorem nk_L_31 : pe_ckB (pe_GL []) pe_cl pe_ckS tn_L (td_L 31).1 (td_L 31).2 = true := by decide +kernel
set_option maxRecDepth 40000 in
theorem nk_L_32 : pe_ckB (pe_GL []) pe_cl pe_ckS tn_L (td_L 32).1 (td_L 32).2 = true := by decide +kernel
set_option maxRecDepth 40000 in
theorem nk_L_33 : pe_ckB (pe_GL []) pe_cl pe_ckS tn_L (td_L 33).1 (td_L 33).2 = true := by decide +kernel
set_option maxRecDepth 40000 in
theorem nk_L_34 : pe_ckB (pe_GL []) pe_cl pe_ckS tn_L (td_L 34).1 (td_L 34).2 = true := by decide +kernel
set_option maxRecDepth 40000 in
theorem nk_L_35 : pe_ckB (pe_GL []) pe_cl pe_ckS tn_L (td_L 35).1 (td_L 35).2 = true := by decide +kernel
set_option maxRecDepth 40000 in
theorem nk_L_36 : pe_ckB (pe_GL []) pe_cl pe_ckS tn_L (td_L 36).1 (td_L 36).2 = true := by decide +kernel
set_option maxRecDepth 40000 in
theorem nk_L_37 : pe_ckB (pe_GL []) pe_cl pe_ckS tn_L (td_L 37).1 (td_L 37).2 = true := by decide +kernel
theorem nk_L_a : ∀ b ∈ tn_L.bl, pe_ckB (pe_GL []) pe_cl pe_ckS tn_L b.1 b.2 = true := by
  intro b hb
  obtain ⟨n, hn⟩ := List.getElem?_of_mem hb
  rw [← pe_at_eq] at hn
  match n, hn with
  | 0, hn =>
    have h2 : td_L 0 = b := by unfold td_L; rw [hn]; rfl
    rw [← h2]; exact nk_L_0
  | 1, hn =>
    have h2 : td_L 1 = b := by unfold td_L; rw [hn]; rfl
    rw [← h2]; exact nk_L_1
  | 2, hn =>
    have h2 : td_L 2 = b := by unfold td_L; rw [hn]; rfl
    rw [← h2]; exact nk_L_2
  | 3, hn =>
    have h2 : td_L 3 = b := by unfold td_L; rw [hn]; rfl
    rw [← h2]; exact nk_L_3
  | 4, hn =>
    have h2 : td_L 4 = b := by unfold td_L; rw [hn]; rfl
    rw [← h2]; exact nk_L_4
  | 5, hn =>
    have h2 : td_L 5 = b := by unfold td_L; rw [hn]; rfl
    rw [← h2]; exact nk_L_5
  | 6, hn =>
    have h2 : td_L 6 = b := by unfold td_L; rw [hn]; rfl
    rw [← h2]; exact nk_L_6
  | 7, hn =>
    have h2 : td_L 7 = b := by unfold td_L; rw [hn]; rfl
    rw [← h2]; exact nk_L_7
  | 8, hn =>
    have h2 : td_L 8 = b := by unfold td_L; rw [hn]; rfl
    rw [← h2]; exact nk_L_8
  | 9, hn =>
    have h2 : td_L 9 = b := by unfold td_L; rw [hn]; rfl
    rw [← h2]; exact nk_L_9
  | 10, hn =>
    have h2 : td_L 10 = b := by unfold td_L; rw [hn]; rfl
    rw [← h2]; exact nk_L_10
  | 11, hn =>
    have h2 : td_L 11 = b := by unfold td_L; rw [hn]; rfl
    rw [← h2]; exact nk_L_11
  | 12, hn =>
    have h2 : td_L 12 = b := by unfold td_L; rw [hn]; rfl
    rw [← h2]; exact nk_L_12
  | 13, hn =>
    have h2 : td_L 13 = b := by unfold td_L; rw [hn]; rfl
    rw [← h2]; exact nk_L_13
  | 14, hn =>
    have h2 : td_L 14 = b := by unfold td_L; rw [hn]; rfl
    rw [← h2]; exact nk_L_14
  | 15, hn =>
    have h2 : td_L 15 = b := by unfold td_L; rw [hn]; rfl
    rw [← h2]; exact nk_L_15
  | 16, hn =>
    have h2 : td_L 16 = b := by unfold td_L; rw [hn]; rfl
    rw [← h2]; exact nk_L_16
  | 17, hn =>
    have h2 : td_L 17 = b := by unfold td_L; rw [hn]; rfl
    rw [← h2]; exact nk_L_17
  | 18, hn =>
    have h2 : td_L 18 = b := by unfold td_L; rw [hn]; rfl
    rw [← h2]; exact nk_L_18
  | 19, hn =>
    have h2 : td_L 19 = b := by unfold td_L; rw [hn]; rfl
    rw [← h2]; exact nk_L_19
  | 20, hn =>
    have h2 : td_L 20 = b := by unfold td_L; rw [hn]; rfl
    rw [← h2]; exact nk_L_20
  | 21, hn =>
    have h2 : td_L 21 = b := by unfold td_L; rw [hn]; rfl
    rw [← h2]; exact nk_L_21
  | 22, hn =>
    have h2 : td_L 22 = b := by unfold td_L; rw [hn]; rfl
    rw [← h2]; exact nk_L_22
  | 23, hn =>
    have h2 : td_L 23 = b := by unfold td_L; rw [hn]; rfl
    rw [← h2]; exact nk_L_23
  | 24, hn =>
    have h2 : td_L 24 = b := by unfold td_L; rw [hn]; rfl
    rw [← h2]; exact nk_L_24
  | 25, hn =>
    have h2 : td_L 25 = b := by unfold td_L; rw [hn]; rfl
    rw [← h2]; exact nk_L_25
  | 26, hn =>
    have h2 : td_L 26 = b := by unfold td_L; rw [hn]; rfl
    rw [← h2]; exact nk_L_26
  | 27, hn =>
    have h2 : td_L 27 = b := by unfold td_L; rw [hn]; rfl
    rw [← h2]; exact nk_L_27
  | 28, hn =>
    have h2 : td_L 28 = b := by unfold td_L; rw [hn]; rfl
    rw [← h2]; exact nk_L_28
  | 29, hn =>
    have h2 : td_L 29 = b := by unfold td_L; rw [hn]; rfl
    rw [← h2]; exact nk_L_29
  | 30, hn =>
    have h2 : td_L 30 = b := by unfold td_L; rw [hn]; rfl
    rw [← h2]; exact nk_L_30
  | 31, hn =>
    have h2 : td_L 31 = b := by unfold td_L; rw [hn]; rfl
    rw [← h2]; exact nk_L_31
  | 32, hn =>
    have h2 : td_L 32 = b := by unfold td_L; rw [hn]; rfl
    rw [← h2]; exact nk_L_32
  | 33, hn =>
    have h2 : td_L 33 = b := by unfold td_L; rw [hn]; rfl
    rw [← h2]; exact nk_L_33
  | 34, hn =>
    have h2 : td_L 34 = b := by unfold td_L; rw [hn]; rfl
    rw [← h2]; exact nk_L_34
  | 35, hn =>
    have h2 : td_L 35 = b := by unfold td_L; rw [hn]; rfl
    rw [← h2]; exact nk_L_35
  | 36, hn =>
    have h2 : td_L 36 = b := by unfold td_L; rw [hn]; rfl
    rw [← h2]; exact nk_L_36
  | 37, hn =>
    have h2 : td_L 37 = b := by unfold td_L; rw [hn]; rfl
    rw [← h2]; exact nk_L_37
  | n + 38, hn =>
    rw [pe_at_eq] at hn
    exact absurd (List.getElem?_eq_some_iff.mp hn).1 (by show ¬ n + 38 < 38; omega)
theorem nk_L (c : List Int32) : pe_okB (pe_GL c) pe_cl pe_ckS tn_L = true := pe_okB_xs (xs := pe_xsL []) (List.all_eq_true.mpr nk_L_a)
