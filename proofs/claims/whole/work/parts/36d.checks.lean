/-! PART 36d: the methods of part 36, checked once. -/
set_option maxRecDepth 40000 in
theorem nk_78 : pe_okM (pe_GL []) pe_cl pe_ckS tn_78 = true := by decide +kernel
def td_79 (k : Nat) : Nat × List pe_I := (pe_at tn_79.bl k).getD (0, [])
set_option maxRecDepth 40000 in
theorem nk_79_0 : pe_ckB (pe_GL []) pe_cl pe_ckS tn_79 (td_79 0).1 (td_79 0).2 = true := by decide +kernel
set_option maxRecDepth 40000 in
theorem nk_79_1 : pe_ckB (pe_GL []) pe_cl pe_ckS tn_79 (td_79 1).1 (td_79 1).2 = true := by decide +kernel
set_option maxRecDepth 40000 in
theorem nk_79_2 : pe_ckB (pe_GL []) pe_cl pe_ckS tn_79 (td_79 2).1 (td_79 2).2 = true := by decide +kernel
set_option maxRecDepth 40000 in
theorem nk_79_3 : pe_ckB (pe_GL []) pe_cl pe_ckS tn_79 (td_79 3).1 (td_79 3).2 = true := by decide +kernel
set_option maxRecDepth 40000 in
theorem nk_79_4 : pe_ckB (pe_GL []) pe_cl pe_ckS tn_79 (td_79 4).1 (td_79 4).2 = true := by decide +kernel
set_option maxRecDepth 40000 in
theorem nk_79_5 : pe_ckB (pe_GL []) pe_cl pe_ckS tn_79 (td_79 5).1 (td_79 5).2 = true := by decide +kernel
set_option maxRecDepth 40000 in
theorem nk_79_6 : pe_ckB (pe_GL []) pe_cl pe_ckS tn_79 (td_79 6).1 (td_79 6).2 = true := by decide +kernel
set_option maxRecDepth 40000 in
theorem nk_79_7 : pe_ckB (pe_GL []) pe_cl pe_ckS tn_79 (td_79 7).1 (td_79 7).2 = true := by decide +kernel
set_option maxRecDepth 40000 in
theorem nk_79_8 : pe_ckB (pe_GL []) pe_cl pe_ckS tn_79 (td_79 8).1 (td_79 8).2 = true := by decide +kernel
set_option maxRecDepth 40000 in
theorem nk_79_9 : pe_ckB (pe_GL []) pe_cl pe_ckS tn_79 (td_79 9).1 (td_79 9).2 = true := by decide +kernel
theorem nk_79_a : ∀ b ∈ tn_79.bl, pe_ckB (pe_GL []) pe_cl pe_ckS tn_79 b.1 b.2 = true := by
  intro b hb
  obtain ⟨n, hn⟩ := List.getElem?_of_mem hb
  rw [← pe_at_eq] at hn
  match n, hn with
  | 0, hn =>
    have h2 : td_79 0 = b := by unfold td_79; rw [hn]; rfl
    rw [← h2]; exact nk_79_0
  | 1, hn =>
    have h2 : td_79 1 = b := by unfold td_79; rw [hn]; rfl
    rw [← h2]; exact nk_79_1
  | 2, hn =>
    have h2 : td_79 2 = b := by unfold td_79; rw [hn]; rfl
    rw [← h2]; exact nk_79_2
  | 3, hn =>
    have h2 : td_79 3 = b := by unfold td_79; rw [hn]; rfl
    rw [← h2]; exact nk_79_3
  | 4, hn =>
    have h2 : td_79 4 = b := by unfold td_79; rw [hn]; rfl
    rw [← h2]; exact nk_79_4
  | 5, hn =>
    have h2 : td_79 5 = b := by unfold td_79; rw [hn]; rfl
    rw [← h2]; exact nk_79_5
  | 6, hn =>
    have h2 : td_79 6 = b := by unfold td_79; rw [hn]; rfl
    rw [← h2]; exact nk_79_6
  | 7, hn =>
    have h2 : td_79 7 = b := by unfold td_79; rw [hn]; rfl
    rw [← h2]; exact nk_79_7
  | 8, hn =>
    have h2 : td_79 8 = b := by unfold td_79; rw [hn]; rfl
    rw [← h2]; exact nk_79_8
  | 9, hn =>
    have h2 : td_79 9 = b := by unfold td_79; rw [hn]; rfl
    rw [← h2]; exact nk_79_9
  | n + 10, hn =>
    rw [pe_at_eq] at hn
    exact absurd (List.getElem?_eq_some_iff.mp hn).1 (by show ¬ n + 10 < 10; omega)
theorem nk_79 : pe_okM (pe_GL []) pe_cl pe_ckS tn_79 = true := pe_okM_mk (pe_w_of (by rfl) (by rfl)) (by decide +kernel) nk_79_a
set_option maxRecDepth 40000 in
theorem nk_80 : pe_okM (pe_GL []) pe_cl pe_ckS tn_80 = true := by decide +kernel
set_option maxRecDepth 40000 in
theorem nk_81 : pe_okM (pe_GL []) pe_cl pe_ckS tn_81 = true := by decide +kernel
set_option maxRecDepth 40000 in
theorem nk_82 : pe_okM (pe_GL []) pe_cl pe_ckS tn_82 = true := by decide +kernel
set_option maxRecDepth 40000 in
theorem nk_83 : pe_okM (pe_GL []) pe_cl pe_ckS tn_83 = true := by decide +kernel
set_option maxRecDepth 40000 in
theorem nk_84 : pe_okM (pe_GL []) pe_cl pe_ckS tn_84 = true := by decide +kernel
set_option maxRecDepth 40000 in
theorem nk_85 : pe_okM (pe_GL []) pe_cl pe_ckS tn_85 = true := by decide +kernel
def td_86 (k : Nat) : Nat × List pe_I := (pe_at tn_86.bl k).getD (0, [])
set_option maxRecDepth 40000 in
theorem nk_86_0 : pe_ckB (pe_GL []) pe_cl pe_ckS tn_86 (td_86 0).1 (td_86 0).2 = true := by decide +kernel
set_option maxRecDepth 40000 in
theorem nk_86_1 : pe_ckB (pe_GL []) pe_cl pe_ckS tn_86 (td_86 1).1 (td_86 1).2 = true := by decide +kernel
set_option maxRecDepth 40000 in
theorem nk_86_2 : pe_ckB (pe_GL []) pe_cl pe_ckS tn_86 (td_86 2).1 (td_86 2).2 = true := by decide +kernel
set_option maxRecDepth 40000 in
theorem nk_86_3 : pe_ckB (pe_GL []) pe_cl pe_ckS tn_86 (td_86 3).1 (td_86 3).2 = true := by decide +kernel
set_option maxRecDepth 40000 in
theorem nk_86_4 : pe_ckB (pe_GL []) pe_cl pe_ckS tn_86 (td_86 4).1 (td_86 4).2 = true := by decide +kernel
set_option maxRecDepth 40000 in
theorem nk_86_5 : pe_ckB (pe_GL []) pe_cl pe_ckS tn_86 (td_86 5).1 (td_86 5).2 = true := by decide +kernel
set_option maxRecDepth 40000 in
theorem nk_86_6 : pe_ckB (pe_GL []) pe_cl pe_ckS tn_86 (td_86 6).1 (td_86 6).2 = true := by decide +kernel
set_option maxRecDepth 40000 in
theorem nk_86_7 : pe_ckB (pe_GL []) pe_cl pe_ckS tn_86 (td_86 7).1 (td_86 7).2 = true := by decide +kernel
set_option maxRecDepth 40000 in
theorem nk_86_8 : pe_ckB (pe_GL []) pe_cl pe_ckS tn_86 (td_86 8).1 (td_86 8).2 = true := by decide +kernel
theorem nk_86_a : ∀ b ∈ tn_86.bl, pe_ckB (pe_GL []) pe_cl pe_ckS tn_86 b.1 b.2 = true := by
  intro b hb
  obtain ⟨n, hn⟩ := List.getElem?_of_mem hb
  rw [← pe_at_eq] at hn
  match n, hn with
  | 0, hn =>
    have h2 : td_86 0 = b := by unfold td_86; rw [hn]; rfl
    rw [← h2]; exact nk_86_0
  | 1, hn =>
    have h2 : td_86 1 = b := by unfold td_86; rw [hn]; rfl
    rw [← h2]; exact nk_86_1
  | 2, hn =>
    have h2 : td_86 2 = b := by unfold td_86; rw [hn]; rfl
    rw [← h2]; exact nk_86_2
  | 3, hn =>
    have h2 : td_86 3 = b := by unfold td_86; rw [hn]; rfl
    rw [← h2]; exact nk_86_3
  | 4, hn =>
    have h2 : td_86 4 = b := by unfold td_86; rw [hn]; rfl
    rw [← h2]; exact nk_86_4
  | 5, hn =>
    have h2 : td_86 5 = b := by unfold td_86; rw [hn]; rfl
    rw [← h2]; exact nk_86_5
  | 6, hn =>
    have h2 : td_86 6 = b := by unfold td_86; rw [hn]; rfl
    rw [← h2]; exact nk_86_6
  | 7, hn =>
    have h2 : td_86 7 = b := by unfold td_86; rw [hn]; rfl
    rw [← h2]; exact nk_86_7
  | 8, hn =>
    have h2 : td_86 8 = b := by unfold td_86; rw [hn]; rfl
    rw [← h2]; exact nk_86_8
  | n + 9, hn =>
    rw [pe_at_eq] at hn
    exact absurd (List.getElem?_eq_some_iff.mp hn).1 (by show ¬ n + 9 < 9; omega)
theorem nk_86 : pe_okM (pe_GL []) pe_cl pe_ckS tn_86 = true := pe_okM_mk (pe_w_of (by rfl) (by rfl)) (by decide +kernel) nk_86_a
set_option maxRecDepth 40000 in
theorem nk_87 : pe_okM (pe_GL []) pe_cl pe_ckS tn_87 = true := by decide +kernel
set_option maxRecDepth 40000 in
theorem nk_88 : pe_okM (pe_GL []) pe_cl pe_ckS tn_88 = true := by decide +kernel
def td_89 (k : Nat) : Nat × List pe_I := (pe_at tn_89.bl k).getD (0, [])
set_option maxRecDepth 40000 in
theorem nk_89_0 : pe_ckB (pe_GL []) pe_cl pe_ckS tn_89 (td_89 0).1 (td_89 0).2 = true := by decide +kernel
set_option maxRecDepth 40000 in
theorem nk_89_1 : pe_ckB (pe_GL []) pe_cl pe_ckS tn_89 (td_89 1).1 (td_89 1).2 = true := by decide +kernel
set_option maxRecDepth 40000 in
theorem nk_89_2 : pe_ckB (pe_GL []) pe_cl pe_ckS tn_89 (td_89 2).1 (td_89 2).2 = true := by decide +kernel
set_option maxRecDepth 40000 in
theorem nk_89_3 : pe_ckB (pe_GL []) pe_cl pe_ckS tn_89 (td_89 3).1 (td_89 3).2 = true := by decide +kernel
set_option maxRecDepth 40000 in
theorem nk_89_4 : pe_ckB (pe_GL []) pe_cl pe_ckS tn_89 (td_89 4).1 (td_89 4).2 = true := by decide +kernel
set_option maxRecDepth 40000 in
theorem nk_89_5 : pe_ckB (pe_GL []) pe_cl pe_ckS tn_89 (td_89 5).1 (td_89 5).2 = true := by decide +kernel
set_option maxRecDepth 40000 in
theorem nk_89_6 : pe_ckB (pe_GL []) pe_cl pe_ckS tn_89 (td_89 6).1 (td_89 6).2 = true := by decide +kernel
set_option maxRecDepth 40000 in
theorem nk_89_7 : pe_ckB (pe_GL []) pe_cl pe_ckS tn_89 (td_89 7).1 (td_89 7).2 = true := by decide +kernel
set_option maxRecDepth 40000 in
theorem nk_89_8 : pe_ckB (pe_GL []) pe_cl pe_ckS tn_89 (td_89 8).1 (td_89 8).2 = true := by decide +kernel
set_option maxRecDepth 40000 in
theorem nk_89_9 : pe_ckB (pe_GL []) pe_cl pe_ckS tn_89 (td_89 9).1 (td_89 9).2 = true := by decide +kernel
set_option maxRecDepth 40000 in
theorem nk_89_10 : pe_ckB (pe_GL []) pe_cl pe_ckS tn_89 (td_89 10).1 (td_89 10).2 = true := by decide +kernel
set_option maxRecDepth 40000 in
theorem nk_89_11 : pe_ckB (pe_GL []) pe_cl pe_ckS tn_89 (td_89 11).1 (td_89 11).2 = true := by decide +kernel
set_option maxRecDepth 40000 in
theorem nk_89_12 : pe_ckB (pe_GL []) pe_cl pe_ckS tn_89 (td_89 12).1 (td_89 12).2 = true := by decide +kernel
set_option maxRecDepth 40000 in
theorem nk_89_13 : pe_ckB (pe_GL []) pe_cl pe_ckS tn_89 (td_89 13).1 (td_89 13).2 = true := by decide +kernel
set_option maxRecDepth 40000 in
theorem nk_89_14 : pe_ckB (pe_GL []) pe_cl pe_ckS tn_89 (td_89 14).1 (td_89 14).2 = true := by decide +kernel
set_option maxRecDepth 40000 in
theorem nk_89_15 : pe_ckB (pe_GL []) pe_cl pe_ckS tn_89 (td_89 15).1 (td_89 15).2 = true := by decide +kernel
set_option maxRecDepth 40000 in
theorem nk_89_16 : pe_ckB (pe_GL []) pe_cl pe_ckS tn_89 (td_89 16).1 (td_89 16).2 = true := by decide +kernel
theorem nk_89_a : ∀ b ∈ tn_89.bl, pe_ckB (pe_GL []) pe_cl pe_ckS tn_89 b.1 b.2 = true := by
  intro b hb
  obtain ⟨n, hn⟩ := List.getElem?_of_mem hb
  rw [← pe_at_eq] at hn
  match n, hn with
  | 0, hn =>
    have h2 : td_89 0 = b := by unfold td_89; rw [hn]; rfl
    rw [← h2]; exact nk_89_0
  | 1, hn =>
    have h2 : td_89 1 = b := by unfold td_89; rw [hn]; rfl
    rw [← h2]; exact nk_89_1
  | 2, hn =>
    have h2 : td_89 2 = b := by unfold td_89; rw [hn]; rfl
    rw [← h2]; exact nk_89_2
  | 3, hn =>
    have h2 : td_89 3 = b := by unfold td_89; rw [hn]; rfl
    rw [← h2]; exact nk_89_3
  | 4, hn =>
    have h2 : td_89 4 = b := by unfold td_89; rw [hn]; rfl
    rw [← h2]; exact nk_89_4
  | 5, hn =>
    have h2 : td_89 5 = b := by unfold td_89; rw [hn]; rfl
    rw [← h2]; exact nk_89_5
  | 6, hn =>
    have h2 : td_89 6 = b := by unfold td_89; rw [hn]; rfl
    rw [← h2]; exact nk_89_6
  | 7, hn =>
    have h2 : td_89 7 = b := by unfold td_89; rw [hn]; rfl
    rw [← h2]; exact nk_89_7
  | 8, hn =>
    have h2 : td_89 8 = b := by unfold td_89; rw [hn]; rfl
    rw [← h2]; exact nk_89_8
  | 9, hn =>
    have h2 : td_89 9 = b := by unfold td_89; rw [hn]; rfl
    rw [← h2]; exact nk_89_9
  | 10, hn =>
    have h2 : td_89 10 = b := by unfold td_89; rw [hn]; rfl
    rw [← h2]; exact nk_89_10
  | 11, hn =>
    have h2 : td_89 11 = b := by unfold td_89; rw [hn]; rfl
    rw [← h2]; exact nk_89_11
  | 12, hn =>
    have h2 : td_89 12 = b := by unfold td_89; rw [hn]; rfl
    rw [← h2]; exact nk_89_12
  | 13, hn =>
    have h2 : td_89 13 = b := by unfold td_89; rw [hn]; rfl
    rw [← h2]; exact nk_89_13
  | 14, hn =>
    have h2 : td_89 14 = b := by unfold td_89; rw [hn]; rfl
    rw [← h2]; exact nk_89_14
  | 15, hn =>
    have h2 : td_89 15 = b := by unfold td_89; rw [hn]; rfl
    rw [← h2]; exact nk_89_15
  | 16, hn =>
    have h2 : td_89 16 = b := by unfold td_89; rw [hn]; rfl
    rw [← h2]; exact nk_89_16
  | n + 17, hn =>
    rw [pe_at_eq] at hn
    exact absurd (List.getElem?_eq_some_iff.mp hn).1 (by show ¬ n + 17 < 17; omega)
theorem nk_89 : pe_okM (pe_GL []) pe_cl pe_ckS tn_89 = true := pe_okM_mk (pe_w_of (by rfl) (by rfl)) (by decide +kernel) nk_89_a
set_option maxRecDepth 40000 in
theorem nk_90 : pe_okM (pe_GL []) pe_cl pe_ckS tn_90 = true := by decide +kernel
set_option maxRecDepth 40000 in
theorem nk_91 : pe_okM (pe_GL []) pe_cl pe_ckS tn_91 = true := by decide +kernel
set_option maxRecDepth 40000 in
theorem nk_92 : pe_okM (pe_GL []) pe_cl pe_ckS tn_92 = true := by decide +kernel
set_option maxRecDepth 40000 in
theorem nk_93 : pe_okM (pe_GL []) pe_cl pe_ckS tn_93 = true := by decide +kernel
set_option maxRecDepth 40000 in
theorem nk_94 : pe_okM (pe_GL []) pe_cl pe_ckS tn_94 = true := by decide +kernel
set_option maxRecDepth 40000 in
theorem nk_95 : pe_okM (pe_GL []) pe_cl pe_ckS tn_95 = true := by decide +kernel
set_option maxRecDepth 40000 in
theorem nk_96 : pe_okM (pe_GL []) pe_cl pe_ckS tn_96 = true := by decide +kernel
set_option maxRecDepth 40000 in
theorem nk_97 : pe_okM (pe_GL []) pe_cl pe_ckS tn_97 = true := by decide +kernel
set_option maxRecDepth 40000 in
theorem nk_98 : pe_okM (pe_GL []) pe_cl pe_ckS tn_98 = true := by decide +kernel
set_option maxRecDepth 40000 in
theorem nk_99 : pe_okM (pe_GL []) pe_cl pe_ckS tn_99 = true := by decide +kernel
set_option maxRecDepth 40000 in
theorem nk_100 : pe_okM (pe_GL []) pe_cl pe_ckS tn_100 = true := by decide +kernel
