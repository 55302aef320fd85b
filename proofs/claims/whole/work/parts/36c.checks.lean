/-! PART 36c: the methods of part 36, checked once. -/
set_option maxRecDepth 40000 in
theorem nk_52 : pe_okM (pe_GL []) pe_cl pe_ckS tn_52 = true := by decide +kernel
set_option maxRecDepth 40000 in
theorem nk_53 : pe_okM (pe_GL []) pe_cl pe_ckS tn_53 = true := by decide +kernel
set_option maxRecDepth 40000 in
theorem nk_54 : pe_okM (pe_GL []) pe_cl pe_ckS tn_54 = true := by decide +kernel
set_option maxRecDepth 40000 in
theorem nk_55 : pe_okM (pe_GL []) pe_cl pe_ckS tn_55 = true := by decide +kernel
set_option maxRecDepth 40000 in
theorem nk_56 : pe_okM (pe_GL []) pe_cl pe_ckS tn_56 = true := by decide +kernel
def td_57 (k : Nat) : Nat × List pe_I := (pe_at tn_57.bl k).getD (0, [])
set_option maxRecDepth 40000 in
theorem nk_57_0 : pe_ckB (pe_GL []) pe_cl pe_ckS tn_57 (td_57 0).1 (td_57 0).2 = true := by decide +kernel
set_option maxRecDepth 40000 in
theorem nk_57_1 : pe_ckB (pe_GL []) pe_cl pe_ckS tn_57 (td_57 1).1 (td_57 1).2 = true := by decide +kernel
set_option maxRecDepth 40000 in
theorem nk_57_2 : pe_ckB (pe_GL []) pe_cl pe_ckS tn_57 (td_57 2).1 (td_57 2).2 = true := by decide +kernel
set_option maxRecDepth 40000 in
theorem nk_57_3 : pe_ckB (pe_GL []) pe_cl pe_ckS tn_57 (td_57 3).1 (td_57 3).2 = true := by decide +kernel
set_option maxRecDepth 40000 in
theorem nk_57_4 : pe_ckB (pe_GL []) pe_cl pe_ckS tn_57 (td_57 4).1 (td_57 4).2 = true := by decide +kernel
set_option maxRecDepth 40000 in
theorem nk_57_5 : pe_ckB (pe_GL []) pe_cl pe_ckS tn_57 (td_57 5).1 (td_57 5).2 = true := by decide +kernel
set_option maxRecDepth 40000 in
theorem nk_57_6 : pe_ckB (pe_GL []) pe_cl pe_ckS tn_57 (td_57 6).1 (td_57 6).2 = true := by decide +kernel
set_option maxRecDepth 40000 in
theorem nk_57_7 : pe_ckB (pe_GL []) pe_cl pe_ckS tn_57 (td_57 7).1 (td_57 7).2 = true := by decide +kernel
set_option maxRecDepth 40000 in
theorem nk_57_8 : pe_ckB (pe_GL []) pe_cl pe_ckS tn_57 (td_57 8).1 (td_57 8).2 = true := by decide +kernel
set_option maxRecDepth 40000 in
theorem nk_57_9 : pe_ckB (pe_GL []) pe_cl pe_ckS tn_57 (td_57 9).1 (td_57 9).2 = true := by decide +kernel
set_option maxRecDepth 40000 in
theorem nk_57_10 : pe_ckB (pe_GL []) pe_cl pe_ckS tn_57 (td_57 10).1 (td_57 10).2 = true := by decide +kernel
theorem nk_57_a : ∀ b ∈ tn_57.bl, pe_ckB (pe_GL []) pe_cl pe_ckS tn_57 b.1 b.2 = true := by
  intro b hb
  obtain ⟨n, hn⟩ := List.getElem?_of_mem hb
  rw [← pe_at_eq] at hn
  match n, hn with
  | 0, hn =>
    have h2 : td_57 0 = b := by unfold td_57; rw [hn]; rfl
    rw [← h2]; exact nk_57_0
  | 1, hn =>
    have h2 : td_57 1 = b := by unfold td_57; rw [hn]; rfl
    rw [← h2]; exact nk_57_1
  | 2, hn =>
    have h2 : td_57 2 = b := by unfold td_57; rw [hn]; rfl
    rw [← h2]; exact nk_57_2
  | 3, hn =>
    have h2 : td_57 3 = b := by unfold td_57; rw [hn]; rfl
    rw [← h2]; exact nk_57_3
  | 4, hn =>
    have h2 : td_57 4 = b := by unfold td_57; rw [hn]; rfl
    rw [← h2]; exact nk_57_4
  | 5, hn =>
    have h2 : td_57 5 = b := by unfold td_57; rw [hn]; rfl
    rw [← h2]; exact nk_57_5
  | 6, hn =>
    have h2 : td_57 6 = b := by unfold td_57; rw [hn]; rfl
    rw [← h2]; exact nk_57_6
  | 7, hn =>
    have h2 : td_57 7 = b := by unfold td_57; rw [hn]; rfl
    rw [← h2]; exact nk_57_7
  | 8, hn =>
    have h2 : td_57 8 = b := by unfold td_57; rw [hn]; rfl
    rw [← h2]; exact nk_57_8
  | 9, hn =>
    have h2 : td_57 9 = b := by unfold td_57; rw [hn]; rfl
    rw [← h2]; exact nk_57_9
  | 10, hn =>
    have h2 : td_57 10 = b := by unfold td_57; rw [hn]; rfl
    rw [← h2]; exact nk_57_10
  | n + 11, hn =>
    rw [pe_at_eq] at hn
    exact absurd (List.getElem?_eq_some_iff.mp hn).1 (by show ¬ n + 11 < 11; omega)
theorem nk_57 : pe_okM (pe_GL []) pe_cl pe_ckS tn_57 = true := pe_okM_mk (pe_w_of (by rfl) (by rfl)) (by decide +kernel) nk_57_a
set_option maxRecDepth 40000 in
theorem nk_58 : pe_okM (pe_GL []) pe_cl pe_ckS tn_58 = true := by decide +kernel
set_option maxRecDepth 40000 in
theorem nk_59 : pe_okM (pe_GL []) pe_cl pe_ckS tn_59 = true := by decide +kernel
set_option maxRecDepth 40000 in
theorem nk_60 : pe_okM (pe_GL []) pe_cl pe_ckS tn_60 = true := by decide +kernel
set_option maxRecDepth 40000 in
theorem nk_61 : pe_okM (pe_GL []) pe_cl pe_ckS tn_61 = true := by decide +kernel
set_option maxRecDepth 40000 in
theorem nk_62 : pe_okM (pe_GL []) pe_cl pe_ckS tn_62 = true := by decide +kernel
def td_63 (k : Nat) : Nat × List pe_I := (pe_at tn_63.bl k).getD (0, [])
set_option maxRecDepth 40000 in
theorem nk_63_0 : pe_ckB (pe_GL []) pe_cl pe_ckS tn_63 (td_63 0).1 (td_63 0).2 = true := by decide +kernel
set_option maxRecDepth 40000 in
theorem nk_63_1 : pe_ckB (pe_GL []) pe_cl pe_ckS tn_63 (td_63 1).1 (td_63 1).2 = true := by decide +kernel
set_option maxRecDepth 40000 in
theorem nk_63_2 : pe_ckB (pe_GL []) pe_cl pe_ckS tn_63 (td_63 2).1 (td_63 2).2 = true := by decide +kernel
set_option maxRecDepth 40000 in
theorem nk_63_3 : pe_ckB (pe_GL []) pe_cl pe_ckS tn_63 (td_63 3).1 (td_63 3).2 = true := by decide +kernel
set_option maxRecDepth 40000 in
theorem nk_63_4 : pe_ckB (pe_GL []) pe_cl pe_ckS tn_63 (td_63 4).1 (td_63 4).2 = true := by decide +kernel
set_option maxRecDepth 40000 in
theorem nk_63_5 : pe_ckB (pe_GL []) pe_cl pe_ckS tn_63 (td_63 5).1 (td_63 5).2 = true := by decide +kernel
theorem nk_63_a : ∀ b ∈ tn_63.bl, pe_ckB (pe_GL []) pe_cl pe_ckS tn_63 b.1 b.2 = true := by
  intro b hb
  obtain ⟨n, hn⟩ := List.getElem?_of_mem hb
  rw [← pe_at_eq] at hn
  match n, hn with
  | 0, hn =>
    have h2 : td_63 0 = b := by unfold td_63; rw [hn]; rfl
    rw [← h2]; exact nk_63_0
  | 1, hn =>
    have h2 : td_63 1 = b := by unfold td_63; rw [hn]; rfl
    rw [← h2]; exact nk_63_1
  | 2, hn =>
    have h2 : td_63 2 = b := by unfold td_63; rw [hn]; rfl
    rw [← h2]; exact nk_63_2
  | 3, hn =>
    have h2 : td_63 3 = b := by unfold td_63; rw [hn]; rfl
    rw [← h2]; exact nk_63_3
  | 4, hn =>
    have h2 : td_63 4 = b := by unfold td_63; rw [hn]; rfl
    rw [← h2]; exact nk_63_4
  | 5, hn =>
    have h2 : td_63 5 = b := by unfold td_63; rw [hn]; rfl
    rw [← h2]; exact nk_63_5
  | n + 6, hn =>
    rw [pe_at_eq] at hn
    exact absurd (List.getElem?_eq_some_iff.mp hn).1 (by show ¬ n + 6 < 6; omega)
theorem nk_63 : pe_okM (pe_GL []) pe_cl pe_ckS tn_63 = true := pe_okM_mk (pe_w_of (by rfl) (by rfl)) (by decide +kernel) nk_63_a
set_option maxRecDepth 40000 in
theorem nk_64 : pe_okM (pe_GL []) pe_cl pe_ckS tn_64 = true := by decide +kernel
set_option maxRecDepth 40000 in
theorem nk_65 : pe_okM (pe_GL []) pe_cl pe_ckS tn_65 = true := by decide +kernel
set_option maxRecDepth 40000 in
theorem nk_66 : pe_okM (pe_GL []) pe_cl pe_ckS tn_66 = true := by decide +kernel
set_option maxRecDepth 40000 in
theorem nk_67 : pe_okM (pe_GL []) pe_cl pe_ckS tn_67 = true := by decide +kernel
set_option maxRecDepth 40000 in
theorem nk_68 : pe_okM (pe_GL []) pe_cl pe_ckS tn_68 = true := by decide +kernel
set_option maxRecDepth 40000 in
theorem nk_69 : pe_okM (pe_GL []) pe_cl pe_ckS tn_69 = true := by decide +kernel
set_option maxRecDepth 40000 in
theorem nk_70 : pe_okM (pe_GL []) pe_cl pe_ckS tn_70 = true := by decide +kernel
set_option maxRecDepth 40000 in
theorem nk_71 : pe_okM (pe_GL []) pe_cl pe_ckS tn_71 = true := by decide +kernel
set_option maxRecDepth 40000 in
theorem nk_72 : pe_okM (pe_GL []) pe_cl pe_ckS tn_72 = true := by decide +kernel
set_option maxRecDepth 40000 in
theorem nk_73 : pe_okM (pe_GL []) pe_cl pe_ckS tn_73 = true := by decide +kernel
def td_74 (k : Nat) : Nat × List pe_I := (pe_at tn_74.bl k).getD (0, [])
set_option maxRecDepth 40000 in
theorem nk_74_0 : pe_ckB (pe_GL []) pe_cl pe_ckS tn_74 (td_74 0).1 (td_74 0).2 = true := by decide +kernel
set_option maxRecDepth 40000 in
theorem nk_74_1 : pe_ckB (pe_GL []) pe_cl pe_ckS tn_74 (td_74 1).1 (td_74 1).2 = true := by decide +kernel
set_option maxRecDepth 40000 in
theorem nk_74_2 : pe_ckB (pe_GL []) pe_cl pe_ckS tn_74 (td_74 2).1 (td_74 2).2 = true := by decide +kernel
set_option maxRecDepth 40000 in
theorem nk_74_3 : pe_ckB (pe_GL []) pe_cl pe_ckS tn_74 (td_74 3).1 (td_74 3).2 = true := by decide +kernel
set_option maxRecDepth 40000 in
theorem nk_74_4 : pe_ckB (pe_GL []) pe_cl pe_ckS tn_74 (td_74 4).1 (td_74 4).2 = true := by decide +kernel
set_option maxRecDepth 40000 in
theorem nk_74_5 : pe_ckB (pe_GL []) pe_cl pe_ckS tn_74 (td_74 5).1 (td_74 5).2 = true := by decide +kernel
set_option maxRecDepth 40000 in
theorem nk_74_6 : pe_ckB (pe_GL []) pe_cl pe_ckS tn_74 (td_74 6).1 (td_74 6).2 = true := by decide +kernel
set_option maxRecDepth 40000 in
theorem nk_74_7 : pe_ckB (pe_GL []) pe_cl pe_ckS tn_74 (td_74 7).1 (td_74 7).2 = true := by decide +kernel
set_option maxRecDepth 40000 in
theorem nk_74_8 : pe_ckB (pe_GL []) pe_cl pe_ckS tn_74 (td_74 8).1 (td_74 8).2 = true := by decide +kernel
set_option maxRecDepth 40000 in
theorem nk_74_9 : pe_ckB (pe_GL []) pe_cl pe_ckS tn_74 (td_74 9).1 (td_74 9).2 = true := by decide +kernel
set_option maxRecDepth 40000 in
theorem nk_74_10 : pe_ckB (pe_GL []) pe_cl pe_ckS tn_74 (td_74 10).1 (td_74 10).2 = true := by decide +kernel
set_option maxRecDepth 40000 in
theorem nk_74_11 : pe_ckB (pe_GL []) pe_cl pe_ckS tn_74 (td_74 11).1 (td_74 11).2 = true := by decide +kernel
set_option maxRecDepth 40000 in
theorem nk_74_12 : pe_ckB (pe_GL []) pe_cl pe_ckS tn_74 (td_74 12).1 (td_74 12).2 = true := by decide +kernel
set_option maxRecDepth 40000 in
theorem nk_74_13 : pe_ckB (pe_GL []) pe_cl pe_ckS tn_74 (td_74 13).1 (td_74 13).2 = true := by decide +kernel
set_option maxRecDepth 40000 in
theorem nk_74_14 : pe_ckB (pe_GL []) pe_cl pe_ckS tn_74 (td_74 14).1 (td_74 14).2 = true := by decide +kernel
set_option maxRecDepth 40000 in
theorem nk_74_15 : pe_ckB (pe_GL []) pe_cl pe_ckS tn_74 (td_74 15).1 (td_74 15).2 = true := by decide +kernel
set_option maxRecDepth 40000 in
theorem nk_74_16 : pe_ckB (pe_GL []) pe_cl pe_ckS tn_74 (td_74 16).1 (td_74 16).2 = true := by decide +kernel
set_option maxRecDepth 40000 in
theorem nk_74_17 : pe_ckB (pe_GL []) pe_cl pe_ckS tn_74 (td_74 17).1 (td_74 17).2 = true := by decide +kernel
set_option maxRecDepth 40000 in
theorem nk_74_18 : pe_ckB (pe_GL []) pe_cl pe_ckS tn_74 (td_74 18).1 (td_74 18).2 = true := by decide +kernel
set_option maxRecDepth 40000 in
theorem nk_74_19 : pe_ckB (pe_GL []) pe_cl pe_ckS tn_74 (td_74 19).1 (td_74 19).2 = true := by decide +kernel
theorem nk_74_a : ∀ b ∈ tn_74.bl, pe_ckB (pe_GL []) pe_cl pe_ckS tn_74 b.1 b.2 = true := by
  intro b hb
  obtain ⟨n, hn⟩ := List.getElem?_of_mem hb
  rw [← pe_at_eq] at hn
  match n, hn with
  | 0, hn =>
    have h2 : td_74 0 = b := by unfold td_74; rw [hn]; rfl
    rw [← h2]; exact nk_74_0
  | 1, hn =>
    have h2 : td_74 1 = b := by unfold td_74; rw [hn]; rfl
    rw [← h2]; exact nk_74_1
  | 2, hn =>
    have h2 : td_74 2 = b := by unfold td_74; rw [hn]; rfl
    rw [← h2]; exact nk_74_2
  | 3, hn =>
    have h2 : td_74 3 = b := by unfold td_74; rw [hn]; rfl
    rw [← h2]; exact nk_74_3
  | 4, hn =>
    have h2 : td_74 4 = b := by unfold td_74; rw [hn]; rfl
    rw [← h2]; exact nk_74_4
  | 5, hn =>
    have h2 : td_74 5 = b := by unfold td_74; rw [hn]; rfl
    rw [← h2]; exact nk_74_5
  | 6, hn =>
    have h2 : td_74 6 = b := by unfold td_74; rw [hn]; rfl
    rw [← h2]; exact nk_74_6
  | 7, hn =>
    have h2 : td_74 7 = b := by unfold td_74; rw [hn]; rfl
    rw [← h2]; exact nk_74_7
  | 8, hn =>
    have h2 : td_74 8 = b := by unfold td_74; rw [hn]; rfl
    rw [← h2]; exact nk_74_8
  | 9, hn =>
    have h2 : td_74 9 = b := by unfold td_74; rw [hn]; rfl
    rw [← h2]; exact nk_74_9
  | 10, hn =>
    have h2 : td_74 10 = b := by unfold td_74; rw [hn]; rfl
    rw [← h2]; exact nk_74_10
  | 11, hn =>
    have h2 : td_74 11 = b := by unfold td_74; rw [hn]; rfl
    rw [← h2]; exact nk_74_11
  | 12, hn =>
    have h2 : td_74 12 = b := by unfold td_74; rw [hn]; rfl
    rw [← h2]; exact nk_74_12
  | 13, hn =>
    have h2 : td_74 13 = b := by unfold td_74; rw [hn]; rfl
    rw [← h2]; exact nk_74_13
  | 14, hn =>
    have h2 : td_74 14 = b := by unfold td_74; rw [hn]; rfl
    rw [← h2]; exact nk_74_14
  | 15, hn =>
    have h2 : td_74 15 = b := by unfold td_74; rw [hn]; rfl
    rw [← h2]; exact nk_74_15
  | 16, hn =>
    have h2 : td_74 16 = b := by unfold td_74; rw [hn]; rfl
    rw [← h2]; exact nk_74_16
  | 17, hn =>
    have h2 : td_74 17 = b := by unfold td_74; rw [hn]; rfl
    rw [← h2]; exact nk_74_17
  | 18, hn =>
    have h2 : td_74 18 = b := by unfold td_74; rw [hn]; rfl
    rw [← h2]; exact nk_74_18
  | 19, hn =>
    have h2 : td_74 19 = b := by unfold td_74; rw [hn]; rfl
    rw [← h2]; exact nk_74_19
  | n + 20, hn =>
    rw [pe_at_eq] at hn
    exact absurd (List.getElem?_eq_some_iff.mp hn).1 (by show ¬ n + 20 < 20; omega)
theorem nk_74 : pe_okM (pe_GL []) pe_cl pe_ckS tn_74 = true := pe_okM_mk (pe_w_of (by rfl) (by rfl)) (by decide +kernel) nk_74_a
def td_75 (k : Nat) : Nat × List pe_I := (pe_at tn_75.bl k).getD (0, [])
set_option maxRecDepth 40000 in
theorem nk_75_0 : pe_ckB (pe_GL []) pe_cl pe_ckS tn_75 (td_75 0).1 (td_75 0).2 = true := by decide +kernel
set_option maxRecDepth 40000 in
theorem nk_75_1 : pe_ckB (pe_GL []) pe_cl pe_ckS tn_75 (td_75 1).1 (td_75 1).2 = true := by decide +kernel
set_option maxRecDepth 40000 in
theorem nk_75_2 : pe_ckB (pe_GL []) pe_cl pe_ckS tn_75 (td_75 2).1 (td_75 2).2 = true := by decide +kernel
set_option maxRecDepth 40000 in
theorem nk_75_3 : pe_ckB (pe_GL []) pe_cl pe_ckS tn_75 (td_75 3).1 (td_75 3).2 = true := by decide +kernel
set_option maxRecDepth 40000 in
theorem nk_75_4 : pe_ckB (pe_GL []) pe_cl pe_ckS tn_75 (td_75 4).1 (td_75 4).2 = true := by decide +kernel
set_option maxRecDepth 40000 in
theorem nk_75_5 : pe_ckB (pe_GL []) pe_cl pe_ckS tn_75 (td_75 5).1 (td_75 5).2 = true := by decide +kernel
set_option maxRecDepth 40000 in
theorem nk_75_6 : pe_ckB (pe_GL []) pe_cl pe_ckS tn_75 (td_75 6).1 (td_75 6).2 = true := by decide +kernel
set_option maxRecDepth 40000 in
theorem nk_75_7 : pe_ckB (pe_GL []) pe_cl pe_ckS tn_75 (td_75 7).1 (td_75 7).2 = true := by decide +kernel
set_option maxRecDepth 40000 in
theorem nk_75_8 : pe_ckB (pe_GL []) pe_cl pe_ckS tn_75 (td_75 8).1 (td_75 8).2 = true := by decide +kernel
set_option maxRecDepth 40000 in
theorem nk_75_9 : pe_ckB (pe_GL []) pe_cl pe_ckS tn_75 (td_75 9).1 (td_75 9).2 = true := by decide +kernel
set_option maxRecDepth 40000 in
theorem nk_75_10 : pe_ckB (pe_GL []) pe_cl pe_ckS tn_75 (td_75 10).1 (td_75 10).2 = true := by decide +kernel
set_option maxRecDepth 40000 in
theorem nk_75_11 : pe_ckB (pe_GL []) pe_cl pe_ckS tn_75 (td_75 11).1 (td_75 11).2 = true := by decide +kernel
set_option maxRecDepth 40000 in
theorem nk_75_12 : pe_ckB (pe_GL []) pe_cl pe_ckS tn_75 (td_75 12).1 (td_75 12).2 = true := by decide +kernel
set_option maxRecDepth 40000 in
theorem nk_75_13 : pe_ckB (pe_GL []) pe_cl pe_ckS tn_75 (td_75 13).1 (td_75 13).2 = true := by decide +kernel
set_option maxRecDepth 40000 in
theorem nk_75_14 : pe_ckB (pe_GL []) pe_cl pe_ckS tn_75 (td_75 14).1 (td_75 14).2 = true := by decide +kernel
theorem nk_75_a : ∀ b ∈ tn_75.bl, pe_ckB (pe_GL []) pe_cl pe_ckS tn_75 b.1 b.2 = true := by
  intro b hb
  obtain ⟨n, hn⟩ := List.getElem?_of_mem hb
  rw [← pe_at_eq] at hn
  match n, hn with
  | 0, hn =>
    have h2 : td_75 0 = b := by unfold td_75; rw [hn]; rfl
    rw [← h2]; exact nk_75_0
  | 1, hn =>
    have h2 : td_75 1 = b := by unfold td_75; rw [hn]; rfl
    rw [← h2]; exact nk_75_1
  | 2, hn =>
    have h2 : td_75 2 = b := by unfold td_75; rw [hn]; rfl
    rw [← h2]; exact nk_75_2
  | 3, hn =>
    have h2 : td_75 3 = b := by unfold td_75; rw [hn]; rfl
    rw [← h2]; exact nk_75_3
  | 4, hn =>
    have h2 : td_75 4 = b := by unfold td_75; rw [hn]; rfl
    rw [← h2]; exact nk_75_4
  | 5, hn =>
    have h2 : td_75 5 = b := by unfold td_75; rw [hn]; rfl
    rw [← h2]; exact nk_75_5
  | 6, hn =>
    have h2 : td_75 6 = b := by unfold td_75; rw [hn]; rfl
    rw [← h2]; exact nk_75_6
  | 7, hn =>
    have h2 : td_75 7 = b := by unfold td_75; rw [hn]; rfl
    rw [← h2]; exact nk_75_7
  | 8, hn =>
    have h2 : td_75 8 = b := by unfold td_75; rw [hn]; rfl
    rw [← h2]; exact nk_75_8
  | 9, hn =>
    have h2 : td_75 9 = b := by unfold td_75; rw [hn]; rfl
    rw [← h2]; exact nk_75_9
  | 10, hn =>
    have h2 : td_75 10 = b := by unfold td_75; rw [hn]; rfl
    rw [← h2]; exact nk_75_10
  | 11, hn =>
    have h2 : td_75 11 = b := by unfold td_75; rw [hn]; rfl
    rw [← h2]; exact nk_75_11
  | 12, hn =>
    have h2 : td_75 12 = b := by unfold td_75; rw [hn]; rfl
    rw [← h2]; exact nk_75_12
  | 13, hn =>
    have h2 : td_75 13 = b := by unfold td_75; rw [hn]; rfl
    rw [← h2]; exact nk_75_13
  | 14, hn =>
    have h2 : td_75 14 = b := by unfold td_75; rw [hn]; rfl
    rw [← h2]; exact nk_75_14
  | n + 15, hn =>
    rw [pe_at_eq] at hn
    exact absurd (List.getElem?_eq_some_iff.mp hn).1 (by show ¬ n + 15 < 15; omega)
theorem nk_75 : pe_okM (pe_GL []) pe_cl pe_ckS tn_75 = true := pe_okM_mk (pe_w_of (by rfl) (by rfl)) (by decide +kernel) nk_75_a
set_option maxRecDepth 40000 in
theorem nk_76 : pe_okM (pe_GL []) pe_cl pe_ckS tn_76 = true := by decide +kernel
def td_77 (k : Nat) : Nat × List pe_I := (pe_at tn_77.bl k).getD (0, [])
set_option maxRecDepth 40000 in
theorem nk_77_0 : pe_ckB (pe_GL []) pe_cl pe_ckS tn_77 (td_77 0).1 (td_77 0).2 = true := by decide +kernel
set_option maxRecDepth 40000 in
theorem nk_77_1 : pe_ckB (pe_GL []) pe_cl pe_ckS tn_77 (td_77 1).1 (td_77 1).2 = true := by decide +kernel
set_option maxRecDepth 40000 in
theorem nk_77_2 : pe_ckB (pe_GL []) pe_cl pe_ckS tn_77 (td_77 2).1 (td_77 2).2 = true := by decide +kernel
set_option maxRecDepth 40000 in
theorem nk_77_3 : pe_ckB (pe_GL []) pe_cl pe_ckS tn_77 (td_77 3).1 (td_77 3).2 = true := by decide +kernel
set_option maxRecDepth 40000 in
theorem nk_77_4 : pe_ckB (pe_GL []) pe_cl pe_ckS tn_77 (td_77 4).1 (td_77 4).2 = true := by decide +kernel
set_option maxRecDepth 40000 in
theorem nk_77_5 : pe_ckB (pe_GL []) pe_cl pe_ckS tn_77 (td_77 5).1 (td_77 5).2 = true := by decide +kernel
set_option maxRecDepth 40000 in
theorem nk_77_6 : pe_ckB (pe_GL []) pe_cl pe_ckS tn_77 (td_77 6).1 (td_77 6).2 = true := by decide +kernel
set_option maxRecDepth 40000 in
theorem nk_77_7 : pe_ckB (pe_GL []) pe_cl pe_ckS tn_77 (td_77 7).1 (td_77 7).2 = true := by decide +kernel
set_option maxRecDepth 40000 in
theorem nk_77_8 : pe_ckB (pe_GL []) pe_cl pe_ckS tn_77 (td_77 8).1 (td_77 8).2 = true := by decide +kernel
set_option maxRecDepth 40000 in
theorem nk_77_9 : pe_ckB (pe_GL []) pe_cl pe_ckS tn_77 (td_77 9).1 (td_77 9).2 = true := by decide +kernel
set_option maxRecDepth 40000 in
theorem nk_77_10 : pe_ckB (pe_GL []) pe_cl pe_ckS tn_77 (td_77 10).1 (td_77 10).2 = true := by decide +kernel
set_option maxRecDepth 40000 in
theorem nk_77_11 : pe_ckB (pe_GL []) pe_cl pe_ckS tn_77 (td_77 11).1 (td_77 11).2 = true := by decide +kernel
set_option maxRecDepth 40000 in
theorem nk_77_12 : pe_ckB (pe_GL []) pe_cl pe_ckS tn_77 (td_77 12).1 (td_77 12).2 = true := by decide +kernel
set_option maxRecDepth 40000 in
theorem nk_77_13 : pe_ckB (pe_GL []) pe_cl pe_ckS tn_77 (td_77 13).1 (td_77 13).2 = true := by decide +kernel
set_option maxRecDepth 40000 in
theorem nk_77_14 : pe_ckB (pe_GL []) pe_cl pe_ckS tn_77 (td_77 14).1 (td_77 14).2 = true := by decide +kernel
set_option maxRecDepth 40000 in
theorem nk_77_15 : pe_ckB (pe_GL []) pe_cl pe_ckS tn_77 (td_77 15).1 (td_77 15).2 = true := by decide +kernel
set_option maxRecDepth 40000 in
theorem nk_77_16 : pe_ckB (pe_GL []) pe_cl pe_ckS tn_77 (td_77 16).1 (td_77 16).2 = true := by decide +kernel
set_option maxRecDepth 40000 in
theorem nk_77_17 : pe_ckB (pe_GL []) pe_cl pe_ckS tn_77 (td_77 17).1 (td_77 17).2 = true := by decide +kernel
set_option maxRecDepth 40000 in
theorem nk_77_18 : pe_ckB (pe_GL []) pe_cl pe_ckS tn_77 (td_77 18).1 (td_77 18).2 = true := by decide +kernel
set_option maxRecDepth 40000 in
theorem nk_77_19 : pe_ckB (pe_GL []) pe_cl pe_ckS tn_77 (td_77 19).1 (td_77 19).2 = true := by decide +kernel
set_option maxRecDepth 40000 in
theorem nk_77_20 : pe_ckB (pe_GL []) pe_cl pe_ckS tn_77 (td_77 20).1 (td_77 20).2 = true := by decide +kernel
set_option maxRecDepth 40000 in
theorem nk_77_21 : pe_ckB (pe_GL []) pe_cl pe_ckS tn_77 (td_77 21).1 (td_77 21).2 = true := by decide +kernel
set_option maxRecDepth 40000 in
theorem nk_77_22 : pe_ckB (pe_GL []) pe_cl pe_ckS tn_77 (td_77 22).1 (td_77 22).2 = true := by decide +kernel
set_option maxRecDepth 40000 in
theorem nk_77_23 : pe_ckB (pe_GL []) pe_cl pe_ckS tn_77 (td_77 23).1 (td_77 23).2 = true := by decide +kernel
theorem nk_77_a : ∀ b ∈ tn_77.bl, pe_ckB (pe_GL []) pe_cl pe_ckS tn_77 b.1 b.2 = true := by
  intro b hb
  obtain ⟨n, hn⟩ := List.getElem?_of_mem hb
  rw [← pe_at_eq] at hn
  match n, hn with
  | 0, hn =>
    have h2 : td_77 0 = b := by unfold td_77; rw [hn]; rfl
    rw [← h2]; exact nk_77_0
  | 1, hn =>
    have h2 : td_77 1 = b := by unfold td_77; rw [hn]; rfl
    rw [← h2]; exact nk_77_1
  | 2, hn =>
    have h2 : td_77 2 = b := by unfold td_77; rw [hn]; rfl
    rw [← h2]; exact nk_77_2
  | 3, hn =>
    have h2 : td_77 3 = b := by unfold td_77; rw [hn]; rfl
    rw [← h2]; exact nk_77_3
  | 4, hn =>
    have h2 : td_77 4 = b := by unfold td_77; rw [hn]; rfl
    rw [← h2]; exact nk_77_4
  | 5, hn =>
    have h2 : td_77 5 = b := by unfold td_77; rw [hn]; rfl
    rw [← h2]; exact nk_77_5
  | 6, hn =>
    have h2 : td_77 6 = b := by unfold td_77; rw [hn]; rfl
    rw [← h2]; exact nk_77_6
  | 7, hn =>
    have h2 : td_77 7 = b := by unfold td_77; rw [hn]; rfl
    rw [← h2]; exact nk_77_7
  | 8, hn =>
    have h2 : td_77 8 = b := by unfold td_77; rw [hn]; rfl
    rw [← h2]; exact nk_77_8
  | 9, hn =>
    have h2 : td_77 9 = b := by unfold td_77; rw [hn]; rfl
    rw [← h2]; exact nk_77_9
  | 10, hn =>
    have h2 : td_77 10 = b := by unfold td_77; rw [hn]; rfl
    rw [← h2]; exact nk_77_10
  | 11, hn =>
    have h2 : td_77 11 = b := by unfold td_77; rw [hn]; rfl
    rw [← h2]; exact nk_77_11
  | 12, hn =>
    have h2 : td_77 12 = b := by unfold td_77; rw [hn]; rfl
    rw [← h2]; exact nk_77_12
  | 13, hn =>
    have h2 : td_77 13 = b := by unfold td_77; rw [hn]; rfl
    rw [← h2]; exact nk_77_13
  | 14, hn =>
    have h2 : td_77 14 = b := by unfold td_77; rw [hn]; rfl
    rw [← h2]; exact nk_77_14
  | 15, hn =>
    have h2 : td_77 15 = b := by unfold td_77; rw [hn]; rfl
    rw [← h2]; exact nk_77_15
  | 16, hn =>
    have h2 : td_77 16 = b := by unfold td_77; rw [hn]; rfl
    rw [← h2]; exact nk_77_16
  | 17, hn =>
    have h2 : td_77 17 = b := by unfold td_77; rw [hn]; rfl
    rw [← h2]; exact nk_77_17
  | 18, hn =>
    have h2 : td_77 18 = b := by unfold td_77; rw [hn]; rfl
    rw [← h2]; exact nk_77_18
  | 19, hn =>
    have h2 : td_77 19 = b := by unfold td_77; rw [hn]; rfl
    rw [← h2]; exact nk_77_19
  | 20, hn =>
    have h2 : td_77 20 = b := by unfold td_77; rw [hn]; rfl
    rw [← h2]; exact nk_77_20
  | 21, hn =>
    have h2 : td_77 21 = b := by unfold td_77; rw [hn]; rfl
    rw [← h2]; exact nk_77_21
  | 22, hn =>
    have h2 : td_77 22 = b := by unfold td_77; rw [hn]; rfl
    rw [← h2]; exact nk_77_22
  | 23, hn =>
    have h2 : td_77 23 = b := by unfold td_77; rw [hn]; rfl
    rw [← h2]; exact nk_77_23
  | n + 24, hn =>
    rw [pe_at_eq] at hn
    exact absurd (List.getElem?_eq_some_iff.mp hn).1 (by show ¬ n + 24 < 24; omega)
theorem nk_77 : pe_okM (pe_GL []) pe_cl pe_ckS tn_77 = true := pe_okM_mk (pe_w_of (by rfl) (by rfl)) (by decide +kernel) nk_77_a
