/-! PART o6n: tables checked once. -/
def td_t_M_news (k : Nat) : Nat × List pe_I := (pe_at t_M_news.bl k).getD (0, [])
set_option maxRecDepth 40000 in
theorem ok_t_M_news_0 : pe_ckB (pe_GA []) pe_cl pe_ckA t_M_news (td_t_M_news 0).1 (td_t_M_news 0).2 = true := by decide +kernel
set_option maxRecDepth 40000 in
theorem ok_t_M_news_1 : pe_ckB (pe_GA []) pe_cl pe_ckA t_M_news (td_t_M_news 1).1 (td_t_M_news 1).2 = true := by decide +kernel
set_option maxRecDepth 40000 in
theorem ok_t_M_news_2 : pe_ckB (pe_GA []) pe_cl pe_ckA t_M_news (td_t_M_news 2).1 (td_t_M_news 2).2 = true := by decide +kernel
set_option maxRecDepth 40000 in
theorem ok_t_M_news_3 : pe_ckB (pe_GA []) pe_cl pe_ckA t_M_news (td_t_M_news 3).1 (td_t_M_news 3).2 = true := by decide +kernel
set_option maxRecDepth 40000 in
theorem ok_t_M_news_4 : pe_ckB (pe_GA []) pe_cl pe_ckA t_M_news (td_t_M_news 4).1 (td_t_M_news 4).2 = true := by decide +kernel
set_option maxRecDepth 40000 in
theorem ok_t_M_news_5 : pe_ckB (pe_GA []) pe_cl pe_ckA t_M_news (td_t_M_news 5).1 (td_t_M_news 5).2 = true := by decide +kernel
set_option maxRecDepth 40000 in
theorem ok_t_M_news_6 : pe_ckB (pe_GA []) pe_cl pe_ckA t_M_news (td_t_M_news 6).1 (td_t_M_news 6).2 = true := by decide +kernel
set_option maxRecDepth 40000 in
theorem ok_t_M_news_7 : pe_ckB (pe_GA []) pe_cl pe_ckA t_M_news (td_t_M_news 7).1 (td_t_M_news 7).2 = true := by decide +kernel
set_option maxRecDepth 40000 in
theorem ok_t_M_news_8 : pe_ckB (pe_GA []) pe_cl pe_ckA t_M_news (td_t_M_news 8).1 (td_t_M_news 8).2 = true := by decide +kernel
set_option maxRecDepth 40000 in
theorem ok_t_M_news_9 : pe_ckB (pe_GA []) pe_cl pe_ckA t_M_news (td_t_M_news 9).1 (td_t_M_news 9).2 = true := by decide +kernel
theorem ok_t_M_news_a : ∀ b ∈ t_M_news.bl, pe_ckB (pe_GA []) pe_cl pe_ckA t_M_news b.1 b.2 = true := by
  intro b hb
  obtain ⟨n, hn⟩ := List.getElem?_of_mem hb
  rw [← pe_at_eq] at hn
  match n, hn with
  | 0, hn =>
    have h2 : td_t_M_news 0 = b := by unfold td_t_M_news; rw [hn]; rfl
    rw [← h2]; exact ok_t_M_news_0
  | 1, hn =>
    have h2 : td_t_M_news 1 = b := by unfold td_t_M_news; rw [hn]; rfl
    rw [← h2]; exact ok_t_M_news_1
  | 2, hn =>
    have h2 : td_t_M_news 2 = b := by unfold td_t_M_news; rw [hn]; rfl
    rw [← h2]; exact ok_t_M_news_2
  | 3, hn =>
    have h2 : td_t_M_news 3 = b := by unfold td_t_M_news; rw [hn]; rfl
    rw [← h2]; exact ok_t_M_news_3
  | 4, hn =>
    have h2 : td_t_M_news 4 = b := by unfold td_t_M_news; rw [hn]; rfl
    rw [← h2]; exact ok_t_M_news_4
  | 5, hn =>
    have h2 : td_t_M_news 5 = b := by unfold td_t_M_news; rw [hn]; rfl
    rw [← h2]; exact ok_t_M_news_5
  | 6, hn =>
    have h2 : td_t_M_news 6 = b := by unfold td_t_M_news; rw [hn]; rfl
    rw [← h2]; exact ok_t_M_news_6
  | 7, hn =>
    have h2 : td_t_M_news 7 = b := by unfold td_t_M_news; rw [hn]; rfl
    rw [← h2]; exact ok_t_M_news_7
  | 8, hn =>
    have h2 : td_t_M_news 8 = b := by unfold td_t_M_news; rw [hn]; rfl
    rw [← h2]; exact ok_t_M_news_8
  | 9, hn =>
    have h2 : td_t_M_news 9 = b := by unfold td_t_M_news; rw [hn]; rfl
    rw [← h2]; exact ok_t_M_news_9
  | n + 10, hn =>
    rw [pe_at_eq] at hn
    exact absurd (List.getElem?_eq_some_iff.mp hn).1 (by show ¬ n + 10 < 10; omega)
theorem ok_t_M_news : pe_okM (pe_GA []) pe_cl pe_ckA t_M_news = true := pe_okM_mk (pe_w_of (by rfl) (by rfl)) (by decide +kernel) ok_t_M_news_a
def td_t_M_sets (k : Nat) : Nat × List pe_I := (pe_at t_M_sets.bl k).getD (0, [])
set_option maxRecDepth 40000 in
theorem ok_t_M_sets_0 : pe_ckB (pe_GA []) pe_cl pe_ckA t_M_sets (td_t_M_sets 0).1 (td_t_M_sets 0).2 = true := by decide +kernel
set_option maxRecDepth 40000 in
theorem ok_t_M_sets_1 : pe_ckB (pe_GA []) pe_cl pe_ckA t_M_sets (td_t_M_sets 1).1 (td_t_M_sets 1).2 = true := by decide +kernel
set_option maxRecDepth 40000 in
theorem ok_t_M_sets_2 : pe_ckB (pe_GA []) pe_cl pe_ckA t_M_sets (td_t_M_sets 2).1 (td_t_M_sets 2).2 = true := by decide +kernel
set_option maxRecDepth 40000 in
theorem ok_t_M_sets_3 : pe_ckB (pe_GA []) pe_cl pe_ckA t_M_sets (td_t_M_sets 3).1 (td_t_M_sets 3).2 = true := by decide +kernel
set_option maxRecDepth 40000 in
theorem ok_t_M_sets_4 : pe_ckB (pe_GA []) pe_cl pe_ckA t_M_sets (td_t_M_sets 4).1 (td_t_M_sets 4).2 = true := by decide +kernel
theorem ok_t_M_sets_a : ∀ b ∈ t_M_sets.bl, pe_ckB (pe_GA []) pe_cl pe_ckA t_M_sets b.1 b.2 = true := by
  intro b hb
  obtain ⟨n, hn⟩ := List.getElem?_of_mem hb
  rw [← pe_at_eq] at hn
  match n, hn with
  | 0, hn =>
    have h2 : td_t_M_sets 0 = b := by unfold td_t_M_sets; rw [hn]; rfl
    rw [← h2]; exact ok_t_M_sets_0
  | 1, hn =>
    have h2 : td_t_M_sets 1 = b := by unfold td_t_M_sets; rw [hn]; rfl
    rw [← h2]; exact ok_t_M_sets_1
  | 2, hn =>
    have h2 : td_t_M_sets 2 = b := by unfold td_t_M_sets; rw [hn]; rfl
    rw [← h2]; exact ok_t_M_sets_2
  | 3, hn =>
    have h2 : td_t_M_sets 3 = b := by unfold td_t_M_sets; rw [hn]; rfl
    rw [← h2]; exact ok_t_M_sets_3
  | 4, hn =>
    have h2 : td_t_M_sets 4 = b := by unfold td_t_M_sets; rw [hn]; rfl
    rw [← h2]; exact ok_t_M_sets_4
  | n + 5, hn =>
    rw [pe_at_eq] at hn
    exact absurd (List.getElem?_eq_some_iff.mp hn).1 (by show ¬ n + 5 < 5; omega)
theorem ok_t_M_sets : pe_okM (pe_GA []) pe_cl pe_ckA t_M_sets = true := pe_okM_mk (pe_w_of (by rfl) (by rfl)) (by decide +kernel) ok_t_M_sets_a
set_option maxRecDepth 40000 in
theorem ok_t_M_gives : pe_okM (pe_GA []) pe_cl pe_ckA t_M_gives = true := by decide +kernel
set_option maxRecDepth 40000 in
theorem ok_t_M_sub : pe_okM (pe_GA []) pe_cl pe_ckA t_M_sub = true := by decide +kernel
def td_t_M_setsElement (k : Nat) : Nat × List pe_I := (pe_at t_M_setsElement.bl k).getD (0, [])
set_option maxRecDepth 40000 in
theorem ok_t_M_setsElement_0 : pe_ckB (pe_GA []) pe_cl pe_ckA t_M_setsElement (td_t_M_setsElement 0).1 (td_t_M_setsElement 0).2 = true := by decide +kernel
set_option maxRecDepth 40000 in
theorem ok_t_M_setsElement_1 : pe_ckB (pe_GA []) pe_cl pe_ckA t_M_setsElement (td_t_M_setsElement 1).1 (td_t_M_setsElement 1).2 = true := by decide +kernel
set_option maxRecDepth 40000 in
theorem ok_t_M_setsElement_2 : pe_ckB (pe_GA []) pe_cl pe_ckA t_M_setsElement (td_t_M_setsElement 2).1 (td_t_M_setsElement 2).2 = true := by decide +kernel
set_option maxRecDepth 40000 in
theorem ok_t_M_setsElement_3 : pe_ckB (pe_GA []) pe_cl pe_ckA t_M_setsElement (td_t_M_setsElement 3).1 (td_t_M_setsElement 3).2 = true := by decide +kernel
set_option maxRecDepth 40000 in
theorem ok_t_M_setsElement_4 : pe_ckB (pe_GA []) pe_cl pe_ckA t_M_setsElement (td_t_M_setsElement 4).1 (td_t_M_setsElement 4).2 = true := by decide +kernel
set_option maxRecDepth 40000 in
theorem ok_t_M_setsElement_5 : pe_ckB (pe_GA []) pe_cl pe_ckA t_M_setsElement (td_t_M_setsElement 5).1 (td_t_M_setsElement 5).2 = true := by decide +kernel
set_option maxRecDepth 40000 in
theorem ok_t_M_setsElement_6 : pe_ckB (pe_GA []) pe_cl pe_ckA t_M_setsElement (td_t_M_setsElement 6).1 (td_t_M_setsElement 6).2 = true := by decide +kernel
theorem ok_t_M_setsElement_a : ∀ b ∈ t_M_setsElement.bl, pe_ckB (pe_GA []) pe_cl pe_ckA t_M_setsElement b.1 b.2 = true := by
  intro b hb
  obtain ⟨n, hn⟩ := List.getElem?_of_mem hb
  rw [← pe_at_eq] at hn
  match n, hn with
  | 0, hn =>
    have h2 : td_t_M_setsElement 0 = b := by unfold td_t_M_setsElement; rw [hn]; rfl
    rw [← h2]; exact ok_t_M_setsElement_0
  | 1, hn =>
    have h2 : td_t_M_setsElement 1 = b := by unfold td_t_M_setsElement; rw [hn]; rfl
    rw [← h2]; exact ok_t_M_setsElement_1
  | 2, hn =>
    have h2 : td_t_M_setsElement 2 = b := by unfold td_t_M_setsElement; rw [hn]; rfl
    rw [← h2]; exact ok_t_M_setsElement_2
  | 3, hn =>
    have h2 : td_t_M_setsElement 3 = b := by unfold td_t_M_setsElement; rw [hn]; rfl
    rw [← h2]; exact ok_t_M_setsElement_3
  | 4, hn =>
    have h2 : td_t_M_setsElement 4 = b := by unfold td_t_M_setsElement; rw [hn]; rfl
    rw [← h2]; exact ok_t_M_setsElement_4
  | 5, hn =>
    have h2 : td_t_M_setsElement 5 = b := by unfold td_t_M_setsElement; rw [hn]; rfl
    rw [← h2]; exact ok_t_M_setsElement_5
  | 6, hn =>
    have h2 : td_t_M_setsElement 6 = b := by unfold td_t_M_setsElement; rw [hn]; rfl
    rw [← h2]; exact ok_t_M_setsElement_6
  | n + 7, hn =>
    rw [pe_at_eq] at hn
    exact absurd (List.getElem?_eq_some_iff.mp hn).1 (by show ¬ n + 7 < 7; omega)
theorem ok_t_M_setsElement : pe_okM (pe_GA []) pe_cl pe_ckA t_M_setsElement = true := pe_okM_mk (pe_w_of (by rfl) (by rfl)) (by decide +kernel) ok_t_M_setsElement_a
def td_t_M_lists (k : Nat) : Nat × List pe_I := (pe_at t_M_lists.bl k).getD (0, [])
set_option maxRecDepth 40000 in
theorem ok_t_M_lists_0 : pe_ckB (pe_GA []) pe_cl pe_ckA t_M_lists (td_t_M_lists 0).1 (td_t_M_lists 0).2 = true := by decide +kernel
set_option maxRecDepth 40000 in
theorem ok_t_M_lists_1 : pe_ckB (pe_GA []) pe_cl pe_ckA t_M_lists (td_t_M_lists 1).1 (td_t_M_lists 1).2 = true := by decide +kernel
set_option maxRecDepth 40000 in
theorem ok_t_M_lists_2 : pe_ckB (pe_GA []) pe_cl pe_ckA t_M_lists (td_t_M_lists 2).1 (td_t_M_lists 2).2 = true := by decide +kernel
set_option maxRecDepth 40000 in
theorem ok_t_M_lists_3 : pe_ckB (pe_GA []) pe_cl pe_ckA t_M_lists (td_t_M_lists 3).1 (td_t_M_lists 3).2 = true := by decide +kernel
set_option maxRecDepth 40000 in
theorem ok_t_M_lists_4 : pe_ckB (pe_GA []) pe_cl pe_ckA t_M_lists (td_t_M_lists 4).1 (td_t_M_lists 4).2 = true := by decide +kernel
set_option maxRecDepth 40000 in
theorem ok_t_M_lists_5 : pe_ckB (pe_GA []) pe_cl pe_ckA t_M_lists (td_t_M_lists 5).1 (td_t_M_lists 5).2 = true := by decide +kernel
theorem ok_t_M_lists_a : ∀ b ∈ t_M_lists.bl, pe_ckB (pe_GA []) pe_cl pe_ckA t_M_lists b.1 b.2 = true := by
  intro b hb
  obtain ⟨n, hn⟩ := List.getElem?_of_mem hb
  rw [← pe_at_eq] at hn
  match n, hn with
  | 0, hn =>
    have h2 : td_t_M_lists 0 = b := by unfold td_t_M_lists; rw [hn]; rfl
    rw [← h2]; exact ok_t_M_lists_0
  | 1, hn =>
    have h2 : td_t_M_lists 1 = b := by unfold td_t_M_lists; rw [hn]; rfl
    rw [← h2]; exact ok_t_M_lists_1
  | 2, hn =>
    have h2 : td_t_M_lists 2 = b := by unfold td_t_M_lists; rw [hn]; rfl
    rw [← h2]; exact ok_t_M_lists_2
  | 3, hn =>
    have h2 : td_t_M_lists 3 = b := by unfold td_t_M_lists; rw [hn]; rfl
    rw [← h2]; exact ok_t_M_lists_3
  | 4, hn =>
    have h2 : td_t_M_lists 4 = b := by unfold td_t_M_lists; rw [hn]; rfl
    rw [← h2]; exact ok_t_M_lists_4
  | 5, hn =>
    have h2 : td_t_M_lists 5 = b := by unfold td_t_M_lists; rw [hn]; rfl
    rw [← h2]; exact ok_t_M_lists_5
  | n + 6, hn =>
    rw [pe_at_eq] at hn
    exact absurd (List.getElem?_eq_some_iff.mp hn).1 (by show ¬ n + 6 < 6; omega)
theorem ok_t_M_lists : pe_okM (pe_GA []) pe_cl pe_ckA t_M_lists = true := pe_okM_mk (pe_w_of (by rfl) (by rfl)) (by decide +kernel) ok_t_M_lists_a
set_option maxRecDepth 40000 in
theorem ok_t_M_readsFieldOf : pe_okM (pe_GA []) pe_cl pe_ckA t_M_readsFieldOf = true := by decide +kernel
set_option maxRecDepth 40000 in
theorem ok_t_M_loose : pe_okM (pe_GA []) pe_cl pe_ckA t_M_loose = true := by decide +kernel
set_option maxRecDepth 40000 in
theorem ok_t_M_writesFieldOf : pe_okM (pe_GA []) pe_cl pe_ckA t_M_writesFieldOf = true := by decide +kernel
def td_t_M_doesMember (k : Nat) : Nat × List pe_I := (pe_at t_M_doesMember.bl k).getD (0, [])
set_option maxRecDepth 40000 in
theorem ok_t_M_doesMember_0 : pe_ckB (pe_GA []) pe_cl pe_ckA t_M_doesMember (td_t_M_doesMember 0).1 (td_t_M_doesMember 0).2 = true := by decide +kernel
set_option maxRecDepth 40000 in
theorem ok_t_M_doesMember_1 : pe_ckB (pe_GA []) pe_cl pe_ckA t_M_doesMember (td_t_M_doesMember 1).1 (td_t_M_doesMember 1).2 = true := by decide +kernel
set_option maxRecDepth 40000 in
theorem ok_t_M_doesMember_2 : pe_ckB (pe_GA []) pe_cl pe_ckA t_M_doesMember (td_t_M_doesMember 2).1 (td_t_M_doesMember 2).2 = true := by decide +kernel
set_option maxRecDepth 40000 in
theorem ok_t_M_doesMember_3 : pe_ckB (pe_GA []) pe_cl pe_ckA t_M_doesMember (td_t_M_doesMember 3).1 (td_t_M_doesMember 3).2 = true := by decide +kernel
set_option maxRecDepth 40000 in
theorem ok_t_M_doesMember_4 : pe_ckB (pe_GA []) pe_cl pe_ckA t_M_doesMember (td_t_M_doesMember 4).1 (td_t_M_doesMember 4).2 = true := by decide +kernel
set_option maxRecDepth 40000 in
theorem ok_t_M_doesMember_5 : pe_ckB (pe_GA []) pe_cl pe_ckA t_M_doesMember (td_t_M_doesMember 5).1 (td_t_M_doesMember 5).2 = true := by decide +kernel
set_option maxRecDepth 40000 in
theorem ok_t_M_doesMember_6 : pe_ckB (pe_GA []) pe_cl pe_ckA t_M_doesMember (td_t_M_doesMember 6).1 (td_t_M_doesMember 6).2 = true := by decide +kernel
set_option maxRecDepth 40000 in
theorem ok_t_M_doesMember_7 : pe_ckB (pe_GA []) pe_cl pe_ckA t_M_doesMember (td_t_M_doesMember 7).1 (td_t_M_doesMember 7).2 = true := by decide +kernel
set_option maxRecDepth 40000 in
theorem ok_t_M_doesMember_8 : pe_ckB (pe_GA []) pe_cl pe_ckA t_M_doesMember (td_t_M_doesMember 8).1 (td_t_M_doesMember 8).2 = true := by decide +kernel
set_option maxRecDepth 40000 in
theorem ok_t_M_doesMember_9 : pe_ckB (pe_GA []) pe_cl pe_ckA t_M_doesMember (td_t_M_doesMember 9).1 (td_t_M_doesMember 9).2 = true := by decide +kernel
theorem ok_t_M_doesMember_a : ∀ b ∈ t_M_doesMember.bl, pe_ckB (pe_GA []) pe_cl pe_ckA t_M_doesMember b.1 b.2 = true := by
  intro b hb
  obtain ⟨n, hn⟩ := List.getElem?_of_mem hb
  rw [← pe_at_eq] at hn
  match n, hn with
  | 0, hn =>
    have h2 : td_t_M_doesMember 0 = b := by unfold td_t_M_doesMember; rw [hn]; rfl
    rw [← h2]; exact ok_t_M_doesMember_0
  | 1, hn =>
    have h2 : td_t_M_doesMember 1 = b := by unfold td_t_M_doesMember; rw [hn]; rfl
    rw [← h2]; exact ok_t_M_doesMember_1
  | 2, hn =>
    have h2 : td_t_M_doesMember 2 = b := by unfold td_t_M_doesMember; rw [hn]; rfl
    rw [← h2]; exact ok_t_M_doesMember_2
  | 3, hn =>
    have h2 : td_t_M_doesMember 3 = b := by unfold td_t_M_doesMember; rw [hn]; rfl
    rw [← h2]; exact ok_t_M_doesMember_3
  | 4, hn =>
    have h2 : td_t_M_doesMember 4 = b := by unfold td_t_M_doesMember; rw [hn]; rfl
    rw [← h2]; exact ok_t_M_doesMember_4
  | 5, hn =>
    have h2 : td_t_M_doesMember 5 = b := by unfold td_t_M_doesMember; rw [hn]; rfl
    rw [← h2]; exact ok_t_M_doesMember_5
  | 6, hn =>
    have h2 : td_t_M_doesMember 6 = b := by unfold td_t_M_doesMember; rw [hn]; rfl
    rw [← h2]; exact ok_t_M_doesMember_6
  | 7, hn =>
    have h2 : td_t_M_doesMember 7 = b := by unfold td_t_M_doesMember; rw [hn]; rfl
    rw [← h2]; exact ok_t_M_doesMember_7
  | 8, hn =>
    have h2 : td_t_M_doesMember 8 = b := by unfold td_t_M_doesMember; rw [hn]; rfl
    rw [← h2]; exact ok_t_M_doesMember_8
  | 9, hn =>
    have h2 : td_t_M_doesMember 9 = b := by unfold td_t_M_doesMember; rw [hn]; rfl
    rw [← h2]; exact ok_t_M_doesMember_9
  | n + 10, hn =>
    rw [pe_at_eq] at hn
    exact absurd (List.getElem?_eq_some_iff.mp hn).1 (by show ¬ n + 10 < 10; omega)
theorem ok_t_M_doesMember : pe_okM (pe_GA []) pe_cl pe_ckA t_M_doesMember = true := pe_okM_mk (pe_w_of (by rfl) (by rfl)) (by decide +kernel) ok_t_M_doesMember_a
def td_t_M_print (k : Nat) : Nat × List pe_I := (pe_at t_M_print.bl k).getD (0, [])
set_option maxRecDepth 40000 in
theorem ok_t_M_print_0 : pe_ckB (pe_GA []) pe_cl pe_ckA t_M_print (td_t_M_print 0).1 (td_t_M_print 0).2 = true := by decide +kernel
set_option maxRecDepth 40000 in
theorem ok_t_M_print_1 : pe_ckB (pe_GA []) pe_cl pe_ckA t_M_print (td_t_M_print 1).1 (td_t_M_print 1).2 = true := by decide +kernel
set_option maxRecDepth 40000 in
theorem ok_t_M_print_2 : pe_ckB (pe_GA []) pe_cl pe_ckA t_M_print (td_t_M_print 2).1 (td_t_M_print 2).2 = true := by decide +kernel
set_option maxRecDepth 40000 in
theorem ok_t_M_print_3 : pe_ckB (pe_GA []) pe_cl pe_ckA t_M_print (td_t_M_print 3).1 (td_t_M_print 3).2 = true := by decide +kernel
set_option maxRecDepth 40000 in
theorem ok_t_M_print_4 : pe_ckB (pe_GA []) pe_cl pe_ckA t_M_print (td_t_M_print 4).1 (td_t_M_print 4).2 = true := by decide +kernel
set_option maxRecDepth 40000 in
theorem ok_t_M_print_5 : pe_ckB (pe_GA []) pe_cl pe_ckA t_M_print (td_t_M_print 5).1 (td_t_M_print 5).2 = true := by decide +kernel
set_option maxRecDepth 40000 in
theorem ok_t_M_print_6 : pe_ckB (pe_GA []) pe_cl pe_ckA t_M_print (td_t_M_print 6).1 (td_t_M_print 6).2 = true := by decide +kernel
set_option maxRecDepth 40000 in
theorem ok_t_M_print_7 : pe_ckB (pe_GA []) pe_cl pe_ckA t_M_print (td_t_M_print 7).1 (td_t_M_print 7).2 = true := by decide +kernel
set_option maxRecDepth 40000 in
theorem ok_t_M_print_8 : pe_ckB (pe_GA []) pe_cl pe_ckA t_M_print (td_t_M_print 8).1 (td_t_M_print 8).2 = true := by decide +kernel
set_option maxRecDepth 40000 in
theorem ok_t_M_print_9 : pe_ckB (pe_GA []) pe_cl pe_ckA t_M_print (td_t_M_print 9).1 (td_t_M_print 9).2 = true := by decide +kernel
set_option maxRecDepth 40000 in
theorem ok_t_M_print_10 : pe_ckB (pe_GA []) pe_cl pe_ckA t_M_print (td_t_M_print 10).1 (td_t_M_print 10).2 = true := by decide +kernel
set_option maxRecDepth 40000 in
theorem ok_t_M_print_11 : pe_ckB (pe_GA []) pe_cl pe_ckA t_M_print (td_t_M_print 11).1 (td_t_M_print 11).2 = true := by decide +kernel
theorem ok_t_M_print_a : ∀ b ∈ t_M_print.bl, pe_ckB (pe_GA []) pe_cl pe_ckA t_M_print b.1 b.2 = true := by
  intro b hb
  obtain ⟨n, hn⟩ := List.getElem?_of_mem hb
  rw [← pe_at_eq] at hn
  match n, hn with
  | 0, hn =>
    have h2 : td_t_M_print 0 = b := by unfold td_t_M_print; rw [hn]; rfl
    rw [← h2]; exact ok_t_M_print_0
  | 1, hn =>
    have h2 : td_t_M_print 1 = b := by unfold td_t_M_print; rw [hn]; rfl
    rw [← h2]; exact ok_t_M_print_1
  | 2, hn =>
    have h2 : td_t_M_print 2 = b := by unfold td_t_M_print; rw [hn]; rfl
    rw [← h2]; exact ok_t_M_print_2
  | 3, hn =>
    have h2 : td_t_M_print 3 = b := by unfold td_t_M_print; rw [hn]; rfl
    rw [← h2]; exact ok_t_M_print_3
  | 4, hn =>
    have h2 : td_t_M_print 4 = b := by unfold td_t_M_print; rw [hn]; rfl
    rw [← h2]; exact ok_t_M_print_4
  | 5, hn =>
    have h2 : td_t_M_print 5 = b := by unfold td_t_M_print; rw [hn]; rfl
    rw [← h2]; exact ok_t_M_print_5
  | 6, hn =>
    have h2 : td_t_M_print 6 = b := by unfold td_t_M_print; rw [hn]; rfl
    rw [← h2]; exact ok_t_M_print_6
  | 7, hn =>
    have h2 : td_t_M_print 7 = b := by unfold td_t_M_print; rw [hn]; rfl
    rw [← h2]; exact ok_t_M_print_7
  | 8, hn =>
    have h2 : td_t_M_print 8 = b := by unfold td_t_M_print; rw [hn]; rfl
    rw [← h2]; exact ok_t_M_print_8
  | 9, hn =>
    have h2 : td_t_M_print 9 = b := by unfold td_t_M_print; rw [hn]; rfl
    rw [← h2]; exact ok_t_M_print_9
  | 10, hn =>
    have h2 : td_t_M_print 10 = b := by unfold td_t_M_print; rw [hn]; rfl
    rw [← h2]; exact ok_t_M_print_10
  | 11, hn =>
    have h2 : td_t_M_print 11 = b := by unfold td_t_M_print; rw [hn]; rfl
    rw [← h2]; exact ok_t_M_print_11
  | n + 12, hn =>
    rw [pe_at_eq] at hn
    exact absurd (List.getElem?_eq_some_iff.mp hn).1 (by show ¬ n + 12 < 12; omega)
theorem ok_t_M_print : pe_okM (pe_GA []) pe_cl pe_ckA t_M_print = true := pe_okM_mk (pe_w_of (by rfl) (by rfl)) (by decide +kernel) ok_t_M_print_a
set_option maxRecDepth 40000 in
theorem ok_t_M_newText : pe_okM (pe_GA []) pe_cl pe_ckA t_M_newText = true := by decide +kernel
set_option maxRecDepth 40000 in
theorem ok_t_M_isSame : pe_okM (pe_GA []) pe_cl pe_ckA t_M_isSame = true := by decide +kernel
def td_t_M_rebuilt (k : Nat) : Nat × List pe_I := (pe_at t_M_rebuilt.bl k).getD (0, [])
set_option maxRecDepth 40000 in
theorem ok_t_M_rebuilt_0 : pe_ckB (pe_GA []) pe_cl pe_ckA t_M_rebuilt (td_t_M_rebuilt 0).1 (td_t_M_rebuilt 0).2 = true := by decide +kernel
set_option maxRecDepth 40000 in
theorem ok_t_M_rebuilt_1 : pe_ckB (pe_GA []) pe_cl pe_ckA t_M_rebuilt (td_t_M_rebuilt 1).1 (td_t_M_rebuilt 1).2 = true := by decide +kernel
set_option maxRecDepth 40000 in
theorem ok_t_M_rebuilt_2 : pe_ckB (pe_GA []) pe_cl pe_ckA t_M_rebuilt (td_t_M_rebuilt 2).1 (td_t_M_rebuilt 2).2 = true := by decide +kernel
set_option maxRecDepth 40000 in
theorem ok_t_M_rebuilt_3 : pe_ckB (pe_GA []) pe_cl pe_ckA t_M_rebuilt (td_t_M_rebuilt 3).1 (td_t_M_rebuilt 3).2 = true := by decide +kernel
set_option maxRecDepth 40000 in
theorem ok_t_M_rebuilt_4 : pe_ckB (pe_GA []) pe_cl pe_ckA t_M_rebuilt (td_t_M_rebuilt 4).1 (td_t_M_rebuilt 4).2 = true := by decide +kernel
set_option maxRecDepth 40000 in
theorem ok_t_M_rebuilt_5 : pe_ckB (pe_GA []) pe_cl pe_ckA t_M_rebuilt (td_t_M_rebuilt 5).1 (td_t_M_rebuilt 5).2 = true := by decide +kernel
set_option maxRecDepth 40000 in
theorem ok_t_M_rebuilt_6 : pe_ckB (pe_GA []) pe_cl pe_ckA t_M_rebuilt (td_t_M_rebuilt 6).1 (td_t_M_rebuilt 6).2 = true := by decide +kernel
set_option maxRecDepth 40000 in
theorem ok_t_M_rebuilt_7 : pe_ckB (pe_GA []) pe_cl pe_ckA t_M_rebuilt (td_t_M_rebuilt 7).1 (td_t_M_rebuilt 7).2 = true := by decide +kernel
set_option maxRecDepth 40000 in
theorem ok_t_M_rebuilt_8 : pe_ckB (pe_GA []) pe_cl pe_ckA t_M_rebuilt (td_t_M_rebuilt 8).1 (td_t_M_rebuilt 8).2 = true := by decide +kernel
set_option maxRecDepth 40000 in
theorem ok_t_M_rebuilt_9 : pe_ckB (pe_GA []) pe_cl pe_ckA t_M_rebuilt (td_t_M_rebuilt 9).1 (td_t_M_rebuilt 9).2 = true := by decide +kernel
set_option maxRecDepth 40000 in
theorem ok_t_M_rebuilt_10 : pe_ckB (pe_GA []) pe_cl pe_ckA t_M_rebuilt (td_t_M_rebuilt 10).1 (td_t_M_rebuilt 10).2 = true := by decide +kernel
set_option maxRecDepth 40000 in
theorem ok_t_M_rebuilt_11 : pe_ckB (pe_GA []) pe_cl pe_ckA t_M_rebuilt (td_t_M_rebuilt 11).1 (td_t_M_rebuilt 11).2 = true := by decide +kernel
set_option maxRecDepth 40000 in
theorem ok_t_M_rebuilt_12 : pe_ckB (pe_GA []) pe_cl pe_ckA t_M_rebuilt (td_t_M_rebuilt 12).1 (td_t_M_rebuilt 12).2 = true := by decide +kernel
set_option maxRecDepth 40000 in
theorem ok_t_M_rebuilt_13 : pe_ckB (pe_GA []) pe_cl pe_ckA t_M_rebuilt (td_t_M_rebuilt 13).1 (td_t_M_rebuilt 13).2 = true := by decide +kernel
set_option maxRecDepth 40000 in
theorem ok_t_M_rebuilt_14 : pe_ckB (pe_GA []) pe_cl pe_ckA t_M_rebuilt (td_t_M_rebuilt 14).1 (td_t_M_rebuilt 14).2 = true := by decide +kernel
theorem ok_t_M_rebuilt_a : ∀ b ∈ t_M_rebuilt.bl, pe_ckB (pe_GA []) pe_cl pe_ckA t_M_rebuilt b.1 b.2 = true := by
  intro b hb
  obtain ⟨n, hn⟩ := List.getElem?_of_mem hb
  rw [← pe_at_eq] at hn
  match n, hn with
  | 0, hn =>
    have h2 : td_t_M_rebuilt 0 = b := by unfold td_t_M_rebuilt; rw [hn]; rfl
    rw [← h2]; exact ok_t_M_rebuilt_0
  | 1, hn =>
    have h2 : td_t_M_rebuilt 1 = b := by unfold td_t_M_rebuilt; rw [hn]; rfl
    rw [← h2]; exact ok_t_M_rebuilt_1
  | 2, hn =>
    have h2 : td_t_M_rebuilt 2 = b := by unfold td_t_M_rebuilt; rw [hn]; rfl
    rw [← h2]; exact ok_t_M_rebuilt_2
  | 3, hn =>
    have h2 : td_t_M_rebuilt 3 = b := by unfold td_t_M_rebuilt; rw [hn]; rfl
    rw [← h2]; exact ok_t_M_rebuilt_3
  | 4, hn =>
    have h2 : td_t_M_rebuilt 4 = b := by unfold td_t_M_rebuilt; rw [hn]; rfl
    rw [← h2]; exact ok_t_M_rebuilt_4
  | 5, hn =>
    have h2 : td_t_M_rebuilt 5 = b := by unfold td_t_M_rebuilt; rw [hn]; rfl
    rw [← h2]; exact ok_t_M_rebuilt_5
  | 6, hn =>
    have h2 : td_t_M_rebuilt 6 = b := by unfold td_t_M_rebuilt; rw [hn]; rfl
    rw [← h2]; exact ok_t_M_rebuilt_6
  | 7, hn =>
    have h2 : td_t_M_rebuilt 7 = b := by unfold td_t_M_rebuilt; rw [hn]; rfl
    rw [← h2]; exact ok_t_M_rebuilt_7
  | 8, hn =>
    have h2 : td_t_M_rebuilt 8 = b := by unfold td_t_M_rebuilt; rw [hn]; rfl
    rw [← h2]; exact ok_t_M_rebuilt_8
  | 9, hn =>
    have h2 : td_t_M_rebuilt 9 = b := by unfold td_t_M_rebuilt; rw [hn]; rfl
    rw [← h2]; exact ok_t_M_rebuilt_9
  | 10, hn =>
    have h2 : td_t_M_rebuilt 10 = b := by unfold td_t_M_rebuilt; rw [hn]; rfl
    rw [← h2]; exact ok_t_M_rebuilt_10
  | 11, hn =>
    have h2 : td_t_M_rebuilt 11 = b := by unfold td_t_M_rebuilt; rw [hn]; rfl
    rw [← h2]; exact ok_t_M_rebuilt_11
  | 12, hn =>
    have h2 : td_t_M_rebuilt 12 = b := by unfold td_t_M_rebuilt; rw [hn]; rfl
    rw [← h2]; exact ok_t_M_rebuilt_12
  | 13, hn =>
    have h2 : td_t_M_rebuilt 13 = b := by unfold td_t_M_rebuilt; rw [hn]; rfl
    rw [← h2]; exact ok_t_M_rebuilt_13
  | 14, hn =>
    have h2 : td_t_M_rebuilt 14 = b := by unfold td_t_M_rebuilt; rw [hn]; rfl
    rw [← h2]; exact ok_t_M_rebuilt_14
  | n + 15, hn =>
    rw [pe_at_eq] at hn
    exact absurd (List.getElem?_eq_some_iff.mp hn).1 (by show ¬ n + 15 < 15; omega)
theorem ok_t_M_rebuilt : pe_okM (pe_GA []) pe_cl pe_ckA t_M_rebuilt = true := pe_okM_mk (pe_w_of (by rfl) (by rfl)) (by decide +kernel) ok_t_M_rebuilt_a
set_option maxRecDepth 40000 in
theorem ok_t_M_changed : pe_okM (pe_GA []) pe_cl pe_ckA t_M_changed = true := by decide +kernel
def td_t_M_dropSlot (k : Nat) : Nat × List pe_I := (pe_at t_M_dropSlot.bl k).getD (0, [])
set_option maxRecDepth 40000 in
theorem ok_t_M_dropSlot_0 : pe_ckB (pe_GA []) pe_cl pe_ckA t_M_dropSlot (td_t_M_dropSlot 0).1 (td_t_M_dropSlot 0).2 = true := by decide +kernel
set_option maxRecDepth 40000 in
theorem ok_t_M_dropSlot_1 : pe_ckB (pe_GA []) pe_cl pe_ckA t_M_dropSlot (td_t_M_dropSlot 1).1 (td_t_M_dropSlot 1).2 = true := by decide +kernel
set_option maxRecDepth 40000 in
theorem ok_t_M_dropSlot_2 : pe_ckB (pe_GA []) pe_cl pe_ckA t_M_dropSlot (td_t_M_dropSlot 2).1 (td_t_M_dropSlot 2).2 = true := by decide +kernel
set_option maxRecDepth 40000 in
theorem ok_t_M_dropSlot_3 : pe_ckB (pe_GA []) pe_cl pe_ckA t_M_dropSlot (td_t_M_dropSlot 3).1 (td_t_M_dropSlot 3).2 = true := by decide +kernel
theorem ok_t_M_dropSlot_a : ∀ b ∈ t_M_dropSlot.bl, pe_ckB (pe_GA []) pe_cl pe_ckA t_M_dropSlot b.1 b.2 = true := by
  intro b hb
  obtain ⟨n, hn⟩ := List.getElem?_of_mem hb
  rw [← pe_at_eq] at hn
  match n, hn with
  | 0, hn =>
    have h2 : td_t_M_dropSlot 0 = b := by unfold td_t_M_dropSlot; rw [hn]; rfl
    rw [← h2]; exact ok_t_M_dropSlot_0
  | 1, hn =>
    have h2 : td_t_M_dropSlot 1 = b := by unfold td_t_M_dropSlot; rw [hn]; rfl
    rw [← h2]; exact ok_t_M_dropSlot_1
  | 2, hn =>
    have h2 : td_t_M_dropSlot 2 = b := by unfold td_t_M_dropSlot; rw [hn]; rfl
    rw [← h2]; exact ok_t_M_dropSlot_2
  | 3, hn =>
    have h2 : td_t_M_dropSlot 3 = b := by unfold td_t_M_dropSlot; rw [hn]; rfl
    rw [← h2]; exact ok_t_M_dropSlot_3
  | n + 4, hn =>
    rw [pe_at_eq] at hn
    exact absurd (List.getElem?_eq_some_iff.mp hn).1 (by show ¬ n + 4 < 4; omega)
theorem ok_t_M_dropSlot : pe_okM (pe_GA []) pe_cl pe_ckA t_M_dropSlot = true := pe_okM_mk (pe_w_of (by rfl) (by rfl)) (by decide +kernel) ok_t_M_dropSlot_a
set_option maxRecDepth 40000 in
theorem ok_t_M_spell : pe_okM (pe_GA []) pe_cl pe_ckA t_M_spell = true := by decide +kernel
set_option maxRecDepth 40000 in
theorem ok_t_XR_kindBehind : pe_okM (pe_GA []) pe_cl pe_ckA t_XR_kindBehind = true := by decide +kernel
set_option maxRecDepth 40000 in
theorem ok_t_XO_hasOwnField : pe_okM (pe_GA []) pe_cl pe_ckA t_XO_hasOwnField = true := by decide +kernel
set_option maxRecDepth 40000 in
theorem ok_t_XO_haveSameTypes : pe_okM (pe_GA []) pe_cl pe_ckA t_XO_haveSameTypes = true := by decide +kernel
set_option maxRecDepth 40000 in
theorem ok_t_XO_firstKind : pe_okM (pe_GA []) pe_cl pe_ckA t_XO_firstKind = true := by decide +kernel
set_option maxRecDepth 40000 in
theorem ok_t_XO_begins : pe_okM (pe_GA []) pe_cl pe_ckA t_XO_begins = true := by decide +kernel
def td_t_XO_nearestField (k : Nat) : Nat × List pe_I := (pe_at t_XO_nearestField.bl k).getD (0, [])
set_option maxRecDepth 40000 in
theorem ok_t_XO_nearestField_0 : pe_ckB (pe_GA []) pe_cl pe_ckA t_XO_nearestField (td_t_XO_nearestField 0).1 (td_t_XO_nearestField 0).2 = true := by decide +kernel
set_option maxRecDepth 40000 in
theorem ok_t_XO_nearestField_1 : pe_ckB (pe_GA []) pe_cl pe_ckA t_XO_nearestField (td_t_XO_nearestField 1).1 (td_t_XO_nearestField 1).2 = true := by decide +kernel
set_option maxRecDepth 40000 in
theorem ok_t_XO_nearestField_2 : pe_ckB (pe_GA []) pe_cl pe_ckA t_XO_nearestField (td_t_XO_nearestField 2).1 (td_t_XO_nearestField 2).2 = true := by decide +kernel
set_option maxRecDepth 40000 in
theorem ok_t_XO_nearestField_3 : pe_ckB (pe_GA []) pe_cl pe_ckA t_XO_nearestField (td_t_XO_nearestField 3).1 (td_t_XO_nearestField 3).2 = true := by decide +kernel
set_option maxRecDepth 40000 in
theorem ok_t_XO_nearestField_4 : pe_ckB (pe_GA []) pe_cl pe_ckA t_XO_nearestField (td_t_XO_nearestField 4).1 (td_t_XO_nearestField 4).2 = true := by decide +kernel
set_option maxRecDepth 40000 in
theorem ok_t_XO_nearestField_5 : pe_ckB (pe_GA []) pe_cl pe_ckA t_XO_nearestField (td_t_XO_nearestField 5).1 (td_t_XO_nearestField 5).2 = true := by decide +kernel
set_option maxRecDepth 40000 in
theorem ok_t_XO_nearestField_6 : pe_ckB (pe_GA []) pe_cl pe_ckA t_XO_nearestField (td_t_XO_nearestField 6).1 (td_t_XO_nearestField 6).2 = true := by decide +kernel
theorem ok_t_XO_nearestField_a : ∀ b ∈ t_XO_nearestField.bl, pe_ckB (pe_GA []) pe_cl pe_ckA t_XO_nearestField b.1 b.2 = true := by
  intro b hb
  obtain ⟨n, hn⟩ := List.getElem?_of_mem hb
  rw [← pe_at_eq] at hn
  match n, hn with
  | 0, hn =>
    have h2 : td_t_XO_nearestField 0 = b := by unfold td_t_XO_nearestField; rw [hn]; rfl
    rw [← h2]; exact ok_t_XO_nearestField_0
  | 1, hn =>
    have h2 : td_t_XO_nearestField 1 = b := by unfold td_t_XO_nearestField; rw [hn]; rfl
    rw [← h2]; exact ok_t_XO_nearestField_1
  | 2, hn =>
    have h2 : td_t_XO_nearestField 2 = b := by unfold td_t_XO_nearestField; rw [hn]; rfl
    rw [← h2]; exact ok_t_XO_nearestField_2
  | 3, hn =>
    have h2 : td_t_XO_nearestField 3 = b := by unfold td_t_XO_nearestField; rw [hn]; rfl
    rw [← h2]; exact ok_t_XO_nearestField_3
  | 4, hn =>
    have h2 : td_t_XO_nearestField 4 = b := by unfold td_t_XO_nearestField; rw [hn]; rfl
    rw [← h2]; exact ok_t_XO_nearestField_4
  | 5, hn =>
    have h2 : td_t_XO_nearestField 5 = b := by unfold td_t_XO_nearestField; rw [hn]; rfl
    rw [← h2]; exact ok_t_XO_nearestField_5
  | 6, hn =>
    have h2 : td_t_XO_nearestField 6 = b := by unfold td_t_XO_nearestField; rw [hn]; rfl
    rw [← h2]; exact ok_t_XO_nearestField_6
  | n + 7, hn =>
    rw [pe_at_eq] at hn
    exact absurd (List.getElem?_eq_some_iff.mp hn).1 (by show ¬ n + 7 < 7; omega)
theorem ok_t_XO_nearestField : pe_okM (pe_GA []) pe_cl pe_ckA t_XO_nearestField = true := pe_okM_mk (pe_w_of (by rfl) (by rfl)) (by decide +kernel) ok_t_XO_nearestField_a
set_option maxRecDepth 40000 in
theorem ok_t_XP_checkName : pe_okM (pe_GA []) pe_cl pe_ckA t_XP_checkName = true := by decide +kernel
set_option maxRecDepth 40000 in
theorem ok_t_XP_addVariable : pe_okM (pe_GA []) pe_cl pe_ckA t_XP_addVariable = true := by decide +kernel
set_option maxRecDepth 40000 in
theorem ok_t_XP_takeName : pe_okM (pe_GA []) pe_cl pe_ckA t_XP_takeName = true := by decide +kernel
set_option maxRecDepth 40000 in
theorem ok_t_XP_readFronts : pe_okM (pe_GA []) pe_cl pe_ckA t_XP_readFronts = true := by decide +kernel
def td_t_XP_readOperand (k : Nat) : Nat × List pe_I := (pe_at t_XP_readOperand.bl k).getD (0, [])
set_option maxRecDepth 40000 in
theorem ok_t_XP_readOperand_0 : pe_ckB (pe_GA []) pe_cl pe_ckA t_XP_readOperand (td_t_XP_readOperand 0).1 (td_t_XP_readOperand 0).2 = true := by decide +kernel
set_option maxRecDepth 40000 in
theorem ok_t_XP_readOperand_1 : pe_ckB (pe_GA []) pe_cl pe_ckA t_XP_readOperand (td_t_XP_readOperand 1).1 (td_t_XP_readOperand 1).2 = true := by decide +kernel
set_option maxRecDepth 40000 in
theorem ok_t_XP_readOperand_2 : pe_ckB (pe_GA []) pe_cl pe_ckA t_XP_readOperand (td_t_XP_readOperand 2).1 (td_t_XP_readOperand 2).2 = true := by decide +kernel
set_option maxRecDepth 40000 in
theorem ok_t_XP_readOperand_3 : pe_ckB (pe_GA []) pe_cl pe_ckA t_XP_readOperand (td_t_XP_readOperand 3).1 (td_t_XP_readOperand 3).2 = true := by decide +kernel
set_option maxRecDepth 40000 in
theorem ok_t_XP_readOperand_4 : pe_ckB (pe_GA []) pe_cl pe_ckA t_XP_readOperand (td_t_XP_readOperand 4).1 (td_t_XP_readOperand 4).2 = true := by decide +kernel
set_option maxRecDepth 40000 in
theorem ok_t_XP_readOperand_5 : pe_ckB (pe_GA []) pe_cl pe_ckA t_XP_readOperand (td_t_XP_readOperand 5).1 (td_t_XP_readOperand 5).2 = true := by decide +kernel
set_option maxRecDepth 40000 in
theorem ok_t_XP_readOperand_6 : pe_ckB (pe_GA []) pe_cl pe_ckA t_XP_readOperand (td_t_XP_readOperand 6).1 (td_t_XP_readOperand 6).2 = true := by decide +kernel
set_option maxRecDepth 40000 in
theorem ok_t_XP_readOperand_7 : pe_ckB (pe_GA []) pe_cl pe_ckA t_XP_readOperand (td_t_XP_readOperand 7).1 (td_t_XP_readOperand 7).2 = true := by decide +kernel
set_option maxRecDepth 40000 in
theorem ok_t_XP_readOperand_8 : pe_ckB (pe_GA []) pe_cl pe_ckA t_XP_readOperand (td_t_XP_readOperand 8).1 (td_t_XP_readOperand 8).2 = true := by decide +kernel
set_option maxRecDepth 40000 in
theorem ok_t_XP_readOperand_9 : pe_ckB (pe_GA []) pe_cl pe_ckA t_XP_readOperand (td_t_XP_readOperand 9).1 (td_t_XP_readOperand 9).2 = true := by decide +kernel
set_option maxRecDepth 40000 in
theorem ok_t_XP_readOperand_10 : pe_ckB (pe_GA []) pe_cl pe_ckA t_XP_readOperand (td_t_XP_readOperand 10).1 (td_t_XP_readOperand 10).2 = true := by decide +kernel
set_option maxRecDepth 40000 in
theorem ok_t_XP_readOperand_11 : pe_ckB (pe_GA []) pe_cl pe_ckA t_XP_readOperand (td_t_XP_readOperand 11).1 (td_t_XP_readOperand 11).2 = true := by decide +kernel
theorem ok_t_XP_readOperand_a : ∀ b ∈ t_XP_readOperand.bl, pe_ckB (pe_GA []) pe_cl pe_ckA t_XP_readOperand b.1 b.2 = true := by
  intro b hb
  obtain ⟨n, hn⟩ := List.getElem?_of_mem hb
  rw [← pe_at_eq] at hn
  match n, hn with
  | 0, hn =>
    have h2 : td_t_XP_readOperand 0 = b := by unfold td_t_XP_readOperand; rw [hn]; rfl
    rw [← h2]; exact ok_t_XP_readOperand_0
  | 1, hn =>
    have h2 : td_t_XP_readOperand 1 = b := by unfold td_t_XP_readOperand; rw [hn]; rfl
    rw [← h2]; exact ok_t_XP_readOperand_1
  | 2, hn =>
    have h2 : td_t_XP_readOperand 2 = b := by unfold td_t_XP_readOperand; rw [hn]; rfl
    rw [← h2]; exact ok_t_XP_readOperand_2
  | 3, hn =>
    have h2 : td_t_XP_readOperand 3 = b := by unfold td_t_XP_readOperand; rw [hn]; rfl
    rw [← h2]; exact ok_t_XP_readOperand_3
  | 4, hn =>
    have h2 : td_t_XP_readOperand 4 = b := by unfold td_t_XP_readOperand; rw [hn]; rfl
    rw [← h2]; exact ok_t_XP_readOperand_4
  | 5, hn =>
    have h2 : td_t_XP_readOperand 5 = b := by unfold td_t_XP_readOperand; rw [hn]; rfl
    rw [← h2]; exact ok_t_XP_readOperand_5
  | 6, hn =>
    have h2 : td_t_XP_readOperand 6 = b := by unfold td_t_XP_readOperand; rw [hn]; rfl
    rw [← h2]; exact ok_t_XP_readOperand_6
  | 7, hn =>
    have h2 : td_t_XP_readOperand 7 = b := by unfold td_t_XP_readOperand; rw [hn]; rfl
    rw [← h2]; exact ok_t_XP_readOperand_7
  | 8, hn =>
    have h2 : td_t_XP_readOperand 8 = b := by unfold td_t_XP_readOperand; rw [hn]; rfl
    rw [← h2]; exact ok_t_XP_readOperand_8
  | 9, hn =>
    have h2 : td_t_XP_readOperand 9 = b := by unfold td_t_XP_readOperand; rw [hn]; rfl
    rw [← h2]; exact ok_t_XP_readOperand_9
  | 10, hn =>
    have h2 : td_t_XP_readOperand 10 = b := by unfold td_t_XP_readOperand; rw [hn]; rfl
    rw [← h2]; exact ok_t_XP_readOperand_10
  | 11, hn =>
    have h2 : td_t_XP_readOperand 11 = b := by unfold td_t_XP_readOperand; rw [hn]; rfl
    rw [← h2]; exact ok_t_XP_readOperand_11
  | n + 12, hn =>
    rw [pe_at_eq] at hn
    exact absurd (List.getElem?_eq_some_iff.mp hn).1 (by show ¬ n + 12 < 12; omega)
theorem ok_t_XP_readOperand : pe_okM (pe_GA []) pe_cl pe_ckA t_XP_readOperand = true := pe_okM_mk (pe_w_of (by rfl) (by rfl)) (by decide +kernel) ok_t_XP_readOperand_a
set_option maxRecDepth 40000 in
theorem ok_t_XP_settleFronts : pe_okM (pe_GA []) pe_cl pe_ckA t_XP_settleFronts = true := by decide +kernel
def td_t_XP_readAssigned (k : Nat) : Nat × List pe_I := (pe_at t_XP_readAssigned.bl k).getD (0, [])
set_option maxRecDepth 40000 in
theorem ok_t_XP_readAssigned_0 : pe_ckB (pe_GA []) pe_cl pe_ckA t_XP_readAssigned (td_t_XP_readAssigned 0).1 (td_t_XP_readAssigned 0).2 = true := by decide +kernel
set_option maxRecDepth 40000 in
theorem ok_t_XP_readAssigned_1 : pe_ckB (pe_GA []) pe_cl pe_ckA t_XP_readAssigned (td_t_XP_readAssigned 1).1 (td_t_XP_readAssigned 1).2 = true := by decide +kernel
set_option maxRecDepth 40000 in
theorem ok_t_XP_readAssigned_2 : pe_ckB (pe_GA []) pe_cl pe_ckA t_XP_readAssigned (td_t_XP_readAssigned 2).1 (td_t_XP_readAssigned 2).2 = true := by decide +kernel
set_option maxRecDepth 40000 in
theorem ok_t_XP_readAssigned_3 : pe_ckB (pe_GA []) pe_cl pe_ckA t_XP_readAssigned (td_t_XP_readAssigned 3).1 (td_t_XP_readAssigned 3).2 = true := by decide +kernel
set_option maxRecDepth 40000 in
theorem ok_t_XP_readAssigned_4 : pe_ckB (pe_GA []) pe_cl pe_ckA t_XP_readAssigned (td_t_XP_readAssigned 4).1 (td_t_XP_readAssigned 4).2 = true := by decide +kernel
set_option maxRecDepth 40000 in
theorem ok_t_XP_readAssigned_5 : pe_ckB (pe_GA []) pe_cl pe_ckA t_XP_readAssigned (td_t_XP_readAssigned 5).1 (td_t_XP_readAssigned 5).2 = true := by decide +kernel
set_option maxRecDepth 40000 in
theorem ok_t_XP_readAssigned_6 : pe_ckB (pe_GA []) pe_cl pe_ckA t_XP_readAssigned (td_t_XP_readAssigned 6).1 (td_t_XP_readAssigned 6).2 = true := by decide +kernel
set_option maxRecDepth 40000 in
theorem ok_t_XP_readAssigned_7 : pe_ckB (pe_GA []) pe_cl pe_ckA t_XP_readAssigned (td_t_XP_readAssigned 7).1 (td_t_XP_readAssigned 7).2 = true := by decide +kernel
set_option maxRecDepth 40000 in
theorem ok_t_XP_readAssigned_8 : pe_ckB (pe_GA []) pe_cl pe_ckA t_XP_readAssigned (td_t_XP_readAssigned 8).1 (td_t_XP_readAssigned 8).2 = true := by decide +kernel
set_option maxRecDepth 40000 in
theorem ok_t_XP_readAssigned_9 : pe_ckB (pe_GA []) pe_cl pe_ckA t_XP_readAssigned (td_t_XP_readAssigned 9).1 (td_t_XP_readAssigned 9).2 = true := by decide +kernel
theorem ok_t_XP_readAssigned_a : ∀ b ∈ t_XP_readAssigned.bl, pe_ckB (pe_GA []) pe_cl pe_ckA t_XP_readAssigned b.1 b.2 = true := by
  intro b hb
  obtain ⟨n, hn⟩ := List.getElem?_of_mem hb
  rw [← pe_at_eq] at hn
  match n, hn with
  | 0, hn =>
    have h2 : td_t_XP_readAssigned 0 = b := by unfold td_t_XP_readAssigned; rw [hn]; rfl
    rw [← h2]; exact ok_t_XP_readAssigned_0
  | 1, hn =>
    have h2 : td_t_XP_readAssigned 1 = b := by unfold td_t_XP_readAssigned; rw [hn]; rfl
    rw [← h2]; exact ok_t_XP_readAssigned_1
  | 2, hn =>
    have h2 : td_t_XP_readAssigned 2 = b := by unfold td_t_XP_readAssigned; rw [hn]; rfl
    rw [← h2]; exact ok_t_XP_readAssigned_2
  | 3, hn =>
    have h2 : td_t_XP_readAssigned 3 = b := by unfold td_t_XP_readAssigned; rw [hn]; rfl
    rw [← h2]; exact ok_t_XP_readAssigned_3
  | 4, hn =>
    have h2 : td_t_XP_readAssigned 4 = b := by unfold td_t_XP_readAssigned; rw [hn]; rfl
    rw [← h2]; exact ok_t_XP_readAssigned_4
  | 5, hn =>
    have h2 : td_t_XP_readAssigned 5 = b := by unfold td_t_XP_readAssigned; rw [hn]; rfl
    rw [← h2]; exact ok_t_XP_readAssigned_5
  | 6, hn =>
    have h2 : td_t_XP_readAssigned 6 = b := by unfold td_t_XP_readAssigned; rw [hn]; rfl
    rw [← h2]; exact ok_t_XP_readAssigned_6
  | 7, hn =>
    have h2 : td_t_XP_readAssigned 7 = b := by unfold td_t_XP_readAssigned; rw [hn]; rfl
    rw [← h2]; exact ok_t_XP_readAssigned_7
  | 8, hn =>
    have h2 : td_t_XP_readAssigned 8 = b := by unfold td_t_XP_readAssigned; rw [hn]; rfl
    rw [← h2]; exact ok_t_XP_readAssigned_8
  | 9, hn =>
    have h2 : td_t_XP_readAssigned 9 = b := by unfold td_t_XP_readAssigned; rw [hn]; rfl
    rw [← h2]; exact ok_t_XP_readAssigned_9
  | n + 10, hn =>
    rw [pe_at_eq] at hn
    exact absurd (List.getElem?_eq_some_iff.mp hn).1 (by show ¬ n + 10 < 10; omega)
theorem ok_t_XP_readAssigned : pe_okM (pe_GA []) pe_cl pe_ckA t_XP_readAssigned = true := pe_okM_mk (pe_w_of (by rfl) (by rfl)) (by decide +kernel) ok_t_XP_readAssigned_a
def td_t_XP_levelOf (k : Nat) : Nat × List pe_I := (pe_at t_XP_levelOf.bl k).getD (0, [])
set_option maxRecDepth 40000 in
theorem ok_t_XP_levelOf_0 : pe_ckB (pe_GA []) pe_cl pe_ckA t_XP_levelOf (td_t_XP_levelOf 0).1 (td_t_XP_levelOf 0).2 = true := by decide +kernel
set_option maxRecDepth 40000 in
theorem ok_t_XP_levelOf_1 : pe_ckB (pe_GA []) pe_cl pe_ckA t_XP_levelOf (td_t_XP_levelOf 1).1 (td_t_XP_levelOf 1).2 = true := by decide +kernel
set_option maxRecDepth 40000 in
theorem ok_t_XP_levelOf_2 : pe_ckB (pe_GA []) pe_cl pe_ckA t_XP_levelOf (td_t_XP_levelOf 2).1 (td_t_XP_levelOf 2).2 = true := by decide +kernel
set_option maxRecDepth 40000 in
theorem ok_t_XP_levelOf_3 : pe_ckB (pe_GA []) pe_cl pe_ckA t_XP_levelOf (td_t_XP_levelOf 3).1 (td_t_XP_levelOf 3).2 = true := by decide +kernel
set_option maxRecDepth 40000 in
theorem ok_t_XP_levelOf_4 : pe_ckB (pe_GA []) pe_cl pe_ckA t_XP_levelOf (td_t_XP_levelOf 4).1 (td_t_XP_levelOf 4).2 = true := by decide +kernel
set_option maxRecDepth 40000 in
theorem ok_t_XP_levelOf_5 : pe_ckB (pe_GA []) pe_cl pe_ckA t_XP_levelOf (td_t_XP_levelOf 5).1 (td_t_XP_levelOf 5).2 = true := by decide +kernel
set_option maxRecDepth 40000 in
theorem ok_t_XP_levelOf_6 : pe_ckB (pe_GA []) pe_cl pe_ckA t_XP_levelOf (td_t_XP_levelOf 6).1 (td_t_XP_levelOf 6).2 = true := by decide +kernel
set_option maxRecDepth 40000 in
theorem ok_t_XP_levelOf_7 : pe_ckB (pe_GA []) pe_cl pe_ckA t_XP_levelOf (td_t_XP_levelOf 7).1 (td_t_XP_levelOf 7).2 = true := by decide +kernel
theorem ok_t_XP_levelOf_a : ∀ b ∈ t_XP_levelOf.bl, pe_ckB (pe_GA []) pe_cl pe_ckA t_XP_levelOf b.1 b.2 = true := by
  intro b hb
  obtain ⟨n, hn⟩ := List.getElem?_of_mem hb
  rw [← pe_at_eq] at hn
  match n, hn with
  | 0, hn =>
    have h2 : td_t_XP_levelOf 0 = b := by unfold td_t_XP_levelOf; rw [hn]; rfl
    rw [← h2]; exact ok_t_XP_levelOf_0
  | 1, hn =>
    have h2 : td_t_XP_levelOf 1 = b := by unfold td_t_XP_levelOf; rw [hn]; rfl
    rw [← h2]; exact ok_t_XP_levelOf_1
  | 2, hn =>
    have h2 : td_t_XP_levelOf 2 = b := by unfold td_t_XP_levelOf; rw [hn]; rfl
    rw [← h2]; exact ok_t_XP_levelOf_2
  | 3, hn =>
    have h2 : td_t_XP_levelOf 3 = b := by unfold td_t_XP_levelOf; rw [hn]; rfl
    rw [← h2]; exact ok_t_XP_levelOf_3
  | 4, hn =>
    have h2 : td_t_XP_levelOf 4 = b := by unfold td_t_XP_levelOf; rw [hn]; rfl
    rw [← h2]; exact ok_t_XP_levelOf_4
  | 5, hn =>
    have h2 : td_t_XP_levelOf 5 = b := by unfold td_t_XP_levelOf; rw [hn]; rfl
    rw [← h2]; exact ok_t_XP_levelOf_5
  | 6, hn =>
    have h2 : td_t_XP_levelOf 6 = b := by unfold td_t_XP_levelOf; rw [hn]; rfl
    rw [← h2]; exact ok_t_XP_levelOf_6
  | 7, hn =>
    have h2 : td_t_XP_levelOf 7 = b := by unfold td_t_XP_levelOf; rw [hn]; rfl
    rw [← h2]; exact ok_t_XP_levelOf_7
  | n + 8, hn =>
    rw [pe_at_eq] at hn
    exact absurd (List.getElem?_eq_some_iff.mp hn).1 (by show ¬ n + 8 < 8; omega)
theorem ok_t_XP_levelOf : pe_okM (pe_GA []) pe_cl pe_ckA t_XP_levelOf = true := pe_okM_mk (pe_w_of (by rfl) (by rfl)) (by decide +kernel) ok_t_XP_levelOf_a
def td_t_XP_settle (k : Nat) : Nat × List pe_I := (pe_at t_XP_settle.bl k).getD (0, [])
set_option maxRecDepth 40000 in
theorem ok_t_XP_settle_0 : pe_ckB (pe_GA []) pe_cl pe_ckA t_XP_settle (td_t_XP_settle 0).1 (td_t_XP_settle 0).2 = true := by decide +kernel
set_option maxRecDepth 40000 in
theorem ok_t_XP_settle_1 : pe_ckB (pe_GA []) pe_cl pe_ckA t_XP_settle (td_t_XP_settle 1).1 (td_t_XP_settle 1).2 = true := by decide +kernel
set_option maxRecDepth 40000 in
theorem ok_t_XP_settle_2 : pe_ckB (pe_GA []) pe_cl pe_ckA t_XP_settle (td_t_XP_settle 2).1 (td_t_XP_settle 2).2 = true := by decide +kernel
set_option maxRecDepth 40000 in
theorem ok_t_XP_settle_3 : pe_ckB (pe_GA []) pe_cl pe_ckA t_XP_settle (td_t_XP_settle 3).1 (td_t_XP_settle 3).2 = true := by decide +kernel
set_option maxRecDepth 40000 in
theorem ok_t_XP_settle_4 : pe_ckB (pe_GA []) pe_cl pe_ckA t_XP_settle (td_t_XP_settle 4).1 (td_t_XP_settle 4).2 = true := by decide +kernel
theorem ok_t_XP_settle_a : ∀ b ∈ t_XP_settle.bl, pe_ckB (pe_GA []) pe_cl pe_ckA t_XP_settle b.1 b.2 = true := by
  intro b hb
  obtain ⟨n, hn⟩ := List.getElem?_of_mem hb
  rw [← pe_at_eq] at hn
  match n, hn with
  | 0, hn =>
    have h2 : td_t_XP_settle 0 = b := by unfold td_t_XP_settle; rw [hn]; rfl
    rw [← h2]; exact ok_t_XP_settle_0
  | 1, hn =>
    have h2 : td_t_XP_settle 1 = b := by unfold td_t_XP_settle; rw [hn]; rfl
    rw [← h2]; exact ok_t_XP_settle_1
  | 2, hn =>
    have h2 : td_t_XP_settle 2 = b := by unfold td_t_XP_settle; rw [hn]; rfl
    rw [← h2]; exact ok_t_XP_settle_2
  | 3, hn =>
    have h2 : td_t_XP_settle 3 = b := by unfold td_t_XP_settle; rw [hn]; rfl
    rw [← h2]; exact ok_t_XP_settle_3
  | 4, hn =>
    have h2 : td_t_XP_settle 4 = b := by unfold td_t_XP_settle; rw [hn]; rfl
    rw [← h2]; exact ok_t_XP_settle_4
  | n + 5, hn =>
    rw [pe_at_eq] at hn
    exact absurd (List.getElem?_eq_some_iff.mp hn).1 (by show ¬ n + 5 < 5; omega)
theorem ok_t_XP_settle : pe_okM (pe_GA []) pe_cl pe_ckA t_XP_settle = true := pe_okM_mk (pe_w_of (by rfl) (by rfl)) (by decide +kernel) ok_t_XP_settle_a
set_option maxRecDepth 40000 in
theorem ok_t_XP_await : pe_okM (pe_GA []) pe_cl pe_ckA t_XP_await = true := by decide +kernel
set_option maxRecDepth 40000 in
theorem ok_t_M_binary : pe_okM (pe_GA []) pe_cl pe_ckA t_M_binary = true := by decide +kernel
def td_t_XO_plainMethod (k : Nat) : Nat × List pe_I := (pe_at t_XO_plainMethod.bl k).getD (0, [])
set_option maxRecDepth 40000 in
theorem ok_t_XO_plainMethod_0 : pe_ckB (pe_GA []) pe_cl pe_ckA t_XO_plainMethod (td_t_XO_plainMethod 0).1 (td_t_XO_plainMethod 0).2 = true := by decide +kernel
set_option maxRecDepth 40000 in
theorem ok_t_XO_plainMethod_1 : pe_ckB (pe_GA []) pe_cl pe_ckA t_XO_plainMethod (td_t_XO_plainMethod 1).1 (td_t_XO_plainMethod 1).2 = true := by decide +kernel
set_option maxRecDepth 40000 in
theorem ok_t_XO_plainMethod_2 : pe_ckB (pe_GA []) pe_cl pe_ckA t_XO_plainMethod (td_t_XO_plainMethod 2).1 (td_t_XO_plainMethod 2).2 = true := by decide +kernel
set_option maxRecDepth 40000 in
theorem ok_t_XO_plainMethod_3 : pe_ckB (pe_GA []) pe_cl pe_ckA t_XO_plainMethod (td_t_XO_plainMethod 3).1 (td_t_XO_plainMethod 3).2 = true := by decide +kernel
set_option maxRecDepth 40000 in
theorem ok_t_XO_plainMethod_4 : pe_ckB (pe_GA []) pe_cl pe_ckA t_XO_plainMethod (td_t_XO_plainMethod 4).1 (td_t_XO_plainMethod 4).2 = true := by decide +kernel
set_option maxRecDepth 40000 in
theorem ok_t_XO_plainMethod_5 : pe_ckB (pe_GA []) pe_cl pe_ckA t_XO_plainMethod (td_t_XO_plainMethod 5).1 (td_t_XO_plainMethod 5).2 = true := by decide +kernel
theorem ok_t_XO_plainMethod_a : ∀ b ∈ t_XO_plainMethod.bl, pe_ckB (pe_GA []) pe_cl pe_ckA t_XO_plainMethod b.1 b.2 = true := by
  intro b hb
  obtain ⟨n, hn⟩ := List.getElem?_of_mem hb
  rw [← pe_at_eq] at hn
  match n, hn with
  | 0, hn =>
    have h2 : td_t_XO_plainMethod 0 = b := by unfold td_t_XO_plainMethod; rw [hn]; rfl
    rw [← h2]; exact ok_t_XO_plainMethod_0
  | 1, hn =>
    have h2 : td_t_XO_plainMethod 1 = b := by unfold td_t_XO_plainMethod; rw [hn]; rfl
    rw [← h2]; exact ok_t_XO_plainMethod_1
  | 2, hn =>
    have h2 : td_t_XO_plainMethod 2 = b := by unfold td_t_XO_plainMethod; rw [hn]; rfl
    rw [← h2]; exact ok_t_XO_plainMethod_2
  | 3, hn =>
    have h2 : td_t_XO_plainMethod 3 = b := by unfold td_t_XO_plainMethod; rw [hn]; rfl
    rw [← h2]; exact ok_t_XO_plainMethod_3
  | 4, hn =>
    have h2 : td_t_XO_plainMethod 4 = b := by unfold td_t_XO_plainMethod; rw [hn]; rfl
    rw [← h2]; exact ok_t_XO_plainMethod_4
  | 5, hn =>
    have h2 : td_t_XO_plainMethod 5 = b := by unfold td_t_XO_plainMethod; rw [hn]; rfl
    rw [← h2]; exact ok_t_XO_plainMethod_5
  | n + 6, hn =>
    rw [pe_at_eq] at hn
    exact absurd (List.getElem?_eq_some_iff.mp hn).1 (by show ¬ n + 6 < 6; omega)
theorem ok_t_XO_plainMethod : pe_okM (pe_GA []) pe_cl pe_ckA t_XO_plainMethod = true := pe_okM_mk (pe_w_of (by rfl) (by rfl)) (by decide +kernel) ok_t_XO_plainMethod_a
def td_t_XO_keptAt (k : Nat) : Nat × List pe_I := (pe_at t_XO_keptAt.bl k).getD (0, [])
set_option maxRecDepth 40000 in
theorem ok_t_XO_keptAt_0 : pe_ckB (pe_GA []) pe_cl pe_ckA t_XO_keptAt (td_t_XO_keptAt 0).1 (td_t_XO_keptAt 0).2 = true := by decide +kernel
set_option maxRecDepth 40000 in
theorem ok_t_XO_keptAt_1 : pe_ckB (pe_GA []) pe_cl pe_ckA t_XO_keptAt (td_t_XO_keptAt 1).1 (td_t_XO_keptAt 1).2 = true := by decide +kernel
set_option maxRecDepth 40000 in
theorem ok_t_XO_keptAt_2 : pe_ckB (pe_GA []) pe_cl pe_ckA t_XO_keptAt (td_t_XO_keptAt 2).1 (td_t_XO_keptAt 2).2 = true := by decide +kernel
set_option maxRecDepth 40000 in
theorem ok_t_XO_keptAt_3 : pe_ckB (pe_GA []) pe_cl pe_ckA t_XO_keptAt (td_t_XO_keptAt 3).1 (td_t_XO_keptAt 3).2 = true := by decide +kernel
theorem ok_t_XO_keptAt_a : ∀ b ∈ t_XO_keptAt.bl, pe_ckB (pe_GA []) pe_cl pe_ckA t_XO_keptAt b.1 b.2 = true := by
  intro b hb
  obtain ⟨n, hn⟩ := List.getElem?_of_mem hb
  rw [← pe_at_eq] at hn
  match n, hn with
  | 0, hn =>
    have h2 : td_t_XO_keptAt 0 = b := by unfold td_t_XO_keptAt; rw [hn]; rfl
    rw [← h2]; exact ok_t_XO_keptAt_0
  | 1, hn =>
    have h2 : td_t_XO_keptAt 1 = b := by unfold td_t_XO_keptAt; rw [hn]; rfl
    rw [← h2]; exact ok_t_XO_keptAt_1
  | 2, hn =>
    have h2 : td_t_XO_keptAt 2 = b := by unfold td_t_XO_keptAt; rw [hn]; rfl
    rw [← h2]; exact ok_t_XO_keptAt_2
  | 3, hn =>
    have h2 : td_t_XO_keptAt 3 = b := by unfold td_t_XO_keptAt; rw [hn]; rfl
    rw [← h2]; exact ok_t_XO_keptAt_3
  | n + 4, hn =>
    rw [pe_at_eq] at hn
    exact absurd (List.getElem?_eq_some_iff.mp hn).1 (by show ¬ n + 4 < 4; omega)
theorem ok_t_XO_keptAt : pe_okM (pe_GA []) pe_cl pe_ckA t_XO_keptAt = true := pe_okM_mk (pe_w_of (by rfl) (by rfl)) (by decide +kernel) ok_t_XO_keptAt_a
def td_t_XO_gather (k : Nat) : Nat × List pe_I := (pe_at t_XO_gather.bl k).getD (0, [])
set_option maxRecDepth 40000 in
theorem ok_t_XO_gather_0 : pe_ckB (pe_GA []) pe_cl pe_ckA t_XO_gather (td_t_XO_gather 0).1 (td_t_XO_gather 0).2 = true := by decide +kernel
set_option maxRecDepth 40000 in
theorem ok_t_XO_gather_1 : pe_ckB (pe_GA []) pe_cl pe_ckA t_XO_gather (td_t_XO_gather 1).1 (td_t_XO_gather 1).2 = true := by decide +kernel
set_option maxRecDepth 40000 in
theorem ok_t_XO_gather_2 : pe_ckB (pe_GA []) pe_cl pe_ckA t_XO_gather (td_t_XO_gather 2).1 (td_t_XO_gather 2).2 = true := by decide +kernel
set_option maxRecDepth 40000 in
theorem ok_t_XO_gather_3 : pe_ckB (pe_GA []) pe_cl pe_ckA t_XO_gather (td_t_XO_gather 3).1 (td_t_XO_gather 3).2 = true := by decide +kernel
set_option maxRecDepth 40000 in
theorem ok_t_XO_gather_4 : pe_ckB (pe_GA []) pe_cl pe_ckA t_XO_gather (td_t_XO_gather 4).1 (td_t_XO_gather 4).2 = true := by decide +kernel
set_option maxRecDepth 40000 in
theorem ok_t_XO_gather_5 : pe_ckB (pe_GA []) pe_cl pe_ckA t_XO_gather (td_t_XO_gather 5).1 (td_t_XO_gather 5).2 = true := by decide +kernel
set_option maxRecDepth 40000 in
theorem ok_t_XO_gather_6 : pe_ckB (pe_GA []) pe_cl pe_ckA t_XO_gather (td_t_XO_gather 6).1 (td_t_XO_gather 6).2 = true := by decide +kernel
set_option maxRecDepth 40000 in
theorem ok_t_XO_gather_7 : pe_ckB (pe_GA []) pe_cl pe_ckA t_XO_gather (td_t_XO_gather 7).1 (td_t_XO_gather 7).2 = true := by decide +kernel
set_option maxRecDepth 40000 in
theorem ok_t_XO_gather_8 : pe_ckB (pe_GA []) pe_cl pe_ckA t_XO_gather (td_t_XO_gather 8).1 (td_t_XO_gather 8).2 = true := by decide +kernel
set_option maxRecDepth 40000 in
theorem ok_t_XO_gather_9 : pe_ckB (pe_GA []) pe_cl pe_ckA t_XO_gather (td_t_XO_gather 9).1 (td_t_XO_gather 9).2 = true := by decide +kernel
set_option maxRecDepth 40000 in
theorem ok_t_XO_gather_10 : pe_ckB (pe_GA []) pe_cl pe_ckA t_XO_gather (td_t_XO_gather 10).1 (td_t_XO_gather 10).2 = true := by decide +kernel
set_option maxRecDepth 40000 in
theorem ok_t_XO_gather_11 : pe_ckB (pe_GA []) pe_cl pe_ckA t_XO_gather (td_t_XO_gather 11).1 (td_t_XO_gather 11).2 = true := by decide +kernel
set_option maxRecDepth 40000 in
theorem ok_t_XO_gather_12 : pe_ckB (pe_GA []) pe_cl pe_ckA t_XO_gather (td_t_XO_gather 12).1 (td_t_XO_gather 12).2 = true := by decide +kernel
theorem ok_t_XO_gather_a : ∀ b ∈ t_XO_gather.bl, pe_ckB (pe_GA []) pe_cl pe_ckA t_XO_gather b.1 b.2 = true := by
  intro b hb
  obtain ⟨n, hn⟩ := List.getElem?_of_mem hb
  rw [← pe_at_eq] at hn
  match n, hn with
  | 0, hn =>
    have h2 : td_t_XO_gather 0 = b := by unfold td_t_XO_gather; rw [hn]; rfl
    rw [← h2]; exact ok_t_XO_gather_0
  | 1, hn =>
    have h2 : td_t_XO_gather 1 = b := by unfold td_t_XO_gather; rw [hn]; rfl
    rw [← h2]; exact ok_t_XO_gather_1
  | 2, hn =>
    have h2 : td_t_XO_gather 2 = b := by unfold td_t_XO_gather; rw [hn]; rfl
    rw [← h2]; exact ok_t_XO_gather_2
  | 3, hn =>
    have h2 : td_t_XO_gather 3 = b := by unfold td_t_XO_gather; rw [hn]; rfl
    rw [← h2]; exact ok_t_XO_gather_3
  | 4, hn =>
    have h2 : td_t_XO_gather 4 = b := by unfold td_t_XO_gather; rw [hn]; rfl
    rw [← h2]; exact ok_t_XO_gather_4
  | 5, hn =>
    have h2 : td_t_XO_gather 5 = b := by unfold td_t_XO_gather; rw [hn]; rfl
    rw [← h2]; exact ok_t_XO_gather_5
  | 6, hn =>
    have h2 : td_t_XO_gather 6 = b := by unfold td_t_XO_gather; rw [hn]; rfl
    rw [← h2]; exact ok_t_XO_gather_6
  | 7, hn =>
    have h2 : td_t_XO_gather 7 = b := by unfold td_t_XO_gather; rw [hn]; rfl
    rw [← h2]; exact ok_t_XO_gather_7
  | 8, hn =>
    have h2 : td_t_XO_gather 8 = b := by unfold td_t_XO_gather; rw [hn]; rfl
    rw [← h2]; exact ok_t_XO_gather_8
  | 9, hn =>
    have h2 : td_t_XO_gather 9 = b := by unfold td_t_XO_gather; rw [hn]; rfl
    rw [← h2]; exact ok_t_XO_gather_9
  | 10, hn =>
    have h2 : td_t_XO_gather 10 = b := by unfold td_t_XO_gather; rw [hn]; rfl
    rw [← h2]; exact ok_t_XO_gather_10
  | 11, hn =>
    have h2 : td_t_XO_gather 11 = b := by unfold td_t_XO_gather; rw [hn]; rfl
    rw [← h2]; exact ok_t_XO_gather_11
  | 12, hn =>
    have h2 : td_t_XO_gather 12 = b := by unfold td_t_XO_gather; rw [hn]; rfl
    rw [← h2]; exact ok_t_XO_gather_12
  | n + 13, hn =>
    rw [pe_at_eq] at hn
    exact absurd (List.getElem?_eq_some_iff.mp hn).1 (by show ¬ n + 13 < 13; omega)
theorem ok_t_XO_gather : pe_okM (pe_GA []) pe_cl pe_ckA t_XO_gather = true := pe_okM_mk (pe_w_of (by rfl) (by rfl)) (by decide +kernel) ok_t_XO_gather_a
