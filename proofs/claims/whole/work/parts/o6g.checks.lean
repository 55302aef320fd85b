/-! PART o6g: tables checked once. -/
set_option maxRecDepth 40000 in
theorem ok_t_MP_find : pe_okM (pe_GA []) pe_cl pe_ckA t_MP_find = true := by decide +kernel
def td_t_M_keepsSite (k : Nat) : Nat × List pe_I := (pe_at t_M_keepsSite.bl k).getD (0, [])
set_option maxRecDepth 40000 in
theorem ok_t_M_keepsSite_0 : pe_ckB (pe_GA []) pe_cl pe_ckA t_M_keepsSite (td_t_M_keepsSite 0).1 (td_t_M_keepsSite 0).2 = true := by decide +kernel
set_option maxRecDepth 40000 in
theorem ok_t_M_keepsSite_1 : pe_ckB (pe_GA []) pe_cl pe_ckA t_M_keepsSite (td_t_M_keepsSite 1).1 (td_t_M_keepsSite 1).2 = true := by decide +kernel
set_option maxRecDepth 40000 in
theorem ok_t_M_keepsSite_2 : pe_ckB (pe_GA []) pe_cl pe_ckA t_M_keepsSite (td_t_M_keepsSite 2).1 (td_t_M_keepsSite 2).2 = true := by decide +kernel
set_option maxRecDepth 40000 in
theorem ok_t_M_keepsSite_3 : pe_ckB (pe_GA []) pe_cl pe_ckA t_M_keepsSite (td_t_M_keepsSite 3).1 (td_t_M_keepsSite 3).2 = true := by decide +kernel
set_option maxRecDepth 40000 in
theorem ok_t_M_keepsSite_4 : pe_ckB (pe_GA []) pe_cl pe_ckA t_M_keepsSite (td_t_M_keepsSite 4).1 (td_t_M_keepsSite 4).2 = true := by decide +kernel
set_option maxRecDepth 40000 in
theorem ok_t_M_keepsSite_5 : pe_ckB (pe_GA []) pe_cl pe_ckA t_M_keepsSite (td_t_M_keepsSite 5).1 (td_t_M_keepsSite 5).2 = true := by decide +kernel
set_option maxRecDepth 40000 in
theorem ok_t_M_keepsSite_6 : pe_ckB (pe_GA []) pe_cl pe_ckA t_M_keepsSite (td_t_M_keepsSite 6).1 (td_t_M_keepsSite 6).2 = true := by decide +kernel
theorem ok_t_M_keepsSite_a : ∀ b ∈ t_M_keepsSite.bl, pe_ckB (pe_GA []) pe_cl pe_ckA t_M_keepsSite b.1 b.2 = true := by
  intro b hb
  obtain ⟨n, hn⟩ := List.getElem?_of_mem hb
  rw [← pe_at_eq] at hn
  match n, hn with
  | 0, hn =>
    have h2 : td_t_M_keepsSite 0 = b := by unfold td_t_M_keepsSite; rw [hn]; rfl
    rw [← h2]; exact ok_t_M_keepsSite_0
  | 1, hn =>
    have h2 : td_t_M_keepsSite 1 = b := by unfold td_t_M_keepsSite; rw [hn]; rfl
    rw [← h2]; exact ok_t_M_keepsSite_1
  | 2, hn =>
    have h2 : td_t_M_keepsSite 2 = b := by unfold td_t_M_keepsSite; rw [hn]; rfl
    rw [← h2]; exact ok_t_M_keepsSite_2
  | 3, hn =>
    have h2 : td_t_M_keepsSite 3 = b := by unfold td_t_M_keepsSite; rw [hn]; rfl
    rw [← h2]; exact ok_t_M_keepsSite_3
  | 4, hn =>
    have h2 : td_t_M_keepsSite 4 = b := by unfold td_t_M_keepsSite; rw [hn]; rfl
    rw [← h2]; exact ok_t_M_keepsSite_4
  | 5, hn =>
    have h2 : td_t_M_keepsSite 5 = b := by unfold td_t_M_keepsSite; rw [hn]; rfl
    rw [← h2]; exact ok_t_M_keepsSite_5
  | 6, hn =>
    have h2 : td_t_M_keepsSite 6 = b := by unfold td_t_M_keepsSite; rw [hn]; rfl
    rw [← h2]; exact ok_t_M_keepsSite_6
  | n + 7, hn =>
    rw [pe_at_eq] at hn
    exact absurd (List.getElem?_eq_some_iff.mp hn).1 (by show ¬ n + 7 < 7; omega)
theorem ok_t_M_keepsSite : pe_okM (pe_GA []) pe_cl pe_ckA t_M_keepsSite = true := pe_okM_mk (pe_w_of (by rfl) (by rfl)) (by decide +kernel) ok_t_M_keepsSite_a
def td_t_XH_takeCells (k : Nat) : Nat × List pe_I := (pe_at t_XH_takeCells.bl k).getD (0, [])
set_option maxRecDepth 40000 in
theorem ok_t_XH_takeCells_0 : pe_ckB (pe_GA []) pe_cl pe_ckA t_XH_takeCells (td_t_XH_takeCells 0).1 (td_t_XH_takeCells 0).2 = true := by decide +kernel
set_option maxRecDepth 40000 in
theorem ok_t_XH_takeCells_1 : pe_ckB (pe_GA []) pe_cl pe_ckA t_XH_takeCells (td_t_XH_takeCells 1).1 (td_t_XH_takeCells 1).2 = true := by decide +kernel
theorem ok_t_XH_takeCells_a : ∀ b ∈ t_XH_takeCells.bl, pe_ckB (pe_GA []) pe_cl pe_ckA t_XH_takeCells b.1 b.2 = true := by
  intro b hb
  obtain ⟨n, hn⟩ := List.getElem?_of_mem hb
  rw [← pe_at_eq] at hn
  match n, hn with
  | 0, hn =>
    have h2 : td_t_XH_takeCells 0 = b := by unfold td_t_XH_takeCells; rw [hn]; rfl
    rw [← h2]; exact ok_t_XH_takeCells_0
  | 1, hn =>
    have h2 : td_t_XH_takeCells 1 = b := by unfold td_t_XH_takeCells; rw [hn]; rfl
    rw [← h2]; exact ok_t_XH_takeCells_1
  | n + 2, hn =>
    rw [pe_at_eq] at hn
    exact absurd (List.getElem?_eq_some_iff.mp hn).1 (by show ¬ n + 2 < 2; omega)
theorem ok_t_XH_takeCells : pe_okM (pe_GA []) pe_cl pe_ckA t_XH_takeCells = true := pe_okM_mk (pe_w_of (by rfl) (by rfl)) (by decide +kernel) ok_t_XH_takeCells_a
def td_t_XL_aim (k : Nat) : Nat × List pe_I := (pe_at t_XL_aim.bl k).getD (0, [])
set_option maxRecDepth 40000 in
theorem ok_t_XL_aim_0 : pe_ckB (pe_GA []) pe_cl pe_ckA t_XL_aim (td_t_XL_aim 0).1 (td_t_XL_aim 0).2 = true := by decide +kernel
set_option maxRecDepth 40000 in
theorem ok_t_XL_aim_1 : pe_ckB (pe_GA []) pe_cl pe_ckA t_XL_aim (td_t_XL_aim 1).1 (td_t_XL_aim 1).2 = true := by decide +kernel
set_option maxRecDepth 40000 in
theorem ok_t_XL_aim_2 : pe_ckB (pe_GA []) pe_cl pe_ckA t_XL_aim (td_t_XL_aim 2).1 (td_t_XL_aim 2).2 = true := by decide +kernel
set_option maxRecDepth 40000 in
theorem ok_t_XL_aim_3 : pe_ckB (pe_GA []) pe_cl pe_ckA t_XL_aim (td_t_XL_aim 3).1 (td_t_XL_aim 3).2 = true := by decide +kernel
set_option maxRecDepth 40000 in
theorem ok_t_XL_aim_4 : pe_ckB (pe_GA []) pe_cl pe_ckA t_XL_aim (td_t_XL_aim 4).1 (td_t_XL_aim 4).2 = true := by decide +kernel
set_option maxRecDepth 40000 in
theorem ok_t_XL_aim_5 : pe_ckB (pe_GA []) pe_cl pe_ckA t_XL_aim (td_t_XL_aim 5).1 (td_t_XL_aim 5).2 = true := by decide +kernel
set_option maxRecDepth 40000 in
theorem ok_t_XL_aim_6 : pe_ckB (pe_GA []) pe_cl pe_ckA t_XL_aim (td_t_XL_aim 6).1 (td_t_XL_aim 6).2 = true := by decide +kernel
set_option maxRecDepth 40000 in
theorem ok_t_XL_aim_7 : pe_ckB (pe_GA []) pe_cl pe_ckA t_XL_aim (td_t_XL_aim 7).1 (td_t_XL_aim 7).2 = true := by decide +kernel
set_option maxRecDepth 40000 in
theorem ok_t_XL_aim_8 : pe_ckB (pe_GA []) pe_cl pe_ckA t_XL_aim (td_t_XL_aim 8).1 (td_t_XL_aim 8).2 = true := by decide +kernel
set_option maxRecDepth 40000 in
theorem ok_t_XL_aim_9 : pe_ckB (pe_GA []) pe_cl pe_ckA t_XL_aim (td_t_XL_aim 9).1 (td_t_XL_aim 9).2 = true := by decide +kernel
set_option maxRecDepth 40000 in
theorem ok_t_XL_aim_10 : pe_ckB (pe_GA []) pe_cl pe_ckA t_XL_aim (td_t_XL_aim 10).1 (td_t_XL_aim 10).2 = true := by decide +kernel
set_option maxRecDepth 40000 in
theorem ok_t_XL_aim_11 : pe_ckB (pe_GA []) pe_cl pe_ckA t_XL_aim (td_t_XL_aim 11).1 (td_t_XL_aim 11).2 = true := by decide +kernel
set_option maxRecDepth 40000 in
theorem ok_t_XL_aim_12 : pe_ckB (pe_GA []) pe_cl pe_ckA t_XL_aim (td_t_XL_aim 12).1 (td_t_XL_aim 12).2 = true := by decide +kernel
theorem ok_t_XL_aim_a : ∀ b ∈ t_XL_aim.bl, pe_ckB (pe_GA []) pe_cl pe_ckA t_XL_aim b.1 b.2 = true := by
  intro b hb
  obtain ⟨n, hn⟩ := List.getElem?_of_mem hb
  rw [← pe_at_eq] at hn
  match n, hn with
  | 0, hn =>
    have h2 : td_t_XL_aim 0 = b := by unfold td_t_XL_aim; rw [hn]; rfl
    rw [← h2]; exact ok_t_XL_aim_0
  | 1, hn =>
    have h2 : td_t_XL_aim 1 = b := by unfold td_t_XL_aim; rw [hn]; rfl
    rw [← h2]; exact ok_t_XL_aim_1
  | 2, hn =>
    have h2 : td_t_XL_aim 2 = b := by unfold td_t_XL_aim; rw [hn]; rfl
    rw [← h2]; exact ok_t_XL_aim_2
  | 3, hn =>
    have h2 : td_t_XL_aim 3 = b := by unfold td_t_XL_aim; rw [hn]; rfl
    rw [← h2]; exact ok_t_XL_aim_3
  | 4, hn =>
    have h2 : td_t_XL_aim 4 = b := by unfold td_t_XL_aim; rw [hn]; rfl
    rw [← h2]; exact ok_t_XL_aim_4
  | 5, hn =>
    have h2 : td_t_XL_aim 5 = b := by unfold td_t_XL_aim; rw [hn]; rfl
    rw [← h2]; exact ok_t_XL_aim_5
  | 6, hn =>
    have h2 : td_t_XL_aim 6 = b := by unfold td_t_XL_aim; rw [hn]; rfl
    rw [← h2]; exact ok_t_XL_aim_6
  | 7, hn =>
    have h2 : td_t_XL_aim 7 = b := by unfold td_t_XL_aim; rw [hn]; rfl
    rw [← h2]; exact ok_t_XL_aim_7
  | 8, hn =>
    have h2 : td_t_XL_aim 8 = b := by unfold td_t_XL_aim; rw [hn]; rfl
    rw [← h2]; exact ok_t_XL_aim_8
  | 9, hn =>
    have h2 : td_t_XL_aim 9 = b := by unfold td_t_XL_aim; rw [hn]; rfl
    rw [← h2]; exact ok_t_XL_aim_9
  | 10, hn =>
    have h2 : td_t_XL_aim 10 = b := by unfold td_t_XL_aim; rw [hn]; rfl
    rw [← h2]; exact ok_t_XL_aim_10
  | 11, hn =>
    have h2 : td_t_XL_aim 11 = b := by unfold td_t_XL_aim; rw [hn]; rfl
    rw [← h2]; exact ok_t_XL_aim_11
  | 12, hn =>
    have h2 : td_t_XL_aim 12 = b := by unfold td_t_XL_aim; rw [hn]; rfl
    rw [← h2]; exact ok_t_XL_aim_12
  | n + 13, hn =>
    rw [pe_at_eq] at hn
    exact absurd (List.getElem?_eq_some_iff.mp hn).1 (by show ¬ n + 13 < 13; omega)
theorem ok_t_XL_aim : pe_okM (pe_GA []) pe_cl pe_ckA t_XL_aim = true := pe_okM_mk (pe_w_of (by rfl) (by rfl)) (by decide +kernel) ok_t_XL_aim_a
def td_t_XL_held (k : Nat) : Nat × List pe_I := (pe_at t_XL_held.bl k).getD (0, [])
set_option maxRecDepth 40000 in
theorem ok_t_XL_held_0 : pe_ckB (pe_GA []) pe_cl pe_ckA t_XL_held (td_t_XL_held 0).1 (td_t_XL_held 0).2 = true := by decide +kernel
set_option maxRecDepth 40000 in
theorem ok_t_XL_held_1 : pe_ckB (pe_GA []) pe_cl pe_ckA t_XL_held (td_t_XL_held 1).1 (td_t_XL_held 1).2 = true := by decide +kernel
set_option maxRecDepth 40000 in
theorem ok_t_XL_held_2 : pe_ckB (pe_GA []) pe_cl pe_ckA t_XL_held (td_t_XL_held 2).1 (td_t_XL_held 2).2 = true := by decide +kernel
set_option maxRecDepth 40000 in
theorem ok_t_XL_held_3 : pe_ckB (pe_GA []) pe_cl pe_ckA t_XL_held (td_t_XL_held 3).1 (td_t_XL_held 3).2 = true := by decide +kernel
set_option maxRecDepth 40000 in
theorem ok_t_XL_held_4 : pe_ckB (pe_GA []) pe_cl pe_ckA t_XL_held (td_t_XL_held 4).1 (td_t_XL_held 4).2 = true := by decide +kernel
set_option maxRecDepth 40000 in
theorem ok_t_XL_held_5 : pe_ckB (pe_GA []) pe_cl pe_ckA t_XL_held (td_t_XL_held 5).1 (td_t_XL_held 5).2 = true := by decide +kernel
set_option maxRecDepth 40000 in
theorem ok_t_XL_held_6 : pe_ckB (pe_GA []) pe_cl pe_ckA t_XL_held (td_t_XL_held 6).1 (td_t_XL_held 6).2 = true := by decide +kernel
set_option maxRecDepth 40000 in
theorem ok_t_XL_held_7 : pe_ckB (pe_GA []) pe_cl pe_ckA t_XL_held (td_t_XL_held 7).1 (td_t_XL_held 7).2 = true := by decide +kernel
theorem ok_t_XL_held_a : ∀ b ∈ t_XL_held.bl, pe_ckB (pe_GA []) pe_cl pe_ckA t_XL_held b.1 b.2 = true := by
  intro b hb
  obtain ⟨n, hn⟩ := List.getElem?_of_mem hb
  rw [← pe_at_eq] at hn
  match n, hn with
  | 0, hn =>
    have h2 : td_t_XL_held 0 = b := by unfold td_t_XL_held; rw [hn]; rfl
    rw [← h2]; exact ok_t_XL_held_0
  | 1, hn =>
    have h2 : td_t_XL_held 1 = b := by unfold td_t_XL_held; rw [hn]; rfl
    rw [← h2]; exact ok_t_XL_held_1
  | 2, hn =>
    have h2 : td_t_XL_held 2 = b := by unfold td_t_XL_held; rw [hn]; rfl
    rw [← h2]; exact ok_t_XL_held_2
  | 3, hn =>
    have h2 : td_t_XL_held 3 = b := by unfold td_t_XL_held; rw [hn]; rfl
    rw [← h2]; exact ok_t_XL_held_3
  | 4, hn =>
    have h2 : td_t_XL_held 4 = b := by unfold td_t_XL_held; rw [hn]; rfl
    rw [← h2]; exact ok_t_XL_held_4
  | 5, hn =>
    have h2 : td_t_XL_held 5 = b := by unfold td_t_XL_held; rw [hn]; rfl
    rw [← h2]; exact ok_t_XL_held_5
  | 6, hn =>
    have h2 : td_t_XL_held 6 = b := by unfold td_t_XL_held; rw [hn]; rfl
    rw [← h2]; exact ok_t_XL_held_6
  | 7, hn =>
    have h2 : td_t_XL_held 7 = b := by unfold td_t_XL_held; rw [hn]; rfl
    rw [← h2]; exact ok_t_XL_held_7
  | n + 8, hn =>
    rw [pe_at_eq] at hn
    exact absurd (List.getElem?_eq_some_iff.mp hn).1 (by show ¬ n + 8 < 8; omega)
theorem ok_t_XL_held : pe_okM (pe_GA []) pe_cl pe_ckA t_XL_held = true := pe_okM_mk (pe_w_of (by rfl) (by rfl)) (by decide +kernel) ok_t_XL_held_a
def td_t_XL_look (k : Nat) : Nat × List pe_I := (pe_at t_XL_look.bl k).getD (0, [])
set_option maxRecDepth 40000 in
theorem ok_t_XL_look_0 : pe_ckB (pe_GA []) pe_cl pe_ckA t_XL_look (td_t_XL_look 0).1 (td_t_XL_look 0).2 = true := by decide +kernel
set_option maxRecDepth 40000 in
theorem ok_t_XL_look_1 : pe_ckB (pe_GA []) pe_cl pe_ckA t_XL_look (td_t_XL_look 1).1 (td_t_XL_look 1).2 = true := by decide +kernel
set_option maxRecDepth 40000 in
theorem ok_t_XL_look_2 : pe_ckB (pe_GA []) pe_cl pe_ckA t_XL_look (td_t_XL_look 2).1 (td_t_XL_look 2).2 = true := by decide +kernel
set_option maxRecDepth 40000 in
theorem ok_t_XL_look_3 : pe_ckB (pe_GA []) pe_cl pe_ckA t_XL_look (td_t_XL_look 3).1 (td_t_XL_look 3).2 = true := by decide +kernel
set_option maxRecDepth 40000 in
theorem ok_t_XL_look_4 : pe_ckB (pe_GA []) pe_cl pe_ckA t_XL_look (td_t_XL_look 4).1 (td_t_XL_look 4).2 = true := by decide +kernel
set_option maxRecDepth 40000 in
theorem ok_t_XL_look_5 : pe_ckB (pe_GA []) pe_cl pe_ckA t_XL_look (td_t_XL_look 5).1 (td_t_XL_look 5).2 = true := by decide +kernel
set_option maxRecDepth 40000 in
theorem ok_t_XL_look_6 : pe_ckB (pe_GA []) pe_cl pe_ckA t_XL_look (td_t_XL_look 6).1 (td_t_XL_look 6).2 = true := by decide +kernel
set_option maxRecDepth 40000 in
theorem ok_t_XL_look_7 : pe_ckB (pe_GA []) pe_cl pe_ckA t_XL_look (td_t_XL_look 7).1 (td_t_XL_look 7).2 = true := by decide +kernel
set_option maxRecDepth 40000 in
theorem ok_t_XL_look_8 : pe_ckB (pe_GA []) pe_cl pe_ckA t_XL_look (td_t_XL_look 8).1 (td_t_XL_look 8).2 = true := by decide +kernel
set_option maxRecDepth 40000 in
theorem ok_t_XL_look_9 : pe_ckB (pe_GA []) pe_cl pe_ckA t_XL_look (td_t_XL_look 9).1 (td_t_XL_look 9).2 = true := by decide +kernel
set_option maxRecDepth 40000 in
theorem ok_t_XL_look_10 : pe_ckB (pe_GA []) pe_cl pe_ckA t_XL_look (td_t_XL_look 10).1 (td_t_XL_look 10).2 = true := by decide +kernel
set_option maxRecDepth 40000 in
theorem ok_t_XL_look_11 : pe_ckB (pe_GA []) pe_cl pe_ckA t_XL_look (td_t_XL_look 11).1 (td_t_XL_look 11).2 = true := by decide +kernel
set_option maxRecDepth 40000 in
theorem ok_t_XL_look_12 : pe_ckB (pe_GA []) pe_cl pe_ckA t_XL_look (td_t_XL_look 12).1 (td_t_XL_look 12).2 = true := by decide +kernel
set_option maxRecDepth 40000 in
theorem ok_t_XL_look_13 : pe_ckB (pe_GA []) pe_cl pe_ckA t_XL_look (td_t_XL_look 13).1 (td_t_XL_look 13).2 = true := by decide +kernel
set_option maxRecDepth 40000 in
theorem ok_t_XL_look_14 : pe_ckB (pe_GA []) pe_cl pe_ckA t_XL_look (td_t_XL_look 14).1 (td_t_XL_look 14).2 = true := by decide +kernel
theorem ok_t_XL_look_a : ∀ b ∈ t_XL_look.bl, pe_ckB (pe_GA []) pe_cl pe_ckA t_XL_look b.1 b.2 = true := by
  intro b hb
  obtain ⟨n, hn⟩ := List.getElem?_of_mem hb
  rw [← pe_at_eq] at hn
  match n, hn with
  | 0, hn =>
    have h2 : td_t_XL_look 0 = b := by unfold td_t_XL_look; rw [hn]; rfl
    rw [← h2]; exact ok_t_XL_look_0
  | 1, hn =>
    have h2 : td_t_XL_look 1 = b := by unfold td_t_XL_look; rw [hn]; rfl
    rw [← h2]; exact ok_t_XL_look_1
  | 2, hn =>
    have h2 : td_t_XL_look 2 = b := by unfold td_t_XL_look; rw [hn]; rfl
    rw [← h2]; exact ok_t_XL_look_2
  | 3, hn =>
    have h2 : td_t_XL_look 3 = b := by unfold td_t_XL_look; rw [hn]; rfl
    rw [← h2]; exact ok_t_XL_look_3
  | 4, hn =>
    have h2 : td_t_XL_look 4 = b := by unfold td_t_XL_look; rw [hn]; rfl
    rw [← h2]; exact ok_t_XL_look_4
  | 5, hn =>
    have h2 : td_t_XL_look 5 = b := by unfold td_t_XL_look; rw [hn]; rfl
    rw [← h2]; exact ok_t_XL_look_5
  | 6, hn =>
    have h2 : td_t_XL_look 6 = b := by unfold td_t_XL_look; rw [hn]; rfl
    rw [← h2]; exact ok_t_XL_look_6
  | 7, hn =>
    have h2 : td_t_XL_look 7 = b := by unfold td_t_XL_look; rw [hn]; rfl
    rw [← h2]; exact ok_t_XL_look_7
  | 8, hn =>
    have h2 : td_t_XL_look 8 = b := by unfold td_t_XL_look; rw [hn]; rfl
    rw [← h2]; exact ok_t_XL_look_8
  | 9, hn =>
    have h2 : td_t_XL_look 9 = b := by unfold td_t_XL_look; rw [hn]; rfl
    rw [← h2]; exact ok_t_XL_look_9
  | 10, hn =>
    have h2 : td_t_XL_look 10 = b := by unfold td_t_XL_look; rw [hn]; rfl
    rw [← h2]; exact ok_t_XL_look_10
  | 11, hn =>
    have h2 : td_t_XL_look 11 = b := by unfold td_t_XL_look; rw [hn]; rfl
    rw [← h2]; exact ok_t_XL_look_11
  | 12, hn =>
    have h2 : td_t_XL_look 12 = b := by unfold td_t_XL_look; rw [hn]; rfl
    rw [← h2]; exact ok_t_XL_look_12
  | 13, hn =>
    have h2 : td_t_XL_look 13 = b := by unfold td_t_XL_look; rw [hn]; rfl
    rw [← h2]; exact ok_t_XL_look_13
  | 14, hn =>
    have h2 : td_t_XL_look 14 = b := by unfold td_t_XL_look; rw [hn]; rfl
    rw [← h2]; exact ok_t_XL_look_14
  | n + 15, hn =>
    rw [pe_at_eq] at hn
    exact absurd (List.getElem?_eq_some_iff.mp hn).1 (by show ¬ n + 15 < 15; omega)
theorem ok_t_XL_look : pe_okM (pe_GA []) pe_cl pe_ckA t_XL_look = true := pe_okM_mk (pe_w_of (by rfl) (by rfl)) (by decide +kernel) ok_t_XL_look_a
def td_t_XL_act (k : Nat) : Nat × List pe_I := (pe_at t_XL_act.bl k).getD (0, [])
set_option maxRecDepth 40000 in
theorem ok_t_XL_act_0 : pe_ckB (pe_GA []) pe_cl pe_ckA t_XL_act (td_t_XL_act 0).1 (td_t_XL_act 0).2 = true := by decide +kernel
set_option maxRecDepth 40000 in
theorem ok_t_XL_act_1 : pe_ckB (pe_GA []) pe_cl pe_ckA t_XL_act (td_t_XL_act 1).1 (td_t_XL_act 1).2 = true := by decide +kernel
set_option maxRecDepth 40000 in
theorem ok_t_XL_act_2 : pe_ckB (pe_GA []) pe_cl pe_ckA t_XL_act (td_t_XL_act 2).1 (td_t_XL_act 2).2 = true := by decide +kernel
set_option maxRecDepth 40000 in
theorem ok_t_XL_act_3 : pe_ckB (pe_GA []) pe_cl pe_ckA t_XL_act (td_t_XL_act 3).1 (td_t_XL_act 3).2 = true := by decide +kernel
set_option maxRecDepth 40000 in
theorem ok_t_XL_act_4 : pe_ckB (pe_GA []) pe_cl pe_ckA t_XL_act (td_t_XL_act 4).1 (td_t_XL_act 4).2 = true := by decide +kernel
set_option maxRecDepth 40000 in
theorem ok_t_XL_act_5 : pe_ckB (pe_GA []) pe_cl pe_ckA t_XL_act (td_t_XL_act 5).1 (td_t_XL_act 5).2 = true := by decide +kernel
set_option maxRecDepth 40000 in
theorem ok_t_XL_act_6 : pe_ckB (pe_GA []) pe_cl pe_ckA t_XL_act (td_t_XL_act 6).1 (td_t_XL_act 6).2 = true := by decide +kernel
set_option maxRecDepth 40000 in
theorem ok_t_XL_act_7 : pe_ckB (pe_GA []) pe_cl pe_ckA t_XL_act (td_t_XL_act 7).1 (td_t_XL_act 7).2 = true := by decide +kernel
set_option maxRecDepth 40000 in
theorem ok_t_XL_act_8 : pe_ckB (pe_GA []) pe_cl pe_ckA t_XL_act (td_t_XL_act 8).1 (td_t_XL_act 8).2 = true := by decide +kernel
set_option maxRecDepth 40000 in
theorem ok_t_XL_act_9 : pe_ckB (pe_GA []) pe_cl pe_ckA t_XL_act (td_t_XL_act 9).1 (td_t_XL_act 9).2 = true := by decide +kernel
theorem ok_t_XL_act_a : ∀ b ∈ t_XL_act.bl, pe_ckB (pe_GA []) pe_cl pe_ckA t_XL_act b.1 b.2 = true := by
  intro b hb
  obtain ⟨n, hn⟩ := List.getElem?_of_mem hb
  rw [← pe_at_eq] at hn
  match n, hn with
  | 0, hn =>
    have h2 : td_t_XL_act 0 = b := by unfold td_t_XL_act; rw [hn]; rfl
    rw [← h2]; exact ok_t_XL_act_0
  | 1, hn =>
    have h2 : td_t_XL_act 1 = b := by unfold td_t_XL_act; rw [hn]; rfl
    rw [← h2]; exact ok_t_XL_act_1
  | 2, hn =>
    have h2 : td_t_XL_act 2 = b := by unfold td_t_XL_act; rw [hn]; rfl
    rw [← h2]; exact ok_t_XL_act_2
  | 3, hn =>
    have h2 : td_t_XL_act 3 = b := by unfold td_t_XL_act; rw [hn]; rfl
    rw [← h2]; exact ok_t_XL_act_3
  | 4, hn =>
    have h2 : td_t_XL_act 4 = b := by unfold td_t_XL_act; rw [hn]; rfl
    rw [← h2]; exact ok_t_XL_act_4
  | 5, hn =>
    have h2 : td_t_XL_act 5 = b := by unfold td_t_XL_act; rw [hn]; rfl
    rw [← h2]; exact ok_t_XL_act_5
  | 6, hn =>
    have h2 : td_t_XL_act 6 = b := by unfold td_t_XL_act; rw [hn]; rfl
    rw [← h2]; exact ok_t_XL_act_6
  | 7, hn =>
    have h2 : td_t_XL_act 7 = b := by unfold td_t_XL_act; rw [hn]; rfl
    rw [← h2]; exact ok_t_XL_act_7
  | 8, hn =>
    have h2 : td_t_XL_act 8 = b := by unfold td_t_XL_act; rw [hn]; rfl
    rw [← h2]; exact ok_t_XL_act_8
  | 9, hn =>
    have h2 : td_t_XL_act 9 = b := by unfold td_t_XL_act; rw [hn]; rfl
    rw [← h2]; exact ok_t_XL_act_9
  | n + 10, hn =>
    rw [pe_at_eq] at hn
    exact absurd (List.getElem?_eq_some_iff.mp hn).1 (by show ¬ n + 10 < 10; omega)
theorem ok_t_XL_act : pe_okM (pe_GA []) pe_cl pe_ckA t_XL_act = true := pe_okM_mk (pe_w_of (by rfl) (by rfl)) (by decide +kernel) ok_t_XL_act_a
set_option maxRecDepth 40000 in
theorem ok_t_XK_pushes : pe_okM (pe_GA []) pe_cl pe_ckA t_XK_pushes = true := by decide +kernel
def td_t_XK_operate (k : Nat) : Nat × List pe_I := (pe_at t_XK_operate.bl k).getD (0, [])
set_option maxRecDepth 40000 in
theorem ok_t_XK_operate_0 : pe_ckB (pe_GA []) pe_cl pe_ckA t_XK_operate (td_t_XK_operate 0).1 (td_t_XK_operate 0).2 = true := by decide +kernel
set_option maxRecDepth 40000 in
theorem ok_t_XK_operate_1 : pe_ckB (pe_GA []) pe_cl pe_ckA t_XK_operate (td_t_XK_operate 1).1 (td_t_XK_operate 1).2 = true := by decide +kernel
set_option maxRecDepth 40000 in
theorem ok_t_XK_operate_2 : pe_ckB (pe_GA []) pe_cl pe_ckA t_XK_operate (td_t_XK_operate 2).1 (td_t_XK_operate 2).2 = true := by decide +kernel
set_option maxRecDepth 40000 in
theorem ok_t_XK_operate_3 : pe_ckB (pe_GA []) pe_cl pe_ckA t_XK_operate (td_t_XK_operate 3).1 (td_t_XK_operate 3).2 = true := by decide +kernel
set_option maxRecDepth 40000 in
theorem ok_t_XK_operate_4 : pe_ckB (pe_GA []) pe_cl pe_ckA t_XK_operate (td_t_XK_operate 4).1 (td_t_XK_operate 4).2 = true := by decide +kernel
set_option maxRecDepth 40000 in
theorem ok_t_XK_operate_5 : pe_ckB (pe_GA []) pe_cl pe_ckA t_XK_operate (td_t_XK_operate 5).1 (td_t_XK_operate 5).2 = true := by decide +kernel
set_option maxRecDepth 40000 in
theorem ok_t_XK_operate_6 : pe_ckB (pe_GA []) pe_cl pe_ckA t_XK_operate (td_t_XK_operate 6).1 (td_t_XK_operate 6).2 = true := by decide +kernel
set_option maxRecDepth 40000 in
theorem ok_t_XK_operate_7 : pe_ckB (pe_GA []) pe_cl pe_ckA t_XK_operate (td_t_XK_operate 7).1 (td_t_XK_operate 7).2 = true := by decide +kernel
set_option maxRecDepth 40000 in
theorem ok_t_XK_operate_8 : pe_ckB (pe_GA []) pe_cl pe_ckA t_XK_operate (td_t_XK_operate 8).1 (td_t_XK_operate 8).2 = true := by decide +kernel
set_option maxRecDepth 40000 in
theorem ok_t_XK_operate_9 : pe_ckB (pe_GA []) pe_cl pe_ckA t_XK_operate (td_t_XK_operate 9).1 (td_t_XK_operate 9).2 = true := by decide +kernel
set_option maxRecDepth 40000 in
theorem ok_t_XK_operate_10 : pe_ckB (pe_GA []) pe_cl pe_ckA t_XK_operate (td_t_XK_operate 10).1 (td_t_XK_operate 10).2 = true := by decide +kernel
set_option maxRecDepth 40000 in
theorem ok_t_XK_operate_11 : pe_ckB (pe_GA []) pe_cl pe_ckA t_XK_operate (td_t_XK_operate 11).1 (td_t_XK_operate 11).2 = true := by decide +kernel
set_option maxRecDepth 40000 in
theorem ok_t_XK_operate_12 : pe_ckB (pe_GA []) pe_cl pe_ckA t_XK_operate (td_t_XK_operate 12).1 (td_t_XK_operate 12).2 = true := by decide +kernel
set_option maxRecDepth 40000 in
theorem ok_t_XK_operate_13 : pe_ckB (pe_GA []) pe_cl pe_ckA t_XK_operate (td_t_XK_operate 13).1 (td_t_XK_operate 13).2 = true := by decide +kernel
set_option maxRecDepth 40000 in
theorem ok_t_XK_operate_14 : pe_ckB (pe_GA []) pe_cl pe_ckA t_XK_operate (td_t_XK_operate 14).1 (td_t_XK_operate 14).2 = true := by decide +kernel
set_option maxRecDepth 40000 in
theorem ok_t_XK_operate_15 : pe_ckB (pe_GA []) pe_cl pe_ckA t_XK_operate (td_t_XK_operate 15).1 (td_t_XK_operate 15).2 = true := by decide +kernel
set_option maxRecDepth 40000 in
theorem ok_t_XK_operate_16 : pe_ckB (pe_GA []) pe_cl pe_ckA t_XK_operate (td_t_XK_operate 16).1 (td_t_XK_operate 16).2 = true := by decide +kernel
set_option maxRecDepth 40000 in
theorem ok_t_XK_operate_17 : pe_ckB (pe_GA []) pe_cl pe_ckA t_XK_operate (td_t_XK_operate 17).1 (td_t_XK_operate 17).2 = true := by decide +kernel
set_option maxRecDepth 40000 in
theorem ok_t_XK_operate_18 : pe_ckB (pe_GA []) pe_cl pe_ckA t_XK_operate (td_t_XK_operate 18).1 (td_t_XK_operate 18).2 = true := by decide +kernel
theorem ok_t_XK_operate_a : ∀ b ∈ t_XK_operate.bl, pe_ckB (pe_GA []) pe_cl pe_ckA t_XK_operate b.1 b.2 = true := by
  intro b hb
  obtain ⟨n, hn⟩ := List.getElem?_of_mem hb
  rw [← pe_at_eq] at hn
  match n, hn with
  | 0, hn =>
    have h2 : td_t_XK_operate 0 = b := by unfold td_t_XK_operate; rw [hn]; rfl
    rw [← h2]; exact ok_t_XK_operate_0
  | 1, hn =>
    have h2 : td_t_XK_operate 1 = b := by unfold td_t_XK_operate; rw [hn]; rfl
    rw [← h2]; exact ok_t_XK_operate_1
  | 2, hn =>
    have h2 : td_t_XK_operate 2 = b := by unfold td_t_XK_operate; rw [hn]; rfl
    rw [← h2]; exact ok_t_XK_operate_2
  | 3, hn =>
    have h2 : td_t_XK_operate 3 = b := by unfold td_t_XK_operate; rw [hn]; rfl
    rw [← h2]; exact ok_t_XK_operate_3
  | 4, hn =>
    have h2 : td_t_XK_operate 4 = b := by unfold td_t_XK_operate; rw [hn]; rfl
    rw [← h2]; exact ok_t_XK_operate_4
  | 5, hn =>
    have h2 : td_t_XK_operate 5 = b := by unfold td_t_XK_operate; rw [hn]; rfl
    rw [← h2]; exact ok_t_XK_operate_5
  | 6, hn =>
    have h2 : td_t_XK_operate 6 = b := by unfold td_t_XK_operate; rw [hn]; rfl
    rw [← h2]; exact ok_t_XK_operate_6
  | 7, hn =>
    have h2 : td_t_XK_operate 7 = b := by unfold td_t_XK_operate; rw [hn]; rfl
    rw [← h2]; exact ok_t_XK_operate_7
  | 8, hn =>
    have h2 : td_t_XK_operate 8 = b := by unfold td_t_XK_operate; rw [hn]; rfl
    rw [← h2]; exact ok_t_XK_operate_8
  | 9, hn =>
    have h2 : td_t_XK_operate 9 = b := by unfold td_t_XK_operate; rw [hn]; rfl
    rw [← h2]; exact ok_t_XK_operate_9
  | 10, hn =>
    have h2 : td_t_XK_operate 10 = b := by unfold td_t_XK_operate; rw [hn]; rfl
    rw [← h2]; exact ok_t_XK_operate_10
  | 11, hn =>
    have h2 : td_t_XK_operate 11 = b := by unfold td_t_XK_operate; rw [hn]; rfl
    rw [← h2]; exact ok_t_XK_operate_11
  | 12, hn =>
    have h2 : td_t_XK_operate 12 = b := by unfold td_t_XK_operate; rw [hn]; rfl
    rw [← h2]; exact ok_t_XK_operate_12
  | 13, hn =>
    have h2 : td_t_XK_operate 13 = b := by unfold td_t_XK_operate; rw [hn]; rfl
    rw [← h2]; exact ok_t_XK_operate_13
  | 14, hn =>
    have h2 : td_t_XK_operate 14 = b := by unfold td_t_XK_operate; rw [hn]; rfl
    rw [← h2]; exact ok_t_XK_operate_14
  | 15, hn =>
    have h2 : td_t_XK_operate 15 = b := by unfold td_t_XK_operate; rw [hn]; rfl
    rw [← h2]; exact ok_t_XK_operate_15
  | 16, hn =>
    have h2 : td_t_XK_operate 16 = b := by unfold td_t_XK_operate; rw [hn]; rfl
    rw [← h2]; exact ok_t_XK_operate_16
  | 17, hn =>
    have h2 : td_t_XK_operate 17 = b := by unfold td_t_XK_operate; rw [hn]; rfl
    rw [← h2]; exact ok_t_XK_operate_17
  | 18, hn =>
    have h2 : td_t_XK_operate 18 = b := by unfold td_t_XK_operate; rw [hn]; rfl
    rw [← h2]; exact ok_t_XK_operate_18
  | n + 19, hn =>
    rw [pe_at_eq] at hn
    exact absurd (List.getElem?_eq_some_iff.mp hn).1 (by show ¬ n + 19 < 19; omega)
theorem ok_t_XK_operate : pe_okM (pe_GA []) pe_cl pe_ckA t_XK_operate = true := pe_okM_mk (pe_w_of (by rfl) (by rfl)) (by decide +kernel) ok_t_XK_operate_a
def td_t_XK_callBuiltin (k : Nat) : Nat × List pe_I := (pe_at t_XK_callBuiltin.bl k).getD (0, [])
set_option maxRecDepth 40000 in
theorem ok_t_XK_callBuiltin_0 : pe_ckB (pe_GA []) pe_cl pe_ckA t_XK_callBuiltin (td_t_XK_callBuiltin 0).1 (td_t_XK_callBuiltin 0).2 = true := by decide +kernel
set_option maxRecDepth 40000 in
theorem ok_t_XK_callBuiltin_1 : pe_ckB (pe_GA []) pe_cl pe_ckA t_XK_callBuiltin (td_t_XK_callBuiltin 1).1 (td_t_XK_callBuiltin 1).2 = true := by decide +kernel
set_option maxRecDepth 40000 in
theorem ok_t_XK_callBuiltin_2 : pe_ckB (pe_GA []) pe_cl pe_ckA t_XK_callBuiltin (td_t_XK_callBuiltin 2).1 (td_t_XK_callBuiltin 2).2 = true := by decide +kernel
set_option maxRecDepth 40000 in
theorem ok_t_XK_callBuiltin_3 : pe_ckB (pe_GA []) pe_cl pe_ckA t_XK_callBuiltin (td_t_XK_callBuiltin 3).1 (td_t_XK_callBuiltin 3).2 = true := by decide +kernel
set_option maxRecDepth 40000 in
theorem ok_t_XK_callBuiltin_4 : pe_ckB (pe_GA []) pe_cl pe_ckA t_XK_callBuiltin (td_t_XK_callBuiltin 4).1 (td_t_XK_callBuiltin 4).2 = true := by decide +kernel
set_option maxRecDepth 40000 in
theorem ok_t_XK_callBuiltin_5 : pe_ckB (pe_GA []) pe_cl pe_ckA t_XK_callBuiltin (td_t_XK_callBuiltin 5).1 (td_t_XK_callBuiltin 5).2 = true := by decide +kernel
set_option maxRecDepth 40000 in
theorem ok_t_XK_callBuiltin_6 : pe_ckB (pe_GA []) pe_cl pe_ckA t_XK_callBuiltin (td_t_XK_callBuiltin 6).1 (td_t_XK_callBuiltin 6).2 = true := by decide +kernel
set_option maxRecDepth 40000 in
theorem ok_t_XK_callBuiltin_7 : pe_ckB (pe_GA []) pe_cl pe_ckA t_XK_callBuiltin (td_t_XK_callBuiltin 7).1 (td_t_XK_callBuiltin 7).2 = true := by decide +kernel
set_option maxRecDepth 40000 in
theorem ok_t_XK_callBuiltin_8 : pe_ckB (pe_GA []) pe_cl pe_ckA t_XK_callBuiltin (td_t_XK_callBuiltin 8).1 (td_t_XK_callBuiltin 8).2 = true := by decide +kernel
set_option maxRecDepth 40000 in
theorem ok_t_XK_callBuiltin_9 : pe_ckB (pe_GA []) pe_cl pe_ckA t_XK_callBuiltin (td_t_XK_callBuiltin 9).1 (td_t_XK_callBuiltin 9).2 = true := by decide +kernel
set_option maxRecDepth 40000 in
theorem ok_t_XK_callBuiltin_10 : pe_ckB (pe_GA []) pe_cl pe_ckA t_XK_callBuiltin (td_t_XK_callBuiltin 10).1 (td_t_XK_callBuiltin 10).2 = true := by decide +kernel
set_option maxRecDepth 40000 in
theorem ok_t_XK_callBuiltin_11 : pe_ckB (pe_GA []) pe_cl pe_ckA t_XK_callBuiltin (td_t_XK_callBuiltin 11).1 (td_t_XK_callBuiltin 11).2 = true := by decide +kernel
set_option maxRecDepth 40000 in
theorem ok_t_XK_callBuiltin_12 : pe_ckB (pe_GA []) pe_cl pe_ckA t_XK_callBuiltin (td_t_XK_callBuiltin 12).1 (td_t_XK_callBuiltin 12).2 = true := by decide +kernel
set_option maxRecDepth 40000 in
theorem ok_t_XK_callBuiltin_13 : pe_ckB (pe_GA []) pe_cl pe_ckA t_XK_callBuiltin (td_t_XK_callBuiltin 13).1 (td_t_XK_callBuiltin 13).2 = true := by decide +kernel
set_option maxRecDepth 40000 in
theorem ok_t_XK_callBuiltin_14 : pe_ckB (pe_GA []) pe_cl pe_ckA t_XK_callBuiltin (td_t_XK_callBuiltin 14).1 (td_t_XK_callBuiltin 14).2 = true := by decide +kernel
set_option maxRecDepth 40000 in
theorem ok_t_XK_callBuiltin_15 : pe_ckB (pe_GA []) pe_cl pe_ckA t_XK_callBuiltin (td_t_XK_callBuiltin 15).1 (td_t_XK_callBuiltin 15).2 = true := by decide +kernel
theorem ok_t_XK_callBuiltin_a : ∀ b ∈ t_XK_callBuiltin.bl, pe_ckB (pe_GA []) pe_cl pe_ckA t_XK_callBuiltin b.1 b.2 = true := by
  intro b hb
  obtain ⟨n, hn⟩ := List.getElem?_of_mem hb
  rw [← pe_at_eq] at hn
  match n, hn with
  | 0, hn =>
    have h2 : td_t_XK_callBuiltin 0 = b := by unfold td_t_XK_callBuiltin; rw [hn]; rfl
    rw [← h2]; exact ok_t_XK_callBuiltin_0
  | 1, hn =>
    have h2 : td_t_XK_callBuiltin 1 = b := by unfold td_t_XK_callBuiltin; rw [hn]; rfl
    rw [← h2]; exact ok_t_XK_callBuiltin_1
  | 2, hn =>
    have h2 : td_t_XK_callBuiltin 2 = b := by unfold td_t_XK_callBuiltin; rw [hn]; rfl
    rw [← h2]; exact ok_t_XK_callBuiltin_2
  | 3, hn =>
    have h2 : td_t_XK_callBuiltin 3 = b := by unfold td_t_XK_callBuiltin; rw [hn]; rfl
    rw [← h2]; exact ok_t_XK_callBuiltin_3
  | 4, hn =>
    have h2 : td_t_XK_callBuiltin 4 = b := by unfold td_t_XK_callBuiltin; rw [hn]; rfl
    rw [← h2]; exact ok_t_XK_callBuiltin_4
  | 5, hn =>
    have h2 : td_t_XK_callBuiltin 5 = b := by unfold td_t_XK_callBuiltin; rw [hn]; rfl
    rw [← h2]; exact ok_t_XK_callBuiltin_5
  | 6, hn =>
    have h2 : td_t_XK_callBuiltin 6 = b := by unfold td_t_XK_callBuiltin; rw [hn]; rfl
    rw [← h2]; exact ok_t_XK_callBuiltin_6
  | 7, hn =>
    have h2 : td_t_XK_callBuiltin 7 = b := by unfold td_t_XK_callBuiltin; rw [hn]; rfl
    rw [← h2]; exact ok_t_XK_callBuiltin_7
  | 8, hn =>
    have h2 : td_t_XK_callBuiltin 8 = b := by unfold td_t_XK_callBuiltin; rw [hn]; rfl
    rw [← h2]; exact ok_t_XK_callBuiltin_8
  | 9, hn =>
    have h2 : td_t_XK_callBuiltin 9 = b := by unfold td_t_XK_callBuiltin; rw [hn]; rfl
    rw [← h2]; exact ok_t_XK_callBuiltin_9
  | 10, hn =>
    have h2 : td_t_XK_callBuiltin 10 = b := by unfold td_t_XK_callBuiltin; rw [hn]; rfl
    rw [← h2]; exact ok_t_XK_callBuiltin_10
  | 11, hn =>
    have h2 : td_t_XK_callBuiltin 11 = b := by unfold td_t_XK_callBuiltin; rw [hn]; rfl
    rw [← h2]; exact ok_t_XK_callBuiltin_11
  | 12, hn =>
    have h2 : td_t_XK_callBuiltin 12 = b := by unfold td_t_XK_callBuiltin; rw [hn]; rfl
    rw [← h2]; exact ok_t_XK_callBuiltin_12
  | 13, hn =>
    have h2 : td_t_XK_callBuiltin 13 = b := by unfold td_t_XK_callBuiltin; rw [hn]; rfl
    rw [← h2]; exact ok_t_XK_callBuiltin_13
  | 14, hn =>
    have h2 : td_t_XK_callBuiltin 14 = b := by unfold td_t_XK_callBuiltin; rw [hn]; rfl
    rw [← h2]; exact ok_t_XK_callBuiltin_14
  | 15, hn =>
    have h2 : td_t_XK_callBuiltin 15 = b := by unfold td_t_XK_callBuiltin; rw [hn]; rfl
    rw [← h2]; exact ok_t_XK_callBuiltin_15
  | n + 16, hn =>
    rw [pe_at_eq] at hn
    exact absurd (List.getElem?_eq_some_iff.mp hn).1 (by show ¬ n + 16 < 16; omega)
theorem ok_t_XK_callBuiltin : pe_okM (pe_GA []) pe_cl pe_ckA t_XK_callBuiltin = true := pe_okM_mk (pe_w_of (by rfl) (by rfl)) (by decide +kernel) ok_t_XK_callBuiltin_a
def td_t_XK_perform (k : Nat) : Nat × List pe_I := (pe_at t_XK_perform.bl k).getD (0, [])
set_option maxRecDepth 40000 in
theorem ok_t_XK_perform_0 : pe_ckB (pe_GA []) pe_cl pe_ckA t_XK_perform (td_t_XK_perform 0).1 (td_t_XK_perform 0).2 = true := by decide +kernel
set_option maxRecDepth 40000 in
theorem ok_t_XK_perform_1 : pe_ckB (pe_GA []) pe_cl pe_ckA t_XK_perform (td_t_XK_perform 1).1 (td_t_XK_perform 1).2 = true := by decide +kernel
set_option maxRecDepth 40000 in
theorem ok_t_XK_perform_2 : pe_ckB (pe_GA []) pe_cl pe_ckA t_XK_perform (td_t_XK_perform 2).1 (td_t_XK_perform 2).2 = true := by decide +kernel
set_option maxRecDepth 40000 in
theorem ok_t_XK_perform_3 : pe_ckB (pe_GA []) pe_cl pe_ckA t_XK_perform (td_t_XK_perform 3).1 (td_t_XK_perform 3).2 = true := by decide +kernel
set_option maxRecDepth 40000 in
theorem ok_t_XK_perform_4 : pe_ckB (pe_GA []) pe_cl pe_ckA t_XK_perform (td_t_XK_perform 4).1 (td_t_XK_perform 4).2 = true := by decide +kernel
set_option maxRecDepth 40000 in
theorem ok_t_XK_perform_5 : pe_ckB (pe_GA []) pe_cl pe_ckA t_XK_perform (td_t_XK_perform 5).1 (td_t_XK_perform 5).2 = true := by decide +kernel
set_option maxRecDepth 40000 in
theorem ok_t_XK_perform_6 : pe_ckB (pe_GA []) pe_cl pe_ckA t_XK_perform (td_t_XK_perform 6).1 (td_t_XK_perform 6).2 = true := by decide +kernel
set_option maxRecDepth 40000 in
theorem ok_t_XK_perform_7 : pe_ckB (pe_GA []) pe_cl pe_ckA t_XK_perform (td_t_XK_perform 7).1 (td_t_XK_perform 7).2 = true := by decide +kernel
set_option maxRecDepth 40000 in
theorem ok_t_XK_perform_8 : pe_ckB (pe_GA []) pe_cl pe_ckA t_XK_perform (td_t_XK_perform 8).1 (td_t_XK_perform 8).2 = true := by decide +kernel
set_option maxRecDepth 40000 in
theorem ok_t_XK_perform_9 : pe_ckB (pe_GA []) pe_cl pe_ckA t_XK_perform (td_t_XK_perform 9).1 (td_t_XK_perform 9).2 = true := by decide +kernel
set_option maxRecDepth 40000 in
theorem ok_t_XK_perform_10 : pe_ckB (pe_GA []) pe_cl pe_ckA t_XK_perform (td_t_XK_perform 10).1 (td_t_XK_perform 10).2 = true := by decide +kernel
set_option maxRecDepth 40000 in
theorem ok_t_XK_perform_11 : pe_ckB (pe_GA []) pe_cl pe_ckA t_XK_perform (td_t_XK_perform 11).1 (td_t_XK_perform 11).2 = true := by decide +kernel
set_option maxRecDepth 40000 in
theorem ok_t_XK_perform_12 : pe_ckB (pe_GA []) pe_cl pe_ckA t_XK_perform (td_t_XK_perform 12).1 (td_t_XK_perform 12).2 = true := by decide +kernel
set_option maxRecDepth 40000 in
theorem ok_t_XK_perform_13 : pe_ckB (pe_GA []) pe_cl pe_ckA t_XK_perform (td_t_XK_perform 13).1 (td_t_XK_perform 13).2 = true := by decide +kernel
theorem ok_t_XK_perform_a : ∀ b ∈ t_XK_perform.bl, pe_ckB (pe_GA []) pe_cl pe_ckA t_XK_perform b.1 b.2 = true := by
  intro b hb
  obtain ⟨n, hn⟩ := List.getElem?_of_mem hb
  rw [← pe_at_eq] at hn
  match n, hn with
  | 0, hn =>
    have h2 : td_t_XK_perform 0 = b := by unfold td_t_XK_perform; rw [hn]; rfl
    rw [← h2]; exact ok_t_XK_perform_0
  | 1, hn =>
    have h2 : td_t_XK_perform 1 = b := by unfold td_t_XK_perform; rw [hn]; rfl
    rw [← h2]; exact ok_t_XK_perform_1
  | 2, hn =>
    have h2 : td_t_XK_perform 2 = b := by unfold td_t_XK_perform; rw [hn]; rfl
    rw [← h2]; exact ok_t_XK_perform_2
  | 3, hn =>
    have h2 : td_t_XK_perform 3 = b := by unfold td_t_XK_perform; rw [hn]; rfl
    rw [← h2]; exact ok_t_XK_perform_3
  | 4, hn =>
    have h2 : td_t_XK_perform 4 = b := by unfold td_t_XK_perform; rw [hn]; rfl
    rw [← h2]; exact ok_t_XK_perform_4
  | 5, hn =>
    have h2 : td_t_XK_perform 5 = b := by unfold td_t_XK_perform; rw [hn]; rfl
    rw [← h2]; exact ok_t_XK_perform_5
  | 6, hn =>
    have h2 : td_t_XK_perform 6 = b := by unfold td_t_XK_perform; rw [hn]; rfl
    rw [← h2]; exact ok_t_XK_perform_6
  | 7, hn =>
    have h2 : td_t_XK_perform 7 = b := by unfold td_t_XK_perform; rw [hn]; rfl
    rw [← h2]; exact ok_t_XK_perform_7
  | 8, hn =>
    have h2 : td_t_XK_perform 8 = b := by unfold td_t_XK_perform; rw [hn]; rfl
    rw [← h2]; exact ok_t_XK_perform_8
  | 9, hn =>
    have h2 : td_t_XK_perform 9 = b := by unfold td_t_XK_perform; rw [hn]; rfl
    rw [← h2]; exact ok_t_XK_perform_9
  | 10, hn =>
    have h2 : td_t_XK_perform 10 = b := by unfold td_t_XK_perform; rw [hn]; rfl
    rw [← h2]; exact ok_t_XK_perform_10
  | 11, hn =>
    have h2 : td_t_XK_perform 11 = b := by unfold td_t_XK_perform; rw [hn]; rfl
    rw [← h2]; exact ok_t_XK_perform_11
  | 12, hn =>
    have h2 : td_t_XK_perform 12 = b := by unfold td_t_XK_perform; rw [hn]; rfl
    rw [← h2]; exact ok_t_XK_perform_12
  | 13, hn =>
    have h2 : td_t_XK_perform 13 = b := by unfold td_t_XK_perform; rw [hn]; rfl
    rw [← h2]; exact ok_t_XK_perform_13
  | n + 14, hn =>
    rw [pe_at_eq] at hn
    exact absurd (List.getElem?_eq_some_iff.mp hn).1 (by show ¬ n + 14 < 14; omega)
theorem ok_t_XK_perform : pe_okM (pe_GA []) pe_cl pe_ckA t_XK_perform = true := pe_okM_mk (pe_w_of (by rfl) (by rfl)) (by decide +kernel) ok_t_XK_perform_a
set_option maxRecDepth 40000 in
theorem ok_t_XK_raise : pe_okM (pe_GA []) pe_cl pe_ckA t_XK_raise = true := by decide +kernel
set_option maxRecDepth 40000 in
theorem ok_t_M_h : pe_okM (pe_GA []) pe_cl pe_ckA t_M_h = true := by decide +kernel
def td_t_M_namesElement (k : Nat) : Nat × List pe_I := (pe_at t_M_namesElement.bl k).getD (0, [])
set_option maxRecDepth 40000 in
theorem ok_t_M_namesElement_0 : pe_ckB (pe_GA []) pe_cl pe_ckA t_M_namesElement (td_t_M_namesElement 0).1 (td_t_M_namesElement 0).2 = true := by decide +kernel
set_option maxRecDepth 40000 in
theorem ok_t_M_namesElement_1 : pe_ckB (pe_GA []) pe_cl pe_ckA t_M_namesElement (td_t_M_namesElement 1).1 (td_t_M_namesElement 1).2 = true := by decide +kernel
set_option maxRecDepth 40000 in
theorem ok_t_M_namesElement_2 : pe_ckB (pe_GA []) pe_cl pe_ckA t_M_namesElement (td_t_M_namesElement 2).1 (td_t_M_namesElement 2).2 = true := by decide +kernel
set_option maxRecDepth 40000 in
theorem ok_t_M_namesElement_3 : pe_ckB (pe_GA []) pe_cl pe_ckA t_M_namesElement (td_t_M_namesElement 3).1 (td_t_M_namesElement 3).2 = true := by decide +kernel
set_option maxRecDepth 40000 in
theorem ok_t_M_namesElement_4 : pe_ckB (pe_GA []) pe_cl pe_ckA t_M_namesElement (td_t_M_namesElement 4).1 (td_t_M_namesElement 4).2 = true := by decide +kernel
set_option maxRecDepth 40000 in
theorem ok_t_M_namesElement_5 : pe_ckB (pe_GA []) pe_cl pe_ckA t_M_namesElement (td_t_M_namesElement 5).1 (td_t_M_namesElement 5).2 = true := by decide +kernel
theorem ok_t_M_namesElement_a : ∀ b ∈ t_M_namesElement.bl, pe_ckB (pe_GA []) pe_cl pe_ckA t_M_namesElement b.1 b.2 = true := by
  intro b hb
  obtain ⟨n, hn⟩ := List.getElem?_of_mem hb
  rw [← pe_at_eq] at hn
  match n, hn with
  | 0, hn =>
    have h2 : td_t_M_namesElement 0 = b := by unfold td_t_M_namesElement; rw [hn]; rfl
    rw [← h2]; exact ok_t_M_namesElement_0
  | 1, hn =>
    have h2 : td_t_M_namesElement 1 = b := by unfold td_t_M_namesElement; rw [hn]; rfl
    rw [← h2]; exact ok_t_M_namesElement_1
  | 2, hn =>
    have h2 : td_t_M_namesElement 2 = b := by unfold td_t_M_namesElement; rw [hn]; rfl
    rw [← h2]; exact ok_t_M_namesElement_2
  | 3, hn =>
    have h2 : td_t_M_namesElement 3 = b := by unfold td_t_M_namesElement; rw [hn]; rfl
    rw [← h2]; exact ok_t_M_namesElement_3
  | 4, hn =>
    have h2 : td_t_M_namesElement 4 = b := by unfold td_t_M_namesElement; rw [hn]; rfl
    rw [← h2]; exact ok_t_M_namesElement_4
  | 5, hn =>
    have h2 : td_t_M_namesElement 5 = b := by unfold td_t_M_namesElement; rw [hn]; rfl
    rw [← h2]; exact ok_t_M_namesElement_5
  | n + 6, hn =>
    rw [pe_at_eq] at hn
    exact absurd (List.getElem?_eq_some_iff.mp hn).1 (by show ¬ n + 6 < 6; omega)
theorem ok_t_M_namesElement : pe_okM (pe_GA []) pe_cl pe_ckA t_M_namesElement = true := pe_okM_mk (pe_w_of (by rfl) (by rfl)) (by decide +kernel) ok_t_M_namesElement_a
set_option maxRecDepth 40000 in
theorem ok_t_M_copies : pe_okM (pe_GA []) pe_cl pe_ckA t_M_copies = true := by decide +kernel
def td_t_M_guards (k : Nat) : Nat × List pe_I := (pe_at t_M_guards.bl k).getD (0, [])
set_option maxRecDepth 40000 in
theorem ok_t_M_guards_0 : pe_ckB (pe_GA []) pe_cl pe_ckA t_M_guards (td_t_M_guards 0).1 (td_t_M_guards 0).2 = true := by decide +kernel
set_option maxRecDepth 40000 in
theorem ok_t_M_guards_1 : pe_ckB (pe_GA []) pe_cl pe_ckA t_M_guards (td_t_M_guards 1).1 (td_t_M_guards 1).2 = true := by decide +kernel
set_option maxRecDepth 40000 in
theorem ok_t_M_guards_2 : pe_ckB (pe_GA []) pe_cl pe_ckA t_M_guards (td_t_M_guards 2).1 (td_t_M_guards 2).2 = true := by decide +kernel
set_option maxRecDepth 40000 in
theorem ok_t_M_guards_3 : pe_ckB (pe_GA []) pe_cl pe_ckA t_M_guards (td_t_M_guards 3).1 (td_t_M_guards 3).2 = true := by decide +kernel
set_option maxRecDepth 40000 in
theorem ok_t_M_guards_4 : pe_ckB (pe_GA []) pe_cl pe_ckA t_M_guards (td_t_M_guards 4).1 (td_t_M_guards 4).2 = true := by decide +kernel
set_option maxRecDepth 40000 in
theorem ok_t_M_guards_5 : pe_ckB (pe_GA []) pe_cl pe_ckA t_M_guards (td_t_M_guards 5).1 (td_t_M_guards 5).2 = true := by decide +kernel
set_option maxRecDepth 40000 in
theorem ok_t_M_guards_6 : pe_ckB (pe_GA []) pe_cl pe_ckA t_M_guards (td_t_M_guards 6).1 (td_t_M_guards 6).2 = true := by decide +kernel
set_option maxRecDepth 40000 in
theorem ok_t_M_guards_7 : pe_ckB (pe_GA []) pe_cl pe_ckA t_M_guards (td_t_M_guards 7).1 (td_t_M_guards 7).2 = true := by decide +kernel
set_option maxRecDepth 40000 in
theorem ok_t_M_guards_8 : pe_ckB (pe_GA []) pe_cl pe_ckA t_M_guards (td_t_M_guards 8).1 (td_t_M_guards 8).2 = true := by decide +kernel
set_option maxRecDepth 40000 in
theorem ok_t_M_guards_9 : pe_ckB (pe_GA []) pe_cl pe_ckA t_M_guards (td_t_M_guards 9).1 (td_t_M_guards 9).2 = true := by decide +kernel
set_option maxRecDepth 40000 in
theorem ok_t_M_guards_10 : pe_ckB (pe_GA []) pe_cl pe_ckA t_M_guards (td_t_M_guards 10).1 (td_t_M_guards 10).2 = true := by decide +kernel
set_option maxRecDepth 40000 in
theorem ok_t_M_guards_11 : pe_ckB (pe_GA []) pe_cl pe_ckA t_M_guards (td_t_M_guards 11).1 (td_t_M_guards 11).2 = true := by decide +kernel
set_option maxRecDepth 40000 in
theorem ok_t_M_guards_12 : pe_ckB (pe_GA []) pe_cl pe_ckA t_M_guards (td_t_M_guards 12).1 (td_t_M_guards 12).2 = true := by decide +kernel
set_option maxRecDepth 40000 in
theorem ok_t_M_guards_13 : pe_ckB (pe_GA []) pe_cl pe_ckA t_M_guards (td_t_M_guards 13).1 (td_t_M_guards 13).2 = true := by decide +kernel
set_option maxRecDepth 40000 in
theorem ok_t_M_guards_14 : pe_ckB (pe_GA []) pe_cl pe_ckA t_M_guards (td_t_M_guards 14).1 (td_t_M_guards 14).2 = true := by decide +kernel
set_option maxRecDepth 40000 in
theorem ok_t_M_guards_15 : pe_ckB (pe_GA []) pe_cl pe_ckA t_M_guards (td_t_M_guards 15).1 (td_t_M_guards 15).2 = true := by decide +kernel
set_option maxRecDepth 40000 in
theorem ok_t_M_guards_16 : pe_ckB (pe_GA []) pe_cl pe_ckA t_M_guards (td_t_M_guards 16).1 (td_t_M_guards 16).2 = true := by decide +kernel
set_option maxRecDepth 40000 in
theorem ok_t_M_guards_17 : pe_ckB (pe_GA []) pe_cl pe_ckA t_M_guards (td_t_M_guards 17).1 (td_t_M_guards 17).2 = true := by decide +kernel
set_option maxRecDepth 40000 in
theorem ok_t_M_guards_18 : pe_ckB (pe_GA []) pe_cl pe_ckA t_M_guards (td_t_M_guards 18).1 (td_t_M_guards 18).2 = true := by decide +kernel
set_option maxRecDepth 40000 in
theorem ok_t_M_guards_19 : pe_ckB (pe_GA []) pe_cl pe_ckA t_M_guards (td_t_M_guards 19).1 (td_t_M_guards 19).2 = true := by decide +kernel
set_option maxRecDepth 40000 in
theorem ok_t_M_guards_20 : pe_ckB (pe_GA []) pe_cl pe_ckA t_M_guards (td_t_M_guards 20).1 (td_t_M_guards 20).2 = true := by decide +kernel
set_option maxRecDepth 40000 in
theorem ok_t_M_guards_21 : pe_ckB (pe_GA []) pe_cl pe_ckA t_M_guards (td_t_M_guards 21).1 (td_t_M_guards 21).2 = true := by decide +kernel
set_option maxRecDepth 40000 in
theorem ok_t_M_guards_22 : pe_ckB (pe_GA []) pe_cl pe_ckA t_M_guards (td_t_M_guards 22).1 (td_t_M_guards 22).2 = true := by decide +kernel
set_option maxRecDepth 40000 in
theorem ok_t_M_guards_23 : pe_ckB (pe_GA []) pe_cl pe_ckA t_M_guards (td_t_M_guards 23).1 (td_t_M_guards 23).2 = true := by decide +kernel
set_option maxRecDepth 40000 in
theorem ok_t_M_guards_24 : pe_ckB (pe_GA []) pe_cl pe_ckA t_M_guards (td_t_M_guards 24).1 (td_t_M_guards 24).2 = true := by decide +kernel
theorem ok_t_M_guards_a : ∀ b ∈ t_M_guards.bl, pe_ckB (pe_GA []) pe_cl pe_ckA t_M_guards b.1 b.2 = true := by
  intro b hb
  obtain ⟨n, hn⟩ := List.getElem?_of_mem hb
  rw [← pe_at_eq] at hn
  match n, hn with
  | 0, hn =>
    have h2 : td_t_M_guards 0 = b := by unfold td_t_M_guards; rw [hn]; rfl
    rw [← h2]; exact ok_t_M_guards_0
  | 1, hn =>
    have h2 : td_t_M_guards 1 = b := by unfold td_t_M_guards; rw [hn]; rfl
    rw [← h2]; exact ok_t_M_guards_1
  | 2, hn =>
    have h2 : td_t_M_guards 2 = b := by unfold td_t_M_guards; rw [hn]; rfl
    rw [← h2]; exact ok_t_M_guards_2
  | 3, hn =>
    have h2 : td_t_M_guards 3 = b := by unfold td_t_M_guards; rw [hn]; rfl
    rw [← h2]; exact ok_t_M_guards_3
  | 4, hn =>
    have h2 : td_t_M_guards 4 = b := by unfold td_t_M_guards; rw [hn]; rfl
    rw [← h2]; exact ok_t_M_guards_4
  | 5, hn =>
    have h2 : td_t_M_guards 5 = b := by unfold td_t_M_guards; rw [hn]; rfl
    rw [← h2]; exact ok_t_M_guards_5
  | 6, hn =>
    have h2 : td_t_M_guards 6 = b := by unfold td_t_M_guards; rw [hn]; rfl
    rw [← h2]; exact ok_t_M_guards_6
  | 7, hn =>
    have h2 : td_t_M_guards 7 = b := by unfold td_t_M_guards; rw [hn]; rfl
    rw [← h2]; exact ok_t_M_guards_7
  | 8, hn =>
    have h2 : td_t_M_guards 8 = b := by unfold td_t_M_guards; rw [hn]; rfl
    rw [← h2]; exact ok_t_M_guards_8
  | 9, hn =>
    have h2 : td_t_M_guards 9 = b := by unfold td_t_M_guards; rw [hn]; rfl
    rw [← h2]; exact ok_t_M_guards_9
  | 10, hn =>
    have h2 : td_t_M_guards 10 = b := by unfold td_t_M_guards; rw [hn]; rfl
    rw [← h2]; exact ok_t_M_guards_10
  | 11, hn =>
    have h2 : td_t_M_guards 11 = b := by unfold td_t_M_guards; rw [hn]; rfl
    rw [← h2]; exact ok_t_M_guards_11
  | 12, hn =>
    have h2 : td_t_M_guards 12 = b := by unfold td_t_M_guards; rw [hn]; rfl
    rw [← h2]; exact ok_t_M_guards_12
  | 13, hn =>
    have h2 : td_t_M_guards 13 = b := by unfold td_t_M_guards; rw [hn]; rfl
    rw [← h2]; exact ok_t_M_guards_13
  | 14, hn =>
    have h2 : td_t_M_guards 14 = b := by unfold td_t_M_guards; rw [hn]; rfl
    rw [← h2]; exact ok_t_M_guards_14
  | 15, hn =>
    have h2 : td_t_M_guards 15 = b := by unfold td_t_M_guards; rw [hn]; rfl
    rw [← h2]; exact ok_t_M_guards_15
  | 16, hn =>
    have h2 : td_t_M_guards 16 = b := by unfold td_t_M_guards; rw [hn]; rfl
    rw [← h2]; exact ok_t_M_guards_16
  | 17, hn =>
    have h2 : td_t_M_guards 17 = b := by unfold td_t_M_guards; rw [hn]; rfl
    rw [← h2]; exact ok_t_M_guards_17
  | 18, hn =>
    have h2 : td_t_M_guards 18 = b := by unfold td_t_M_guards; rw [hn]; rfl
    rw [← h2]; exact ok_t_M_guards_18
  | 19, hn =>
    have h2 : td_t_M_guards 19 = b := by unfold td_t_M_guards; rw [hn]; rfl
    rw [← h2]; exact ok_t_M_guards_19
  | 20, hn =>
    have h2 : td_t_M_guards 20 = b := by unfold td_t_M_guards; rw [hn]; rfl
    rw [← h2]; exact ok_t_M_guards_20
  | 21, hn =>
    have h2 : td_t_M_guards 21 = b := by unfold td_t_M_guards; rw [hn]; rfl
    rw [← h2]; exact ok_t_M_guards_21
  | 22, hn =>
    have h2 : td_t_M_guards 22 = b := by unfold td_t_M_guards; rw [hn]; rfl
    rw [← h2]; exact ok_t_M_guards_22
  | 23, hn =>
    have h2 : td_t_M_guards 23 = b := by unfold td_t_M_guards; rw [hn]; rfl
    rw [← h2]; exact ok_t_M_guards_23
  | 24, hn =>
    have h2 : td_t_M_guards 24 = b := by unfold td_t_M_guards; rw [hn]; rfl
    rw [← h2]; exact ok_t_M_guards_24
  | n + 25, hn =>
    rw [pe_at_eq] at hn
    exact absurd (List.getElem?_eq_some_iff.mp hn).1 (by show ¬ n + 25 < 25; omega)
theorem ok_t_M_guards : pe_okM (pe_GA []) pe_cl pe_ckA t_M_guards = true := pe_okM_mk (pe_w_of (by rfl) (by rfl)) (by decide +kernel) ok_t_M_guards_a
def td_t_M_hits (k : Nat) : Nat × List pe_I := (pe_at t_M_hits.bl k).getD (0, [])
set_option maxRecDepth 40000 in
theorem ok_t_M_hits_0 : pe_ckB (pe_GA []) pe_cl pe_ckA t_M_hits (td_t_M_hits 0).1 (td_t_M_hits 0).2 = true := by decide +kernel
set_option maxRecDepth 40000 in
theorem ok_t_M_hits_1 : pe_ckB (pe_GA []) pe_cl pe_ckA t_M_hits (td_t_M_hits 1).1 (td_t_M_hits 1).2 = true := by decide +kernel
set_option maxRecDepth 40000 in
theorem ok_t_M_hits_2 : pe_ckB (pe_GA []) pe_cl pe_ckA t_M_hits (td_t_M_hits 2).1 (td_t_M_hits 2).2 = true := by decide +kernel
set_option maxRecDepth 40000 in
theorem ok_t_M_hits_3 : pe_ckB (pe_GA []) pe_cl pe_ckA t_M_hits (td_t_M_hits 3).1 (td_t_M_hits 3).2 = true := by decide +kernel
set_option maxRecDepth 40000 in
theorem ok_t_M_hits_4 : pe_ckB (pe_GA []) pe_cl pe_ckA t_M_hits (td_t_M_hits 4).1 (td_t_M_hits 4).2 = true := by decide +kernel
set_option maxRecDepth 40000 in
theorem ok_t_M_hits_5 : pe_ckB (pe_GA []) pe_cl pe_ckA t_M_hits (td_t_M_hits 5).1 (td_t_M_hits 5).2 = true := by decide +kernel
set_option maxRecDepth 40000 in
theorem ok_t_M_hits_6 : pe_ckB (pe_GA []) pe_cl pe_ckA t_M_hits (td_t_M_hits 6).1 (td_t_M_hits 6).2 = true := by decide +kernel
theorem ok_t_M_hits_a : ∀ b ∈ t_M_hits.bl, pe_ckB (pe_GA []) pe_cl pe_ckA t_M_hits b.1 b.2 = true := by
  intro b hb
  obtain ⟨n, hn⟩ := List.getElem?_of_mem hb
  rw [← pe_at_eq] at hn
  match n, hn with
  | 0, hn =>
    have h2 : td_t_M_hits 0 = b := by unfold td_t_M_hits; rw [hn]; rfl
    rw [← h2]; exact ok_t_M_hits_0
  | 1, hn =>
    have h2 : td_t_M_hits 1 = b := by unfold td_t_M_hits; rw [hn]; rfl
    rw [← h2]; exact ok_t_M_hits_1
  | 2, hn =>
    have h2 : td_t_M_hits 2 = b := by unfold td_t_M_hits; rw [hn]; rfl
    rw [← h2]; exact ok_t_M_hits_2
  | 3, hn =>
    have h2 : td_t_M_hits 3 = b := by unfold td_t_M_hits; rw [hn]; rfl
    rw [← h2]; exact ok_t_M_hits_3
  | 4, hn =>
    have h2 : td_t_M_hits 4 = b := by unfold td_t_M_hits; rw [hn]; rfl
    rw [← h2]; exact ok_t_M_hits_4
  | 5, hn =>
    have h2 : td_t_M_hits 5 = b := by unfold td_t_M_hits; rw [hn]; rfl
    rw [← h2]; exact ok_t_M_hits_5
  | 6, hn =>
    have h2 : td_t_M_hits 6 = b := by unfold td_t_M_hits; rw [hn]; rfl
    rw [← h2]; exact ok_t_M_hits_6
  | n + 7, hn =>
    rw [pe_at_eq] at hn
    exact absurd (List.getElem?_eq_some_iff.mp hn).1 (by show ¬ n + 7 < 7; omega)
theorem ok_t_M_hits : pe_okM (pe_GA []) pe_cl pe_ckA t_M_hits = true := pe_okM_mk (pe_w_of (by rfl) (by rfl)) (by decide +kernel) ok_t_M_hits_a
def td_t_M_looks (k : Nat) : Nat × List pe_I := (pe_at t_M_looks.bl k).getD (0, [])
set_option maxRecDepth 40000 in
theorem ok_t_M_looks_0 : pe_ckB (pe_GA []) pe_cl pe_ckA t_M_looks (td_t_M_looks 0).1 (td_t_M_looks 0).2 = true := by decide +kernel
set_option maxRecDepth 40000 in
theorem ok_t_M_looks_1 : pe_ckB (pe_GA []) pe_cl pe_ckA t_M_looks (td_t_M_looks 1).1 (td_t_M_looks 1).2 = true := by decide +kernel
set_option maxRecDepth 40000 in
theorem ok_t_M_looks_2 : pe_ckB (pe_GA []) pe_cl pe_ckA t_M_looks (td_t_M_looks 2).1 (td_t_M_looks 2).2 = true := by decide +kernel
set_option maxRecDepth 40000 in
theorem ok_t_M_looks_3 : pe_ckB (pe_GA []) pe_cl pe_ckA t_M_looks (td_t_M_looks 3).1 (td_t_M_looks 3).2 = true := by decide +kernel
set_option maxRecDepth 40000 in
theorem ok_t_M_looks_4 : pe_ckB (pe_GA []) pe_cl pe_ckA t_M_looks (td_t_M_looks 4).1 (td_t_M_looks 4).2 = true := by decide +kernel
set_option maxRecDepth 40000 in
theorem ok_t_M_looks_5 : pe_ckB (pe_GA []) pe_cl pe_ckA t_M_looks (td_t_M_looks 5).1 (td_t_M_looks 5).2 = true := by decide +kernel
set_option maxRecDepth 40000 in
theorem ok_t_M_looks_6 : pe_ckB (pe_GA []) pe_cl pe_ckA t_M_looks (td_t_M_looks 6).1 (td_t_M_looks 6).2 = true := by decide +kernel
set_option maxRecDepth 40000 in
theorem ok_t_M_looks_7 : pe_ckB (pe_GA []) pe_cl pe_ckA t_M_looks (td_t_M_looks 7).1 (td_t_M_looks 7).2 = true := by decide +kernel
set_option maxRecDepth 40000 in
theorem ok_t_M_looks_8 : pe_ckB (pe_GA []) pe_cl pe_ckA t_M_looks (td_t_M_looks 8).1 (td_t_M_looks 8).2 = true := by decide +kernel
set_option maxRecDepth 40000 in
theorem ok_t_M_looks_9 : pe_ckB (pe_GA []) pe_cl pe_ckA t_M_looks (td_t_M_looks 9).1 (td_t_M_looks 9).2 = true := by decide +kernel
theorem ok_t_M_looks_a : ∀ b ∈ t_M_looks.bl, pe_ckB (pe_GA []) pe_cl pe_ckA t_M_looks b.1 b.2 = true := by
  intro b hb
  obtain ⟨n, hn⟩ := List.getElem?_of_mem hb
  rw [← pe_at_eq] at hn
  match n, hn with
  | 0, hn =>
    have h2 : td_t_M_looks 0 = b := by unfold td_t_M_looks; rw [hn]; rfl
    rw [← h2]; exact ok_t_M_looks_0
  | 1, hn =>
    have h2 : td_t_M_looks 1 = b := by unfold td_t_M_looks; rw [hn]; rfl
    rw [← h2]; exact ok_t_M_looks_1
  | 2, hn =>
    have h2 : td_t_M_looks 2 = b := by unfold td_t_M_looks; rw [hn]; rfl
    rw [← h2]; exact ok_t_M_looks_2
  | 3, hn =>
    have h2 : td_t_M_looks 3 = b := by unfold td_t_M_looks; rw [hn]; rfl
    rw [← h2]; exact ok_t_M_looks_3
  | 4, hn =>
    have h2 : td_t_M_looks 4 = b := by unfold td_t_M_looks; rw [hn]; rfl
    rw [← h2]; exact ok_t_M_looks_4
  | 5, hn =>
    have h2 : td_t_M_looks 5 = b := by unfold td_t_M_looks; rw [hn]; rfl
    rw [← h2]; exact ok_t_M_looks_5
  | 6, hn =>
    have h2 : td_t_M_looks 6 = b := by unfold td_t_M_looks; rw [hn]; rfl
    rw [← h2]; exact ok_t_M_looks_6
  | 7, hn =>
    have h2 : td_t_M_looks 7 = b := by unfold td_t_M_looks; rw [hn]; rfl
    rw [← h2]; exact ok_t_M_looks_7
  | 8, hn =>
    have h2 : td_t_M_looks 8 = b := by unfold td_t_M_looks; rw [hn]; rfl
    rw [← h2]; exact ok_t_M_looks_8
  | 9, hn =>
    have h2 : td_t_M_looks 9 = b := by unfold td_t_M_looks; rw [hn]; rfl
    rw [← h2]; exact ok_t_M_looks_9
  | n + 10, hn =>
    rw [pe_at_eq] at hn
    exact absurd (List.getElem?_eq_some_iff.mp hn).1 (by show ¬ n + 10 < 10; omega)
theorem ok_t_M_looks : pe_okM (pe_GA []) pe_cl pe_ckA t_M_looks = true := pe_okM_mk (pe_w_of (by rfl) (by rfl)) (by decide +kernel) ok_t_M_looks_a
def td_t_M_links (k : Nat) : Nat × List pe_I := (pe_at t_M_links.bl k).getD (0, [])
set_option maxRecDepth 40000 in
theorem ok_t_M_links_0 : pe_ckB (pe_GA []) pe_cl pe_ckA t_M_links (td_t_M_links 0).1 (td_t_M_links 0).2 = true := by decide +kernel
set_option maxRecDepth 40000 in
theorem ok_t_M_links_1 : pe_ckB (pe_GA []) pe_cl pe_ckA t_M_links (td_t_M_links 1).1 (td_t_M_links 1).2 = true := by decide +kernel
set_option maxRecDepth 40000 in
theorem ok_t_M_links_2 : pe_ckB (pe_GA []) pe_cl pe_ckA t_M_links (td_t_M_links 2).1 (td_t_M_links 2).2 = true := by decide +kernel
set_option maxRecDepth 40000 in
theorem ok_t_M_links_3 : pe_ckB (pe_GA []) pe_cl pe_ckA t_M_links (td_t_M_links 3).1 (td_t_M_links 3).2 = true := by decide +kernel
set_option maxRecDepth 40000 in
theorem ok_t_M_links_4 : pe_ckB (pe_GA []) pe_cl pe_ckA t_M_links (td_t_M_links 4).1 (td_t_M_links 4).2 = true := by decide +kernel
set_option maxRecDepth 40000 in
theorem ok_t_M_links_5 : pe_ckB (pe_GA []) pe_cl pe_ckA t_M_links (td_t_M_links 5).1 (td_t_M_links 5).2 = true := by decide +kernel
set_option maxRecDepth 40000 in
theorem ok_t_M_links_6 : pe_ckB (pe_GA []) pe_cl pe_ckA t_M_links (td_t_M_links 6).1 (td_t_M_links 6).2 = true := by decide +kernel
set_option maxRecDepth 40000 in
theorem ok_t_M_links_7 : pe_ckB (pe_GA []) pe_cl pe_ckA t_M_links (td_t_M_links 7).1 (td_t_M_links 7).2 = true := by decide +kernel
set_option maxRecDepth 40000 in
theorem ok_t_M_links_8 : pe_ckB (pe_GA []) pe_cl pe_ckA t_M_links (td_t_M_links 8).1 (td_t_M_links 8).2 = true := by decide +kernel
theorem ok_t_M_links_a : ∀ b ∈ t_M_links.bl, pe_ckB (pe_GA []) pe_cl pe_ckA t_M_links b.1 b.2 = true := by
  intro b hb
  obtain ⟨n, hn⟩ := List.getElem?_of_mem hb
  rw [← pe_at_eq] at hn
  match n, hn with
  | 0, hn =>
    have h2 : td_t_M_links 0 = b := by unfold td_t_M_links; rw [hn]; rfl
    rw [← h2]; exact ok_t_M_links_0
  | 1, hn =>
    have h2 : td_t_M_links 1 = b := by unfold td_t_M_links; rw [hn]; rfl
    rw [← h2]; exact ok_t_M_links_1
  | 2, hn =>
    have h2 : td_t_M_links 2 = b := by unfold td_t_M_links; rw [hn]; rfl
    rw [← h2]; exact ok_t_M_links_2
  | 3, hn =>
    have h2 : td_t_M_links 3 = b := by unfold td_t_M_links; rw [hn]; rfl
    rw [← h2]; exact ok_t_M_links_3
  | 4, hn =>
    have h2 : td_t_M_links 4 = b := by unfold td_t_M_links; rw [hn]; rfl
    rw [← h2]; exact ok_t_M_links_4
  | 5, hn =>
    have h2 : td_t_M_links 5 = b := by unfold td_t_M_links; rw [hn]; rfl
    rw [← h2]; exact ok_t_M_links_5
  | 6, hn =>
    have h2 : td_t_M_links 6 = b := by unfold td_t_M_links; rw [hn]; rfl
    rw [← h2]; exact ok_t_M_links_6
  | 7, hn =>
    have h2 : td_t_M_links 7 = b := by unfold td_t_M_links; rw [hn]; rfl
    rw [← h2]; exact ok_t_M_links_7
  | 8, hn =>
    have h2 : td_t_M_links 8 = b := by unfold td_t_M_links; rw [hn]; rfl
    rw [← h2]; exact ok_t_M_links_8
  | n + 9, hn =>
    rw [pe_at_eq] at hn
    exact absurd (List.getElem?_eq_some_iff.mp hn).1 (by show ¬ n + 9 < 9; omega)
theorem ok_t_M_links : pe_okM (pe_GA []) pe_cl pe_ckA t_M_links = true := pe_okM_mk (pe_w_of (by rfl) (by rfl)) (by decide +kernel) ok_t_M_links_a
set_option maxRecDepth 40000 in
theorem ok_t_M_acts : pe_okM (pe_GA []) pe_cl pe_ckA t_M_acts = true := by decide +kernel
set_option maxRecDepth 40000 in
theorem ok_t_M_is : pe_okM (pe_GA []) pe_cl pe_ckA t_M_is = true := by decide +kernel
set_option maxRecDepth 40000 in
theorem ok_t_M_callOut : pe_okM (pe_GA []) pe_cl pe_ckA t_M_callOut = true := by decide +kernel
set_option maxRecDepth 40000 in
theorem ok_t_M_mayPile : pe_okM (pe_GA []) pe_cl pe_ckA t_M_mayPile = true := by decide +kernel
set_option maxRecDepth 40000 in
theorem ok_t_M_error : pe_okM (pe_GA []) pe_cl pe_ckA t_M_error = true := by decide +kernel
