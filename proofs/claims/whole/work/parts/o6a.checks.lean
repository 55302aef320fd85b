/-! PART o6a: tables checked once. -/
def td_t_X_init (k : Nat) : Nat × List pe_I := (pe_at t_X_init.bl k).getD (0, [])
set_option maxRecDepth 40000 in
theorem ok_t_X_init_0 : pe_ckB (pe_GA []) pe_cl pe_ckA t_X_init (td_t_X_init 0).1 (td_t_X_init 0).2 = true := by decide +kernel
set_option maxRecDepth 40000 in
theorem ok_t_X_init_1 : pe_ckB (pe_GA []) pe_cl pe_ckA t_X_init (td_t_X_init 1).1 (td_t_X_init 1).2 = true := by decide +kernel
set_option maxRecDepth 40000 in
theorem ok_t_X_init_2 : pe_ckB (pe_GA []) pe_cl pe_ckA t_X_init (td_t_X_init 2).1 (td_t_X_init 2).2 = true := by decide +kernel
set_option maxRecDepth 40000 in
theorem ok_t_X_init_3 : pe_ckB (pe_GA []) pe_cl pe_ckA t_X_init (td_t_X_init 3).1 (td_t_X_init 3).2 = true := by decide +kernel
theorem ok_t_X_init_a : ∀ b ∈ t_X_init.bl, pe_ckB (pe_GA []) pe_cl pe_ckA t_X_init b.1 b.2 = true := by
  intro b hb
  obtain ⟨n, hn⟩ := List.getElem?_of_mem hb
  rw [← pe_at_eq] at hn
  match n, hn with
  | 0, hn =>
    have h2 : td_t_X_init 0 = b := by unfold td_t_X_init; rw [hn]; rfl
    rw [← h2]; exact ok_t_X_init_0
  | 1, hn =>
    have h2 : td_t_X_init 1 = b := by unfold td_t_X_init; rw [hn]; rfl
    rw [← h2]; exact ok_t_X_init_1
  | 2, hn =>
    have h2 : td_t_X_init 2 = b := by unfold td_t_X_init; rw [hn]; rfl
    rw [← h2]; exact ok_t_X_init_2
  | 3, hn =>
    have h2 : td_t_X_init 3 = b := by unfold td_t_X_init; rw [hn]; rfl
    rw [← h2]; exact ok_t_X_init_3
  | n + 4, hn =>
    rw [pe_at_eq] at hn
    exact absurd (List.getElem?_eq_some_iff.mp hn).1 (by show ¬ n + 4 < 4; omega)
theorem ok_t_X_init : pe_okM (pe_GA []) pe_cl pe_ckA t_X_init = true := pe_okM_mk (pe_w_of (by rfl) (by rfl)) (by decide +kernel) ok_t_X_init_a
def td_t_M_init (k : Nat) : Nat × List pe_I := (pe_at t_M_init.bl k).getD (0, [])
set_option maxRecDepth 40000 in
theorem ok_t_M_init_0 : pe_ckB (pe_GA []) pe_cl pe_ckA t_M_init (td_t_M_init 0).1 (td_t_M_init 0).2 = true := by decide +kernel
set_option maxRecDepth 40000 in
theorem ok_t_M_init_1 : pe_ckB (pe_GA []) pe_cl pe_ckA t_M_init (td_t_M_init 1).1 (td_t_M_init 1).2 = true := by decide +kernel
set_option maxRecDepth 40000 in
theorem ok_t_M_init_2 : pe_ckB (pe_GA []) pe_cl pe_ckA t_M_init (td_t_M_init 2).1 (td_t_M_init 2).2 = true := by decide +kernel
set_option maxRecDepth 40000 in
theorem ok_t_M_init_3 : pe_ckB (pe_GA []) pe_cl pe_ckA t_M_init (td_t_M_init 3).1 (td_t_M_init 3).2 = true := by decide +kernel
set_option maxRecDepth 40000 in
theorem ok_t_M_init_4 : pe_ckB (pe_GA []) pe_cl pe_ckA t_M_init (td_t_M_init 4).1 (td_t_M_init 4).2 = true := by decide +kernel
set_option maxRecDepth 40000 in
theorem ok_t_M_init_5 : pe_ckB (pe_GA []) pe_cl pe_ckA t_M_init (td_t_M_init 5).1 (td_t_M_init 5).2 = true := by decide +kernel
set_option maxRecDepth 40000 in
theorem ok_t_M_init_6 : pe_ckB (pe_GA []) pe_cl pe_ckA t_M_init (td_t_M_init 6).1 (td_t_M_init 6).2 = true := by decide +kernel
set_option maxRecDepth 40000 in
theorem ok_t_M_init_7 : pe_ckB (pe_GA []) pe_cl pe_ckA t_M_init (td_t_M_init 7).1 (td_t_M_init 7).2 = true := by decide +kernel
set_option maxRecDepth 40000 in
theorem ok_t_M_init_8 : pe_ckB (pe_GA []) pe_cl pe_ckA t_M_init (td_t_M_init 8).1 (td_t_M_init 8).2 = true := by decide +kernel
set_option maxRecDepth 40000 in
theorem ok_t_M_init_9 : pe_ckB (pe_GA []) pe_cl pe_ckA t_M_init (td_t_M_init 9).1 (td_t_M_init 9).2 = true := by decide +kernel
set_option maxRecDepth 40000 in
theorem ok_t_M_init_10 : pe_ckB (pe_GA []) pe_cl pe_ckA t_M_init (td_t_M_init 10).1 (td_t_M_init 10).2 = true := by decide +kernel
set_option maxRecDepth 40000 in
theorem ok_t_M_init_11 : pe_ckB (pe_GA []) pe_cl pe_ckA t_M_init (td_t_M_init 11).1 (td_t_M_init 11).2 = true := by decide +kernel
theorem ok_t_M_init_a : ∀ b ∈ t_M_init.bl, pe_ckB (pe_GA []) pe_cl pe_ckA t_M_init b.1 b.2 = true := by
  intro b hb
  obtain ⟨n, hn⟩ := List.getElem?_of_mem hb
  rw [← pe_at_eq] at hn
  match n, hn with
  | 0, hn =>
    have h2 : td_t_M_init 0 = b := by unfold td_t_M_init; rw [hn]; rfl
    rw [← h2]; exact ok_t_M_init_0
  | 1, hn =>
    have h2 : td_t_M_init 1 = b := by unfold td_t_M_init; rw [hn]; rfl
    rw [← h2]; exact ok_t_M_init_1
  | 2, hn =>
    have h2 : td_t_M_init 2 = b := by unfold td_t_M_init; rw [hn]; rfl
    rw [← h2]; exact ok_t_M_init_2
  | 3, hn =>
    have h2 : td_t_M_init 3 = b := by unfold td_t_M_init; rw [hn]; rfl
    rw [← h2]; exact ok_t_M_init_3
  | 4, hn =>
    have h2 : td_t_M_init 4 = b := by unfold td_t_M_init; rw [hn]; rfl
    rw [← h2]; exact ok_t_M_init_4
  | 5, hn =>
    have h2 : td_t_M_init 5 = b := by unfold td_t_M_init; rw [hn]; rfl
    rw [← h2]; exact ok_t_M_init_5
  | 6, hn =>
    have h2 : td_t_M_init 6 = b := by unfold td_t_M_init; rw [hn]; rfl
    rw [← h2]; exact ok_t_M_init_6
  | 7, hn =>
    have h2 : td_t_M_init 7 = b := by unfold td_t_M_init; rw [hn]; rfl
    rw [← h2]; exact ok_t_M_init_7
  | 8, hn =>
    have h2 : td_t_M_init 8 = b := by unfold td_t_M_init; rw [hn]; rfl
    rw [← h2]; exact ok_t_M_init_8
  | 9, hn =>
    have h2 : td_t_M_init 9 = b := by unfold td_t_M_init; rw [hn]; rfl
    rw [← h2]; exact ok_t_M_init_9
  | 10, hn =>
    have h2 : td_t_M_init 10 = b := by unfold td_t_M_init; rw [hn]; rfl
    rw [← h2]; exact ok_t_M_init_10
  | 11, hn =>
    have h2 : td_t_M_init 11 = b := by unfold td_t_M_init; rw [hn]; rfl
    rw [← h2]; exact ok_t_M_init_11
  | n + 12, hn =>
    rw [pe_at_eq] at hn
    exact absurd (List.getElem?_eq_some_iff.mp hn).1 (by show ¬ n + 12 < 12; omega)
theorem ok_t_M_init : pe_okM (pe_GA []) pe_cl pe_ckA t_M_init = true := pe_okM_mk (pe_w_of (by rfl) (by rfl)) (by decide +kernel) ok_t_M_init_a
def td_t_X_feed (k : Nat) : Nat × List pe_I := (pe_at t_X_feed.bl k).getD (0, [])
set_option maxRecDepth 40000 in
theorem ok_t_X_feed_0 : pe_ckB (pe_GA []) pe_cl pe_ckA t_X_feed (td_t_X_feed 0).1 (td_t_X_feed 0).2 = true := by decide +kernel
set_option maxRecDepth 40000 in
theorem ok_t_X_feed_1 : pe_ckB (pe_GA []) pe_cl pe_ckA t_X_feed (td_t_X_feed 1).1 (td_t_X_feed 1).2 = true := by decide +kernel
set_option maxRecDepth 40000 in
theorem ok_t_X_feed_2 : pe_ckB (pe_GA []) pe_cl pe_ckA t_X_feed (td_t_X_feed 2).1 (td_t_X_feed 2).2 = true := by decide +kernel
set_option maxRecDepth 40000 in
theorem ok_t_X_feed_3 : pe_ckB (pe_GA []) pe_cl pe_ckA t_X_feed (td_t_X_feed 3).1 (td_t_X_feed 3).2 = true := by decide +kernel
set_option maxRecDepth 40000 in
theorem ok_t_X_feed_4 : pe_ckB (pe_GA []) pe_cl pe_ckA t_X_feed (td_t_X_feed 4).1 (td_t_X_feed 4).2 = true := by decide +kernel
set_option maxRecDepth 40000 in
theorem ok_t_X_feed_5 : pe_ckB (pe_GA []) pe_cl pe_ckA t_X_feed (td_t_X_feed 5).1 (td_t_X_feed 5).2 = true := by decide +kernel
set_option maxRecDepth 40000 in
theorem ok_t_X_feed_6 : pe_ckB (pe_GA []) pe_cl pe_ckA t_X_feed (td_t_X_feed 6).1 (td_t_X_feed 6).2 = true := by decide +kernel
set_option maxRecDepth 40000 in
theorem ok_t_X_feed_7 : pe_ckB (pe_GA []) pe_cl pe_ckA t_X_feed (td_t_X_feed 7).1 (td_t_X_feed 7).2 = true := by decide +kernel
set_option maxRecDepth 40000 in
theorem ok_t_X_feed_8 : pe_ckB (pe_GA []) pe_cl pe_ckA t_X_feed (td_t_X_feed 8).1 (td_t_X_feed 8).2 = true := by decide +kernel
set_option maxRecDepth 40000 in
theorem ok_t_X_feed_9 : pe_ckB (pe_GA []) pe_cl pe_ckA t_X_feed (td_t_X_feed 9).1 (td_t_X_feed 9).2 = true := by decide +kernel
theorem ok_t_X_feed_a : ∀ b ∈ t_X_feed.bl, pe_ckB (pe_GA []) pe_cl pe_ckA t_X_feed b.1 b.2 = true := by
  intro b hb
  obtain ⟨n, hn⟩ := List.getElem?_of_mem hb
  rw [← pe_at_eq] at hn
  match n, hn with
  | 0, hn =>
    have h2 : td_t_X_feed 0 = b := by unfold td_t_X_feed; rw [hn]; rfl
    rw [← h2]; exact ok_t_X_feed_0
  | 1, hn =>
    have h2 : td_t_X_feed 1 = b := by unfold td_t_X_feed; rw [hn]; rfl
    rw [← h2]; exact ok_t_X_feed_1
  | 2, hn =>
    have h2 : td_t_X_feed 2 = b := by unfold td_t_X_feed; rw [hn]; rfl
    rw [← h2]; exact ok_t_X_feed_2
  | 3, hn =>
    have h2 : td_t_X_feed 3 = b := by unfold td_t_X_feed; rw [hn]; rfl
    rw [← h2]; exact ok_t_X_feed_3
  | 4, hn =>
    have h2 : td_t_X_feed 4 = b := by unfold td_t_X_feed; rw [hn]; rfl
    rw [← h2]; exact ok_t_X_feed_4
  | 5, hn =>
    have h2 : td_t_X_feed 5 = b := by unfold td_t_X_feed; rw [hn]; rfl
    rw [← h2]; exact ok_t_X_feed_5
  | 6, hn =>
    have h2 : td_t_X_feed 6 = b := by unfold td_t_X_feed; rw [hn]; rfl
    rw [← h2]; exact ok_t_X_feed_6
  | 7, hn =>
    have h2 : td_t_X_feed 7 = b := by unfold td_t_X_feed; rw [hn]; rfl
    rw [← h2]; exact ok_t_X_feed_7
  | 8, hn =>
    have h2 : td_t_X_feed 8 = b := by unfold td_t_X_feed; rw [hn]; rfl
    rw [← h2]; exact ok_t_X_feed_8
  | 9, hn =>
    have h2 : td_t_X_feed 9 = b := by unfold td_t_X_feed; rw [hn]; rfl
    rw [← h2]; exact ok_t_X_feed_9
  | n + 10, hn =>
    rw [pe_at_eq] at hn
    exact absurd (List.getElem?_eq_some_iff.mp hn).1 (by show ¬ n + 10 < 10; omega)
theorem ok_t_X_feed : pe_okM (pe_GA []) pe_cl pe_ckA t_X_feed = true := pe_okM_mk (pe_w_of (by rfl) (by rfl)) (by decide +kernel) ok_t_X_feed_a
set_option maxRecDepth 40000 in
theorem ok_t_M_feed : pe_okM (pe_GA []) pe_cl pe_ckA t_M_feed = true := by decide +kernel
def td_t_X_host (k : Nat) : Nat × List pe_I := (pe_at t_X_host.bl k).getD (0, [])
set_option maxRecDepth 40000 in
theorem ok_t_X_host_0 : pe_ckB (pe_GA []) pe_cl pe_ckA t_X_host (td_t_X_host 0).1 (td_t_X_host 0).2 = true := by decide +kernel
set_option maxRecDepth 40000 in
theorem ok_t_X_host_1 : pe_ckB (pe_GA []) pe_cl pe_ckA t_X_host (td_t_X_host 1).1 (td_t_X_host 1).2 = true := by decide +kernel
set_option maxRecDepth 40000 in
theorem ok_t_X_host_2 : pe_ckB (pe_GA []) pe_cl pe_ckA t_X_host (td_t_X_host 2).1 (td_t_X_host 2).2 = true := by decide +kernel
theorem ok_t_X_host_a : ∀ b ∈ t_X_host.bl, pe_ckB (pe_GA []) pe_cl pe_ckA t_X_host b.1 b.2 = true := by
  intro b hb
  obtain ⟨n, hn⟩ := List.getElem?_of_mem hb
  rw [← pe_at_eq] at hn
  match n, hn with
  | 0, hn =>
    have h2 : td_t_X_host 0 = b := by unfold td_t_X_host; rw [hn]; rfl
    rw [← h2]; exact ok_t_X_host_0
  | 1, hn =>
    have h2 : td_t_X_host 1 = b := by unfold td_t_X_host; rw [hn]; rfl
    rw [← h2]; exact ok_t_X_host_1
  | 2, hn =>
    have h2 : td_t_X_host 2 = b := by unfold td_t_X_host; rw [hn]; rfl
    rw [← h2]; exact ok_t_X_host_2
  | n + 3, hn =>
    rw [pe_at_eq] at hn
    exact absurd (List.getElem?_eq_some_iff.mp hn).1 (by show ¬ n + 3 < 3; omega)
theorem ok_t_X_host : pe_okM (pe_GA []) pe_cl pe_ckA t_X_host = true := pe_okM_mk (pe_w_of (by rfl) (by rfl)) (by decide +kernel) ok_t_X_host_a
def td_t_M_host (k : Nat) : Nat × List pe_I := (pe_at t_M_host.bl k).getD (0, [])
set_option maxRecDepth 40000 in
theorem ok_t_M_host_0 : pe_ckB (pe_GA []) pe_cl pe_ckA t_M_host (td_t_M_host 0).1 (td_t_M_host 0).2 = true := by decide +kernel
set_option maxRecDepth 40000 in
theorem ok_t_M_host_1 : pe_ckB (pe_GA []) pe_cl pe_ckA t_M_host (td_t_M_host 1).1 (td_t_M_host 1).2 = true := by decide +kernel
set_option maxRecDepth 40000 in
theorem ok_t_M_host_2 : pe_ckB (pe_GA []) pe_cl pe_ckA t_M_host (td_t_M_host 2).1 (td_t_M_host 2).2 = true := by decide +kernel
set_option maxRecDepth 40000 in
theorem ok_t_M_host_3 : pe_ckB (pe_GA []) pe_cl pe_ckA t_M_host (td_t_M_host 3).1 (td_t_M_host 3).2 = true := by decide +kernel
set_option maxRecDepth 40000 in
theorem ok_t_M_host_4 : pe_ckB (pe_GA []) pe_cl pe_ckA t_M_host (td_t_M_host 4).1 (td_t_M_host 4).2 = true := by decide +kernel
set_option maxRecDepth 40000 in
theorem ok_t_M_host_5 : pe_ckB (pe_GA []) pe_cl pe_ckA t_M_host (td_t_M_host 5).1 (td_t_M_host 5).2 = true := by decide +kernel
set_option maxRecDepth 40000 in
theorem ok_t_M_host_6 : pe_ckB (pe_GA []) pe_cl pe_ckA t_M_host (td_t_M_host 6).1 (td_t_M_host 6).2 = true := by decide +kernel
theorem ok_t_M_host_a : ∀ b ∈ t_M_host.bl, pe_ckB (pe_GA []) pe_cl pe_ckA t_M_host b.1 b.2 = true := by
  intro b hb
  obtain ⟨n, hn⟩ := List.getElem?_of_mem hb
  rw [← pe_at_eq] at hn
  match n, hn with
  | 0, hn =>
    have h2 : td_t_M_host 0 = b := by unfold td_t_M_host; rw [hn]; rfl
    rw [← h2]; exact ok_t_M_host_0
  | 1, hn =>
    have h2 : td_t_M_host 1 = b := by unfold td_t_M_host; rw [hn]; rfl
    rw [← h2]; exact ok_t_M_host_1
  | 2, hn =>
    have h2 : td_t_M_host 2 = b := by unfold td_t_M_host; rw [hn]; rfl
    rw [← h2]; exact ok_t_M_host_2
  | 3, hn =>
    have h2 : td_t_M_host 3 = b := by unfold td_t_M_host; rw [hn]; rfl
    rw [← h2]; exact ok_t_M_host_3
  | 4, hn =>
    have h2 : td_t_M_host 4 = b := by unfold td_t_M_host; rw [hn]; rfl
    rw [← h2]; exact ok_t_M_host_4
  | 5, hn =>
    have h2 : td_t_M_host 5 = b := by unfold td_t_M_host; rw [hn]; rfl
    rw [← h2]; exact ok_t_M_host_5
  | 6, hn =>
    have h2 : td_t_M_host 6 = b := by unfold td_t_M_host; rw [hn]; rfl
    rw [← h2]; exact ok_t_M_host_6
  | n + 7, hn =>
    rw [pe_at_eq] at hn
    exact absurd (List.getElem?_eq_some_iff.mp hn).1 (by show ¬ n + 7 < 7; omega)
theorem ok_t_M_host : pe_okM (pe_GA []) pe_cl pe_ckA t_M_host = true := pe_okM_mk (pe_w_of (by rfl) (by rfl)) (by decide +kernel) ok_t_M_host_a
set_option maxRecDepth 40000 in
theorem ok_t_X_type : pe_okM (pe_GA []) pe_cl pe_ckA t_X_type = true := by decide +kernel
def td_t_M_type (k : Nat) : Nat × List pe_I := (pe_at t_M_type.bl k).getD (0, [])
set_option maxRecDepth 40000 in
theorem ok_t_M_type_0 : pe_ckB (pe_GA []) pe_cl pe_ckA t_M_type (td_t_M_type 0).1 (td_t_M_type 0).2 = true := by decide +kernel
set_option maxRecDepth 40000 in
theorem ok_t_M_type_1 : pe_ckB (pe_GA []) pe_cl pe_ckA t_M_type (td_t_M_type 1).1 (td_t_M_type 1).2 = true := by decide +kernel
set_option maxRecDepth 40000 in
theorem ok_t_M_type_2 : pe_ckB (pe_GA []) pe_cl pe_ckA t_M_type (td_t_M_type 2).1 (td_t_M_type 2).2 = true := by decide +kernel
set_option maxRecDepth 40000 in
theorem ok_t_M_type_3 : pe_ckB (pe_GA []) pe_cl pe_ckA t_M_type (td_t_M_type 3).1 (td_t_M_type 3).2 = true := by decide +kernel
set_option maxRecDepth 40000 in
theorem ok_t_M_type_4 : pe_ckB (pe_GA []) pe_cl pe_ckA t_M_type (td_t_M_type 4).1 (td_t_M_type 4).2 = true := by decide +kernel
set_option maxRecDepth 40000 in
theorem ok_t_M_type_5 : pe_ckB (pe_GA []) pe_cl pe_ckA t_M_type (td_t_M_type 5).1 (td_t_M_type 5).2 = true := by decide +kernel
set_option maxRecDepth 40000 in
theorem ok_t_M_type_6 : pe_ckB (pe_GA []) pe_cl pe_ckA t_M_type (td_t_M_type 6).1 (td_t_M_type 6).2 = true := by decide +kernel
set_option maxRecDepth 40000 in
theorem ok_t_M_type_7 : pe_ckB (pe_GA []) pe_cl pe_ckA t_M_type (td_t_M_type 7).1 (td_t_M_type 7).2 = true := by decide +kernel
set_option maxRecDepth 40000 in
theorem ok_t_M_type_8 : pe_ckB (pe_GA []) pe_cl pe_ckA t_M_type (td_t_M_type 8).1 (td_t_M_type 8).2 = true := by decide +kernel
set_option maxRecDepth 40000 in
theorem ok_t_M_type_9 : pe_ckB (pe_GA []) pe_cl pe_ckA t_M_type (td_t_M_type 9).1 (td_t_M_type 9).2 = true := by decide +kernel
theorem ok_t_M_type_a : ∀ b ∈ t_M_type.bl, pe_ckB (pe_GA []) pe_cl pe_ckA t_M_type b.1 b.2 = true := by
  intro b hb
  obtain ⟨n, hn⟩ := List.getElem?_of_mem hb
  rw [← pe_at_eq] at hn
  match n, hn with
  | 0, hn =>
    have h2 : td_t_M_type 0 = b := by unfold td_t_M_type; rw [hn]; rfl
    rw [← h2]; exact ok_t_M_type_0
  | 1, hn =>
    have h2 : td_t_M_type 1 = b := by unfold td_t_M_type; rw [hn]; rfl
    rw [← h2]; exact ok_t_M_type_1
  | 2, hn =>
    have h2 : td_t_M_type 2 = b := by unfold td_t_M_type; rw [hn]; rfl
    rw [← h2]; exact ok_t_M_type_2
  | 3, hn =>
    have h2 : td_t_M_type 3 = b := by unfold td_t_M_type; rw [hn]; rfl
    rw [← h2]; exact ok_t_M_type_3
  | 4, hn =>
    have h2 : td_t_M_type 4 = b := by unfold td_t_M_type; rw [hn]; rfl
    rw [← h2]; exact ok_t_M_type_4
  | 5, hn =>
    have h2 : td_t_M_type 5 = b := by unfold td_t_M_type; rw [hn]; rfl
    rw [← h2]; exact ok_t_M_type_5
  | 6, hn =>
    have h2 : td_t_M_type 6 = b := by unfold td_t_M_type; rw [hn]; rfl
    rw [← h2]; exact ok_t_M_type_6
  | 7, hn =>
    have h2 : td_t_M_type 7 = b := by unfold td_t_M_type; rw [hn]; rfl
    rw [← h2]; exact ok_t_M_type_7
  | 8, hn =>
    have h2 : td_t_M_type 8 = b := by unfold td_t_M_type; rw [hn]; rfl
    rw [← h2]; exact ok_t_M_type_8
  | 9, hn =>
    have h2 : td_t_M_type 9 = b := by unfold td_t_M_type; rw [hn]; rfl
    rw [← h2]; exact ok_t_M_type_9
  | n + 10, hn =>
    rw [pe_at_eq] at hn
    exact absurd (List.getElem?_eq_some_iff.mp hn).1 (by show ¬ n + 10 < 10; omega)
theorem ok_t_M_type : pe_okM (pe_GA []) pe_cl pe_ckA t_M_type = true := pe_okM_mk (pe_w_of (by rfl) (by rfl)) (by decide +kernel) ok_t_M_type_a
def td_t_X_member (k : Nat) : Nat × List pe_I := (pe_at t_X_member.bl k).getD (0, [])
set_option maxRecDepth 40000 in
theorem ok_t_X_member_0 : pe_ckB (pe_GA []) pe_cl pe_ckA t_X_member (td_t_X_member 0).1 (td_t_X_member 0).2 = true := by decide +kernel
set_option maxRecDepth 40000 in
theorem ok_t_X_member_1 : pe_ckB (pe_GA []) pe_cl pe_ckA t_X_member (td_t_X_member 1).1 (td_t_X_member 1).2 = true := by decide +kernel
set_option maxRecDepth 40000 in
theorem ok_t_X_member_2 : pe_ckB (pe_GA []) pe_cl pe_ckA t_X_member (td_t_X_member 2).1 (td_t_X_member 2).2 = true := by decide +kernel
set_option maxRecDepth 40000 in
theorem ok_t_X_member_3 : pe_ckB (pe_GA []) pe_cl pe_ckA t_X_member (td_t_X_member 3).1 (td_t_X_member 3).2 = true := by decide +kernel
set_option maxRecDepth 40000 in
theorem ok_t_X_member_4 : pe_ckB (pe_GA []) pe_cl pe_ckA t_X_member (td_t_X_member 4).1 (td_t_X_member 4).2 = true := by decide +kernel
set_option maxRecDepth 40000 in
theorem ok_t_X_member_5 : pe_ckB (pe_GA []) pe_cl pe_ckA t_X_member (td_t_X_member 5).1 (td_t_X_member 5).2 = true := by decide +kernel
set_option maxRecDepth 40000 in
theorem ok_t_X_member_6 : pe_ckB (pe_GA []) pe_cl pe_ckA t_X_member (td_t_X_member 6).1 (td_t_X_member 6).2 = true := by decide +kernel
set_option maxRecDepth 40000 in
theorem ok_t_X_member_7 : pe_ckB (pe_GA []) pe_cl pe_ckA t_X_member (td_t_X_member 7).1 (td_t_X_member 7).2 = true := by decide +kernel
theorem ok_t_X_member_a : ∀ b ∈ t_X_member.bl, pe_ckB (pe_GA []) pe_cl pe_ckA t_X_member b.1 b.2 = true := by
  intro b hb
  obtain ⟨n, hn⟩ := List.getElem?_of_mem hb
  rw [← pe_at_eq] at hn
  match n, hn with
  | 0, hn =>
    have h2 : td_t_X_member 0 = b := by unfold td_t_X_member; rw [hn]; rfl
    rw [← h2]; exact ok_t_X_member_0
  | 1, hn =>
    have h2 : td_t_X_member 1 = b := by unfold td_t_X_member; rw [hn]; rfl
    rw [← h2]; exact ok_t_X_member_1
  | 2, hn =>
    have h2 : td_t_X_member 2 = b := by unfold td_t_X_member; rw [hn]; rfl
    rw [← h2]; exact ok_t_X_member_2
  | 3, hn =>
    have h2 : td_t_X_member 3 = b := by unfold td_t_X_member; rw [hn]; rfl
    rw [← h2]; exact ok_t_X_member_3
  | 4, hn =>
    have h2 : td_t_X_member 4 = b := by unfold td_t_X_member; rw [hn]; rfl
    rw [← h2]; exact ok_t_X_member_4
  | 5, hn =>
    have h2 : td_t_X_member 5 = b := by unfold td_t_X_member; rw [hn]; rfl
    rw [← h2]; exact ok_t_X_member_5
  | 6, hn =>
    have h2 : td_t_X_member 6 = b := by unfold td_t_X_member; rw [hn]; rfl
    rw [← h2]; exact ok_t_X_member_6
  | 7, hn =>
    have h2 : td_t_X_member 7 = b := by unfold td_t_X_member; rw [hn]; rfl
    rw [← h2]; exact ok_t_X_member_7
  | n + 8, hn =>
    rw [pe_at_eq] at hn
    exact absurd (List.getElem?_eq_some_iff.mp hn).1 (by show ¬ n + 8 < 8; omega)
theorem ok_t_X_member : pe_okM (pe_GA []) pe_cl pe_ckA t_X_member = true := pe_okM_mk (pe_w_of (by rfl) (by rfl)) (by decide +kernel) ok_t_X_member_a
def td_t_M_member (k : Nat) : Nat × List pe_I := (pe_at t_M_member.bl k).getD (0, [])
set_option maxRecDepth 40000 in
theorem ok_t_M_member_0 : pe_ckB (pe_GA []) pe_cl pe_ckA t_M_member (td_t_M_member 0).1 (td_t_M_member 0).2 = true := by decide +kernel
set_option maxRecDepth 40000 in
theorem ok_t_M_member_1 : pe_ckB (pe_GA []) pe_cl pe_ckA t_M_member (td_t_M_member 1).1 (td_t_M_member 1).2 = true := by decide +kernel
set_option maxRecDepth 40000 in
theorem ok_t_M_member_2 : pe_ckB (pe_GA []) pe_cl pe_ckA t_M_member (td_t_M_member 2).1 (td_t_M_member 2).2 = true := by decide +kernel
set_option maxRecDepth 40000 in
theorem ok_t_M_member_3 : pe_ckB (pe_GA []) pe_cl pe_ckA t_M_member (td_t_M_member 3).1 (td_t_M_member 3).2 = true := by decide +kernel
set_option maxRecDepth 40000 in
theorem ok_t_M_member_4 : pe_ckB (pe_GA []) pe_cl pe_ckA t_M_member (td_t_M_member 4).1 (td_t_M_member 4).2 = true := by decide +kernel
set_option maxRecDepth 40000 in
theorem ok_t_M_member_5 : pe_ckB (pe_GA []) pe_cl pe_ckA t_M_member (td_t_M_member 5).1 (td_t_M_member 5).2 = true := by decide +kernel
set_option maxRecDepth 40000 in
theorem ok_t_M_member_6 : pe_ckB (pe_GA []) pe_cl pe_ckA t_M_member (td_t_M_member 6).1 (td_t_M_member 6).2 = true := by decide +kernel
set_option maxRecDepth 40000 in
theorem ok_t_M_member_7 : pe_ckB (pe_GA []) pe_cl pe_ckA t_M_member (td_t_M_member 7).1 (td_t_M_member 7).2 = true := by decide +kernel
set_option maxRecDepth 40000 in
theorem ok_t_M_member_8 : pe_ckB (pe_GA []) pe_cl pe_ckA t_M_member (td_t_M_member 8).1 (td_t_M_member 8).2 = true := by decide +kernel
set_option maxRecDepth 40000 in
theorem ok_t_M_member_9 : pe_ckB (pe_GA []) pe_cl pe_ckA t_M_member (td_t_M_member 9).1 (td_t_M_member 9).2 = true := by decide +kernel
set_option maxRecDepth 40000 in
theorem ok_t_M_member_10 : pe_ckB (pe_GA []) pe_cl pe_ckA t_M_member (td_t_M_member 10).1 (td_t_M_member 10).2 = true := by decide +kernel
set_option maxRecDepth 40000 in
theorem ok_t_M_member_11 : pe_ckB (pe_GA []) pe_cl pe_ckA t_M_member (td_t_M_member 11).1 (td_t_M_member 11).2 = true := by decide +kernel
set_option maxRecDepth 40000 in
theorem ok_t_M_member_12 : pe_ckB (pe_GA []) pe_cl pe_ckA t_M_member (td_t_M_member 12).1 (td_t_M_member 12).2 = true := by decide +kernel
set_option maxRecDepth 40000 in
theorem ok_t_M_member_13 : pe_ckB (pe_GA []) pe_cl pe_ckA t_M_member (td_t_M_member 13).1 (td_t_M_member 13).2 = true := by decide +kernel
set_option maxRecDepth 40000 in
theorem ok_t_M_member_14 : pe_ckB (pe_GA []) pe_cl pe_ckA t_M_member (td_t_M_member 14).1 (td_t_M_member 14).2 = true := by decide +kernel
theorem ok_t_M_member_a : ∀ b ∈ t_M_member.bl, pe_ckB (pe_GA []) pe_cl pe_ckA t_M_member b.1 b.2 = true := by
  intro b hb
  obtain ⟨n, hn⟩ := List.getElem?_of_mem hb
  rw [← pe_at_eq] at hn
  match n, hn with
  | 0, hn =>
    have h2 : td_t_M_member 0 = b := by unfold td_t_M_member; rw [hn]; rfl
    rw [← h2]; exact ok_t_M_member_0
  | 1, hn =>
    have h2 : td_t_M_member 1 = b := by unfold td_t_M_member; rw [hn]; rfl
    rw [← h2]; exact ok_t_M_member_1
  | 2, hn =>
    have h2 : td_t_M_member 2 = b := by unfold td_t_M_member; rw [hn]; rfl
    rw [← h2]; exact ok_t_M_member_2
  | 3, hn =>
    have h2 : td_t_M_member 3 = b := by unfold td_t_M_member; rw [hn]; rfl
    rw [← h2]; exact ok_t_M_member_3
  | 4, hn =>
    have h2 : td_t_M_member 4 = b := by unfold td_t_M_member; rw [hn]; rfl
    rw [← h2]; exact ok_t_M_member_4
  | 5, hn =>
    have h2 : td_t_M_member 5 = b := by unfold td_t_M_member; rw [hn]; rfl
    rw [← h2]; exact ok_t_M_member_5
  | 6, hn =>
    have h2 : td_t_M_member 6 = b := by unfold td_t_M_member; rw [hn]; rfl
    rw [← h2]; exact ok_t_M_member_6
  | 7, hn =>
    have h2 : td_t_M_member 7 = b := by unfold td_t_M_member; rw [hn]; rfl
    rw [← h2]; exact ok_t_M_member_7
  | 8, hn =>
    have h2 : td_t_M_member 8 = b := by unfold td_t_M_member; rw [hn]; rfl
    rw [← h2]; exact ok_t_M_member_8
  | 9, hn =>
    have h2 : td_t_M_member 9 = b := by unfold td_t_M_member; rw [hn]; rfl
    rw [← h2]; exact ok_t_M_member_9
  | 10, hn =>
    have h2 : td_t_M_member 10 = b := by unfold td_t_M_member; rw [hn]; rfl
    rw [← h2]; exact ok_t_M_member_10
  | 11, hn =>
    have h2 : td_t_M_member 11 = b := by unfold td_t_M_member; rw [hn]; rfl
    rw [← h2]; exact ok_t_M_member_11
  | 12, hn =>
    have h2 : td_t_M_member 12 = b := by unfold td_t_M_member; rw [hn]; rfl
    rw [← h2]; exact ok_t_M_member_12
  | 13, hn =>
    have h2 : td_t_M_member 13 = b := by unfold td_t_M_member; rw [hn]; rfl
    rw [← h2]; exact ok_t_M_member_13
  | 14, hn =>
    have h2 : td_t_M_member 14 = b := by unfold td_t_M_member; rw [hn]; rfl
    rw [← h2]; exact ok_t_M_member_14
  | n + 15, hn =>
    rw [pe_at_eq] at hn
    exact absurd (List.getElem?_eq_some_iff.mp hn).1 (by show ¬ n + 15 < 15; omega)
theorem ok_t_M_member : pe_okM (pe_GA []) pe_cl pe_ckA t_M_member = true := pe_okM_mk (pe_w_of (by rfl) (by rfl)) (by decide +kernel) ok_t_M_member_a
set_option maxRecDepth 40000 in
theorem ok_t_X_subtype : pe_okM (pe_GA []) pe_cl pe_ckA t_X_subtype = true := by decide +kernel
set_option maxRecDepth 40000 in
theorem ok_t_M_subtype : pe_okM (pe_GA []) pe_cl pe_ckA t_M_subtype = true := by decide +kernel
set_option maxRecDepth 40000 in
theorem ok_t_X_compile : pe_okM (pe_GA []) pe_cl pe_ckA t_X_compile = true := by decide +kernel
def td_t_M_compile (k : Nat) : Nat × List pe_I := (pe_at t_M_compile.bl k).getD (0, [])
set_option maxRecDepth 40000 in
theorem ok_t_M_compile_0 : pe_ckB (pe_GA []) pe_cl pe_ckA t_M_compile (td_t_M_compile 0).1 (td_t_M_compile 0).2 = true := by decide +kernel
set_option maxRecDepth 40000 in
theorem ok_t_M_compile_1 : pe_ckB (pe_GA []) pe_cl pe_ckA t_M_compile (td_t_M_compile 1).1 (td_t_M_compile 1).2 = true := by decide +kernel
set_option maxRecDepth 40000 in
theorem ok_t_M_compile_2 : pe_ckB (pe_GA []) pe_cl pe_ckA t_M_compile (td_t_M_compile 2).1 (td_t_M_compile 2).2 = true := by decide +kernel
set_option maxRecDepth 40000 in
theorem ok_t_M_compile_3 : pe_ckB (pe_GA []) pe_cl pe_ckA t_M_compile (td_t_M_compile 3).1 (td_t_M_compile 3).2 = true := by decide +kernel
theorem ok_t_M_compile_a : ∀ b ∈ t_M_compile.bl, pe_ckB (pe_GA []) pe_cl pe_ckA t_M_compile b.1 b.2 = true := by
  intro b hb
  obtain ⟨n, hn⟩ := List.getElem?_of_mem hb
  rw [← pe_at_eq] at hn
  match n, hn with
  | 0, hn =>
    have h2 : td_t_M_compile 0 = b := by unfold td_t_M_compile; rw [hn]; rfl
    rw [← h2]; exact ok_t_M_compile_0
  | 1, hn =>
    have h2 : td_t_M_compile 1 = b := by unfold td_t_M_compile; rw [hn]; rfl
    rw [← h2]; exact ok_t_M_compile_1
  | 2, hn =>
    have h2 : td_t_M_compile 2 = b := by unfold td_t_M_compile; rw [hn]; rfl
    rw [← h2]; exact ok_t_M_compile_2
  | 3, hn =>
    have h2 : td_t_M_compile 3 = b := by unfold td_t_M_compile; rw [hn]; rfl
    rw [← h2]; exact ok_t_M_compile_3
  | n + 4, hn =>
    rw [pe_at_eq] at hn
    exact absurd (List.getElem?_eq_some_iff.mp hn).1 (by show ¬ n + 4 < 4; omega)
theorem ok_t_M_compile : pe_okM (pe_GA []) pe_cl pe_ckA t_M_compile = true := pe_okM_mk (pe_w_of (by rfl) (by rfl)) (by decide +kernel) ok_t_M_compile_a
set_option maxRecDepth 40000 in
theorem ok_t_X_function : pe_okM (pe_GA []) pe_cl pe_ckA t_X_function = true := by decide +kernel
def td_t_M_function (k : Nat) : Nat × List pe_I := (pe_at t_M_function.bl k).getD (0, [])
set_option maxRecDepth 40000 in
theorem ok_t_M_function_0 : pe_ckB (pe_GA []) pe_cl pe_ckA t_M_function (td_t_M_function 0).1 (td_t_M_function 0).2 = true := by decide +kernel
set_option maxRecDepth 40000 in
theorem ok_t_M_function_1 : pe_ckB (pe_GA []) pe_cl pe_ckA t_M_function (td_t_M_function 1).1 (td_t_M_function 1).2 = true := by decide +kernel
set_option maxRecDepth 40000 in
theorem ok_t_M_function_2 : pe_ckB (pe_GA []) pe_cl pe_ckA t_M_function (td_t_M_function 2).1 (td_t_M_function 2).2 = true := by decide +kernel
set_option maxRecDepth 40000 in
theorem ok_t_M_function_3 : pe_ckB (pe_GA []) pe_cl pe_ckA t_M_function (td_t_M_function 3).1 (td_t_M_function 3).2 = true := by decide +kernel
set_option maxRecDepth 40000 in
theorem ok_t_M_function_4 : pe_ckB (pe_GA []) pe_cl pe_ckA t_M_function (td_t_M_function 4).1 (td_t_M_function 4).2 = true := by decide +kernel
set_option maxRecDepth 40000 in
theorem ok_t_M_function_5 : pe_ckB (pe_GA []) pe_cl pe_ckA t_M_function (td_t_M_function 5).1 (td_t_M_function 5).2 = true := by decide +kernel
set_option maxRecDepth 40000 in
theorem ok_t_M_function_6 : pe_ckB (pe_GA []) pe_cl pe_ckA t_M_function (td_t_M_function 6).1 (td_t_M_function 6).2 = true := by decide +kernel
set_option maxRecDepth 40000 in
theorem ok_t_M_function_7 : pe_ckB (pe_GA []) pe_cl pe_ckA t_M_function (td_t_M_function 7).1 (td_t_M_function 7).2 = true := by decide +kernel
set_option maxRecDepth 40000 in
theorem ok_t_M_function_8 : pe_ckB (pe_GA []) pe_cl pe_ckA t_M_function (td_t_M_function 8).1 (td_t_M_function 8).2 = true := by decide +kernel
theorem ok_t_M_function_a : ∀ b ∈ t_M_function.bl, pe_ckB (pe_GA []) pe_cl pe_ckA t_M_function b.1 b.2 = true := by
  intro b hb
  obtain ⟨n, hn⟩ := List.getElem?_of_mem hb
  rw [← pe_at_eq] at hn
  match n, hn with
  | 0, hn =>
    have h2 : td_t_M_function 0 = b := by unfold td_t_M_function; rw [hn]; rfl
    rw [← h2]; exact ok_t_M_function_0
  | 1, hn =>
    have h2 : td_t_M_function 1 = b := by unfold td_t_M_function; rw [hn]; rfl
    rw [← h2]; exact ok_t_M_function_1
  | 2, hn =>
    have h2 : td_t_M_function 2 = b := by unfold td_t_M_function; rw [hn]; rfl
    rw [← h2]; exact ok_t_M_function_2
  | 3, hn =>
    have h2 : td_t_M_function 3 = b := by unfold td_t_M_function; rw [hn]; rfl
    rw [← h2]; exact ok_t_M_function_3
  | 4, hn =>
    have h2 : td_t_M_function 4 = b := by unfold td_t_M_function; rw [hn]; rfl
    rw [← h2]; exact ok_t_M_function_4
  | 5, hn =>
    have h2 : td_t_M_function 5 = b := by unfold td_t_M_function; rw [hn]; rfl
    rw [← h2]; exact ok_t_M_function_5
  | 6, hn =>
    have h2 : td_t_M_function 6 = b := by unfold td_t_M_function; rw [hn]; rfl
    rw [← h2]; exact ok_t_M_function_6
  | 7, hn =>
    have h2 : td_t_M_function 7 = b := by unfold td_t_M_function; rw [hn]; rfl
    rw [← h2]; exact ok_t_M_function_7
  | 8, hn =>
    have h2 : td_t_M_function 8 = b := by unfold td_t_M_function; rw [hn]; rfl
    rw [← h2]; exact ok_t_M_function_8
  | n + 9, hn =>
    rw [pe_at_eq] at hn
    exact absurd (List.getElem?_eq_some_iff.mp hn).1 (by show ¬ n + 9 < 9; omega)
theorem ok_t_M_function : pe_okM (pe_GA []) pe_cl pe_ckA t_M_function = true := pe_okM_mk (pe_w_of (by rfl) (by rfl)) (by decide +kernel) ok_t_M_function_a
def td_t_X_code (k : Nat) : Nat × List pe_I := (pe_at t_X_code.bl k).getD (0, [])
set_option maxRecDepth 40000 in
theorem ok_t_X_code_0 : pe_ckB (pe_GA []) pe_cl pe_ckA t_X_code (td_t_X_code 0).1 (td_t_X_code 0).2 = true := by decide +kernel
set_option maxRecDepth 40000 in
theorem ok_t_X_code_1 : pe_ckB (pe_GA []) pe_cl pe_ckA t_X_code (td_t_X_code 1).1 (td_t_X_code 1).2 = true := by decide +kernel
set_option maxRecDepth 40000 in
theorem ok_t_X_code_2 : pe_ckB (pe_GA []) pe_cl pe_ckA t_X_code (td_t_X_code 2).1 (td_t_X_code 2).2 = true := by decide +kernel
set_option maxRecDepth 40000 in
theorem ok_t_X_code_3 : pe_ckB (pe_GA []) pe_cl pe_ckA t_X_code (td_t_X_code 3).1 (td_t_X_code 3).2 = true := by decide +kernel
set_option maxRecDepth 40000 in
theorem ok_t_X_code_4 : pe_ckB (pe_GA []) pe_cl pe_ckA t_X_code (td_t_X_code 4).1 (td_t_X_code 4).2 = true := by decide +kernel
set_option maxRecDepth 40000 in
theorem ok_t_X_code_5 : pe_ckB (pe_GA []) pe_cl pe_ckA t_X_code (td_t_X_code 5).1 (td_t_X_code 5).2 = true := by decide +kernel
set_option maxRecDepth 40000 in
theorem ok_t_X_code_6 : pe_ckB (pe_GA []) pe_cl pe_ckA t_X_code (td_t_X_code 6).1 (td_t_X_code 6).2 = true := by decide +kernel
theorem ok_t_X_code_a : ∀ b ∈ t_X_code.bl, pe_ckB (pe_GA []) pe_cl pe_ckA t_X_code b.1 b.2 = true := by
  intro b hb
  obtain ⟨n, hn⟩ := List.getElem?_of_mem hb
  rw [← pe_at_eq] at hn
  match n, hn with
  | 0, hn =>
    have h2 : td_t_X_code 0 = b := by unfold td_t_X_code; rw [hn]; rfl
    rw [← h2]; exact ok_t_X_code_0
  | 1, hn =>
    have h2 : td_t_X_code 1 = b := by unfold td_t_X_code; rw [hn]; rfl
    rw [← h2]; exact ok_t_X_code_1
  | 2, hn =>
    have h2 : td_t_X_code 2 = b := by unfold td_t_X_code; rw [hn]; rfl
    rw [← h2]; exact ok_t_X_code_2
  | 3, hn =>
    have h2 : td_t_X_code 3 = b := by unfold td_t_X_code; rw [hn]; rfl
    rw [← h2]; exact ok_t_X_code_3
  | 4, hn =>
    have h2 : td_t_X_code 4 = b := by unfold td_t_X_code; rw [hn]; rfl
    rw [← h2]; exact ok_t_X_code_4
  | 5, hn =>
    have h2 : td_t_X_code 5 = b := by unfold td_t_X_code; rw [hn]; rfl
    rw [← h2]; exact ok_t_X_code_5
  | 6, hn =>
    have h2 : td_t_X_code 6 = b := by unfold td_t_X_code; rw [hn]; rfl
    rw [← h2]; exact ok_t_X_code_6
  | n + 7, hn =>
    rw [pe_at_eq] at hn
    exact absurd (List.getElem?_eq_some_iff.mp hn).1 (by show ¬ n + 7 < 7; omega)
theorem ok_t_X_code : pe_okM (pe_GA []) pe_cl pe_ckA t_X_code = true := pe_okM_mk (pe_w_of (by rfl) (by rfl)) (by decide +kernel) ok_t_X_code_a
def td_t_M_code (k : Nat) : Nat × List pe_I := (pe_at t_M_code.bl k).getD (0, [])
set_option maxRecDepth 40000 in
theorem ok_t_M_code_0 : pe_ckB (pe_GA []) pe_cl pe_ckA t_M_code (td_t_M_code 0).1 (td_t_M_code 0).2 = true := by decide +kernel
set_option maxRecDepth 40000 in
theorem ok_t_M_code_1 : pe_ckB (pe_GA []) pe_cl pe_ckA t_M_code (td_t_M_code 1).1 (td_t_M_code 1).2 = true := by decide +kernel
set_option maxRecDepth 40000 in
theorem ok_t_M_code_2 : pe_ckB (pe_GA []) pe_cl pe_ckA t_M_code (td_t_M_code 2).1 (td_t_M_code 2).2 = true := by decide +kernel
set_option maxRecDepth 40000 in
theorem ok_t_M_code_3 : pe_ckB (pe_GA []) pe_cl pe_ckA t_M_code (td_t_M_code 3).1 (td_t_M_code 3).2 = true := by decide +kernel
set_option maxRecDepth 40000 in
theorem ok_t_M_code_4 : pe_ckB (pe_GA []) pe_cl pe_ckA t_M_code (td_t_M_code 4).1 (td_t_M_code 4).2 = true := by decide +kernel
set_option maxRecDepth 40000 in
theorem ok_t_M_code_5 : pe_ckB (pe_GA []) pe_cl pe_ckA t_M_code (td_t_M_code 5).1 (td_t_M_code 5).2 = true := by decide +kernel
set_option maxRecDepth 40000 in
theorem ok_t_M_code_6 : pe_ckB (pe_GA []) pe_cl pe_ckA t_M_code (td_t_M_code 6).1 (td_t_M_code 6).2 = true := by decide +kernel
theorem ok_t_M_code_a : ∀ b ∈ t_M_code.bl, pe_ckB (pe_GA []) pe_cl pe_ckA t_M_code b.1 b.2 = true := by
  intro b hb
  obtain ⟨n, hn⟩ := List.getElem?_of_mem hb
  rw [← pe_at_eq] at hn
  match n, hn with
  | 0, hn =>
    have h2 : td_t_M_code 0 = b := by unfold td_t_M_code; rw [hn]; rfl
    rw [← h2]; exact ok_t_M_code_0
  | 1, hn =>
    have h2 : td_t_M_code 1 = b := by unfold td_t_M_code; rw [hn]; rfl
    rw [← h2]; exact ok_t_M_code_1
  | 2, hn =>
    have h2 : td_t_M_code 2 = b := by unfold td_t_M_code; rw [hn]; rfl
    rw [← h2]; exact ok_t_M_code_2
  | 3, hn =>
    have h2 : td_t_M_code 3 = b := by unfold td_t_M_code; rw [hn]; rfl
    rw [← h2]; exact ok_t_M_code_3
  | 4, hn =>
    have h2 : td_t_M_code 4 = b := by unfold td_t_M_code; rw [hn]; rfl
    rw [← h2]; exact ok_t_M_code_4
  | 5, hn =>
    have h2 : td_t_M_code 5 = b := by unfold td_t_M_code; rw [hn]; rfl
    rw [← h2]; exact ok_t_M_code_5
  | 6, hn =>
    have h2 : td_t_M_code 6 = b := by unfold td_t_M_code; rw [hn]; rfl
    rw [← h2]; exact ok_t_M_code_6
  | n + 7, hn =>
    rw [pe_at_eq] at hn
    exact absurd (List.getElem?_eq_some_iff.mp hn).1 (by show ¬ n + 7 < 7; omega)
theorem ok_t_M_code : pe_okM (pe_GA []) pe_cl pe_ckA t_M_code = true := pe_okM_mk (pe_w_of (by rfl) (by rfl)) (by decide +kernel) ok_t_M_code_a
set_option maxRecDepth 40000 in
theorem ok_t_X_site : pe_okM (pe_GA []) pe_cl pe_ckA t_X_site = true := by decide +kernel
def td_t_M_site (k : Nat) : Nat × List pe_I := (pe_at t_M_site.bl k).getD (0, [])
set_option maxRecDepth 40000 in
theorem ok_t_M_site_0 : pe_ckB (pe_GA []) pe_cl pe_ckA t_M_site (td_t_M_site 0).1 (td_t_M_site 0).2 = true := by decide +kernel
set_option maxRecDepth 40000 in
theorem ok_t_M_site_1 : pe_ckB (pe_GA []) pe_cl pe_ckA t_M_site (td_t_M_site 1).1 (td_t_M_site 1).2 = true := by decide +kernel
set_option maxRecDepth 40000 in
theorem ok_t_M_site_2 : pe_ckB (pe_GA []) pe_cl pe_ckA t_M_site (td_t_M_site 2).1 (td_t_M_site 2).2 = true := by decide +kernel
set_option maxRecDepth 40000 in
theorem ok_t_M_site_3 : pe_ckB (pe_GA []) pe_cl pe_ckA t_M_site (td_t_M_site 3).1 (td_t_M_site 3).2 = true := by decide +kernel
set_option maxRecDepth 40000 in
theorem ok_t_M_site_4 : pe_ckB (pe_GA []) pe_cl pe_ckA t_M_site (td_t_M_site 4).1 (td_t_M_site 4).2 = true := by decide +kernel
set_option maxRecDepth 40000 in
theorem ok_t_M_site_5 : pe_ckB (pe_GA []) pe_cl pe_ckA t_M_site (td_t_M_site 5).1 (td_t_M_site 5).2 = true := by decide +kernel
set_option maxRecDepth 40000 in
theorem ok_t_M_site_6 : pe_ckB (pe_GA []) pe_cl pe_ckA t_M_site (td_t_M_site 6).1 (td_t_M_site 6).2 = true := by decide +kernel
set_option maxRecDepth 40000 in
theorem ok_t_M_site_7 : pe_ckB (pe_GA []) pe_cl pe_ckA t_M_site (td_t_M_site 7).1 (td_t_M_site 7).2 = true := by decide +kernel
set_option maxRecDepth 40000 in
theorem ok_t_M_site_8 : pe_ckB (pe_GA []) pe_cl pe_ckA t_M_site (td_t_M_site 8).1 (td_t_M_site 8).2 = true := by decide +kernel
set_option maxRecDepth 40000 in
theorem ok_t_M_site_9 : pe_ckB (pe_GA []) pe_cl pe_ckA t_M_site (td_t_M_site 9).1 (td_t_M_site 9).2 = true := by decide +kernel
set_option maxRecDepth 40000 in
theorem ok_t_M_site_10 : pe_ckB (pe_GA []) pe_cl pe_ckA t_M_site (td_t_M_site 10).1 (td_t_M_site 10).2 = true := by decide +kernel
set_option maxRecDepth 40000 in
theorem ok_t_M_site_11 : pe_ckB (pe_GA []) pe_cl pe_ckA t_M_site (td_t_M_site 11).1 (td_t_M_site 11).2 = true := by decide +kernel
set_option maxRecDepth 40000 in
theorem ok_t_M_site_12 : pe_ckB (pe_GA []) pe_cl pe_ckA t_M_site (td_t_M_site 12).1 (td_t_M_site 12).2 = true := by decide +kernel
set_option maxRecDepth 40000 in
theorem ok_t_M_site_13 : pe_ckB (pe_GA []) pe_cl pe_ckA t_M_site (td_t_M_site 13).1 (td_t_M_site 13).2 = true := by decide +kernel
set_option maxRecDepth 40000 in
theorem ok_t_M_site_14 : pe_ckB (pe_GA []) pe_cl pe_ckA t_M_site (td_t_M_site 14).1 (td_t_M_site 14).2 = true := by decide +kernel
set_option maxRecDepth 40000 in
theorem ok_t_M_site_15 : pe_ckB (pe_GA []) pe_cl pe_ckA t_M_site (td_t_M_site 15).1 (td_t_M_site 15).2 = true := by decide +kernel
theorem ok_t_M_site_a : ∀ b ∈ t_M_site.bl, pe_ckB (pe_GA []) pe_cl pe_ckA t_M_site b.1 b.2 = true := by
  intro b hb
  obtain ⟨n, hn⟩ := List.getElem?_of_mem hb
  rw [← pe_at_eq] at hn
  match n, hn with
  | 0, hn =>
    have h2 : td_t_M_site 0 = b := by unfold td_t_M_site; rw [hn]; rfl
    rw [← h2]; exact ok_t_M_site_0
  | 1, hn =>
    have h2 : td_t_M_site 1 = b := by unfold td_t_M_site; rw [hn]; rfl
    rw [← h2]; exact ok_t_M_site_1
  | 2, hn =>
    have h2 : td_t_M_site 2 = b := by unfold td_t_M_site; rw [hn]; rfl
    rw [← h2]; exact ok_t_M_site_2
  | 3, hn =>
    have h2 : td_t_M_site 3 = b := by unfold td_t_M_site; rw [hn]; rfl
    rw [← h2]; exact ok_t_M_site_3
  | 4, hn =>
    have h2 : td_t_M_site 4 = b := by unfold td_t_M_site; rw [hn]; rfl
    rw [← h2]; exact ok_t_M_site_4
  | 5, hn =>
    have h2 : td_t_M_site 5 = b := by unfold td_t_M_site; rw [hn]; rfl
    rw [← h2]; exact ok_t_M_site_5
  | 6, hn =>
    have h2 : td_t_M_site 6 = b := by unfold td_t_M_site; rw [hn]; rfl
    rw [← h2]; exact ok_t_M_site_6
  | 7, hn =>
    have h2 : td_t_M_site 7 = b := by unfold td_t_M_site; rw [hn]; rfl
    rw [← h2]; exact ok_t_M_site_7
  | 8, hn =>
    have h2 : td_t_M_site 8 = b := by unfold td_t_M_site; rw [hn]; rfl
    rw [← h2]; exact ok_t_M_site_8
  | 9, hn =>
    have h2 : td_t_M_site 9 = b := by unfold td_t_M_site; rw [hn]; rfl
    rw [← h2]; exact ok_t_M_site_9
  | 10, hn =>
    have h2 : td_t_M_site 10 = b := by unfold td_t_M_site; rw [hn]; rfl
    rw [← h2]; exact ok_t_M_site_10
  | 11, hn =>
    have h2 : td_t_M_site 11 = b := by unfold td_t_M_site; rw [hn]; rfl
    rw [← h2]; exact ok_t_M_site_11
  | 12, hn =>
    have h2 : td_t_M_site 12 = b := by unfold td_t_M_site; rw [hn]; rfl
    rw [← h2]; exact ok_t_M_site_12
  | 13, hn =>
    have h2 : td_t_M_site 13 = b := by unfold td_t_M_site; rw [hn]; rfl
    rw [← h2]; exact ok_t_M_site_13
  | 14, hn =>
    have h2 : td_t_M_site 14 = b := by unfold td_t_M_site; rw [hn]; rfl
    rw [← h2]; exact ok_t_M_site_14
  | 15, hn =>
    have h2 : td_t_M_site 15 = b := by unfold td_t_M_site; rw [hn]; rfl
    rw [← h2]; exact ok_t_M_site_15
  | n + 16, hn =>
    rw [pe_at_eq] at hn
    exact absurd (List.getElem?_eq_some_iff.mp hn).1 (by show ¬ n + 16 < 16; omega)
theorem ok_t_M_site : pe_okM (pe_GA []) pe_cl pe_ckA t_M_site = true := pe_okM_mk (pe_w_of (by rfl) (by rfl)) (by decide +kernel) ok_t_M_site_a
def td_t_X_entry (k : Nat) : Nat × List pe_I := (pe_at t_X_entry.bl k).getD (0, [])
set_option maxRecDepth 40000 in
theorem ok_t_X_entry_0 : pe_ckB (pe_GA []) pe_cl pe_ckA t_X_entry (td_t_X_entry 0).1 (td_t_X_entry 0).2 = true := by decide +kernel
set_option maxRecDepth 40000 in
theorem ok_t_X_entry_1 : pe_ckB (pe_GA []) pe_cl pe_ckA t_X_entry (td_t_X_entry 1).1 (td_t_X_entry 1).2 = true := by decide +kernel
set_option maxRecDepth 40000 in
theorem ok_t_X_entry_2 : pe_ckB (pe_GA []) pe_cl pe_ckA t_X_entry (td_t_X_entry 2).1 (td_t_X_entry 2).2 = true := by decide +kernel
set_option maxRecDepth 40000 in
theorem ok_t_X_entry_3 : pe_ckB (pe_GA []) pe_cl pe_ckA t_X_entry (td_t_X_entry 3).1 (td_t_X_entry 3).2 = true := by decide +kernel
set_option maxRecDepth 40000 in
theorem ok_t_X_entry_4 : pe_ckB (pe_GA []) pe_cl pe_ckA t_X_entry (td_t_X_entry 4).1 (td_t_X_entry 4).2 = true := by decide +kernel
set_option maxRecDepth 40000 in
theorem ok_t_X_entry_5 : pe_ckB (pe_GA []) pe_cl pe_ckA t_X_entry (td_t_X_entry 5).1 (td_t_X_entry 5).2 = true := by decide +kernel
set_option maxRecDepth 40000 in
theorem ok_t_X_entry_6 : pe_ckB (pe_GA []) pe_cl pe_ckA t_X_entry (td_t_X_entry 6).1 (td_t_X_entry 6).2 = true := by decide +kernel
set_option maxRecDepth 40000 in
theorem ok_t_X_entry_7 : pe_ckB (pe_GA []) pe_cl pe_ckA t_X_entry (td_t_X_entry 7).1 (td_t_X_entry 7).2 = true := by decide +kernel
set_option maxRecDepth 40000 in
theorem ok_t_X_entry_8 : pe_ckB (pe_GA []) pe_cl pe_ckA t_X_entry (td_t_X_entry 8).1 (td_t_X_entry 8).2 = true := by decide +kernel
set_option maxRecDepth 40000 in
theorem ok_t_X_entry_9 : pe_ckB (pe_GA []) pe_cl pe_ckA t_X_entry (td_t_X_entry 9).1 (td_t_X_entry 9).2 = true := by decide +kernel
set_option maxRecDepth 40000 in
theorem ok_t_X_entry_10 : pe_ckB (pe_GA []) pe_cl pe_ckA t_X_entry (td_t_X_entry 10).1 (td_t_X_entry 10).2 = true := by decide +kernel
theorem ok_t_X_entry_a : ∀ b ∈ t_X_entry.bl, pe_ckB (pe_GA []) pe_cl pe_ckA t_X_entry b.1 b.2 = true := by
  intro b hb
  obtain ⟨n, hn⟩ := List.getElem?_of_mem hb
  rw [← pe_at_eq] at hn
  match n, hn with
  | 0, hn =>
    have h2 : td_t_X_entry 0 = b := by unfold td_t_X_entry; rw [hn]; rfl
    rw [← h2]; exact ok_t_X_entry_0
  | 1, hn =>
    have h2 : td_t_X_entry 1 = b := by unfold td_t_X_entry; rw [hn]; rfl
    rw [← h2]; exact ok_t_X_entry_1
  | 2, hn =>
    have h2 : td_t_X_entry 2 = b := by unfold td_t_X_entry; rw [hn]; rfl
    rw [← h2]; exact ok_t_X_entry_2
  | 3, hn =>
    have h2 : td_t_X_entry 3 = b := by unfold td_t_X_entry; rw [hn]; rfl
    rw [← h2]; exact ok_t_X_entry_3
  | 4, hn =>
    have h2 : td_t_X_entry 4 = b := by unfold td_t_X_entry; rw [hn]; rfl
    rw [← h2]; exact ok_t_X_entry_4
  | 5, hn =>
    have h2 : td_t_X_entry 5 = b := by unfold td_t_X_entry; rw [hn]; rfl
    rw [← h2]; exact ok_t_X_entry_5
  | 6, hn =>
    have h2 : td_t_X_entry 6 = b := by unfold td_t_X_entry; rw [hn]; rfl
    rw [← h2]; exact ok_t_X_entry_6
  | 7, hn =>
    have h2 : td_t_X_entry 7 = b := by unfold td_t_X_entry; rw [hn]; rfl
    rw [← h2]; exact ok_t_X_entry_7
  | 8, hn =>
    have h2 : td_t_X_entry 8 = b := by unfold td_t_X_entry; rw [hn]; rfl
    rw [← h2]; exact ok_t_X_entry_8
  | 9, hn =>
    have h2 : td_t_X_entry 9 = b := by unfold td_t_X_entry; rw [hn]; rfl
    rw [← h2]; exact ok_t_X_entry_9
  | 10, hn =>
    have h2 : td_t_X_entry 10 = b := by unfold td_t_X_entry; rw [hn]; rfl
    rw [← h2]; exact ok_t_X_entry_10
  | n + 11, hn =>
    rw [pe_at_eq] at hn
    exact absurd (List.getElem?_eq_some_iff.mp hn).1 (by show ¬ n + 11 < 11; omega)
theorem ok_t_X_entry : pe_okM (pe_GA []) pe_cl pe_ckA t_X_entry = true := pe_okM_mk (pe_w_of (by rfl) (by rfl)) (by decide +kernel) ok_t_X_entry_a
def td_t_M_entry (k : Nat) : Nat × List pe_I := (pe_at t_M_entry.bl k).getD (0, [])
set_option maxRecDepth 40000 in
theorem ok_t_M_entry_0 : pe_ckB (pe_GA []) pe_cl pe_ckA t_M_entry (td_t_M_entry 0).1 (td_t_M_entry 0).2 = true := by decide +kernel
set_option maxRecDepth 40000 in
theorem ok_t_M_entry_1 : pe_ckB (pe_GA []) pe_cl pe_ckA t_M_entry (td_t_M_entry 1).1 (td_t_M_entry 1).2 = true := by decide +kernel
set_option maxRecDepth 40000 in
theorem ok_t_M_entry_2 : pe_ckB (pe_GA []) pe_cl pe_ckA t_M_entry (td_t_M_entry 2).1 (td_t_M_entry 2).2 = true := by decide +kernel
set_option maxRecDepth 40000 in
theorem ok_t_M_entry_3 : pe_ckB (pe_GA []) pe_cl pe_ckA t_M_entry (td_t_M_entry 3).1 (td_t_M_entry 3).2 = true := by decide +kernel
set_option maxRecDepth 40000 in
theorem ok_t_M_entry_4 : pe_ckB (pe_GA []) pe_cl pe_ckA t_M_entry (td_t_M_entry 4).1 (td_t_M_entry 4).2 = true := by decide +kernel
set_option maxRecDepth 40000 in
theorem ok_t_M_entry_5 : pe_ckB (pe_GA []) pe_cl pe_ckA t_M_entry (td_t_M_entry 5).1 (td_t_M_entry 5).2 = true := by decide +kernel
set_option maxRecDepth 40000 in
theorem ok_t_M_entry_6 : pe_ckB (pe_GA []) pe_cl pe_ckA t_M_entry (td_t_M_entry 6).1 (td_t_M_entry 6).2 = true := by decide +kernel
set_option maxRecDepth 40000 in
theorem ok_t_M_entry_7 : pe_ckB (pe_GA []) pe_cl pe_ckA t_M_entry (td_t_M_entry 7).1 (td_t_M_entry 7).2 = true := by decide +kernel
set_option maxRecDepth 40000 in
theorem ok_t_M_entry_8 : pe_ckB (pe_GA []) pe_cl pe_ckA t_M_entry (td_t_M_entry 8).1 (td_t_M_entry 8).2 = true := by decide +kernel
set_option maxRecDepth 40000 in
theorem ok_t_M_entry_9 : pe_ckB (pe_GA []) pe_cl pe_ckA t_M_entry (td_t_M_entry 9).1 (td_t_M_entry 9).2 = true := by decide +kernel
set_option maxRecDepth 40000 in
theorem ok_t_M_entry_10 : pe_ckB (pe_GA []) pe_cl pe_ckA t_M_entry (td_t_M_entry 10).1 (td_t_M_entry 10).2 = true := by decide +kernel
set_option maxRecDepth 40000 in
theorem ok_t_M_entry_11 : pe_ckB (pe_GA []) pe_cl pe_ckA t_M_entry (td_t_M_entry 11).1 (td_t_M_entry 11).2 = true := by decide +kernel
theorem ok_t_M_entry_a : ∀ b ∈ t_M_entry.bl, pe_ckB (pe_GA []) pe_cl pe_ckA t_M_entry b.1 b.2 = true := by
  intro b hb
  obtain ⟨n, hn⟩ := List.getElem?_of_mem hb
  rw [← pe_at_eq] at hn
  match n, hn with
  | 0, hn =>
    have h2 : td_t_M_entry 0 = b := by unfold td_t_M_entry; rw [hn]; rfl
    rw [← h2]; exact ok_t_M_entry_0
  | 1, hn =>
    have h2 : td_t_M_entry 1 = b := by unfold td_t_M_entry; rw [hn]; rfl
    rw [← h2]; exact ok_t_M_entry_1
  | 2, hn =>
    have h2 : td_t_M_entry 2 = b := by unfold td_t_M_entry; rw [hn]; rfl
    rw [← h2]; exact ok_t_M_entry_2
  | 3, hn =>
    have h2 : td_t_M_entry 3 = b := by unfold td_t_M_entry; rw [hn]; rfl
    rw [← h2]; exact ok_t_M_entry_3
  | 4, hn =>
    have h2 : td_t_M_entry 4 = b := by unfold td_t_M_entry; rw [hn]; rfl
    rw [← h2]; exact ok_t_M_entry_4
  | 5, hn =>
    have h2 : td_t_M_entry 5 = b := by unfold td_t_M_entry; rw [hn]; rfl
    rw [← h2]; exact ok_t_M_entry_5
  | 6, hn =>
    have h2 : td_t_M_entry 6 = b := by unfold td_t_M_entry; rw [hn]; rfl
    rw [← h2]; exact ok_t_M_entry_6
  | 7, hn =>
    have h2 : td_t_M_entry 7 = b := by unfold td_t_M_entry; rw [hn]; rfl
    rw [← h2]; exact ok_t_M_entry_7
  | 8, hn =>
    have h2 : td_t_M_entry 8 = b := by unfold td_t_M_entry; rw [hn]; rfl
    rw [← h2]; exact ok_t_M_entry_8
  | 9, hn =>
    have h2 : td_t_M_entry 9 = b := by unfold td_t_M_entry; rw [hn]; rfl
    rw [← h2]; exact ok_t_M_entry_9
  | 10, hn =>
    have h2 : td_t_M_entry 10 = b := by unfold td_t_M_entry; rw [hn]; rfl
    rw [← h2]; exact ok_t_M_entry_10
  | 11, hn =>
    have h2 : td_t_M_entry 11 = b := by unfold td_t_M_entry; rw [hn]; rfl
    rw [← h2]; exact ok_t_M_entry_11
  | n + 12, hn =>
    rw [pe_at_eq] at hn
    exact absurd (List.getElem?_eq_some_iff.mp hn).1 (by show ¬ n + 12 < 12; omega)
theorem ok_t_M_entry : pe_okM (pe_GA []) pe_cl pe_ckA t_M_entry = true := pe_okM_mk (pe_w_of (by rfl) (by rfl)) (by decide +kernel) ok_t_M_entry_a
set_option maxRecDepth 40000 in
theorem ok_t_X_name : pe_okM (pe_GA []) pe_cl pe_ckA t_X_name = true := by decide +kernel
set_option maxRecDepth 40000 in
theorem ok_t_M_name : pe_okM (pe_GA []) pe_cl pe_ckA t_M_name = true := by decide +kernel
set_option maxRecDepth 40000 in
theorem ok_t_X_start : pe_okM (pe_GA []) pe_cl pe_ckA t_X_start = true := by decide +kernel
set_option maxRecDepth 40000 in
theorem ok_t_M_start : pe_okM (pe_GA []) pe_cl pe_ckA t_M_start = true := by decide +kernel
