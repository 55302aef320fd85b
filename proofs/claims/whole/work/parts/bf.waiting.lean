/-! PART bf: the Compiler's fronts, and operators that wait. -/
section Wbf
variable {xs : List (Nat × List Int32)} {M : Nat → Prop} {d : Nat} {A B C S Z : wS} {Q : wO → wS → Prop} {T : Int → Int} {n : Int} {N X : List (List Int)} {c i : Nat} {f u w : Int} {I : List pz_I} {F : List pz_F}
theorem lv_c (k : Int) : (k = 34 ∧ pz_lv k = 1) ∨ (k = 33 ∧ pz_lv k = 2) ∨ (k ≠ 34 ∧ k ≠ 33 ∧ (pz_lv k = 0 ∨ 3 ≤ pz_lv k)) := by
  unfold pz_lv
  repeat' split
  all_goals omega
theorem or_rg {k : Int} (h : 3 ≤ pz_lv k) : 7 ≤ pz_or k ∧ pz_or k ≤ 19 := by
  have h1 : k = 29 ∨ k = 30 ∨ k = 21 ∨ k = 31 ∨ k = 22 ∨ k = 32 ∨ k = 23 ∨ k = 24 ∨ k = 25 ∨ k = 26 ∨ k = 27 := by
    unfold pz_lv at h
    repeat' (split at h)
    all_goals omega
  rcases h1 with rfl | rfl | rfl | rfl | rfl | rfl | rfl | rfl | rfl | rfl | rfl <;> decide
/-- fronts that wait from w on -/
def wf_I (Z : wS) (w : Int) : List Int → Prop
  | [] => True
  | k :: L => Z 71 (w + 2 * (L.length : Int)) = k ∧ wf_I Z w L
theorem wf_ag {w : Int} : ∀ L : List Int, (∀ x : Int, x < w + 2 * (L.length : Int) → Z 71 x = S 71 x) → wf_I S w L → wf_I Z w L
  | [], _, _ => trivial
  | k :: L, e, h => ⟨(e _ (by have : ((k :: L).length : Int) = (L.length : Int) + 1 := rfl; omega)).trans h.1, wf_ag L (fun x hx => e x (by have : ((k :: L).length : Int) = (L.length : Int) + 1 := rfl; omega)) h.2⟩
/-- operators that wait from w on -/
def wt_I (Z : wS) (w : Int) : List (Int × Nat) → Prop
  | [] => True
  | x :: W => Z 71 (w + 2 * (W.length : Int)) = x.1 ∧ Z 71 (w + 2 * (W.length : Int) + 1) = (x.2 : Int) ∧ wt_I Z w W
theorem wt_ag {w : Int} : ∀ W : List (Int × Nat), (∀ x : Int, x < w + 2 * (W.length : Int) → Z 71 x = S 71 x) → wt_I S w W → wt_I Z w W
  | [], _, _ => trivial
  | y :: W, e, h => ⟨(e _ (by have : ((y :: W).length : Int) = (W.length : Int) + 1 := rfl; omega)).trans h.1, (e _ (by have : ((y :: W).length : Int) = (W.length : Int) + 1 := rfl; omega)).trans h.2.1, wt_ag W (fun x hx => e x (by have : ((y :: W).length : Int) = (W.length : Int) + 1 := rfl; omega)) h.2.2⟩
theorem cQg_71 {m w x : Int} (h : cQg f m w S Z) (hx : x < w) : Z 71 x = S 71 x := h.1 71 x (by decide) (by decide) (by decide) (by decide) (Or.inr hx) (Or.inl (by decide)) (Or.inr (Or.inl (by decide)))
theorem w_up_id (j : Nat) (x : Int) : w_up S j x (S j x) = S := by
  funext k y
  unfold w_up
  split
  · rename_i h; rw [h.1, h.2]
  · rfl
theorem lv_q {k : Int} (hk : -2147483648 ≤ k ∧ k ≤ 2147483647) : wJ (pe_GA xs) wY0 M d t_XP_levelOf ((pe_at t_XP_levelOf.bl 0).getD (0, [])).2 [(0, (0, k))] [] S (fun o Z => S = Z ∧ o = .inl (some (0, pz_lv k))) := by
  refine wa_iload_n (n := 0) rfl ?_
  by_cases c101 : k = 21
  · refine wb_sw (w_rg0 (by omega) (by omega)) (tb := 4) (by rw [c101]; rfl) ⟨_, rfl⟩ ?_
    refine wa_iconst ?_
    refine wa_ireturn rfl ?_
    exact ⟨rfl, congrArg (fun z => Sum.inl (some (0, z))) (by unfold pz_lv; (repeat first | rw [if_pos (by omega)] | rw [if_neg (by omega)]); all_goals rfl)⟩
  by_cases c102 : k = 22
  · refine wb_sw (w_rg0 (by omega) (by omega)) (tb := 4) (by rw [c102]; rfl) ⟨_, rfl⟩ ?_
    refine wa_iconst ?_
    refine wa_ireturn rfl ?_
    exact ⟨rfl, congrArg (fun z => Sum.inl (some (0, z))) (by unfold pz_lv; (repeat first | rw [if_pos (by omega)] | rw [if_neg (by omega)]); all_goals rfl)⟩
  by_cases c103 : k = 23
  · refine wb_sw (w_rg0 (by omega) (by omega)) (tb := 5) (by rw [c103]; rfl) ⟨_, rfl⟩ ?_
    refine wa_iconst ?_
    refine wa_ireturn rfl ?_
    exact ⟨rfl, congrArg (fun z => Sum.inl (some (0, z))) (by unfold pz_lv; (repeat first | rw [if_pos (by omega)] | rw [if_neg (by omega)]); all_goals rfl)⟩
  by_cases c104 : k = 24
  · refine wb_sw (w_rg0 (by omega) (by omega)) (tb := 5) (by rw [c104]; rfl) ⟨_, rfl⟩ ?_
    refine wa_iconst ?_
    refine wa_ireturn rfl ?_
    exact ⟨rfl, congrArg (fun z => Sum.inl (some (0, z))) (by unfold pz_lv; (repeat first | rw [if_pos (by omega)] | rw [if_neg (by omega)]); all_goals rfl)⟩
  by_cases c105 : k = 25
  · refine wb_sw (w_rg0 (by omega) (by omega)) (tb := 6) (by rw [c105]; rfl) ⟨_, rfl⟩ ?_
    refine wa_bipush (w_rg2 (by omega) (by omega)) ?_
    refine wa_ireturn rfl ?_
    exact ⟨rfl, congrArg (fun z => Sum.inl (some (0, z))) (by unfold pz_lv; (repeat first | rw [if_pos (by omega)] | rw [if_neg (by omega)]); all_goals rfl)⟩
  by_cases c106 : k = 26
  · refine wb_sw (w_rg0 (by omega) (by omega)) (tb := 6) (by rw [c106]; rfl) ⟨_, rfl⟩ ?_
    refine wa_bipush (w_rg2 (by omega) (by omega)) ?_
    refine wa_ireturn rfl ?_
    exact ⟨rfl, congrArg (fun z => Sum.inl (some (0, z))) (by unfold pz_lv; (repeat first | rw [if_pos (by omega)] | rw [if_neg (by omega)]); all_goals rfl)⟩
  by_cases c107 : k = 27
  · refine wb_sw (w_rg0 (by omega) (by omega)) (tb := 6) (by rw [c107]; rfl) ⟨_, rfl⟩ ?_
    refine wa_bipush (w_rg2 (by omega) (by omega)) ?_
    refine wa_ireturn rfl ?_
    exact ⟨rfl, congrArg (fun z => Sum.inl (some (0, z))) (by unfold pz_lv; (repeat first | rw [if_pos (by omega)] | rw [if_neg (by omega)]); all_goals rfl)⟩
  by_cases c108 : k = 28
  · refine wb_sw (w_rg0 (by omega) (by omega)) (tb := 7) (by rw [c108]; rfl) ⟨_, rfl⟩ ?_
    refine wa_iconst ?_
    refine wa_ireturn rfl ?_
    exact ⟨rfl, congrArg (fun z => Sum.inl (some (0, z))) (by unfold pz_lv; (repeat first | rw [if_pos (by omega)] | rw [if_neg (by omega)]); all_goals rfl)⟩
  by_cases c109 : k = 29
  · refine wb_sw (w_rg0 (by omega) (by omega)) (tb := 3) (by rw [c109]; rfl) ⟨_, rfl⟩ ?_
    refine wa_iconst ?_
    refine wa_ireturn rfl ?_
    exact ⟨rfl, congrArg (fun z => Sum.inl (some (0, z))) (by unfold pz_lv; (repeat first | rw [if_pos (by omega)] | rw [if_neg (by omega)]); all_goals rfl)⟩
  by_cases c110 : k = 30
  · refine wb_sw (w_rg0 (by omega) (by omega)) (tb := 3) (by rw [c110]; rfl) ⟨_, rfl⟩ ?_
    refine wa_iconst ?_
    refine wa_ireturn rfl ?_
    exact ⟨rfl, congrArg (fun z => Sum.inl (some (0, z))) (by unfold pz_lv; (repeat first | rw [if_pos (by omega)] | rw [if_neg (by omega)]); all_goals rfl)⟩
  by_cases c111 : k = 31
  · refine wb_sw (w_rg0 (by omega) (by omega)) (tb := 4) (by rw [c111]; rfl) ⟨_, rfl⟩ ?_
    refine wa_iconst ?_
    refine wa_ireturn rfl ?_
    exact ⟨rfl, congrArg (fun z => Sum.inl (some (0, z))) (by unfold pz_lv; (repeat first | rw [if_pos (by omega)] | rw [if_neg (by omega)]); all_goals rfl)⟩
  by_cases c112 : k = 32
  · refine wb_sw (w_rg0 (by omega) (by omega)) (tb := 4) (by rw [c112]; rfl) ⟨_, rfl⟩ ?_
    refine wa_iconst ?_
    refine wa_ireturn rfl ?_
    exact ⟨rfl, congrArg (fun z => Sum.inl (some (0, z))) (by unfold pz_lv; (repeat first | rw [if_pos (by omega)] | rw [if_neg (by omega)]); all_goals rfl)⟩
  by_cases c113 : k = 33
  · refine wb_sw (w_rg0 (by omega) (by omega)) (tb := 2) (by rw [c113]; rfl) ⟨_, rfl⟩ ?_
    refine wa_iconst ?_
    refine wa_ireturn rfl ?_
    exact ⟨rfl, congrArg (fun z => Sum.inl (some (0, z))) (by unfold pz_lv; (repeat first | rw [if_pos (by omega)] | rw [if_neg (by omega)]); all_goals rfl)⟩
  by_cases c114 : k = 34
  · refine wb_sw (w_rg0 (by omega) (by omega)) (tb := 1) (by rw [c114]; rfl) ⟨_, rfl⟩ ?_
    refine wa_iconst ?_
    refine wa_ireturn rfl ?_
    exact ⟨rfl, congrArg (fun z => Sum.inl (some (0, z))) (by unfold pz_lv; (repeat first | rw [if_pos (by omega)] | rw [if_neg (by omega)]); all_goals rfl)⟩
  refine wb_sw (w_rg0 (by omega) (by omega)) (tb := 7) (w_tb_df (by simp only [List.length_cons, List.length_nil]; omega)) ⟨_, rfl⟩ ?_
  refine wa_iconst ?_
  refine wa_ireturn rfl ?_
  exact ⟨rfl, congrArg (fun z => Sum.inl (some (0, z))) (by unfold pz_lv; (repeat first | rw [if_pos (by omega)] | rw [if_neg (by omega)]); all_goals rfl)⟩
theorem or_q {k : Int} (hk : -2147483648 ≤ k ∧ k ≤ 2147483647) : wJ (pe_GA xs) wY0 M d t_XP_operatorOf ((pe_at t_XP_operatorOf.bl 0).getD (0, [])).2 [(0, (0, k))] [] S (fun o Z => S = Z ∧ o = .inl (some (0, pz_or k))) := by
  refine wa_iload_n (n := 0) rfl ?_
  by_cases c101 : k = 21
  · refine wb_sw (w_rg0 (by omega) (by omega)) (tb := 3) (by rw [c101]; rfl) ⟨_, rfl⟩ ?_
    refine wa_bipush (w_rg2 (by omega) (by omega)) ?_
    refine wa_ireturn rfl ?_
    exact ⟨rfl, congrArg (fun z => Sum.inl (some (0, z))) (by unfold pz_or; (repeat first | rw [if_pos (by omega)] | rw [if_neg (by omega)]); all_goals rfl)⟩
  by_cases c102 : k = 22
  · refine wb_sw (w_rg0 (by omega) (by omega)) (tb := 5) (by rw [c102]; rfl) ⟨_, rfl⟩ ?_
    refine wa_bipush (w_rg2 (by omega) (by omega)) ?_
    refine wa_ireturn rfl ?_
    exact ⟨rfl, congrArg (fun z => Sum.inl (some (0, z))) (by unfold pz_or; (repeat first | rw [if_pos (by omega)] | rw [if_neg (by omega)]); all_goals rfl)⟩
  by_cases c103 : k = 23
  · refine wb_sw (w_rg0 (by omega) (by omega)) (tb := 7) (by rw [c103]; rfl) ⟨_, rfl⟩ ?_
    refine wa_bipush (w_rg2 (by omega) (by omega)) ?_
    refine wa_iload_n (n := 0) rfl ?_
    refine wa_iadd ?_
    refine wa_bipush (w_rg2 (by omega) (by omega)) ?_
    refine wa_isub ?_
    refine wa_ireturn rfl ?_
    exact ⟨rfl, congrArg (fun z => Sum.inl (some (0, z))) (by unfold pz_or; (repeat first | rw [if_pos (by omega)] | rw [if_neg (by omega)]); all_goals rfl)⟩
  by_cases c104 : k = 24
  · refine wb_sw (w_rg0 (by omega) (by omega)) (tb := 7) (by rw [c104]; rfl) ⟨_, rfl⟩ ?_
    refine wa_bipush (w_rg2 (by omega) (by omega)) ?_
    refine wa_iload_n (n := 0) rfl ?_
    refine wa_iadd ?_
    refine wa_bipush (w_rg2 (by omega) (by omega)) ?_
    refine wa_isub ?_
    refine wa_ireturn rfl ?_
    exact ⟨rfl, congrArg (fun z => Sum.inl (some (0, z))) (by unfold pz_or; (repeat first | rw [if_pos (by omega)] | rw [if_neg (by omega)]); all_goals rfl)⟩
  by_cases c105 : k = 25
  · refine wb_sw (w_rg0 (by omega) (by omega)) (tb := 7) (by rw [c105]; rfl) ⟨_, rfl⟩ ?_
    refine wa_bipush (w_rg2 (by omega) (by omega)) ?_
    refine wa_iload_n (n := 0) rfl ?_
    refine wa_iadd ?_
    refine wa_bipush (w_rg2 (by omega) (by omega)) ?_
    refine wa_isub ?_
    refine wa_ireturn rfl ?_
    exact ⟨rfl, congrArg (fun z => Sum.inl (some (0, z))) (by unfold pz_or; (repeat first | rw [if_pos (by omega)] | rw [if_neg (by omega)]); all_goals rfl)⟩
  by_cases c106 : k = 26
  · refine wb_sw (w_rg0 (by omega) (by omega)) (tb := 7) (by rw [c106]; rfl) ⟨_, rfl⟩ ?_
    refine wa_bipush (w_rg2 (by omega) (by omega)) ?_
    refine wa_iload_n (n := 0) rfl ?_
    refine wa_iadd ?_
    refine wa_bipush (w_rg2 (by omega) (by omega)) ?_
    refine wa_isub ?_
    refine wa_ireturn rfl ?_
    exact ⟨rfl, congrArg (fun z => Sum.inl (some (0, z))) (by unfold pz_or; (repeat first | rw [if_pos (by omega)] | rw [if_neg (by omega)]); all_goals rfl)⟩
  by_cases c107 : k = 27
  · refine wb_sw (w_rg0 (by omega) (by omega)) (tb := 7) (by rw [c107]; rfl) ⟨_, rfl⟩ ?_
    refine wa_bipush (w_rg2 (by omega) (by omega)) ?_
    refine wa_iload_n (n := 0) rfl ?_
    refine wa_iadd ?_
    refine wa_bipush (w_rg2 (by omega) (by omega)) ?_
    refine wa_isub ?_
    refine wa_ireturn rfl ?_
    exact ⟨rfl, congrArg (fun z => Sum.inl (some (0, z))) (by unfold pz_or; (repeat first | rw [if_pos (by omega)] | rw [if_neg (by omega)]); all_goals rfl)⟩
  by_cases c108 : k = 28
  · refine wb_sw (w_rg0 (by omega) (by omega)) (tb := 7) (by rw [c108]; rfl) ⟨_, rfl⟩ ?_
    refine wa_bipush (w_rg2 (by omega) (by omega)) ?_
    refine wa_iload_n (n := 0) rfl ?_
    refine wa_iadd ?_
    refine wa_bipush (w_rg2 (by omega) (by omega)) ?_
    refine wa_isub ?_
    refine wa_ireturn rfl ?_
    exact ⟨rfl, congrArg (fun z => Sum.inl (some (0, z))) (by unfold pz_or; (repeat first | rw [if_pos (by omega)] | rw [if_neg (by omega)]); all_goals rfl)⟩
  by_cases c109 : k = 29
  · refine wb_sw (w_rg0 (by omega) (by omega)) (tb := 1) (by rw [c109]; rfl) ⟨_, rfl⟩ ?_
    refine wa_bipush (w_rg2 (by omega) (by omega)) ?_
    refine wa_ireturn rfl ?_
    exact ⟨rfl, congrArg (fun z => Sum.inl (some (0, z))) (by unfold pz_or; (repeat first | rw [if_pos (by omega)] | rw [if_neg (by omega)]); all_goals rfl)⟩
  by_cases c110 : k = 30
  · refine wb_sw (w_rg0 (by omega) (by omega)) (tb := 2) (by rw [c110]; rfl) ⟨_, rfl⟩ ?_
    refine wa_bipush (w_rg2 (by omega) (by omega)) ?_
    refine wa_ireturn rfl ?_
    exact ⟨rfl, congrArg (fun z => Sum.inl (some (0, z))) (by unfold pz_or; (repeat first | rw [if_pos (by omega)] | rw [if_neg (by omega)]); all_goals rfl)⟩
  by_cases c111 : k = 31
  · refine wb_sw (w_rg0 (by omega) (by omega)) (tb := 4) (by rw [c111]; rfl) ⟨_, rfl⟩ ?_
    refine wa_bipush (w_rg2 (by omega) (by omega)) ?_
    refine wa_ireturn rfl ?_
    exact ⟨rfl, congrArg (fun z => Sum.inl (some (0, z))) (by unfold pz_or; (repeat first | rw [if_pos (by omega)] | rw [if_neg (by omega)]); all_goals rfl)⟩
  by_cases c112 : k = 32
  · refine wb_sw (w_rg0 (by omega) (by omega)) (tb := 6) (by rw [c112]; rfl) ⟨_, rfl⟩ ?_
    refine wa_bipush (w_rg2 (by omega) (by omega)) ?_
    refine wa_ireturn rfl ?_
    exact ⟨rfl, congrArg (fun z => Sum.inl (some (0, z))) (by unfold pz_or; (repeat first | rw [if_pos (by omega)] | rw [if_neg (by omega)]); all_goals rfl)⟩
  refine wb_sw (w_rg0 (by omega) (by omega)) (tb := 7) (w_tb_df (by simp only [List.length_cons, List.length_nil]; omega)) ⟨_, rfl⟩ ?_
  refine wa_bipush (w_rg2 (by omega) (by omega)) ?_
  refine wa_iload_n (n := 0) rfl ?_
  refine wa_iadd ?_
  refine wa_bipush (w_rg2 (by omega) (by omega)) ?_
  refine wa_isub ?_
  refine wa_ireturn rfl ?_
  exact ⟨rfl, congrArg (fun z => Sum.inl (some (0, z))) (by unfold pz_or; (repeat first | rw [if_pos (by omega)] | rw [if_neg (by omega)]); all_goals rfl)⟩
theorem aw_q {k j : Int} (h : cQ T n N X c f u w i I F S) (hw : w + 2 ≤ 1024) (hk : -2147483648 ≤ k ∧ k ≤ 2147483647) (hj : -2147483648 ≤ j ∧ j ≤ 2147483647) : wJ (pe_GA xs) wY0 M (d + 7) t_XP_await ((pe_at t_XP_await.bl 0).getD (0, [])).2 [(0, (2, 63)), (1, (0, k)), (2, (0, j))] [] S (fun o Z => o = .inl none ∧ cQ T n N X c f u (w + 2) i I F Z ∧ (Z 71 w = k ∧ Z 71 (w + 1) = j) ∧ (∀ m : Int, cQg f m w S Z) ∧ (Z 63 16 = S 63 16)) := by
  have hwr := cQ_wr h
  refine wa_aload_n (n := 0) rfl ?_
  refine wb_gfi 63 rfl (wy_pr rfl) wt_63 wf_1_15 (v := w) ((cQ_15 h)) (fun r101 => ?_)
  refine wa_iconst ?_
  refine wa_iadd ?_
  refine wa_aload_n (n := 0) rfl ?_
  refine wb_gf4 63 rfl (wy_pr rfl) wt_63 wf_1_14 (v := 71) wl_63_14 ?_
  refine wb_alen 71 rfl (wy_pr rfl) (by rw [wt_71]; rfl) (v := 1024) ((cl_71 h.2.1.2)) (fun r102 => ?_)
  refine wa_icmple (w_rg0 (by omega) (by omega)) (w_rg0 (by omega) (by omega)) ⟨_, rfl⟩ (fun c103 => ?_) (fun c103 => ?_)
  · skip
    refine wa_aload_n (n := 0) rfl ?_
    refine wb_gf4 63 rfl (wy_pr rfl) wt_63 wf_1_14 (v := 71) wl_63_14 ?_
    refine wa_aload_n (n := 0) rfl ?_
    refine wb_gfi 63 rfl (wy_pr rfl) wt_63 wf_1_15 (v := w) ((cQ_15 h)) (fun r104 => ?_)
    refine wa_iload_n (n := 1) rfl ?_
    refine wb_iast 71 rfl (wy_pr rfl) wt_71 (n := 1024) ((cl_71 h.2.1.2)) (by omega) (by omega) ⟨(by omega), (by omega)⟩ ?_
    refine wa_aload_n (n := 0) rfl ?_
    refine wb_gf4 63 rfl (wy_pr rfl) wt_63 wf_1_14 (v := 71) wl_63_14 ?_
    refine wa_aload_n (n := 0) rfl ?_
    refine wb_gfi 63 rfl (wy_pr rfl) wt_63 wf_1_15 (v := w) ((w_up_slot (by decide)).trans ((cQ_15 h))) (fun r105 => ?_)
    refine wa_iconst ?_
    refine wa_iadd ?_
    refine wa_iload_n (n := 2) rfl ?_
    refine wb_iast 71 rfl (wy_pr rfl) wt_71 (n := 1024) ((w_up_at (by omega)).trans ((cl_71 h.2.1.2))) (by omega) (by omega) ⟨(by omega), (by omega)⟩ ?_
    refine wa_aload_n (n := 0) rfl ?_
    refine wa_dup (by decide) ?_
    refine wb_gfi 63 rfl (wy_pr rfl) wt_63 wf_1_15 (v := w) ((w_up_slot (by decide)).trans ((w_up_slot (by decide)).trans ((cQ_15 h)))) (fun r106 => ?_)
    refine wa_iconst ?_
    refine wa_iadd ?_
    refine wb_pfi 63 rfl (wy_pr rfl) wt_63 wf_1_15 (n := 15) rfl ⟨(by omega), (by omega)⟩ ?_
    refine wa_return rfl ?_
    exact ⟨rfl, cQ_w (cQ_71 (cQ_71 h (by omega)) (by omega)) ⟨by omega, by omega⟩, ⟨((w_up_slot (by decide)).trans ((w_up_at (by omega)).trans (w_up_same _ _ _ _))), ((w_up_slot (by decide)).trans (w_up_same _ _ _ _))⟩, fun m => cQg_tr (cQg_tr (cQg_up (by omega) (by decide) (by omega)) (cQg_up (by omega) (by decide) (by omega))) (cQg_up (by omega) (by decide) (by omega)), rfl⟩
  · skip
    exact absurd c103 (by omega)
theorem fr_1 {dp : Int} {i0 : Nat} {S0 : wS} (hw : w ≤ 20 * dp + 12) (hdp : 0 ≤ dp) (hw0 : 0 ≤ w) : ∀ (fu : Nat) (L : List Int) (dl q w1 : Int) (i : Nat) (S : wS), c - i < fu → cQ T n N X c f u w1 i I F S → (dl = dp + (L.length : Int) ∧ i = i0 + L.length ∧ dl ≤ 50 ∧ w1 = w + 2 * (L.length : Int) ∧ q = (L.length : Int)) → cQg f (I.length : Int) w S0 S → wf_I S w L → (∀ R : pz_R, pz_C (kq T n N X) (vq T n N X) (tp T n 0) f R → ∀ o : pz_O, fc u L (R 7 0 [] i dl u I F) o → R 7 0 [] i0 dp u I F o) → wJ (pe_GA xs) wY0 M (d + 8) t_XP_readFronts ((pe_at t_XP_readFronts.bl 1).getD (0, [])).2 [(0, (2, 63)), (1, (0, dp)), (2, (0, dl)), (3, (0, q))] [] S (fun o Z => (∃ (L : List Int) (dl : Int) (i2 : Nat), o = .inl (some (0, dl)) ∧ (dl = dp + (L.length : Int) ∧ i2 = i0 + L.length ∧ dl ≤ 50) ∧ (∀ R : pz_R, pz_C (kq T n N X) (vq T n N X) (tp T n 0) f R → ∀ o : pz_O, fc u L (R 8 0 [] i2 dl u I F) o → R 7 0 [] i0 dp u I F o) ∧ cQ T n N X c f u (w + 2 * (L.length : Int)) i2 I F Z ∧ cQg f (I.length : Int) w S0 Z ∧ wf_I Z w L) ∨ (∃ (v : Nat) (x : Int), o = .inr v ∧ (∀ R : pz_R, pz_C (kq T n N X) (vq T n N X) (tp T n 0) f R → R 7 0 [] i0 dp u I F (.inl x)) ∧ cQf f S0 Z v x)) := by
  intro fu
  induction fu with
  | zero => intro L dl q w1 i S hf; exact absurd hf (Nat.not_lt_zero _)
  | succ fu ih =>
    intro L dl q w1 i S hfu h he hg0 hwf hF
    have g0 : cQg f (I.length : Int) w1 S S := cQg_rfl
    have kr0 := kq_rg T n N X i
    have ic0 := cQ_ic h
    have hcn := cQ_cn h
    refine wa_iload_n (n := 3) rfl ?_
    refine wa_aload_n (n := 0) rfl ?_
    refine wb_gf4 63 rfl (wy_pr rfl) wt_63 wf_1_0 (v := 14) wl_63_0 ?_
    refine wb_gfi 14 rfl (wy_pr rfl) wt_14 wf_6_3 (v := ((c : Int) + 1)) ((cQ_3 h)) (fun r101 => ?_)
    refine wa_icmpge (w_rg0 (by omega) (by omega)) (w_rg0 (by omega) (by omega)) ⟨_, rfl⟩ (fun c102 => ?_) (fun c102 => ?_)
    · skip
      exact absurd c102 (by omega)
    · skip
      refine wa_aload_n (n := 0) rfl ?_
      refine wb_gf4 63 rfl (wy_pr rfl) wt_63 wf_1_0 (v := 14) wl_63_0 ?_
      refine wa_cv 14 rfl (wy_pr rfl) wt_14 (M2 := fun _ => False) rfl at_XR_kind ⟨_, rfl⟩ rfl rfl ⟨(Or.inr ⟨wy_pr rfl, fun q => q⟩), trivial, trivial, trivial, trivial⟩ trivial (fun _ _ q => False.elim q) (kd_q (S := S) h) (fun oq103 Sq103 hp104 q103 => ?_)
      rcases q103 with ⟨rfl, rfl⟩
      show wJ _ _ _ _ _ _ _ _ _ _
      refine wa_istore (n := 4) rfl ?_
      refine wa_iload (n := 4) rfl ?_
      refine wa_bipush (w_rg2 (by omega) (by omega)) ?_
      refine wa_icmpeq (w_rg0 (by omega) (by omega)) (w_rg0 (by omega) (by omega)) ⟨_, rfl⟩ (fun c105 => ?_) (fun c105 => ?_)
      · skip
        refine wa_aload_n (n := 0) rfl ?_
        refine wa_iload (n := 4) rfl ?_
        refine wa_iload_n (n := 2) rfl ?_
        refine wa_cv 63 rfl (wy_pr rfl) wt_63 (M2 := fun _ => False) rfl at_XP_open ⟨_, rfl⟩ rfl rfl ⟨trivial, (Or.inr ⟨wy_pr rfl, fun q => q⟩), trivial, trivial, trivial, trivial⟩ trivial (fun _ _ q => False.elim q) (op_q (S := S) (k := (kq T n N X i)) (dp := dl) h ⟨by omega, by omega⟩ ⟨by omega, by omega⟩) (fun oq116 Sq116 hp117 q116 => ?_)
        rcases q116 with ⟨rfl, hk109, hc106, hg107, ht108⟩ | ⟨v110, rfl, hk112, hz111⟩ | ⟨v113, rfl, hk115, hz114⟩
        · skip
          show wJ _ _ _ _ _ _ _ _ _ _
          have hSq116 : cQ T n N X c f u w1 (i + 1) I F Sq116 := hc106
          have gSq116 : cQg f (I.length : Int) w1 S Sq116 := cQg_tr g0 (hg107 _ _)
          have krSq116 := kq_rg T n N X (i + 1)
          have icSq116 := cQ_ic hSq116
          have dSq116 : pz_op (kq T n N X) (tp T n 0) (kq T n N X i) dl i I F = .inr ((i + 1), I, F, 0) := pz_op_o hk109
          refine wa_aload_n (n := 0) rfl ?_
          refine wa_iload (n := 4) rfl ?_
          refine wa_iconst ?_
          refine wa_cv 63 rfl (wy_pr rfl) wt_63 (M2 := fun _ => False) rfl at_XP_await ⟨_, rfl⟩ rfl rfl ⟨trivial, (Or.inr ⟨wy_pr rfl, fun q => q⟩), trivial, trivial, trivial, trivial⟩ trivial (fun _ _ q => False.elim q) (aw_q (S := Sq116) (k := (kq T n N X i)) (j := 0) hSq116 (by omega) ⟨by omega, by omega⟩ ⟨by omega, by omega⟩) (fun oq122 Sq122 hp123 q122 => ?_)
          rcases q122 with ⟨rfl, hc118, hv119, hg120, ht121⟩
          show wJ _ _ _ _ _ _ _ _ _ _
          have hSq122 : cQ T n N X c f u (w1 + 2) (i + 1) I F Sq122 := hc118
          have gSq122 : cQg f (I.length : Int) w1 S Sq122 := cQg_tr gSq116 (hg120 _)
          have hvSq122 := hv119
          have hgSq122 := hg120
          refine wa_iinc rfl rfl ?_
          refine wa_iinc rfl rfl ?_
          refine wa_goto ⟨_, rfl⟩ ?_
          have hln : ((kq T n N X i :: L).length : Int) = (L.length : Int) + 1 := rfl
          have hln2 : (kq T n N X i :: L).length = L.length + 1 := rfl
          refine wJ_S (ih (kq T n N X i :: L) (dl + 1) (q + 1) (w1 + 2) (i + 1) Sq122 (by omega) hSq122 ⟨by omega, by omega, by omega, by omega, by omega⟩ (cQg_tr hg0 (cQg_mo gSq122 (by omega) (by omega))) ⟨?_, ?_⟩ (fun R hR o hq => hF R hR o ?_)) ⟨rfl, rfl, rfl, rfl, trivial⟩
          · rw [show w + 2 * (L.length : Int) = w1 by omega]; exact hvSq122.1
          · exact wf_ag L (fun x hx => cQg_71 gSq122 (by omega)) hwf
          · refine fc_mono L _ _ o (fun o2 q2 => pz_cFR hR ?_) hq
            unfold pz_FR; rw [if_pos (show kq T n N X i = 24 ∨ kq T n N X i = 28 by omega), if_neg (show ¬ 50 ≤ dl by omega)]; exact q2
        · skip
          refine ⟨rfl, ?_⟩
          refine Or.inr ⟨_, _, rfl, fun R hR => hF R hR _ (fc_f L _ (pz_cFR hR ?_)), cQf_tr hg0 (by omega) (by omega) (cQf_of g0 (by omega) (by omega) (cQn_of h) hz111)⟩
          unfold pz_FR
          repeat first | rw [if_pos (by omega)] | rw [if_neg (by omega)]
          all_goals first | rfl | (exfalso; omega)
        · skip
          refine ⟨rfl, ?_⟩
          refine Or.inr ⟨_, _, rfl, fun R hR => hF R hR _ (fc_f L _ (pz_cFR hR ?_)), cQf_tr hg0 (by omega) (by omega) (cQf_of g0 (by omega) (by omega) (cQn_of h) hz114)⟩
          unfold pz_FR
          repeat first | rw [if_pos (by omega)] | rw [if_neg (by omega)]
          all_goals first | rfl | (exfalso; omega)
      · skip
        refine wa_iload (n := 4) rfl ?_
        refine wa_bipush (w_rg2 (by omega) (by omega)) ?_
        refine wa_icmpeq (w_rg0 (by omega) (by omega)) (w_rg0 (by omega) (by omega)) ⟨_, rfl⟩ (fun c124 => ?_) (fun c124 => ?_)
        · skip
          refine wa_aload_n (n := 0) rfl ?_
          refine wa_iload (n := 4) rfl ?_
          refine wa_iload_n (n := 2) rfl ?_
          refine wa_cv 63 rfl (wy_pr rfl) wt_63 (M2 := fun _ => False) rfl at_XP_open ⟨_, rfl⟩ rfl rfl ⟨trivial, (Or.inr ⟨wy_pr rfl, fun q => q⟩), trivial, trivial, trivial, trivial⟩ trivial (fun _ _ q => False.elim q) (op_q (S := S) (k := (kq T n N X i)) (dp := dl) h ⟨by omega, by omega⟩ ⟨by omega, by omega⟩) (fun oq135 Sq135 hp136 q135 => ?_)
          rcases q135 with ⟨rfl, hk128, hc125, hg126, ht127⟩ | ⟨v129, rfl, hk131, hz130⟩ | ⟨v132, rfl, hk134, hz133⟩
          · skip
            show wJ _ _ _ _ _ _ _ _ _ _
            have hSq135 : cQ T n N X c f u w1 (i + 1) I F Sq135 := hc125
            have gSq135 : cQg f (I.length : Int) w1 S Sq135 := cQg_tr g0 (hg126 _ _)
            have krSq135 := kq_rg T n N X (i + 1)
            have icSq135 := cQ_ic hSq135
            have dSq135 : pz_op (kq T n N X) (tp T n 0) (kq T n N X i) dl i I F = .inr ((i + 1), I, F, 0) := pz_op_o hk128
            refine wa_aload_n (n := 0) rfl ?_
            refine wa_iload (n := 4) rfl ?_
            refine wa_iconst ?_
            refine wa_cv 63 rfl (wy_pr rfl) wt_63 (M2 := fun _ => False) rfl at_XP_await ⟨_, rfl⟩ rfl rfl ⟨trivial, (Or.inr ⟨wy_pr rfl, fun q => q⟩), trivial, trivial, trivial, trivial⟩ trivial (fun _ _ q => False.elim q) (aw_q (S := Sq135) (k := (kq T n N X i)) (j := 0) hSq135 (by omega) ⟨by omega, by omega⟩ ⟨by omega, by omega⟩) (fun oq141 Sq141 hp142 q141 => ?_)
            rcases q141 with ⟨rfl, hc137, hv138, hg139, ht140⟩
            show wJ _ _ _ _ _ _ _ _ _ _
            have hSq141 : cQ T n N X c f u (w1 + 2) (i + 1) I F Sq141 := hc137
            have gSq141 : cQg f (I.length : Int) w1 S Sq141 := cQg_tr gSq135 (hg139 _)
            have hvSq141 := hv138
            have hgSq141 := hg139
            refine wa_iinc rfl rfl ?_
            refine wa_iinc rfl rfl ?_
            refine wa_goto ⟨_, rfl⟩ ?_
            have hln : ((kq T n N X i :: L).length : Int) = (L.length : Int) + 1 := rfl
            have hln2 : (kq T n N X i :: L).length = L.length + 1 := rfl
            refine wJ_S (ih (kq T n N X i :: L) (dl + 1) (q + 1) (w1 + 2) (i + 1) Sq141 (by omega) hSq141 ⟨by omega, by omega, by omega, by omega, by omega⟩ (cQg_tr hg0 (cQg_mo gSq141 (by omega) (by omega))) ⟨?_, ?_⟩ (fun R hR o hq => hF R hR o ?_)) ⟨rfl, rfl, rfl, rfl, trivial⟩
            · rw [show w + 2 * (L.length : Int) = w1 by omega]; exact hvSq141.1
            · exact wf_ag L (fun x hx => cQg_71 gSq141 (by omega)) hwf
            · refine fc_mono L _ _ o (fun o2 q2 => pz_cFR hR ?_) hq
              unfold pz_FR; rw [if_pos (show kq T n N X i = 24 ∨ kq T n N X i = 28 by omega), if_neg (show ¬ 50 ≤ dl by omega)]; exact q2
          · skip
            refine ⟨rfl, ?_⟩
            refine Or.inr ⟨_, _, rfl, fun R hR => hF R hR _ (fc_f L _ (pz_cFR hR ?_)), cQf_tr hg0 (by omega) (by omega) (cQf_of g0 (by omega) (by omega) (cQn_of h) hz130)⟩
            unfold pz_FR
            repeat first | rw [if_pos (by omega)] | rw [if_neg (by omega)]
            all_goals first | rfl | (exfalso; omega)
          · skip
            refine ⟨rfl, ?_⟩
            refine Or.inr ⟨_, _, rfl, fun R hR => hF R hR _ (fc_f L _ (pz_cFR hR ?_)), cQf_tr hg0 (by omega) (by omega) (cQf_of g0 (by omega) (by omega) (cQn_of h) hz133)⟩
            unfold pz_FR
            repeat first | rw [if_pos (by omega)] | rw [if_neg (by omega)]
            all_goals first | rfl | (exfalso; omega)
        · skip
          refine wa_goto ⟨_, rfl⟩ ?_
          refine wa_iload_n (n := 2) rfl ?_
          refine wa_ireturn rfl ?_
          refine Or.inl ⟨L, dl, i, rfl, ⟨by omega, by omega, by omega⟩, fun R hR o hq => hF R hR o (fc_mono L _ _ o (fun o2 q2 => pz_cFR hR ?_) hq), ?_, hg0, hwf⟩
          · unfold pz_FR; (repeat first | rw [if_pos (by omega)] | rw [if_neg (by omega)]); exact q2
          · rw [← he.2.2.2.1]; exact h
theorem fr_q {dp : Int} (h : cQ T n N X c f u w i I F S) (hdp : 0 ≤ dp ∧ dp ≤ 50) (hw : w ≤ 20 * dp + 12) : wJ (pe_GA xs) wY0 M (d + 8) t_XP_readFronts ((pe_at t_XP_readFronts.bl 0).getD (0, [])).2 [(0, (2, 63)), (1, (0, dp))] [] S (fun o Z => (∃ (L : List Int) (dl : Int) (i2 : Nat), o = .inl (some (0, dl)) ∧ (dl = dp + (L.length : Int) ∧ i2 = i + L.length ∧ dl ≤ 50) ∧ (∀ R : pz_R, pz_C (kq T n N X) (vq T n N X) (tp T n 0) f R → ∀ o : pz_O, fc u L (R 8 0 [] i2 dl u I F) o → R 7 0 [] i dp u I F o) ∧ cQ T n N X c f u (w + 2 * (L.length : Int)) i2 I F Z ∧ cQg f (I.length : Int) w S Z ∧ wf_I Z w L) ∨ (∃ (v : Nat) (x : Int), o = .inr v ∧ (∀ R : pz_R, pz_C (kq T n N X) (vq T n N X) (tp T n 0) f R → R 7 0 [] i dp u I F (.inl x)) ∧ cQf f S Z v x)) := by
  have hwr := cQ_wr h
  refine wa_iload_n (n := 1) rfl ?_
  refine wa_istore_n (n := 2) rfl ?_
  refine wa_iconst ?_
  refine wa_istore_n (n := 3) rfl ?_
  refine wa_fall ⟨_, rfl⟩ ?_
  exact wJ_S (fr_1 (S0 := S) (i0 := i) hw hdp.1 hwr.1 (c + 1) [] dp 0 w i S (by omega) h ⟨by simp, by simp, by omega, by simp, by simp⟩ cQg_rfl trivial (fun R hR o q => q)) ⟨rfl, rfl, rfl, rfl, trivial⟩
theorem sf_1 {nn : Int} (hnn : nn ≤ 1000) (hw0 : 0 ≤ w) : ∀ (L : List Int) (I : List pz_I) (q w1 : Int) (S : wS), cQ T n N X c f u w1 i I F S → (0 ≤ q ∧ nn = q + (L.length : Int) ∧ w1 = w + 2 * (L.length : Int) ∧ I.length + L.length ≤ 1 * i + 7) → wf_I S w L → wJ (pe_GA xs) wY0 (mS [64, 65, 66, 67]) (d + 4) t_XP_settleFronts ((pe_at t_XP_settleFronts.bl 1).getD (0, [])).2 [(0, (2, 63)), (1, (0, nn)), (2, (0, q))] [] S (fun o Z => o = .inl none ∧ cQ T n N X c f u w i (sf u L I) F Z ∧ cQg f (I.length : Int) w S Z ∧ Z 63 16 = (if L = [] then S 63 16 else 0)) := by
  intro L
  induction L with
  | nil =>
    intro I q w1 S h he hwf
    have e0 : (([] : List Int).length : Int) = 0 := rfl
    refine wa_iload_n (n := 2) rfl ?_
    refine wa_iload_n (n := 1) rfl ?_
    refine wa_icmpge (w_rg0 (by omega) (by omega)) (w_rg0 (by omega) (by omega)) ⟨_, rfl⟩ (fun c101 => ?_) (fun c101 => ?_)
    · skip
      refine wa_return rfl ?_
      have e1 : w1 = w := by omega
      subst e1
      exact ⟨rfl, h, cQg_rfl, rfl⟩
    · skip
      exact absurd c101 (by omega)
  | cons k L ih =>
    intro I q w1 S h he hwf
    have e0 : ((k :: L).length : Int) = (L.length : Int) + 1 := rfl
    have e1 : (k :: L).length = L.length + 1 := rfl
    have g0 : cQg f (I.length : Int) w1 S S := cQg_rfl
    have hwr := cQ_wr h
    have h71 : S 71 (w1 - 2) = k := by rw [show w1 - 2 = w + 2 * (L.length : Int) by omega]; exact hwf.1
    have h6 := cQ_h6 h
    refine wa_iload_n (n := 2) rfl ?_
    refine wa_iload_n (n := 1) rfl ?_
    refine wa_icmpge (w_rg0 (by omega) (by omega)) (w_rg0 (by omega) (by omega)) ⟨_, rfl⟩ (fun c101 => ?_) (fun c101 => ?_)
    · skip
      exact absurd c101 (by omega)
    · skip
      refine wa_aload_n (n := 0) rfl ?_
      refine wa_dup (by decide) ?_
      refine wb_gfi 63 rfl (wy_pr rfl) wt_63 wf_1_15 (v := w1) ((cQ_15 h)) (fun r102 => ?_)
      refine wa_iconst ?_
      refine wa_isub ?_
      refine wb_pfi 63 rfl (wy_pr rfl) wt_63 wf_1_15 (n := 15) rfl ⟨(by omega), (by omega)⟩ ?_
      refine wa_aload_n (n := 0) rfl ?_
      refine wa_aload_n (n := 0) rfl ?_
      refine wb_gf4 63 rfl (wy_pr rfl) wt_63 wf_1_14 (v := 71) wl_63_14 ?_
      refine wa_aload_n (n := 0) rfl ?_
      refine wb_gfi 63 rfl (wy_pr rfl) wt_63 wf_1_15 (v := (w1 - 2)) (w_up_same _ _ _ _) (fun r103 => ?_)
      refine wb_iald 71 rfl (wy_pr rfl) wt_71 (n := 1024) ((w_up_slot (by decide)).trans ((cl_71 h.2.1.2))) (by omega) (by omega) (v := k) ((w_up_slot (by decide)).trans (h71)) (fun r104 => ?_)
      refine wa_bipush (w_rg2 (by omega) (by omega)) ?_
      refine wa_icmpne (w_rg0 (by omega) (by omega)) (w_rg0 (by omega) (by omega)) ⟨_, rfl⟩ (fun c105 => ?_) (fun c105 => ?_)
      · skip
        refine wa_bipush (w_rg2 (by omega) (by omega)) ?_
        refine wa_fall ⟨_, rfl⟩ ?_
        refine wa_iconst ?_
        refine wa_iconst ?_
        refine wa_cv 63 rfl (wy_pr rfl) wt_63 (M2 := mS [64, 65, 66, 67]) rfl at_XP_note ⟨_, rfl⟩ rfl rfl ⟨(Or.inr ⟨wy_pr rfl, mS_no rfl⟩), trivial, trivial, trivial⟩ trivial (fun _ _ q => mS_sub (by decide) q) (nt_q (S := (w_up S 63 15 (w1 - 2))) (op := 13) (a := 0) (b := 0) (l := I.length) (cQ_w (w2 := (w1 - 2)) h ⟨by omega, by omega⟩) ⟨by omega, by omega⟩ ⟨by omega, by omega⟩ ⟨by omega, by omega⟩ (by omega) (by omega) (by omega)) (fun oq109 Sq109 hp110 q109 => ?_)
        rcases q109 with ⟨rfl, hc106, hg107, ht108⟩
        show wJ _ _ _ _ _ _ _ _ _ _
        have hSq109 : cQ T n N X c f u (w1 - 2) i (I ++ [(13, 0, 0, u)]) F Sq109 := hc106
        have gSq109 : cQg f (I.length : Int) w1 S Sq109 := cQg_tr (cQg_tr g0 (cQg_up (by omega) (by decide) (by omega))) (hg107 _ _ (by omega))
        have hlSq109 : (I ++ [(13, 0, 0, u)]).length = I.length + 1 := List.length_append
        refine wa_pop (by decide) ?_
        refine wa_aload_n (n := 0) rfl ?_
        refine wa_iconst ?_
        refine wb_pfi 63 rfl (wy_pr rfl) wt_63 wf_1_16 (n := 16) rfl ⟨(by omega), (by omega)⟩ ?_
        refine wa_iinc rfl rfl ?_
        refine wa_goto ⟨_, rfl⟩ ?_
        have ek : (if k = 24 then (12 : Int) else 13) = 13 := by rw [if_neg (by omega)]
        have hz1 := ih (I ++ [(13, 0, 0, u)]) (q + 1) (w1 - 2) (w_up Sq109 63 16 0) (cQ_63 (k := 16) (x := 0) hSq109 (Or.inl rfl)) ⟨by omega, by omega, by omega, by omega⟩ (wf_ag L (fun x hx => cQg_71 (w := w1) (cQg_tr gSq109 (cQg_up (by omega) (by decide) (by omega))) (by omega)) hwf.2)
        refine wJ_S (wJ_mono hz1 (fun o Z hz => ?_)) ⟨rfl, rfl, rfl, trivial⟩
        obtain ⟨rfl, z1, z2, z3⟩ := hz
        refine ⟨rfl, ?_, cQg_tr (cQg_mo (cQg_tr gSq109 (cQg_up (by omega) (by decide) (by omega))) (by omega) (by omega)) (cQg_mo z2 (by omega) (by omega)), ?_⟩
        · show cQ T n N X c f u w i (sf u L (I ++ [((if k = 24 then 12 else 13, 0, 0, u) : pz_I)])) F Z
          rw [ek]; exact z1
        · have e9 : (if (k :: L) = [] then S 63 16 else 0) = (0 : Int) := if_neg (by intro q; cases q)
          rw [e9, z3]
          split
          · exact w_up_same _ _ _ _
          · rfl
      · skip
        refine wa_bipush (w_rg2 (by omega) (by omega)) ?_
        refine wa_goto ⟨_, rfl⟩ ?_
        refine wa_iconst ?_
        refine wa_iconst ?_
        refine wa_cv 63 rfl (wy_pr rfl) wt_63 (M2 := mS [64, 65, 66, 67]) rfl at_XP_note ⟨_, rfl⟩ rfl rfl ⟨(Or.inr ⟨wy_pr rfl, mS_no rfl⟩), trivial, trivial, trivial⟩ trivial (fun _ _ q => mS_sub (by decide) q) (nt_q (S := (w_up S 63 15 (w1 - 2))) (op := 12) (a := 0) (b := 0) (l := I.length) (cQ_w (w2 := (w1 - 2)) h ⟨by omega, by omega⟩) ⟨by omega, by omega⟩ ⟨by omega, by omega⟩ ⟨by omega, by omega⟩ (by omega) (by omega) (by omega)) (fun oq114 Sq114 hp115 q114 => ?_)
        rcases q114 with ⟨rfl, hc111, hg112, ht113⟩
        show wJ _ _ _ _ _ _ _ _ _ _
        have hSq114 : cQ T n N X c f u (w1 - 2) i (I ++ [(12, 0, 0, u)]) F Sq114 := hc111
        have gSq114 : cQg f (I.length : Int) w1 S Sq114 := cQg_tr (cQg_tr g0 (cQg_up (by omega) (by decide) (by omega))) (hg112 _ _ (by omega))
        have hlSq114 : (I ++ [(12, 0, 0, u)]).length = I.length + 1 := List.length_append
        refine wa_pop (by decide) ?_
        refine wa_aload_n (n := 0) rfl ?_
        refine wa_iconst ?_
        refine wb_pfi 63 rfl (wy_pr rfl) wt_63 wf_1_16 (n := 16) rfl ⟨(by omega), (by omega)⟩ ?_
        refine wa_iinc rfl rfl ?_
        refine wa_goto ⟨_, rfl⟩ ?_
        have ek : (if k = 24 then (12 : Int) else 13) = 12 := by rw [if_pos (by omega)]
        have hz1 := ih (I ++ [(12, 0, 0, u)]) (q + 1) (w1 - 2) (w_up Sq114 63 16 0) (cQ_63 (k := 16) (x := 0) hSq114 (Or.inl rfl)) ⟨by omega, by omega, by omega, by omega⟩ (wf_ag L (fun x hx => cQg_71 (w := w1) (cQg_tr gSq114 (cQg_up (by omega) (by decide) (by omega))) (by omega)) hwf.2)
        refine wJ_S (wJ_mono hz1 (fun o Z hz => ?_)) ⟨rfl, rfl, rfl, trivial⟩
        obtain ⟨rfl, z1, z2, z3⟩ := hz
        refine ⟨rfl, ?_, cQg_tr (cQg_mo (cQg_tr gSq114 (cQg_up (by omega) (by decide) (by omega))) (by omega) (by omega)) (cQg_mo z2 (by omega) (by omega)), ?_⟩
        · show cQ T n N X c f u w i (sf u L (I ++ [((if k = 24 then 12 else 13, 0, 0, u) : pz_I)])) F Z
          rw [ek]; exact z1
        · have e9 : (if (k :: L) = [] then S 63 16 else 0) = (0 : Int) := if_neg (by intro q; cases q)
          rw [e9, z3]
          split
          · exact w_up_same _ _ _ _
          · rfl
theorem sf_q {nn : Int} {L : List Int} (h : cQ T n N X c f u (w + 2 * (L.length : Int)) i I F S) (hnn : nn = (L.length : Int)) (hn2 : nn ≤ 1000) (hw0 : 0 ≤ w) (hl : I.length + L.length ≤ 1 * i + 7) (hwf : wf_I S w L) : wJ (pe_GA xs) wY0 (mS [64, 65, 66, 67]) (d + 4) t_XP_settleFronts ((pe_at t_XP_settleFronts.bl 0).getD (0, [])).2 [(0, (2, 63)), (1, (0, nn))] [] S (fun o Z => o = .inl none ∧ cQ T n N X c f u w i (sf u L I) F Z ∧ cQg f (I.length : Int) w S Z ∧ Z 63 16 = (if L = [] then S 63 16 else 0)) := by
  refine wa_iconst ?_
  refine wa_istore_n (n := 2) rfl ?_
  refine wa_fall ⟨_, rfl⟩ ?_
  exact wJ_S (sf_1 hn2 hw0 L I 0 _ S h ⟨by omega, by omega, rfl, hl⟩ hwf) ⟨rfl, rfl, rfl, trivial⟩
theorem se_q {m : Nat} {lev dp : Int} (hlev : 1 ≤ lev ∧ lev ≤ 6 ∧ pz_lv (kq T n N X i) ≤ lev) (hw0 : 0 ≤ w ∧ w ≤ 1024) : ∀ (W : List (Int × Nat)) (I : List pz_I) (w1 : Int) (S : wS), cQ T n N X c f u w1 i I F S → w1 = w + 2 * (W.length : Int) → wt_I S w W → ow m I.length W → m ≤ I.length → I.length + awN W ≤ 1 * i + 7 → wJ (pe_GA xs) wY0 (mS [64, 65, 66, 67]) (d + 4) t_XP_settle ((pe_at t_XP_settle.bl 0).getD (0, [])).2 [(0, (2, 63)), (1, (0, w)), (2, (0, lev))] [] S (fun o Z => ∃ (W2 : List (Int × Nat)) (I2 : List pz_I), o = .inl none ∧ cQ T n N X c f u (w + 2 * (W2.length : Int)) i I2 F Z ∧ wt_I Z w W2 ∧ ow m I2.length W2 ∧ wl W2 ≤ lev ∧ cQg f (m : Int) w S Z ∧ (I2.length + awN W2 ≤ I.length + awN W ∧ I.length ≤ I2.length) ∧ Z 63 16 = S 63 16 ∧ (∀ R : pz_R, pz_C (kq T n N X) (vq T n N X) (tp T n 0) f R → ∀ (Φ : pz_O → Prop) (t : Int), wD R dp u Φ W (pz_lv (kq T n N X i)) i I F t → ∃ t2 : Int, wD R dp u Φ W2 (pz_lv (kq T n N X i)) i I2 F t2)) := by
  intro W
  induction W with
  | nil =>
    intro I w1 S h hw1 hwt how hm hl
    have e0 : (([] : List (Int × Nat)).length : Int) = 0 := rfl
    have hwr := cQ_wr h
    refine wa_aload_n (n := 0) rfl ?_
    refine wb_gfi 63 rfl (wy_pr rfl) wt_63 wf_1_15 (v := w1) ((cQ_15 h)) (fun r101 => ?_)
    refine wa_iload_n (n := 1) rfl ?_
    refine wa_icmple (w_rg0 (by omega) (by omega)) (w_rg0 (by omega) (by omega)) ⟨_, rfl⟩ (fun c102 => ?_) (fun c102 => ?_)
    · skip
      refine wa_return rfl ?_
      exact ⟨[], I, rfl, by rw [← hw1]; exact h, trivial, trivial, hlev.1, cQg_rfl, ⟨Nat.le_refl _, Nat.le_refl _⟩, rfl, fun R hR Φ t q => ⟨t, q⟩⟩
    · skip
      exact absurd c102 (by omega)
  | cons x W ih =>
    intro I w1 S h hw1 hwt how hm hl
    have e0 : ((x :: W).length : Int) = (W.length : Int) + 1 := rfl
    have e1 : (x :: W).length = W.length + 1 := rfl
    have e2 := awN_c x W
    have g0 : cQg f (I.length : Int) w1 S S := cQg_rfl
    have hwr := cQ_wr h
    have h6 := cQ_h6 h
    have hx0 : S 71 (w1 - 2) = x.1 := by rw [show w1 - 2 = w + 2 * (W.length : Int) by omega]; exact hwt.1
    have hx1 : S 71 (w1 - 2 + 1) = (x.2 : Int) := by rw [show w1 - 2 + 1 = w + 2 * (W.length : Int) + 1 by omega]; exact hwt.2.1
    have hlc := lv_c x.1
    have hlr := how.1
    have hjj := how.2.2.1
    have how2 : ow m I.length (x :: W) := how
    have gm0 : cQg f (m : Int) w1 S S := cQg_rfl
    refine wa_aload_n (n := 0) rfl ?_
    refine wb_gfi 63 rfl (wy_pr rfl) wt_63 wf_1_15 (v := w1) ((cQ_15 h)) (fun r101 => ?_)
    refine wa_iload_n (n := 1) rfl ?_
    refine wa_icmple (w_rg0 (by omega) (by omega)) (w_rg0 (by omega) (by omega)) ⟨_, rfl⟩ (fun c102 => ?_) (fun c102 => ?_)
    · skip
      exact absurd c102 (by omega)
    · skip
      refine wa_aload_n (n := 0) rfl ?_
      refine wb_gf4 63 rfl (wy_pr rfl) wt_63 wf_1_14 (v := 71) wl_63_14 ?_
      refine wa_aload_n (n := 0) rfl ?_
      refine wb_gfi 63 rfl (wy_pr rfl) wt_63 wf_1_15 (v := w1) ((cQ_15 h)) (fun r103 => ?_)
      refine wa_iconst ?_
      refine wa_isub ?_
      refine wb_iald 71 rfl (wy_pr rfl) wt_71 (n := 1024) ((cl_71 h.2.1.2)) (by omega) (by omega) (v := x.1) (hx0) (fun r104 => ?_)
      refine wa_cs (M2 := fun _ => False) rfl at_XP_levelOf ⟨_, rfl⟩ rfl rfl ⟨(Or.inr ⟨wy_pr rfl, fun q => q⟩), trivial, trivial, trivial⟩ trivial (fun _ _ q => False.elim q) (lv_q (S := S) (k := x.1) ⟨by omega, by omega⟩) (fun oq105 Sq105 hp106 q105 => ?_)
      rcases q105 with ⟨rfl, rfl⟩
      show wJ _ _ _ _ _ _ _ _ _ _
      refine wa_iload_n (n := 2) rfl ?_
      refine wa_icmplt (w_rg0 (by omega) (by omega)) (w_rg0 (by omega) (by omega)) ⟨_, rfl⟩ (fun c107 => ?_) (fun c107 => ?_)
      · skip
        refine wa_return rfl ?_
        exact ⟨x :: W, I, rfl, by rw [← hw1]; exact h, hwt, how, by show pz_lv x.1 + 1 ≤ lev; omega, cQg_rfl, ⟨Nat.le_refl _, Nat.le_refl _⟩, rfl, fun R hR Φ t q => ⟨t, q⟩⟩
      · skip
        refine wa_aload_n (n := 0) rfl ?_
        refine wa_dup (by decide) ?_
        refine wb_gfi 63 rfl (wy_pr rfl) wt_63 wf_1_15 (v := w1) ((cQ_15 h)) (fun r108 => ?_)
        refine wa_iconst ?_
        refine wa_isub ?_
        refine wb_pfi 63 rfl (wy_pr rfl) wt_63 wf_1_15 (n := 15) rfl ⟨(by omega), (by omega)⟩ ?_
        refine wa_aload_n (n := 0) rfl ?_
        refine wb_gf4 63 rfl (wy_pr rfl) wt_63 wf_1_14 (v := 71) wl_63_14 ?_
        refine wa_aload_n (n := 0) rfl ?_
        refine wb_gfi 63 rfl (wy_pr rfl) wt_63 wf_1_15 (v := (w1 - 2)) (w_up_same _ _ _ _) (fun r109 => ?_)
        refine wb_iald 71 rfl (wy_pr rfl) wt_71 (n := 1024) ((w_up_slot (by decide)).trans ((cl_71 h.2.1.2))) (by omega) (by omega) (v := x.1) ((w_up_slot (by decide)).trans (hx0)) (fun r110 => ?_)
        refine wa_istore_n (n := 3) rfl ?_
        refine wa_iload_n (n := 3) rfl ?_
        refine wa_bipush (w_rg2 (by omega) (by omega)) ?_
        refine wa_icmpeq (w_rg0 (by omega) (by omega)) (w_rg0 (by omega) (by omega)) ⟨_, rfl⟩ (fun c111 => ?_) (fun c111 => ?_)
        · skip
          refine wa_aload_n (n := 0) rfl ?_
          refine wa_aload_n (n := 0) rfl ?_
          refine wb_gf4 63 rfl (wy_pr rfl) wt_63 wf_1_14 (v := 71) wl_63_14 ?_
          refine wa_aload_n (n := 0) rfl ?_
          refine wb_gfi 63 rfl (wy_pr rfl) wt_63 wf_1_15 (v := (w1 - 2)) (w_up_same _ _ _ _) (fun r112 => ?_)
          refine wa_iconst ?_
          refine wa_iadd ?_
          refine wb_iald 71 rfl (wy_pr rfl) wt_71 (n := 1024) ((w_up_slot (by decide)).trans ((cl_71 h.2.1.2))) (by omega) (by omega) (v := (x.2 : Int)) ((w_up_slot (by decide)).trans (hx1)) (fun r113 => ?_)
          refine wa_cv 63 rfl (wy_pr rfl) wt_63 (M2 := fun _ => False) rfl at_XP_aimHere ⟨_, rfl⟩ rfl rfl ⟨trivial, (Or.inr ⟨wy_pr rfl, fun q => q⟩), trivial, trivial, trivial⟩ trivial (fun _ _ q => False.elim q) (am_q (S := (w_up S 63 15 (w1 - 2))) (j := x.2) (cQ_w (w2 := (w1 - 2)) h ⟨by omega, by omega⟩) (by omega)) (fun oq118 Sq118 hp119 q118 => ?_)
          rcases q118 with ⟨rfl, hc114, hg115, ht116, hx117⟩
          show wJ _ _ _ _ _ _ _ _ _ _
          have hSq118 : cQ T n N X c f u (w1 - 2) i (pz_a I x.2 (pz_h I u)) F Sq118 := hc114
          have gSq118 : cQg f (m : Int) w1 S Sq118 := cQg_tr (cQg_tr gm0 (cQg_up (by omega) (by decide) (by omega))) (hg115 _ _ (by omega))
          have tSq118 : Sq118 63 16 = (S 63 16) := (ht116).trans ((w_up_at (by decide)).trans rfl)
          have hlSq118 : (pz_a I x.2 (pz_h I u)).length = I.length := pz_a_len _ _ _
          refine wa_goto ⟨_, rfl⟩ ?_
          refine wa_goto ⟨_, rfl⟩ ?_
          have ew : ws1 u x I = (pz_a I x.2 (pz_h I u)) := by unfold ws1; rw [if_pos (by omega)]
          have hl2 : (pz_a I x.2 (pz_h I u)).length ≤ I.length + 1 ∧ I.length ≤ (pz_a I x.2 (pz_h I u)).length := ⟨by omega, by omega⟩
          have hz1 := ih (pz_a I x.2 (pz_h I u)) (w1 - 2) Sq118 hSq118 (by omega) (wt_ag W (fun x hx => cQg_71 (w := w1) gSq118 (by omega)) hwt.2.2) (ow_le hl2.2 W how.2.2.2) (by omega) (by omega)
          refine wJ_S (wJ_mono hz1 (fun o Z hz => ?_)) ⟨rfl, rfl, rfl, trivial⟩
          obtain ⟨W2, I2, z0, z1, z2, z3, z4, z5, z6, z7, z8⟩ := hz
          refine ⟨W2, I2, z0, z1, z2, z3, z4, cQg_tr (cQg_mo gSq118 (by omega) (by omega)) z5, ⟨by omega, by omega⟩, z7.trans tSq118, fun R hR Φ t qq => z8 R hR Φ 0 ?_⟩
          rw [← ew]
          exact wD_pop (K := kq T n N X) (i := i) hR how2 (by omega) qq
        · skip
          refine wa_iload_n (n := 3) rfl ?_
          refine wa_bipush (w_rg2 (by omega) (by omega)) ?_
          refine wa_icmpne (w_rg0 (by omega) (by omega)) (w_rg0 (by omega) (by omega)) ⟨_, rfl⟩ (fun c120 => ?_) (fun c120 => ?_)
          · skip
            refine wa_aload_n (n := 0) rfl ?_
            refine wa_iload_n (n := 3) rfl ?_
            refine wa_cs (M2 := fun _ => False) rfl at_XP_operatorOf ⟨_, rfl⟩ rfl rfl ⟨trivial, (Or.inr ⟨wy_pr rfl, fun q => q⟩), trivial, trivial, trivial⟩ ⟨(Or.inr ⟨wy_pr rfl, fun q => q⟩), trivial⟩ (fun _ _ q => False.elim q) (or_q (S := (w_up S 63 15 (w1 - 2))) (k := x.1) ⟨by omega, by omega⟩) (fun oq121 Sq121 hp122 q121 => ?_)
            rcases q121 with ⟨rfl, rfl⟩
            show wJ _ _ _ _ _ _ _ _ _ _
            have horr := or_rg (k := x.1) (by omega)
            refine wa_iconst ?_
            refine wa_iconst ?_
            refine wa_cv 63 rfl (wy_pr rfl) wt_63 (M2 := mS [64, 65, 66, 67]) rfl at_XP_note ⟨_, rfl⟩ rfl rfl ⟨trivial, (Or.inr ⟨wy_pr rfl, mS_no rfl⟩), trivial, trivial, trivial⟩ trivial (fun _ _ q => mS_sub (by decide) q) (nt_q (S := (w_up S 63 15 (w1 - 2))) (op := (pz_or x.1)) (a := 0) (b := 0) (l := I.length) (cQ_w (w2 := (w1 - 2)) h ⟨by omega, by omega⟩) ⟨by omega, by omega⟩ ⟨by omega, by omega⟩ ⟨by omega, by omega⟩ (by omega) (by omega) (by omega)) (fun oq126 Sq126 hp127 q126 => ?_)
            rcases q126 with ⟨rfl, hc123, hg124, ht125⟩
            show wJ _ _ _ _ _ _ _ _ _ _
            have hSq126 : cQ T n N X c f u (w1 - 2) i (I ++ [((pz_or x.1), 0, 0, u)]) F Sq126 := hc123
            have gSq126 : cQg f (m : Int) w1 S Sq126 := cQg_tr (cQg_tr gm0 (cQg_up (by omega) (by decide) (by omega))) (hg124 _ _ (by omega))
            have tSq126 : Sq126 63 16 = (S 63 16) := (ht125).trans ((w_up_at (by decide)).trans rfl)
            have hlSq126 : (I ++ [((pz_or x.1), 0, 0, u)]).length = I.length + 1 := List.length_append
            refine wa_pop (by decide) ?_
            refine wa_fall ⟨_, rfl⟩ ?_
            refine wa_goto ⟨_, rfl⟩ ?_
            have ew : ws1 u x I = (I ++ [((pz_or x.1), 0, 0, u)]) := by unfold ws1; rw [if_neg (by omega)]
            have hl2 : (I ++ [((pz_or x.1), 0, 0, u)]).length ≤ I.length + 1 ∧ I.length ≤ (I ++ [((pz_or x.1), 0, 0, u)]).length := ⟨by omega, by omega⟩
            have hz1 := ih (I ++ [((pz_or x.1), 0, 0, u)]) (w1 - 2) Sq126 hSq126 (by omega) (wt_ag W (fun x hx => cQg_71 (w := w1) gSq126 (by omega)) hwt.2.2) (ow_le hl2.2 W how.2.2.2) (by omega) (by omega)
            refine wJ_S (wJ_mono hz1 (fun o Z hz => ?_)) ⟨rfl, rfl, rfl, trivial⟩
            obtain ⟨W2, I2, z0, z1, z2, z3, z4, z5, z6, z7, z8⟩ := hz
            refine ⟨W2, I2, z0, z1, z2, z3, z4, cQg_tr (cQg_mo gSq126 (by omega) (by omega)) z5, ⟨by omega, by omega⟩, z7.trans tSq126, fun R hR Φ t qq => z8 R hR Φ 0 ?_⟩
            rw [← ew]
            exact wD_pop (K := kq T n N X) (i := i) hR how2 (by omega) qq
          · skip
            refine wa_fall ⟨_, rfl⟩ ?_
            refine wa_aload_n (n := 0) rfl ?_
            refine wa_aload_n (n := 0) rfl ?_
            refine wb_gf4 63 rfl (wy_pr rfl) wt_63 wf_1_14 (v := 71) wl_63_14 ?_
            refine wa_aload_n (n := 0) rfl ?_
            refine wb_gfi 63 rfl (wy_pr rfl) wt_63 wf_1_15 (v := (w1 - 2)) (w_up_same _ _ _ _) (fun r128 => ?_)
            refine wa_iconst ?_
            refine wa_iadd ?_
            refine wb_iald 71 rfl (wy_pr rfl) wt_71 (n := 1024) ((w_up_slot (by decide)).trans ((cl_71 h.2.1.2))) (by omega) (by omega) (v := (x.2 : Int)) ((w_up_slot (by decide)).trans (hx1)) (fun r129 => ?_)
            refine wa_cv 63 rfl (wy_pr rfl) wt_63 (M2 := fun _ => False) rfl at_XP_aimHere ⟨_, rfl⟩ rfl rfl ⟨trivial, (Or.inr ⟨wy_pr rfl, fun q => q⟩), trivial, trivial, trivial⟩ trivial (fun _ _ q => False.elim q) (am_q (S := (w_up S 63 15 (w1 - 2))) (j := x.2) (cQ_w (w2 := (w1 - 2)) h ⟨by omega, by omega⟩) (by omega)) (fun oq134 Sq134 hp135 q134 => ?_)
            rcases q134 with ⟨rfl, hc130, hg131, ht132, hx133⟩
            show wJ _ _ _ _ _ _ _ _ _ _
            have hSq134 : cQ T n N X c f u (w1 - 2) i (pz_a I x.2 (pz_h I u)) F Sq134 := hc130
            have gSq134 : cQg f (m : Int) w1 S Sq134 := cQg_tr (cQg_tr gm0 (cQg_up (by omega) (by decide) (by omega))) (hg131 _ _ (by omega))
            have tSq134 : Sq134 63 16 = (S 63 16) := (ht132).trans ((w_up_at (by decide)).trans rfl)
            have hlSq134 : (pz_a I x.2 (pz_h I u)).length = I.length := pz_a_len _ _ _
            refine wa_goto ⟨_, rfl⟩ ?_
            refine wa_goto ⟨_, rfl⟩ ?_
            have ew : ws1 u x I = (pz_a I x.2 (pz_h I u)) := by unfold ws1; rw [if_pos (by omega)]
            have hl2 : (pz_a I x.2 (pz_h I u)).length ≤ I.length + 1 ∧ I.length ≤ (pz_a I x.2 (pz_h I u)).length := ⟨by omega, by omega⟩
            have hz1 := ih (pz_a I x.2 (pz_h I u)) (w1 - 2) Sq134 hSq134 (by omega) (wt_ag W (fun x hx => cQg_71 (w := w1) gSq134 (by omega)) hwt.2.2) (ow_le hl2.2 W how.2.2.2) (by omega) (by omega)
            refine wJ_S (wJ_mono hz1 (fun o Z hz => ?_)) ⟨rfl, rfl, rfl, trivial⟩
            obtain ⟨W2, I2, z0, z1, z2, z3, z4, z5, z6, z7, z8⟩ := hz
            refine ⟨W2, I2, z0, z1, z2, z3, z4, cQg_tr (cQg_mo gSq134 (by omega) (by omega)) z5, ⟨by omega, by omega⟩, z7.trans tSq134, fun R hR Φ t qq => z8 R hR Φ 0 ?_⟩
            rw [← ew]
            exact wD_pop (K := kq T n N X) (i := i) hR how2 (by omega) qq
end Wbf
