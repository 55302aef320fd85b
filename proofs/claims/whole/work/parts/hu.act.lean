/-! PART hu: the class: act calls a host's member. -/
section Whu
variable {xs : List (Nat × List Int32)} {M : Nat → Prop} {d : Nat} {S Z A B C : wS}
theorem acha_73_215 {x l wh so : Int} {R : wS → Prop} (hC : w_CL S) (hI : gI S) (hl : cSl S) (h72 : S 72 1 = 73) (hx : 0 ≤ x ∧ x < S 48 (-1)) (e48 : S 48 x = l) (hl12 : l = 1 ∨ l = 2) (he51 : S 51 x = wh) (hwh : 0 ≤ wh ∧ wh < 400) (hso : S 98 wh = so) (hso2 : so = 1 ∨ so = 2) (hcm : wJ (pe_GA xs) wY0 (mS [217, 218, 152]) d t_XL_callMember ((pe_at t_XL_callMember.bl 0).getD (0, [])).2 [(0, (2, 158)), (1, (0, wh))] [] S (fun o Z => o = .inl none ∧ R Z)) : wJ (pe_GA xs) wY0 (mS [217, 218, 152]) (d + 1) t_XL_act ((pe_at t_XL_act.bl 0).getD (0, [])).2 [(0, (2, 158)), (1, (0, x))] [] S (fun o Z => o = .inl none ∧ R Z) := by
  have h35 := hl.2.1
  have h48 := hl.2.2.2
  refine wa_aload_n (n := 0) rfl ?_
  refine wb_gf4 158 rfl (wy_pr rfl) wt_158 wf_5_3 (v := 47) wl_158_3 ?_
  refine wa_iconst ?_
  refine wb_aald5 47 3 rfl rfl (wy_pr rfl) wt_47 (by rw [show _ = _ from ((cl_47 hC))]; omega) wl_47_3 ?_
  refine wa_iload_n (n := 1) rfl ?_
  refine wb_iald 51 rfl (wy_pr rfl) wt_51 (n := (S 48 (-1))) ((hl.2.2.1 3 (by decide))) (by omega) (by omega) (v := wh) (he51) (fun r1 => ?_)
  refine wa_istore_n (n := 2) rfl ?_
  refine wa_aload_n (n := 0) rfl ?_
  refine wb_gf4 158 rfl (wy_pr rfl) wt_158 wf_5_3 (v := 47) wl_158_3 ?_
  refine wa_iconst ?_
  refine wb_aald5 47 0 rfl rfl (wy_pr rfl) wt_47 (by rw [show _ = _ from ((cl_47 hC))]; omega) wl_47_0 ?_
  refine wa_iload_n (n := 1) rfl ?_
  refine wb_iald 48 rfl (wy_pr rfl) wt_48 (n := (S 48 (-1))) (rfl) (by omega) (by omega) (v := l) (e48) (fun r2 => ?_)
  by_cases c3 : l = 0
  · exact absurd c3 (by omega)
  by_cases c4 : l = 3
  · exact absurd c4 (by omega)
  refine wa_lw (tb := 0) (w_rg0 (by omega) (by omega)) (q := (116, 7)) (lw_df [0, 3] rfl (by simp only [List.mem_cons, List.not_mem_nil, or_false, not_or]; omega) (by first | rfl | decide)) ⟨_, rfl⟩ ?_
  refine wa_aload_n (n := 0) rfl ?_
  refine wb_gf4 158 rfl (wy_pr rfl) wt_158 wf_5_0 (v := 72) wl_158_0 ?_
  refine wb_gf5 72 rfl (wy_pr rfl) wt_72 wf_2_1 (v := 73) (h72) (fun r5 => ?_)
  refine wb_gf4 73 rfl (wy_pr rfl) wt_73 wf_3_3 (v := 96) wl_73_3 ?_
  refine wa_iconst ?_
  refine wb_aald5 96 1 rfl rfl (wy_pr rfl) wt_96 (by rw [show _ = _ from ((cl_96 hC))]; omega) wl_96_1 ?_
  refine wa_iload_n (n := 2) rfl ?_
  refine wb_iald 98 rfl (wy_pr rfl) wt_98 (n := 400) ((cl_98 hC)) (by omega) (by omega) (v := so) (hso) (fun r6 => ?_)
  refine wa_ifne (w_rg0 (by omega) (by omega)) ⟨_, rfl⟩ (fun c7 => ?_) (fun c7 => ?_)
  · skip
    refine wa_aload_n (n := 0) rfl ?_
    refine wa_iload_n (n := 2) rfl ?_
    refine wa_cv 158 rfl (wy_pr rfl) wt_158 (M2 := mS [217, 218, 152]) rfl at_XL_callMember ⟨_, rfl⟩ rfl rfl ⟨trivial, (Or.inr ⟨wy_pr rfl, mS_no rfl⟩), trivial, trivial⟩ trivial (fun _ _ q => q) (hcm) (fun oq8 Sq8 hp9 q8 => ?_)
    rcases q8 with ⟨rfl, hR⟩
    show wJ _ _ _ _ _ _ _ _ _ _
    refine wa_fall ⟨_, rfl⟩ ?_
    refine wa_return rfl ?_
    exact ⟨rfl, hR⟩
  · skip
    exact absurd c7 (by omega)
theorem achx_73_215 {x l wh so : Int} {R : wS → Prop} (hC : w_CL S) (hI : gI S) (hl : cSl S) (h72 : S 72 1 = 73) (hx : 0 ≤ x ∧ x < S 48 (-1)) (e48 : S 48 x = l) (hl12 : l = 1 ∨ l = 2) (he51 : S 51 x = wh) (hwh : 0 ≤ wh ∧ wh < 400) (hso : S 98 wh = so) (hso2 : so = 1 ∨ so = 2) (hcm : wJ (pe_GA xs) wY0 (mS [217, 218, 152, 3]) d t_XL_callMember ((pe_at t_XL_callMember.bl 0).getD (0, [])).2 [(0, (2, 158)), (1, (0, wh))] [] S (fun o Z => o = .inl none ∧ R Z)) : wJ (pe_GA xs) wY0 (mS [217, 218, 152, 3]) (d + 1) t_XL_act ((pe_at t_XL_act.bl 0).getD (0, [])).2 [(0, (2, 158)), (1, (0, x))] [] S (fun o Z => o = .inl none ∧ R Z) := by
  have h35 := hl.2.1
  have h48 := hl.2.2.2
  refine wa_aload_n (n := 0) rfl ?_
  refine wb_gf4 158 rfl (wy_pr rfl) wt_158 wf_5_3 (v := 47) wl_158_3 ?_
  refine wa_iconst ?_
  refine wb_aald5 47 3 rfl rfl (wy_pr rfl) wt_47 (by rw [show _ = _ from ((cl_47 hC))]; omega) wl_47_3 ?_
  refine wa_iload_n (n := 1) rfl ?_
  refine wb_iald 51 rfl (wy_pr rfl) wt_51 (n := (S 48 (-1))) ((hl.2.2.1 3 (by decide))) (by omega) (by omega) (v := wh) (he51) (fun r1 => ?_)
  refine wa_istore_n (n := 2) rfl ?_
  refine wa_aload_n (n := 0) rfl ?_
  refine wb_gf4 158 rfl (wy_pr rfl) wt_158 wf_5_3 (v := 47) wl_158_3 ?_
  refine wa_iconst ?_
  refine wb_aald5 47 0 rfl rfl (wy_pr rfl) wt_47 (by rw [show _ = _ from ((cl_47 hC))]; omega) wl_47_0 ?_
  refine wa_iload_n (n := 1) rfl ?_
  refine wb_iald 48 rfl (wy_pr rfl) wt_48 (n := (S 48 (-1))) (rfl) (by omega) (by omega) (v := l) (e48) (fun r2 => ?_)
  by_cases c3 : l = 0
  · exact absurd c3 (by omega)
  by_cases c4 : l = 3
  · exact absurd c4 (by omega)
  refine wa_lw (tb := 0) (w_rg0 (by omega) (by omega)) (q := (116, 7)) (lw_df [0, 3] rfl (by simp only [List.mem_cons, List.not_mem_nil, or_false, not_or]; omega) (by first | rfl | decide)) ⟨_, rfl⟩ ?_
  refine wa_aload_n (n := 0) rfl ?_
  refine wb_gf4 158 rfl (wy_pr rfl) wt_158 wf_5_0 (v := 72) wl_158_0 ?_
  refine wb_gf5 72 rfl (wy_pr rfl) wt_72 wf_2_1 (v := 73) (h72) (fun r5 => ?_)
  refine wb_gf4 73 rfl (wy_pr rfl) wt_73 wf_3_3 (v := 96) wl_73_3 ?_
  refine wa_iconst ?_
  refine wb_aald5 96 1 rfl rfl (wy_pr rfl) wt_96 (by rw [show _ = _ from ((cl_96 hC))]; omega) wl_96_1 ?_
  refine wa_iload_n (n := 2) rfl ?_
  refine wb_iald 98 rfl (wy_pr rfl) wt_98 (n := 400) ((cl_98 hC)) (by omega) (by omega) (v := so) (hso) (fun r6 => ?_)
  refine wa_ifne (w_rg0 (by omega) (by omega)) ⟨_, rfl⟩ (fun c7 => ?_) (fun c7 => ?_)
  · skip
    refine wa_aload_n (n := 0) rfl ?_
    refine wa_iload_n (n := 2) rfl ?_
    refine wa_cv 158 rfl (wy_pr rfl) wt_158 (M2 := mS [217, 218, 152, 3]) rfl at_XL_callMember ⟨_, rfl⟩ rfl rfl ⟨trivial, (Or.inr ⟨wy_pr rfl, mS_no rfl⟩), trivial, trivial⟩ trivial (fun _ _ q => q) (hcm) (fun oq8 Sq8 hp9 q8 => ?_)
    rcases q8 with ⟨rfl, hR⟩
    show wJ _ _ _ _ _ _ _ _ _ _
    refine wa_fall ⟨_, rfl⟩ ?_
    refine wa_return rfl ?_
    exact ⟨rfl, hR⟩
  · skip
    exact absurd c7 (by omega)
theorem achk_73_215 {x l wh so : Int} {R : wS → Prop} (hC : w_CL S) (hI : gI S) (hl : cSl S) (h72 : S 72 1 = 73) (hx : 0 ≤ x ∧ x < S 48 (-1)) (e48 : S 48 x = l) (hl12 : l = 1 ∨ l = 2) (he51 : S 51 x = wh) (hwh : 0 ≤ wh ∧ wh < 400) (hso : S 98 wh = so) (hso2 : so = 1 ∨ so = 2) (hcm : wJ (pe_GA xs) wY0 (mS [217, 218, 152, 127, 128, 129, 130, 131, 132, 133, 134, 135, 136, 141, 142]) d t_XL_callMember ((pe_at t_XL_callMember.bl 0).getD (0, [])).2 [(0, (2, 158)), (1, (0, wh))] [] S (fun o Z => o = .inl none ∧ R Z)) : wJ (pe_GA xs) wY0 (mS [217, 218, 152, 127, 128, 129, 130, 131, 132, 133, 134, 135, 136, 141, 142]) (d + 1) t_XL_act ((pe_at t_XL_act.bl 0).getD (0, [])).2 [(0, (2, 158)), (1, (0, x))] [] S (fun o Z => o = .inl none ∧ R Z) := by
  have h35 := hl.2.1
  have h48 := hl.2.2.2
  refine wa_aload_n (n := 0) rfl ?_
  refine wb_gf4 158 rfl (wy_pr rfl) wt_158 wf_5_3 (v := 47) wl_158_3 ?_
  refine wa_iconst ?_
  refine wb_aald5 47 3 rfl rfl (wy_pr rfl) wt_47 (by rw [show _ = _ from ((cl_47 hC))]; omega) wl_47_3 ?_
  refine wa_iload_n (n := 1) rfl ?_
  refine wb_iald 51 rfl (wy_pr rfl) wt_51 (n := (S 48 (-1))) ((hl.2.2.1 3 (by decide))) (by omega) (by omega) (v := wh) (he51) (fun r1 => ?_)
  refine wa_istore_n (n := 2) rfl ?_
  refine wa_aload_n (n := 0) rfl ?_
  refine wb_gf4 158 rfl (wy_pr rfl) wt_158 wf_5_3 (v := 47) wl_158_3 ?_
  refine wa_iconst ?_
  refine wb_aald5 47 0 rfl rfl (wy_pr rfl) wt_47 (by rw [show _ = _ from ((cl_47 hC))]; omega) wl_47_0 ?_
  refine wa_iload_n (n := 1) rfl ?_
  refine wb_iald 48 rfl (wy_pr rfl) wt_48 (n := (S 48 (-1))) (rfl) (by omega) (by omega) (v := l) (e48) (fun r2 => ?_)
  by_cases c3 : l = 0
  · exact absurd c3 (by omega)
  by_cases c4 : l = 3
  · exact absurd c4 (by omega)
  refine wa_lw (tb := 0) (w_rg0 (by omega) (by omega)) (q := (116, 7)) (lw_df [0, 3] rfl (by simp only [List.mem_cons, List.not_mem_nil, or_false, not_or]; omega) (by first | rfl | decide)) ⟨_, rfl⟩ ?_
  refine wa_aload_n (n := 0) rfl ?_
  refine wb_gf4 158 rfl (wy_pr rfl) wt_158 wf_5_0 (v := 72) wl_158_0 ?_
  refine wb_gf5 72 rfl (wy_pr rfl) wt_72 wf_2_1 (v := 73) (h72) (fun r5 => ?_)
  refine wb_gf4 73 rfl (wy_pr rfl) wt_73 wf_3_3 (v := 96) wl_73_3 ?_
  refine wa_iconst ?_
  refine wb_aald5 96 1 rfl rfl (wy_pr rfl) wt_96 (by rw [show _ = _ from ((cl_96 hC))]; omega) wl_96_1 ?_
  refine wa_iload_n (n := 2) rfl ?_
  refine wb_iald 98 rfl (wy_pr rfl) wt_98 (n := 400) ((cl_98 hC)) (by omega) (by omega) (v := so) (hso) (fun r6 => ?_)
  refine wa_ifne (w_rg0 (by omega) (by omega)) ⟨_, rfl⟩ (fun c7 => ?_) (fun c7 => ?_)
  · skip
    refine wa_aload_n (n := 0) rfl ?_
    refine wa_iload_n (n := 2) rfl ?_
    refine wa_cv 158 rfl (wy_pr rfl) wt_158 (M2 := mS [217, 218, 152, 127, 128, 129, 130, 131, 132, 133, 134, 135, 136, 141, 142]) rfl at_XL_callMember ⟨_, rfl⟩ rfl rfl ⟨trivial, (Or.inr ⟨wy_pr rfl, mS_no rfl⟩), trivial, trivial⟩ trivial (fun _ _ q => q) (hcm) (fun oq8 Sq8 hp9 q8 => ?_)
    rcases q8 with ⟨rfl, hR⟩
    show wJ _ _ _ _ _ _ _ _ _ _
    refine wa_fall ⟨_, rfl⟩ ?_
    refine wa_return rfl ?_
    exact ⟨rfl, hR⟩
  · skip
    exact absurd c7 (by omega)
theorem acha_73_226 {x l wh so : Int} {R : wS → Prop} (hC : w_CL S) (hI : gI S) (hl : cSl S) (h72 : S 72 1 = 73) (hx : 0 ≤ x ∧ x < S 48 (-1)) (e48 : S 48 x = l) (hl12 : l = 1 ∨ l = 2) (he51 : S 51 x = wh) (hwh : 0 ≤ wh ∧ wh < 400) (hso : S 98 wh = so) (hso2 : so = 1 ∨ so = 2) (hcm : wJ (pe_GA xs) wY0 (mS [228, 229, 152]) d t_XL_callMember ((pe_at t_XL_callMember.bl 0).getD (0, [])).2 [(0, (2, 158)), (1, (0, wh))] [] S (fun o Z => o = .inl none ∧ R Z)) : wJ (pe_GA xs) wY0 (mS [228, 229, 152]) (d + 1) t_XL_act ((pe_at t_XL_act.bl 0).getD (0, [])).2 [(0, (2, 158)), (1, (0, x))] [] S (fun o Z => o = .inl none ∧ R Z) := by
  have h35 := hl.2.1
  have h48 := hl.2.2.2
  refine wa_aload_n (n := 0) rfl ?_
  refine wb_gf4 158 rfl (wy_pr rfl) wt_158 wf_5_3 (v := 47) wl_158_3 ?_
  refine wa_iconst ?_
  refine wb_aald5 47 3 rfl rfl (wy_pr rfl) wt_47 (by rw [show _ = _ from ((cl_47 hC))]; omega) wl_47_3 ?_
  refine wa_iload_n (n := 1) rfl ?_
  refine wb_iald 51 rfl (wy_pr rfl) wt_51 (n := (S 48 (-1))) ((hl.2.2.1 3 (by decide))) (by omega) (by omega) (v := wh) (he51) (fun r1 => ?_)
  refine wa_istore_n (n := 2) rfl ?_
  refine wa_aload_n (n := 0) rfl ?_
  refine wb_gf4 158 rfl (wy_pr rfl) wt_158 wf_5_3 (v := 47) wl_158_3 ?_
  refine wa_iconst ?_
  refine wb_aald5 47 0 rfl rfl (wy_pr rfl) wt_47 (by rw [show _ = _ from ((cl_47 hC))]; omega) wl_47_0 ?_
  refine wa_iload_n (n := 1) rfl ?_
  refine wb_iald 48 rfl (wy_pr rfl) wt_48 (n := (S 48 (-1))) (rfl) (by omega) (by omega) (v := l) (e48) (fun r2 => ?_)
  by_cases c3 : l = 0
  · exact absurd c3 (by omega)
  by_cases c4 : l = 3
  · exact absurd c4 (by omega)
  refine wa_lw (tb := 0) (w_rg0 (by omega) (by omega)) (q := (116, 7)) (lw_df [0, 3] rfl (by simp only [List.mem_cons, List.not_mem_nil, or_false, not_or]; omega) (by first | rfl | decide)) ⟨_, rfl⟩ ?_
  refine wa_aload_n (n := 0) rfl ?_
  refine wb_gf4 158 rfl (wy_pr rfl) wt_158 wf_5_0 (v := 72) wl_158_0 ?_
  refine wb_gf5 72 rfl (wy_pr rfl) wt_72 wf_2_1 (v := 73) (h72) (fun r5 => ?_)
  refine wb_gf4 73 rfl (wy_pr rfl) wt_73 wf_3_3 (v := 96) wl_73_3 ?_
  refine wa_iconst ?_
  refine wb_aald5 96 1 rfl rfl (wy_pr rfl) wt_96 (by rw [show _ = _ from ((cl_96 hC))]; omega) wl_96_1 ?_
  refine wa_iload_n (n := 2) rfl ?_
  refine wb_iald 98 rfl (wy_pr rfl) wt_98 (n := 400) ((cl_98 hC)) (by omega) (by omega) (v := so) (hso) (fun r6 => ?_)
  refine wa_ifne (w_rg0 (by omega) (by omega)) ⟨_, rfl⟩ (fun c7 => ?_) (fun c7 => ?_)
  · skip
    refine wa_aload_n (n := 0) rfl ?_
    refine wa_iload_n (n := 2) rfl ?_
    refine wa_cv 158 rfl (wy_pr rfl) wt_158 (M2 := mS [228, 229, 152]) rfl at_XL_callMember ⟨_, rfl⟩ rfl rfl ⟨trivial, (Or.inr ⟨wy_pr rfl, mS_no rfl⟩), trivial, trivial⟩ trivial (fun _ _ q => q) (hcm) (fun oq8 Sq8 hp9 q8 => ?_)
    rcases q8 with ⟨rfl, hR⟩
    show wJ _ _ _ _ _ _ _ _ _ _
    refine wa_fall ⟨_, rfl⟩ ?_
    refine wa_return rfl ?_
    exact ⟨rfl, hR⟩
  · skip
    exact absurd c7 (by omega)
theorem achx_73_226 {x l wh so : Int} {R : wS → Prop} (hC : w_CL S) (hI : gI S) (hl : cSl S) (h72 : S 72 1 = 73) (hx : 0 ≤ x ∧ x < S 48 (-1)) (e48 : S 48 x = l) (hl12 : l = 1 ∨ l = 2) (he51 : S 51 x = wh) (hwh : 0 ≤ wh ∧ wh < 400) (hso : S 98 wh = so) (hso2 : so = 1 ∨ so = 2) (hcm : wJ (pe_GA xs) wY0 (mS [228, 229, 152, 3]) d t_XL_callMember ((pe_at t_XL_callMember.bl 0).getD (0, [])).2 [(0, (2, 158)), (1, (0, wh))] [] S (fun o Z => o = .inl none ∧ R Z)) : wJ (pe_GA xs) wY0 (mS [228, 229, 152, 3]) (d + 1) t_XL_act ((pe_at t_XL_act.bl 0).getD (0, [])).2 [(0, (2, 158)), (1, (0, x))] [] S (fun o Z => o = .inl none ∧ R Z) := by
  have h35 := hl.2.1
  have h48 := hl.2.2.2
  refine wa_aload_n (n := 0) rfl ?_
  refine wb_gf4 158 rfl (wy_pr rfl) wt_158 wf_5_3 (v := 47) wl_158_3 ?_
  refine wa_iconst ?_
  refine wb_aald5 47 3 rfl rfl (wy_pr rfl) wt_47 (by rw [show _ = _ from ((cl_47 hC))]; omega) wl_47_3 ?_
  refine wa_iload_n (n := 1) rfl ?_
  refine wb_iald 51 rfl (wy_pr rfl) wt_51 (n := (S 48 (-1))) ((hl.2.2.1 3 (by decide))) (by omega) (by omega) (v := wh) (he51) (fun r1 => ?_)
  refine wa_istore_n (n := 2) rfl ?_
  refine wa_aload_n (n := 0) rfl ?_
  refine wb_gf4 158 rfl (wy_pr rfl) wt_158 wf_5_3 (v := 47) wl_158_3 ?_
  refine wa_iconst ?_
  refine wb_aald5 47 0 rfl rfl (wy_pr rfl) wt_47 (by rw [show _ = _ from ((cl_47 hC))]; omega) wl_47_0 ?_
  refine wa_iload_n (n := 1) rfl ?_
  refine wb_iald 48 rfl (wy_pr rfl) wt_48 (n := (S 48 (-1))) (rfl) (by omega) (by omega) (v := l) (e48) (fun r2 => ?_)
  by_cases c3 : l = 0
  · exact absurd c3 (by omega)
  by_cases c4 : l = 3
  · exact absurd c4 (by omega)
  refine wa_lw (tb := 0) (w_rg0 (by omega) (by omega)) (q := (116, 7)) (lw_df [0, 3] rfl (by simp only [List.mem_cons, List.not_mem_nil, or_false, not_or]; omega) (by first | rfl | decide)) ⟨_, rfl⟩ ?_
  refine wa_aload_n (n := 0) rfl ?_
  refine wb_gf4 158 rfl (wy_pr rfl) wt_158 wf_5_0 (v := 72) wl_158_0 ?_
  refine wb_gf5 72 rfl (wy_pr rfl) wt_72 wf_2_1 (v := 73) (h72) (fun r5 => ?_)
  refine wb_gf4 73 rfl (wy_pr rfl) wt_73 wf_3_3 (v := 96) wl_73_3 ?_
  refine wa_iconst ?_
  refine wb_aald5 96 1 rfl rfl (wy_pr rfl) wt_96 (by rw [show _ = _ from ((cl_96 hC))]; omega) wl_96_1 ?_
  refine wa_iload_n (n := 2) rfl ?_
  refine wb_iald 98 rfl (wy_pr rfl) wt_98 (n := 400) ((cl_98 hC)) (by omega) (by omega) (v := so) (hso) (fun r6 => ?_)
  refine wa_ifne (w_rg0 (by omega) (by omega)) ⟨_, rfl⟩ (fun c7 => ?_) (fun c7 => ?_)
  · skip
    refine wa_aload_n (n := 0) rfl ?_
    refine wa_iload_n (n := 2) rfl ?_
    refine wa_cv 158 rfl (wy_pr rfl) wt_158 (M2 := mS [228, 229, 152, 3]) rfl at_XL_callMember ⟨_, rfl⟩ rfl rfl ⟨trivial, (Or.inr ⟨wy_pr rfl, mS_no rfl⟩), trivial, trivial⟩ trivial (fun _ _ q => q) (hcm) (fun oq8 Sq8 hp9 q8 => ?_)
    rcases q8 with ⟨rfl, hR⟩
    show wJ _ _ _ _ _ _ _ _ _ _
    refine wa_fall ⟨_, rfl⟩ ?_
    refine wa_return rfl ?_
    exact ⟨rfl, hR⟩
  · skip
    exact absurd c7 (by omega)
theorem achk_73_226 {x l wh so : Int} {R : wS → Prop} (hC : w_CL S) (hI : gI S) (hl : cSl S) (h72 : S 72 1 = 73) (hx : 0 ≤ x ∧ x < S 48 (-1)) (e48 : S 48 x = l) (hl12 : l = 1 ∨ l = 2) (he51 : S 51 x = wh) (hwh : 0 ≤ wh ∧ wh < 400) (hso : S 98 wh = so) (hso2 : so = 1 ∨ so = 2) (hcm : wJ (pe_GA xs) wY0 (mS [228, 229, 152, 127, 128, 129, 130, 131, 132, 133, 134, 135, 136, 141, 142]) d t_XL_callMember ((pe_at t_XL_callMember.bl 0).getD (0, [])).2 [(0, (2, 158)), (1, (0, wh))] [] S (fun o Z => o = .inl none ∧ R Z)) : wJ (pe_GA xs) wY0 (mS [228, 229, 152, 127, 128, 129, 130, 131, 132, 133, 134, 135, 136, 141, 142]) (d + 1) t_XL_act ((pe_at t_XL_act.bl 0).getD (0, [])).2 [(0, (2, 158)), (1, (0, x))] [] S (fun o Z => o = .inl none ∧ R Z) := by
  have h35 := hl.2.1
  have h48 := hl.2.2.2
  refine wa_aload_n (n := 0) rfl ?_
  refine wb_gf4 158 rfl (wy_pr rfl) wt_158 wf_5_3 (v := 47) wl_158_3 ?_
  refine wa_iconst ?_
  refine wb_aald5 47 3 rfl rfl (wy_pr rfl) wt_47 (by rw [show _ = _ from ((cl_47 hC))]; omega) wl_47_3 ?_
  refine wa_iload_n (n := 1) rfl ?_
  refine wb_iald 51 rfl (wy_pr rfl) wt_51 (n := (S 48 (-1))) ((hl.2.2.1 3 (by decide))) (by omega) (by omega) (v := wh) (he51) (fun r1 => ?_)
  refine wa_istore_n (n := 2) rfl ?_
  refine wa_aload_n (n := 0) rfl ?_
  refine wb_gf4 158 rfl (wy_pr rfl) wt_158 wf_5_3 (v := 47) wl_158_3 ?_
  refine wa_iconst ?_
  refine wb_aald5 47 0 rfl rfl (wy_pr rfl) wt_47 (by rw [show _ = _ from ((cl_47 hC))]; omega) wl_47_0 ?_
  refine wa_iload_n (n := 1) rfl ?_
  refine wb_iald 48 rfl (wy_pr rfl) wt_48 (n := (S 48 (-1))) (rfl) (by omega) (by omega) (v := l) (e48) (fun r2 => ?_)
  by_cases c3 : l = 0
  · exact absurd c3 (by omega)
  by_cases c4 : l = 3
  · exact absurd c4 (by omega)
  refine wa_lw (tb := 0) (w_rg0 (by omega) (by omega)) (q := (116, 7)) (lw_df [0, 3] rfl (by simp only [List.mem_cons, List.not_mem_nil, or_false, not_or]; omega) (by first | rfl | decide)) ⟨_, rfl⟩ ?_
  refine wa_aload_n (n := 0) rfl ?_
  refine wb_gf4 158 rfl (wy_pr rfl) wt_158 wf_5_0 (v := 72) wl_158_0 ?_
  refine wb_gf5 72 rfl (wy_pr rfl) wt_72 wf_2_1 (v := 73) (h72) (fun r5 => ?_)
  refine wb_gf4 73 rfl (wy_pr rfl) wt_73 wf_3_3 (v := 96) wl_73_3 ?_
  refine wa_iconst ?_
  refine wb_aald5 96 1 rfl rfl (wy_pr rfl) wt_96 (by rw [show _ = _ from ((cl_96 hC))]; omega) wl_96_1 ?_
  refine wa_iload_n (n := 2) rfl ?_
  refine wb_iald 98 rfl (wy_pr rfl) wt_98 (n := 400) ((cl_98 hC)) (by omega) (by omega) (v := so) (hso) (fun r6 => ?_)
  refine wa_ifne (w_rg0 (by omega) (by omega)) ⟨_, rfl⟩ (fun c7 => ?_) (fun c7 => ?_)
  · skip
    refine wa_aload_n (n := 0) rfl ?_
    refine wa_iload_n (n := 2) rfl ?_
    refine wa_cv 158 rfl (wy_pr rfl) wt_158 (M2 := mS [228, 229, 152, 127, 128, 129, 130, 131, 132, 133, 134, 135, 136, 141, 142]) rfl at_XL_callMember ⟨_, rfl⟩ rfl rfl ⟨trivial, (Or.inr ⟨wy_pr rfl, mS_no rfl⟩), trivial, trivial⟩ trivial (fun _ _ q => q) (hcm) (fun oq8 Sq8 hp9 q8 => ?_)
    rcases q8 with ⟨rfl, hR⟩
    show wJ _ _ _ _ _ _ _ _ _ _
    refine wa_fall ⟨_, rfl⟩ ?_
    refine wa_return rfl ?_
    exact ⟨rfl, hR⟩
  · skip
    exact absurd c7 (by omega)
theorem acha_162_215 {x l wh so : Int} {R : wS → Prop} (hC : w_CL S) (hI : gI S) (hl : cSl S) (h72 : S 72 1 = 162) (hx : 0 ≤ x ∧ x < S 48 (-1)) (e48 : S 48 x = l) (hl12 : l = 1 ∨ l = 2) (he51 : S 51 x = wh) (hwh : 0 ≤ wh ∧ wh < 400) (hso : S 187 wh = so) (hso2 : so = 1 ∨ so = 2) (hcm : wJ (pe_GA xs) wY0 (mS [217, 218, 152]) d t_XL_callMember ((pe_at t_XL_callMember.bl 0).getD (0, [])).2 [(0, (2, 158)), (1, (0, wh))] [] S (fun o Z => o = .inl none ∧ R Z)) : wJ (pe_GA xs) wY0 (mS [217, 218, 152]) (d + 1) t_XL_act ((pe_at t_XL_act.bl 0).getD (0, [])).2 [(0, (2, 158)), (1, (0, x))] [] S (fun o Z => o = .inl none ∧ R Z) := by
  have h35 := hl.2.1
  have h48 := hl.2.2.2
  refine wa_aload_n (n := 0) rfl ?_
  refine wb_gf4 158 rfl (wy_pr rfl) wt_158 wf_5_3 (v := 47) wl_158_3 ?_
  refine wa_iconst ?_
  refine wb_aald5 47 3 rfl rfl (wy_pr rfl) wt_47 (by rw [show _ = _ from ((cl_47 hC))]; omega) wl_47_3 ?_
  refine wa_iload_n (n := 1) rfl ?_
  refine wb_iald 51 rfl (wy_pr rfl) wt_51 (n := (S 48 (-1))) ((hl.2.2.1 3 (by decide))) (by omega) (by omega) (v := wh) (he51) (fun r1 => ?_)
  refine wa_istore_n (n := 2) rfl ?_
  refine wa_aload_n (n := 0) rfl ?_
  refine wb_gf4 158 rfl (wy_pr rfl) wt_158 wf_5_3 (v := 47) wl_158_3 ?_
  refine wa_iconst ?_
  refine wb_aald5 47 0 rfl rfl (wy_pr rfl) wt_47 (by rw [show _ = _ from ((cl_47 hC))]; omega) wl_47_0 ?_
  refine wa_iload_n (n := 1) rfl ?_
  refine wb_iald 48 rfl (wy_pr rfl) wt_48 (n := (S 48 (-1))) (rfl) (by omega) (by omega) (v := l) (e48) (fun r2 => ?_)
  by_cases c3 : l = 0
  · exact absurd c3 (by omega)
  by_cases c4 : l = 3
  · exact absurd c4 (by omega)
  refine wa_lw (tb := 0) (w_rg0 (by omega) (by omega)) (q := (116, 7)) (lw_df [0, 3] rfl (by simp only [List.mem_cons, List.not_mem_nil, or_false, not_or]; omega) (by first | rfl | decide)) ⟨_, rfl⟩ ?_
  refine wa_aload_n (n := 0) rfl ?_
  refine wb_gf4 158 rfl (wy_pr rfl) wt_158 wf_5_0 (v := 72) wl_158_0 ?_
  refine wb_gf5 72 rfl (wy_pr rfl) wt_72 wf_2_1 (v := 162) (h72) (fun r5 => ?_)
  refine wb_gf4 162 rfl (wy_pr rfl) wt_162 wf_3_3 (v := 185) wl_162_3 ?_
  refine wa_iconst ?_
  refine wb_aald5 185 1 rfl rfl (wy_pr rfl) wt_185 (by rw [show _ = _ from ((cl_185 hC))]; omega) wl_185_1 ?_
  refine wa_iload_n (n := 2) rfl ?_
  refine wb_iald 187 rfl (wy_pr rfl) wt_187 (n := 400) ((cl_187 hC)) (by omega) (by omega) (v := so) (hso) (fun r6 => ?_)
  refine wa_ifne (w_rg0 (by omega) (by omega)) ⟨_, rfl⟩ (fun c7 => ?_) (fun c7 => ?_)
  · skip
    refine wa_aload_n (n := 0) rfl ?_
    refine wa_iload_n (n := 2) rfl ?_
    refine wa_cv 158 rfl (wy_pr rfl) wt_158 (M2 := mS [217, 218, 152]) rfl at_XL_callMember ⟨_, rfl⟩ rfl rfl ⟨trivial, (Or.inr ⟨wy_pr rfl, mS_no rfl⟩), trivial, trivial⟩ trivial (fun _ _ q => q) (hcm) (fun oq8 Sq8 hp9 q8 => ?_)
    rcases q8 with ⟨rfl, hR⟩
    show wJ _ _ _ _ _ _ _ _ _ _
    refine wa_fall ⟨_, rfl⟩ ?_
    refine wa_return rfl ?_
    exact ⟨rfl, hR⟩
  · skip
    exact absurd c7 (by omega)
theorem achx_162_215 {x l wh so : Int} {R : wS → Prop} (hC : w_CL S) (hI : gI S) (hl : cSl S) (h72 : S 72 1 = 162) (hx : 0 ≤ x ∧ x < S 48 (-1)) (e48 : S 48 x = l) (hl12 : l = 1 ∨ l = 2) (he51 : S 51 x = wh) (hwh : 0 ≤ wh ∧ wh < 400) (hso : S 187 wh = so) (hso2 : so = 1 ∨ so = 2) (hcm : wJ (pe_GA xs) wY0 (mS [217, 218, 152, 3]) d t_XL_callMember ((pe_at t_XL_callMember.bl 0).getD (0, [])).2 [(0, (2, 158)), (1, (0, wh))] [] S (fun o Z => o = .inl none ∧ R Z)) : wJ (pe_GA xs) wY0 (mS [217, 218, 152, 3]) (d + 1) t_XL_act ((pe_at t_XL_act.bl 0).getD (0, [])).2 [(0, (2, 158)), (1, (0, x))] [] S (fun o Z => o = .inl none ∧ R Z) := by
  have h35 := hl.2.1
  have h48 := hl.2.2.2
  refine wa_aload_n (n := 0) rfl ?_
  refine wb_gf4 158 rfl (wy_pr rfl) wt_158 wf_5_3 (v := 47) wl_158_3 ?_
  refine wa_iconst ?_
  refine wb_aald5 47 3 rfl rfl (wy_pr rfl) wt_47 (by rw [show _ = _ from ((cl_47 hC))]; omega) wl_47_3 ?_
  refine wa_iload_n (n := 1) rfl ?_
  refine wb_iald 51 rfl (wy_pr rfl) wt_51 (n := (S 48 (-1))) ((hl.2.2.1 3 (by decide))) (by omega) (by omega) (v := wh) (he51) (fun r1 => ?_)
  refine wa_istore_n (n := 2) rfl ?_
  refine wa_aload_n (n := 0) rfl ?_
  refine wb_gf4 158 rfl (wy_pr rfl) wt_158 wf_5_3 (v := 47) wl_158_3 ?_
  refine wa_iconst ?_
  refine wb_aald5 47 0 rfl rfl (wy_pr rfl) wt_47 (by rw [show _ = _ from ((cl_47 hC))]; omega) wl_47_0 ?_
  refine wa_iload_n (n := 1) rfl ?_
  refine wb_iald 48 rfl (wy_pr rfl) wt_48 (n := (S 48 (-1))) (rfl) (by omega) (by omega) (v := l) (e48) (fun r2 => ?_)
  by_cases c3 : l = 0
  · exact absurd c3 (by omega)
  by_cases c4 : l = 3
  · exact absurd c4 (by omega)
  refine wa_lw (tb := 0) (w_rg0 (by omega) (by omega)) (q := (116, 7)) (lw_df [0, 3] rfl (by simp only [List.mem_cons, List.not_mem_nil, or_false, not_or]; omega) (by first | rfl | decide)) ⟨_, rfl⟩ ?_
  refine wa_aload_n (n := 0) rfl ?_
  refine wb_gf4 158 rfl (wy_pr rfl) wt_158 wf_5_0 (v := 72) wl_158_0 ?_
  refine wb_gf5 72 rfl (wy_pr rfl) wt_72 wf_2_1 (v := 162) (h72) (fun r5 => ?_)
  refine wb_gf4 162 rfl (wy_pr rfl) wt_162 wf_3_3 (v := 185) wl_162_3 ?_
  refine wa_iconst ?_
  refine wb_aald5 185 1 rfl rfl (wy_pr rfl) wt_185 (by rw [show _ = _ from ((cl_185 hC))]; omega) wl_185_1 ?_
  refine wa_iload_n (n := 2) rfl ?_
  refine wb_iald 187 rfl (wy_pr rfl) wt_187 (n := 400) ((cl_187 hC)) (by omega) (by omega) (v := so) (hso) (fun r6 => ?_)
  refine wa_ifne (w_rg0 (by omega) (by omega)) ⟨_, rfl⟩ (fun c7 => ?_) (fun c7 => ?_)
  · skip
    refine wa_aload_n (n := 0) rfl ?_
    refine wa_iload_n (n := 2) rfl ?_
    refine wa_cv 158 rfl (wy_pr rfl) wt_158 (M2 := mS [217, 218, 152, 3]) rfl at_XL_callMember ⟨_, rfl⟩ rfl rfl ⟨trivial, (Or.inr ⟨wy_pr rfl, mS_no rfl⟩), trivial, trivial⟩ trivial (fun _ _ q => q) (hcm) (fun oq8 Sq8 hp9 q8 => ?_)
    rcases q8 with ⟨rfl, hR⟩
    show wJ _ _ _ _ _ _ _ _ _ _
    refine wa_fall ⟨_, rfl⟩ ?_
    refine wa_return rfl ?_
    exact ⟨rfl, hR⟩
  · skip
    exact absurd c7 (by omega)
theorem achk_162_215 {x l wh so : Int} {R : wS → Prop} (hC : w_CL S) (hI : gI S) (hl : cSl S) (h72 : S 72 1 = 162) (hx : 0 ≤ x ∧ x < S 48 (-1)) (e48 : S 48 x = l) (hl12 : l = 1 ∨ l = 2) (he51 : S 51 x = wh) (hwh : 0 ≤ wh ∧ wh < 400) (hso : S 187 wh = so) (hso2 : so = 1 ∨ so = 2) (hcm : wJ (pe_GA xs) wY0 (mS [217, 218, 152, 127, 128, 129, 130, 131, 132, 133, 134, 135, 136, 141, 142]) d t_XL_callMember ((pe_at t_XL_callMember.bl 0).getD (0, [])).2 [(0, (2, 158)), (1, (0, wh))] [] S (fun o Z => o = .inl none ∧ R Z)) : wJ (pe_GA xs) wY0 (mS [217, 218, 152, 127, 128, 129, 130, 131, 132, 133, 134, 135, 136, 141, 142]) (d + 1) t_XL_act ((pe_at t_XL_act.bl 0).getD (0, [])).2 [(0, (2, 158)), (1, (0, x))] [] S (fun o Z => o = .inl none ∧ R Z) := by
  have h35 := hl.2.1
  have h48 := hl.2.2.2
  refine wa_aload_n (n := 0) rfl ?_
  refine wb_gf4 158 rfl (wy_pr rfl) wt_158 wf_5_3 (v := 47) wl_158_3 ?_
  refine wa_iconst ?_
  refine wb_aald5 47 3 rfl rfl (wy_pr rfl) wt_47 (by rw [show _ = _ from ((cl_47 hC))]; omega) wl_47_3 ?_
  refine wa_iload_n (n := 1) rfl ?_
  refine wb_iald 51 rfl (wy_pr rfl) wt_51 (n := (S 48 (-1))) ((hl.2.2.1 3 (by decide))) (by omega) (by omega) (v := wh) (he51) (fun r1 => ?_)
  refine wa_istore_n (n := 2) rfl ?_
  refine wa_aload_n (n := 0) rfl ?_
  refine wb_gf4 158 rfl (wy_pr rfl) wt_158 wf_5_3 (v := 47) wl_158_3 ?_
  refine wa_iconst ?_
  refine wb_aald5 47 0 rfl rfl (wy_pr rfl) wt_47 (by rw [show _ = _ from ((cl_47 hC))]; omega) wl_47_0 ?_
  refine wa_iload_n (n := 1) rfl ?_
  refine wb_iald 48 rfl (wy_pr rfl) wt_48 (n := (S 48 (-1))) (rfl) (by omega) (by omega) (v := l) (e48) (fun r2 => ?_)
  by_cases c3 : l = 0
  · exact absurd c3 (by omega)
  by_cases c4 : l = 3
  · exact absurd c4 (by omega)
  refine wa_lw (tb := 0) (w_rg0 (by omega) (by omega)) (q := (116, 7)) (lw_df [0, 3] rfl (by simp only [List.mem_cons, List.not_mem_nil, or_false, not_or]; omega) (by first | rfl | decide)) ⟨_, rfl⟩ ?_
  refine wa_aload_n (n := 0) rfl ?_
  refine wb_gf4 158 rfl (wy_pr rfl) wt_158 wf_5_0 (v := 72) wl_158_0 ?_
  refine wb_gf5 72 rfl (wy_pr rfl) wt_72 wf_2_1 (v := 162) (h72) (fun r5 => ?_)
  refine wb_gf4 162 rfl (wy_pr rfl) wt_162 wf_3_3 (v := 185) wl_162_3 ?_
  refine wa_iconst ?_
  refine wb_aald5 185 1 rfl rfl (wy_pr rfl) wt_185 (by rw [show _ = _ from ((cl_185 hC))]; omega) wl_185_1 ?_
  refine wa_iload_n (n := 2) rfl ?_
  refine wb_iald 187 rfl (wy_pr rfl) wt_187 (n := 400) ((cl_187 hC)) (by omega) (by omega) (v := so) (hso) (fun r6 => ?_)
  refine wa_ifne (w_rg0 (by omega) (by omega)) ⟨_, rfl⟩ (fun c7 => ?_) (fun c7 => ?_)
  · skip
    refine wa_aload_n (n := 0) rfl ?_
    refine wa_iload_n (n := 2) rfl ?_
    refine wa_cv 158 rfl (wy_pr rfl) wt_158 (M2 := mS [217, 218, 152, 127, 128, 129, 130, 131, 132, 133, 134, 135, 136, 141, 142]) rfl at_XL_callMember ⟨_, rfl⟩ rfl rfl ⟨trivial, (Or.inr ⟨wy_pr rfl, mS_no rfl⟩), trivial, trivial⟩ trivial (fun _ _ q => q) (hcm) (fun oq8 Sq8 hp9 q8 => ?_)
    rcases q8 with ⟨rfl, hR⟩
    show wJ _ _ _ _ _ _ _ _ _ _
    refine wa_fall ⟨_, rfl⟩ ?_
    refine wa_return rfl ?_
    exact ⟨rfl, hR⟩
  · skip
    exact absurd c7 (by omega)
theorem acha_162_226 {x l wh so : Int} {R : wS → Prop} (hC : w_CL S) (hI : gI S) (hl : cSl S) (h72 : S 72 1 = 162) (hx : 0 ≤ x ∧ x < S 48 (-1)) (e48 : S 48 x = l) (hl12 : l = 1 ∨ l = 2) (he51 : S 51 x = wh) (hwh : 0 ≤ wh ∧ wh < 400) (hso : S 187 wh = so) (hso2 : so = 1 ∨ so = 2) (hcm : wJ (pe_GA xs) wY0 (mS [228, 229, 152]) d t_XL_callMember ((pe_at t_XL_callMember.bl 0).getD (0, [])).2 [(0, (2, 158)), (1, (0, wh))] [] S (fun o Z => o = .inl none ∧ R Z)) : wJ (pe_GA xs) wY0 (mS [228, 229, 152]) (d + 1) t_XL_act ((pe_at t_XL_act.bl 0).getD (0, [])).2 [(0, (2, 158)), (1, (0, x))] [] S (fun o Z => o = .inl none ∧ R Z) := by
  have h35 := hl.2.1
  have h48 := hl.2.2.2
  refine wa_aload_n (n := 0) rfl ?_
  refine wb_gf4 158 rfl (wy_pr rfl) wt_158 wf_5_3 (v := 47) wl_158_3 ?_
  refine wa_iconst ?_
  refine wb_aald5 47 3 rfl rfl (wy_pr rfl) wt_47 (by rw [show _ = _ from ((cl_47 hC))]; omega) wl_47_3 ?_
  refine wa_iload_n (n := 1) rfl ?_
  refine wb_iald 51 rfl (wy_pr rfl) wt_51 (n := (S 48 (-1))) ((hl.2.2.1 3 (by decide))) (by omega) (by omega) (v := wh) (he51) (fun r1 => ?_)
  refine wa_istore_n (n := 2) rfl ?_
  refine wa_aload_n (n := 0) rfl ?_
  refine wb_gf4 158 rfl (wy_pr rfl) wt_158 wf_5_3 (v := 47) wl_158_3 ?_
  refine wa_iconst ?_
  refine wb_aald5 47 0 rfl rfl (wy_pr rfl) wt_47 (by rw [show _ = _ from ((cl_47 hC))]; omega) wl_47_0 ?_
  refine wa_iload_n (n := 1) rfl ?_
  refine wb_iald 48 rfl (wy_pr rfl) wt_48 (n := (S 48 (-1))) (rfl) (by omega) (by omega) (v := l) (e48) (fun r2 => ?_)
  by_cases c3 : l = 0
  · exact absurd c3 (by omega)
  by_cases c4 : l = 3
  · exact absurd c4 (by omega)
  refine wa_lw (tb := 0) (w_rg0 (by omega) (by omega)) (q := (116, 7)) (lw_df [0, 3] rfl (by simp only [List.mem_cons, List.not_mem_nil, or_false, not_or]; omega) (by first | rfl | decide)) ⟨_, rfl⟩ ?_
  refine wa_aload_n (n := 0) rfl ?_
  refine wb_gf4 158 rfl (wy_pr rfl) wt_158 wf_5_0 (v := 72) wl_158_0 ?_
  refine wb_gf5 72 rfl (wy_pr rfl) wt_72 wf_2_1 (v := 162) (h72) (fun r5 => ?_)
  refine wb_gf4 162 rfl (wy_pr rfl) wt_162 wf_3_3 (v := 185) wl_162_3 ?_
  refine wa_iconst ?_
  refine wb_aald5 185 1 rfl rfl (wy_pr rfl) wt_185 (by rw [show _ = _ from ((cl_185 hC))]; omega) wl_185_1 ?_
  refine wa_iload_n (n := 2) rfl ?_
  refine wb_iald 187 rfl (wy_pr rfl) wt_187 (n := 400) ((cl_187 hC)) (by omega) (by omega) (v := so) (hso) (fun r6 => ?_)
  refine wa_ifne (w_rg0 (by omega) (by omega)) ⟨_, rfl⟩ (fun c7 => ?_) (fun c7 => ?_)
  · skip
    refine wa_aload_n (n := 0) rfl ?_
    refine wa_iload_n (n := 2) rfl ?_
    refine wa_cv 158 rfl (wy_pr rfl) wt_158 (M2 := mS [228, 229, 152]) rfl at_XL_callMember ⟨_, rfl⟩ rfl rfl ⟨trivial, (Or.inr ⟨wy_pr rfl, mS_no rfl⟩), trivial, trivial⟩ trivial (fun _ _ q => q) (hcm) (fun oq8 Sq8 hp9 q8 => ?_)
    rcases q8 with ⟨rfl, hR⟩
    show wJ _ _ _ _ _ _ _ _ _ _
    refine wa_fall ⟨_, rfl⟩ ?_
    refine wa_return rfl ?_
    exact ⟨rfl, hR⟩
  · skip
    exact absurd c7 (by omega)
theorem achx_162_226 {x l wh so : Int} {R : wS → Prop} (hC : w_CL S) (hI : gI S) (hl : cSl S) (h72 : S 72 1 = 162) (hx : 0 ≤ x ∧ x < S 48 (-1)) (e48 : S 48 x = l) (hl12 : l = 1 ∨ l = 2) (he51 : S 51 x = wh) (hwh : 0 ≤ wh ∧ wh < 400) (hso : S 187 wh = so) (hso2 : so = 1 ∨ so = 2) (hcm : wJ (pe_GA xs) wY0 (mS [228, 229, 152, 3]) d t_XL_callMember ((pe_at t_XL_callMember.bl 0).getD (0, [])).2 [(0, (2, 158)), (1, (0, wh))] [] S (fun o Z => o = .inl none ∧ R Z)) : wJ (pe_GA xs) wY0 (mS [228, 229, 152, 3]) (d + 1) t_XL_act ((pe_at t_XL_act.bl 0).getD (0, [])).2 [(0, (2, 158)), (1, (0, x))] [] S (fun o Z => o = .inl none ∧ R Z) := by
  have h35 := hl.2.1
  have h48 := hl.2.2.2
  refine wa_aload_n (n := 0) rfl ?_
  refine wb_gf4 158 rfl (wy_pr rfl) wt_158 wf_5_3 (v := 47) wl_158_3 ?_
  refine wa_iconst ?_
  refine wb_aald5 47 3 rfl rfl (wy_pr rfl) wt_47 (by rw [show _ = _ from ((cl_47 hC))]; omega) wl_47_3 ?_
  refine wa_iload_n (n := 1) rfl ?_
  refine wb_iald 51 rfl (wy_pr rfl) wt_51 (n := (S 48 (-1))) ((hl.2.2.1 3 (by decide))) (by omega) (by omega) (v := wh) (he51) (fun r1 => ?_)
  refine wa_istore_n (n := 2) rfl ?_
  refine wa_aload_n (n := 0) rfl ?_
  refine wb_gf4 158 rfl (wy_pr rfl) wt_158 wf_5_3 (v := 47) wl_158_3 ?_
  refine wa_iconst ?_
  refine wb_aald5 47 0 rfl rfl (wy_pr rfl) wt_47 (by rw [show _ = _ from ((cl_47 hC))]; omega) wl_47_0 ?_
  refine wa_iload_n (n := 1) rfl ?_
  refine wb_iald 48 rfl (wy_pr rfl) wt_48 (n := (S 48 (-1))) (rfl) (by omega) (by omega) (v := l) (e48) (fun r2 => ?_)
  by_cases c3 : l = 0
  · exact absurd c3 (by omega)
  by_cases c4 : l = 3
  · exact absurd c4 (by omega)
  refine wa_lw (tb := 0) (w_rg0 (by omega) (by omega)) (q := (116, 7)) (lw_df [0, 3] rfl (by simp only [List.mem_cons, List.not_mem_nil, or_false, not_or]; omega) (by first | rfl | decide)) ⟨_, rfl⟩ ?_
  refine wa_aload_n (n := 0) rfl ?_
  refine wb_gf4 158 rfl (wy_pr rfl) wt_158 wf_5_0 (v := 72) wl_158_0 ?_
  refine wb_gf5 72 rfl (wy_pr rfl) wt_72 wf_2_1 (v := 162) (h72) (fun r5 => ?_)
  refine wb_gf4 162 rfl (wy_pr rfl) wt_162 wf_3_3 (v := 185) wl_162_3 ?_
  refine wa_iconst ?_
  refine wb_aald5 185 1 rfl rfl (wy_pr rfl) wt_185 (by rw [show _ = _ from ((cl_185 hC))]; omega) wl_185_1 ?_
  refine wa_iload_n (n := 2) rfl ?_
  refine wb_iald 187 rfl (wy_pr rfl) wt_187 (n := 400) ((cl_187 hC)) (by omega) (by omega) (v := so) (hso) (fun r6 => ?_)
  refine wa_ifne (w_rg0 (by omega) (by omega)) ⟨_, rfl⟩ (fun c7 => ?_) (fun c7 => ?_)
  · skip
    refine wa_aload_n (n := 0) rfl ?_
    refine wa_iload_n (n := 2) rfl ?_
    refine wa_cv 158 rfl (wy_pr rfl) wt_158 (M2 := mS [228, 229, 152, 3]) rfl at_XL_callMember ⟨_, rfl⟩ rfl rfl ⟨trivial, (Or.inr ⟨wy_pr rfl, mS_no rfl⟩), trivial, trivial⟩ trivial (fun _ _ q => q) (hcm) (fun oq8 Sq8 hp9 q8 => ?_)
    rcases q8 with ⟨rfl, hR⟩
    show wJ _ _ _ _ _ _ _ _ _ _
    refine wa_fall ⟨_, rfl⟩ ?_
    refine wa_return rfl ?_
    exact ⟨rfl, hR⟩
  · skip
    exact absurd c7 (by omega)
theorem achk_162_226 {x l wh so : Int} {R : wS → Prop} (hC : w_CL S) (hI : gI S) (hl : cSl S) (h72 : S 72 1 = 162) (hx : 0 ≤ x ∧ x < S 48 (-1)) (e48 : S 48 x = l) (hl12 : l = 1 ∨ l = 2) (he51 : S 51 x = wh) (hwh : 0 ≤ wh ∧ wh < 400) (hso : S 187 wh = so) (hso2 : so = 1 ∨ so = 2) (hcm : wJ (pe_GA xs) wY0 (mS [228, 229, 152, 127, 128, 129, 130, 131, 132, 133, 134, 135, 136, 141, 142]) d t_XL_callMember ((pe_at t_XL_callMember.bl 0).getD (0, [])).2 [(0, (2, 158)), (1, (0, wh))] [] S (fun o Z => o = .inl none ∧ R Z)) : wJ (pe_GA xs) wY0 (mS [228, 229, 152, 127, 128, 129, 130, 131, 132, 133, 134, 135, 136, 141, 142]) (d + 1) t_XL_act ((pe_at t_XL_act.bl 0).getD (0, [])).2 [(0, (2, 158)), (1, (0, x))] [] S (fun o Z => o = .inl none ∧ R Z) := by
  have h35 := hl.2.1
  have h48 := hl.2.2.2
  refine wa_aload_n (n := 0) rfl ?_
  refine wb_gf4 158 rfl (wy_pr rfl) wt_158 wf_5_3 (v := 47) wl_158_3 ?_
  refine wa_iconst ?_
  refine wb_aald5 47 3 rfl rfl (wy_pr rfl) wt_47 (by rw [show _ = _ from ((cl_47 hC))]; omega) wl_47_3 ?_
  refine wa_iload_n (n := 1) rfl ?_
  refine wb_iald 51 rfl (wy_pr rfl) wt_51 (n := (S 48 (-1))) ((hl.2.2.1 3 (by decide))) (by omega) (by omega) (v := wh) (he51) (fun r1 => ?_)
  refine wa_istore_n (n := 2) rfl ?_
  refine wa_aload_n (n := 0) rfl ?_
  refine wb_gf4 158 rfl (wy_pr rfl) wt_158 wf_5_3 (v := 47) wl_158_3 ?_
  refine wa_iconst ?_
  refine wb_aald5 47 0 rfl rfl (wy_pr rfl) wt_47 (by rw [show _ = _ from ((cl_47 hC))]; omega) wl_47_0 ?_
  refine wa_iload_n (n := 1) rfl ?_
  refine wb_iald 48 rfl (wy_pr rfl) wt_48 (n := (S 48 (-1))) (rfl) (by omega) (by omega) (v := l) (e48) (fun r2 => ?_)
  by_cases c3 : l = 0
  · exact absurd c3 (by omega)
  by_cases c4 : l = 3
  · exact absurd c4 (by omega)
  refine wa_lw (tb := 0) (w_rg0 (by omega) (by omega)) (q := (116, 7)) (lw_df [0, 3] rfl (by simp only [List.mem_cons, List.not_mem_nil, or_false, not_or]; omega) (by first | rfl | decide)) ⟨_, rfl⟩ ?_
  refine wa_aload_n (n := 0) rfl ?_
  refine wb_gf4 158 rfl (wy_pr rfl) wt_158 wf_5_0 (v := 72) wl_158_0 ?_
  refine wb_gf5 72 rfl (wy_pr rfl) wt_72 wf_2_1 (v := 162) (h72) (fun r5 => ?_)
  refine wb_gf4 162 rfl (wy_pr rfl) wt_162 wf_3_3 (v := 185) wl_162_3 ?_
  refine wa_iconst ?_
  refine wb_aald5 185 1 rfl rfl (wy_pr rfl) wt_185 (by rw [show _ = _ from ((cl_185 hC))]; omega) wl_185_1 ?_
  refine wa_iload_n (n := 2) rfl ?_
  refine wb_iald 187 rfl (wy_pr rfl) wt_187 (n := 400) ((cl_187 hC)) (by omega) (by omega) (v := so) (hso) (fun r6 => ?_)
  refine wa_ifne (w_rg0 (by omega) (by omega)) ⟨_, rfl⟩ (fun c7 => ?_) (fun c7 => ?_)
  · skip
    refine wa_aload_n (n := 0) rfl ?_
    refine wa_iload_n (n := 2) rfl ?_
    refine wa_cv 158 rfl (wy_pr rfl) wt_158 (M2 := mS [228, 229, 152, 127, 128, 129, 130, 131, 132, 133, 134, 135, 136, 141, 142]) rfl at_XL_callMember ⟨_, rfl⟩ rfl rfl ⟨trivial, (Or.inr ⟨wy_pr rfl, mS_no rfl⟩), trivial, trivial⟩ trivial (fun _ _ q => q) (hcm) (fun oq8 Sq8 hp9 q8 => ?_)
    rcases q8 with ⟨rfl, hR⟩
    show wJ _ _ _ _ _ _ _ _ _ _
    refine wa_fall ⟨_, rfl⟩ ?_
    refine wa_return rfl ?_
    exact ⟨rfl, hR⟩
  · skip
    exact absurd c7 (by omega)
end Whu
