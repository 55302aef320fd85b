/-! PART if: count of each side. -/
section Wif
variable {xs : List (Nat × List Int32)} {M : Nat → Prop} {d : Nat} {S Z : wS}
def cn_c (p : Nat) (S : wS) (wh : Int) : Int := if wh = 0 then S 0 1 else if wh = 1 then S p 2 else if wh = 2 then S p 4 else if wh = 3 then S 19 3 else if wh = 4 then S 19 1 else if wh = 5 then S 19 7 else if wh = 6 then S 19 9 else if wh = 7 then S 19 16 else if wh = 8 then S 2 10 else if wh = 9 then S 2 12 else if wh = 10 then S 72 3 else if wh = 11 then S 72 5 else if wh = 12 then S 72 8 else if wh = 13 then S p 16 else if wh = 14 then S p 18 else if wh = 15 then S 72 13 else if wh = 16 then S 72 15 else if wh = 17 then S 158 19 else if wh = 18 then -1 else if wh = 19 then -1 else if wh = 20 then S 160 0 else if wh = 21 then S 160 1 else if wh = 22 then S 160 2 else if wh = 23 then S 160 3 else -1
def cn_r (b : Nat) (S : wS) (wh : Int) : Int := if wh = 0 then S 237 3 else if wh = 1 then S b 1 else if wh = 2 then S b 11 else if wh = 3 then S 237 33 else if wh = 4 then S 237 34 else if wh = 5 then S 237 43 else if wh = 6 then S 237 47 else if wh = 7 then S 237 48 else if wh = 8 then S 237 16 else if wh = 9 then S 237 19 else if wh = 10 then S 237 68 else if wh = 11 then S 237 69 else if wh = 12 then S 237 87 else if wh = 13 then S 237 114 else if wh = 14 then S 237 115 else if wh = 15 then S 237 104 else if wh = 16 then S 237 106 else if wh = 17 then S 237 108 else if wh = 18 then -1 else if wh = 19 then -1 else if wh = 20 then S 344 0 else if wh = 21 then S 344 1 else if wh = 22 then S 344 2 else if wh = 23 then S 344 3 else -1
theorem ctr_73 {wh : Int} (hC : w_CL S) (h72 : S 72 1 = 73) (h160 : S 160 (-1) = 4) (h10 : wh < 0 ∨ 10 ≤ wh) (hwh : -2147483648 ≤ wh ∧ wh ≤ 2147483647) : wJ (pe_GA xs) wY0 M d t_X_countOfRuns ((pe_at t_X_countOfRuns.bl 0).getD (0, [])).2 [(0, (2, 0)), (1, (0, wh))] [] S (fun o Z => S = Z ∧ o = .inl (some (0, cn_c 73 S wh))) := by
  refine wa_iload_n (n := 1) rfl ?_
  by_cases c1 : wh = 10
  · refine wb_sw (w_rg0 (by omega) (by omega)) (tb := 1) (by rw [c1]; rfl) ⟨_, rfl⟩ ?_
    refine wa_aload_n (n := 0) rfl ?_
    refine wb_gf4 0 rfl (wy_pr rfl) wt_0 wf_10_7 (v := 72) wl_0_7 ?_
    refine wb_gfi 72 rfl (wy_pr rfl) wt_72 wf_2_3 (v := (S 72 3)) rfl (fun r2 => ?_)
    refine wa_ireturn rfl ?_
    refine ⟨rfl, congrArg (fun z => Sum.inl (some (0, z))) ?_⟩
    first | rfl | skip
    all_goals unfold cn_c
    all_goals repeat (first | rw [if_pos (by omega)] | rw [if_neg (by omega)])
    all_goals first | rfl | omega
  by_cases c3 : wh = 11
  · refine wb_sw (w_rg0 (by omega) (by omega)) (tb := 2) (by rw [c3]; rfl) ⟨_, rfl⟩ ?_
    refine wa_aload_n (n := 0) rfl ?_
    refine wb_gf4 0 rfl (wy_pr rfl) wt_0 wf_10_7 (v := 72) wl_0_7 ?_
    refine wb_gfi 72 rfl (wy_pr rfl) wt_72 wf_2_5 (v := (S 72 5)) rfl (fun r4 => ?_)
    refine wa_ireturn rfl ?_
    refine ⟨rfl, congrArg (fun z => Sum.inl (some (0, z))) ?_⟩
    first | rfl | skip
    all_goals unfold cn_c
    all_goals repeat (first | rw [if_pos (by omega)] | rw [if_neg (by omega)])
    all_goals first | rfl | omega
  by_cases c5 : wh = 12
  · refine wb_sw (w_rg0 (by omega) (by omega)) (tb := 3) (by rw [c5]; rfl) ⟨_, rfl⟩ ?_
    refine wa_aload_n (n := 0) rfl ?_
    refine wb_gf4 0 rfl (wy_pr rfl) wt_0 wf_10_7 (v := 72) wl_0_7 ?_
    refine wb_gfi 72 rfl (wy_pr rfl) wt_72 wf_2_8 (v := (S 72 8)) rfl (fun r6 => ?_)
    refine wa_ireturn rfl ?_
    refine ⟨rfl, congrArg (fun z => Sum.inl (some (0, z))) ?_⟩
    first | rfl | skip
    all_goals unfold cn_c
    all_goals repeat (first | rw [if_pos (by omega)] | rw [if_neg (by omega)])
    all_goals first | rfl | omega
  by_cases c7 : wh = 13
  · refine wb_sw (w_rg0 (by omega) (by omega)) (tb := 4) (by rw [c7]; rfl) ⟨_, rfl⟩ ?_
    refine wa_aload_n (n := 0) rfl ?_
    refine wb_gf4 0 rfl (wy_pr rfl) wt_0 wf_10_7 (v := 72) wl_0_7 ?_
    refine wb_gf5 72 rfl (wy_pr rfl) wt_72 wf_2_1 (v := 73) (h72) (fun r8 => ?_)
    refine wb_gfi 73 rfl (wy_pr rfl) wt_73 wf_3_16 (v := (S 73 16)) rfl (fun r9 => ?_)
    refine wa_ireturn rfl ?_
    refine ⟨rfl, congrArg (fun z => Sum.inl (some (0, z))) ?_⟩
    first | rfl | skip
    all_goals unfold cn_c
    all_goals repeat (first | rw [if_pos (by omega)] | rw [if_neg (by omega)])
    all_goals first | rfl | omega
  by_cases c10 : wh = 14
  · refine wb_sw (w_rg0 (by omega) (by omega)) (tb := 5) (by rw [c10]; rfl) ⟨_, rfl⟩ ?_
    refine wa_aload_n (n := 0) rfl ?_
    refine wb_gf4 0 rfl (wy_pr rfl) wt_0 wf_10_7 (v := 72) wl_0_7 ?_
    refine wb_gf5 72 rfl (wy_pr rfl) wt_72 wf_2_1 (v := 73) (h72) (fun r11 => ?_)
    refine wb_gfi 73 rfl (wy_pr rfl) wt_73 wf_3_18 (v := (S 73 18)) rfl (fun r12 => ?_)
    refine wa_ireturn rfl ?_
    refine ⟨rfl, congrArg (fun z => Sum.inl (some (0, z))) ?_⟩
    first | rfl | skip
    all_goals unfold cn_c
    all_goals repeat (first | rw [if_pos (by omega)] | rw [if_neg (by omega)])
    all_goals first | rfl | omega
  by_cases c13 : wh = 15
  · refine wb_sw (w_rg0 (by omega) (by omega)) (tb := 6) (by rw [c13]; rfl) ⟨_, rfl⟩ ?_
    refine wa_aload_n (n := 0) rfl ?_
    refine wb_gf4 0 rfl (wy_pr rfl) wt_0 wf_10_7 (v := 72) wl_0_7 ?_
    refine wb_gfi 72 rfl (wy_pr rfl) wt_72 wf_2_13 (v := (S 72 13)) rfl (fun r14 => ?_)
    refine wa_ireturn rfl ?_
    refine ⟨rfl, congrArg (fun z => Sum.inl (some (0, z))) ?_⟩
    first | rfl | skip
    all_goals unfold cn_c
    all_goals repeat (first | rw [if_pos (by omega)] | rw [if_neg (by omega)])
    all_goals first | rfl | omega
  by_cases c15 : wh = 16
  · refine wb_sw (w_rg0 (by omega) (by omega)) (tb := 7) (by rw [c15]; rfl) ⟨_, rfl⟩ ?_
    refine wa_aload_n (n := 0) rfl ?_
    refine wb_gf4 0 rfl (wy_pr rfl) wt_0 wf_10_7 (v := 72) wl_0_7 ?_
    refine wb_gfi 72 rfl (wy_pr rfl) wt_72 wf_2_15 (v := (S 72 15)) rfl (fun r16 => ?_)
    refine wa_ireturn rfl ?_
    refine ⟨rfl, congrArg (fun z => Sum.inl (some (0, z))) ?_⟩
    first | rfl | skip
    all_goals unfold cn_c
    all_goals repeat (first | rw [if_pos (by omega)] | rw [if_neg (by omega)])
    all_goals first | rfl | omega
  by_cases c17 : wh = 17
  · refine wb_sw (w_rg0 (by omega) (by omega)) (tb := 8) (by rw [c17]; rfl) ⟨_, rfl⟩ ?_
    refine wa_aload_n (n := 0) rfl ?_
    refine wb_gf4 0 rfl (wy_pr rfl) wt_0 wf_10_8 (v := 158) wl_0_8 ?_
    refine wb_gfi 158 rfl (wy_pr rfl) wt_158 wf_5_19 (v := (S 158 19)) rfl (fun r18 => ?_)
    refine wa_ireturn rfl ?_
    refine ⟨rfl, congrArg (fun z => Sum.inl (some (0, z))) ?_⟩
    first | rfl | skip
    all_goals unfold cn_c
    all_goals repeat (first | rw [if_pos (by omega)] | rw [if_neg (by omega)])
    all_goals first | rfl | omega
  refine wb_sw (w_rg0 (by omega) (by omega)) (tb := 9) (w_tb_df (by simp only [List.length_cons, List.length_nil]; omega)) ⟨_, rfl⟩ ?_
  refine wa_iload_n (n := 1) rfl ?_
  refine wa_bipush (w_rg2 (by omega) (by omega)) ?_
  refine wa_icmplt (w_rg0 (by omega) (by omega)) (w_rg0 (by omega) (by omega)) ⟨_, rfl⟩ (fun c19 => ?_) (fun c19 => ?_)
  · skip
    refine wa_iconst ?_
    refine wa_fall ⟨_, rfl⟩ ?_
    refine wa_ireturn rfl ?_
    refine ⟨rfl, congrArg (fun z => Sum.inl (some (0, z))) ?_⟩
    first | rfl | skip
    all_goals unfold cn_c
    all_goals repeat (first | rw [if_pos (by omega)] | rw [if_neg (by omega)])
    all_goals first | rfl | omega
  · skip
    refine wa_iload_n (n := 1) rfl ?_
    refine wa_bipush (w_rg2 (by omega) (by omega)) ?_
    refine wa_icmpge (w_rg0 (by omega) (by omega)) (w_rg0 (by omega) (by omega)) ⟨_, rfl⟩ (fun c20 => ?_) (fun c20 => ?_)
    · skip
      refine wa_iconst ?_
      refine wa_fall ⟨_, rfl⟩ ?_
      refine wa_ireturn rfl ?_
      refine ⟨rfl, congrArg (fun z => Sum.inl (some (0, z))) ?_⟩
      first | rfl | skip
      all_goals unfold cn_c
      all_goals repeat (first | rw [if_pos (by omega)] | rw [if_neg (by omega)])
      all_goals first | rfl | omega
    · skip
      have hw4 : wh = 20 ∨ wh = 21 ∨ wh = 22 ∨ wh = 23 := by omega
      refine wa_aload_n (n := 0) rfl ?_
      refine wb_gf4 0 rfl (wy_pr rfl) wt_0 wf_10_8 (v := 158) wl_0_8 ?_
      refine wb_gf4 158 rfl (wy_pr rfl) wt_158 wf_5_18 (v := 160) wl_158_18 ?_
      refine wa_iload_n (n := 1) rfl ?_
      refine wa_bipush (w_rg2 (by omega) (by omega)) ?_
      refine wa_isub ?_
      refine wb_iald 160 rfl (wy_pr rfl) wt_160 (n := 4) (h160) (by omega) (by omega) (v := (S 160 (wh - 20))) rfl (fun r21 => ?_)
      refine wa_goto ⟨_, rfl⟩ ?_
      refine wa_ireturn rfl ?_
      refine ⟨rfl, congrArg (fun z => Sum.inl (some (0, z))) ?_⟩
      rcases hw4 with rfl | rfl | rfl | rfl <;> rfl
theorem cto_73 {wh : Int} (hC : w_CL S) (h72 : S 72 1 = 73) (h160 : S 160 (-1) = 4) (hwh : -2147483648 ≤ wh ∧ wh ≤ 2147483647) : wJ (pe_GA xs) wY0 M (d + 1) t_X_count ((pe_at t_X_count.bl 0).getD (0, [])).2 [(0, (2, 0)), (1, (0, wh))] [] S (fun o Z => S = Z ∧ o = .inl (some (0, cn_c 73 S wh))) := by
  refine wa_iload_n (n := 1) rfl ?_
  by_cases c1 : wh = 0
  · refine wb_sw (w_rg0 (by omega) (by omega)) (tb := 1) (by rw [c1]; rfl) ⟨_, rfl⟩ ?_
    refine wa_aload_n (n := 0) rfl ?_
    refine wb_gfi 0 rfl (wy_pr rfl) wt_0 wf_10_1 (v := (S 0 1)) rfl (fun r2 => ?_)
    refine wa_ireturn rfl ?_
    refine ⟨rfl, congrArg (fun z => Sum.inl (some (0, z))) ?_⟩
    first | rfl | skip
    all_goals unfold cn_c
    all_goals repeat (first | rw [if_pos (by omega)] | rw [if_neg (by omega)])
    all_goals first | rfl | omega
  by_cases c3 : wh = 1
  · refine wb_sw (w_rg0 (by omega) (by omega)) (tb := 2) (by rw [c3]; rfl) ⟨_, rfl⟩ ?_
    refine wa_aload_n (n := 0) rfl ?_
    refine wb_gf4 0 rfl (wy_pr rfl) wt_0 wf_10_7 (v := 72) wl_0_7 ?_
    refine wb_gf5 72 rfl (wy_pr rfl) wt_72 wf_2_1 (v := 73) (h72) (fun r4 => ?_)
    refine wb_gfi 73 rfl (wy_pr rfl) wt_73 wf_3_2 (v := (S 73 2)) rfl (fun r5 => ?_)
    refine wa_ireturn rfl ?_
    refine ⟨rfl, congrArg (fun z => Sum.inl (some (0, z))) ?_⟩
    first | rfl | skip
    all_goals unfold cn_c
    all_goals repeat (first | rw [if_pos (by omega)] | rw [if_neg (by omega)])
    all_goals first | rfl | omega
  by_cases c6 : wh = 2
  · refine wb_sw (w_rg0 (by omega) (by omega)) (tb := 3) (by rw [c6]; rfl) ⟨_, rfl⟩ ?_
    refine wa_aload_n (n := 0) rfl ?_
    refine wb_gf4 0 rfl (wy_pr rfl) wt_0 wf_10_7 (v := 72) wl_0_7 ?_
    refine wb_gf5 72 rfl (wy_pr rfl) wt_72 wf_2_1 (v := 73) (h72) (fun r7 => ?_)
    refine wb_gfi 73 rfl (wy_pr rfl) wt_73 wf_3_4 (v := (S 73 4)) rfl (fun r8 => ?_)
    refine wa_ireturn rfl ?_
    refine ⟨rfl, congrArg (fun z => Sum.inl (some (0, z))) ?_⟩
    first | rfl | skip
    all_goals unfold cn_c
    all_goals repeat (first | rw [if_pos (by omega)] | rw [if_neg (by omega)])
    all_goals first | rfl | omega
  by_cases c9 : wh = 3
  · refine wb_sw (w_rg0 (by omega) (by omega)) (tb := 4) (by rw [c9]; rfl) ⟨_, rfl⟩ ?_
    refine wa_aload_n (n := 0) rfl ?_
    refine wb_gf4 0 rfl (wy_pr rfl) wt_0 wf_10_4 (v := 19) wl_0_4 ?_
    refine wb_gfi 19 rfl (wy_pr rfl) wt_19 wf_0_3 (v := (S 19 3)) rfl (fun r10 => ?_)
    refine wa_ireturn rfl ?_
    refine ⟨rfl, congrArg (fun z => Sum.inl (some (0, z))) ?_⟩
    first | rfl | skip
    all_goals unfold cn_c
    all_goals repeat (first | rw [if_pos (by omega)] | rw [if_neg (by omega)])
    all_goals first | rfl | omega
  by_cases c11 : wh = 4
  · refine wb_sw (w_rg0 (by omega) (by omega)) (tb := 5) (by rw [c11]; rfl) ⟨_, rfl⟩ ?_
    refine wa_aload_n (n := 0) rfl ?_
    refine wb_gf4 0 rfl (wy_pr rfl) wt_0 wf_10_4 (v := 19) wl_0_4 ?_
    refine wb_gfi 19 rfl (wy_pr rfl) wt_19 wf_0_1 (v := (S 19 1)) rfl (fun r12 => ?_)
    refine wa_ireturn rfl ?_
    refine ⟨rfl, congrArg (fun z => Sum.inl (some (0, z))) ?_⟩
    first | rfl | skip
    all_goals unfold cn_c
    all_goals repeat (first | rw [if_pos (by omega)] | rw [if_neg (by omega)])
    all_goals first | rfl | omega
  by_cases c13 : wh = 5
  · refine wb_sw (w_rg0 (by omega) (by omega)) (tb := 6) (by rw [c13]; rfl) ⟨_, rfl⟩ ?_
    refine wa_aload_n (n := 0) rfl ?_
    refine wb_gf4 0 rfl (wy_pr rfl) wt_0 wf_10_4 (v := 19) wl_0_4 ?_
    refine wb_gfi 19 rfl (wy_pr rfl) wt_19 wf_0_7 (v := (S 19 7)) rfl (fun r14 => ?_)
    refine wa_ireturn rfl ?_
    refine ⟨rfl, congrArg (fun z => Sum.inl (some (0, z))) ?_⟩
    first | rfl | skip
    all_goals unfold cn_c
    all_goals repeat (first | rw [if_pos (by omega)] | rw [if_neg (by omega)])
    all_goals first | rfl | omega
  by_cases c15 : wh = 6
  · refine wb_sw (w_rg0 (by omega) (by omega)) (tb := 7) (by rw [c15]; rfl) ⟨_, rfl⟩ ?_
    refine wa_aload_n (n := 0) rfl ?_
    refine wb_gf4 0 rfl (wy_pr rfl) wt_0 wf_10_4 (v := 19) wl_0_4 ?_
    refine wb_gfi 19 rfl (wy_pr rfl) wt_19 wf_0_9 (v := (S 19 9)) rfl (fun r16 => ?_)
    refine wa_ireturn rfl ?_
    refine ⟨rfl, congrArg (fun z => Sum.inl (some (0, z))) ?_⟩
    first | rfl | skip
    all_goals unfold cn_c
    all_goals repeat (first | rw [if_pos (by omega)] | rw [if_neg (by omega)])
    all_goals first | rfl | omega
  by_cases c17 : wh = 7
  · refine wb_sw (w_rg0 (by omega) (by omega)) (tb := 8) (by rw [c17]; rfl) ⟨_, rfl⟩ ?_
    refine wa_aload_n (n := 0) rfl ?_
    refine wb_gf4 0 rfl (wy_pr rfl) wt_0 wf_10_4 (v := 19) wl_0_4 ?_
    refine wb_gfi 19 rfl (wy_pr rfl) wt_19 wf_0_16 (v := (S 19 16)) rfl (fun r18 => ?_)
    refine wa_ireturn rfl ?_
    refine ⟨rfl, congrArg (fun z => Sum.inl (some (0, z))) ?_⟩
    first | rfl | skip
    all_goals unfold cn_c
    all_goals repeat (first | rw [if_pos (by omega)] | rw [if_neg (by omega)])
    all_goals first | rfl | omega
  by_cases c19 : wh = 8
  · refine wb_sw (w_rg0 (by omega) (by omega)) (tb := 9) (by rw [c19]; rfl) ⟨_, rfl⟩ ?_
    refine wa_aload_n (n := 0) rfl ?_
    refine wb_gf4 0 rfl (wy_pr rfl) wt_0 wf_10_2 (v := 2) wl_0_2 ?_
    refine wb_gfi 2 rfl (wy_pr rfl) wt_2 wf_9_10 (v := (S 2 10)) rfl (fun r20 => ?_)
    refine wa_ireturn rfl ?_
    refine ⟨rfl, congrArg (fun z => Sum.inl (some (0, z))) ?_⟩
    first | rfl | skip
    all_goals unfold cn_c
    all_goals repeat (first | rw [if_pos (by omega)] | rw [if_neg (by omega)])
    all_goals first | rfl | omega
  by_cases c21 : wh = 9
  · refine wb_sw (w_rg0 (by omega) (by omega)) (tb := 10) (by rw [c21]; rfl) ⟨_, rfl⟩ ?_
    refine wa_aload_n (n := 0) rfl ?_
    refine wb_gf4 0 rfl (wy_pr rfl) wt_0 wf_10_2 (v := 2) wl_0_2 ?_
    refine wb_gfi 2 rfl (wy_pr rfl) wt_2 wf_9_12 (v := (S 2 12)) rfl (fun r22 => ?_)
    refine wa_ireturn rfl ?_
    refine ⟨rfl, congrArg (fun z => Sum.inl (some (0, z))) ?_⟩
    first | rfl | skip
    all_goals unfold cn_c
    all_goals repeat (first | rw [if_pos (by omega)] | rw [if_neg (by omega)])
    all_goals first | rfl | omega
  refine wb_sw (w_rg0 (by omega) (by omega)) (tb := 11) (w_tb_df (by simp only [List.length_cons, List.length_nil]; omega)) ⟨_, rfl⟩ ?_
  refine wa_aload_n (n := 0) rfl ?_
  refine wa_iload_n (n := 1) rfl ?_
  refine wa_cv 0 rfl (wy_pr rfl) wt_0 (M2 := fun _ => False) rfl at_X_countOfRuns ⟨_, rfl⟩ rfl rfl ⟨(Or.inr ⟨wy_pr rfl, fun q => q⟩), trivial, trivial⟩ trivial (fun _ _ q => False.elim q) (ctr_73 (S := S) (wh := wh) hC h72 h160 (by omega) (by omega)) (fun oq23 Sq23 hp24 q23 => ?_)
  rcases q23 with ⟨rfl, rfl⟩
  show wJ _ _ _ _ _ _ _ _ _ _
  refine wa_ireturn rfl ?_
  refine ⟨rfl, congrArg (fun z => Sum.inl (some (0, z))) ?_⟩
  first | rfl | skip
  all_goals unfold cn_c
  all_goals repeat (first | rw [if_pos (by omega)] | rw [if_neg (by omega)])
  all_goals first | rfl | omega
theorem ctr_162 {wh : Int} (hC : w_CL S) (h72 : S 72 1 = 162) (h160 : S 160 (-1) = 4) (h10 : wh < 0 ∨ 10 ≤ wh) (hwh : -2147483648 ≤ wh ∧ wh ≤ 2147483647) : wJ (pe_GA xs) wY0 M d t_X_countOfRuns ((pe_at t_X_countOfRuns.bl 0).getD (0, [])).2 [(0, (2, 0)), (1, (0, wh))] [] S (fun o Z => S = Z ∧ o = .inl (some (0, cn_c 162 S wh))) := by
  refine wa_iload_n (n := 1) rfl ?_
  by_cases c1 : wh = 10
  · refine wb_sw (w_rg0 (by omega) (by omega)) (tb := 1) (by rw [c1]; rfl) ⟨_, rfl⟩ ?_
    refine wa_aload_n (n := 0) rfl ?_
    refine wb_gf4 0 rfl (wy_pr rfl) wt_0 wf_10_7 (v := 72) wl_0_7 ?_
    refine wb_gfi 72 rfl (wy_pr rfl) wt_72 wf_2_3 (v := (S 72 3)) rfl (fun r2 => ?_)
    refine wa_ireturn rfl ?_
    refine ⟨rfl, congrArg (fun z => Sum.inl (some (0, z))) ?_⟩
    first | rfl | skip
    all_goals unfold cn_c
    all_goals repeat (first | rw [if_pos (by omega)] | rw [if_neg (by omega)])
    all_goals first | rfl | omega
  by_cases c3 : wh = 11
  · refine wb_sw (w_rg0 (by omega) (by omega)) (tb := 2) (by rw [c3]; rfl) ⟨_, rfl⟩ ?_
    refine wa_aload_n (n := 0) rfl ?_
    refine wb_gf4 0 rfl (wy_pr rfl) wt_0 wf_10_7 (v := 72) wl_0_7 ?_
    refine wb_gfi 72 rfl (wy_pr rfl) wt_72 wf_2_5 (v := (S 72 5)) rfl (fun r4 => ?_)
    refine wa_ireturn rfl ?_
    refine ⟨rfl, congrArg (fun z => Sum.inl (some (0, z))) ?_⟩
    first | rfl | skip
    all_goals unfold cn_c
    all_goals repeat (first | rw [if_pos (by omega)] | rw [if_neg (by omega)])
    all_goals first | rfl | omega
  by_cases c5 : wh = 12
  · refine wb_sw (w_rg0 (by omega) (by omega)) (tb := 3) (by rw [c5]; rfl) ⟨_, rfl⟩ ?_
    refine wa_aload_n (n := 0) rfl ?_
    refine wb_gf4 0 rfl (wy_pr rfl) wt_0 wf_10_7 (v := 72) wl_0_7 ?_
    refine wb_gfi 72 rfl (wy_pr rfl) wt_72 wf_2_8 (v := (S 72 8)) rfl (fun r6 => ?_)
    refine wa_ireturn rfl ?_
    refine ⟨rfl, congrArg (fun z => Sum.inl (some (0, z))) ?_⟩
    first | rfl | skip
    all_goals unfold cn_c
    all_goals repeat (first | rw [if_pos (by omega)] | rw [if_neg (by omega)])
    all_goals first | rfl | omega
  by_cases c7 : wh = 13
  · refine wb_sw (w_rg0 (by omega) (by omega)) (tb := 4) (by rw [c7]; rfl) ⟨_, rfl⟩ ?_
    refine wa_aload_n (n := 0) rfl ?_
    refine wb_gf4 0 rfl (wy_pr rfl) wt_0 wf_10_7 (v := 72) wl_0_7 ?_
    refine wb_gf5 72 rfl (wy_pr rfl) wt_72 wf_2_1 (v := 162) (h72) (fun r8 => ?_)
    refine wb_gfi 162 rfl (wy_pr rfl) wt_162 wf_3_16 (v := (S 162 16)) rfl (fun r9 => ?_)
    refine wa_ireturn rfl ?_
    refine ⟨rfl, congrArg (fun z => Sum.inl (some (0, z))) ?_⟩
    first | rfl | skip
    all_goals unfold cn_c
    all_goals repeat (first | rw [if_pos (by omega)] | rw [if_neg (by omega)])
    all_goals first | rfl | omega
  by_cases c10 : wh = 14
  · refine wb_sw (w_rg0 (by omega) (by omega)) (tb := 5) (by rw [c10]; rfl) ⟨_, rfl⟩ ?_
    refine wa_aload_n (n := 0) rfl ?_
    refine wb_gf4 0 rfl (wy_pr rfl) wt_0 wf_10_7 (v := 72) wl_0_7 ?_
    refine wb_gf5 72 rfl (wy_pr rfl) wt_72 wf_2_1 (v := 162) (h72) (fun r11 => ?_)
    refine wb_gfi 162 rfl (wy_pr rfl) wt_162 wf_3_18 (v := (S 162 18)) rfl (fun r12 => ?_)
    refine wa_ireturn rfl ?_
    refine ⟨rfl, congrArg (fun z => Sum.inl (some (0, z))) ?_⟩
    first | rfl | skip
    all_goals unfold cn_c
    all_goals repeat (first | rw [if_pos (by omega)] | rw [if_neg (by omega)])
    all_goals first | rfl | omega
  by_cases c13 : wh = 15
  · refine wb_sw (w_rg0 (by omega) (by omega)) (tb := 6) (by rw [c13]; rfl) ⟨_, rfl⟩ ?_
    refine wa_aload_n (n := 0) rfl ?_
    refine wb_gf4 0 rfl (wy_pr rfl) wt_0 wf_10_7 (v := 72) wl_0_7 ?_
    refine wb_gfi 72 rfl (wy_pr rfl) wt_72 wf_2_13 (v := (S 72 13)) rfl (fun r14 => ?_)
    refine wa_ireturn rfl ?_
    refine ⟨rfl, congrArg (fun z => Sum.inl (some (0, z))) ?_⟩
    first | rfl | skip
    all_goals unfold cn_c
    all_goals repeat (first | rw [if_pos (by omega)] | rw [if_neg (by omega)])
    all_goals first | rfl | omega
  by_cases c15 : wh = 16
  · refine wb_sw (w_rg0 (by omega) (by omega)) (tb := 7) (by rw [c15]; rfl) ⟨_, rfl⟩ ?_
    refine wa_aload_n (n := 0) rfl ?_
    refine wb_gf4 0 rfl (wy_pr rfl) wt_0 wf_10_7 (v := 72) wl_0_7 ?_
    refine wb_gfi 72 rfl (wy_pr rfl) wt_72 wf_2_15 (v := (S 72 15)) rfl (fun r16 => ?_)
    refine wa_ireturn rfl ?_
    refine ⟨rfl, congrArg (fun z => Sum.inl (some (0, z))) ?_⟩
    first | rfl | skip
    all_goals unfold cn_c
    all_goals repeat (first | rw [if_pos (by omega)] | rw [if_neg (by omega)])
    all_goals first | rfl | omega
  by_cases c17 : wh = 17
  · refine wb_sw (w_rg0 (by omega) (by omega)) (tb := 8) (by rw [c17]; rfl) ⟨_, rfl⟩ ?_
    refine wa_aload_n (n := 0) rfl ?_
    refine wb_gf4 0 rfl (wy_pr rfl) wt_0 wf_10_8 (v := 158) wl_0_8 ?_
    refine wb_gfi 158 rfl (wy_pr rfl) wt_158 wf_5_19 (v := (S 158 19)) rfl (fun r18 => ?_)
    refine wa_ireturn rfl ?_
    refine ⟨rfl, congrArg (fun z => Sum.inl (some (0, z))) ?_⟩
    first | rfl | skip
    all_goals unfold cn_c
    all_goals repeat (first | rw [if_pos (by omega)] | rw [if_neg (by omega)])
    all_goals first | rfl | omega
  refine wb_sw (w_rg0 (by omega) (by omega)) (tb := 9) (w_tb_df (by simp only [List.length_cons, List.length_nil]; omega)) ⟨_, rfl⟩ ?_
  refine wa_iload_n (n := 1) rfl ?_
  refine wa_bipush (w_rg2 (by omega) (by omega)) ?_
  refine wa_icmplt (w_rg0 (by omega) (by omega)) (w_rg0 (by omega) (by omega)) ⟨_, rfl⟩ (fun c19 => ?_) (fun c19 => ?_)
  · skip
    refine wa_iconst ?_
    refine wa_fall ⟨_, rfl⟩ ?_
    refine wa_ireturn rfl ?_
    refine ⟨rfl, congrArg (fun z => Sum.inl (some (0, z))) ?_⟩
    first | rfl | skip
    all_goals unfold cn_c
    all_goals repeat (first | rw [if_pos (by omega)] | rw [if_neg (by omega)])
    all_goals first | rfl | omega
  · skip
    refine wa_iload_n (n := 1) rfl ?_
    refine wa_bipush (w_rg2 (by omega) (by omega)) ?_
    refine wa_icmpge (w_rg0 (by omega) (by omega)) (w_rg0 (by omega) (by omega)) ⟨_, rfl⟩ (fun c20 => ?_) (fun c20 => ?_)
    · skip
      refine wa_iconst ?_
      refine wa_fall ⟨_, rfl⟩ ?_
      refine wa_ireturn rfl ?_
      refine ⟨rfl, congrArg (fun z => Sum.inl (some (0, z))) ?_⟩
      first | rfl | skip
      all_goals unfold cn_c
      all_goals repeat (first | rw [if_pos (by omega)] | rw [if_neg (by omega)])
      all_goals first | rfl | omega
    · skip
      have hw4 : wh = 20 ∨ wh = 21 ∨ wh = 22 ∨ wh = 23 := by omega
      refine wa_aload_n (n := 0) rfl ?_
      refine wb_gf4 0 rfl (wy_pr rfl) wt_0 wf_10_8 (v := 158) wl_0_8 ?_
      refine wb_gf4 158 rfl (wy_pr rfl) wt_158 wf_5_18 (v := 160) wl_158_18 ?_
      refine wa_iload_n (n := 1) rfl ?_
      refine wa_bipush (w_rg2 (by omega) (by omega)) ?_
      refine wa_isub ?_
      refine wb_iald 160 rfl (wy_pr rfl) wt_160 (n := 4) (h160) (by omega) (by omega) (v := (S 160 (wh - 20))) rfl (fun r21 => ?_)
      refine wa_goto ⟨_, rfl⟩ ?_
      refine wa_ireturn rfl ?_
      refine ⟨rfl, congrArg (fun z => Sum.inl (some (0, z))) ?_⟩
      rcases hw4 with rfl | rfl | rfl | rfl <;> rfl
theorem cto_162 {wh : Int} (hC : w_CL S) (h72 : S 72 1 = 162) (h160 : S 160 (-1) = 4) (hwh : -2147483648 ≤ wh ∧ wh ≤ 2147483647) : wJ (pe_GA xs) wY0 M (d + 1) t_X_count ((pe_at t_X_count.bl 0).getD (0, [])).2 [(0, (2, 0)), (1, (0, wh))] [] S (fun o Z => S = Z ∧ o = .inl (some (0, cn_c 162 S wh))) := by
  refine wa_iload_n (n := 1) rfl ?_
  by_cases c1 : wh = 0
  · refine wb_sw (w_rg0 (by omega) (by omega)) (tb := 1) (by rw [c1]; rfl) ⟨_, rfl⟩ ?_
    refine wa_aload_n (n := 0) rfl ?_
    refine wb_gfi 0 rfl (wy_pr rfl) wt_0 wf_10_1 (v := (S 0 1)) rfl (fun r2 => ?_)
    refine wa_ireturn rfl ?_
    refine ⟨rfl, congrArg (fun z => Sum.inl (some (0, z))) ?_⟩
    first | rfl | skip
    all_goals unfold cn_c
    all_goals repeat (first | rw [if_pos (by omega)] | rw [if_neg (by omega)])
    all_goals first | rfl | omega
  by_cases c3 : wh = 1
  · refine wb_sw (w_rg0 (by omega) (by omega)) (tb := 2) (by rw [c3]; rfl) ⟨_, rfl⟩ ?_
    refine wa_aload_n (n := 0) rfl ?_
    refine wb_gf4 0 rfl (wy_pr rfl) wt_0 wf_10_7 (v := 72) wl_0_7 ?_
    refine wb_gf5 72 rfl (wy_pr rfl) wt_72 wf_2_1 (v := 162) (h72) (fun r4 => ?_)
    refine wb_gfi 162 rfl (wy_pr rfl) wt_162 wf_3_2 (v := (S 162 2)) rfl (fun r5 => ?_)
    refine wa_ireturn rfl ?_
    refine ⟨rfl, congrArg (fun z => Sum.inl (some (0, z))) ?_⟩
    first | rfl | skip
    all_goals unfold cn_c
    all_goals repeat (first | rw [if_pos (by omega)] | rw [if_neg (by omega)])
    all_goals first | rfl | omega
  by_cases c6 : wh = 2
  · refine wb_sw (w_rg0 (by omega) (by omega)) (tb := 3) (by rw [c6]; rfl) ⟨_, rfl⟩ ?_
    refine wa_aload_n (n := 0) rfl ?_
    refine wb_gf4 0 rfl (wy_pr rfl) wt_0 wf_10_7 (v := 72) wl_0_7 ?_
    refine wb_gf5 72 rfl (wy_pr rfl) wt_72 wf_2_1 (v := 162) (h72) (fun r7 => ?_)
    refine wb_gfi 162 rfl (wy_pr rfl) wt_162 wf_3_4 (v := (S 162 4)) rfl (fun r8 => ?_)
    refine wa_ireturn rfl ?_
    refine ⟨rfl, congrArg (fun z => Sum.inl (some (0, z))) ?_⟩
    first | rfl | skip
    all_goals unfold cn_c
    all_goals repeat (first | rw [if_pos (by omega)] | rw [if_neg (by omega)])
    all_goals first | rfl | omega
  by_cases c9 : wh = 3
  · refine wb_sw (w_rg0 (by omega) (by omega)) (tb := 4) (by rw [c9]; rfl) ⟨_, rfl⟩ ?_
    refine wa_aload_n (n := 0) rfl ?_
    refine wb_gf4 0 rfl (wy_pr rfl) wt_0 wf_10_4 (v := 19) wl_0_4 ?_
    refine wb_gfi 19 rfl (wy_pr rfl) wt_19 wf_0_3 (v := (S 19 3)) rfl (fun r10 => ?_)
    refine wa_ireturn rfl ?_
    refine ⟨rfl, congrArg (fun z => Sum.inl (some (0, z))) ?_⟩
    first | rfl | skip
    all_goals unfold cn_c
    all_goals repeat (first | rw [if_pos (by omega)] | rw [if_neg (by omega)])
    all_goals first | rfl | omega
  by_cases c11 : wh = 4
  · refine wb_sw (w_rg0 (by omega) (by omega)) (tb := 5) (by rw [c11]; rfl) ⟨_, rfl⟩ ?_
    refine wa_aload_n (n := 0) rfl ?_
    refine wb_gf4 0 rfl (wy_pr rfl) wt_0 wf_10_4 (v := 19) wl_0_4 ?_
    refine wb_gfi 19 rfl (wy_pr rfl) wt_19 wf_0_1 (v := (S 19 1)) rfl (fun r12 => ?_)
    refine wa_ireturn rfl ?_
    refine ⟨rfl, congrArg (fun z => Sum.inl (some (0, z))) ?_⟩
    first | rfl | skip
    all_goals unfold cn_c
    all_goals repeat (first | rw [if_pos (by omega)] | rw [if_neg (by omega)])
    all_goals first | rfl | omega
  by_cases c13 : wh = 5
  · refine wb_sw (w_rg0 (by omega) (by omega)) (tb := 6) (by rw [c13]; rfl) ⟨_, rfl⟩ ?_
    refine wa_aload_n (n := 0) rfl ?_
    refine wb_gf4 0 rfl (wy_pr rfl) wt_0 wf_10_4 (v := 19) wl_0_4 ?_
    refine wb_gfi 19 rfl (wy_pr rfl) wt_19 wf_0_7 (v := (S 19 7)) rfl (fun r14 => ?_)
    refine wa_ireturn rfl ?_
    refine ⟨rfl, congrArg (fun z => Sum.inl (some (0, z))) ?_⟩
    first | rfl | skip
    all_goals unfold cn_c
    all_goals repeat (first | rw [if_pos (by omega)] | rw [if_neg (by omega)])
    all_goals first | rfl | omega
  by_cases c15 : wh = 6
  · refine wb_sw (w_rg0 (by omega) (by omega)) (tb := 7) (by rw [c15]; rfl) ⟨_, rfl⟩ ?_
    refine wa_aload_n (n := 0) rfl ?_
    refine wb_gf4 0 rfl (wy_pr rfl) wt_0 wf_10_4 (v := 19) wl_0_4 ?_
    refine wb_gfi 19 rfl (wy_pr rfl) wt_19 wf_0_9 (v := (S 19 9)) rfl (fun r16 => ?_)
    refine wa_ireturn rfl ?_
    refine ⟨rfl, congrArg (fun z => Sum.inl (some (0, z))) ?_⟩
    first | rfl | skip
    all_goals unfold cn_c
    all_goals repeat (first | rw [if_pos (by omega)] | rw [if_neg (by omega)])
    all_goals first | rfl | omega
  by_cases c17 : wh = 7
  · refine wb_sw (w_rg0 (by omega) (by omega)) (tb := 8) (by rw [c17]; rfl) ⟨_, rfl⟩ ?_
    refine wa_aload_n (n := 0) rfl ?_
    refine wb_gf4 0 rfl (wy_pr rfl) wt_0 wf_10_4 (v := 19) wl_0_4 ?_
    refine wb_gfi 19 rfl (wy_pr rfl) wt_19 wf_0_16 (v := (S 19 16)) rfl (fun r18 => ?_)
    refine wa_ireturn rfl ?_
    refine ⟨rfl, congrArg (fun z => Sum.inl (some (0, z))) ?_⟩
    first | rfl | skip
    all_goals unfold cn_c
    all_goals repeat (first | rw [if_pos (by omega)] | rw [if_neg (by omega)])
    all_goals first | rfl | omega
  by_cases c19 : wh = 8
  · refine wb_sw (w_rg0 (by omega) (by omega)) (tb := 9) (by rw [c19]; rfl) ⟨_, rfl⟩ ?_
    refine wa_aload_n (n := 0) rfl ?_
    refine wb_gf4 0 rfl (wy_pr rfl) wt_0 wf_10_2 (v := 2) wl_0_2 ?_
    refine wb_gfi 2 rfl (wy_pr rfl) wt_2 wf_9_10 (v := (S 2 10)) rfl (fun r20 => ?_)
    refine wa_ireturn rfl ?_
    refine ⟨rfl, congrArg (fun z => Sum.inl (some (0, z))) ?_⟩
    first | rfl | skip
    all_goals unfold cn_c
    all_goals repeat (first | rw [if_pos (by omega)] | rw [if_neg (by omega)])
    all_goals first | rfl | omega
  by_cases c21 : wh = 9
  · refine wb_sw (w_rg0 (by omega) (by omega)) (tb := 10) (by rw [c21]; rfl) ⟨_, rfl⟩ ?_
    refine wa_aload_n (n := 0) rfl ?_
    refine wb_gf4 0 rfl (wy_pr rfl) wt_0 wf_10_2 (v := 2) wl_0_2 ?_
    refine wb_gfi 2 rfl (wy_pr rfl) wt_2 wf_9_12 (v := (S 2 12)) rfl (fun r22 => ?_)
    refine wa_ireturn rfl ?_
    refine ⟨rfl, congrArg (fun z => Sum.inl (some (0, z))) ?_⟩
    first | rfl | skip
    all_goals unfold cn_c
    all_goals repeat (first | rw [if_pos (by omega)] | rw [if_neg (by omega)])
    all_goals first | rfl | omega
  refine wb_sw (w_rg0 (by omega) (by omega)) (tb := 11) (w_tb_df (by simp only [List.length_cons, List.length_nil]; omega)) ⟨_, rfl⟩ ?_
  refine wa_aload_n (n := 0) rfl ?_
  refine wa_iload_n (n := 1) rfl ?_
  refine wa_cv 0 rfl (wy_pr rfl) wt_0 (M2 := fun _ => False) rfl at_X_countOfRuns ⟨_, rfl⟩ rfl rfl ⟨(Or.inr ⟨wy_pr rfl, fun q => q⟩), trivial, trivial⟩ trivial (fun _ _ q => False.elim q) (ctr_162 (S := S) (wh := wh) hC h72 h160 (by omega) (by omega)) (fun oq23 Sq23 hp24 q23 => ?_)
  rcases q23 with ⟨rfl, rfl⟩
  show wJ _ _ _ _ _ _ _ _ _ _
  refine wa_ireturn rfl ?_
  refine ⟨rfl, congrArg (fun z => Sum.inl (some (0, z))) ?_⟩
  first | rfl | skip
  all_goals unfold cn_c
  all_goals repeat (first | rw [if_pos (by omega)] | rw [if_neg (by omega)])
  all_goals first | rfl | omega
set_option maxHeartbeats 4000000 in
theorem mcn_241 {wh : Int} (hM : w_ML S) (h13 : S 237 13 = 241) (h387 : S 387 (-1) = 18) (hwh : -2147483648 ≤ wh ∧ wh ≤ 2147483647) : wJ (pe_GA xs) wY0 M (d + 1) t_M_count ((pe_at t_M_count.bl 0).getD (0, [])).2 [(0, (2, 237)), (1, (0, wh))] [] S (fun o Z => (∀ (j : Nat) (x : Int), (j ≠ 387 ∨ x = -1) → (j ≠ 237 ∨ x ≠ 0) → Z j x = S j x) ∧ Z 237 0 = 0 ∧ o = .inl (some (0, cn_r 241 S wh))) := by
  refine wa_aload_n (n := 0) rfl ?_
  refine wa_iconst ?_
  refine wb_pfi 237 rfl (wy_pr rfl) wt_237 wf_15_0 (n := 0) rfl ⟨(by omega), (by omega)⟩ ?_
  refine wa_aload_n (n := 0) rfl ?_
  refine wb_gf4 237 rfl (wy_pr rfl) wt_237 wf_15_179 (v := 387) wl_237_179 ?_
  refine wa_astore_n (n := 2) rfl ?_
  refine wa_aload_n (n := 2) rfl ?_
  refine wa_iconst ?_
  refine wa_aload_n (n := 0) rfl ?_
  refine wb_gfi 237 rfl (wy_pr rfl) wt_237 wf_15_3 (v := (S 237 3)) (w_up_at (by decide)) (fun r1 => ?_)
  refine wb_iast 387 rfl (wy_pr rfl) wt_387 (n := 18) ((w_up_slot (by decide)).trans (h387)) (by omega) (by omega) ⟨(by omega), (by omega)⟩ ?_
  refine wa_aload_n (n := 2) rfl ?_
  refine wa_iconst ?_
  refine wa_aload_n (n := 0) rfl ?_
  refine wb_gf5 237 rfl (wy_pr rfl) wt_237 wf_15_13 (v := 241) ((w_up_slot (by decide)).trans ((w_up_at (by decide)).trans (h13))) (fun r2 => ?_)
  refine wb_gfi 241 rfl (wy_pr rfl) wt_241 wf_12_1 (v := (S 241 1)) ((w_up_slot (by decide)).trans (w_up_slot (by decide))) (fun r3 => ?_)
  refine wb_iast 387 rfl (wy_pr rfl) wt_387 (n := 18) ((w_up_at (by decide)).trans ((w_up_slot (by decide)).trans (h387))) (by omega) (by omega) ⟨(by omega), (by omega)⟩ ?_
  refine wa_aload_n (n := 2) rfl ?_
  refine wa_iconst ?_
  refine wa_aload_n (n := 0) rfl ?_
  refine wb_gf5 237 rfl (wy_pr rfl) wt_237 wf_15_13 (v := 241) ((w_up_slot (by decide)).trans ((w_up_slot (by decide)).trans ((w_up_at (by decide)).trans (h13)))) (fun r4 => ?_)
  refine wb_gfi 241 rfl (wy_pr rfl) wt_241 wf_12_11 (v := (S 241 11)) ((w_up_slot (by decide)).trans ((w_up_slot (by decide)).trans (w_up_slot (by decide)))) (fun r5 => ?_)
  refine wb_iast 387 rfl (wy_pr rfl) wt_387 (n := 18) ((w_up_at (by decide)).trans ((w_up_at (by decide)).trans ((w_up_slot (by decide)).trans (h387)))) (by omega) (by omega) ⟨(by omega), (by omega)⟩ ?_
  refine wa_aload_n (n := 2) rfl ?_
  refine wa_iconst ?_
  refine wa_aload_n (n := 0) rfl ?_
  refine wb_gfi 237 rfl (wy_pr rfl) wt_237 wf_15_33 (v := (S 237 33)) ((w_up_slot (by decide)).trans ((w_up_slot (by decide)).trans ((w_up_slot (by decide)).trans (w_up_at (by decide))))) (fun r6 => ?_)
  refine wb_iast 387 rfl (wy_pr rfl) wt_387 (n := 18) ((w_up_at (by decide)).trans ((w_up_at (by decide)).trans ((w_up_at (by decide)).trans ((w_up_slot (by decide)).trans (h387))))) (by omega) (by omega) ⟨(by omega), (by omega)⟩ ?_
  refine wa_aload_n (n := 2) rfl ?_
  refine wa_iconst ?_
  refine wa_aload_n (n := 0) rfl ?_
  refine wb_gfi 237 rfl (wy_pr rfl) wt_237 wf_15_34 (v := (S 237 34)) ((w_up_slot (by decide)).trans ((w_up_slot (by decide)).trans ((w_up_slot (by decide)).trans ((w_up_slot (by decide)).trans (w_up_at (by decide)))))) (fun r7 => ?_)
  refine wb_iast 387 rfl (wy_pr rfl) wt_387 (n := 18) ((w_up_at (by decide)).trans ((w_up_at (by decide)).trans ((w_up_at (by decide)).trans ((w_up_at (by decide)).trans ((w_up_slot (by decide)).trans (h387)))))) (by omega) (by omega) ⟨(by omega), (by omega)⟩ ?_
  refine wa_aload_n (n := 2) rfl ?_
  refine wa_iconst ?_
  refine wa_aload_n (n := 0) rfl ?_
  refine wb_gfi 237 rfl (wy_pr rfl) wt_237 wf_15_43 (v := (S 237 43)) ((w_up_slot (by decide)).trans ((w_up_slot (by decide)).trans ((w_up_slot (by decide)).trans ((w_up_slot (by decide)).trans ((w_up_slot (by decide)).trans (w_up_at (by decide))))))) (fun r8 => ?_)
  refine wb_iast 387 rfl (wy_pr rfl) wt_387 (n := 18) ((w_up_at (by decide)).trans ((w_up_at (by decide)).trans ((w_up_at (by decide)).trans ((w_up_at (by decide)).trans ((w_up_at (by decide)).trans ((w_up_slot (by decide)).trans (h387))))))) (by omega) (by omega) ⟨(by omega), (by omega)⟩ ?_
  refine wa_aload_n (n := 2) rfl ?_
  refine wa_bipush (w_rg2 (by omega) (by omega)) ?_
  refine wa_fall ⟨_, rfl⟩ ?_
  refine wa_aload_n (n := 0) rfl ?_
  refine wb_gfi 237 rfl (wy_pr rfl) wt_237 wf_15_47 (v := (S 237 47)) ((w_up_slot (by decide)).trans ((w_up_slot (by decide)).trans ((w_up_slot (by decide)).trans ((w_up_slot (by decide)).trans ((w_up_slot (by decide)).trans ((w_up_slot (by decide)).trans (w_up_at (by decide)))))))) (fun r9 => ?_)
  refine wb_iast 387 rfl (wy_pr rfl) wt_387 (n := 18) ((w_up_at (by decide)).trans ((w_up_at (by decide)).trans ((w_up_at (by decide)).trans ((w_up_at (by decide)).trans ((w_up_at (by decide)).trans ((w_up_at (by decide)).trans ((w_up_slot (by decide)).trans (h387)))))))) (by omega) (by omega) ⟨(by omega), (by omega)⟩ ?_
  refine wa_aload_n (n := 2) rfl ?_
  refine wa_bipush (w_rg2 (by omega) (by omega)) ?_
  refine wa_aload_n (n := 0) rfl ?_
  refine wb_gfi 237 rfl (wy_pr rfl) wt_237 wf_15_48 (v := (S 237 48)) ((w_up_slot (by decide)).trans ((w_up_slot (by decide)).trans ((w_up_slot (by decide)).trans ((w_up_slot (by decide)).trans ((w_up_slot (by decide)).trans ((w_up_slot (by decide)).trans ((w_up_slot (by decide)).trans (w_up_at (by decide))))))))) (fun r10 => ?_)
  refine wb_iast 387 rfl (wy_pr rfl) wt_387 (n := 18) ((w_up_at (by decide)).trans ((w_up_at (by decide)).trans ((w_up_at (by decide)).trans ((w_up_at (by decide)).trans ((w_up_at (by decide)).trans ((w_up_at (by decide)).trans ((w_up_at (by decide)).trans ((w_up_slot (by decide)).trans (h387))))))))) (by omega) (by omega) ⟨(by omega), (by omega)⟩ ?_
  refine wa_aload_n (n := 2) rfl ?_
  refine wa_bipush (w_rg2 (by omega) (by omega)) ?_
  refine wa_aload_n (n := 0) rfl ?_
  refine wb_gfi 237 rfl (wy_pr rfl) wt_237 wf_15_16 (v := (S 237 16)) ((w_up_slot (by decide)).trans ((w_up_slot (by decide)).trans ((w_up_slot (by decide)).trans ((w_up_slot (by decide)).trans ((w_up_slot (by decide)).trans ((w_up_slot (by decide)).trans ((w_up_slot (by decide)).trans ((w_up_slot (by decide)).trans (w_up_at (by decide)))))))))) (fun r11 => ?_)
  refine wb_iast 387 rfl (wy_pr rfl) wt_387 (n := 18) ((w_up_at (by decide)).trans ((w_up_at (by decide)).trans ((w_up_at (by decide)).trans ((w_up_at (by decide)).trans ((w_up_at (by decide)).trans ((w_up_at (by decide)).trans ((w_up_at (by decide)).trans ((w_up_at (by decide)).trans ((w_up_slot (by decide)).trans (h387)))))))))) (by omega) (by omega) ⟨(by omega), (by omega)⟩ ?_
  refine wa_aload_n (n := 2) rfl ?_
  refine wa_bipush (w_rg2 (by omega) (by omega)) ?_
  refine wa_aload_n (n := 0) rfl ?_
  refine wb_gfi 237 rfl (wy_pr rfl) wt_237 wf_15_19 (v := (S 237 19)) ((w_up_slot (by decide)).trans ((w_up_slot (by decide)).trans ((w_up_slot (by decide)).trans ((w_up_slot (by decide)).trans ((w_up_slot (by decide)).trans ((w_up_slot (by decide)).trans ((w_up_slot (by decide)).trans ((w_up_slot (by decide)).trans ((w_up_slot (by decide)).trans (w_up_at (by decide))))))))))) (fun r12 => ?_)
  refine wb_iast 387 rfl (wy_pr rfl) wt_387 (n := 18) ((w_up_at (by decide)).trans ((w_up_at (by decide)).trans ((w_up_at (by decide)).trans ((w_up_at (by decide)).trans ((w_up_at (by decide)).trans ((w_up_at (by decide)).trans ((w_up_at (by decide)).trans ((w_up_at (by decide)).trans ((w_up_at (by decide)).trans ((w_up_slot (by decide)).trans (h387))))))))))) (by omega) (by omega) ⟨(by omega), (by omega)⟩ ?_
  refine wa_aload_n (n := 2) rfl ?_
  refine wa_bipush (w_rg2 (by omega) (by omega)) ?_
  refine wa_aload_n (n := 0) rfl ?_
  refine wb_gfi 237 rfl (wy_pr rfl) wt_237 wf_15_68 (v := (S 237 68)) ((w_up_slot (by decide)).trans ((w_up_slot (by decide)).trans ((w_up_slot (by decide)).trans ((w_up_slot (by decide)).trans ((w_up_slot (by decide)).trans ((w_up_slot (by decide)).trans ((w_up_slot (by decide)).trans ((w_up_slot (by decide)).trans ((w_up_slot (by decide)).trans ((w_up_slot (by decide)).trans (w_up_at (by decide)))))))))))) (fun r13 => ?_)
  refine wb_iast 387 rfl (wy_pr rfl) wt_387 (n := 18) ((w_up_at (by decide)).trans ((w_up_at (by decide)).trans ((w_up_at (by decide)).trans ((w_up_at (by decide)).trans ((w_up_at (by decide)).trans ((w_up_at (by decide)).trans ((w_up_at (by decide)).trans ((w_up_at (by decide)).trans ((w_up_at (by decide)).trans ((w_up_at (by decide)).trans ((w_up_slot (by decide)).trans (h387)))))))))))) (by omega) (by omega) ⟨(by omega), (by omega)⟩ ?_
  refine wa_aload_n (n := 2) rfl ?_
  refine wa_bipush (w_rg2 (by omega) (by omega)) ?_
  refine wa_aload_n (n := 0) rfl ?_
  refine wb_gfi 237 rfl (wy_pr rfl) wt_237 wf_15_69 (v := (S 237 69)) ((w_up_slot (by decide)).trans ((w_up_slot (by decide)).trans ((w_up_slot (by decide)).trans ((w_up_slot (by decide)).trans ((w_up_slot (by decide)).trans ((w_up_slot (by decide)).trans ((w_up_slot (by decide)).trans ((w_up_slot (by decide)).trans ((w_up_slot (by decide)).trans ((w_up_slot (by decide)).trans ((w_up_slot (by decide)).trans (w_up_at (by decide))))))))))))) (fun r14 => ?_)
  refine wb_iast 387 rfl (wy_pr rfl) wt_387 (n := 18) ((w_up_at (by decide)).trans ((w_up_at (by decide)).trans ((w_up_at (by decide)).trans ((w_up_at (by decide)).trans ((w_up_at (by decide)).trans ((w_up_at (by decide)).trans ((w_up_at (by decide)).trans ((w_up_at (by decide)).trans ((w_up_at (by decide)).trans ((w_up_at (by decide)).trans ((w_up_at (by decide)).trans ((w_up_slot (by decide)).trans (h387))))))))))))) (by omega) (by omega) ⟨(by omega), (by omega)⟩ ?_
  refine wa_aload_n (n := 2) rfl ?_
  refine wa_bipush (w_rg2 (by omega) (by omega)) ?_
  refine wa_aload_n (n := 0) rfl ?_
  refine wb_gfi 237 rfl (wy_pr rfl) wt_237 wf_15_87 (v := (S 237 87)) ((w_up_slot (by decide)).trans ((w_up_slot (by decide)).trans ((w_up_slot (by decide)).trans ((w_up_slot (by decide)).trans ((w_up_slot (by decide)).trans ((w_up_slot (by decide)).trans ((w_up_slot (by decide)).trans ((w_up_slot (by decide)).trans ((w_up_slot (by decide)).trans ((w_up_slot (by decide)).trans ((w_up_slot (by decide)).trans ((w_up_slot (by decide)).trans (w_up_at (by decide)))))))))))))) (fun r15 => ?_)
  refine wb_iast 387 rfl (wy_pr rfl) wt_387 (n := 18) ((w_up_at (by decide)).trans ((w_up_at (by decide)).trans ((w_up_at (by decide)).trans ((w_up_at (by decide)).trans ((w_up_at (by decide)).trans ((w_up_at (by decide)).trans ((w_up_at (by decide)).trans ((w_up_at (by decide)).trans ((w_up_at (by decide)).trans ((w_up_at (by decide)).trans ((w_up_at (by decide)).trans ((w_up_at (by decide)).trans ((w_up_slot (by decide)).trans (h387)))))))))))))) (by omega) (by omega) ⟨(by omega), (by omega)⟩ ?_
  refine wa_aload_n (n := 2) rfl ?_
  refine wa_bipush (w_rg2 (by omega) (by omega)) ?_
  refine wa_aload_n (n := 0) rfl ?_
  refine wb_gfi 237 rfl (wy_pr rfl) wt_237 wf_15_114 (v := (S 237 114)) ((w_up_slot (by decide)).trans ((w_up_slot (by decide)).trans ((w_up_slot (by decide)).trans ((w_up_slot (by decide)).trans ((w_up_slot (by decide)).trans ((w_up_slot (by decide)).trans ((w_up_slot (by decide)).trans ((w_up_slot (by decide)).trans ((w_up_slot (by decide)).trans ((w_up_slot (by decide)).trans ((w_up_slot (by decide)).trans ((w_up_slot (by decide)).trans ((w_up_slot (by decide)).trans (w_up_at (by decide))))))))))))))) (fun r16 => ?_)
  refine wb_iast 387 rfl (wy_pr rfl) wt_387 (n := 18) ((w_up_at (by decide)).trans ((w_up_at (by decide)).trans ((w_up_at (by decide)).trans ((w_up_at (by decide)).trans ((w_up_at (by decide)).trans ((w_up_at (by decide)).trans ((w_up_at (by decide)).trans ((w_up_at (by decide)).trans ((w_up_at (by decide)).trans ((w_up_at (by decide)).trans ((w_up_at (by decide)).trans ((w_up_at (by decide)).trans ((w_up_at (by decide)).trans ((w_up_slot (by decide)).trans (h387))))))))))))))) (by omega) (by omega) ⟨(by omega), (by omega)⟩ ?_
  refine wa_aload_n (n := 2) rfl ?_
  refine wa_bipush (w_rg2 (by omega) (by omega)) ?_
  refine wa_fall ⟨_, rfl⟩ ?_
  refine wa_aload_n (n := 0) rfl ?_
  refine wb_gfi 237 rfl (wy_pr rfl) wt_237 wf_15_115 (v := (S 237 115)) ((w_up_slot (by decide)).trans ((w_up_slot (by decide)).trans ((w_up_slot (by decide)).trans ((w_up_slot (by decide)).trans ((w_up_slot (by decide)).trans ((w_up_slot (by decide)).trans ((w_up_slot (by decide)).trans ((w_up_slot (by decide)).trans ((w_up_slot (by decide)).trans ((w_up_slot (by decide)).trans ((w_up_slot (by decide)).trans ((w_up_slot (by decide)).trans ((w_up_slot (by decide)).trans ((w_up_slot (by decide)).trans (w_up_at (by decide)))))))))))))))) (fun r17 => ?_)
  refine wb_iast 387 rfl (wy_pr rfl) wt_387 (n := 18) ((w_up_at (by decide)).trans ((w_up_at (by decide)).trans ((w_up_at (by decide)).trans ((w_up_at (by decide)).trans ((w_up_at (by decide)).trans ((w_up_at (by decide)).trans ((w_up_at (by decide)).trans ((w_up_at (by decide)).trans ((w_up_at (by decide)).trans ((w_up_at (by decide)).trans ((w_up_at (by decide)).trans ((w_up_at (by decide)).trans ((w_up_at (by decide)).trans ((w_up_at (by decide)).trans ((w_up_slot (by decide)).trans (h387)))))))))))))))) (by omega) (by omega) ⟨(by omega), (by omega)⟩ ?_
  refine wa_aload_n (n := 2) rfl ?_
  refine wa_bipush (w_rg2 (by omega) (by omega)) ?_
  refine wa_aload_n (n := 0) rfl ?_
  refine wb_gfi 237 rfl (wy_pr rfl) wt_237 wf_15_104 (v := (S 237 104)) ((w_up_slot (by decide)).trans ((w_up_slot (by decide)).trans ((w_up_slot (by decide)).trans ((w_up_slot (by decide)).trans ((w_up_slot (by decide)).trans ((w_up_slot (by decide)).trans ((w_up_slot (by decide)).trans ((w_up_slot (by decide)).trans ((w_up_slot (by decide)).trans ((w_up_slot (by decide)).trans ((w_up_slot (by decide)).trans ((w_up_slot (by decide)).trans ((w_up_slot (by decide)).trans ((w_up_slot (by decide)).trans ((w_up_slot (by decide)).trans (w_up_at (by decide))))))))))))))))) (fun r18 => ?_)
  refine wb_iast 387 rfl (wy_pr rfl) wt_387 (n := 18) ((w_up_at (by decide)).trans ((w_up_at (by decide)).trans ((w_up_at (by decide)).trans ((w_up_at (by decide)).trans ((w_up_at (by decide)).trans ((w_up_at (by decide)).trans ((w_up_at (by decide)).trans ((w_up_at (by decide)).trans ((w_up_at (by decide)).trans ((w_up_at (by decide)).trans ((w_up_at (by decide)).trans ((w_up_at (by decide)).trans ((w_up_at (by decide)).trans ((w_up_at (by decide)).trans ((w_up_at (by decide)).trans ((w_up_slot (by decide)).trans (h387))))))))))))))))) (by omega) (by omega) ⟨(by omega), (by omega)⟩ ?_
  refine wa_aload_n (n := 2) rfl ?_
  refine wa_bipush (w_rg2 (by omega) (by omega)) ?_
  refine wa_aload_n (n := 0) rfl ?_
  refine wb_gfi 237 rfl (wy_pr rfl) wt_237 wf_15_106 (v := (S 237 106)) ((w_up_slot (by decide)).trans ((w_up_slot (by decide)).trans ((w_up_slot (by decide)).trans ((w_up_slot (by decide)).trans ((w_up_slot (by decide)).trans ((w_up_slot (by decide)).trans ((w_up_slot (by decide)).trans ((w_up_slot (by decide)).trans ((w_up_slot (by decide)).trans ((w_up_slot (by decide)).trans ((w_up_slot (by decide)).trans ((w_up_slot (by decide)).trans ((w_up_slot (by decide)).trans ((w_up_slot (by decide)).trans ((w_up_slot (by decide)).trans ((w_up_slot (by decide)).trans (w_up_at (by decide)))))))))))))))))) (fun r19 => ?_)
  refine wb_iast 387 rfl (wy_pr rfl) wt_387 (n := 18) ((w_up_at (by decide)).trans ((w_up_at (by decide)).trans ((w_up_at (by decide)).trans ((w_up_at (by decide)).trans ((w_up_at (by decide)).trans ((w_up_at (by decide)).trans ((w_up_at (by decide)).trans ((w_up_at (by decide)).trans ((w_up_at (by decide)).trans ((w_up_at (by decide)).trans ((w_up_at (by decide)).trans ((w_up_at (by decide)).trans ((w_up_at (by decide)).trans ((w_up_at (by decide)).trans ((w_up_at (by decide)).trans ((w_up_at (by decide)).trans ((w_up_slot (by decide)).trans (h387)))))))))))))))))) (by omega) (by omega) ⟨(by omega), (by omega)⟩ ?_
  refine wa_aload_n (n := 2) rfl ?_
  refine wa_bipush (w_rg2 (by omega) (by omega)) ?_
  refine wa_aload_n (n := 0) rfl ?_
  refine wb_gfi 237 rfl (wy_pr rfl) wt_237 wf_15_108 (v := (S 237 108)) ((w_up_slot (by decide)).trans ((w_up_slot (by decide)).trans ((w_up_slot (by decide)).trans ((w_up_slot (by decide)).trans ((w_up_slot (by decide)).trans ((w_up_slot (by decide)).trans ((w_up_slot (by decide)).trans ((w_up_slot (by decide)).trans ((w_up_slot (by decide)).trans ((w_up_slot (by decide)).trans ((w_up_slot (by decide)).trans ((w_up_slot (by decide)).trans ((w_up_slot (by decide)).trans ((w_up_slot (by decide)).trans ((w_up_slot (by decide)).trans ((w_up_slot (by decide)).trans ((w_up_slot (by decide)).trans (w_up_at (by decide))))))))))))))))))) (fun r20 => ?_)
  refine wb_iast 387 rfl (wy_pr rfl) wt_387 (n := 18) ((w_up_at (by decide)).trans ((w_up_at (by decide)).trans ((w_up_at (by decide)).trans ((w_up_at (by decide)).trans ((w_up_at (by decide)).trans ((w_up_at (by decide)).trans ((w_up_at (by decide)).trans ((w_up_at (by decide)).trans ((w_up_at (by decide)).trans ((w_up_at (by decide)).trans ((w_up_at (by decide)).trans ((w_up_at (by decide)).trans ((w_up_at (by decide)).trans ((w_up_at (by decide)).trans ((w_up_at (by decide)).trans ((w_up_at (by decide)).trans ((w_up_at (by decide)).trans ((w_up_slot (by decide)).trans (h387))))))))))))))))))) (by omega) (by omega) ⟨(by omega), (by omega)⟩ ?_
  refine wa_iload_n (n := 1) rfl ?_
  refine wa_i2l (w_rg0 (by omega) (by omega)) ?_
  refine wb_kl (n := 20) rfl ?_
  refine wb_kl (n := 23) rfl ?_
  refine wa_cs (M2 := fun _ => False) rfl at_M_in ⟨_, rfl⟩ rfl rfl ⟨(Or.inr ⟨wy_pr rfl, fun q => q⟩), (Or.inr ⟨wy_pr rfl, fun q => q⟩), trivial, trivial⟩ trivial (fun _ _ q => False.elim q) (in_ok (S := (w_up (w_up (w_up (w_up (w_up (w_up (w_up (w_up (w_up (w_up (w_up (w_up (w_up (w_up (w_up (w_up (w_up (w_up (w_up S 237 0 0) 387 0 (S 237 3)) 387 1 (S 241 1)) 387 2 (S 241 11)) 387 3 (S 237 33)) 387 4 (S 237 34)) 387 5 (S 237 43)) 387 6 (S 237 47)) 387 7 (S 237 48)) 387 8 (S 237 16)) 387 9 (S 237 19)) 387 10 (S 237 68)) 387 11 (S 237 69)) 387 12 (S 237 87)) 387 13 (S 237 114)) 387 14 (S 237 115)) 387 15 (S 237 104)) 387 16 (S 237 106)) 387 17 (S 237 108))) (a := wh) (lo := 20) (hi := 23) ⟨by omega, by omega⟩ ⟨by omega, by omega⟩ ⟨by omega, by omega⟩) (fun oq22 Sq22 hp23 q22 => ?_)
  rcases q22 with ⟨rfl, ⟨rfl, hin21⟩ | ⟨rfl, hin21⟩⟩
  · skip
    show wJ _ _ _ _ _ _ _ _ _ _
    refine wa_ifeq (w_rg0 (by omega) (by omega)) ⟨_, rfl⟩ (fun c24 => ?_) (fun c24 => ?_)
    · skip
      exact absurd c24 (by omega)
    · skip
      refine wa_aload_n (n := 0) rfl ?_
      refine wb_gf4 237 rfl (wy_pr rfl) wt_237 wf_15_109 (v := 344) wl_237_109 ?_
      refine wa_iload_n (n := 1) rfl ?_
      refine wa_bipush (w_rg2 (by omega) (by omega)) ?_
      refine wa_isub ?_
      refine wb_iald 344 rfl (wy_pr rfl) wt_344 (n := 4) ((w_up_slot (by decide)).trans ((w_up_slot (by decide)).trans ((w_up_slot (by decide)).trans ((w_up_slot (by decide)).trans ((w_up_slot (by decide)).trans ((w_up_slot (by decide)).trans ((w_up_slot (by decide)).trans ((w_up_slot (by decide)).trans ((w_up_slot (by decide)).trans ((w_up_slot (by decide)).trans ((w_up_slot (by decide)).trans ((w_up_slot (by decide)).trans ((w_up_slot (by decide)).trans ((w_up_slot (by decide)).trans ((w_up_slot (by decide)).trans ((w_up_slot (by decide)).trans ((w_up_slot (by decide)).trans ((w_up_slot (by decide)).trans ((w_up_slot (by decide)).trans ((ml_344 hM))))))))))))))))))))) (by omega) (by omega) (v := (S 344 (wh - 20))) ((w_up_slot (by decide)).trans ((w_up_slot (by decide)).trans ((w_up_slot (by decide)).trans ((w_up_slot (by decide)).trans ((w_up_slot (by decide)).trans ((w_up_slot (by decide)).trans ((w_up_slot (by decide)).trans ((w_up_slot (by decide)).trans ((w_up_slot (by decide)).trans ((w_up_slot (by decide)).trans ((w_up_slot (by decide)).trans ((w_up_slot (by decide)).trans ((w_up_slot (by decide)).trans ((w_up_slot (by decide)).trans ((w_up_slot (by decide)).trans ((w_up_slot (by decide)).trans ((w_up_slot (by decide)).trans ((w_up_slot (by decide)).trans (w_up_slot (by decide)))))))))))))))))))) (fun r25 => ?_)
      refine wa_ireturn rfl ?_
      refine ⟨fun j x j0 j1 => ?_, ?_, congrArg (fun z => Sum.inl (some (0, z))) ?_⟩
      · rcases (show j = 387 ∨ j ≠ 387 by omega) with e | e
        · subst e; rw [j0.resolve_left (fun z => z rfl)]; repeat rw [w_up_no (by omega)]
        · repeat rw [w_up_no (by omega)]
      · repeat rw [w_up_slot (by first | decide | omega)]
        first | exact w_up_same _ _ _ _ | omega
      · rcases (show wh = 20 ∨ wh = 21 ∨ wh = 22 ∨ wh = 23 by omega) with rfl | rfl | rfl | rfl <;> rfl
  · skip
    show wJ _ _ _ _ _ _ _ _ _ _
    refine wa_ifeq (w_rg0 (by omega) (by omega)) ⟨_, rfl⟩ (fun c26 => ?_) (fun c26 => ?_)
    · skip
      rcases (show wh = 0 ∨ wh = 1 ∨ wh = 2 ∨ wh = 3 ∨ wh = 4 ∨ wh = 5 ∨ wh = 6 ∨ wh = 7 ∨ wh = 8 ∨ wh = 9 ∨ wh = 10 ∨ wh = 11 ∨ wh = 12 ∨ wh = 13 ∨ wh = 14 ∨ wh = 15 ∨ wh = 16 ∨ wh = 17 ∨ wh < 0 ∨ 17 < wh by omega) with e | e | e | e | e | e | e | e | e | e | e | e | e | e | e | e | e | e | e | e
      · subst e
        refine wa_iload_n (n := 1) rfl ?_
        refine wa_i2l (w_rg0 (by omega) (by omega)) ?_
        refine wa_lconst ?_
        refine wb_kl (n := 17) rfl ?_
        refine wa_cs (M2 := fun _ => False) rfl at_M_in ⟨_, rfl⟩ rfl rfl ⟨(Or.inr ⟨wy_pr rfl, fun q => q⟩), (Or.inr ⟨wy_pr rfl, fun q => q⟩), trivial, trivial⟩ trivial (fun _ _ q => False.elim q) (in_ok (S := (w_up (w_up (w_up (w_up (w_up (w_up (w_up (w_up (w_up (w_up (w_up (w_up (w_up (w_up (w_up (w_up (w_up (w_up (w_up S 237 0 0) 387 0 (S 237 3)) 387 1 (S 241 1)) 387 2 (S 241 11)) 387 3 (S 237 33)) 387 4 (S 237 34)) 387 5 (S 237 43)) 387 6 (S 237 47)) 387 7 (S 237 48)) 387 8 (S 237 16)) 387 9 (S 237 19)) 387 10 (S 237 68)) 387 11 (S 237 69)) 387 12 (S 237 87)) 387 13 (S 237 114)) 387 14 (S 237 115)) 387 15 (S 237 104)) 387 16 (S 237 106)) 387 17 (S 237 108))) (a := 0) (lo := 0) (hi := 17) ⟨by omega, by omega⟩ ⟨by omega, by omega⟩ ⟨by omega, by omega⟩) (fun oq28 Sq28 hp29 q28 => ?_)
        rcases q28 with ⟨rfl, ⟨rfl, hin27⟩ | ⟨rfl, hin27⟩⟩
        · skip
          show wJ _ _ _ _ _ _ _ _ _ _
          refine wa_ifeq (w_rg0 (by omega) (by omega)) ⟨_, rfl⟩ (fun c30 => ?_) (fun c30 => ?_)
          · skip
            exact absurd c30 (by omega)
          · skip
            refine wa_aload_n (n := 2) rfl ?_
            refine wa_iload_n (n := 1) rfl ?_
            refine wb_iald 387 rfl (wy_pr rfl) wt_387 (n := 18) ((w_up_at (by decide)).trans ((w_up_at (by decide)).trans ((w_up_at (by decide)).trans ((w_up_at (by decide)).trans ((w_up_at (by decide)).trans ((w_up_at (by decide)).trans ((w_up_at (by decide)).trans ((w_up_at (by decide)).trans ((w_up_at (by decide)).trans ((w_up_at (by decide)).trans ((w_up_at (by decide)).trans ((w_up_at (by decide)).trans ((w_up_at (by decide)).trans ((w_up_at (by decide)).trans ((w_up_at (by decide)).trans ((w_up_at (by decide)).trans ((w_up_at (by decide)).trans ((w_up_at (by decide)).trans ((w_up_slot (by decide)).trans (h387)))))))))))))))))))) (by omega) (by omega) (v := (S 237 3)) ((w_up_at (by decide)).trans ((w_up_at (by decide)).trans ((w_up_at (by decide)).trans ((w_up_at (by decide)).trans ((w_up_at (by decide)).trans ((w_up_at (by decide)).trans ((w_up_at (by decide)).trans ((w_up_at (by decide)).trans ((w_up_at (by decide)).trans ((w_up_at (by decide)).trans ((w_up_at (by decide)).trans ((w_up_at (by decide)).trans ((w_up_at (by decide)).trans ((w_up_at (by decide)).trans ((w_up_at (by decide)).trans ((w_up_at (by decide)).trans ((w_up_at (by decide)).trans (w_up_same _ _ _ _)))))))))))))))))) (fun r31 => ?_)
            refine wa_goto ⟨_, rfl⟩ ?_
            refine wa_ireturn rfl ?_
            refine ⟨fun j x j0 j1 => ?_, ?_, congrArg (fun z => Sum.inl (some (0, z))) ?_⟩
            · rcases (show j = 387 ∨ j ≠ 387 by omega) with e | e
              · subst e; rw [j0.resolve_left (fun z => z rfl)]; repeat rw [w_up_no (by omega)]
              · repeat rw [w_up_no (by omega)]
            · repeat rw [w_up_slot (by first | decide | omega)]
              first | exact w_up_same _ _ _ _ | omega
            · unfold cn_r
              repeat (first | rw [if_pos (by omega)] | rw [if_neg (by omega)])
              all_goals first | rfl | omega
        · skip
          show wJ _ _ _ _ _ _ _ _ _ _
          refine wa_ifeq (w_rg0 (by omega) (by omega)) ⟨_, rfl⟩ (fun c32 => ?_) (fun c32 => ?_)
          · skip
            refine wa_iconst ?_
            refine wa_fall ⟨_, rfl⟩ ?_
            refine wa_ireturn rfl ?_
            refine ⟨fun j x j0 j1 => ?_, ?_, congrArg (fun z => Sum.inl (some (0, z))) ?_⟩
            · rcases (show j = 387 ∨ j ≠ 387 by omega) with e | e
              · subst e; rw [j0.resolve_left (fun z => z rfl)]; repeat rw [w_up_no (by omega)]
              · repeat rw [w_up_no (by omega)]
            · repeat rw [w_up_slot (by first | decide | omega)]
              first | exact w_up_same _ _ _ _ | omega
            · unfold cn_r
              repeat (first | rw [if_pos (by omega)] | rw [if_neg (by omega)])
              all_goals first | rfl | omega
          · skip
            exact absurd c32 (by omega)
      · subst e
        refine wa_iload_n (n := 1) rfl ?_
        refine wa_i2l (w_rg0 (by omega) (by omega)) ?_
        refine wa_lconst ?_
        refine wb_kl (n := 17) rfl ?_
        refine wa_cs (M2 := fun _ => False) rfl at_M_in ⟨_, rfl⟩ rfl rfl ⟨(Or.inr ⟨wy_pr rfl, fun q => q⟩), (Or.inr ⟨wy_pr rfl, fun q => q⟩), trivial, trivial⟩ trivial (fun _ _ q => False.elim q) (in_ok (S := (w_up (w_up (w_up (w_up (w_up (w_up (w_up (w_up (w_up (w_up (w_up (w_up (w_up (w_up (w_up (w_up (w_up (w_up (w_up S 237 0 0) 387 0 (S 237 3)) 387 1 (S 241 1)) 387 2 (S 241 11)) 387 3 (S 237 33)) 387 4 (S 237 34)) 387 5 (S 237 43)) 387 6 (S 237 47)) 387 7 (S 237 48)) 387 8 (S 237 16)) 387 9 (S 237 19)) 387 10 (S 237 68)) 387 11 (S 237 69)) 387 12 (S 237 87)) 387 13 (S 237 114)) 387 14 (S 237 115)) 387 15 (S 237 104)) 387 16 (S 237 106)) 387 17 (S 237 108))) (a := 1) (lo := 0) (hi := 17) ⟨by omega, by omega⟩ ⟨by omega, by omega⟩ ⟨by omega, by omega⟩) (fun oq34 Sq34 hp35 q34 => ?_)
        rcases q34 with ⟨rfl, ⟨rfl, hin33⟩ | ⟨rfl, hin33⟩⟩
        · skip
          show wJ _ _ _ _ _ _ _ _ _ _
          refine wa_ifeq (w_rg0 (by omega) (by omega)) ⟨_, rfl⟩ (fun c36 => ?_) (fun c36 => ?_)
          · skip
            exact absurd c36 (by omega)
          · skip
            refine wa_aload_n (n := 2) rfl ?_
            refine wa_iload_n (n := 1) rfl ?_
            refine wb_iald 387 rfl (wy_pr rfl) wt_387 (n := 18) ((w_up_at (by decide)).trans ((w_up_at (by decide)).trans ((w_up_at (by decide)).trans ((w_up_at (by decide)).trans ((w_up_at (by decide)).trans ((w_up_at (by decide)).trans ((w_up_at (by decide)).trans ((w_up_at (by decide)).trans ((w_up_at (by decide)).trans ((w_up_at (by decide)).trans ((w_up_at (by decide)).trans ((w_up_at (by decide)).trans ((w_up_at (by decide)).trans ((w_up_at (by decide)).trans ((w_up_at (by decide)).trans ((w_up_at (by decide)).trans ((w_up_at (by decide)).trans ((w_up_at (by decide)).trans ((w_up_slot (by decide)).trans (h387)))))))))))))))))))) (by omega) (by omega) (v := (S 241 1)) ((w_up_at (by decide)).trans ((w_up_at (by decide)).trans ((w_up_at (by decide)).trans ((w_up_at (by decide)).trans ((w_up_at (by decide)).trans ((w_up_at (by decide)).trans ((w_up_at (by decide)).trans ((w_up_at (by decide)).trans ((w_up_at (by decide)).trans ((w_up_at (by decide)).trans ((w_up_at (by decide)).trans ((w_up_at (by decide)).trans ((w_up_at (by decide)).trans ((w_up_at (by decide)).trans ((w_up_at (by decide)).trans ((w_up_at (by decide)).trans (w_up_same _ _ _ _))))))))))))))))) (fun r37 => ?_)
            refine wa_goto ⟨_, rfl⟩ ?_
            refine wa_ireturn rfl ?_
            refine ⟨fun j x j0 j1 => ?_, ?_, congrArg (fun z => Sum.inl (some (0, z))) ?_⟩
            · rcases (show j = 387 ∨ j ≠ 387 by omega) with e | e
              · subst e; rw [j0.resolve_left (fun z => z rfl)]; repeat rw [w_up_no (by omega)]
              · repeat rw [w_up_no (by omega)]
            · repeat rw [w_up_slot (by first | decide | omega)]
              first | exact w_up_same _ _ _ _ | omega
            · unfold cn_r
              repeat (first | rw [if_pos (by omega)] | rw [if_neg (by omega)])
              all_goals first | rfl | omega
        · skip
          show wJ _ _ _ _ _ _ _ _ _ _
          refine wa_ifeq (w_rg0 (by omega) (by omega)) ⟨_, rfl⟩ (fun c38 => ?_) (fun c38 => ?_)
          · skip
            refine wa_iconst ?_
            refine wa_fall ⟨_, rfl⟩ ?_
            refine wa_ireturn rfl ?_
            refine ⟨fun j x j0 j1 => ?_, ?_, congrArg (fun z => Sum.inl (some (0, z))) ?_⟩
            · rcases (show j = 387 ∨ j ≠ 387 by omega) with e | e
              · subst e; rw [j0.resolve_left (fun z => z rfl)]; repeat rw [w_up_no (by omega)]
              · repeat rw [w_up_no (by omega)]
            · repeat rw [w_up_slot (by first | decide | omega)]
              first | exact w_up_same _ _ _ _ | omega
            · unfold cn_r
              repeat (first | rw [if_pos (by omega)] | rw [if_neg (by omega)])
              all_goals first | rfl | omega
          · skip
            exact absurd c38 (by omega)
      · subst e
        refine wa_iload_n (n := 1) rfl ?_
        refine wa_i2l (w_rg0 (by omega) (by omega)) ?_
        refine wa_lconst ?_
        refine wb_kl (n := 17) rfl ?_
        refine wa_cs (M2 := fun _ => False) rfl at_M_in ⟨_, rfl⟩ rfl rfl ⟨(Or.inr ⟨wy_pr rfl, fun q => q⟩), (Or.inr ⟨wy_pr rfl, fun q => q⟩), trivial, trivial⟩ trivial (fun _ _ q => False.elim q) (in_ok (S := (w_up (w_up (w_up (w_up (w_up (w_up (w_up (w_up (w_up (w_up (w_up (w_up (w_up (w_up (w_up (w_up (w_up (w_up (w_up S 237 0 0) 387 0 (S 237 3)) 387 1 (S 241 1)) 387 2 (S 241 11)) 387 3 (S 237 33)) 387 4 (S 237 34)) 387 5 (S 237 43)) 387 6 (S 237 47)) 387 7 (S 237 48)) 387 8 (S 237 16)) 387 9 (S 237 19)) 387 10 (S 237 68)) 387 11 (S 237 69)) 387 12 (S 237 87)) 387 13 (S 237 114)) 387 14 (S 237 115)) 387 15 (S 237 104)) 387 16 (S 237 106)) 387 17 (S 237 108))) (a := 2) (lo := 0) (hi := 17) ⟨by omega, by omega⟩ ⟨by omega, by omega⟩ ⟨by omega, by omega⟩) (fun oq40 Sq40 hp41 q40 => ?_)
        rcases q40 with ⟨rfl, ⟨rfl, hin39⟩ | ⟨rfl, hin39⟩⟩
        · skip
          show wJ _ _ _ _ _ _ _ _ _ _
          refine wa_ifeq (w_rg0 (by omega) (by omega)) ⟨_, rfl⟩ (fun c42 => ?_) (fun c42 => ?_)
          · skip
            exact absurd c42 (by omega)
          · skip
            refine wa_aload_n (n := 2) rfl ?_
            refine wa_iload_n (n := 1) rfl ?_
            refine wb_iald 387 rfl (wy_pr rfl) wt_387 (n := 18) ((w_up_at (by decide)).trans ((w_up_at (by decide)).trans ((w_up_at (by decide)).trans ((w_up_at (by decide)).trans ((w_up_at (by decide)).trans ((w_up_at (by decide)).trans ((w_up_at (by decide)).trans ((w_up_at (by decide)).trans ((w_up_at (by decide)).trans ((w_up_at (by decide)).trans ((w_up_at (by decide)).trans ((w_up_at (by decide)).trans ((w_up_at (by decide)).trans ((w_up_at (by decide)).trans ((w_up_at (by decide)).trans ((w_up_at (by decide)).trans ((w_up_at (by decide)).trans ((w_up_at (by decide)).trans ((w_up_slot (by decide)).trans (h387)))))))))))))))))))) (by omega) (by omega) (v := (S 241 11)) ((w_up_at (by decide)).trans ((w_up_at (by decide)).trans ((w_up_at (by decide)).trans ((w_up_at (by decide)).trans ((w_up_at (by decide)).trans ((w_up_at (by decide)).trans ((w_up_at (by decide)).trans ((w_up_at (by decide)).trans ((w_up_at (by decide)).trans ((w_up_at (by decide)).trans ((w_up_at (by decide)).trans ((w_up_at (by decide)).trans ((w_up_at (by decide)).trans ((w_up_at (by decide)).trans ((w_up_at (by decide)).trans (w_up_same _ _ _ _)))))))))))))))) (fun r43 => ?_)
            refine wa_goto ⟨_, rfl⟩ ?_
            refine wa_ireturn rfl ?_
            refine ⟨fun j x j0 j1 => ?_, ?_, congrArg (fun z => Sum.inl (some (0, z))) ?_⟩
            · rcases (show j = 387 ∨ j ≠ 387 by omega) with e | e
              · subst e; rw [j0.resolve_left (fun z => z rfl)]; repeat rw [w_up_no (by omega)]
              · repeat rw [w_up_no (by omega)]
            · repeat rw [w_up_slot (by first | decide | omega)]
              first | exact w_up_same _ _ _ _ | omega
            · unfold cn_r
              repeat (first | rw [if_pos (by omega)] | rw [if_neg (by omega)])
              all_goals first | rfl | omega
        · skip
          show wJ _ _ _ _ _ _ _ _ _ _
          refine wa_ifeq (w_rg0 (by omega) (by omega)) ⟨_, rfl⟩ (fun c44 => ?_) (fun c44 => ?_)
          · skip
            refine wa_iconst ?_
            refine wa_fall ⟨_, rfl⟩ ?_
            refine wa_ireturn rfl ?_
            refine ⟨fun j x j0 j1 => ?_, ?_, congrArg (fun z => Sum.inl (some (0, z))) ?_⟩
            · rcases (show j = 387 ∨ j ≠ 387 by omega) with e | e
              · subst e; rw [j0.resolve_left (fun z => z rfl)]; repeat rw [w_up_no (by omega)]
              · repeat rw [w_up_no (by omega)]
            · repeat rw [w_up_slot (by first | decide | omega)]
              first | exact w_up_same _ _ _ _ | omega
            · unfold cn_r
              repeat (first | rw [if_pos (by omega)] | rw [if_neg (by omega)])
              all_goals first | rfl | omega
          · skip
            exact absurd c44 (by omega)
      · subst e
        refine wa_iload_n (n := 1) rfl ?_
        refine wa_i2l (w_rg0 (by omega) (by omega)) ?_
        refine wa_lconst ?_
        refine wb_kl (n := 17) rfl ?_
        refine wa_cs (M2 := fun _ => False) rfl at_M_in ⟨_, rfl⟩ rfl rfl ⟨(Or.inr ⟨wy_pr rfl, fun q => q⟩), (Or.inr ⟨wy_pr rfl, fun q => q⟩), trivial, trivial⟩ trivial (fun _ _ q => False.elim q) (in_ok (S := (w_up (w_up (w_up (w_up (w_up (w_up (w_up (w_up (w_up (w_up (w_up (w_up (w_up (w_up (w_up (w_up (w_up (w_up (w_up S 237 0 0) 387 0 (S 237 3)) 387 1 (S 241 1)) 387 2 (S 241 11)) 387 3 (S 237 33)) 387 4 (S 237 34)) 387 5 (S 237 43)) 387 6 (S 237 47)) 387 7 (S 237 48)) 387 8 (S 237 16)) 387 9 (S 237 19)) 387 10 (S 237 68)) 387 11 (S 237 69)) 387 12 (S 237 87)) 387 13 (S 237 114)) 387 14 (S 237 115)) 387 15 (S 237 104)) 387 16 (S 237 106)) 387 17 (S 237 108))) (a := 3) (lo := 0) (hi := 17) ⟨by omega, by omega⟩ ⟨by omega, by omega⟩ ⟨by omega, by omega⟩) (fun oq46 Sq46 hp47 q46 => ?_)
        rcases q46 with ⟨rfl, ⟨rfl, hin45⟩ | ⟨rfl, hin45⟩⟩
        · skip
          show wJ _ _ _ _ _ _ _ _ _ _
          refine wa_ifeq (w_rg0 (by omega) (by omega)) ⟨_, rfl⟩ (fun c48 => ?_) (fun c48 => ?_)
          · skip
            exact absurd c48 (by omega)
          · skip
            refine wa_aload_n (n := 2) rfl ?_
            refine wa_iload_n (n := 1) rfl ?_
            refine wb_iald 387 rfl (wy_pr rfl) wt_387 (n := 18) ((w_up_at (by decide)).trans ((w_up_at (by decide)).trans ((w_up_at (by decide)).trans ((w_up_at (by decide)).trans ((w_up_at (by decide)).trans ((w_up_at (by decide)).trans ((w_up_at (by decide)).trans ((w_up_at (by decide)).trans ((w_up_at (by decide)).trans ((w_up_at (by decide)).trans ((w_up_at (by decide)).trans ((w_up_at (by decide)).trans ((w_up_at (by decide)).trans ((w_up_at (by decide)).trans ((w_up_at (by decide)).trans ((w_up_at (by decide)).trans ((w_up_at (by decide)).trans ((w_up_at (by decide)).trans ((w_up_slot (by decide)).trans (h387)))))))))))))))))))) (by omega) (by omega) (v := (S 237 33)) ((w_up_at (by decide)).trans ((w_up_at (by decide)).trans ((w_up_at (by decide)).trans ((w_up_at (by decide)).trans ((w_up_at (by decide)).trans ((w_up_at (by decide)).trans ((w_up_at (by decide)).trans ((w_up_at (by decide)).trans ((w_up_at (by decide)).trans ((w_up_at (by decide)).trans ((w_up_at (by decide)).trans ((w_up_at (by decide)).trans ((w_up_at (by decide)).trans ((w_up_at (by decide)).trans (w_up_same _ _ _ _))))))))))))))) (fun r49 => ?_)
            refine wa_goto ⟨_, rfl⟩ ?_
            refine wa_ireturn rfl ?_
            refine ⟨fun j x j0 j1 => ?_, ?_, congrArg (fun z => Sum.inl (some (0, z))) ?_⟩
            · rcases (show j = 387 ∨ j ≠ 387 by omega) with e | e
              · subst e; rw [j0.resolve_left (fun z => z rfl)]; repeat rw [w_up_no (by omega)]
              · repeat rw [w_up_no (by omega)]
            · repeat rw [w_up_slot (by first | decide | omega)]
              first | exact w_up_same _ _ _ _ | omega
            · unfold cn_r
              repeat (first | rw [if_pos (by omega)] | rw [if_neg (by omega)])
              all_goals first | rfl | omega
        · skip
          show wJ _ _ _ _ _ _ _ _ _ _
          refine wa_ifeq (w_rg0 (by omega) (by omega)) ⟨_, rfl⟩ (fun c50 => ?_) (fun c50 => ?_)
          · skip
            refine wa_iconst ?_
            refine wa_fall ⟨_, rfl⟩ ?_
            refine wa_ireturn rfl ?_
            refine ⟨fun j x j0 j1 => ?_, ?_, congrArg (fun z => Sum.inl (some (0, z))) ?_⟩
            · rcases (show j = 387 ∨ j ≠ 387 by omega) with e | e
              · subst e; rw [j0.resolve_left (fun z => z rfl)]; repeat rw [w_up_no (by omega)]
              · repeat rw [w_up_no (by omega)]
            · repeat rw [w_up_slot (by first | decide | omega)]
              first | exact w_up_same _ _ _ _ | omega
            · unfold cn_r
              repeat (first | rw [if_pos (by omega)] | rw [if_neg (by omega)])
              all_goals first | rfl | omega
          · skip
            exact absurd c50 (by omega)
      · subst e
        refine wa_iload_n (n := 1) rfl ?_
        refine wa_i2l (w_rg0 (by omega) (by omega)) ?_
        refine wa_lconst ?_
        refine wb_kl (n := 17) rfl ?_
        refine wa_cs (M2 := fun _ => False) rfl at_M_in ⟨_, rfl⟩ rfl rfl ⟨(Or.inr ⟨wy_pr rfl, fun q => q⟩), (Or.inr ⟨wy_pr rfl, fun q => q⟩), trivial, trivial⟩ trivial (fun _ _ q => False.elim q) (in_ok (S := (w_up (w_up (w_up (w_up (w_up (w_up (w_up (w_up (w_up (w_up (w_up (w_up (w_up (w_up (w_up (w_up (w_up (w_up (w_up S 237 0 0) 387 0 (S 237 3)) 387 1 (S 241 1)) 387 2 (S 241 11)) 387 3 (S 237 33)) 387 4 (S 237 34)) 387 5 (S 237 43)) 387 6 (S 237 47)) 387 7 (S 237 48)) 387 8 (S 237 16)) 387 9 (S 237 19)) 387 10 (S 237 68)) 387 11 (S 237 69)) 387 12 (S 237 87)) 387 13 (S 237 114)) 387 14 (S 237 115)) 387 15 (S 237 104)) 387 16 (S 237 106)) 387 17 (S 237 108))) (a := 4) (lo := 0) (hi := 17) ⟨by omega, by omega⟩ ⟨by omega, by omega⟩ ⟨by omega, by omega⟩) (fun oq52 Sq52 hp53 q52 => ?_)
        rcases q52 with ⟨rfl, ⟨rfl, hin51⟩ | ⟨rfl, hin51⟩⟩
        · skip
          show wJ _ _ _ _ _ _ _ _ _ _
          refine wa_ifeq (w_rg0 (by omega) (by omega)) ⟨_, rfl⟩ (fun c54 => ?_) (fun c54 => ?_)
          · skip
            exact absurd c54 (by omega)
          · skip
            refine wa_aload_n (n := 2) rfl ?_
            refine wa_iload_n (n := 1) rfl ?_
            refine wb_iald 387 rfl (wy_pr rfl) wt_387 (n := 18) ((w_up_at (by decide)).trans ((w_up_at (by decide)).trans ((w_up_at (by decide)).trans ((w_up_at (by decide)).trans ((w_up_at (by decide)).trans ((w_up_at (by decide)).trans ((w_up_at (by decide)).trans ((w_up_at (by decide)).trans ((w_up_at (by decide)).trans ((w_up_at (by decide)).trans ((w_up_at (by decide)).trans ((w_up_at (by decide)).trans ((w_up_at (by decide)).trans ((w_up_at (by decide)).trans ((w_up_at (by decide)).trans ((w_up_at (by decide)).trans ((w_up_at (by decide)).trans ((w_up_at (by decide)).trans ((w_up_slot (by decide)).trans (h387)))))))))))))))))))) (by omega) (by omega) (v := (S 237 34)) ((w_up_at (by decide)).trans ((w_up_at (by decide)).trans ((w_up_at (by decide)).trans ((w_up_at (by decide)).trans ((w_up_at (by decide)).trans ((w_up_at (by decide)).trans ((w_up_at (by decide)).trans ((w_up_at (by decide)).trans ((w_up_at (by decide)).trans ((w_up_at (by decide)).trans ((w_up_at (by decide)).trans ((w_up_at (by decide)).trans ((w_up_at (by decide)).trans (w_up_same _ _ _ _)))))))))))))) (fun r55 => ?_)
            refine wa_goto ⟨_, rfl⟩ ?_
            refine wa_ireturn rfl ?_
            refine ⟨fun j x j0 j1 => ?_, ?_, congrArg (fun z => Sum.inl (some (0, z))) ?_⟩
            · rcases (show j = 387 ∨ j ≠ 387 by omega) with e | e
              · subst e; rw [j0.resolve_left (fun z => z rfl)]; repeat rw [w_up_no (by omega)]
              · repeat rw [w_up_no (by omega)]
            · repeat rw [w_up_slot (by first | decide | omega)]
              first | exact w_up_same _ _ _ _ | omega
            · unfold cn_r
              repeat (first | rw [if_pos (by omega)] | rw [if_neg (by omega)])
              all_goals first | rfl | omega
        · skip
          show wJ _ _ _ _ _ _ _ _ _ _
          refine wa_ifeq (w_rg0 (by omega) (by omega)) ⟨_, rfl⟩ (fun c56 => ?_) (fun c56 => ?_)
          · skip
            refine wa_iconst ?_
            refine wa_fall ⟨_, rfl⟩ ?_
            refine wa_ireturn rfl ?_
            refine ⟨fun j x j0 j1 => ?_, ?_, congrArg (fun z => Sum.inl (some (0, z))) ?_⟩
            · rcases (show j = 387 ∨ j ≠ 387 by omega) with e | e
              · subst e; rw [j0.resolve_left (fun z => z rfl)]; repeat rw [w_up_no (by omega)]
              · repeat rw [w_up_no (by omega)]
            · repeat rw [w_up_slot (by first | decide | omega)]
              first | exact w_up_same _ _ _ _ | omega
            · unfold cn_r
              repeat (first | rw [if_pos (by omega)] | rw [if_neg (by omega)])
              all_goals first | rfl | omega
          · skip
            exact absurd c56 (by omega)
      · subst e
        refine wa_iload_n (n := 1) rfl ?_
        refine wa_i2l (w_rg0 (by omega) (by omega)) ?_
        refine wa_lconst ?_
        refine wb_kl (n := 17) rfl ?_
        refine wa_cs (M2 := fun _ => False) rfl at_M_in ⟨_, rfl⟩ rfl rfl ⟨(Or.inr ⟨wy_pr rfl, fun q => q⟩), (Or.inr ⟨wy_pr rfl, fun q => q⟩), trivial, trivial⟩ trivial (fun _ _ q => False.elim q) (in_ok (S := (w_up (w_up (w_up (w_up (w_up (w_up (w_up (w_up (w_up (w_up (w_up (w_up (w_up (w_up (w_up (w_up (w_up (w_up (w_up S 237 0 0) 387 0 (S 237 3)) 387 1 (S 241 1)) 387 2 (S 241 11)) 387 3 (S 237 33)) 387 4 (S 237 34)) 387 5 (S 237 43)) 387 6 (S 237 47)) 387 7 (S 237 48)) 387 8 (S 237 16)) 387 9 (S 237 19)) 387 10 (S 237 68)) 387 11 (S 237 69)) 387 12 (S 237 87)) 387 13 (S 237 114)) 387 14 (S 237 115)) 387 15 (S 237 104)) 387 16 (S 237 106)) 387 17 (S 237 108))) (a := 5) (lo := 0) (hi := 17) ⟨by omega, by omega⟩ ⟨by omega, by omega⟩ ⟨by omega, by omega⟩) (fun oq58 Sq58 hp59 q58 => ?_)
        rcases q58 with ⟨rfl, ⟨rfl, hin57⟩ | ⟨rfl, hin57⟩⟩
        · skip
          show wJ _ _ _ _ _ _ _ _ _ _
          refine wa_ifeq (w_rg0 (by omega) (by omega)) ⟨_, rfl⟩ (fun c60 => ?_) (fun c60 => ?_)
          · skip
            exact absurd c60 (by omega)
          · skip
            refine wa_aload_n (n := 2) rfl ?_
            refine wa_iload_n (n := 1) rfl ?_
            refine wb_iald 387 rfl (wy_pr rfl) wt_387 (n := 18) ((w_up_at (by decide)).trans ((w_up_at (by decide)).trans ((w_up_at (by decide)).trans ((w_up_at (by decide)).trans ((w_up_at (by decide)).trans ((w_up_at (by decide)).trans ((w_up_at (by decide)).trans ((w_up_at (by decide)).trans ((w_up_at (by decide)).trans ((w_up_at (by decide)).trans ((w_up_at (by decide)).trans ((w_up_at (by decide)).trans ((w_up_at (by decide)).trans ((w_up_at (by decide)).trans ((w_up_at (by decide)).trans ((w_up_at (by decide)).trans ((w_up_at (by decide)).trans ((w_up_at (by decide)).trans ((w_up_slot (by decide)).trans (h387)))))))))))))))))))) (by omega) (by omega) (v := (S 237 43)) ((w_up_at (by decide)).trans ((w_up_at (by decide)).trans ((w_up_at (by decide)).trans ((w_up_at (by decide)).trans ((w_up_at (by decide)).trans ((w_up_at (by decide)).trans ((w_up_at (by decide)).trans ((w_up_at (by decide)).trans ((w_up_at (by decide)).trans ((w_up_at (by decide)).trans ((w_up_at (by decide)).trans ((w_up_at (by decide)).trans (w_up_same _ _ _ _))))))))))))) (fun r61 => ?_)
            refine wa_goto ⟨_, rfl⟩ ?_
            refine wa_ireturn rfl ?_
            refine ⟨fun j x j0 j1 => ?_, ?_, congrArg (fun z => Sum.inl (some (0, z))) ?_⟩
            · rcases (show j = 387 ∨ j ≠ 387 by omega) with e | e
              · subst e; rw [j0.resolve_left (fun z => z rfl)]; repeat rw [w_up_no (by omega)]
              · repeat rw [w_up_no (by omega)]
            · repeat rw [w_up_slot (by first | decide | omega)]
              first | exact w_up_same _ _ _ _ | omega
            · unfold cn_r
              repeat (first | rw [if_pos (by omega)] | rw [if_neg (by omega)])
              all_goals first | rfl | omega
        · skip
          show wJ _ _ _ _ _ _ _ _ _ _
          refine wa_ifeq (w_rg0 (by omega) (by omega)) ⟨_, rfl⟩ (fun c62 => ?_) (fun c62 => ?_)
          · skip
            refine wa_iconst ?_
            refine wa_fall ⟨_, rfl⟩ ?_
            refine wa_ireturn rfl ?_
            refine ⟨fun j x j0 j1 => ?_, ?_, congrArg (fun z => Sum.inl (some (0, z))) ?_⟩
            · rcases (show j = 387 ∨ j ≠ 387 by omega) with e | e
              · subst e; rw [j0.resolve_left (fun z => z rfl)]; repeat rw [w_up_no (by omega)]
              · repeat rw [w_up_no (by omega)]
            · repeat rw [w_up_slot (by first | decide | omega)]
              first | exact w_up_same _ _ _ _ | omega
            · unfold cn_r
              repeat (first | rw [if_pos (by omega)] | rw [if_neg (by omega)])
              all_goals first | rfl | omega
          · skip
            exact absurd c62 (by omega)
      · subst e
        refine wa_iload_n (n := 1) rfl ?_
        refine wa_i2l (w_rg0 (by omega) (by omega)) ?_
        refine wa_lconst ?_
        refine wb_kl (n := 17) rfl ?_
        refine wa_cs (M2 := fun _ => False) rfl at_M_in ⟨_, rfl⟩ rfl rfl ⟨(Or.inr ⟨wy_pr rfl, fun q => q⟩), (Or.inr ⟨wy_pr rfl, fun q => q⟩), trivial, trivial⟩ trivial (fun _ _ q => False.elim q) (in_ok (S := (w_up (w_up (w_up (w_up (w_up (w_up (w_up (w_up (w_up (w_up (w_up (w_up (w_up (w_up (w_up (w_up (w_up (w_up (w_up S 237 0 0) 387 0 (S 237 3)) 387 1 (S 241 1)) 387 2 (S 241 11)) 387 3 (S 237 33)) 387 4 (S 237 34)) 387 5 (S 237 43)) 387 6 (S 237 47)) 387 7 (S 237 48)) 387 8 (S 237 16)) 387 9 (S 237 19)) 387 10 (S 237 68)) 387 11 (S 237 69)) 387 12 (S 237 87)) 387 13 (S 237 114)) 387 14 (S 237 115)) 387 15 (S 237 104)) 387 16 (S 237 106)) 387 17 (S 237 108))) (a := 6) (lo := 0) (hi := 17) ⟨by omega, by omega⟩ ⟨by omega, by omega⟩ ⟨by omega, by omega⟩) (fun oq64 Sq64 hp65 q64 => ?_)
        rcases q64 with ⟨rfl, ⟨rfl, hin63⟩ | ⟨rfl, hin63⟩⟩
        · skip
          show wJ _ _ _ _ _ _ _ _ _ _
          refine wa_ifeq (w_rg0 (by omega) (by omega)) ⟨_, rfl⟩ (fun c66 => ?_) (fun c66 => ?_)
          · skip
            exact absurd c66 (by omega)
          · skip
            refine wa_aload_n (n := 2) rfl ?_
            refine wa_iload_n (n := 1) rfl ?_
            refine wb_iald 387 rfl (wy_pr rfl) wt_387 (n := 18) ((w_up_at (by decide)).trans ((w_up_at (by decide)).trans ((w_up_at (by decide)).trans ((w_up_at (by decide)).trans ((w_up_at (by decide)).trans ((w_up_at (by decide)).trans ((w_up_at (by decide)).trans ((w_up_at (by decide)).trans ((w_up_at (by decide)).trans ((w_up_at (by decide)).trans ((w_up_at (by decide)).trans ((w_up_at (by decide)).trans ((w_up_at (by decide)).trans ((w_up_at (by decide)).trans ((w_up_at (by decide)).trans ((w_up_at (by decide)).trans ((w_up_at (by decide)).trans ((w_up_at (by decide)).trans ((w_up_slot (by decide)).trans (h387)))))))))))))))))))) (by omega) (by omega) (v := (S 237 47)) ((w_up_at (by decide)).trans ((w_up_at (by decide)).trans ((w_up_at (by decide)).trans ((w_up_at (by decide)).trans ((w_up_at (by decide)).trans ((w_up_at (by decide)).trans ((w_up_at (by decide)).trans ((w_up_at (by decide)).trans ((w_up_at (by decide)).trans ((w_up_at (by decide)).trans ((w_up_at (by decide)).trans (w_up_same _ _ _ _)))))))))))) (fun r67 => ?_)
            refine wa_goto ⟨_, rfl⟩ ?_
            refine wa_ireturn rfl ?_
            refine ⟨fun j x j0 j1 => ?_, ?_, congrArg (fun z => Sum.inl (some (0, z))) ?_⟩
            · rcases (show j = 387 ∨ j ≠ 387 by omega) with e | e
              · subst e; rw [j0.resolve_left (fun z => z rfl)]; repeat rw [w_up_no (by omega)]
              · repeat rw [w_up_no (by omega)]
            · repeat rw [w_up_slot (by first | decide | omega)]
              first | exact w_up_same _ _ _ _ | omega
            · unfold cn_r
              repeat (first | rw [if_pos (by omega)] | rw [if_neg (by omega)])
              all_goals first | rfl | omega
        · skip
          show wJ _ _ _ _ _ _ _ _ _ _
          refine wa_ifeq (w_rg0 (by omega) (by omega)) ⟨_, rfl⟩ (fun c68 => ?_) (fun c68 => ?_)
          · skip
            refine wa_iconst ?_
            refine wa_fall ⟨_, rfl⟩ ?_
            refine wa_ireturn rfl ?_
            refine ⟨fun j x j0 j1 => ?_, ?_, congrArg (fun z => Sum.inl (some (0, z))) ?_⟩
            · rcases (show j = 387 ∨ j ≠ 387 by omega) with e | e
              · subst e; rw [j0.resolve_left (fun z => z rfl)]; repeat rw [w_up_no (by omega)]
              · repeat rw [w_up_no (by omega)]
            · repeat rw [w_up_slot (by first | decide | omega)]
              first | exact w_up_same _ _ _ _ | omega
            · unfold cn_r
              repeat (first | rw [if_pos (by omega)] | rw [if_neg (by omega)])
              all_goals first | rfl | omega
          · skip
            exact absurd c68 (by omega)
      · subst e
        refine wa_iload_n (n := 1) rfl ?_
        refine wa_i2l (w_rg0 (by omega) (by omega)) ?_
        refine wa_lconst ?_
        refine wb_kl (n := 17) rfl ?_
        refine wa_cs (M2 := fun _ => False) rfl at_M_in ⟨_, rfl⟩ rfl rfl ⟨(Or.inr ⟨wy_pr rfl, fun q => q⟩), (Or.inr ⟨wy_pr rfl, fun q => q⟩), trivial, trivial⟩ trivial (fun _ _ q => False.elim q) (in_ok (S := (w_up (w_up (w_up (w_up (w_up (w_up (w_up (w_up (w_up (w_up (w_up (w_up (w_up (w_up (w_up (w_up (w_up (w_up (w_up S 237 0 0) 387 0 (S 237 3)) 387 1 (S 241 1)) 387 2 (S 241 11)) 387 3 (S 237 33)) 387 4 (S 237 34)) 387 5 (S 237 43)) 387 6 (S 237 47)) 387 7 (S 237 48)) 387 8 (S 237 16)) 387 9 (S 237 19)) 387 10 (S 237 68)) 387 11 (S 237 69)) 387 12 (S 237 87)) 387 13 (S 237 114)) 387 14 (S 237 115)) 387 15 (S 237 104)) 387 16 (S 237 106)) 387 17 (S 237 108))) (a := 7) (lo := 0) (hi := 17) ⟨by omega, by omega⟩ ⟨by omega, by omega⟩ ⟨by omega, by omega⟩) (fun oq70 Sq70 hp71 q70 => ?_)
        rcases q70 with ⟨rfl, ⟨rfl, hin69⟩ | ⟨rfl, hin69⟩⟩
        · skip
          show wJ _ _ _ _ _ _ _ _ _ _
          refine wa_ifeq (w_rg0 (by omega) (by omega)) ⟨_, rfl⟩ (fun c72 => ?_) (fun c72 => ?_)
          · skip
            exact absurd c72 (by omega)
          · skip
            refine wa_aload_n (n := 2) rfl ?_
            refine wa_iload_n (n := 1) rfl ?_
            refine wb_iald 387 rfl (wy_pr rfl) wt_387 (n := 18) ((w_up_at (by decide)).trans ((w_up_at (by decide)).trans ((w_up_at (by decide)).trans ((w_up_at (by decide)).trans ((w_up_at (by decide)).trans ((w_up_at (by decide)).trans ((w_up_at (by decide)).trans ((w_up_at (by decide)).trans ((w_up_at (by decide)).trans ((w_up_at (by decide)).trans ((w_up_at (by decide)).trans ((w_up_at (by decide)).trans ((w_up_at (by decide)).trans ((w_up_at (by decide)).trans ((w_up_at (by decide)).trans ((w_up_at (by decide)).trans ((w_up_at (by decide)).trans ((w_up_at (by decide)).trans ((w_up_slot (by decide)).trans (h387)))))))))))))))))))) (by omega) (by omega) (v := (S 237 48)) ((w_up_at (by decide)).trans ((w_up_at (by decide)).trans ((w_up_at (by decide)).trans ((w_up_at (by decide)).trans ((w_up_at (by decide)).trans ((w_up_at (by decide)).trans ((w_up_at (by decide)).trans ((w_up_at (by decide)).trans ((w_up_at (by decide)).trans ((w_up_at (by decide)).trans (w_up_same _ _ _ _))))))))))) (fun r73 => ?_)
            refine wa_goto ⟨_, rfl⟩ ?_
            refine wa_ireturn rfl ?_
            refine ⟨fun j x j0 j1 => ?_, ?_, congrArg (fun z => Sum.inl (some (0, z))) ?_⟩
            · rcases (show j = 387 ∨ j ≠ 387 by omega) with e | e
              · subst e; rw [j0.resolve_left (fun z => z rfl)]; repeat rw [w_up_no (by omega)]
              · repeat rw [w_up_no (by omega)]
            · repeat rw [w_up_slot (by first | decide | omega)]
              first | exact w_up_same _ _ _ _ | omega
            · unfold cn_r
              repeat (first | rw [if_pos (by omega)] | rw [if_neg (by omega)])
              all_goals first | rfl | omega
        · skip
          show wJ _ _ _ _ _ _ _ _ _ _
          refine wa_ifeq (w_rg0 (by omega) (by omega)) ⟨_, rfl⟩ (fun c74 => ?_) (fun c74 => ?_)
          · skip
            refine wa_iconst ?_
            refine wa_fall ⟨_, rfl⟩ ?_
            refine wa_ireturn rfl ?_
            refine ⟨fun j x j0 j1 => ?_, ?_, congrArg (fun z => Sum.inl (some (0, z))) ?_⟩
            · rcases (show j = 387 ∨ j ≠ 387 by omega) with e | e
              · subst e; rw [j0.resolve_left (fun z => z rfl)]; repeat rw [w_up_no (by omega)]
              · repeat rw [w_up_no (by omega)]
            · repeat rw [w_up_slot (by first | decide | omega)]
              first | exact w_up_same _ _ _ _ | omega
            · unfold cn_r
              repeat (first | rw [if_pos (by omega)] | rw [if_neg (by omega)])
              all_goals first | rfl | omega
          · skip
            exact absurd c74 (by omega)
      · subst e
        refine wa_iload_n (n := 1) rfl ?_
        refine wa_i2l (w_rg0 (by omega) (by omega)) ?_
        refine wa_lconst ?_
        refine wb_kl (n := 17) rfl ?_
        refine wa_cs (M2 := fun _ => False) rfl at_M_in ⟨_, rfl⟩ rfl rfl ⟨(Or.inr ⟨wy_pr rfl, fun q => q⟩), (Or.inr ⟨wy_pr rfl, fun q => q⟩), trivial, trivial⟩ trivial (fun _ _ q => False.elim q) (in_ok (S := (w_up (w_up (w_up (w_up (w_up (w_up (w_up (w_up (w_up (w_up (w_up (w_up (w_up (w_up (w_up (w_up (w_up (w_up (w_up S 237 0 0) 387 0 (S 237 3)) 387 1 (S 241 1)) 387 2 (S 241 11)) 387 3 (S 237 33)) 387 4 (S 237 34)) 387 5 (S 237 43)) 387 6 (S 237 47)) 387 7 (S 237 48)) 387 8 (S 237 16)) 387 9 (S 237 19)) 387 10 (S 237 68)) 387 11 (S 237 69)) 387 12 (S 237 87)) 387 13 (S 237 114)) 387 14 (S 237 115)) 387 15 (S 237 104)) 387 16 (S 237 106)) 387 17 (S 237 108))) (a := 8) (lo := 0) (hi := 17) ⟨by omega, by omega⟩ ⟨by omega, by omega⟩ ⟨by omega, by omega⟩) (fun oq76 Sq76 hp77 q76 => ?_)
        rcases q76 with ⟨rfl, ⟨rfl, hin75⟩ | ⟨rfl, hin75⟩⟩
        · skip
          show wJ _ _ _ _ _ _ _ _ _ _
          refine wa_ifeq (w_rg0 (by omega) (by omega)) ⟨_, rfl⟩ (fun c78 => ?_) (fun c78 => ?_)
          · skip
            exact absurd c78 (by omega)
          · skip
            refine wa_aload_n (n := 2) rfl ?_
            refine wa_iload_n (n := 1) rfl ?_
            refine wb_iald 387 rfl (wy_pr rfl) wt_387 (n := 18) ((w_up_at (by decide)).trans ((w_up_at (by decide)).trans ((w_up_at (by decide)).trans ((w_up_at (by decide)).trans ((w_up_at (by decide)).trans ((w_up_at (by decide)).trans ((w_up_at (by decide)).trans ((w_up_at (by decide)).trans ((w_up_at (by decide)).trans ((w_up_at (by decide)).trans ((w_up_at (by decide)).trans ((w_up_at (by decide)).trans ((w_up_at (by decide)).trans ((w_up_at (by decide)).trans ((w_up_at (by decide)).trans ((w_up_at (by decide)).trans ((w_up_at (by decide)).trans ((w_up_at (by decide)).trans ((w_up_slot (by decide)).trans (h387)))))))))))))))))))) (by omega) (by omega) (v := (S 237 16)) ((w_up_at (by decide)).trans ((w_up_at (by decide)).trans ((w_up_at (by decide)).trans ((w_up_at (by decide)).trans ((w_up_at (by decide)).trans ((w_up_at (by decide)).trans ((w_up_at (by decide)).trans ((w_up_at (by decide)).trans ((w_up_at (by decide)).trans (w_up_same _ _ _ _)))))))))) (fun r79 => ?_)
            refine wa_goto ⟨_, rfl⟩ ?_
            refine wa_ireturn rfl ?_
            refine ⟨fun j x j0 j1 => ?_, ?_, congrArg (fun z => Sum.inl (some (0, z))) ?_⟩
            · rcases (show j = 387 ∨ j ≠ 387 by omega) with e | e
              · subst e; rw [j0.resolve_left (fun z => z rfl)]; repeat rw [w_up_no (by omega)]
              · repeat rw [w_up_no (by omega)]
            · repeat rw [w_up_slot (by first | decide | omega)]
              first | exact w_up_same _ _ _ _ | omega
            · unfold cn_r
              repeat (first | rw [if_pos (by omega)] | rw [if_neg (by omega)])
              all_goals first | rfl | omega
        · skip
          show wJ _ _ _ _ _ _ _ _ _ _
          refine wa_ifeq (w_rg0 (by omega) (by omega)) ⟨_, rfl⟩ (fun c80 => ?_) (fun c80 => ?_)
          · skip
            refine wa_iconst ?_
            refine wa_fall ⟨_, rfl⟩ ?_
            refine wa_ireturn rfl ?_
            refine ⟨fun j x j0 j1 => ?_, ?_, congrArg (fun z => Sum.inl (some (0, z))) ?_⟩
            · rcases (show j = 387 ∨ j ≠ 387 by omega) with e | e
              · subst e; rw [j0.resolve_left (fun z => z rfl)]; repeat rw [w_up_no (by omega)]
              · repeat rw [w_up_no (by omega)]
            · repeat rw [w_up_slot (by first | decide | omega)]
              first | exact w_up_same _ _ _ _ | omega
            · unfold cn_r
              repeat (first | rw [if_pos (by omega)] | rw [if_neg (by omega)])
              all_goals first | rfl | omega
          · skip
            exact absurd c80 (by omega)
      · subst e
        refine wa_iload_n (n := 1) rfl ?_
        refine wa_i2l (w_rg0 (by omega) (by omega)) ?_
        refine wa_lconst ?_
        refine wb_kl (n := 17) rfl ?_
        refine wa_cs (M2 := fun _ => False) rfl at_M_in ⟨_, rfl⟩ rfl rfl ⟨(Or.inr ⟨wy_pr rfl, fun q => q⟩), (Or.inr ⟨wy_pr rfl, fun q => q⟩), trivial, trivial⟩ trivial (fun _ _ q => False.elim q) (in_ok (S := (w_up (w_up (w_up (w_up (w_up (w_up (w_up (w_up (w_up (w_up (w_up (w_up (w_up (w_up (w_up (w_up (w_up (w_up (w_up S 237 0 0) 387 0 (S 237 3)) 387 1 (S 241 1)) 387 2 (S 241 11)) 387 3 (S 237 33)) 387 4 (S 237 34)) 387 5 (S 237 43)) 387 6 (S 237 47)) 387 7 (S 237 48)) 387 8 (S 237 16)) 387 9 (S 237 19)) 387 10 (S 237 68)) 387 11 (S 237 69)) 387 12 (S 237 87)) 387 13 (S 237 114)) 387 14 (S 237 115)) 387 15 (S 237 104)) 387 16 (S 237 106)) 387 17 (S 237 108))) (a := 9) (lo := 0) (hi := 17) ⟨by omega, by omega⟩ ⟨by omega, by omega⟩ ⟨by omega, by omega⟩) (fun oq82 Sq82 hp83 q82 => ?_)
        rcases q82 with ⟨rfl, ⟨rfl, hin81⟩ | ⟨rfl, hin81⟩⟩
        · skip
          show wJ _ _ _ _ _ _ _ _ _ _
          refine wa_ifeq (w_rg0 (by omega) (by omega)) ⟨_, rfl⟩ (fun c84 => ?_) (fun c84 => ?_)
          · skip
            exact absurd c84 (by omega)
          · skip
            refine wa_aload_n (n := 2) rfl ?_
            refine wa_iload_n (n := 1) rfl ?_
            refine wb_iald 387 rfl (wy_pr rfl) wt_387 (n := 18) ((w_up_at (by decide)).trans ((w_up_at (by decide)).trans ((w_up_at (by decide)).trans ((w_up_at (by decide)).trans ((w_up_at (by decide)).trans ((w_up_at (by decide)).trans ((w_up_at (by decide)).trans ((w_up_at (by decide)).trans ((w_up_at (by decide)).trans ((w_up_at (by decide)).trans ((w_up_at (by decide)).trans ((w_up_at (by decide)).trans ((w_up_at (by decide)).trans ((w_up_at (by decide)).trans ((w_up_at (by decide)).trans ((w_up_at (by decide)).trans ((w_up_at (by decide)).trans ((w_up_at (by decide)).trans ((w_up_slot (by decide)).trans (h387)))))))))))))))))))) (by omega) (by omega) (v := (S 237 19)) ((w_up_at (by decide)).trans ((w_up_at (by decide)).trans ((w_up_at (by decide)).trans ((w_up_at (by decide)).trans ((w_up_at (by decide)).trans ((w_up_at (by decide)).trans ((w_up_at (by decide)).trans ((w_up_at (by decide)).trans (w_up_same _ _ _ _))))))))) (fun r85 => ?_)
            refine wa_goto ⟨_, rfl⟩ ?_
            refine wa_ireturn rfl ?_
            refine ⟨fun j x j0 j1 => ?_, ?_, congrArg (fun z => Sum.inl (some (0, z))) ?_⟩
            · rcases (show j = 387 ∨ j ≠ 387 by omega) with e | e
              · subst e; rw [j0.resolve_left (fun z => z rfl)]; repeat rw [w_up_no (by omega)]
              · repeat rw [w_up_no (by omega)]
            · repeat rw [w_up_slot (by first | decide | omega)]
              first | exact w_up_same _ _ _ _ | omega
            · unfold cn_r
              repeat (first | rw [if_pos (by omega)] | rw [if_neg (by omega)])
              all_goals first | rfl | omega
        · skip
          show wJ _ _ _ _ _ _ _ _ _ _
          refine wa_ifeq (w_rg0 (by omega) (by omega)) ⟨_, rfl⟩ (fun c86 => ?_) (fun c86 => ?_)
          · skip
            refine wa_iconst ?_
            refine wa_fall ⟨_, rfl⟩ ?_
            refine wa_ireturn rfl ?_
            refine ⟨fun j x j0 j1 => ?_, ?_, congrArg (fun z => Sum.inl (some (0, z))) ?_⟩
            · rcases (show j = 387 ∨ j ≠ 387 by omega) with e | e
              · subst e; rw [j0.resolve_left (fun z => z rfl)]; repeat rw [w_up_no (by omega)]
              · repeat rw [w_up_no (by omega)]
            · repeat rw [w_up_slot (by first | decide | omega)]
              first | exact w_up_same _ _ _ _ | omega
            · unfold cn_r
              repeat (first | rw [if_pos (by omega)] | rw [if_neg (by omega)])
              all_goals first | rfl | omega
          · skip
            exact absurd c86 (by omega)
      · subst e
        refine wa_iload_n (n := 1) rfl ?_
        refine wa_i2l (w_rg0 (by omega) (by omega)) ?_
        refine wa_lconst ?_
        refine wb_kl (n := 17) rfl ?_
        refine wa_cs (M2 := fun _ => False) rfl at_M_in ⟨_, rfl⟩ rfl rfl ⟨(Or.inr ⟨wy_pr rfl, fun q => q⟩), (Or.inr ⟨wy_pr rfl, fun q => q⟩), trivial, trivial⟩ trivial (fun _ _ q => False.elim q) (in_ok (S := (w_up (w_up (w_up (w_up (w_up (w_up (w_up (w_up (w_up (w_up (w_up (w_up (w_up (w_up (w_up (w_up (w_up (w_up (w_up S 237 0 0) 387 0 (S 237 3)) 387 1 (S 241 1)) 387 2 (S 241 11)) 387 3 (S 237 33)) 387 4 (S 237 34)) 387 5 (S 237 43)) 387 6 (S 237 47)) 387 7 (S 237 48)) 387 8 (S 237 16)) 387 9 (S 237 19)) 387 10 (S 237 68)) 387 11 (S 237 69)) 387 12 (S 237 87)) 387 13 (S 237 114)) 387 14 (S 237 115)) 387 15 (S 237 104)) 387 16 (S 237 106)) 387 17 (S 237 108))) (a := 10) (lo := 0) (hi := 17) ⟨by omega, by omega⟩ ⟨by omega, by omega⟩ ⟨by omega, by omega⟩) (fun oq88 Sq88 hp89 q88 => ?_)
        rcases q88 with ⟨rfl, ⟨rfl, hin87⟩ | ⟨rfl, hin87⟩⟩
        · skip
          show wJ _ _ _ _ _ _ _ _ _ _
          refine wa_ifeq (w_rg0 (by omega) (by omega)) ⟨_, rfl⟩ (fun c90 => ?_) (fun c90 => ?_)
          · skip
            exact absurd c90 (by omega)
          · skip
            refine wa_aload_n (n := 2) rfl ?_
            refine wa_iload_n (n := 1) rfl ?_
            refine wb_iald 387 rfl (wy_pr rfl) wt_387 (n := 18) ((w_up_at (by decide)).trans ((w_up_at (by decide)).trans ((w_up_at (by decide)).trans ((w_up_at (by decide)).trans ((w_up_at (by decide)).trans ((w_up_at (by decide)).trans ((w_up_at (by decide)).trans ((w_up_at (by decide)).trans ((w_up_at (by decide)).trans ((w_up_at (by decide)).trans ((w_up_at (by decide)).trans ((w_up_at (by decide)).trans ((w_up_at (by decide)).trans ((w_up_at (by decide)).trans ((w_up_at (by decide)).trans ((w_up_at (by decide)).trans ((w_up_at (by decide)).trans ((w_up_at (by decide)).trans ((w_up_slot (by decide)).trans (h387)))))))))))))))))))) (by omega) (by omega) (v := (S 237 68)) ((w_up_at (by decide)).trans ((w_up_at (by decide)).trans ((w_up_at (by decide)).trans ((w_up_at (by decide)).trans ((w_up_at (by decide)).trans ((w_up_at (by decide)).trans ((w_up_at (by decide)).trans (w_up_same _ _ _ _)))))))) (fun r91 => ?_)
            refine wa_goto ⟨_, rfl⟩ ?_
            refine wa_ireturn rfl ?_
            refine ⟨fun j x j0 j1 => ?_, ?_, congrArg (fun z => Sum.inl (some (0, z))) ?_⟩
            · rcases (show j = 387 ∨ j ≠ 387 by omega) with e | e
              · subst e; rw [j0.resolve_left (fun z => z rfl)]; repeat rw [w_up_no (by omega)]
              · repeat rw [w_up_no (by omega)]
            · repeat rw [w_up_slot (by first | decide | omega)]
              first | exact w_up_same _ _ _ _ | omega
            · unfold cn_r
              repeat (first | rw [if_pos (by omega)] | rw [if_neg (by omega)])
              all_goals first | rfl | omega
        · skip
          show wJ _ _ _ _ _ _ _ _ _ _
          refine wa_ifeq (w_rg0 (by omega) (by omega)) ⟨_, rfl⟩ (fun c92 => ?_) (fun c92 => ?_)
          · skip
            refine wa_iconst ?_
            refine wa_fall ⟨_, rfl⟩ ?_
            refine wa_ireturn rfl ?_
            refine ⟨fun j x j0 j1 => ?_, ?_, congrArg (fun z => Sum.inl (some (0, z))) ?_⟩
            · rcases (show j = 387 ∨ j ≠ 387 by omega) with e | e
              · subst e; rw [j0.resolve_left (fun z => z rfl)]; repeat rw [w_up_no (by omega)]
              · repeat rw [w_up_no (by omega)]
            · repeat rw [w_up_slot (by first | decide | omega)]
              first | exact w_up_same _ _ _ _ | omega
            · unfold cn_r
              repeat (first | rw [if_pos (by omega)] | rw [if_neg (by omega)])
              all_goals first | rfl | omega
          · skip
            exact absurd c92 (by omega)
      · subst e
        refine wa_iload_n (n := 1) rfl ?_
        refine wa_i2l (w_rg0 (by omega) (by omega)) ?_
        refine wa_lconst ?_
        refine wb_kl (n := 17) rfl ?_
        refine wa_cs (M2 := fun _ => False) rfl at_M_in ⟨_, rfl⟩ rfl rfl ⟨(Or.inr ⟨wy_pr rfl, fun q => q⟩), (Or.inr ⟨wy_pr rfl, fun q => q⟩), trivial, trivial⟩ trivial (fun _ _ q => False.elim q) (in_ok (S := (w_up (w_up (w_up (w_up (w_up (w_up (w_up (w_up (w_up (w_up (w_up (w_up (w_up (w_up (w_up (w_up (w_up (w_up (w_up S 237 0 0) 387 0 (S 237 3)) 387 1 (S 241 1)) 387 2 (S 241 11)) 387 3 (S 237 33)) 387 4 (S 237 34)) 387 5 (S 237 43)) 387 6 (S 237 47)) 387 7 (S 237 48)) 387 8 (S 237 16)) 387 9 (S 237 19)) 387 10 (S 237 68)) 387 11 (S 237 69)) 387 12 (S 237 87)) 387 13 (S 237 114)) 387 14 (S 237 115)) 387 15 (S 237 104)) 387 16 (S 237 106)) 387 17 (S 237 108))) (a := 11) (lo := 0) (hi := 17) ⟨by omega, by omega⟩ ⟨by omega, by omega⟩ ⟨by omega, by omega⟩) (fun oq94 Sq94 hp95 q94 => ?_)
        rcases q94 with ⟨rfl, ⟨rfl, hin93⟩ | ⟨rfl, hin93⟩⟩
        · skip
          show wJ _ _ _ _ _ _ _ _ _ _
          refine wa_ifeq (w_rg0 (by omega) (by omega)) ⟨_, rfl⟩ (fun c96 => ?_) (fun c96 => ?_)
          · skip
            exact absurd c96 (by omega)
          · skip
            refine wa_aload_n (n := 2) rfl ?_
            refine wa_iload_n (n := 1) rfl ?_
            refine wb_iald 387 rfl (wy_pr rfl) wt_387 (n := 18) ((w_up_at (by decide)).trans ((w_up_at (by decide)).trans ((w_up_at (by decide)).trans ((w_up_at (by decide)).trans ((w_up_at (by decide)).trans ((w_up_at (by decide)).trans ((w_up_at (by decide)).trans ((w_up_at (by decide)).trans ((w_up_at (by decide)).trans ((w_up_at (by decide)).trans ((w_up_at (by decide)).trans ((w_up_at (by decide)).trans ((w_up_at (by decide)).trans ((w_up_at (by decide)).trans ((w_up_at (by decide)).trans ((w_up_at (by decide)).trans ((w_up_at (by decide)).trans ((w_up_at (by decide)).trans ((w_up_slot (by decide)).trans (h387)))))))))))))))))))) (by omega) (by omega) (v := (S 237 69)) ((w_up_at (by decide)).trans ((w_up_at (by decide)).trans ((w_up_at (by decide)).trans ((w_up_at (by decide)).trans ((w_up_at (by decide)).trans ((w_up_at (by decide)).trans (w_up_same _ _ _ _))))))) (fun r97 => ?_)
            refine wa_goto ⟨_, rfl⟩ ?_
            refine wa_ireturn rfl ?_
            refine ⟨fun j x j0 j1 => ?_, ?_, congrArg (fun z => Sum.inl (some (0, z))) ?_⟩
            · rcases (show j = 387 ∨ j ≠ 387 by omega) with e | e
              · subst e; rw [j0.resolve_left (fun z => z rfl)]; repeat rw [w_up_no (by omega)]
              · repeat rw [w_up_no (by omega)]
            · repeat rw [w_up_slot (by first | decide | omega)]
              first | exact w_up_same _ _ _ _ | omega
            · unfold cn_r
              repeat (first | rw [if_pos (by omega)] | rw [if_neg (by omega)])
              all_goals first | rfl | omega
        · skip
          show wJ _ _ _ _ _ _ _ _ _ _
          refine wa_ifeq (w_rg0 (by omega) (by omega)) ⟨_, rfl⟩ (fun c98 => ?_) (fun c98 => ?_)
          · skip
            refine wa_iconst ?_
            refine wa_fall ⟨_, rfl⟩ ?_
            refine wa_ireturn rfl ?_
            refine ⟨fun j x j0 j1 => ?_, ?_, congrArg (fun z => Sum.inl (some (0, z))) ?_⟩
            · rcases (show j = 387 ∨ j ≠ 387 by omega) with e | e
              · subst e; rw [j0.resolve_left (fun z => z rfl)]; repeat rw [w_up_no (by omega)]
              · repeat rw [w_up_no (by omega)]
            · repeat rw [w_up_slot (by first | decide | omega)]
              first | exact w_up_same _ _ _ _ | omega
            · unfold cn_r
              repeat (first | rw [if_pos (by omega)] | rw [if_neg (by omega)])
              all_goals first | rfl | omega
          · skip
            exact absurd c98 (by omega)
      · subst e
        refine wa_iload_n (n := 1) rfl ?_
        refine wa_i2l (w_rg0 (by omega) (by omega)) ?_
        refine wa_lconst ?_
        refine wb_kl (n := 17) rfl ?_
        refine wa_cs (M2 := fun _ => False) rfl at_M_in ⟨_, rfl⟩ rfl rfl ⟨(Or.inr ⟨wy_pr rfl, fun q => q⟩), (Or.inr ⟨wy_pr rfl, fun q => q⟩), trivial, trivial⟩ trivial (fun _ _ q => False.elim q) (in_ok (S := (w_up (w_up (w_up (w_up (w_up (w_up (w_up (w_up (w_up (w_up (w_up (w_up (w_up (w_up (w_up (w_up (w_up (w_up (w_up S 237 0 0) 387 0 (S 237 3)) 387 1 (S 241 1)) 387 2 (S 241 11)) 387 3 (S 237 33)) 387 4 (S 237 34)) 387 5 (S 237 43)) 387 6 (S 237 47)) 387 7 (S 237 48)) 387 8 (S 237 16)) 387 9 (S 237 19)) 387 10 (S 237 68)) 387 11 (S 237 69)) 387 12 (S 237 87)) 387 13 (S 237 114)) 387 14 (S 237 115)) 387 15 (S 237 104)) 387 16 (S 237 106)) 387 17 (S 237 108))) (a := 12) (lo := 0) (hi := 17) ⟨by omega, by omega⟩ ⟨by omega, by omega⟩ ⟨by omega, by omega⟩) (fun oq100 Sq100 hp101 q100 => ?_)
        rcases q100 with ⟨rfl, ⟨rfl, hin99⟩ | ⟨rfl, hin99⟩⟩
        · skip
          show wJ _ _ _ _ _ _ _ _ _ _
          refine wa_ifeq (w_rg0 (by omega) (by omega)) ⟨_, rfl⟩ (fun c102 => ?_) (fun c102 => ?_)
          · skip
            exact absurd c102 (by omega)
          · skip
            refine wa_aload_n (n := 2) rfl ?_
            refine wa_iload_n (n := 1) rfl ?_
            refine wb_iald 387 rfl (wy_pr rfl) wt_387 (n := 18) ((w_up_at (by decide)).trans ((w_up_at (by decide)).trans ((w_up_at (by decide)).trans ((w_up_at (by decide)).trans ((w_up_at (by decide)).trans ((w_up_at (by decide)).trans ((w_up_at (by decide)).trans ((w_up_at (by decide)).trans ((w_up_at (by decide)).trans ((w_up_at (by decide)).trans ((w_up_at (by decide)).trans ((w_up_at (by decide)).trans ((w_up_at (by decide)).trans ((w_up_at (by decide)).trans ((w_up_at (by decide)).trans ((w_up_at (by decide)).trans ((w_up_at (by decide)).trans ((w_up_at (by decide)).trans ((w_up_slot (by decide)).trans (h387)))))))))))))))))))) (by omega) (by omega) (v := (S 237 87)) ((w_up_at (by decide)).trans ((w_up_at (by decide)).trans ((w_up_at (by decide)).trans ((w_up_at (by decide)).trans ((w_up_at (by decide)).trans (w_up_same _ _ _ _)))))) (fun r103 => ?_)
            refine wa_goto ⟨_, rfl⟩ ?_
            refine wa_ireturn rfl ?_
            refine ⟨fun j x j0 j1 => ?_, ?_, congrArg (fun z => Sum.inl (some (0, z))) ?_⟩
            · rcases (show j = 387 ∨ j ≠ 387 by omega) with e | e
              · subst e; rw [j0.resolve_left (fun z => z rfl)]; repeat rw [w_up_no (by omega)]
              · repeat rw [w_up_no (by omega)]
            · repeat rw [w_up_slot (by first | decide | omega)]
              first | exact w_up_same _ _ _ _ | omega
            · unfold cn_r
              repeat (first | rw [if_pos (by omega)] | rw [if_neg (by omega)])
              all_goals first | rfl | omega
        · skip
          show wJ _ _ _ _ _ _ _ _ _ _
          refine wa_ifeq (w_rg0 (by omega) (by omega)) ⟨_, rfl⟩ (fun c104 => ?_) (fun c104 => ?_)
          · skip
            refine wa_iconst ?_
            refine wa_fall ⟨_, rfl⟩ ?_
            refine wa_ireturn rfl ?_
            refine ⟨fun j x j0 j1 => ?_, ?_, congrArg (fun z => Sum.inl (some (0, z))) ?_⟩
            · rcases (show j = 387 ∨ j ≠ 387 by omega) with e | e
              · subst e; rw [j0.resolve_left (fun z => z rfl)]; repeat rw [w_up_no (by omega)]
              · repeat rw [w_up_no (by omega)]
            · repeat rw [w_up_slot (by first | decide | omega)]
              first | exact w_up_same _ _ _ _ | omega
            · unfold cn_r
              repeat (first | rw [if_pos (by omega)] | rw [if_neg (by omega)])
              all_goals first | rfl | omega
          · skip
            exact absurd c104 (by omega)
      · subst e
        refine wa_iload_n (n := 1) rfl ?_
        refine wa_i2l (w_rg0 (by omega) (by omega)) ?_
        refine wa_lconst ?_
        refine wb_kl (n := 17) rfl ?_
        refine wa_cs (M2 := fun _ => False) rfl at_M_in ⟨_, rfl⟩ rfl rfl ⟨(Or.inr ⟨wy_pr rfl, fun q => q⟩), (Or.inr ⟨wy_pr rfl, fun q => q⟩), trivial, trivial⟩ trivial (fun _ _ q => False.elim q) (in_ok (S := (w_up (w_up (w_up (w_up (w_up (w_up (w_up (w_up (w_up (w_up (w_up (w_up (w_up (w_up (w_up (w_up (w_up (w_up (w_up S 237 0 0) 387 0 (S 237 3)) 387 1 (S 241 1)) 387 2 (S 241 11)) 387 3 (S 237 33)) 387 4 (S 237 34)) 387 5 (S 237 43)) 387 6 (S 237 47)) 387 7 (S 237 48)) 387 8 (S 237 16)) 387 9 (S 237 19)) 387 10 (S 237 68)) 387 11 (S 237 69)) 387 12 (S 237 87)) 387 13 (S 237 114)) 387 14 (S 237 115)) 387 15 (S 237 104)) 387 16 (S 237 106)) 387 17 (S 237 108))) (a := 13) (lo := 0) (hi := 17) ⟨by omega, by omega⟩ ⟨by omega, by omega⟩ ⟨by omega, by omega⟩) (fun oq106 Sq106 hp107 q106 => ?_)
        rcases q106 with ⟨rfl, ⟨rfl, hin105⟩ | ⟨rfl, hin105⟩⟩
        · skip
          show wJ _ _ _ _ _ _ _ _ _ _
          refine wa_ifeq (w_rg0 (by omega) (by omega)) ⟨_, rfl⟩ (fun c108 => ?_) (fun c108 => ?_)
          · skip
            exact absurd c108 (by omega)
          · skip
            refine wa_aload_n (n := 2) rfl ?_
            refine wa_iload_n (n := 1) rfl ?_
            refine wb_iald 387 rfl (wy_pr rfl) wt_387 (n := 18) ((w_up_at (by decide)).trans ((w_up_at (by decide)).trans ((w_up_at (by decide)).trans ((w_up_at (by decide)).trans ((w_up_at (by decide)).trans ((w_up_at (by decide)).trans ((w_up_at (by decide)).trans ((w_up_at (by decide)).trans ((w_up_at (by decide)).trans ((w_up_at (by decide)).trans ((w_up_at (by decide)).trans ((w_up_at (by decide)).trans ((w_up_at (by decide)).trans ((w_up_at (by decide)).trans ((w_up_at (by decide)).trans ((w_up_at (by decide)).trans ((w_up_at (by decide)).trans ((w_up_at (by decide)).trans ((w_up_slot (by decide)).trans (h387)))))))))))))))))))) (by omega) (by omega) (v := (S 237 114)) ((w_up_at (by decide)).trans ((w_up_at (by decide)).trans ((w_up_at (by decide)).trans ((w_up_at (by decide)).trans (w_up_same _ _ _ _))))) (fun r109 => ?_)
            refine wa_goto ⟨_, rfl⟩ ?_
            refine wa_ireturn rfl ?_
            refine ⟨fun j x j0 j1 => ?_, ?_, congrArg (fun z => Sum.inl (some (0, z))) ?_⟩
            · rcases (show j = 387 ∨ j ≠ 387 by omega) with e | e
              · subst e; rw [j0.resolve_left (fun z => z rfl)]; repeat rw [w_up_no (by omega)]
              · repeat rw [w_up_no (by omega)]
            · repeat rw [w_up_slot (by first | decide | omega)]
              first | exact w_up_same _ _ _ _ | omega
            · unfold cn_r
              repeat (first | rw [if_pos (by omega)] | rw [if_neg (by omega)])
              all_goals first | rfl | omega
        · skip
          show wJ _ _ _ _ _ _ _ _ _ _
          refine wa_ifeq (w_rg0 (by omega) (by omega)) ⟨_, rfl⟩ (fun c110 => ?_) (fun c110 => ?_)
          · skip
            refine wa_iconst ?_
            refine wa_fall ⟨_, rfl⟩ ?_
            refine wa_ireturn rfl ?_
            refine ⟨fun j x j0 j1 => ?_, ?_, congrArg (fun z => Sum.inl (some (0, z))) ?_⟩
            · rcases (show j = 387 ∨ j ≠ 387 by omega) with e | e
              · subst e; rw [j0.resolve_left (fun z => z rfl)]; repeat rw [w_up_no (by omega)]
              · repeat rw [w_up_no (by omega)]
            · repeat rw [w_up_slot (by first | decide | omega)]
              first | exact w_up_same _ _ _ _ | omega
            · unfold cn_r
              repeat (first | rw [if_pos (by omega)] | rw [if_neg (by omega)])
              all_goals first | rfl | omega
          · skip
            exact absurd c110 (by omega)
      · subst e
        refine wa_iload_n (n := 1) rfl ?_
        refine wa_i2l (w_rg0 (by omega) (by omega)) ?_
        refine wa_lconst ?_
        refine wb_kl (n := 17) rfl ?_
        refine wa_cs (M2 := fun _ => False) rfl at_M_in ⟨_, rfl⟩ rfl rfl ⟨(Or.inr ⟨wy_pr rfl, fun q => q⟩), (Or.inr ⟨wy_pr rfl, fun q => q⟩), trivial, trivial⟩ trivial (fun _ _ q => False.elim q) (in_ok (S := (w_up (w_up (w_up (w_up (w_up (w_up (w_up (w_up (w_up (w_up (w_up (w_up (w_up (w_up (w_up (w_up (w_up (w_up (w_up S 237 0 0) 387 0 (S 237 3)) 387 1 (S 241 1)) 387 2 (S 241 11)) 387 3 (S 237 33)) 387 4 (S 237 34)) 387 5 (S 237 43)) 387 6 (S 237 47)) 387 7 (S 237 48)) 387 8 (S 237 16)) 387 9 (S 237 19)) 387 10 (S 237 68)) 387 11 (S 237 69)) 387 12 (S 237 87)) 387 13 (S 237 114)) 387 14 (S 237 115)) 387 15 (S 237 104)) 387 16 (S 237 106)) 387 17 (S 237 108))) (a := 14) (lo := 0) (hi := 17) ⟨by omega, by omega⟩ ⟨by omega, by omega⟩ ⟨by omega, by omega⟩) (fun oq112 Sq112 hp113 q112 => ?_)
        rcases q112 with ⟨rfl, ⟨rfl, hin111⟩ | ⟨rfl, hin111⟩⟩
        · skip
          show wJ _ _ _ _ _ _ _ _ _ _
          refine wa_ifeq (w_rg0 (by omega) (by omega)) ⟨_, rfl⟩ (fun c114 => ?_) (fun c114 => ?_)
          · skip
            exact absurd c114 (by omega)
          · skip
            refine wa_aload_n (n := 2) rfl ?_
            refine wa_iload_n (n := 1) rfl ?_
            refine wb_iald 387 rfl (wy_pr rfl) wt_387 (n := 18) ((w_up_at (by decide)).trans ((w_up_at (by decide)).trans ((w_up_at (by decide)).trans ((w_up_at (by decide)).trans ((w_up_at (by decide)).trans ((w_up_at (by decide)).trans ((w_up_at (by decide)).trans ((w_up_at (by decide)).trans ((w_up_at (by decide)).trans ((w_up_at (by decide)).trans ((w_up_at (by decide)).trans ((w_up_at (by decide)).trans ((w_up_at (by decide)).trans ((w_up_at (by decide)).trans ((w_up_at (by decide)).trans ((w_up_at (by decide)).trans ((w_up_at (by decide)).trans ((w_up_at (by decide)).trans ((w_up_slot (by decide)).trans (h387)))))))))))))))))))) (by omega) (by omega) (v := (S 237 115)) ((w_up_at (by decide)).trans ((w_up_at (by decide)).trans ((w_up_at (by decide)).trans (w_up_same _ _ _ _)))) (fun r115 => ?_)
            refine wa_goto ⟨_, rfl⟩ ?_
            refine wa_ireturn rfl ?_
            refine ⟨fun j x j0 j1 => ?_, ?_, congrArg (fun z => Sum.inl (some (0, z))) ?_⟩
            · rcases (show j = 387 ∨ j ≠ 387 by omega) with e | e
              · subst e; rw [j0.resolve_left (fun z => z rfl)]; repeat rw [w_up_no (by omega)]
              · repeat rw [w_up_no (by omega)]
            · repeat rw [w_up_slot (by first | decide | omega)]
              first | exact w_up_same _ _ _ _ | omega
            · unfold cn_r
              repeat (first | rw [if_pos (by omega)] | rw [if_neg (by omega)])
              all_goals first | rfl | omega
        · skip
          show wJ _ _ _ _ _ _ _ _ _ _
          refine wa_ifeq (w_rg0 (by omega) (by omega)) ⟨_, rfl⟩ (fun c116 => ?_) (fun c116 => ?_)
          · skip
            refine wa_iconst ?_
            refine wa_fall ⟨_, rfl⟩ ?_
            refine wa_ireturn rfl ?_
            refine ⟨fun j x j0 j1 => ?_, ?_, congrArg (fun z => Sum.inl (some (0, z))) ?_⟩
            · rcases (show j = 387 ∨ j ≠ 387 by omega) with e | e
              · subst e; rw [j0.resolve_left (fun z => z rfl)]; repeat rw [w_up_no (by omega)]
              · repeat rw [w_up_no (by omega)]
            · repeat rw [w_up_slot (by first | decide | omega)]
              first | exact w_up_same _ _ _ _ | omega
            · unfold cn_r
              repeat (first | rw [if_pos (by omega)] | rw [if_neg (by omega)])
              all_goals first | rfl | omega
          · skip
            exact absurd c116 (by omega)
      · subst e
        refine wa_iload_n (n := 1) rfl ?_
        refine wa_i2l (w_rg0 (by omega) (by omega)) ?_
        refine wa_lconst ?_
        refine wb_kl (n := 17) rfl ?_
        refine wa_cs (M2 := fun _ => False) rfl at_M_in ⟨_, rfl⟩ rfl rfl ⟨(Or.inr ⟨wy_pr rfl, fun q => q⟩), (Or.inr ⟨wy_pr rfl, fun q => q⟩), trivial, trivial⟩ trivial (fun _ _ q => False.elim q) (in_ok (S := (w_up (w_up (w_up (w_up (w_up (w_up (w_up (w_up (w_up (w_up (w_up (w_up (w_up (w_up (w_up (w_up (w_up (w_up (w_up S 237 0 0) 387 0 (S 237 3)) 387 1 (S 241 1)) 387 2 (S 241 11)) 387 3 (S 237 33)) 387 4 (S 237 34)) 387 5 (S 237 43)) 387 6 (S 237 47)) 387 7 (S 237 48)) 387 8 (S 237 16)) 387 9 (S 237 19)) 387 10 (S 237 68)) 387 11 (S 237 69)) 387 12 (S 237 87)) 387 13 (S 237 114)) 387 14 (S 237 115)) 387 15 (S 237 104)) 387 16 (S 237 106)) 387 17 (S 237 108))) (a := 15) (lo := 0) (hi := 17) ⟨by omega, by omega⟩ ⟨by omega, by omega⟩ ⟨by omega, by omega⟩) (fun oq118 Sq118 hp119 q118 => ?_)
        rcases q118 with ⟨rfl, ⟨rfl, hin117⟩ | ⟨rfl, hin117⟩⟩
        · skip
          show wJ _ _ _ _ _ _ _ _ _ _
          refine wa_ifeq (w_rg0 (by omega) (by omega)) ⟨_, rfl⟩ (fun c120 => ?_) (fun c120 => ?_)
          · skip
            exact absurd c120 (by omega)
          · skip
            refine wa_aload_n (n := 2) rfl ?_
            refine wa_iload_n (n := 1) rfl ?_
            refine wb_iald 387 rfl (wy_pr rfl) wt_387 (n := 18) ((w_up_at (by decide)).trans ((w_up_at (by decide)).trans ((w_up_at (by decide)).trans ((w_up_at (by decide)).trans ((w_up_at (by decide)).trans ((w_up_at (by decide)).trans ((w_up_at (by decide)).trans ((w_up_at (by decide)).trans ((w_up_at (by decide)).trans ((w_up_at (by decide)).trans ((w_up_at (by decide)).trans ((w_up_at (by decide)).trans ((w_up_at (by decide)).trans ((w_up_at (by decide)).trans ((w_up_at (by decide)).trans ((w_up_at (by decide)).trans ((w_up_at (by decide)).trans ((w_up_at (by decide)).trans ((w_up_slot (by decide)).trans (h387)))))))))))))))))))) (by omega) (by omega) (v := (S 237 104)) ((w_up_at (by decide)).trans ((w_up_at (by decide)).trans (w_up_same _ _ _ _))) (fun r121 => ?_)
            refine wa_goto ⟨_, rfl⟩ ?_
            refine wa_ireturn rfl ?_
            refine ⟨fun j x j0 j1 => ?_, ?_, congrArg (fun z => Sum.inl (some (0, z))) ?_⟩
            · rcases (show j = 387 ∨ j ≠ 387 by omega) with e | e
              · subst e; rw [j0.resolve_left (fun z => z rfl)]; repeat rw [w_up_no (by omega)]
              · repeat rw [w_up_no (by omega)]
            · repeat rw [w_up_slot (by first | decide | omega)]
              first | exact w_up_same _ _ _ _ | omega
            · unfold cn_r
              repeat (first | rw [if_pos (by omega)] | rw [if_neg (by omega)])
              all_goals first | rfl | omega
        · skip
          show wJ _ _ _ _ _ _ _ _ _ _
          refine wa_ifeq (w_rg0 (by omega) (by omega)) ⟨_, rfl⟩ (fun c122 => ?_) (fun c122 => ?_)
          · skip
            refine wa_iconst ?_
            refine wa_fall ⟨_, rfl⟩ ?_
            refine wa_ireturn rfl ?_
            refine ⟨fun j x j0 j1 => ?_, ?_, congrArg (fun z => Sum.inl (some (0, z))) ?_⟩
            · rcases (show j = 387 ∨ j ≠ 387 by omega) with e | e
              · subst e; rw [j0.resolve_left (fun z => z rfl)]; repeat rw [w_up_no (by omega)]
              · repeat rw [w_up_no (by omega)]
            · repeat rw [w_up_slot (by first | decide | omega)]
              first | exact w_up_same _ _ _ _ | omega
            · unfold cn_r
              repeat (first | rw [if_pos (by omega)] | rw [if_neg (by omega)])
              all_goals first | rfl | omega
          · skip
            exact absurd c122 (by omega)
      · subst e
        refine wa_iload_n (n := 1) rfl ?_
        refine wa_i2l (w_rg0 (by omega) (by omega)) ?_
        refine wa_lconst ?_
        refine wb_kl (n := 17) rfl ?_
        refine wa_cs (M2 := fun _ => False) rfl at_M_in ⟨_, rfl⟩ rfl rfl ⟨(Or.inr ⟨wy_pr rfl, fun q => q⟩), (Or.inr ⟨wy_pr rfl, fun q => q⟩), trivial, trivial⟩ trivial (fun _ _ q => False.elim q) (in_ok (S := (w_up (w_up (w_up (w_up (w_up (w_up (w_up (w_up (w_up (w_up (w_up (w_up (w_up (w_up (w_up (w_up (w_up (w_up (w_up S 237 0 0) 387 0 (S 237 3)) 387 1 (S 241 1)) 387 2 (S 241 11)) 387 3 (S 237 33)) 387 4 (S 237 34)) 387 5 (S 237 43)) 387 6 (S 237 47)) 387 7 (S 237 48)) 387 8 (S 237 16)) 387 9 (S 237 19)) 387 10 (S 237 68)) 387 11 (S 237 69)) 387 12 (S 237 87)) 387 13 (S 237 114)) 387 14 (S 237 115)) 387 15 (S 237 104)) 387 16 (S 237 106)) 387 17 (S 237 108))) (a := 16) (lo := 0) (hi := 17) ⟨by omega, by omega⟩ ⟨by omega, by omega⟩ ⟨by omega, by omega⟩) (fun oq124 Sq124 hp125 q124 => ?_)
        rcases q124 with ⟨rfl, ⟨rfl, hin123⟩ | ⟨rfl, hin123⟩⟩
        · skip
          show wJ _ _ _ _ _ _ _ _ _ _
          refine wa_ifeq (w_rg0 (by omega) (by omega)) ⟨_, rfl⟩ (fun c126 => ?_) (fun c126 => ?_)
          · skip
            exact absurd c126 (by omega)
          · skip
            refine wa_aload_n (n := 2) rfl ?_
            refine wa_iload_n (n := 1) rfl ?_
            refine wb_iald 387 rfl (wy_pr rfl) wt_387 (n := 18) ((w_up_at (by decide)).trans ((w_up_at (by decide)).trans ((w_up_at (by decide)).trans ((w_up_at (by decide)).trans ((w_up_at (by decide)).trans ((w_up_at (by decide)).trans ((w_up_at (by decide)).trans ((w_up_at (by decide)).trans ((w_up_at (by decide)).trans ((w_up_at (by decide)).trans ((w_up_at (by decide)).trans ((w_up_at (by decide)).trans ((w_up_at (by decide)).trans ((w_up_at (by decide)).trans ((w_up_at (by decide)).trans ((w_up_at (by decide)).trans ((w_up_at (by decide)).trans ((w_up_at (by decide)).trans ((w_up_slot (by decide)).trans (h387)))))))))))))))))))) (by omega) (by omega) (v := (S 237 106)) ((w_up_at (by decide)).trans (w_up_same _ _ _ _)) (fun r127 => ?_)
            refine wa_goto ⟨_, rfl⟩ ?_
            refine wa_ireturn rfl ?_
            refine ⟨fun j x j0 j1 => ?_, ?_, congrArg (fun z => Sum.inl (some (0, z))) ?_⟩
            · rcases (show j = 387 ∨ j ≠ 387 by omega) with e | e
              · subst e; rw [j0.resolve_left (fun z => z rfl)]; repeat rw [w_up_no (by omega)]
              · repeat rw [w_up_no (by omega)]
            · repeat rw [w_up_slot (by first | decide | omega)]
              first | exact w_up_same _ _ _ _ | omega
            · unfold cn_r
              repeat (first | rw [if_pos (by omega)] | rw [if_neg (by omega)])
              all_goals first | rfl | omega
        · skip
          show wJ _ _ _ _ _ _ _ _ _ _
          refine wa_ifeq (w_rg0 (by omega) (by omega)) ⟨_, rfl⟩ (fun c128 => ?_) (fun c128 => ?_)
          · skip
            refine wa_iconst ?_
            refine wa_fall ⟨_, rfl⟩ ?_
            refine wa_ireturn rfl ?_
            refine ⟨fun j x j0 j1 => ?_, ?_, congrArg (fun z => Sum.inl (some (0, z))) ?_⟩
            · rcases (show j = 387 ∨ j ≠ 387 by omega) with e | e
              · subst e; rw [j0.resolve_left (fun z => z rfl)]; repeat rw [w_up_no (by omega)]
              · repeat rw [w_up_no (by omega)]
            · repeat rw [w_up_slot (by first | decide | omega)]
              first | exact w_up_same _ _ _ _ | omega
            · unfold cn_r
              repeat (first | rw [if_pos (by omega)] | rw [if_neg (by omega)])
              all_goals first | rfl | omega
          · skip
            exact absurd c128 (by omega)
      · subst e
        refine wa_iload_n (n := 1) rfl ?_
        refine wa_i2l (w_rg0 (by omega) (by omega)) ?_
        refine wa_lconst ?_
        refine wb_kl (n := 17) rfl ?_
        refine wa_cs (M2 := fun _ => False) rfl at_M_in ⟨_, rfl⟩ rfl rfl ⟨(Or.inr ⟨wy_pr rfl, fun q => q⟩), (Or.inr ⟨wy_pr rfl, fun q => q⟩), trivial, trivial⟩ trivial (fun _ _ q => False.elim q) (in_ok (S := (w_up (w_up (w_up (w_up (w_up (w_up (w_up (w_up (w_up (w_up (w_up (w_up (w_up (w_up (w_up (w_up (w_up (w_up (w_up S 237 0 0) 387 0 (S 237 3)) 387 1 (S 241 1)) 387 2 (S 241 11)) 387 3 (S 237 33)) 387 4 (S 237 34)) 387 5 (S 237 43)) 387 6 (S 237 47)) 387 7 (S 237 48)) 387 8 (S 237 16)) 387 9 (S 237 19)) 387 10 (S 237 68)) 387 11 (S 237 69)) 387 12 (S 237 87)) 387 13 (S 237 114)) 387 14 (S 237 115)) 387 15 (S 237 104)) 387 16 (S 237 106)) 387 17 (S 237 108))) (a := 17) (lo := 0) (hi := 17) ⟨by omega, by omega⟩ ⟨by omega, by omega⟩ ⟨by omega, by omega⟩) (fun oq130 Sq130 hp131 q130 => ?_)
        rcases q130 with ⟨rfl, ⟨rfl, hin129⟩ | ⟨rfl, hin129⟩⟩
        · skip
          show wJ _ _ _ _ _ _ _ _ _ _
          refine wa_ifeq (w_rg0 (by omega) (by omega)) ⟨_, rfl⟩ (fun c132 => ?_) (fun c132 => ?_)
          · skip
            exact absurd c132 (by omega)
          · skip
            refine wa_aload_n (n := 2) rfl ?_
            refine wa_iload_n (n := 1) rfl ?_
            refine wb_iald 387 rfl (wy_pr rfl) wt_387 (n := 18) ((w_up_at (by decide)).trans ((w_up_at (by decide)).trans ((w_up_at (by decide)).trans ((w_up_at (by decide)).trans ((w_up_at (by decide)).trans ((w_up_at (by decide)).trans ((w_up_at (by decide)).trans ((w_up_at (by decide)).trans ((w_up_at (by decide)).trans ((w_up_at (by decide)).trans ((w_up_at (by decide)).trans ((w_up_at (by decide)).trans ((w_up_at (by decide)).trans ((w_up_at (by decide)).trans ((w_up_at (by decide)).trans ((w_up_at (by decide)).trans ((w_up_at (by decide)).trans ((w_up_at (by decide)).trans ((w_up_slot (by decide)).trans (h387)))))))))))))))))))) (by omega) (by omega) (v := (S 237 108)) (w_up_same _ _ _ _) (fun r133 => ?_)
            refine wa_goto ⟨_, rfl⟩ ?_
            refine wa_ireturn rfl ?_
            refine ⟨fun j x j0 j1 => ?_, ?_, congrArg (fun z => Sum.inl (some (0, z))) ?_⟩
            · rcases (show j = 387 ∨ j ≠ 387 by omega) with e | e
              · subst e; rw [j0.resolve_left (fun z => z rfl)]; repeat rw [w_up_no (by omega)]
              · repeat rw [w_up_no (by omega)]
            · repeat rw [w_up_slot (by first | decide | omega)]
              first | exact w_up_same _ _ _ _ | omega
            · unfold cn_r
              repeat (first | rw [if_pos (by omega)] | rw [if_neg (by omega)])
              all_goals first | rfl | omega
        · skip
          show wJ _ _ _ _ _ _ _ _ _ _
          refine wa_ifeq (w_rg0 (by omega) (by omega)) ⟨_, rfl⟩ (fun c134 => ?_) (fun c134 => ?_)
          · skip
            refine wa_iconst ?_
            refine wa_fall ⟨_, rfl⟩ ?_
            refine wa_ireturn rfl ?_
            refine ⟨fun j x j0 j1 => ?_, ?_, congrArg (fun z => Sum.inl (some (0, z))) ?_⟩
            · rcases (show j = 387 ∨ j ≠ 387 by omega) with e | e
              · subst e; rw [j0.resolve_left (fun z => z rfl)]; repeat rw [w_up_no (by omega)]
              · repeat rw [w_up_no (by omega)]
            · repeat rw [w_up_slot (by first | decide | omega)]
              first | exact w_up_same _ _ _ _ | omega
            · unfold cn_r
              repeat (first | rw [if_pos (by omega)] | rw [if_neg (by omega)])
              all_goals first | rfl | omega
          · skip
            exact absurd c134 (by omega)
      ·
        refine wa_iload_n (n := 1) rfl ?_
        refine wa_i2l (w_rg0 (by omega) (by omega)) ?_
        refine wa_lconst ?_
        refine wb_kl (n := 17) rfl ?_
        refine wa_cs (M2 := fun _ => False) rfl at_M_in ⟨_, rfl⟩ rfl rfl ⟨(Or.inr ⟨wy_pr rfl, fun q => q⟩), (Or.inr ⟨wy_pr rfl, fun q => q⟩), trivial, trivial⟩ trivial (fun _ _ q => False.elim q) (in_ok (S := (w_up (w_up (w_up (w_up (w_up (w_up (w_up (w_up (w_up (w_up (w_up (w_up (w_up (w_up (w_up (w_up (w_up (w_up (w_up S 237 0 0) 387 0 (S 237 3)) 387 1 (S 241 1)) 387 2 (S 241 11)) 387 3 (S 237 33)) 387 4 (S 237 34)) 387 5 (S 237 43)) 387 6 (S 237 47)) 387 7 (S 237 48)) 387 8 (S 237 16)) 387 9 (S 237 19)) 387 10 (S 237 68)) 387 11 (S 237 69)) 387 12 (S 237 87)) 387 13 (S 237 114)) 387 14 (S 237 115)) 387 15 (S 237 104)) 387 16 (S 237 106)) 387 17 (S 237 108))) (a := wh) (lo := 0) (hi := 17) ⟨by omega, by omega⟩ ⟨by omega, by omega⟩ ⟨by omega, by omega⟩) (fun oq136 Sq136 hp137 q136 => ?_)
        rcases q136 with ⟨rfl, ⟨rfl, hin135⟩ | ⟨rfl, hin135⟩⟩
        · skip
          show wJ _ _ _ _ _ _ _ _ _ _
          refine wa_ifeq (w_rg0 (by omega) (by omega)) ⟨_, rfl⟩ (fun c138 => ?_) (fun c138 => ?_)
          · skip
            exact absurd c138 (by omega)
          · skip
            refine wa_aload_n (n := 2) rfl ?_
            refine wa_iload_n (n := 1) rfl ?_
            refine wb_iald 387 rfl (wy_pr rfl) wt_387 (n := 18) ((w_up_at (by decide)).trans ((w_up_at (by decide)).trans ((w_up_at (by decide)).trans ((w_up_at (by decide)).trans ((w_up_at (by decide)).trans ((w_up_at (by decide)).trans ((w_up_at (by decide)).trans ((w_up_at (by decide)).trans ((w_up_at (by decide)).trans ((w_up_at (by decide)).trans ((w_up_at (by decide)).trans ((w_up_at (by decide)).trans ((w_up_at (by decide)).trans ((w_up_at (by decide)).trans ((w_up_at (by decide)).trans ((w_up_at (by decide)).trans ((w_up_at (by decide)).trans ((w_up_at (by decide)).trans ((w_up_slot (by decide)).trans (h387)))))))))))))))))))) (by omega) (by omega) (v := ((w_up (w_up (w_up (w_up (w_up (w_up (w_up (w_up (w_up (w_up (w_up (w_up (w_up (w_up (w_up (w_up (w_up (w_up (w_up S 237 0 0) 387 0 (S 237 3)) 387 1 (S 241 1)) 387 2 (S 241 11)) 387 3 (S 237 33)) 387 4 (S 237 34)) 387 5 (S 237 43)) 387 6 (S 237 47)) 387 7 (S 237 48)) 387 8 (S 237 16)) 387 9 (S 237 19)) 387 10 (S 237 68)) 387 11 (S 237 69)) 387 12 (S 237 87)) 387 13 (S 237 114)) 387 14 (S 237 115)) 387 15 (S 237 104)) 387 16 (S 237 106)) 387 17 (S 237 108)) 387 wh)) rfl (fun r139 => ?_)
            refine wa_goto ⟨_, rfl⟩ ?_
            refine wa_ireturn rfl ?_
            refine ⟨fun j x j0 j1 => ?_, ?_, congrArg (fun z => Sum.inl (some (0, z))) ?_⟩
            · rcases (show j = 387 ∨ j ≠ 387 by omega) with e | e
              · subst e; rw [j0.resolve_left (fun z => z rfl)]; repeat rw [w_up_no (by omega)]
              · repeat rw [w_up_no (by omega)]
            · repeat rw [w_up_slot (by first | decide | omega)]
              first | exact w_up_same _ _ _ _ | omega
            · unfold cn_r
              repeat (first | rw [if_pos (by omega)] | rw [if_neg (by omega)])
              all_goals first | rfl | omega
        · skip
          show wJ _ _ _ _ _ _ _ _ _ _
          refine wa_ifeq (w_rg0 (by omega) (by omega)) ⟨_, rfl⟩ (fun c140 => ?_) (fun c140 => ?_)
          · skip
            refine wa_iconst ?_
            refine wa_fall ⟨_, rfl⟩ ?_
            refine wa_ireturn rfl ?_
            refine ⟨fun j x j0 j1 => ?_, ?_, congrArg (fun z => Sum.inl (some (0, z))) ?_⟩
            · rcases (show j = 387 ∨ j ≠ 387 by omega) with e | e
              · subst e; rw [j0.resolve_left (fun z => z rfl)]; repeat rw [w_up_no (by omega)]
              · repeat rw [w_up_no (by omega)]
            · repeat rw [w_up_slot (by first | decide | omega)]
              first | exact w_up_same _ _ _ _ | omega
            · unfold cn_r
              repeat (first | rw [if_pos (by omega)] | rw [if_neg (by omega)])
              all_goals first | rfl | omega
          · skip
            exact absurd c140 (by omega)
      ·
        refine wa_iload_n (n := 1) rfl ?_
        refine wa_i2l (w_rg0 (by omega) (by omega)) ?_
        refine wa_lconst ?_
        refine wb_kl (n := 17) rfl ?_
        refine wa_cs (M2 := fun _ => False) rfl at_M_in ⟨_, rfl⟩ rfl rfl ⟨(Or.inr ⟨wy_pr rfl, fun q => q⟩), (Or.inr ⟨wy_pr rfl, fun q => q⟩), trivial, trivial⟩ trivial (fun _ _ q => False.elim q) (in_ok (S := (w_up (w_up (w_up (w_up (w_up (w_up (w_up (w_up (w_up (w_up (w_up (w_up (w_up (w_up (w_up (w_up (w_up (w_up (w_up S 237 0 0) 387 0 (S 237 3)) 387 1 (S 241 1)) 387 2 (S 241 11)) 387 3 (S 237 33)) 387 4 (S 237 34)) 387 5 (S 237 43)) 387 6 (S 237 47)) 387 7 (S 237 48)) 387 8 (S 237 16)) 387 9 (S 237 19)) 387 10 (S 237 68)) 387 11 (S 237 69)) 387 12 (S 237 87)) 387 13 (S 237 114)) 387 14 (S 237 115)) 387 15 (S 237 104)) 387 16 (S 237 106)) 387 17 (S 237 108))) (a := wh) (lo := 0) (hi := 17) ⟨by omega, by omega⟩ ⟨by omega, by omega⟩ ⟨by omega, by omega⟩) (fun oq142 Sq142 hp143 q142 => ?_)
        rcases q142 with ⟨rfl, ⟨rfl, hin141⟩ | ⟨rfl, hin141⟩⟩
        · skip
          show wJ _ _ _ _ _ _ _ _ _ _
          refine wa_ifeq (w_rg0 (by omega) (by omega)) ⟨_, rfl⟩ (fun c144 => ?_) (fun c144 => ?_)
          · skip
            exact absurd c144 (by omega)
          · skip
            refine wa_aload_n (n := 2) rfl ?_
            refine wa_iload_n (n := 1) rfl ?_
            refine wb_iald 387 rfl (wy_pr rfl) wt_387 (n := 18) ((w_up_at (by decide)).trans ((w_up_at (by decide)).trans ((w_up_at (by decide)).trans ((w_up_at (by decide)).trans ((w_up_at (by decide)).trans ((w_up_at (by decide)).trans ((w_up_at (by decide)).trans ((w_up_at (by decide)).trans ((w_up_at (by decide)).trans ((w_up_at (by decide)).trans ((w_up_at (by decide)).trans ((w_up_at (by decide)).trans ((w_up_at (by decide)).trans ((w_up_at (by decide)).trans ((w_up_at (by decide)).trans ((w_up_at (by decide)).trans ((w_up_at (by decide)).trans ((w_up_at (by decide)).trans ((w_up_slot (by decide)).trans (h387)))))))))))))))))))) (by omega) (by omega) (v := ((w_up (w_up (w_up (w_up (w_up (w_up (w_up (w_up (w_up (w_up (w_up (w_up (w_up (w_up (w_up (w_up (w_up (w_up (w_up S 237 0 0) 387 0 (S 237 3)) 387 1 (S 241 1)) 387 2 (S 241 11)) 387 3 (S 237 33)) 387 4 (S 237 34)) 387 5 (S 237 43)) 387 6 (S 237 47)) 387 7 (S 237 48)) 387 8 (S 237 16)) 387 9 (S 237 19)) 387 10 (S 237 68)) 387 11 (S 237 69)) 387 12 (S 237 87)) 387 13 (S 237 114)) 387 14 (S 237 115)) 387 15 (S 237 104)) 387 16 (S 237 106)) 387 17 (S 237 108)) 387 wh)) rfl (fun r145 => ?_)
            refine wa_goto ⟨_, rfl⟩ ?_
            refine wa_ireturn rfl ?_
            refine ⟨fun j x j0 j1 => ?_, ?_, congrArg (fun z => Sum.inl (some (0, z))) ?_⟩
            · rcases (show j = 387 ∨ j ≠ 387 by omega) with e | e
              · subst e; rw [j0.resolve_left (fun z => z rfl)]; repeat rw [w_up_no (by omega)]
              · repeat rw [w_up_no (by omega)]
            · repeat rw [w_up_slot (by first | decide | omega)]
              first | exact w_up_same _ _ _ _ | omega
            · unfold cn_r
              repeat (first | rw [if_pos (by omega)] | rw [if_neg (by omega)])
              all_goals first | rfl | omega
        · skip
          show wJ _ _ _ _ _ _ _ _ _ _
          refine wa_ifeq (w_rg0 (by omega) (by omega)) ⟨_, rfl⟩ (fun c146 => ?_) (fun c146 => ?_)
          · skip
            refine wa_iconst ?_
            refine wa_fall ⟨_, rfl⟩ ?_
            refine wa_ireturn rfl ?_
            refine ⟨fun j x j0 j1 => ?_, ?_, congrArg (fun z => Sum.inl (some (0, z))) ?_⟩
            · rcases (show j = 387 ∨ j ≠ 387 by omega) with e | e
              · subst e; rw [j0.resolve_left (fun z => z rfl)]; repeat rw [w_up_no (by omega)]
              · repeat rw [w_up_no (by omega)]
            · repeat rw [w_up_slot (by first | decide | omega)]
              first | exact w_up_same _ _ _ _ | omega
            · unfold cn_r
              repeat (first | rw [if_pos (by omega)] | rw [if_neg (by omega)])
              all_goals first | rfl | omega
          · skip
            exact absurd c146 (by omega)
    · skip
      exact absurd c26 (by omega)
set_option maxHeartbeats 4000000 in
theorem mcn_261 {wh : Int} (hM : w_ML S) (h13 : S 237 13 = 261) (h387 : S 387 (-1) = 18) (hwh : -2147483648 ≤ wh ∧ wh ≤ 2147483647) : wJ (pe_GA xs) wY0 M (d + 1) t_M_count ((pe_at t_M_count.bl 0).getD (0, [])).2 [(0, (2, 237)), (1, (0, wh))] [] S (fun o Z => (∀ (j : Nat) (x : Int), (j ≠ 387 ∨ x = -1) → (j ≠ 237 ∨ x ≠ 0) → Z j x = S j x) ∧ Z 237 0 = 0 ∧ o = .inl (some (0, cn_r 261 S wh))) := by
  refine wa_aload_n (n := 0) rfl ?_
  refine wa_iconst ?_
  refine wb_pfi 237 rfl (wy_pr rfl) wt_237 wf_15_0 (n := 0) rfl ⟨(by omega), (by omega)⟩ ?_
  refine wa_aload_n (n := 0) rfl ?_
  refine wb_gf4 237 rfl (wy_pr rfl) wt_237 wf_15_179 (v := 387) wl_237_179 ?_
  refine wa_astore_n (n := 2) rfl ?_
  refine wa_aload_n (n := 2) rfl ?_
  refine wa_iconst ?_
  refine wa_aload_n (n := 0) rfl ?_
  refine wb_gfi 237 rfl (wy_pr rfl) wt_237 wf_15_3 (v := (S 237 3)) (w_up_at (by decide)) (fun r1 => ?_)
  refine wb_iast 387 rfl (wy_pr rfl) wt_387 (n := 18) ((w_up_slot (by decide)).trans (h387)) (by omega) (by omega) ⟨(by omega), (by omega)⟩ ?_
  refine wa_aload_n (n := 2) rfl ?_
  refine wa_iconst ?_
  refine wa_aload_n (n := 0) rfl ?_
  refine wb_gf5 237 rfl (wy_pr rfl) wt_237 wf_15_13 (v := 261) ((w_up_slot (by decide)).trans ((w_up_at (by decide)).trans (h13))) (fun r2 => ?_)
  refine wb_gfi 261 rfl (wy_pr rfl) wt_261 wf_12_1 (v := (S 261 1)) ((w_up_slot (by decide)).trans (w_up_slot (by decide))) (fun r3 => ?_)
  refine wb_iast 387 rfl (wy_pr rfl) wt_387 (n := 18) ((w_up_at (by decide)).trans ((w_up_slot (by decide)).trans (h387))) (by omega) (by omega) ⟨(by omega), (by omega)⟩ ?_
  refine wa_aload_n (n := 2) rfl ?_
  refine wa_iconst ?_
  refine wa_aload_n (n := 0) rfl ?_
  refine wb_gf5 237 rfl (wy_pr rfl) wt_237 wf_15_13 (v := 261) ((w_up_slot (by decide)).trans ((w_up_slot (by decide)).trans ((w_up_at (by decide)).trans (h13)))) (fun r4 => ?_)
  refine wb_gfi 261 rfl (wy_pr rfl) wt_261 wf_12_11 (v := (S 261 11)) ((w_up_slot (by decide)).trans ((w_up_slot (by decide)).trans (w_up_slot (by decide)))) (fun r5 => ?_)
  refine wb_iast 387 rfl (wy_pr rfl) wt_387 (n := 18) ((w_up_at (by decide)).trans ((w_up_at (by decide)).trans ((w_up_slot (by decide)).trans (h387)))) (by omega) (by omega) ⟨(by omega), (by omega)⟩ ?_
  refine wa_aload_n (n := 2) rfl ?_
  refine wa_iconst ?_
  refine wa_aload_n (n := 0) rfl ?_
  refine wb_gfi 237 rfl (wy_pr rfl) wt_237 wf_15_33 (v := (S 237 33)) ((w_up_slot (by decide)).trans ((w_up_slot (by decide)).trans ((w_up_slot (by decide)).trans (w_up_at (by decide))))) (fun r6 => ?_)
  refine wb_iast 387 rfl (wy_pr rfl) wt_387 (n := 18) ((w_up_at (by decide)).trans ((w_up_at (by decide)).trans ((w_up_at (by decide)).trans ((w_up_slot (by decide)).trans (h387))))) (by omega) (by omega) ⟨(by omega), (by omega)⟩ ?_
  refine wa_aload_n (n := 2) rfl ?_
  refine wa_iconst ?_
  refine wa_aload_n (n := 0) rfl ?_
  refine wb_gfi 237 rfl (wy_pr rfl) wt_237 wf_15_34 (v := (S 237 34)) ((w_up_slot (by decide)).trans ((w_up_slot (by decide)).trans ((w_up_slot (by decide)).trans ((w_up_slot (by decide)).trans (w_up_at (by decide)))))) (fun r7 => ?_)
  refine wb_iast 387 rfl (wy_pr rfl) wt_387 (n := 18) ((w_up_at (by decide)).trans ((w_up_at (by decide)).trans ((w_up_at (by decide)).trans ((w_up_at (by decide)).trans ((w_up_slot (by decide)).trans (h387)))))) (by omega) (by omega) ⟨(by omega), (by omega)⟩ ?_
  refine wa_aload_n (n := 2) rfl ?_
  refine wa_iconst ?_
  refine wa_aload_n (n := 0) rfl ?_
  refine wb_gfi 237 rfl (wy_pr rfl) wt_237 wf_15_43 (v := (S 237 43)) ((w_up_slot (by decide)).trans ((w_up_slot (by decide)).trans ((w_up_slot (by decide)).trans ((w_up_slot (by decide)).trans ((w_up_slot (by decide)).trans (w_up_at (by decide))))))) (fun r8 => ?_)
  refine wb_iast 387 rfl (wy_pr rfl) wt_387 (n := 18) ((w_up_at (by decide)).trans ((w_up_at (by decide)).trans ((w_up_at (by decide)).trans ((w_up_at (by decide)).trans ((w_up_at (by decide)).trans ((w_up_slot (by decide)).trans (h387))))))) (by omega) (by omega) ⟨(by omega), (by omega)⟩ ?_
  refine wa_aload_n (n := 2) rfl ?_
  refine wa_bipush (w_rg2 (by omega) (by omega)) ?_
  refine wa_fall ⟨_, rfl⟩ ?_
  refine wa_aload_n (n := 0) rfl ?_
  refine wb_gfi 237 rfl (wy_pr rfl) wt_237 wf_15_47 (v := (S 237 47)) ((w_up_slot (by decide)).trans ((w_up_slot (by decide)).trans ((w_up_slot (by decide)).trans ((w_up_slot (by decide)).trans ((w_up_slot (by decide)).trans ((w_up_slot (by decide)).trans (w_up_at (by decide)))))))) (fun r9 => ?_)
  refine wb_iast 387 rfl (wy_pr rfl) wt_387 (n := 18) ((w_up_at (by decide)).trans ((w_up_at (by decide)).trans ((w_up_at (by decide)).trans ((w_up_at (by decide)).trans ((w_up_at (by decide)).trans ((w_up_at (by decide)).trans ((w_up_slot (by decide)).trans (h387)))))))) (by omega) (by omega) ⟨(by omega), (by omega)⟩ ?_
  refine wa_aload_n (n := 2) rfl ?_
  refine wa_bipush (w_rg2 (by omega) (by omega)) ?_
  refine wa_aload_n (n := 0) rfl ?_
  refine wb_gfi 237 rfl (wy_pr rfl) wt_237 wf_15_48 (v := (S 237 48)) ((w_up_slot (by decide)).trans ((w_up_slot (by decide)).trans ((w_up_slot (by decide)).trans ((w_up_slot (by decide)).trans ((w_up_slot (by decide)).trans ((w_up_slot (by decide)).trans ((w_up_slot (by decide)).trans (w_up_at (by decide))))))))) (fun r10 => ?_)
  refine wb_iast 387 rfl (wy_pr rfl) wt_387 (n := 18) ((w_up_at (by decide)).trans ((w_up_at (by decide)).trans ((w_up_at (by decide)).trans ((w_up_at (by decide)).trans ((w_up_at (by decide)).trans ((w_up_at (by decide)).trans ((w_up_at (by decide)).trans ((w_up_slot (by decide)).trans (h387))))))))) (by omega) (by omega) ⟨(by omega), (by omega)⟩ ?_
  refine wa_aload_n (n := 2) rfl ?_
  refine wa_bipush (w_rg2 (by omega) (by omega)) ?_
  refine wa_aload_n (n := 0) rfl ?_
  refine wb_gfi 237 rfl (wy_pr rfl) wt_237 wf_15_16 (v := (S 237 16)) ((w_up_slot (by decide)).trans ((w_up_slot (by decide)).trans ((w_up_slot (by decide)).trans ((w_up_slot (by decide)).trans ((w_up_slot (by decide)).trans ((w_up_slot (by decide)).trans ((w_up_slot (by decide)).trans ((w_up_slot (by decide)).trans (w_up_at (by decide)))))))))) (fun r11 => ?_)
  refine wb_iast 387 rfl (wy_pr rfl) wt_387 (n := 18) ((w_up_at (by decide)).trans ((w_up_at (by decide)).trans ((w_up_at (by decide)).trans ((w_up_at (by decide)).trans ((w_up_at (by decide)).trans ((w_up_at (by decide)).trans ((w_up_at (by decide)).trans ((w_up_at (by decide)).trans ((w_up_slot (by decide)).trans (h387)))))))))) (by omega) (by omega) ⟨(by omega), (by omega)⟩ ?_
  refine wa_aload_n (n := 2) rfl ?_
  refine wa_bipush (w_rg2 (by omega) (by omega)) ?_
  refine wa_aload_n (n := 0) rfl ?_
  refine wb_gfi 237 rfl (wy_pr rfl) wt_237 wf_15_19 (v := (S 237 19)) ((w_up_slot (by decide)).trans ((w_up_slot (by decide)).trans ((w_up_slot (by decide)).trans ((w_up_slot (by decide)).trans ((w_up_slot (by decide)).trans ((w_up_slot (by decide)).trans ((w_up_slot (by decide)).trans ((w_up_slot (by decide)).trans ((w_up_slot (by decide)).trans (w_up_at (by decide))))))))))) (fun r12 => ?_)
  refine wb_iast 387 rfl (wy_pr rfl) wt_387 (n := 18) ((w_up_at (by decide)).trans ((w_up_at (by decide)).trans ((w_up_at (by decide)).trans ((w_up_at (by decide)).trans ((w_up_at (by decide)).trans ((w_up_at (by decide)).trans ((w_up_at (by decide)).trans ((w_up_at (by decide)).trans ((w_up_at (by decide)).trans ((w_up_slot (by decide)).trans (h387))))))))))) (by omega) (by omega) ⟨(by omega), (by omega)⟩ ?_
  refine wa_aload_n (n := 2) rfl ?_
  refine wa_bipush (w_rg2 (by omega) (by omega)) ?_
  refine wa_aload_n (n := 0) rfl ?_
  refine wb_gfi 237 rfl (wy_pr rfl) wt_237 wf_15_68 (v := (S 237 68)) ((w_up_slot (by decide)).trans ((w_up_slot (by decide)).trans ((w_up_slot (by decide)).trans ((w_up_slot (by decide)).trans ((w_up_slot (by decide)).trans ((w_up_slot (by decide)).trans ((w_up_slot (by decide)).trans ((w_up_slot (by decide)).trans ((w_up_slot (by decide)).trans ((w_up_slot (by decide)).trans (w_up_at (by decide)))))))))))) (fun r13 => ?_)
  refine wb_iast 387 rfl (wy_pr rfl) wt_387 (n := 18) ((w_up_at (by decide)).trans ((w_up_at (by decide)).trans ((w_up_at (by decide)).trans ((w_up_at (by decide)).trans ((w_up_at (by decide)).trans ((w_up_at (by decide)).trans ((w_up_at (by decide)).trans ((w_up_at (by decide)).trans ((w_up_at (by decide)).trans ((w_up_at (by decide)).trans ((w_up_slot (by decide)).trans (h387)))))))))))) (by omega) (by omega) ⟨(by omega), (by omega)⟩ ?_
  refine wa_aload_n (n := 2) rfl ?_
  refine wa_bipush (w_rg2 (by omega) (by omega)) ?_
  refine wa_aload_n (n := 0) rfl ?_
  refine wb_gfi 237 rfl (wy_pr rfl) wt_237 wf_15_69 (v := (S 237 69)) ((w_up_slot (by decide)).trans ((w_up_slot (by decide)).trans ((w_up_slot (by decide)).trans ((w_up_slot (by decide)).trans ((w_up_slot (by decide)).trans ((w_up_slot (by decide)).trans ((w_up_slot (by decide)).trans ((w_up_slot (by decide)).trans ((w_up_slot (by decide)).trans ((w_up_slot (by decide)).trans ((w_up_slot (by decide)).trans (w_up_at (by decide))))))))))))) (fun r14 => ?_)
  refine wb_iast 387 rfl (wy_pr rfl) wt_387 (n := 18) ((w_up_at (by decide)).trans ((w_up_at (by decide)).trans ((w_up_at (by decide)).trans ((w_up_at (by decide)).trans ((w_up_at (by decide)).trans ((w_up_at (by decide)).trans ((w_up_at (by decide)).trans ((w_up_at (by decide)).trans ((w_up_at (by decide)).trans ((w_up_at (by decide)).trans ((w_up_at (by decide)).trans ((w_up_slot (by decide)).trans (h387))))))))))))) (by omega) (by omega) ⟨(by omega), (by omega)⟩ ?_
  refine wa_aload_n (n := 2) rfl ?_
  refine wa_bipush (w_rg2 (by omega) (by omega)) ?_
  refine wa_aload_n (n := 0) rfl ?_
  refine wb_gfi 237 rfl (wy_pr rfl) wt_237 wf_15_87 (v := (S 237 87)) ((w_up_slot (by decide)).trans ((w_up_slot (by decide)).trans ((w_up_slot (by decide)).trans ((w_up_slot (by decide)).trans ((w_up_slot (by decide)).trans ((w_up_slot (by decide)).trans ((w_up_slot (by decide)).trans ((w_up_slot (by decide)).trans ((w_up_slot (by decide)).trans ((w_up_slot (by decide)).trans ((w_up_slot (by decide)).trans ((w_up_slot (by decide)).trans (w_up_at (by decide)))))))))))))) (fun r15 => ?_)
  refine wb_iast 387 rfl (wy_pr rfl) wt_387 (n := 18) ((w_up_at (by decide)).trans ((w_up_at (by decide)).trans ((w_up_at (by decide)).trans ((w_up_at (by decide)).trans ((w_up_at (by decide)).trans ((w_up_at (by decide)).trans ((w_up_at (by decide)).trans ((w_up_at (by decide)).trans ((w_up_at (by decide)).trans ((w_up_at (by decide)).trans ((w_up_at (by decide)).trans ((w_up_at (by decide)).trans ((w_up_slot (by decide)).trans (h387)))))))))))))) (by omega) (by omega) ⟨(by omega), (by omega)⟩ ?_
  refine wa_aload_n (n := 2) rfl ?_
  refine wa_bipush (w_rg2 (by omega) (by omega)) ?_
  refine wa_aload_n (n := 0) rfl ?_
  refine wb_gfi 237 rfl (wy_pr rfl) wt_237 wf_15_114 (v := (S 237 114)) ((w_up_slot (by decide)).trans ((w_up_slot (by decide)).trans ((w_up_slot (by decide)).trans ((w_up_slot (by decide)).trans ((w_up_slot (by decide)).trans ((w_up_slot (by decide)).trans ((w_up_slot (by decide)).trans ((w_up_slot (by decide)).trans ((w_up_slot (by decide)).trans ((w_up_slot (by decide)).trans ((w_up_slot (by decide)).trans ((w_up_slot (by decide)).trans ((w_up_slot (by decide)).trans (w_up_at (by decide))))))))))))))) (fun r16 => ?_)
  refine wb_iast 387 rfl (wy_pr rfl) wt_387 (n := 18) ((w_up_at (by decide)).trans ((w_up_at (by decide)).trans ((w_up_at (by decide)).trans ((w_up_at (by decide)).trans ((w_up_at (by decide)).trans ((w_up_at (by decide)).trans ((w_up_at (by decide)).trans ((w_up_at (by decide)).trans ((w_up_at (by decide)).trans ((w_up_at (by decide)).trans ((w_up_at (by decide)).trans ((w_up_at (by decide)).trans ((w_up_at (by decide)).trans ((w_up_slot (by decide)).trans (h387))))))))))))))) (by omega) (by omega) ⟨(by omega), (by omega)⟩ ?_
  refine wa_aload_n (n := 2) rfl ?_
  refine wa_bipush (w_rg2 (by omega) (by omega)) ?_
  refine wa_fall ⟨_, rfl⟩ ?_
  refine wa_aload_n (n := 0) rfl ?_
  refine wb_gfi 237 rfl (wy_pr rfl) wt_237 wf_15_115 (v := (S 237 115)) ((w_up_slot (by decide)).trans ((w_up_slot (by decide)).trans ((w_up_slot (by decide)).trans ((w_up_slot (by decide)).trans ((w_up_slot (by decide)).trans ((w_up_slot (by decide)).trans ((w_up_slot (by decide)).trans ((w_up_slot (by decide)).trans ((w_up_slot (by decide)).trans ((w_up_slot (by decide)).trans ((w_up_slot (by decide)).trans ((w_up_slot (by decide)).trans ((w_up_slot (by decide)).trans ((w_up_slot (by decide)).trans (w_up_at (by decide)))))))))))))))) (fun r17 => ?_)
  refine wb_iast 387 rfl (wy_pr rfl) wt_387 (n := 18) ((w_up_at (by decide)).trans ((w_up_at (by decide)).trans ((w_up_at (by decide)).trans ((w_up_at (by decide)).trans ((w_up_at (by decide)).trans ((w_up_at (by decide)).trans ((w_up_at (by decide)).trans ((w_up_at (by decide)).trans ((w_up_at (by decide)).trans ((w_up_at (by decide)).trans ((w_up_at (by decide)).trans ((w_up_at (by decide)).trans ((w_up_at (by decide)).trans ((w_up_at (by decide)).trans ((w_up_slot (by decide)).trans (h387)))))))))))))))) (by omega) (by omega) ⟨(by omega), (by omega)⟩ ?_
  refine wa_aload_n (n := 2) rfl ?_
  refine wa_bipush (w_rg2 (by omega) (by omega)) ?_
  refine wa_aload_n (n := 0) rfl ?_
  refine wb_gfi 237 rfl (wy_pr rfl) wt_237 wf_15_104 (v := (S 237 104)) ((w_up_slot (by decide)).trans ((w_up_slot (by decide)).trans ((w_up_slot (by decide)).trans ((w_up_slot (by decide)).trans ((w_up_slot (by decide)).trans ((w_up_slot (by decide)).trans ((w_up_slot (by decide)).trans ((w_up_slot (by decide)).trans ((w_up_slot (by decide)).trans ((w_up_slot (by decide)).trans ((w_up_slot (by decide)).trans ((w_up_slot (by decide)).trans ((w_up_slot (by decide)).trans ((w_up_slot (by decide)).trans ((w_up_slot (by decide)).trans (w_up_at (by decide))))))))))))))))) (fun r18 => ?_)
  refine wb_iast 387 rfl (wy_pr rfl) wt_387 (n := 18) ((w_up_at (by decide)).trans ((w_up_at (by decide)).trans ((w_up_at (by decide)).trans ((w_up_at (by decide)).trans ((w_up_at (by decide)).trans ((w_up_at (by decide)).trans ((w_up_at (by decide)).trans ((w_up_at (by decide)).trans ((w_up_at (by decide)).trans ((w_up_at (by decide)).trans ((w_up_at (by decide)).trans ((w_up_at (by decide)).trans ((w_up_at (by decide)).trans ((w_up_at (by decide)).trans ((w_up_at (by decide)).trans ((w_up_slot (by decide)).trans (h387))))))))))))))))) (by omega) (by omega) ⟨(by omega), (by omega)⟩ ?_
  refine wa_aload_n (n := 2) rfl ?_
  refine wa_bipush (w_rg2 (by omega) (by omega)) ?_
  refine wa_aload_n (n := 0) rfl ?_
  refine wb_gfi 237 rfl (wy_pr rfl) wt_237 wf_15_106 (v := (S 237 106)) ((w_up_slot (by decide)).trans ((w_up_slot (by decide)).trans ((w_up_slot (by decide)).trans ((w_up_slot (by decide)).trans ((w_up_slot (by decide)).trans ((w_up_slot (by decide)).trans ((w_up_slot (by decide)).trans ((w_up_slot (by decide)).trans ((w_up_slot (by decide)).trans ((w_up_slot (by decide)).trans ((w_up_slot (by decide)).trans ((w_up_slot (by decide)).trans ((w_up_slot (by decide)).trans ((w_up_slot (by decide)).trans ((w_up_slot (by decide)).trans ((w_up_slot (by decide)).trans (w_up_at (by decide)))))))))))))))))) (fun r19 => ?_)
  refine wb_iast 387 rfl (wy_pr rfl) wt_387 (n := 18) ((w_up_at (by decide)).trans ((w_up_at (by decide)).trans ((w_up_at (by decide)).trans ((w_up_at (by decide)).trans ((w_up_at (by decide)).trans ((w_up_at (by decide)).trans ((w_up_at (by decide)).trans ((w_up_at (by decide)).trans ((w_up_at (by decide)).trans ((w_up_at (by decide)).trans ((w_up_at (by decide)).trans ((w_up_at (by decide)).trans ((w_up_at (by decide)).trans ((w_up_at (by decide)).trans ((w_up_at (by decide)).trans ((w_up_at (by decide)).trans ((w_up_slot (by decide)).trans (h387)))))))))))))))))) (by omega) (by omega) ⟨(by omega), (by omega)⟩ ?_
  refine wa_aload_n (n := 2) rfl ?_
  refine wa_bipush (w_rg2 (by omega) (by omega)) ?_
  refine wa_aload_n (n := 0) rfl ?_
  refine wb_gfi 237 rfl (wy_pr rfl) wt_237 wf_15_108 (v := (S 237 108)) ((w_up_slot (by decide)).trans ((w_up_slot (by decide)).trans ((w_up_slot (by decide)).trans ((w_up_slot (by decide)).trans ((w_up_slot (by decide)).trans ((w_up_slot (by decide)).trans ((w_up_slot (by decide)).trans ((w_up_slot (by decide)).trans ((w_up_slot (by decide)).trans ((w_up_slot (by decide)).trans ((w_up_slot (by decide)).trans ((w_up_slot (by decide)).trans ((w_up_slot (by decide)).trans ((w_up_slot (by decide)).trans ((w_up_slot (by decide)).trans ((w_up_slot (by decide)).trans ((w_up_slot (by decide)).trans (w_up_at (by decide))))))))))))))))))) (fun r20 => ?_)
  refine wb_iast 387 rfl (wy_pr rfl) wt_387 (n := 18) ((w_up_at (by decide)).trans ((w_up_at (by decide)).trans ((w_up_at (by decide)).trans ((w_up_at (by decide)).trans ((w_up_at (by decide)).trans ((w_up_at (by decide)).trans ((w_up_at (by decide)).trans ((w_up_at (by decide)).trans ((w_up_at (by decide)).trans ((w_up_at (by decide)).trans ((w_up_at (by decide)).trans ((w_up_at (by decide)).trans ((w_up_at (by decide)).trans ((w_up_at (by decide)).trans ((w_up_at (by decide)).trans ((w_up_at (by decide)).trans ((w_up_at (by decide)).trans ((w_up_slot (by decide)).trans (h387))))))))))))))))))) (by omega) (by omega) ⟨(by omega), (by omega)⟩ ?_
  refine wa_iload_n (n := 1) rfl ?_
  refine wa_i2l (w_rg0 (by omega) (by omega)) ?_
  refine wb_kl (n := 20) rfl ?_
  refine wb_kl (n := 23) rfl ?_
  refine wa_cs (M2 := fun _ => False) rfl at_M_in ⟨_, rfl⟩ rfl rfl ⟨(Or.inr ⟨wy_pr rfl, fun q => q⟩), (Or.inr ⟨wy_pr rfl, fun q => q⟩), trivial, trivial⟩ trivial (fun _ _ q => False.elim q) (in_ok (S := (w_up (w_up (w_up (w_up (w_up (w_up (w_up (w_up (w_up (w_up (w_up (w_up (w_up (w_up (w_up (w_up (w_up (w_up (w_up S 237 0 0) 387 0 (S 237 3)) 387 1 (S 261 1)) 387 2 (S 261 11)) 387 3 (S 237 33)) 387 4 (S 237 34)) 387 5 (S 237 43)) 387 6 (S 237 47)) 387 7 (S 237 48)) 387 8 (S 237 16)) 387 9 (S 237 19)) 387 10 (S 237 68)) 387 11 (S 237 69)) 387 12 (S 237 87)) 387 13 (S 237 114)) 387 14 (S 237 115)) 387 15 (S 237 104)) 387 16 (S 237 106)) 387 17 (S 237 108))) (a := wh) (lo := 20) (hi := 23) ⟨by omega, by omega⟩ ⟨by omega, by omega⟩ ⟨by omega, by omega⟩) (fun oq22 Sq22 hp23 q22 => ?_)
  rcases q22 with ⟨rfl, ⟨rfl, hin21⟩ | ⟨rfl, hin21⟩⟩
  · skip
    show wJ _ _ _ _ _ _ _ _ _ _
    refine wa_ifeq (w_rg0 (by omega) (by omega)) ⟨_, rfl⟩ (fun c24 => ?_) (fun c24 => ?_)
    · skip
      exact absurd c24 (by omega)
    · skip
      refine wa_aload_n (n := 0) rfl ?_
      refine wb_gf4 237 rfl (wy_pr rfl) wt_237 wf_15_109 (v := 344) wl_237_109 ?_
      refine wa_iload_n (n := 1) rfl ?_
      refine wa_bipush (w_rg2 (by omega) (by omega)) ?_
      refine wa_isub ?_
      refine wb_iald 344 rfl (wy_pr rfl) wt_344 (n := 4) ((w_up_slot (by decide)).trans ((w_up_slot (by decide)).trans ((w_up_slot (by decide)).trans ((w_up_slot (by decide)).trans ((w_up_slot (by decide)).trans ((w_up_slot (by decide)).trans ((w_up_slot (by decide)).trans ((w_up_slot (by decide)).trans ((w_up_slot (by decide)).trans ((w_up_slot (by decide)).trans ((w_up_slot (by decide)).trans ((w_up_slot (by decide)).trans ((w_up_slot (by decide)).trans ((w_up_slot (by decide)).trans ((w_up_slot (by decide)).trans ((w_up_slot (by decide)).trans ((w_up_slot (by decide)).trans ((w_up_slot (by decide)).trans ((w_up_slot (by decide)).trans ((ml_344 hM))))))))))))))))))))) (by omega) (by omega) (v := (S 344 (wh - 20))) ((w_up_slot (by decide)).trans ((w_up_slot (by decide)).trans ((w_up_slot (by decide)).trans ((w_up_slot (by decide)).trans ((w_up_slot (by decide)).trans ((w_up_slot (by decide)).trans ((w_up_slot (by decide)).trans ((w_up_slot (by decide)).trans ((w_up_slot (by decide)).trans ((w_up_slot (by decide)).trans ((w_up_slot (by decide)).trans ((w_up_slot (by decide)).trans ((w_up_slot (by decide)).trans ((w_up_slot (by decide)).trans ((w_up_slot (by decide)).trans ((w_up_slot (by decide)).trans ((w_up_slot (by decide)).trans ((w_up_slot (by decide)).trans (w_up_slot (by decide)))))))))))))))))))) (fun r25 => ?_)
      refine wa_ireturn rfl ?_
      refine ⟨fun j x j0 j1 => ?_, ?_, congrArg (fun z => Sum.inl (some (0, z))) ?_⟩
      · rcases (show j = 387 ∨ j ≠ 387 by omega) with e | e
        · subst e; rw [j0.resolve_left (fun z => z rfl)]; repeat rw [w_up_no (by omega)]
        · repeat rw [w_up_no (by omega)]
      · repeat rw [w_up_slot (by first | decide | omega)]
        first | exact w_up_same _ _ _ _ | omega
      · rcases (show wh = 20 ∨ wh = 21 ∨ wh = 22 ∨ wh = 23 by omega) with rfl | rfl | rfl | rfl <;> rfl
  · skip
    show wJ _ _ _ _ _ _ _ _ _ _
    refine wa_ifeq (w_rg0 (by omega) (by omega)) ⟨_, rfl⟩ (fun c26 => ?_) (fun c26 => ?_)
    · skip
      rcases (show wh = 0 ∨ wh = 1 ∨ wh = 2 ∨ wh = 3 ∨ wh = 4 ∨ wh = 5 ∨ wh = 6 ∨ wh = 7 ∨ wh = 8 ∨ wh = 9 ∨ wh = 10 ∨ wh = 11 ∨ wh = 12 ∨ wh = 13 ∨ wh = 14 ∨ wh = 15 ∨ wh = 16 ∨ wh = 17 ∨ wh < 0 ∨ 17 < wh by omega) with e | e | e | e | e | e | e | e | e | e | e | e | e | e | e | e | e | e | e | e
      · subst e
        refine wa_iload_n (n := 1) rfl ?_
        refine wa_i2l (w_rg0 (by omega) (by omega)) ?_
        refine wa_lconst ?_
        refine wb_kl (n := 17) rfl ?_
        refine wa_cs (M2 := fun _ => False) rfl at_M_in ⟨_, rfl⟩ rfl rfl ⟨(Or.inr ⟨wy_pr rfl, fun q => q⟩), (Or.inr ⟨wy_pr rfl, fun q => q⟩), trivial, trivial⟩ trivial (fun _ _ q => False.elim q) (in_ok (S := (w_up (w_up (w_up (w_up (w_up (w_up (w_up (w_up (w_up (w_up (w_up (w_up (w_up (w_up (w_up (w_up (w_up (w_up (w_up S 237 0 0) 387 0 (S 237 3)) 387 1 (S 261 1)) 387 2 (S 261 11)) 387 3 (S 237 33)) 387 4 (S 237 34)) 387 5 (S 237 43)) 387 6 (S 237 47)) 387 7 (S 237 48)) 387 8 (S 237 16)) 387 9 (S 237 19)) 387 10 (S 237 68)) 387 11 (S 237 69)) 387 12 (S 237 87)) 387 13 (S 237 114)) 387 14 (S 237 115)) 387 15 (S 237 104)) 387 16 (S 237 106)) 387 17 (S 237 108))) (a := 0) (lo := 0) (hi := 17) ⟨by omega, by omega⟩ ⟨by omega, by omega⟩ ⟨by omega, by omega⟩) (fun oq28 Sq28 hp29 q28 => ?_)
        rcases q28 with ⟨rfl, ⟨rfl, hin27⟩ | ⟨rfl, hin27⟩⟩
        · skip
          show wJ _ _ _ _ _ _ _ _ _ _
          refine wa_ifeq (w_rg0 (by omega) (by omega)) ⟨_, rfl⟩ (fun c30 => ?_) (fun c30 => ?_)
          · skip
            exact absurd c30 (by omega)
          · skip
            refine wa_aload_n (n := 2) rfl ?_
            refine wa_iload_n (n := 1) rfl ?_
            refine wb_iald 387 rfl (wy_pr rfl) wt_387 (n := 18) ((w_up_at (by decide)).trans ((w_up_at (by decide)).trans ((w_up_at (by decide)).trans ((w_up_at (by decide)).trans ((w_up_at (by decide)).trans ((w_up_at (by decide)).trans ((w_up_at (by decide)).trans ((w_up_at (by decide)).trans ((w_up_at (by decide)).trans ((w_up_at (by decide)).trans ((w_up_at (by decide)).trans ((w_up_at (by decide)).trans ((w_up_at (by decide)).trans ((w_up_at (by decide)).trans ((w_up_at (by decide)).trans ((w_up_at (by decide)).trans ((w_up_at (by decide)).trans ((w_up_at (by decide)).trans ((w_up_slot (by decide)).trans (h387)))))))))))))))))))) (by omega) (by omega) (v := (S 237 3)) ((w_up_at (by decide)).trans ((w_up_at (by decide)).trans ((w_up_at (by decide)).trans ((w_up_at (by decide)).trans ((w_up_at (by decide)).trans ((w_up_at (by decide)).trans ((w_up_at (by decide)).trans ((w_up_at (by decide)).trans ((w_up_at (by decide)).trans ((w_up_at (by decide)).trans ((w_up_at (by decide)).trans ((w_up_at (by decide)).trans ((w_up_at (by decide)).trans ((w_up_at (by decide)).trans ((w_up_at (by decide)).trans ((w_up_at (by decide)).trans ((w_up_at (by decide)).trans (w_up_same _ _ _ _)))))))))))))))))) (fun r31 => ?_)
            refine wa_goto ⟨_, rfl⟩ ?_
            refine wa_ireturn rfl ?_
            refine ⟨fun j x j0 j1 => ?_, ?_, congrArg (fun z => Sum.inl (some (0, z))) ?_⟩
            · rcases (show j = 387 ∨ j ≠ 387 by omega) with e | e
              · subst e; rw [j0.resolve_left (fun z => z rfl)]; repeat rw [w_up_no (by omega)]
              · repeat rw [w_up_no (by omega)]
            · repeat rw [w_up_slot (by first | decide | omega)]
              first | exact w_up_same _ _ _ _ | omega
            · unfold cn_r
              repeat (first | rw [if_pos (by omega)] | rw [if_neg (by omega)])
              all_goals first | rfl | omega
        · skip
          show wJ _ _ _ _ _ _ _ _ _ _
          refine wa_ifeq (w_rg0 (by omega) (by omega)) ⟨_, rfl⟩ (fun c32 => ?_) (fun c32 => ?_)
          · skip
            refine wa_iconst ?_
            refine wa_fall ⟨_, rfl⟩ ?_
            refine wa_ireturn rfl ?_
            refine ⟨fun j x j0 j1 => ?_, ?_, congrArg (fun z => Sum.inl (some (0, z))) ?_⟩
            · rcases (show j = 387 ∨ j ≠ 387 by omega) with e | e
              · subst e; rw [j0.resolve_left (fun z => z rfl)]; repeat rw [w_up_no (by omega)]
              · repeat rw [w_up_no (by omega)]
            · repeat rw [w_up_slot (by first | decide | omega)]
              first | exact w_up_same _ _ _ _ | omega
            · unfold cn_r
              repeat (first | rw [if_pos (by omega)] | rw [if_neg (by omega)])
              all_goals first | rfl | omega
          · skip
            exact absurd c32 (by omega)
      · subst e
        refine wa_iload_n (n := 1) rfl ?_
        refine wa_i2l (w_rg0 (by omega) (by omega)) ?_
        refine wa_lconst ?_
        refine wb_kl (n := 17) rfl ?_
        refine wa_cs (M2 := fun _ => False) rfl at_M_in ⟨_, rfl⟩ rfl rfl ⟨(Or.inr ⟨wy_pr rfl, fun q => q⟩), (Or.inr ⟨wy_pr rfl, fun q => q⟩), trivial, trivial⟩ trivial (fun _ _ q => False.elim q) (in_ok (S := (w_up (w_up (w_up (w_up (w_up (w_up (w_up (w_up (w_up (w_up (w_up (w_up (w_up (w_up (w_up (w_up (w_up (w_up (w_up S 237 0 0) 387 0 (S 237 3)) 387 1 (S 261 1)) 387 2 (S 261 11)) 387 3 (S 237 33)) 387 4 (S 237 34)) 387 5 (S 237 43)) 387 6 (S 237 47)) 387 7 (S 237 48)) 387 8 (S 237 16)) 387 9 (S 237 19)) 387 10 (S 237 68)) 387 11 (S 237 69)) 387 12 (S 237 87)) 387 13 (S 237 114)) 387 14 (S 237 115)) 387 15 (S 237 104)) 387 16 (S 237 106)) 387 17 (S 237 108))) (a := 1) (lo := 0) (hi := 17) ⟨by omega, by omega⟩ ⟨by omega, by omega⟩ ⟨by omega, by omega⟩) (fun oq34 Sq34 hp35 q34 => ?_)
        rcases q34 with ⟨rfl, ⟨rfl, hin33⟩ | ⟨rfl, hin33⟩⟩
        · skip
          show wJ _ _ _ _ _ _ _ _ _ _
          refine wa_ifeq (w_rg0 (by omega) (by omega)) ⟨_, rfl⟩ (fun c36 => ?_) (fun c36 => ?_)
          · skip
            exact absurd c36 (by omega)
          · skip
            refine wa_aload_n (n := 2) rfl ?_
            refine wa_iload_n (n := 1) rfl ?_
            refine wb_iald 387 rfl (wy_pr rfl) wt_387 (n := 18) ((w_up_at (by decide)).trans ((w_up_at (by decide)).trans ((w_up_at (by decide)).trans ((w_up_at (by decide)).trans ((w_up_at (by decide)).trans ((w_up_at (by decide)).trans ((w_up_at (by decide)).trans ((w_up_at (by decide)).trans ((w_up_at (by decide)).trans ((w_up_at (by decide)).trans ((w_up_at (by decide)).trans ((w_up_at (by decide)).trans ((w_up_at (by decide)).trans ((w_up_at (by decide)).trans ((w_up_at (by decide)).trans ((w_up_at (by decide)).trans ((w_up_at (by decide)).trans ((w_up_at (by decide)).trans ((w_up_slot (by decide)).trans (h387)))))))))))))))))))) (by omega) (by omega) (v := (S 261 1)) ((w_up_at (by decide)).trans ((w_up_at (by decide)).trans ((w_up_at (by decide)).trans ((w_up_at (by decide)).trans ((w_up_at (by decide)).trans ((w_up_at (by decide)).trans ((w_up_at (by decide)).trans ((w_up_at (by decide)).trans ((w_up_at (by decide)).trans ((w_up_at (by decide)).trans ((w_up_at (by decide)).trans ((w_up_at (by decide)).trans ((w_up_at (by decide)).trans ((w_up_at (by decide)).trans ((w_up_at (by decide)).trans ((w_up_at (by decide)).trans (w_up_same _ _ _ _))))))))))))))))) (fun r37 => ?_)
            refine wa_goto ⟨_, rfl⟩ ?_
            refine wa_ireturn rfl ?_
            refine ⟨fun j x j0 j1 => ?_, ?_, congrArg (fun z => Sum.inl (some (0, z))) ?_⟩
            · rcases (show j = 387 ∨ j ≠ 387 by omega) with e | e
              · subst e; rw [j0.resolve_left (fun z => z rfl)]; repeat rw [w_up_no (by omega)]
              · repeat rw [w_up_no (by omega)]
            · repeat rw [w_up_slot (by first | decide | omega)]
              first | exact w_up_same _ _ _ _ | omega
            · unfold cn_r
              repeat (first | rw [if_pos (by omega)] | rw [if_neg (by omega)])
              all_goals first | rfl | omega
        · skip
          show wJ _ _ _ _ _ _ _ _ _ _
          refine wa_ifeq (w_rg0 (by omega) (by omega)) ⟨_, rfl⟩ (fun c38 => ?_) (fun c38 => ?_)
          · skip
            refine wa_iconst ?_
            refine wa_fall ⟨_, rfl⟩ ?_
            refine wa_ireturn rfl ?_
            refine ⟨fun j x j0 j1 => ?_, ?_, congrArg (fun z => Sum.inl (some (0, z))) ?_⟩
            · rcases (show j = 387 ∨ j ≠ 387 by omega) with e | e
              · subst e; rw [j0.resolve_left (fun z => z rfl)]; repeat rw [w_up_no (by omega)]
              · repeat rw [w_up_no (by omega)]
            · repeat rw [w_up_slot (by first | decide | omega)]
              first | exact w_up_same _ _ _ _ | omega
            · unfold cn_r
              repeat (first | rw [if_pos (by omega)] | rw [if_neg (by omega)])
              all_goals first | rfl | omega
          · skip
            exact absurd c38 (by omega)
      · subst e
        refine wa_iload_n (n := 1) rfl ?_
        refine wa_i2l (w_rg0 (by omega) (by omega)) ?_
        refine wa_lconst ?_
        refine wb_kl (n := 17) rfl ?_
        refine wa_cs (M2 := fun _ => False) rfl at_M_in ⟨_, rfl⟩ rfl rfl ⟨(Or.inr ⟨wy_pr rfl, fun q => q⟩), (Or.inr ⟨wy_pr rfl, fun q => q⟩), trivial, trivial⟩ trivial (fun _ _ q => False.elim q) (in_ok (S := (w_up (w_up (w_up (w_up (w_up (w_up (w_up (w_up (w_up (w_up (w_up (w_up (w_up (w_up (w_up (w_up (w_up (w_up (w_up S 237 0 0) 387 0 (S 237 3)) 387 1 (S 261 1)) 387 2 (S 261 11)) 387 3 (S 237 33)) 387 4 (S 237 34)) 387 5 (S 237 43)) 387 6 (S 237 47)) 387 7 (S 237 48)) 387 8 (S 237 16)) 387 9 (S 237 19)) 387 10 (S 237 68)) 387 11 (S 237 69)) 387 12 (S 237 87)) 387 13 (S 237 114)) 387 14 (S 237 115)) 387 15 (S 237 104)) 387 16 (S 237 106)) 387 17 (S 237 108))) (a := 2) (lo := 0) (hi := 17) ⟨by omega, by omega⟩ ⟨by omega, by omega⟩ ⟨by omega, by omega⟩) (fun oq40 Sq40 hp41 q40 => ?_)
        rcases q40 with ⟨rfl, ⟨rfl, hin39⟩ | ⟨rfl, hin39⟩⟩
        · skip
          show wJ _ _ _ _ _ _ _ _ _ _
          refine wa_ifeq (w_rg0 (by omega) (by omega)) ⟨_, rfl⟩ (fun c42 => ?_) (fun c42 => ?_)
          · skip
            exact absurd c42 (by omega)
          · skip
            refine wa_aload_n (n := 2) rfl ?_
            refine wa_iload_n (n := 1) rfl ?_
            refine wb_iald 387 rfl (wy_pr rfl) wt_387 (n := 18) ((w_up_at (by decide)).trans ((w_up_at (by decide)).trans ((w_up_at (by decide)).trans ((w_up_at (by decide)).trans ((w_up_at (by decide)).trans ((w_up_at (by decide)).trans ((w_up_at (by decide)).trans ((w_up_at (by decide)).trans ((w_up_at (by decide)).trans ((w_up_at (by decide)).trans ((w_up_at (by decide)).trans ((w_up_at (by decide)).trans ((w_up_at (by decide)).trans ((w_up_at (by decide)).trans ((w_up_at (by decide)).trans ((w_up_at (by decide)).trans ((w_up_at (by decide)).trans ((w_up_at (by decide)).trans ((w_up_slot (by decide)).trans (h387)))))))))))))))))))) (by omega) (by omega) (v := (S 261 11)) ((w_up_at (by decide)).trans ((w_up_at (by decide)).trans ((w_up_at (by decide)).trans ((w_up_at (by decide)).trans ((w_up_at (by decide)).trans ((w_up_at (by decide)).trans ((w_up_at (by decide)).trans ((w_up_at (by decide)).trans ((w_up_at (by decide)).trans ((w_up_at (by decide)).trans ((w_up_at (by decide)).trans ((w_up_at (by decide)).trans ((w_up_at (by decide)).trans ((w_up_at (by decide)).trans ((w_up_at (by decide)).trans (w_up_same _ _ _ _)))))))))))))))) (fun r43 => ?_)
            refine wa_goto ⟨_, rfl⟩ ?_
            refine wa_ireturn rfl ?_
            refine ⟨fun j x j0 j1 => ?_, ?_, congrArg (fun z => Sum.inl (some (0, z))) ?_⟩
            · rcases (show j = 387 ∨ j ≠ 387 by omega) with e | e
              · subst e; rw [j0.resolve_left (fun z => z rfl)]; repeat rw [w_up_no (by omega)]
              · repeat rw [w_up_no (by omega)]
            · repeat rw [w_up_slot (by first | decide | omega)]
              first | exact w_up_same _ _ _ _ | omega
            · unfold cn_r
              repeat (first | rw [if_pos (by omega)] | rw [if_neg (by omega)])
              all_goals first | rfl | omega
        · skip
          show wJ _ _ _ _ _ _ _ _ _ _
          refine wa_ifeq (w_rg0 (by omega) (by omega)) ⟨_, rfl⟩ (fun c44 => ?_) (fun c44 => ?_)
          · skip
            refine wa_iconst ?_
            refine wa_fall ⟨_, rfl⟩ ?_
            refine wa_ireturn rfl ?_
            refine ⟨fun j x j0 j1 => ?_, ?_, congrArg (fun z => Sum.inl (some (0, z))) ?_⟩
            · rcases (show j = 387 ∨ j ≠ 387 by omega) with e | e
              · subst e; rw [j0.resolve_left (fun z => z rfl)]; repeat rw [w_up_no (by omega)]
              · repeat rw [w_up_no (by omega)]
            · repeat rw [w_up_slot (by first | decide | omega)]
              first | exact w_up_same _ _ _ _ | omega
            · unfold cn_r
              repeat (first | rw [if_pos (by omega)] | rw [if_neg (by omega)])
              all_goals first | rfl | omega
          · skip
            exact absurd c44 (by omega)
      · subst e
        refine wa_iload_n (n := 1) rfl ?_
        refine wa_i2l (w_rg0 (by omega) (by omega)) ?_
        refine wa_lconst ?_
        refine wb_kl (n := 17) rfl ?_
        refine wa_cs (M2 := fun _ => False) rfl at_M_in ⟨_, rfl⟩ rfl rfl ⟨(Or.inr ⟨wy_pr rfl, fun q => q⟩), (Or.inr ⟨wy_pr rfl, fun q => q⟩), trivial, trivial⟩ trivial (fun _ _ q => False.elim q) (in_ok (S := (w_up (w_up (w_up (w_up (w_up (w_up (w_up (w_up (w_up (w_up (w_up (w_up (w_up (w_up (w_up (w_up (w_up (w_up (w_up S 237 0 0) 387 0 (S 237 3)) 387 1 (S 261 1)) 387 2 (S 261 11)) 387 3 (S 237 33)) 387 4 (S 237 34)) 387 5 (S 237 43)) 387 6 (S 237 47)) 387 7 (S 237 48)) 387 8 (S 237 16)) 387 9 (S 237 19)) 387 10 (S 237 68)) 387 11 (S 237 69)) 387 12 (S 237 87)) 387 13 (S 237 114)) 387 14 (S 237 115)) 387 15 (S 237 104)) 387 16 (S 237 106)) 387 17 (S 237 108))) (a := 3) (lo := 0) (hi := 17) ⟨by omega, by omega⟩ ⟨by omega, by omega⟩ ⟨by omega, by omega⟩) (fun oq46 Sq46 hp47 q46 => ?_)
        rcases q46 with ⟨rfl, ⟨rfl, hin45⟩ | ⟨rfl, hin45⟩⟩
        · skip
          show wJ _ _ _ _ _ _ _ _ _ _
          refine wa_ifeq (w_rg0 (by omega) (by omega)) ⟨_, rfl⟩ (fun c48 => ?_) (fun c48 => ?_)
          · skip
            exact absurd c48 (by omega)
          · skip
            refine wa_aload_n (n := 2) rfl ?_
            refine wa_iload_n (n := 1) rfl ?_
            refine wb_iald 387 rfl (wy_pr rfl) wt_387 (n := 18) ((w_up_at (by decide)).trans ((w_up_at (by decide)).trans ((w_up_at (by decide)).trans ((w_up_at (by decide)).trans ((w_up_at (by decide)).trans ((w_up_at (by decide)).trans ((w_up_at (by decide)).trans ((w_up_at (by decide)).trans ((w_up_at (by decide)).trans ((w_up_at (by decide)).trans ((w_up_at (by decide)).trans ((w_up_at (by decide)).trans ((w_up_at (by decide)).trans ((w_up_at (by decide)).trans ((w_up_at (by decide)).trans ((w_up_at (by decide)).trans ((w_up_at (by decide)).trans ((w_up_at (by decide)).trans ((w_up_slot (by decide)).trans (h387)))))))))))))))))))) (by omega) (by omega) (v := (S 237 33)) ((w_up_at (by decide)).trans ((w_up_at (by decide)).trans ((w_up_at (by decide)).trans ((w_up_at (by decide)).trans ((w_up_at (by decide)).trans ((w_up_at (by decide)).trans ((w_up_at (by decide)).trans ((w_up_at (by decide)).trans ((w_up_at (by decide)).trans ((w_up_at (by decide)).trans ((w_up_at (by decide)).trans ((w_up_at (by decide)).trans ((w_up_at (by decide)).trans ((w_up_at (by decide)).trans (w_up_same _ _ _ _))))))))))))))) (fun r49 => ?_)
            refine wa_goto ⟨_, rfl⟩ ?_
            refine wa_ireturn rfl ?_
            refine ⟨fun j x j0 j1 => ?_, ?_, congrArg (fun z => Sum.inl (some (0, z))) ?_⟩
            · rcases (show j = 387 ∨ j ≠ 387 by omega) with e | e
              · subst e; rw [j0.resolve_left (fun z => z rfl)]; repeat rw [w_up_no (by omega)]
              · repeat rw [w_up_no (by omega)]
            · repeat rw [w_up_slot (by first | decide | omega)]
              first | exact w_up_same _ _ _ _ | omega
            · unfold cn_r
              repeat (first | rw [if_pos (by omega)] | rw [if_neg (by omega)])
              all_goals first | rfl | omega
        · skip
          show wJ _ _ _ _ _ _ _ _ _ _
          refine wa_ifeq (w_rg0 (by omega) (by omega)) ⟨_, rfl⟩ (fun c50 => ?_) (fun c50 => ?_)
          · skip
            refine wa_iconst ?_
            refine wa_fall ⟨_, rfl⟩ ?_
            refine wa_ireturn rfl ?_
            refine ⟨fun j x j0 j1 => ?_, ?_, congrArg (fun z => Sum.inl (some (0, z))) ?_⟩
            · rcases (show j = 387 ∨ j ≠ 387 by omega) with e | e
              · subst e; rw [j0.resolve_left (fun z => z rfl)]; repeat rw [w_up_no (by omega)]
              · repeat rw [w_up_no (by omega)]
            · repeat rw [w_up_slot (by first | decide | omega)]
              first | exact w_up_same _ _ _ _ | omega
            · unfold cn_r
              repeat (first | rw [if_pos (by omega)] | rw [if_neg (by omega)])
              all_goals first | rfl | omega
          · skip
            exact absurd c50 (by omega)
      · subst e
        refine wa_iload_n (n := 1) rfl ?_
        refine wa_i2l (w_rg0 (by omega) (by omega)) ?_
        refine wa_lconst ?_
        refine wb_kl (n := 17) rfl ?_
        refine wa_cs (M2 := fun _ => False) rfl at_M_in ⟨_, rfl⟩ rfl rfl ⟨(Or.inr ⟨wy_pr rfl, fun q => q⟩), (Or.inr ⟨wy_pr rfl, fun q => q⟩), trivial, trivial⟩ trivial (fun _ _ q => False.elim q) (in_ok (S := (w_up (w_up (w_up (w_up (w_up (w_up (w_up (w_up (w_up (w_up (w_up (w_up (w_up (w_up (w_up (w_up (w_up (w_up (w_up S 237 0 0) 387 0 (S 237 3)) 387 1 (S 261 1)) 387 2 (S 261 11)) 387 3 (S 237 33)) 387 4 (S 237 34)) 387 5 (S 237 43)) 387 6 (S 237 47)) 387 7 (S 237 48)) 387 8 (S 237 16)) 387 9 (S 237 19)) 387 10 (S 237 68)) 387 11 (S 237 69)) 387 12 (S 237 87)) 387 13 (S 237 114)) 387 14 (S 237 115)) 387 15 (S 237 104)) 387 16 (S 237 106)) 387 17 (S 237 108))) (a := 4) (lo := 0) (hi := 17) ⟨by omega, by omega⟩ ⟨by omega, by omega⟩ ⟨by omega, by omega⟩) (fun oq52 Sq52 hp53 q52 => ?_)
        rcases q52 with ⟨rfl, ⟨rfl, hin51⟩ | ⟨rfl, hin51⟩⟩
        · skip
          show wJ _ _ _ _ _ _ _ _ _ _
          refine wa_ifeq (w_rg0 (by omega) (by omega)) ⟨_, rfl⟩ (fun c54 => ?_) (fun c54 => ?_)
          · skip
            exact absurd c54 (by omega)
          · skip
            refine wa_aload_n (n := 2) rfl ?_
            refine wa_iload_n (n := 1) rfl ?_
            refine wb_iald 387 rfl (wy_pr rfl) wt_387 (n := 18) ((w_up_at (by decide)).trans ((w_up_at (by decide)).trans ((w_up_at (by decide)).trans ((w_up_at (by decide)).trans ((w_up_at (by decide)).trans ((w_up_at (by decide)).trans ((w_up_at (by decide)).trans ((w_up_at (by decide)).trans ((w_up_at (by decide)).trans ((w_up_at (by decide)).trans ((w_up_at (by decide)).trans ((w_up_at (by decide)).trans ((w_up_at (by decide)).trans ((w_up_at (by decide)).trans ((w_up_at (by decide)).trans ((w_up_at (by decide)).trans ((w_up_at (by decide)).trans ((w_up_at (by decide)).trans ((w_up_slot (by decide)).trans (h387)))))))))))))))))))) (by omega) (by omega) (v := (S 237 34)) ((w_up_at (by decide)).trans ((w_up_at (by decide)).trans ((w_up_at (by decide)).trans ((w_up_at (by decide)).trans ((w_up_at (by decide)).trans ((w_up_at (by decide)).trans ((w_up_at (by decide)).trans ((w_up_at (by decide)).trans ((w_up_at (by decide)).trans ((w_up_at (by decide)).trans ((w_up_at (by decide)).trans ((w_up_at (by decide)).trans ((w_up_at (by decide)).trans (w_up_same _ _ _ _)))))))))))))) (fun r55 => ?_)
            refine wa_goto ⟨_, rfl⟩ ?_
            refine wa_ireturn rfl ?_
            refine ⟨fun j x j0 j1 => ?_, ?_, congrArg (fun z => Sum.inl (some (0, z))) ?_⟩
            · rcases (show j = 387 ∨ j ≠ 387 by omega) with e | e
              · subst e; rw [j0.resolve_left (fun z => z rfl)]; repeat rw [w_up_no (by omega)]
              · repeat rw [w_up_no (by omega)]
            · repeat rw [w_up_slot (by first | decide | omega)]
              first | exact w_up_same _ _ _ _ | omega
            · unfold cn_r
              repeat (first | rw [if_pos (by omega)] | rw [if_neg (by omega)])
              all_goals first | rfl | omega
        · skip
          show wJ _ _ _ _ _ _ _ _ _ _
          refine wa_ifeq (w_rg0 (by omega) (by omega)) ⟨_, rfl⟩ (fun c56 => ?_) (fun c56 => ?_)
          · skip
            refine wa_iconst ?_
            refine wa_fall ⟨_, rfl⟩ ?_
            refine wa_ireturn rfl ?_
            refine ⟨fun j x j0 j1 => ?_, ?_, congrArg (fun z => Sum.inl (some (0, z))) ?_⟩
            · rcases (show j = 387 ∨ j ≠ 387 by omega) with e | e
              · subst e; rw [j0.resolve_left (fun z => z rfl)]; repeat rw [w_up_no (by omega)]
              · repeat rw [w_up_no (by omega)]
            · repeat rw [w_up_slot (by first | decide | omega)]
              first | exact w_up_same _ _ _ _ | omega
            · unfold cn_r
              repeat (first | rw [if_pos (by omega)] | rw [if_neg (by omega)])
              all_goals first | rfl | omega
          · skip
            exact absurd c56 (by omega)
      · subst e
        refine wa_iload_n (n := 1) rfl ?_
        refine wa_i2l (w_rg0 (by omega) (by omega)) ?_
        refine wa_lconst ?_
        refine wb_kl (n := 17) rfl ?_
        refine wa_cs (M2 := fun _ => False) rfl at_M_in ⟨_, rfl⟩ rfl rfl ⟨(Or.inr ⟨wy_pr rfl, fun q => q⟩), (Or.inr ⟨wy_pr rfl, fun q => q⟩), trivial, trivial⟩ trivial (fun _ _ q => False.elim q) (in_ok (S := (w_up (w_up (w_up (w_up (w_up (w_up (w_up (w_up (w_up (w_up (w_up (w_up (w_up (w_up (w_up (w_up (w_up (w_up (w_up S 237 0 0) 387 0 (S 237 3)) 387 1 (S 261 1)) 387 2 (S 261 11)) 387 3 (S 237 33)) 387 4 (S 237 34)) 387 5 (S 237 43)) 387 6 (S 237 47)) 387 7 (S 237 48)) 387 8 (S 237 16)) 387 9 (S 237 19)) 387 10 (S 237 68)) 387 11 (S 237 69)) 387 12 (S 237 87)) 387 13 (S 237 114)) 387 14 (S 237 115)) 387 15 (S 237 104)) 387 16 (S 237 106)) 387 17 (S 237 108))) (a := 5) (lo := 0) (hi := 17) ⟨by omega, by omega⟩ ⟨by omega, by omega⟩ ⟨by omega, by omega⟩) (fun oq58 Sq58 hp59 q58 => ?_)
        rcases q58 with ⟨rfl, ⟨rfl, hin57⟩ | ⟨rfl, hin57⟩⟩
        · skip
          show wJ _ _ _ _ _ _ _ _ _ _
          refine wa_ifeq (w_rg0 (by omega) (by omega)) ⟨_, rfl⟩ (fun c60 => ?_) (fun c60 => ?_)
          · skip
            exact absurd c60 (by omega)
          · skip
            refine wa_aload_n (n := 2) rfl ?_
            refine wa_iload_n (n := 1) rfl ?_
            refine wb_iald 387 rfl (wy_pr rfl) wt_387 (n := 18) ((w_up_at (by decide)).trans ((w_up_at (by decide)).trans ((w_up_at (by decide)).trans ((w_up_at (by decide)).trans ((w_up_at (by decide)).trans ((w_up_at (by decide)).trans ((w_up_at (by decide)).trans ((w_up_at (by decide)).trans ((w_up_at (by decide)).trans ((w_up_at (by decide)).trans ((w_up_at (by decide)).trans ((w_up_at (by decide)).trans ((w_up_at (by decide)).trans ((w_up_at (by decide)).trans ((w_up_at (by decide)).trans ((w_up_at (by decide)).trans ((w_up_at (by decide)).trans ((w_up_at (by decide)).trans ((w_up_slot (by decide)).trans (h387)))))))))))))))))))) (by omega) (by omega) (v := (S 237 43)) ((w_up_at (by decide)).trans ((w_up_at (by decide)).trans ((w_up_at (by decide)).trans ((w_up_at (by decide)).trans ((w_up_at (by decide)).trans ((w_up_at (by decide)).trans ((w_up_at (by decide)).trans ((w_up_at (by decide)).trans ((w_up_at (by decide)).trans ((w_up_at (by decide)).trans ((w_up_at (by decide)).trans ((w_up_at (by decide)).trans (w_up_same _ _ _ _))))))))))))) (fun r61 => ?_)
            refine wa_goto ⟨_, rfl⟩ ?_
            refine wa_ireturn rfl ?_
            refine ⟨fun j x j0 j1 => ?_, ?_, congrArg (fun z => Sum.inl (some (0, z))) ?_⟩
            · rcases (show j = 387 ∨ j ≠ 387 by omega) with e | e
              · subst e; rw [j0.resolve_left (fun z => z rfl)]; repeat rw [w_up_no (by omega)]
              · repeat rw [w_up_no (by omega)]
            · repeat rw [w_up_slot (by first | decide | omega)]
              first | exact w_up_same _ _ _ _ | omega
            · unfold cn_r
              repeat (first | rw [if_pos (by omega)] | rw [if_neg (by omega)])
              all_goals first | rfl | omega
        · skip
          show wJ _ _ _ _ _ _ _ _ _ _
          refine wa_ifeq (w_rg0 (by omega) (by omega)) ⟨_, rfl⟩ (fun c62 => ?_) (fun c62 => ?_)
          · skip
            refine wa_iconst ?_
            refine wa_fall ⟨_, rfl⟩ ?_
            refine wa_ireturn rfl ?_
            refine ⟨fun j x j0 j1 => ?_, ?_, congrArg (fun z => Sum.inl (some (0, z))) ?_⟩
            · rcases (show j = 387 ∨ j ≠ 387 by omega) with e | e
              · subst e; rw [j0.resolve_left (fun z => z rfl)]; repeat rw [w_up_no (by omega)]
              · repeat rw [w_up_no (by omega)]
            · repeat rw [w_up_slot (by first | decide | omega)]
              first | exact w_up_same _ _ _ _ | omega
            · unfold cn_r
              repeat (first | rw [if_pos (by omega)] | rw [if_neg (by omega)])
              all_goals first | rfl | omega
          · skip
            exact absurd c62 (by omega)
      · subst e
        refine wa_iload_n (n := 1) rfl ?_
        refine wa_i2l (w_rg0 (by omega) (by omega)) ?_
        refine wa_lconst ?_
        refine wb_kl (n := 17) rfl ?_
        refine wa_cs (M2 := fun _ => False) rfl at_M_in ⟨_, rfl⟩ rfl rfl ⟨(Or.inr ⟨wy_pr rfl, fun q => q⟩), (Or.inr ⟨wy_pr rfl, fun q => q⟩), trivial, trivial⟩ trivial (fun _ _ q => False.elim q) (in_ok (S := (w_up (w_up (w_up (w_up (w_up (w_up (w_up (w_up (w_up (w_up (w_up (w_up (w_up (w_up (w_up (w_up (w_up (w_up (w_up S 237 0 0) 387 0 (S 237 3)) 387 1 (S 261 1)) 387 2 (S 261 11)) 387 3 (S 237 33)) 387 4 (S 237 34)) 387 5 (S 237 43)) 387 6 (S 237 47)) 387 7 (S 237 48)) 387 8 (S 237 16)) 387 9 (S 237 19)) 387 10 (S 237 68)) 387 11 (S 237 69)) 387 12 (S 237 87)) 387 13 (S 237 114)) 387 14 (S 237 115)) 387 15 (S 237 104)) 387 16 (S 237 106)) 387 17 (S 237 108))) (a := 6) (lo := 0) (hi := 17) ⟨by omega, by omega⟩ ⟨by omega, by omega⟩ ⟨by omega, by omega⟩) (fun oq64 Sq64 hp65 q64 => ?_)
        rcases q64 with ⟨rfl, ⟨rfl, hin63⟩ | ⟨rfl, hin63⟩⟩
        · skip
          show wJ _ _ _ _ _ _ _ _ _ _
          refine wa_ifeq (w_rg0 (by omega) (by omega)) ⟨_, rfl⟩ (fun c66 => ?_) (fun c66 => ?_)
          · skip
            exact absurd c66 (by omega)
          · skip
            refine wa_aload_n (n := 2) rfl ?_
            refine wa_iload_n (n := 1) rfl ?_
            refine wb_iald 387 rfl (wy_pr rfl) wt_387 (n := 18) ((w_up_at (by decide)).trans ((w_up_at (by decide)).trans ((w_up_at (by decide)).trans ((w_up_at (by decide)).trans ((w_up_at (by decide)).trans ((w_up_at (by decide)).trans ((w_up_at (by decide)).trans ((w_up_at (by decide)).trans ((w_up_at (by decide)).trans ((w_up_at (by decide)).trans ((w_up_at (by decide)).trans ((w_up_at (by decide)).trans ((w_up_at (by decide)).trans ((w_up_at (by decide)).trans ((w_up_at (by decide)).trans ((w_up_at (by decide)).trans ((w_up_at (by decide)).trans ((w_up_at (by decide)).trans ((w_up_slot (by decide)).trans (h387)))))))))))))))))))) (by omega) (by omega) (v := (S 237 47)) ((w_up_at (by decide)).trans ((w_up_at (by decide)).trans ((w_up_at (by decide)).trans ((w_up_at (by decide)).trans ((w_up_at (by decide)).trans ((w_up_at (by decide)).trans ((w_up_at (by decide)).trans ((w_up_at (by decide)).trans ((w_up_at (by decide)).trans ((w_up_at (by decide)).trans ((w_up_at (by decide)).trans (w_up_same _ _ _ _)))))))))))) (fun r67 => ?_)
            refine wa_goto ⟨_, rfl⟩ ?_
            refine wa_ireturn rfl ?_
            refine ⟨fun j x j0 j1 => ?_, ?_, congrArg (fun z => Sum.inl (some (0, z))) ?_⟩
            · rcases (show j = 387 ∨ j ≠ 387 by omega) with e | e
              · subst e; rw [j0.resolve_left (fun z => z rfl)]; repeat rw [w_up_no (by omega)]
              · repeat rw [w_up_no (by omega)]
            · repeat rw [w_up_slot (by first | decide | omega)]
              first | exact w_up_same _ _ _ _ | omega
            · unfold cn_r
              repeat (first | rw [if_pos (by omega)] | rw [if_neg (by omega)])
              all_goals first | rfl | omega
        · skip
          show wJ _ _ _ _ _ _ _ _ _ _
          refine wa_ifeq (w_rg0 (by omega) (by omega)) ⟨_, rfl⟩ (fun c68 => ?_) (fun c68 => ?_)
          · skip
            refine wa_iconst ?_
            refine wa_fall ⟨_, rfl⟩ ?_
            refine wa_ireturn rfl ?_
            refine ⟨fun j x j0 j1 => ?_, ?_, congrArg (fun z => Sum.inl (some (0, z))) ?_⟩
            · rcases (show j = 387 ∨ j ≠ 387 by omega) with e | e
              · subst e; rw [j0.resolve_left (fun z => z rfl)]; repeat rw [w_up_no (by omega)]
              · repeat rw [w_up_no (by omega)]
            · repeat rw [w_up_slot (by first | decide | omega)]
              first | exact w_up_same _ _ _ _ | omega
            · unfold cn_r
              repeat (first | rw [if_pos (by omega)] | rw [if_neg (by omega)])
              all_goals first | rfl | omega
          · skip
            exact absurd c68 (by omega)
      · subst e
        refine wa_iload_n (n := 1) rfl ?_
        refine wa_i2l (w_rg0 (by omega) (by omega)) ?_
        refine wa_lconst ?_
        refine wb_kl (n := 17) rfl ?_
        refine wa_cs (M2 := fun _ => False) rfl at_M_in ⟨_, rfl⟩ rfl rfl ⟨(Or.inr ⟨wy_pr rfl, fun q => q⟩), (Or.inr ⟨wy_pr rfl, fun q => q⟩), trivial, trivial⟩ trivial (fun _ _ q => False.elim q) (in_ok (S := (w_up (w_up (w_up (w_up (w_up (w_up (w_up (w_up (w_up (w_up (w_up (w_up (w_up (w_up (w_up (w_up (w_up (w_up (w_up S 237 0 0) 387 0 (S 237 3)) 387 1 (S 261 1)) 387 2 (S 261 11)) 387 3 (S 237 33)) 387 4 (S 237 34)) 387 5 (S 237 43)) 387 6 (S 237 47)) 387 7 (S 237 48)) 387 8 (S 237 16)) 387 9 (S 237 19)) 387 10 (S 237 68)) 387 11 (S 237 69)) 387 12 (S 237 87)) 387 13 (S 237 114)) 387 14 (S 237 115)) 387 15 (S 237 104)) 387 16 (S 237 106)) 387 17 (S 237 108))) (a := 7) (lo := 0) (hi := 17) ⟨by omega, by omega⟩ ⟨by omega, by omega⟩ ⟨by omega, by omega⟩) (fun oq70 Sq70 hp71 q70 => ?_)
        rcases q70 with ⟨rfl, ⟨rfl, hin69⟩ | ⟨rfl, hin69⟩⟩
        · skip
          show wJ _ _ _ _ _ _ _ _ _ _
          refine wa_ifeq (w_rg0 (by omega) (by omega)) ⟨_, rfl⟩ (fun c72 => ?_) (fun c72 => ?_)
          · skip
            exact absurd c72 (by omega)
          · skip
            refine wa_aload_n (n := 2) rfl ?_
            refine wa_iload_n (n := 1) rfl ?_
            refine wb_iald 387 rfl (wy_pr rfl) wt_387 (n := 18) ((w_up_at (by decide)).trans ((w_up_at (by decide)).trans ((w_up_at (by decide)).trans ((w_up_at (by decide)).trans ((w_up_at (by decide)).trans ((w_up_at (by decide)).trans ((w_up_at (by decide)).trans ((w_up_at (by decide)).trans ((w_up_at (by decide)).trans ((w_up_at (by decide)).trans ((w_up_at (by decide)).trans ((w_up_at (by decide)).trans ((w_up_at (by decide)).trans ((w_up_at (by decide)).trans ((w_up_at (by decide)).trans ((w_up_at (by decide)).trans ((w_up_at (by decide)).trans ((w_up_at (by decide)).trans ((w_up_slot (by decide)).trans (h387)))))))))))))))))))) (by omega) (by omega) (v := (S 237 48)) ((w_up_at (by decide)).trans ((w_up_at (by decide)).trans ((w_up_at (by decide)).trans ((w_up_at (by decide)).trans ((w_up_at (by decide)).trans ((w_up_at (by decide)).trans ((w_up_at (by decide)).trans ((w_up_at (by decide)).trans ((w_up_at (by decide)).trans ((w_up_at (by decide)).trans (w_up_same _ _ _ _))))))))))) (fun r73 => ?_)
            refine wa_goto ⟨_, rfl⟩ ?_
            refine wa_ireturn rfl ?_
            refine ⟨fun j x j0 j1 => ?_, ?_, congrArg (fun z => Sum.inl (some (0, z))) ?_⟩
            · rcases (show j = 387 ∨ j ≠ 387 by omega) with e | e
              · subst e; rw [j0.resolve_left (fun z => z rfl)]; repeat rw [w_up_no (by omega)]
              · repeat rw [w_up_no (by omega)]
            · repeat rw [w_up_slot (by first | decide | omega)]
              first | exact w_up_same _ _ _ _ | omega
            · unfold cn_r
              repeat (first | rw [if_pos (by omega)] | rw [if_neg (by omega)])
              all_goals first | rfl | omega
        · skip
          show wJ _ _ _ _ _ _ _ _ _ _
          refine wa_ifeq (w_rg0 (by omega) (by omega)) ⟨_, rfl⟩ (fun c74 => ?_) (fun c74 => ?_)
          · skip
            refine wa_iconst ?_
            refine wa_fall ⟨_, rfl⟩ ?_
            refine wa_ireturn rfl ?_
            refine ⟨fun j x j0 j1 => ?_, ?_, congrArg (fun z => Sum.inl (some (0, z))) ?_⟩
            · rcases (show j = 387 ∨ j ≠ 387 by omega) with e | e
              · subst e; rw [j0.resolve_left (fun z => z rfl)]; repeat rw [w_up_no (by omega)]
              · repeat rw [w_up_no (by omega)]
            · repeat rw [w_up_slot (by first | decide | omega)]
              first | exact w_up_same _ _ _ _ | omega
            · unfold cn_r
              repeat (first | rw [if_pos (by omega)] | rw [if_neg (by omega)])
              all_goals first | rfl | omega
          · skip
            exact absurd c74 (by omega)
      · subst e
        refine wa_iload_n (n := 1) rfl ?_
        refine wa_i2l (w_rg0 (by omega) (by omega)) ?_
        refine wa_lconst ?_
        refine wb_kl (n := 17) rfl ?_
        refine wa_cs (M2 := fun _ => False) rfl at_M_in ⟨_, rfl⟩ rfl rfl ⟨(Or.inr ⟨wy_pr rfl, fun q => q⟩), (Or.inr ⟨wy_pr rfl, fun q => q⟩), trivial, trivial⟩ trivial (fun _ _ q => False.elim q) (in_ok (S := (w_up (w_up (w_up (w_up (w_up (w_up (w_up (w_up (w_up (w_up (w_up (w_up (w_up (w_up (w_up (w_up (w_up (w_up (w_up S 237 0 0) 387 0 (S 237 3)) 387 1 (S 261 1)) 387 2 (S 261 11)) 387 3 (S 237 33)) 387 4 (S 237 34)) 387 5 (S 237 43)) 387 6 (S 237 47)) 387 7 (S 237 48)) 387 8 (S 237 16)) 387 9 (S 237 19)) 387 10 (S 237 68)) 387 11 (S 237 69)) 387 12 (S 237 87)) 387 13 (S 237 114)) 387 14 (S 237 115)) 387 15 (S 237 104)) 387 16 (S 237 106)) 387 17 (S 237 108))) (a := 8) (lo := 0) (hi := 17) ⟨by omega, by omega⟩ ⟨by omega, by omega⟩ ⟨by omega, by omega⟩) (fun oq76 Sq76 hp77 q76 => ?_)
        rcases q76 with ⟨rfl, ⟨rfl, hin75⟩ | ⟨rfl, hin75⟩⟩
        · skip
          show wJ _ _ _ _ _ _ _ _ _ _
          refine wa_ifeq (w_rg0 (by omega) (by omega)) ⟨_, rfl⟩ (fun c78 => ?_) (fun c78 => ?_)
          · skip
            exact absurd c78 (by omega)
          · skip
            refine wa_aload_n (n := 2) rfl ?_
            refine wa_iload_n (n := 1) rfl ?_
            refine wb_iald 387 rfl (wy_pr rfl) wt_387 (n := 18) ((w_up_at (by decide)).trans ((w_up_at (by decide)).trans ((w_up_at (by decide)).trans ((w_up_at (by decide)).trans ((w_up_at (by decide)).trans ((w_up_at (by decide)).trans ((w_up_at (by decide)).trans ((w_up_at (by decide)).trans ((w_up_at (by decide)).trans ((w_up_at (by decide)).trans ((w_up_at (by decide)).trans ((w_up_at (by decide)).trans ((w_up_at (by decide)).trans ((w_up_at (by decide)).trans ((w_up_at (by decide)).trans ((w_up_at (by decide)).trans ((w_up_at (by decide)).trans ((w_up_at (by decide)).trans ((w_up_slot (by decide)).trans (h387)))))))))))))))))))) (by omega) (by omega) (v := (S 237 16)) ((w_up_at (by decide)).trans ((w_up_at (by decide)).trans ((w_up_at (by decide)).trans ((w_up_at (by decide)).trans ((w_up_at (by decide)).trans ((w_up_at (by decide)).trans ((w_up_at (by decide)).trans ((w_up_at (by decide)).trans ((w_up_at (by decide)).trans (w_up_same _ _ _ _)))))))))) (fun r79 => ?_)
            refine wa_goto ⟨_, rfl⟩ ?_
            refine wa_ireturn rfl ?_
            refine ⟨fun j x j0 j1 => ?_, ?_, congrArg (fun z => Sum.inl (some (0, z))) ?_⟩
            · rcases (show j = 387 ∨ j ≠ 387 by omega) with e | e
              · subst e; rw [j0.resolve_left (fun z => z rfl)]; repeat rw [w_up_no (by omega)]
              · repeat rw [w_up_no (by omega)]
            · repeat rw [w_up_slot (by first | decide | omega)]
              first | exact w_up_same _ _ _ _ | omega
            · unfold cn_r
              repeat (first | rw [if_pos (by omega)] | rw [if_neg (by omega)])
              all_goals first | rfl | omega
        · skip
          show wJ _ _ _ _ _ _ _ _ _ _
          refine wa_ifeq (w_rg0 (by omega) (by omega)) ⟨_, rfl⟩ (fun c80 => ?_) (fun c80 => ?_)
          · skip
            refine wa_iconst ?_
            refine wa_fall ⟨_, rfl⟩ ?_
            refine wa_ireturn rfl ?_
            refine ⟨fun j x j0 j1 => ?_, ?_, congrArg (fun z => Sum.inl (some (0, z))) ?_⟩
            · rcases (show j = 387 ∨ j ≠ 387 by omega) with e | e
              · subst e; rw [j0.resolve_left (fun z => z rfl)]; repeat rw [w_up_no (by omega)]
              · repeat rw [w_up_no (by omega)]
            · repeat rw [w_up_slot (by first | decide | omega)]
              first | exact w_up_same _ _ _ _ | omega
            · unfold cn_r
              repeat (first | rw [if_pos (by omega)] | rw [if_neg (by omega)])
              all_goals first | rfl | omega
          · skip
            exact absurd c80 (by omega)
      · subst e
        refine wa_iload_n (n := 1) rfl ?_
        refine wa_i2l (w_rg0 (by omega) (by omega)) ?_
        refine wa_lconst ?_
        refine wb_kl (n := 17) rfl ?_
        refine wa_cs (M2 := fun _ => False) rfl at_M_in ⟨_, rfl⟩ rfl rfl ⟨(Or.inr ⟨wy_pr rfl, fun q => q⟩), (Or.inr ⟨wy_pr rfl, fun q => q⟩), trivial, trivial⟩ trivial (fun _ _ q => False.elim q) (in_ok (S := (w_up (w_up (w_up (w_up (w_up (w_up (w_up (w_up (w_up (w_up (w_up (w_up (w_up (w_up (w_up (w_up (w_up (w_up (w_up S 237 0 0) 387 0 (S 237 3)) 387 1 (S 261 1)) 387 2 (S 261 11)) 387 3 (S 237 33)) 387 4 (S 237 34)) 387 5 (S 237 43)) 387 6 (S 237 47)) 387 7 (S 237 48)) 387 8 (S 237 16)) 387 9 (S 237 19)) 387 10 (S 237 68)) 387 11 (S 237 69)) 387 12 (S 237 87)) 387 13 (S 237 114)) 387 14 (S 237 115)) 387 15 (S 237 104)) 387 16 (S 237 106)) 387 17 (S 237 108))) (a := 9) (lo := 0) (hi := 17) ⟨by omega, by omega⟩ ⟨by omega, by omega⟩ ⟨by omega, by omega⟩) (fun oq82 Sq82 hp83 q82 => ?_)
        rcases q82 with ⟨rfl, ⟨rfl, hin81⟩ | ⟨rfl, hin81⟩⟩
        · skip
          show wJ _ _ _ _ _ _ _ _ _ _
          refine wa_ifeq (w_rg0 (by omega) (by omega)) ⟨_, rfl⟩ (fun c84 => ?_) (fun c84 => ?_)
          · skip
            exact absurd c84 (by omega)
          · skip
            refine wa_aload_n (n := 2) rfl ?_
            refine wa_iload_n (n := 1) rfl ?_
            refine wb_iald 387 rfl (wy_pr rfl) wt_387 (n := 18) ((w_up_at (by decide)).trans ((w_up_at (by decide)).trans ((w_up_at (by decide)).trans ((w_up_at (by decide)).trans ((w_up_at (by decide)).trans ((w_up_at (by decide)).trans ((w_up_at (by decide)).trans ((w_up_at (by decide)).trans ((w_up_at (by decide)).trans ((w_up_at (by decide)).trans ((w_up_at (by decide)).trans ((w_up_at (by decide)).trans ((w_up_at (by decide)).trans ((w_up_at (by decide)).trans ((w_up_at (by decide)).trans ((w_up_at (by decide)).trans ((w_up_at (by decide)).trans ((w_up_at (by decide)).trans ((w_up_slot (by decide)).trans (h387)))))))))))))))))))) (by omega) (by omega) (v := (S 237 19)) ((w_up_at (by decide)).trans ((w_up_at (by decide)).trans ((w_up_at (by decide)).trans ((w_up_at (by decide)).trans ((w_up_at (by decide)).trans ((w_up_at (by decide)).trans ((w_up_at (by decide)).trans ((w_up_at (by decide)).trans (w_up_same _ _ _ _))))))))) (fun r85 => ?_)
            refine wa_goto ⟨_, rfl⟩ ?_
            refine wa_ireturn rfl ?_
            refine ⟨fun j x j0 j1 => ?_, ?_, congrArg (fun z => Sum.inl (some (0, z))) ?_⟩
            · rcases (show j = 387 ∨ j ≠ 387 by omega) with e | e
              · subst e; rw [j0.resolve_left (fun z => z rfl)]; repeat rw [w_up_no (by omega)]
              · repeat rw [w_up_no (by omega)]
            · repeat rw [w_up_slot (by first | decide | omega)]
              first | exact w_up_same _ _ _ _ | omega
            · unfold cn_r
              repeat (first | rw [if_pos (by omega)] | rw [if_neg (by omega)])
              all_goals first | rfl | omega
        · skip
          show wJ _ _ _ _ _ _ _ _ _ _
          refine wa_ifeq (w_rg0 (by omega) (by omega)) ⟨_, rfl⟩ (fun c86 => ?_) (fun c86 => ?_)
          · skip
            refine wa_iconst ?_
            refine wa_fall ⟨_, rfl⟩ ?_
            refine wa_ireturn rfl ?_
            refine ⟨fun j x j0 j1 => ?_, ?_, congrArg (fun z => Sum.inl (some (0, z))) ?_⟩
            · rcases (show j = 387 ∨ j ≠ 387 by omega) with e | e
              · subst e; rw [j0.resolve_left (fun z => z rfl)]; repeat rw [w_up_no (by omega)]
              · repeat rw [w_up_no (by omega)]
            · repeat rw [w_up_slot (by first | decide | omega)]
              first | exact w_up_same _ _ _ _ | omega
            · unfold cn_r
              repeat (first | rw [if_pos (by omega)] | rw [if_neg (by omega)])
              all_goals first | rfl | omega
          · skip
            exact absurd c86 (by omega)
      · subst e
        refine wa_iload_n (n := 1) rfl ?_
        refine wa_i2l (w_rg0 (by omega) (by omega)) ?_
        refine wa_lconst ?_
        refine wb_kl (n := 17) rfl ?_
        refine wa_cs (M2 := fun _ => False) rfl at_M_in ⟨_, rfl⟩ rfl rfl ⟨(Or.inr ⟨wy_pr rfl, fun q => q⟩), (Or.inr ⟨wy_pr rfl, fun q => q⟩), trivial, trivial⟩ trivial (fun _ _ q => False.elim q) (in_ok (S := (w_up (w_up (w_up (w_up (w_up (w_up (w_up (w_up (w_up (w_up (w_up (w_up (w_up (w_up (w_up (w_up (w_up (w_up (w_up S 237 0 0) 387 0 (S 237 3)) 387 1 (S 261 1)) 387 2 (S 261 11)) 387 3 (S 237 33)) 387 4 (S 237 34)) 387 5 (S 237 43)) 387 6 (S 237 47)) 387 7 (S 237 48)) 387 8 (S 237 16)) 387 9 (S 237 19)) 387 10 (S 237 68)) 387 11 (S 237 69)) 387 12 (S 237 87)) 387 13 (S 237 114)) 387 14 (S 237 115)) 387 15 (S 237 104)) 387 16 (S 237 106)) 387 17 (S 237 108))) (a := 10) (lo := 0) (hi := 17) ⟨by omega, by omega⟩ ⟨by omega, by omega⟩ ⟨by omega, by omega⟩) (fun oq88 Sq88 hp89 q88 => ?_)
        rcases q88 with ⟨rfl, ⟨rfl, hin87⟩ | ⟨rfl, hin87⟩⟩
        · skip
          show wJ _ _ _ _ _ _ _ _ _ _
          refine wa_ifeq (w_rg0 (by omega) (by omega)) ⟨_, rfl⟩ (fun c90 => ?_) (fun c90 => ?_)
          · skip
            exact absurd c90 (by omega)
          · skip
            refine wa_aload_n (n := 2) rfl ?_
            refine wa_iload_n (n := 1) rfl ?_
            refine wb_iald 387 rfl (wy_pr rfl) wt_387 (n := 18) ((w_up_at (by decide)).trans ((w_up_at (by decide)).trans ((w_up_at (by decide)).trans ((w_up_at (by decide)).trans ((w_up_at (by decide)).trans ((w_up_at (by decide)).trans ((w_up_at (by decide)).trans ((w_up_at (by decide)).trans ((w_up_at (by decide)).trans ((w_up_at (by decide)).trans ((w_up_at (by decide)).trans ((w_up_at (by decide)).trans ((w_up_at (by decide)).trans ((w_up_at (by decide)).trans ((w_up_at (by decide)).trans ((w_up_at (by decide)).trans ((w_up_at (by decide)).trans ((w_up_at (by decide)).trans ((w_up_slot (by decide)).trans (h387)))))))))))))))))))) (by omega) (by omega) (v := (S 237 68)) ((w_up_at (by decide)).trans ((w_up_at (by decide)).trans ((w_up_at (by decide)).trans ((w_up_at (by decide)).trans ((w_up_at (by decide)).trans ((w_up_at (by decide)).trans ((w_up_at (by decide)).trans (w_up_same _ _ _ _)))))))) (fun r91 => ?_)
            refine wa_goto ⟨_, rfl⟩ ?_
            refine wa_ireturn rfl ?_
            refine ⟨fun j x j0 j1 => ?_, ?_, congrArg (fun z => Sum.inl (some (0, z))) ?_⟩
            · rcases (show j = 387 ∨ j ≠ 387 by omega) with e | e
              · subst e; rw [j0.resolve_left (fun z => z rfl)]; repeat rw [w_up_no (by omega)]
              · repeat rw [w_up_no (by omega)]
            · repeat rw [w_up_slot (by first | decide | omega)]
              first | exact w_up_same _ _ _ _ | omega
            · unfold cn_r
              repeat (first | rw [if_pos (by omega)] | rw [if_neg (by omega)])
              all_goals first | rfl | omega
        · skip
          show wJ _ _ _ _ _ _ _ _ _ _
          refine wa_ifeq (w_rg0 (by omega) (by omega)) ⟨_, rfl⟩ (fun c92 => ?_) (fun c92 => ?_)
          · skip
            refine wa_iconst ?_
            refine wa_fall ⟨_, rfl⟩ ?_
            refine wa_ireturn rfl ?_
            refine ⟨fun j x j0 j1 => ?_, ?_, congrArg (fun z => Sum.inl (some (0, z))) ?_⟩
            · rcases (show j = 387 ∨ j ≠ 387 by omega) with e | e
              · subst e; rw [j0.resolve_left (fun z => z rfl)]; repeat rw [w_up_no (by omega)]
              · repeat rw [w_up_no (by omega)]
            · repeat rw [w_up_slot (by first | decide | omega)]
              first | exact w_up_same _ _ _ _ | omega
            · unfold cn_r
              repeat (first | rw [if_pos (by omega)] | rw [if_neg (by omega)])
              all_goals first | rfl | omega
          · skip
            exact absurd c92 (by omega)
      · subst e
        refine wa_iload_n (n := 1) rfl ?_
        refine wa_i2l (w_rg0 (by omega) (by omega)) ?_
        refine wa_lconst ?_
        refine wb_kl (n := 17) rfl ?_
        refine wa_cs (M2 := fun _ => False) rfl at_M_in ⟨_, rfl⟩ rfl rfl ⟨(Or.inr ⟨wy_pr rfl, fun q => q⟩), (Or.inr ⟨wy_pr rfl, fun q => q⟩), trivial, trivial⟩ trivial (fun _ _ q => False.elim q) (in_ok (S := (w_up (w_up (w_up (w_up (w_up (w_up (w_up (w_up (w_up (w_up (w_up (w_up (w_up (w_up (w_up (w_up (w_up (w_up (w_up S 237 0 0) 387 0 (S 237 3)) 387 1 (S 261 1)) 387 2 (S 261 11)) 387 3 (S 237 33)) 387 4 (S 237 34)) 387 5 (S 237 43)) 387 6 (S 237 47)) 387 7 (S 237 48)) 387 8 (S 237 16)) 387 9 (S 237 19)) 387 10 (S 237 68)) 387 11 (S 237 69)) 387 12 (S 237 87)) 387 13 (S 237 114)) 387 14 (S 237 115)) 387 15 (S 237 104)) 387 16 (S 237 106)) 387 17 (S 237 108))) (a := 11) (lo := 0) (hi := 17) ⟨by omega, by omega⟩ ⟨by omega, by omega⟩ ⟨by omega, by omega⟩) (fun oq94 Sq94 hp95 q94 => ?_)
        rcases q94 with ⟨rfl, ⟨rfl, hin93⟩ | ⟨rfl, hin93⟩⟩
        · skip
          show wJ _ _ _ _ _ _ _ _ _ _
          refine wa_ifeq (w_rg0 (by omega) (by omega)) ⟨_, rfl⟩ (fun c96 => ?_) (fun c96 => ?_)
          · skip
            exact absurd c96 (by omega)
          · skip
            refine wa_aload_n (n := 2) rfl ?_
            refine wa_iload_n (n := 1) rfl ?_
            refine wb_iald 387 rfl (wy_pr rfl) wt_387 (n := 18) ((w_up_at (by decide)).trans ((w_up_at (by decide)).trans ((w_up_at (by decide)).trans ((w_up_at (by decide)).trans ((w_up_at (by decide)).trans ((w_up_at (by decide)).trans ((w_up_at (by decide)).trans ((w_up_at (by decide)).trans ((w_up_at (by decide)).trans ((w_up_at (by decide)).trans ((w_up_at (by decide)).trans ((w_up_at (by decide)).trans ((w_up_at (by decide)).trans ((w_up_at (by decide)).trans ((w_up_at (by decide)).trans ((w_up_at (by decide)).trans ((w_up_at (by decide)).trans ((w_up_at (by decide)).trans ((w_up_slot (by decide)).trans (h387)))))))))))))))))))) (by omega) (by omega) (v := (S 237 69)) ((w_up_at (by decide)).trans ((w_up_at (by decide)).trans ((w_up_at (by decide)).trans ((w_up_at (by decide)).trans ((w_up_at (by decide)).trans ((w_up_at (by decide)).trans (w_up_same _ _ _ _))))))) (fun r97 => ?_)
            refine wa_goto ⟨_, rfl⟩ ?_
            refine wa_ireturn rfl ?_
            refine ⟨fun j x j0 j1 => ?_, ?_, congrArg (fun z => Sum.inl (some (0, z))) ?_⟩
            · rcases (show j = 387 ∨ j ≠ 387 by omega) with e | e
              · subst e; rw [j0.resolve_left (fun z => z rfl)]; repeat rw [w_up_no (by omega)]
              · repeat rw [w_up_no (by omega)]
            · repeat rw [w_up_slot (by first | decide | omega)]
              first | exact w_up_same _ _ _ _ | omega
            · unfold cn_r
              repeat (first | rw [if_pos (by omega)] | rw [if_neg (by omega)])
              all_goals first | rfl | omega
        · skip
          show wJ _ _ _ _ _ _ _ _ _ _
          refine wa_ifeq (w_rg0 (by omega) (by omega)) ⟨_, rfl⟩ (fun c98 => ?_) (fun c98 => ?_)
          · skip
            refine wa_iconst ?_
            refine wa_fall ⟨_, rfl⟩ ?_
            refine wa_ireturn rfl ?_
            refine ⟨fun j x j0 j1 => ?_, ?_, congrArg (fun z => Sum.inl (some (0, z))) ?_⟩
            · rcases (show j = 387 ∨ j ≠ 387 by omega) with e | e
              · subst e; rw [j0.resolve_left (fun z => z rfl)]; repeat rw [w_up_no (by omega)]
              · repeat rw [w_up_no (by omega)]
            · repeat rw [w_up_slot (by first | decide | omega)]
              first | exact w_up_same _ _ _ _ | omega
            · unfold cn_r
              repeat (first | rw [if_pos (by omega)] | rw [if_neg (by omega)])
              all_goals first | rfl | omega
          · skip
            exact absurd c98 (by omega)
      · subst e
        refine wa_iload_n (n := 1) rfl ?_
        refine wa_i2l (w_rg0 (by omega) (by omega)) ?_
        refine wa_lconst ?_
        refine wb_kl (n := 17) rfl ?_
        refine wa_cs (M2 := fun _ => False) rfl at_M_in ⟨_, rfl⟩ rfl rfl ⟨(Or.inr ⟨wy_pr rfl, fun q => q⟩), (Or.inr ⟨wy_pr rfl, fun q => q⟩), trivial, trivial⟩ trivial (fun _ _ q => False.elim q) (in_ok (S := (w_up (w_up (w_up (w_up (w_up (w_up (w_up (w_up (w_up (w_up (w_up (w_up (w_up (w_up (w_up (w_up (w_up (w_up (w_up S 237 0 0) 387 0 (S 237 3)) 387 1 (S 261 1)) 387 2 (S 261 11)) 387 3 (S 237 33)) 387 4 (S 237 34)) 387 5 (S 237 43)) 387 6 (S 237 47)) 387 7 (S 237 48)) 387 8 (S 237 16)) 387 9 (S 237 19)) 387 10 (S 237 68)) 387 11 (S 237 69)) 387 12 (S 237 87)) 387 13 (S 237 114)) 387 14 (S 237 115)) 387 15 (S 237 104)) 387 16 (S 237 106)) 387 17 (S 237 108))) (a := 12) (lo := 0) (hi := 17) ⟨by omega, by omega⟩ ⟨by omega, by omega⟩ ⟨by omega, by omega⟩) (fun oq100 Sq100 hp101 q100 => ?_)
        rcases q100 with ⟨rfl, ⟨rfl, hin99⟩ | ⟨rfl, hin99⟩⟩
        · skip
          show wJ _ _ _ _ _ _ _ _ _ _
          refine wa_ifeq (w_rg0 (by omega) (by omega)) ⟨_, rfl⟩ (fun c102 => ?_) (fun c102 => ?_)
          · skip
            exact absurd c102 (by omega)
          · skip
            refine wa_aload_n (n := 2) rfl ?_
            refine wa_iload_n (n := 1) rfl ?_
            refine wb_iald 387 rfl (wy_pr rfl) wt_387 (n := 18) ((w_up_at (by decide)).trans ((w_up_at (by decide)).trans ((w_up_at (by decide)).trans ((w_up_at (by decide)).trans ((w_up_at (by decide)).trans ((w_up_at (by decide)).trans ((w_up_at (by decide)).trans ((w_up_at (by decide)).trans ((w_up_at (by decide)).trans ((w_up_at (by decide)).trans ((w_up_at (by decide)).trans ((w_up_at (by decide)).trans ((w_up_at (by decide)).trans ((w_up_at (by decide)).trans ((w_up_at (by decide)).trans ((w_up_at (by decide)).trans ((w_up_at (by decide)).trans ((w_up_at (by decide)).trans ((w_up_slot (by decide)).trans (h387)))))))))))))))))))) (by omega) (by omega) (v := (S 237 87)) ((w_up_at (by decide)).trans ((w_up_at (by decide)).trans ((w_up_at (by decide)).trans ((w_up_at (by decide)).trans ((w_up_at (by decide)).trans (w_up_same _ _ _ _)))))) (fun r103 => ?_)
            refine wa_goto ⟨_, rfl⟩ ?_
            refine wa_ireturn rfl ?_
            refine ⟨fun j x j0 j1 => ?_, ?_, congrArg (fun z => Sum.inl (some (0, z))) ?_⟩
            · rcases (show j = 387 ∨ j ≠ 387 by omega) with e | e
              · subst e; rw [j0.resolve_left (fun z => z rfl)]; repeat rw [w_up_no (by omega)]
              · repeat rw [w_up_no (by omega)]
            · repeat rw [w_up_slot (by first | decide | omega)]
              first | exact w_up_same _ _ _ _ | omega
            · unfold cn_r
              repeat (first | rw [if_pos (by omega)] | rw [if_neg (by omega)])
              all_goals first | rfl | omega
        · skip
          show wJ _ _ _ _ _ _ _ _ _ _
          refine wa_ifeq (w_rg0 (by omega) (by omega)) ⟨_, rfl⟩ (fun c104 => ?_) (fun c104 => ?_)
          · skip
            refine wa_iconst ?_
            refine wa_fall ⟨_, rfl⟩ ?_
            refine wa_ireturn rfl ?_
            refine ⟨fun j x j0 j1 => ?_, ?_, congrArg (fun z => Sum.inl (some (0, z))) ?_⟩
            · rcases (show j = 387 ∨ j ≠ 387 by omega) with e | e
              · subst e; rw [j0.resolve_left (fun z => z rfl)]; repeat rw [w_up_no (by omega)]
              · repeat rw [w_up_no (by omega)]
            · repeat rw [w_up_slot (by first | decide | omega)]
              first | exact w_up_same _ _ _ _ | omega
            · unfold cn_r
              repeat (first | rw [if_pos (by omega)] | rw [if_neg (by omega)])
              all_goals first | rfl | omega
          · skip
            exact absurd c104 (by omega)
      · subst e
        refine wa_iload_n (n := 1) rfl ?_
        refine wa_i2l (w_rg0 (by omega) (by omega)) ?_
        refine wa_lconst ?_
        refine wb_kl (n := 17) rfl ?_
        refine wa_cs (M2 := fun _ => False) rfl at_M_in ⟨_, rfl⟩ rfl rfl ⟨(Or.inr ⟨wy_pr rfl, fun q => q⟩), (Or.inr ⟨wy_pr rfl, fun q => q⟩), trivial, trivial⟩ trivial (fun _ _ q => False.elim q) (in_ok (S := (w_up (w_up (w_up (w_up (w_up (w_up (w_up (w_up (w_up (w_up (w_up (w_up (w_up (w_up (w_up (w_up (w_up (w_up (w_up S 237 0 0) 387 0 (S 237 3)) 387 1 (S 261 1)) 387 2 (S 261 11)) 387 3 (S 237 33)) 387 4 (S 237 34)) 387 5 (S 237 43)) 387 6 (S 237 47)) 387 7 (S 237 48)) 387 8 (S 237 16)) 387 9 (S 237 19)) 387 10 (S 237 68)) 387 11 (S 237 69)) 387 12 (S 237 87)) 387 13 (S 237 114)) 387 14 (S 237 115)) 387 15 (S 237 104)) 387 16 (S 237 106)) 387 17 (S 237 108))) (a := 13) (lo := 0) (hi := 17) ⟨by omega, by omega⟩ ⟨by omega, by omega⟩ ⟨by omega, by omega⟩) (fun oq106 Sq106 hp107 q106 => ?_)
        rcases q106 with ⟨rfl, ⟨rfl, hin105⟩ | ⟨rfl, hin105⟩⟩
        · skip
          show wJ _ _ _ _ _ _ _ _ _ _
          refine wa_ifeq (w_rg0 (by omega) (by omega)) ⟨_, rfl⟩ (fun c108 => ?_) (fun c108 => ?_)
          · skip
            exact absurd c108 (by omega)
          · skip
            refine wa_aload_n (n := 2) rfl ?_
            refine wa_iload_n (n := 1) rfl ?_
            refine wb_iald 387 rfl (wy_pr rfl) wt_387 (n := 18) ((w_up_at (by decide)).trans ((w_up_at (by decide)).trans ((w_up_at (by decide)).trans ((w_up_at (by decide)).trans ((w_up_at (by decide)).trans ((w_up_at (by decide)).trans ((w_up_at (by decide)).trans ((w_up_at (by decide)).trans ((w_up_at (by decide)).trans ((w_up_at (by decide)).trans ((w_up_at (by decide)).trans ((w_up_at (by decide)).trans ((w_up_at (by decide)).trans ((w_up_at (by decide)).trans ((w_up_at (by decide)).trans ((w_up_at (by decide)).trans ((w_up_at (by decide)).trans ((w_up_at (by decide)).trans ((w_up_slot (by decide)).trans (h387)))))))))))))))))))) (by omega) (by omega) (v := (S 237 114)) ((w_up_at (by decide)).trans ((w_up_at (by decide)).trans ((w_up_at (by decide)).trans ((w_up_at (by decide)).trans (w_up_same _ _ _ _))))) (fun r109 => ?_)
            refine wa_goto ⟨_, rfl⟩ ?_
            refine wa_ireturn rfl ?_
            refine ⟨fun j x j0 j1 => ?_, ?_, congrArg (fun z => Sum.inl (some (0, z))) ?_⟩
            · rcases (show j = 387 ∨ j ≠ 387 by omega) with e | e
              · subst e; rw [j0.resolve_left (fun z => z rfl)]; repeat rw [w_up_no (by omega)]
              · repeat rw [w_up_no (by omega)]
            · repeat rw [w_up_slot (by first | decide | omega)]
              first | exact w_up_same _ _ _ _ | omega
            · unfold cn_r
              repeat (first | rw [if_pos (by omega)] | rw [if_neg (by omega)])
              all_goals first | rfl | omega
        · skip
          show wJ _ _ _ _ _ _ _ _ _ _
          refine wa_ifeq (w_rg0 (by omega) (by omega)) ⟨_, rfl⟩ (fun c110 => ?_) (fun c110 => ?_)
          · skip
            refine wa_iconst ?_
            refine wa_fall ⟨_, rfl⟩ ?_
            refine wa_ireturn rfl ?_
            refine ⟨fun j x j0 j1 => ?_, ?_, congrArg (fun z => Sum.inl (some (0, z))) ?_⟩
            · rcases (show j = 387 ∨ j ≠ 387 by omega) with e | e
              · subst e; rw [j0.resolve_left (fun z => z rfl)]; repeat rw [w_up_no (by omega)]
              · repeat rw [w_up_no (by omega)]
            · repeat rw [w_up_slot (by first | decide | omega)]
              first | exact w_up_same _ _ _ _ | omega
            · unfold cn_r
              repeat (first | rw [if_pos (by omega)] | rw [if_neg (by omega)])
              all_goals first | rfl | omega
          · skip
            exact absurd c110 (by omega)
      · subst e
        refine wa_iload_n (n := 1) rfl ?_
        refine wa_i2l (w_rg0 (by omega) (by omega)) ?_
        refine wa_lconst ?_
        refine wb_kl (n := 17) rfl ?_
        refine wa_cs (M2 := fun _ => False) rfl at_M_in ⟨_, rfl⟩ rfl rfl ⟨(Or.inr ⟨wy_pr rfl, fun q => q⟩), (Or.inr ⟨wy_pr rfl, fun q => q⟩), trivial, trivial⟩ trivial (fun _ _ q => False.elim q) (in_ok (S := (w_up (w_up (w_up (w_up (w_up (w_up (w_up (w_up (w_up (w_up (w_up (w_up (w_up (w_up (w_up (w_up (w_up (w_up (w_up S 237 0 0) 387 0 (S 237 3)) 387 1 (S 261 1)) 387 2 (S 261 11)) 387 3 (S 237 33)) 387 4 (S 237 34)) 387 5 (S 237 43)) 387 6 (S 237 47)) 387 7 (S 237 48)) 387 8 (S 237 16)) 387 9 (S 237 19)) 387 10 (S 237 68)) 387 11 (S 237 69)) 387 12 (S 237 87)) 387 13 (S 237 114)) 387 14 (S 237 115)) 387 15 (S 237 104)) 387 16 (S 237 106)) 387 17 (S 237 108))) (a := 14) (lo := 0) (hi := 17) ⟨by omega, by omega⟩ ⟨by omega, by omega⟩ ⟨by omega, by omega⟩) (fun oq112 Sq112 hp113 q112 => ?_)
        rcases q112 with ⟨rfl, ⟨rfl, hin111⟩ | ⟨rfl, hin111⟩⟩
        · skip
          show wJ _ _ _ _ _ _ _ _ _ _
          refine wa_ifeq (w_rg0 (by omega) (by omega)) ⟨_, rfl⟩ (fun c114 => ?_) (fun c114 => ?_)
          · skip
            exact absurd c114 (by omega)
          · skip
            refine wa_aload_n (n := 2) rfl ?_
            refine wa_iload_n (n := 1) rfl ?_
            refine wb_iald 387 rfl (wy_pr rfl) wt_387 (n := 18) ((w_up_at (by decide)).trans ((w_up_at (by decide)).trans ((w_up_at (by decide)).trans ((w_up_at (by decide)).trans ((w_up_at (by decide)).trans ((w_up_at (by decide)).trans ((w_up_at (by decide)).trans ((w_up_at (by decide)).trans ((w_up_at (by decide)).trans ((w_up_at (by decide)).trans ((w_up_at (by decide)).trans ((w_up_at (by decide)).trans ((w_up_at (by decide)).trans ((w_up_at (by decide)).trans ((w_up_at (by decide)).trans ((w_up_at (by decide)).trans ((w_up_at (by decide)).trans ((w_up_at (by decide)).trans ((w_up_slot (by decide)).trans (h387)))))))))))))))))))) (by omega) (by omega) (v := (S 237 115)) ((w_up_at (by decide)).trans ((w_up_at (by decide)).trans ((w_up_at (by decide)).trans (w_up_same _ _ _ _)))) (fun r115 => ?_)
            refine wa_goto ⟨_, rfl⟩ ?_
            refine wa_ireturn rfl ?_
            refine ⟨fun j x j0 j1 => ?_, ?_, congrArg (fun z => Sum.inl (some (0, z))) ?_⟩
            · rcases (show j = 387 ∨ j ≠ 387 by omega) with e | e
              · subst e; rw [j0.resolve_left (fun z => z rfl)]; repeat rw [w_up_no (by omega)]
              · repeat rw [w_up_no (by omega)]
            · repeat rw [w_up_slot (by first | decide | omega)]
              first | exact w_up_same _ _ _ _ | omega
            · unfold cn_r
              repeat (first | rw [if_pos (by omega)] | rw [if_neg (by omega)])
              all_goals first | rfl | omega
        · skip
          show wJ _ _ _ _ _ _ _ _ _ _
          refine wa_ifeq (w_rg0 (by omega) (by omega)) ⟨_, rfl⟩ (fun c116 => ?_) (fun c116 => ?_)
          · skip
            refine wa_iconst ?_
            refine wa_fall ⟨_, rfl⟩ ?_
            refine wa_ireturn rfl ?_
            refine ⟨fun j x j0 j1 => ?_, ?_, congrArg (fun z => Sum.inl (some (0, z))) ?_⟩
            · rcases (show j = 387 ∨ j ≠ 387 by omega) with e | e
              · subst e; rw [j0.resolve_left (fun z => z rfl)]; repeat rw [w_up_no (by omega)]
              · repeat rw [w_up_no (by omega)]
            · repeat rw [w_up_slot (by first | decide | omega)]
              first | exact w_up_same _ _ _ _ | omega
            · unfold cn_r
              repeat (first | rw [if_pos (by omega)] | rw [if_neg (by omega)])
              all_goals first | rfl | omega
          · skip
            exact absurd c116 (by omega)
      · subst e
        refine wa_iload_n (n := 1) rfl ?_
        refine wa_i2l (w_rg0 (by omega) (by omega)) ?_
        refine wa_lconst ?_
        refine wb_kl (n := 17) rfl ?_
        refine wa_cs (M2 := fun _ => False) rfl at_M_in ⟨_, rfl⟩ rfl rfl ⟨(Or.inr ⟨wy_pr rfl, fun q => q⟩), (Or.inr ⟨wy_pr rfl, fun q => q⟩), trivial, trivial⟩ trivial (fun _ _ q => False.elim q) (in_ok (S := (w_up (w_up (w_up (w_up (w_up (w_up (w_up (w_up (w_up (w_up (w_up (w_up (w_up (w_up (w_up (w_up (w_up (w_up (w_up S 237 0 0) 387 0 (S 237 3)) 387 1 (S 261 1)) 387 2 (S 261 11)) 387 3 (S 237 33)) 387 4 (S 237 34)) 387 5 (S 237 43)) 387 6 (S 237 47)) 387 7 (S 237 48)) 387 8 (S 237 16)) 387 9 (S 237 19)) 387 10 (S 237 68)) 387 11 (S 237 69)) 387 12 (S 237 87)) 387 13 (S 237 114)) 387 14 (S 237 115)) 387 15 (S 237 104)) 387 16 (S 237 106)) 387 17 (S 237 108))) (a := 15) (lo := 0) (hi := 17) ⟨by omega, by omega⟩ ⟨by omega, by omega⟩ ⟨by omega, by omega⟩) (fun oq118 Sq118 hp119 q118 => ?_)
        rcases q118 with ⟨rfl, ⟨rfl, hin117⟩ | ⟨rfl, hin117⟩⟩
        · skip
          show wJ _ _ _ _ _ _ _ _ _ _
          refine wa_ifeq (w_rg0 (by omega) (by omega)) ⟨_, rfl⟩ (fun c120 => ?_) (fun c120 => ?_)
          · skip
            exact absurd c120 (by omega)
          · skip
            refine wa_aload_n (n := 2) rfl ?_
            refine wa_iload_n (n := 1) rfl ?_
            refine wb_iald 387 rfl (wy_pr rfl) wt_387 (n := 18) ((w_up_at (by decide)).trans ((w_up_at (by decide)).trans ((w_up_at (by decide)).trans ((w_up_at (by decide)).trans ((w_up_at (by decide)).trans ((w_up_at (by decide)).trans ((w_up_at (by decide)).trans ((w_up_at (by decide)).trans ((w_up_at (by decide)).trans ((w_up_at (by decide)).trans ((w_up_at (by decide)).trans ((w_up_at (by decide)).trans ((w_up_at (by decide)).trans ((w_up_at (by decide)).trans ((w_up_at (by decide)).trans ((w_up_at (by decide)).trans ((w_up_at (by decide)).trans ((w_up_at (by decide)).trans ((w_up_slot (by decide)).trans (h387)))))))))))))))))))) (by omega) (by omega) (v := (S 237 104)) ((w_up_at (by decide)).trans ((w_up_at (by decide)).trans (w_up_same _ _ _ _))) (fun r121 => ?_)
            refine wa_goto ⟨_, rfl⟩ ?_
            refine wa_ireturn rfl ?_
            refine ⟨fun j x j0 j1 => ?_, ?_, congrArg (fun z => Sum.inl (some (0, z))) ?_⟩
            · rcases (show j = 387 ∨ j ≠ 387 by omega) with e | e
              · subst e; rw [j0.resolve_left (fun z => z rfl)]; repeat rw [w_up_no (by omega)]
              · repeat rw [w_up_no (by omega)]
            · repeat rw [w_up_slot (by first | decide | omega)]
              first | exact w_up_same _ _ _ _ | omega
            · unfold cn_r
              repeat (first | rw [if_pos (by omega)] | rw [if_neg (by omega)])
              all_goals first | rfl | omega
        · skip
          show wJ _ _ _ _ _ _ _ _ _ _
          refine wa_ifeq (w_rg0 (by omega) (by omega)) ⟨_, rfl⟩ (fun c122 => ?_) (fun c122 => ?_)
          · skip
            refine wa_iconst ?_
            refine wa_fall ⟨_, rfl⟩ ?_
            refine wa_ireturn rfl ?_
            refine ⟨fun j x j0 j1 => ?_, ?_, congrArg (fun z => Sum.inl (some (0, z))) ?_⟩
            · rcases (show j = 387 ∨ j ≠ 387 by omega) with e | e
              · subst e; rw [j0.resolve_left (fun z => z rfl)]; repeat rw [w_up_no (by omega)]
              · repeat rw [w_up_no (by omega)]
            · repeat rw [w_up_slot (by first | decide | omega)]
              first | exact w_up_same _ _ _ _ | omega
            · unfold cn_r
              repeat (first | rw [if_pos (by omega)] | rw [if_neg (by omega)])
              all_goals first | rfl | omega
          · skip
            exact absurd c122 (by omega)
      · subst e
        refine wa_iload_n (n := 1) rfl ?_
        refine wa_i2l (w_rg0 (by omega) (by omega)) ?_
        refine wa_lconst ?_
        refine wb_kl (n := 17) rfl ?_
        refine wa_cs (M2 := fun _ => False) rfl at_M_in ⟨_, rfl⟩ rfl rfl ⟨(Or.inr ⟨wy_pr rfl, fun q => q⟩), (Or.inr ⟨wy_pr rfl, fun q => q⟩), trivial, trivial⟩ trivial (fun _ _ q => False.elim q) (in_ok (S := (w_up (w_up (w_up (w_up (w_up (w_up (w_up (w_up (w_up (w_up (w_up (w_up (w_up (w_up (w_up (w_up (w_up (w_up (w_up S 237 0 0) 387 0 (S 237 3)) 387 1 (S 261 1)) 387 2 (S 261 11)) 387 3 (S 237 33)) 387 4 (S 237 34)) 387 5 (S 237 43)) 387 6 (S 237 47)) 387 7 (S 237 48)) 387 8 (S 237 16)) 387 9 (S 237 19)) 387 10 (S 237 68)) 387 11 (S 237 69)) 387 12 (S 237 87)) 387 13 (S 237 114)) 387 14 (S 237 115)) 387 15 (S 237 104)) 387 16 (S 237 106)) 387 17 (S 237 108))) (a := 16) (lo := 0) (hi := 17) ⟨by omega, by omega⟩ ⟨by omega, by omega⟩ ⟨by omega, by omega⟩) (fun oq124 Sq124 hp125 q124 => ?_)
        rcases q124 with ⟨rfl, ⟨rfl, hin123⟩ | ⟨rfl, hin123⟩⟩
        · skip
          show wJ _ _ _ _ _ _ _ _ _ _
          refine wa_ifeq (w_rg0 (by omega) (by omega)) ⟨_, rfl⟩ (fun c126 => ?_) (fun c126 => ?_)
          · skip
            exact absurd c126 (by omega)
          · skip
            refine wa_aload_n (n := 2) rfl ?_
            refine wa_iload_n (n := 1) rfl ?_
            refine wb_iald 387 rfl (wy_pr rfl) wt_387 (n := 18) ((w_up_at (by decide)).trans ((w_up_at (by decide)).trans ((w_up_at (by decide)).trans ((w_up_at (by decide)).trans ((w_up_at (by decide)).trans ((w_up_at (by decide)).trans ((w_up_at (by decide)).trans ((w_up_at (by decide)).trans ((w_up_at (by decide)).trans ((w_up_at (by decide)).trans ((w_up_at (by decide)).trans ((w_up_at (by decide)).trans ((w_up_at (by decide)).trans ((w_up_at (by decide)).trans ((w_up_at (by decide)).trans ((w_up_at (by decide)).trans ((w_up_at (by decide)).trans ((w_up_at (by decide)).trans ((w_up_slot (by decide)).trans (h387)))))))))))))))))))) (by omega) (by omega) (v := (S 237 106)) ((w_up_at (by decide)).trans (w_up_same _ _ _ _)) (fun r127 => ?_)
            refine wa_goto ⟨_, rfl⟩ ?_
            refine wa_ireturn rfl ?_
            refine ⟨fun j x j0 j1 => ?_, ?_, congrArg (fun z => Sum.inl (some (0, z))) ?_⟩
            · rcases (show j = 387 ∨ j ≠ 387 by omega) with e | e
              · subst e; rw [j0.resolve_left (fun z => z rfl)]; repeat rw [w_up_no (by omega)]
              · repeat rw [w_up_no (by omega)]
            · repeat rw [w_up_slot (by first | decide | omega)]
              first | exact w_up_same _ _ _ _ | omega
            · unfold cn_r
              repeat (first | rw [if_pos (by omega)] | rw [if_neg (by omega)])
              all_goals first | rfl | omega
        · skip
          show wJ _ _ _ _ _ _ _ _ _ _
          refine wa_ifeq (w_rg0 (by omega) (by omega)) ⟨_, rfl⟩ (fun c128 => ?_) (fun c128 => ?_)
          · skip
            refine wa_iconst ?_
            refine wa_fall ⟨_, rfl⟩ ?_
            refine wa_ireturn rfl ?_
            refine ⟨fun j x j0 j1 => ?_, ?_, congrArg (fun z => Sum.inl (some (0, z))) ?_⟩
            · rcases (show j = 387 ∨ j ≠ 387 by omega) with e | e
              · subst e; rw [j0.resolve_left (fun z => z rfl)]; repeat rw [w_up_no (by omega)]
              · repeat rw [w_up_no (by omega)]
            · repeat rw [w_up_slot (by first | decide | omega)]
              first | exact w_up_same _ _ _ _ | omega
            · unfold cn_r
              repeat (first | rw [if_pos (by omega)] | rw [if_neg (by omega)])
              all_goals first | rfl | omega
          · skip
            exact absurd c128 (by omega)
      · subst e
        refine wa_iload_n (n := 1) rfl ?_
        refine wa_i2l (w_rg0 (by omega) (by omega)) ?_
        refine wa_lconst ?_
        refine wb_kl (n := 17) rfl ?_
        refine wa_cs (M2 := fun _ => False) rfl at_M_in ⟨_, rfl⟩ rfl rfl ⟨(Or.inr ⟨wy_pr rfl, fun q => q⟩), (Or.inr ⟨wy_pr rfl, fun q => q⟩), trivial, trivial⟩ trivial (fun _ _ q => False.elim q) (in_ok (S := (w_up (w_up (w_up (w_up (w_up (w_up (w_up (w_up (w_up (w_up (w_up (w_up (w_up (w_up (w_up (w_up (w_up (w_up (w_up S 237 0 0) 387 0 (S 237 3)) 387 1 (S 261 1)) 387 2 (S 261 11)) 387 3 (S 237 33)) 387 4 (S 237 34)) 387 5 (S 237 43)) 387 6 (S 237 47)) 387 7 (S 237 48)) 387 8 (S 237 16)) 387 9 (S 237 19)) 387 10 (S 237 68)) 387 11 (S 237 69)) 387 12 (S 237 87)) 387 13 (S 237 114)) 387 14 (S 237 115)) 387 15 (S 237 104)) 387 16 (S 237 106)) 387 17 (S 237 108))) (a := 17) (lo := 0) (hi := 17) ⟨by omega, by omega⟩ ⟨by omega, by omega⟩ ⟨by omega, by omega⟩) (fun oq130 Sq130 hp131 q130 => ?_)
        rcases q130 with ⟨rfl, ⟨rfl, hin129⟩ | ⟨rfl, hin129⟩⟩
        · skip
          show wJ _ _ _ _ _ _ _ _ _ _
          refine wa_ifeq (w_rg0 (by omega) (by omega)) ⟨_, rfl⟩ (fun c132 => ?_) (fun c132 => ?_)
          · skip
            exact absurd c132 (by omega)
          · skip
            refine wa_aload_n (n := 2) rfl ?_
            refine wa_iload_n (n := 1) rfl ?_
            refine wb_iald 387 rfl (wy_pr rfl) wt_387 (n := 18) ((w_up_at (by decide)).trans ((w_up_at (by decide)).trans ((w_up_at (by decide)).trans ((w_up_at (by decide)).trans ((w_up_at (by decide)).trans ((w_up_at (by decide)).trans ((w_up_at (by decide)).trans ((w_up_at (by decide)).trans ((w_up_at (by decide)).trans ((w_up_at (by decide)).trans ((w_up_at (by decide)).trans ((w_up_at (by decide)).trans ((w_up_at (by decide)).trans ((w_up_at (by decide)).trans ((w_up_at (by decide)).trans ((w_up_at (by decide)).trans ((w_up_at (by decide)).trans ((w_up_at (by decide)).trans ((w_up_slot (by decide)).trans (h387)))))))))))))))))))) (by omega) (by omega) (v := (S 237 108)) (w_up_same _ _ _ _) (fun r133 => ?_)
            refine wa_goto ⟨_, rfl⟩ ?_
            refine wa_ireturn rfl ?_
            refine ⟨fun j x j0 j1 => ?_, ?_, congrArg (fun z => Sum.inl (some (0, z))) ?_⟩
            · rcases (show j = 387 ∨ j ≠ 387 by omega) with e | e
              · subst e; rw [j0.resolve_left (fun z => z rfl)]; repeat rw [w_up_no (by omega)]
              · repeat rw [w_up_no (by omega)]
            · repeat rw [w_up_slot (by first | decide | omega)]
              first | exact w_up_same _ _ _ _ | omega
            · unfold cn_r
              repeat (first | rw [if_pos (by omega)] | rw [if_neg (by omega)])
              all_goals first | rfl | omega
        · skip
          show wJ _ _ _ _ _ _ _ _ _ _
          refine wa_ifeq (w_rg0 (by omega) (by omega)) ⟨_, rfl⟩ (fun c134 => ?_) (fun c134 => ?_)
          · skip
            refine wa_iconst ?_
            refine wa_fall ⟨_, rfl⟩ ?_
            refine wa_ireturn rfl ?_
            refine ⟨fun j x j0 j1 => ?_, ?_, congrArg (fun z => Sum.inl (some (0, z))) ?_⟩
            · rcases (show j = 387 ∨ j ≠ 387 by omega) with e | e
              · subst e; rw [j0.resolve_left (fun z => z rfl)]; repeat rw [w_up_no (by omega)]
              · repeat rw [w_up_no (by omega)]
            · repeat rw [w_up_slot (by first | decide | omega)]
              first | exact w_up_same _ _ _ _ | omega
            · unfold cn_r
              repeat (first | rw [if_pos (by omega)] | rw [if_neg (by omega)])
              all_goals first | rfl | omega
          · skip
            exact absurd c134 (by omega)
      ·
        refine wa_iload_n (n := 1) rfl ?_
        refine wa_i2l (w_rg0 (by omega) (by omega)) ?_
        refine wa_lconst ?_
        refine wb_kl (n := 17) rfl ?_
        refine wa_cs (M2 := fun _ => False) rfl at_M_in ⟨_, rfl⟩ rfl rfl ⟨(Or.inr ⟨wy_pr rfl, fun q => q⟩), (Or.inr ⟨wy_pr rfl, fun q => q⟩), trivial, trivial⟩ trivial (fun _ _ q => False.elim q) (in_ok (S := (w_up (w_up (w_up (w_up (w_up (w_up (w_up (w_up (w_up (w_up (w_up (w_up (w_up (w_up (w_up (w_up (w_up (w_up (w_up S 237 0 0) 387 0 (S 237 3)) 387 1 (S 261 1)) 387 2 (S 261 11)) 387 3 (S 237 33)) 387 4 (S 237 34)) 387 5 (S 237 43)) 387 6 (S 237 47)) 387 7 (S 237 48)) 387 8 (S 237 16)) 387 9 (S 237 19)) 387 10 (S 237 68)) 387 11 (S 237 69)) 387 12 (S 237 87)) 387 13 (S 237 114)) 387 14 (S 237 115)) 387 15 (S 237 104)) 387 16 (S 237 106)) 387 17 (S 237 108))) (a := wh) (lo := 0) (hi := 17) ⟨by omega, by omega⟩ ⟨by omega, by omega⟩ ⟨by omega, by omega⟩) (fun oq136 Sq136 hp137 q136 => ?_)
        rcases q136 with ⟨rfl, ⟨rfl, hin135⟩ | ⟨rfl, hin135⟩⟩
        · skip
          show wJ _ _ _ _ _ _ _ _ _ _
          refine wa_ifeq (w_rg0 (by omega) (by omega)) ⟨_, rfl⟩ (fun c138 => ?_) (fun c138 => ?_)
          · skip
            exact absurd c138 (by omega)
          · skip
            refine wa_aload_n (n := 2) rfl ?_
            refine wa_iload_n (n := 1) rfl ?_
            refine wb_iald 387 rfl (wy_pr rfl) wt_387 (n := 18) ((w_up_at (by decide)).trans ((w_up_at (by decide)).trans ((w_up_at (by decide)).trans ((w_up_at (by decide)).trans ((w_up_at (by decide)).trans ((w_up_at (by decide)).trans ((w_up_at (by decide)).trans ((w_up_at (by decide)).trans ((w_up_at (by decide)).trans ((w_up_at (by decide)).trans ((w_up_at (by decide)).trans ((w_up_at (by decide)).trans ((w_up_at (by decide)).trans ((w_up_at (by decide)).trans ((w_up_at (by decide)).trans ((w_up_at (by decide)).trans ((w_up_at (by decide)).trans ((w_up_at (by decide)).trans ((w_up_slot (by decide)).trans (h387)))))))))))))))))))) (by omega) (by omega) (v := ((w_up (w_up (w_up (w_up (w_up (w_up (w_up (w_up (w_up (w_up (w_up (w_up (w_up (w_up (w_up (w_up (w_up (w_up (w_up S 237 0 0) 387 0 (S 237 3)) 387 1 (S 261 1)) 387 2 (S 261 11)) 387 3 (S 237 33)) 387 4 (S 237 34)) 387 5 (S 237 43)) 387 6 (S 237 47)) 387 7 (S 237 48)) 387 8 (S 237 16)) 387 9 (S 237 19)) 387 10 (S 237 68)) 387 11 (S 237 69)) 387 12 (S 237 87)) 387 13 (S 237 114)) 387 14 (S 237 115)) 387 15 (S 237 104)) 387 16 (S 237 106)) 387 17 (S 237 108)) 387 wh)) rfl (fun r139 => ?_)
            refine wa_goto ⟨_, rfl⟩ ?_
            refine wa_ireturn rfl ?_
            refine ⟨fun j x j0 j1 => ?_, ?_, congrArg (fun z => Sum.inl (some (0, z))) ?_⟩
            · rcases (show j = 387 ∨ j ≠ 387 by omega) with e | e
              · subst e; rw [j0.resolve_left (fun z => z rfl)]; repeat rw [w_up_no (by omega)]
              · repeat rw [w_up_no (by omega)]
            · repeat rw [w_up_slot (by first | decide | omega)]
              first | exact w_up_same _ _ _ _ | omega
            · unfold cn_r
              repeat (first | rw [if_pos (by omega)] | rw [if_neg (by omega)])
              all_goals first | rfl | omega
        · skip
          show wJ _ _ _ _ _ _ _ _ _ _
          refine wa_ifeq (w_rg0 (by omega) (by omega)) ⟨_, rfl⟩ (fun c140 => ?_) (fun c140 => ?_)
          · skip
            refine wa_iconst ?_
            refine wa_fall ⟨_, rfl⟩ ?_
            refine wa_ireturn rfl ?_
            refine ⟨fun j x j0 j1 => ?_, ?_, congrArg (fun z => Sum.inl (some (0, z))) ?_⟩
            · rcases (show j = 387 ∨ j ≠ 387 by omega) with e | e
              · subst e; rw [j0.resolve_left (fun z => z rfl)]; repeat rw [w_up_no (by omega)]
              · repeat rw [w_up_no (by omega)]
            · repeat rw [w_up_slot (by first | decide | omega)]
              first | exact w_up_same _ _ _ _ | omega
            · unfold cn_r
              repeat (first | rw [if_pos (by omega)] | rw [if_neg (by omega)])
              all_goals first | rfl | omega
          · skip
            exact absurd c140 (by omega)
      ·
        refine wa_iload_n (n := 1) rfl ?_
        refine wa_i2l (w_rg0 (by omega) (by omega)) ?_
        refine wa_lconst ?_
        refine wb_kl (n := 17) rfl ?_
        refine wa_cs (M2 := fun _ => False) rfl at_M_in ⟨_, rfl⟩ rfl rfl ⟨(Or.inr ⟨wy_pr rfl, fun q => q⟩), (Or.inr ⟨wy_pr rfl, fun q => q⟩), trivial, trivial⟩ trivial (fun _ _ q => False.elim q) (in_ok (S := (w_up (w_up (w_up (w_up (w_up (w_up (w_up (w_up (w_up (w_up (w_up (w_up (w_up (w_up (w_up (w_up (w_up (w_up (w_up S 237 0 0) 387 0 (S 237 3)) 387 1 (S 261 1)) 387 2 (S 261 11)) 387 3 (S 237 33)) 387 4 (S 237 34)) 387 5 (S 237 43)) 387 6 (S 237 47)) 387 7 (S 237 48)) 387 8 (S 237 16)) 387 9 (S 237 19)) 387 10 (S 237 68)) 387 11 (S 237 69)) 387 12 (S 237 87)) 387 13 (S 237 114)) 387 14 (S 237 115)) 387 15 (S 237 104)) 387 16 (S 237 106)) 387 17 (S 237 108))) (a := wh) (lo := 0) (hi := 17) ⟨by omega, by omega⟩ ⟨by omega, by omega⟩ ⟨by omega, by omega⟩) (fun oq142 Sq142 hp143 q142 => ?_)
        rcases q142 with ⟨rfl, ⟨rfl, hin141⟩ | ⟨rfl, hin141⟩⟩
        · skip
          show wJ _ _ _ _ _ _ _ _ _ _
          refine wa_ifeq (w_rg0 (by omega) (by omega)) ⟨_, rfl⟩ (fun c144 => ?_) (fun c144 => ?_)
          · skip
            exact absurd c144 (by omega)
          · skip
            refine wa_aload_n (n := 2) rfl ?_
            refine wa_iload_n (n := 1) rfl ?_
            refine wb_iald 387 rfl (wy_pr rfl) wt_387 (n := 18) ((w_up_at (by decide)).trans ((w_up_at (by decide)).trans ((w_up_at (by decide)).trans ((w_up_at (by decide)).trans ((w_up_at (by decide)).trans ((w_up_at (by decide)).trans ((w_up_at (by decide)).trans ((w_up_at (by decide)).trans ((w_up_at (by decide)).trans ((w_up_at (by decide)).trans ((w_up_at (by decide)).trans ((w_up_at (by decide)).trans ((w_up_at (by decide)).trans ((w_up_at (by decide)).trans ((w_up_at (by decide)).trans ((w_up_at (by decide)).trans ((w_up_at (by decide)).trans ((w_up_at (by decide)).trans ((w_up_slot (by decide)).trans (h387)))))))))))))))))))) (by omega) (by omega) (v := ((w_up (w_up (w_up (w_up (w_up (w_up (w_up (w_up (w_up (w_up (w_up (w_up (w_up (w_up (w_up (w_up (w_up (w_up (w_up S 237 0 0) 387 0 (S 237 3)) 387 1 (S 261 1)) 387 2 (S 261 11)) 387 3 (S 237 33)) 387 4 (S 237 34)) 387 5 (S 237 43)) 387 6 (S 237 47)) 387 7 (S 237 48)) 387 8 (S 237 16)) 387 9 (S 237 19)) 387 10 (S 237 68)) 387 11 (S 237 69)) 387 12 (S 237 87)) 387 13 (S 237 114)) 387 14 (S 237 115)) 387 15 (S 237 104)) 387 16 (S 237 106)) 387 17 (S 237 108)) 387 wh)) rfl (fun r145 => ?_)
            refine wa_goto ⟨_, rfl⟩ ?_
            refine wa_ireturn rfl ?_
            refine ⟨fun j x j0 j1 => ?_, ?_, congrArg (fun z => Sum.inl (some (0, z))) ?_⟩
            · rcases (show j = 387 ∨ j ≠ 387 by omega) with e | e
              · subst e; rw [j0.resolve_left (fun z => z rfl)]; repeat rw [w_up_no (by omega)]
              · repeat rw [w_up_no (by omega)]
            · repeat rw [w_up_slot (by first | decide | omega)]
              first | exact w_up_same _ _ _ _ | omega
            · unfold cn_r
              repeat (first | rw [if_pos (by omega)] | rw [if_neg (by omega)])
              all_goals first | rfl | omega
        · skip
          show wJ _ _ _ _ _ _ _ _ _ _
          refine wa_ifeq (w_rg0 (by omega) (by omega)) ⟨_, rfl⟩ (fun c146 => ?_) (fun c146 => ?_)
          · skip
            refine wa_iconst ?_
            refine wa_fall ⟨_, rfl⟩ ?_
            refine wa_ireturn rfl ?_
            refine ⟨fun j x j0 j1 => ?_, ?_, congrArg (fun z => Sum.inl (some (0, z))) ?_⟩
            · rcases (show j = 387 ∨ j ≠ 387 by omega) with e | e
              · subst e; rw [j0.resolve_left (fun z => z rfl)]; repeat rw [w_up_no (by omega)]
              · repeat rw [w_up_no (by omega)]
            · repeat rw [w_up_slot (by first | decide | omega)]
              first | exact w_up_same _ _ _ _ | omega
            · unfold cn_r
              repeat (first | rw [if_pos (by omega)] | rw [if_neg (by omega)])
              all_goals first | rfl | omega
          · skip
            exact absurd c146 (by omega)
    · skip
      exact absurd c26 (by omega)
end Wif
