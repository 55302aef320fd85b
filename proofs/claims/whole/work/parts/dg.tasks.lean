/-! PART dg: tasks as both have them; task, output, trace. -/
section Wdg
variable {xs : List (Nat × List Int32)} {M : Nat → Prop} {d : Nat} {S Z : wS}
/-- a call that runs: function, next, its number, this, what was made or -1, the pile's height and the tries below it -/
abbrev aF : Type := Int × Int × Int × aV × Int × Nat × Nat
/-- a try: the call's place, where to go on, the pile's height -/
abbrev aY : Type := Nat × Int × Nat
/-- a task: pile, calls, tries, state, result -/
abbrev aK : Type := List aV × List aF × List aY × Int × aV
/-- a task of the class, in the slots from w on -/
def cTk (w : Nat) (S : wS) (K : aK) : Prop := (S (w + 1) 2 = (K.1.length : Int) ∧ cR1 S (w + 2) (w + 3) 0 K.1 ∧ ((K.1.length : Int) ≤ S (w + 2) (-1) ∧ S (w + 3) (-1) = S (w + 2) (-1) ∧ 64 ≤ S (w + 2) (-1) ∧ S (w + 2) (-1) ≤ 4095)) ∧ (S w 4 = (K.2.1.length : Int) ∧ K.2.1.length ≤ 200 ∧ ∀ i : Nat, i < K.2.1.length → (S (w + 4) i = (K.2.1.getD i (0, 0, 0, (0, 0, []), 0, 0, 0)).1 ∧ S (w + 5) i = (K.2.1.getD i (0, 0, 0, (0, 0, []), 0, 0, 0)).2.1 ∧ S (w + 6) i = (K.2.1.getD i (0, 0, 0, (0, 0, []), 0, 0, 0)).2.2.1) ∧ cVl S (S (w + 7) i) (S (w + 8) i) (K.2.1.getD i (0, 0, 0, (0, 0, []), 0, 0, 0)).2.2.2.1 ∧ (((K.2.1.getD i (0, 0, 0, (0, 0, []), 0, 0, 0)).2.2.2.2.1 = -1 ∧ S (w + 9) i = 0) ∨ (0 ≤ (K.2.1.getD i (0, 0, 0, (0, 0, []), 0, 0, 0)).2.2.2.2.1 ∧ S (w + 9) i = 1 ∧ (K.2.1.getD i (0, 0, 0, (0, 0, []), 0, 0, 0)).2.2.2.1 = (4, (K.2.1.getD i (0, 0, 0, (0, 0, []), 0, 0, 0)).2.2.2.2.1, [])))) ∧ (S w 12 = 3 * (K.2.2.1.length : Int) ∧ 3 * (K.2.2.1.length : Int) ≤ S (w + 10) (-1) ∧ 48 ≤ S (w + 10) (-1) ∧ S (w + 10) (-1) ≤ 60000 ∧ ∀ i : Nat, i < K.2.2.1.length → S (w + 10) (3 * (i : Int)) = ((K.2.2.1.getD i (0, 0, 0)).1 : Int) + 1 ∧ S (w + 10) (3 * (i : Int) + 1) = (K.2.2.1.getD i (0, 0, 0)).2.1 ∧ S (w + 10) (3 * (i : Int) + 2) = ((K.2.2.1.getD i (0, 0, 0)).2.2 : Int)) ∧ S w 13 = K.2.2.2.1 ∧ (K.2.2.2.1 = 2 ∨ K.2.2.2.1 = 3 → cVl S (S w 14) (S w 15) K.2.2.2.2)
/-- a task of the reference -/
def rTk (t : Int) (S : wS) (K : aK) : Prop := (S 359 t = (K.1.length : Int) ∧ rR1 S 363 364 (2100 * t) K.1) ∧ (S 358 t = (K.2.1.length : Int) ∧ ∀ i : Nat, i < K.2.1.length → (S 365 (200 * t + (i : Int)) = (K.2.1.getD i (0, 0, 0, (0, 0, []), 0, 0, 0)).1 ∧ S 366 (200 * t + (i : Int)) = (K.2.1.getD i (0, 0, 0, (0, 0, []), 0, 0, 0)).2.1 ∧ S 367 (200 * t + (i : Int)) = (K.2.1.getD i (0, 0, 0, (0, 0, []), 0, 0, 0)).2.2.1) ∧ rVl S (S 368 (200 * t + (i : Int))) (S 369 (200 * t + (i : Int))) (K.2.1.getD i (0, 0, 0, (0, 0, []), 0, 0, 0)).2.2.2.1 ∧ S 370 (200 * t + (i : Int)) = (K.2.1.getD i (0, 0, 0, (0, 0, []), 0, 0, 0)).2.2.2.2.1 ∧ S 371 (200 * t + (i : Int)) = ((K.2.1.getD i (0, 0, 0, (0, 0, []), 0, 0, 0)).2.2.2.2.2.1 : Int) ∧ S 372 (200 * t + (i : Int)) = ((K.2.1.getD i (0, 0, 0, (0, 0, []), 0, 0, 0)).2.2.2.2.2.2 : Int)) ∧ (S 360 t = (K.2.2.1.length : Int) ∧ K.2.2.1.length ≤ 10000 ∧ ∀ i : Nat, i < K.2.2.1.length → S 373 (10000 * t + (i : Int)) = (K.2.2.1.getD i (0, 0, 0)).2.1 ∧ S 374 (10000 * t + (i : Int)) = ((K.2.2.1.getD i (0, 0, 0)).2.2 : Int) ∧ S 375 (10000 * t + (i : Int)) = ((K.2.2.1.getD i (0, 0, 0)).1 : Int)) ∧ S 357 t = K.2.2.2.1 ∧ (K.2.2.2.1 = 2 ∨ K.2.2.2.1 = 3 → rVl S (S 361 t) (S 362 t) K.2.2.2.2)
/-- what is told of a task -/
def tk_v (K : aK) (wh : Int) : Int := if wh = 0 then K.2.2.2.1 else if wh = 1 then (K.2.1.length : Int) else if wh = 2 then (K.1.length : Int) else if wh = 3 then (if 0 < K.2.1.length then (K.2.1.getD (K.2.1.length - 1) (0, 0, 0, (0, 0, []), 0, 0, 0)).1 else -1) else if wh = 4 then (if 0 < K.2.1.length then (K.2.1.getD (K.2.1.length - 1) (0, 0, 0, (0, 0, []), 0, 0, 0)).2.1 else -1) else -1
def tk_w (K0 K1 : aK) (t wh : Int) : Int := if t = 0 then tk_v K0 wh else if t = 1 then tk_v K1 wh else -1
def tk_c (w : Nat) (S : wS) (wh : Int) : Int := if wh = 0 then S w 13 else if wh = 1 then S w 4 else if wh = 2 then S (w + 1) 2 else if wh = 3 then (if 0 < S w 4 then S (w + 4) (S w 4 - 1) else -1) else if wh = 4 then (if 0 < S w 4 then S (w + 5) (S w 4 - 1) else -1) else -1
def tk_r (S : wS) (t wh : Int) : Int := if wh = 0 then S 357 t else if wh = 1 then S 358 t else if wh = 2 then S 359 t else if wh = 3 then (if 0 < S 358 t then S 365 (200 * t + S 358 t - 1) else -1) else if wh = 4 then (if 0 < S 358 t then S 366 (200 * t + S 358 t - 1) else -1) else -1
theorem tk_ce {w : Nat} {K : aK} {wh : Int} (h : cTk w S K) : tk_c w S wh = tk_v K wh := by
  obtain ⟨⟨a1, -⟩, ⟨b1, b2, b3⟩, -, c1, -⟩ := h
  unfold tk_c tk_v
  rw [a1, b1, c1]
  by_cases e : 0 < K.2.1.length
  · obtain ⟨⟨d1, d2, -⟩, -⟩ := b3 (K.2.1.length - 1) (by omega)
    rw [show ((K.2.1.length - 1 : Nat) : Int) = (K.2.1.length : Int) - 1 by omega] at d1 d2
    rw [if_pos e, if_pos e, if_pos (show (0 : Int) < (K.2.1.length : Int) by omega), if_pos (show (0 : Int) < (K.2.1.length : Int) by omega), d1, d2]
  · rw [if_neg e, if_neg e, if_neg (show ¬ (0 : Int) < (K.2.1.length : Int) by omega), if_neg (show ¬ (0 : Int) < (K.2.1.length : Int) by omega)]
theorem tk_re {K : aK} {t wh : Int} (h : rTk t S K) : tk_r S t wh = tk_v K wh := by
  obtain ⟨⟨a1, -⟩, ⟨b1, b3⟩, -, c1, -⟩ := h
  unfold tk_r tk_v
  rw [a1, b1, c1]
  by_cases e : 0 < K.2.1.length
  · obtain ⟨⟨d1, d2, -⟩, -⟩ := b3 (K.2.1.length - 1) (by omega)
    rw [show 200 * t + ((K.2.1.length - 1 : Nat) : Int) = 200 * t + (K.2.1.length : Int) - 1 by omega] at d1 d2
    rw [if_pos e, if_pos e, if_pos (show (0 : Int) < (K.2.1.length : Int) by omega), if_pos (show (0 : Int) < (K.2.1.length : Int) by omega), d1, d2]
  · rw [if_neg e, if_neg e, if_neg (show ¬ (0 : Int) < (K.2.1.length : Int) by omega), if_neg (show ¬ (0 : Int) < (K.2.1.length : Int) by omega)]
theorem xtk {t wh : Int} (hC : w_CL S) (h161 : S 161 (-1) = 2 ∧ S 161 0 = 215 ∧ S 161 1 = 226) (h0 : 0 ≤ S 215 4 ∧ S 215 4 ≤ 200) (h1 : 0 ≤ S 226 4 ∧ S 226 4 ≤ 200) (ht : -2147483648 ≤ t ∧ t ≤ 2147483647) (hwh : -2147483648 ≤ wh ∧ wh ≤ 2147483647) : wJ (pe_GA xs) wY0 M d t_X_task ((pe_at t_X_task.bl 0).getD (0, [])).2 [(0, (2, 0)), (1, (0, t)), (2, (0, wh))] [] S (fun o Z => S = Z ∧ o = .inl (some (0, if t = 0 then tk_c 215 S wh else if t = 1 then tk_c 226 S wh else -1))) := by
  refine wa_iload_n (n := 1) rfl ?_
  refine wa_iflt (w_rg0 (by omega) (by omega)) ⟨_, rfl⟩ (fun c1 => ?_) (fun c1 => ?_)
  · skip
    refine wa_iconst ?_
    refine wa_ireturn rfl ?_
    refine ⟨rfl, congrArg (fun z => Sum.inl (some (0, z))) ?_⟩
    unfold tk_c
    repeat (first | rw [if_pos (by omega)] | rw [if_neg (by omega)])
    all_goals rfl
  · skip
    refine wa_iload_n (n := 1) rfl ?_
    refine wa_iconst ?_
    refine wa_icmplt (w_rg0 (by omega) (by omega)) (w_rg0 (by omega) (by omega)) ⟨_, rfl⟩ (fun c2 => ?_) (fun c2 => ?_)
    · skip
      rcases (show t = 0 ∨ t = 1 by omega) with e | e
      · subst e
        refine wa_aload_n (n := 0) rfl ?_
        refine wb_gf4 0 rfl (wy_pr rfl) wt_0 wf_10_9 (v := 161) wl_0_9 ?_
        refine wa_iload_n (n := 1) rfl ?_
        refine wb_aald14 161 rfl (wy_pr rfl) wt_161 (by omega) (n := 2) (h161.1) (by omega) (v := 215) (h161.2.1) ?_
        refine wa_astore_n (n := 3) rfl ?_
        refine wa_iload_n (n := 2) rfl ?_
        by_cases c3 : wh = 0
        · refine wb_sw (w_rg0 (by omega) (by omega)) (tb := 3) (by rw [c3]; rfl) ⟨_, rfl⟩ ?_
          refine wa_aload_n (n := 3) rfl ?_
          refine wb_gfi 215 rfl (wy_pr rfl) wt_215 wf_8_13 (v := (S 215 13)) rfl (fun r4 => ?_)
          refine wa_ireturn rfl ?_
          refine ⟨rfl, congrArg (fun z => Sum.inl (some (0, z))) ?_⟩
          unfold tk_c
          repeat (first | rw [if_pos (by omega)] | rw [if_neg (by omega)])
          all_goals rfl
        by_cases c5 : wh = 1
        · refine wb_sw (w_rg0 (by omega) (by omega)) (tb := 4) (by rw [c5]; rfl) ⟨_, rfl⟩ ?_
          refine wa_aload_n (n := 3) rfl ?_
          refine wb_gfi 215 rfl (wy_pr rfl) wt_215 wf_8_4 (v := (S 215 4)) rfl (fun r6 => ?_)
          refine wa_ireturn rfl ?_
          refine ⟨rfl, congrArg (fun z => Sum.inl (some (0, z))) ?_⟩
          unfold tk_c
          repeat (first | rw [if_pos (by omega)] | rw [if_neg (by omega)])
          all_goals rfl
        by_cases c7 : wh = 2
        · refine wb_sw (w_rg0 (by omega) (by omega)) (tb := 5) (by rw [c7]; rfl) ⟨_, rfl⟩ ?_
          refine wa_aload_n (n := 3) rfl ?_
          refine wb_gf4 215 rfl (wy_pr rfl) wt_215 wf_8_3 (v := 216) wl_215_3 ?_
          refine wb_gfi 216 rfl (wy_pr rfl) wt_216 wf_7_2 (v := (S 216 2)) rfl (fun r8 => ?_)
          refine wa_ireturn rfl ?_
          refine ⟨rfl, congrArg (fun z => Sum.inl (some (0, z))) ?_⟩
          unfold tk_c
          repeat (first | rw [if_pos (by omega)] | rw [if_neg (by omega)])
          all_goals rfl
        by_cases c9 : wh = 3
        · refine wb_sw (w_rg0 (by omega) (by omega)) (tb := 6) (by rw [c9]; rfl) ⟨_, rfl⟩ ?_
          refine wa_aload_n (n := 3) rfl ?_
          refine wb_gfi 215 rfl (wy_pr rfl) wt_215 wf_8_4 (v := (S 215 4)) rfl (fun r10 => ?_)
          refine wa_ifle (w_rg0 (by omega) (by omega)) ⟨_, rfl⟩ (fun c11 => ?_) (fun c11 => ?_)
          · skip
            refine wa_iconst ?_
            refine wa_fall ⟨_, rfl⟩ ?_
            refine wa_ireturn rfl ?_
            refine ⟨rfl, congrArg (fun z => Sum.inl (some (0, z))) ?_⟩
            unfold tk_c
            repeat (first | rw [if_pos (by omega)] | rw [if_neg (by omega)])
            all_goals rfl
          · skip
            refine wa_aload_n (n := 3) rfl ?_
            refine wb_gf4 215 rfl (wy_pr rfl) wt_215 wf_8_5 (v := 219) wl_215_5 ?_
            refine wa_aload_n (n := 3) rfl ?_
            refine wb_gfi 215 rfl (wy_pr rfl) wt_215 wf_8_4 (v := (S 215 4)) rfl (fun r12 => ?_)
            refine wa_iconst ?_
            refine wa_isub ?_
            refine wb_iald 219 rfl (wy_pr rfl) wt_219 (n := 200) ((cl_219 hC)) (by omega) (by omega) (v := (S 219 ((S 215 4) - 1))) rfl (fun r13 => ?_)
            refine wa_goto ⟨_, rfl⟩ ?_
            refine wa_ireturn rfl ?_
            refine ⟨rfl, congrArg (fun z => Sum.inl (some (0, z))) ?_⟩
            unfold tk_c
            repeat (first | rw [if_pos (by omega)] | rw [if_neg (by omega)])
            all_goals rfl
        by_cases c14 : wh = 4
        · refine wb_sw (w_rg0 (by omega) (by omega)) (tb := 9) (by rw [c14]; rfl) ⟨_, rfl⟩ ?_
          refine wa_aload_n (n := 3) rfl ?_
          refine wb_gfi 215 rfl (wy_pr rfl) wt_215 wf_8_4 (v := (S 215 4)) rfl (fun r15 => ?_)
          refine wa_ifle (w_rg0 (by omega) (by omega)) ⟨_, rfl⟩ (fun c16 => ?_) (fun c16 => ?_)
          · skip
            refine wa_iconst ?_
            refine wa_fall ⟨_, rfl⟩ ?_
            refine wa_ireturn rfl ?_
            refine ⟨rfl, congrArg (fun z => Sum.inl (some (0, z))) ?_⟩
            unfold tk_c
            repeat (first | rw [if_pos (by omega)] | rw [if_neg (by omega)])
            all_goals rfl
          · skip
            refine wa_aload_n (n := 3) rfl ?_
            refine wb_gf4 215 rfl (wy_pr rfl) wt_215 wf_8_6 (v := 220) wl_215_6 ?_
            refine wa_aload_n (n := 3) rfl ?_
            refine wb_gfi 215 rfl (wy_pr rfl) wt_215 wf_8_4 (v := (S 215 4)) rfl (fun r17 => ?_)
            refine wa_iconst ?_
            refine wa_isub ?_
            refine wb_iald 220 rfl (wy_pr rfl) wt_220 (n := 200) ((cl_220 hC)) (by omega) (by omega) (v := (S 220 ((S 215 4) - 1))) rfl (fun r18 => ?_)
            refine wa_goto ⟨_, rfl⟩ ?_
            refine wa_ireturn rfl ?_
            refine ⟨rfl, congrArg (fun z => Sum.inl (some (0, z))) ?_⟩
            unfold tk_c
            repeat (first | rw [if_pos (by omega)] | rw [if_neg (by omega)])
            all_goals rfl
        refine wb_sw (w_rg0 (by omega) (by omega)) (tb := 12) (w_tb_df (by simp only [List.length_cons, List.length_nil]; omega)) ⟨_, rfl⟩ ?_
        refine wa_iconst ?_
        refine wa_ireturn rfl ?_
        refine ⟨rfl, congrArg (fun z => Sum.inl (some (0, z))) ?_⟩
        unfold tk_c
        repeat (first | rw [if_pos (by omega)] | rw [if_neg (by omega)])
        all_goals rfl
      · subst e
        refine wa_aload_n (n := 0) rfl ?_
        refine wb_gf4 0 rfl (wy_pr rfl) wt_0 wf_10_9 (v := 161) wl_0_9 ?_
        refine wa_iload_n (n := 1) rfl ?_
        refine wb_aald14 161 rfl (wy_pr rfl) wt_161 (by omega) (n := 2) (h161.1) (by omega) (v := 226) (h161.2.2) ?_
        refine wa_astore_n (n := 3) rfl ?_
        refine wa_iload_n (n := 2) rfl ?_
        by_cases c19 : wh = 0
        · refine wb_sw (w_rg0 (by omega) (by omega)) (tb := 3) (by rw [c19]; rfl) ⟨_, rfl⟩ ?_
          refine wa_aload_n (n := 3) rfl ?_
          refine wb_gfi 226 rfl (wy_pr rfl) wt_226 wf_8_13 (v := (S 226 13)) rfl (fun r20 => ?_)
          refine wa_ireturn rfl ?_
          refine ⟨rfl, congrArg (fun z => Sum.inl (some (0, z))) ?_⟩
          unfold tk_c
          repeat (first | rw [if_pos (by omega)] | rw [if_neg (by omega)])
          all_goals rfl
        by_cases c21 : wh = 1
        · refine wb_sw (w_rg0 (by omega) (by omega)) (tb := 4) (by rw [c21]; rfl) ⟨_, rfl⟩ ?_
          refine wa_aload_n (n := 3) rfl ?_
          refine wb_gfi 226 rfl (wy_pr rfl) wt_226 wf_8_4 (v := (S 226 4)) rfl (fun r22 => ?_)
          refine wa_ireturn rfl ?_
          refine ⟨rfl, congrArg (fun z => Sum.inl (some (0, z))) ?_⟩
          unfold tk_c
          repeat (first | rw [if_pos (by omega)] | rw [if_neg (by omega)])
          all_goals rfl
        by_cases c23 : wh = 2
        · refine wb_sw (w_rg0 (by omega) (by omega)) (tb := 5) (by rw [c23]; rfl) ⟨_, rfl⟩ ?_
          refine wa_aload_n (n := 3) rfl ?_
          refine wb_gf4 226 rfl (wy_pr rfl) wt_226 wf_8_3 (v := 227) wl_226_3 ?_
          refine wb_gfi 227 rfl (wy_pr rfl) wt_227 wf_7_2 (v := (S 227 2)) rfl (fun r24 => ?_)
          refine wa_ireturn rfl ?_
          refine ⟨rfl, congrArg (fun z => Sum.inl (some (0, z))) ?_⟩
          unfold tk_c
          repeat (first | rw [if_pos (by omega)] | rw [if_neg (by omega)])
          all_goals rfl
        by_cases c25 : wh = 3
        · refine wb_sw (w_rg0 (by omega) (by omega)) (tb := 6) (by rw [c25]; rfl) ⟨_, rfl⟩ ?_
          refine wa_aload_n (n := 3) rfl ?_
          refine wb_gfi 226 rfl (wy_pr rfl) wt_226 wf_8_4 (v := (S 226 4)) rfl (fun r26 => ?_)
          refine wa_ifle (w_rg0 (by omega) (by omega)) ⟨_, rfl⟩ (fun c27 => ?_) (fun c27 => ?_)
          · skip
            refine wa_iconst ?_
            refine wa_fall ⟨_, rfl⟩ ?_
            refine wa_ireturn rfl ?_
            refine ⟨rfl, congrArg (fun z => Sum.inl (some (0, z))) ?_⟩
            unfold tk_c
            repeat (first | rw [if_pos (by omega)] | rw [if_neg (by omega)])
            all_goals rfl
          · skip
            refine wa_aload_n (n := 3) rfl ?_
            refine wb_gf4 226 rfl (wy_pr rfl) wt_226 wf_8_5 (v := 230) wl_226_5 ?_
            refine wa_aload_n (n := 3) rfl ?_
            refine wb_gfi 226 rfl (wy_pr rfl) wt_226 wf_8_4 (v := (S 226 4)) rfl (fun r28 => ?_)
            refine wa_iconst ?_
            refine wa_isub ?_
            refine wb_iald 230 rfl (wy_pr rfl) wt_230 (n := 200) ((cl_230 hC)) (by omega) (by omega) (v := (S 230 ((S 226 4) - 1))) rfl (fun r29 => ?_)
            refine wa_goto ⟨_, rfl⟩ ?_
            refine wa_ireturn rfl ?_
            refine ⟨rfl, congrArg (fun z => Sum.inl (some (0, z))) ?_⟩
            unfold tk_c
            repeat (first | rw [if_pos (by omega)] | rw [if_neg (by omega)])
            all_goals rfl
        by_cases c30 : wh = 4
        · refine wb_sw (w_rg0 (by omega) (by omega)) (tb := 9) (by rw [c30]; rfl) ⟨_, rfl⟩ ?_
          refine wa_aload_n (n := 3) rfl ?_
          refine wb_gfi 226 rfl (wy_pr rfl) wt_226 wf_8_4 (v := (S 226 4)) rfl (fun r31 => ?_)
          refine wa_ifle (w_rg0 (by omega) (by omega)) ⟨_, rfl⟩ (fun c32 => ?_) (fun c32 => ?_)
          · skip
            refine wa_iconst ?_
            refine wa_fall ⟨_, rfl⟩ ?_
            refine wa_ireturn rfl ?_
            refine ⟨rfl, congrArg (fun z => Sum.inl (some (0, z))) ?_⟩
            unfold tk_c
            repeat (first | rw [if_pos (by omega)] | rw [if_neg (by omega)])
            all_goals rfl
          · skip
            refine wa_aload_n (n := 3) rfl ?_
            refine wb_gf4 226 rfl (wy_pr rfl) wt_226 wf_8_6 (v := 231) wl_226_6 ?_
            refine wa_aload_n (n := 3) rfl ?_
            refine wb_gfi 226 rfl (wy_pr rfl) wt_226 wf_8_4 (v := (S 226 4)) rfl (fun r33 => ?_)
            refine wa_iconst ?_
            refine wa_isub ?_
            refine wb_iald 231 rfl (wy_pr rfl) wt_231 (n := 200) ((cl_231 hC)) (by omega) (by omega) (v := (S 231 ((S 226 4) - 1))) rfl (fun r34 => ?_)
            refine wa_goto ⟨_, rfl⟩ ?_
            refine wa_ireturn rfl ?_
            refine ⟨rfl, congrArg (fun z => Sum.inl (some (0, z))) ?_⟩
            unfold tk_c
            repeat (first | rw [if_pos (by omega)] | rw [if_neg (by omega)])
            all_goals rfl
        refine wb_sw (w_rg0 (by omega) (by omega)) (tb := 12) (w_tb_df (by simp only [List.length_cons, List.length_nil]; omega)) ⟨_, rfl⟩ ?_
        refine wa_iconst ?_
        refine wa_ireturn rfl ?_
        refine ⟨rfl, congrArg (fun z => Sum.inl (some (0, z))) ?_⟩
        unfold tk_c
        repeat (first | rw [if_pos (by omega)] | rw [if_neg (by omega)])
        all_goals rfl
    · skip
      refine wa_fall ⟨_, rfl⟩ ?_
      refine wa_iconst ?_
      refine wa_ireturn rfl ?_
      refine ⟨rfl, congrArg (fun z => Sum.inl (some (0, z))) ?_⟩
      unfold tk_c
      repeat (first | rw [if_pos (by omega)] | rw [if_neg (by omega)])
      all_goals rfl
theorem mtk {t wh : Int} (hM : w_ML S) (h0 : ∀ t : Int, 0 ≤ t → t ≤ 1 → 0 ≤ S 358 t ∧ S 358 t ≤ 200) (ht : -2147483648 ≤ t ∧ t ≤ 2147483647) (hwh : -2147483648 ≤ wh ∧ wh ≤ 2147483647) : wJ (pe_GA xs) wY0 M (d + 1) t_M_task ((pe_at t_M_task.bl 0).getD (0, [])).2 [(0, (2, 237)), (1, (0, t)), (2, (0, wh))] [] S (fun o Z => w_up S 237 0 0 = Z ∧ o = .inl (some (0, if t = 0 ∨ t = 1 then tk_r S t wh else -1))) := by
  refine wa_aload_n (n := 0) rfl ?_
  refine wa_iconst ?_
  refine wb_pfi 237 rfl (wy_pr rfl) wt_237 wf_15_0 (n := 0) rfl ⟨(by omega), (by omega)⟩ ?_
  refine wa_iload_n (n := 1) rfl ?_
  refine wa_i2l (w_rg0 (by omega) (by omega)) ?_
  refine wa_lconst ?_
  refine wa_lconst ?_
  refine wa_cs (M2 := fun _ => False) rfl at_M_in ⟨_, rfl⟩ rfl rfl ⟨(Or.inr ⟨wy_pr rfl, fun q => q⟩), trivial, trivial, trivial⟩ trivial (fun _ _ q => False.elim q) (in_ok (S := (w_up S 237 0 0)) (a := t) (lo := 0) (hi := 1) ⟨by omega, by omega⟩ ⟨by omega, by omega⟩ ⟨by omega, by omega⟩) (fun oq2 Sq2 hp3 q2 => ?_)
  rcases q2 with ⟨rfl, ⟨rfl, hin1⟩ | ⟨rfl, hin1⟩⟩
  · skip
    show wJ _ _ _ _ _ _ _ _ _ _
    refine wa_ifne (w_rg0 (by omega) (by omega)) ⟨_, rfl⟩ (fun c4 => ?_) (fun c4 => ?_)
    · skip
      have h58 := h0 t (by omega) (by omega)
      refine wa_sipush (by omega) ?_
      refine wa_iload_n (n := 1) rfl ?_
      refine wa_imul ?_
      refine wa_aload_n (n := 0) rfl ?_
      refine wb_gf4 237 rfl (wy_pr rfl) wt_237 wf_15_133 (v := 358) wl_237_133 ?_
      refine wa_iload_n (n := 1) rfl ?_
      refine wb_iald 358 rfl (wy_pr rfl) wt_358 (n := 2) ((w_up_slot (by decide)).trans ((ml_358 hM))) (by omega) (by omega) (v := (S 358 t)) (w_up_slot (by decide)) (fun r5 => ?_)
      refine wa_iadd ?_
      refine wa_iconst ?_
      refine wa_isub ?_
      refine wa_istore_n (n := 3) rfl ?_
      refine wa_iload_n (n := 2) rfl ?_
      by_cases c6 : wh = 0
      · refine wb_sw (w_rg0 (by omega) (by omega)) (tb := 2) (by rw [c6]; rfl) ⟨_, rfl⟩ ?_
        refine wa_aload_n (n := 0) rfl ?_
        refine wb_gf4 237 rfl (wy_pr rfl) wt_237 wf_15_132 (v := 357) wl_237_132 ?_
        refine wa_iload_n (n := 1) rfl ?_
        refine wb_iald 357 rfl (wy_pr rfl) wt_357 (n := 2) ((w_up_slot (by decide)).trans ((ml_357 hM))) (by omega) (by omega) (v := (S 357 t)) (w_up_slot (by decide)) (fun r7 => ?_)
        refine wa_ireturn rfl ?_
        refine ⟨rfl, congrArg (fun z => Sum.inl (some (0, z))) ?_⟩
        unfold tk_r
        repeat (first | rw [if_pos (by omega)] | rw [if_neg (by omega)])
        all_goals rfl
      by_cases c8 : wh = 1
      · refine wb_sw (w_rg0 (by omega) (by omega)) (tb := 3) (by rw [c8]; rfl) ⟨_, rfl⟩ ?_
        refine wa_aload_n (n := 0) rfl ?_
        refine wb_gf4 237 rfl (wy_pr rfl) wt_237 wf_15_133 (v := 358) wl_237_133 ?_
        refine wa_iload_n (n := 1) rfl ?_
        refine wb_iald 358 rfl (wy_pr rfl) wt_358 (n := 2) ((w_up_slot (by decide)).trans ((ml_358 hM))) (by omega) (by omega) (v := (S 358 t)) (w_up_slot (by decide)) (fun r9 => ?_)
        refine wa_ireturn rfl ?_
        refine ⟨rfl, congrArg (fun z => Sum.inl (some (0, z))) ?_⟩
        unfold tk_r
        repeat (first | rw [if_pos (by omega)] | rw [if_neg (by omega)])
        all_goals rfl
      by_cases c10 : wh = 2
      · refine wb_sw (w_rg0 (by omega) (by omega)) (tb := 4) (by rw [c10]; rfl) ⟨_, rfl⟩ ?_
        refine wa_aload_n (n := 0) rfl ?_
        refine wb_gf4 237 rfl (wy_pr rfl) wt_237 wf_15_134 (v := 359) wl_237_134 ?_
        refine wa_iload_n (n := 1) rfl ?_
        refine wb_iald 359 rfl (wy_pr rfl) wt_359 (n := 2) ((w_up_slot (by decide)).trans ((ml_359 hM))) (by omega) (by omega) (v := (S 359 t)) (w_up_slot (by decide)) (fun r11 => ?_)
        refine wa_ireturn rfl ?_
        refine ⟨rfl, congrArg (fun z => Sum.inl (some (0, z))) ?_⟩
        unfold tk_r
        repeat (first | rw [if_pos (by omega)] | rw [if_neg (by omega)])
        all_goals rfl
      by_cases c12 : wh = 3
      · refine wb_sw (w_rg0 (by omega) (by omega)) (tb := 5) (by rw [c12]; rfl) ⟨_, rfl⟩ ?_
        refine wa_aload_n (n := 0) rfl ?_
        refine wb_gf4 237 rfl (wy_pr rfl) wt_237 wf_15_133 (v := 358) wl_237_133 ?_
        refine wa_iload_n (n := 1) rfl ?_
        refine wb_iald 358 rfl (wy_pr rfl) wt_358 (n := 2) ((w_up_slot (by decide)).trans ((ml_358 hM))) (by omega) (by omega) (v := (S 358 t)) (w_up_slot (by decide)) (fun r13 => ?_)
        refine wa_ifle (w_rg0 (by omega) (by omega)) ⟨_, rfl⟩ (fun c14 => ?_) (fun c14 => ?_)
        · skip
          refine wa_iconst ?_
          refine wa_fall ⟨_, rfl⟩ ?_
          refine wa_ireturn rfl ?_
          refine ⟨rfl, congrArg (fun z => Sum.inl (some (0, z))) ?_⟩
          unfold tk_r
          repeat (first | rw [if_pos (by omega)] | rw [if_neg (by omega)])
          all_goals rfl
        · skip
          refine wa_aload_n (n := 0) rfl ?_
          refine wb_gf4 237 rfl (wy_pr rfl) wt_237 wf_15_140 (v := 365) wl_237_140 ?_
          refine wa_iload_n (n := 3) rfl ?_
          refine wb_iald 365 rfl (wy_pr rfl) wt_365 (n := 400) ((w_up_slot (by decide)).trans ((ml_365 hM))) (by omega) (by omega) (v := (S 365 (((200 * t) + (S 358 t)) - 1))) (w_up_slot (by decide)) (fun r15 => ?_)
          refine wa_goto ⟨_, rfl⟩ ?_
          refine wa_ireturn rfl ?_
          refine ⟨rfl, congrArg (fun z => Sum.inl (some (0, z))) ?_⟩
          unfold tk_r
          repeat (first | rw [if_pos (by omega)] | rw [if_neg (by omega)])
          all_goals rfl
      by_cases c16 : wh = 4
      · refine wb_sw (w_rg0 (by omega) (by omega)) (tb := 8) (by rw [c16]; rfl) ⟨_, rfl⟩ ?_
        refine wa_aload_n (n := 0) rfl ?_
        refine wb_gf4 237 rfl (wy_pr rfl) wt_237 wf_15_133 (v := 358) wl_237_133 ?_
        refine wa_iload_n (n := 1) rfl ?_
        refine wb_iald 358 rfl (wy_pr rfl) wt_358 (n := 2) ((w_up_slot (by decide)).trans ((ml_358 hM))) (by omega) (by omega) (v := (S 358 t)) (w_up_slot (by decide)) (fun r17 => ?_)
        refine wa_ifle (w_rg0 (by omega) (by omega)) ⟨_, rfl⟩ (fun c18 => ?_) (fun c18 => ?_)
        · skip
          refine wa_iconst ?_
          refine wa_fall ⟨_, rfl⟩ ?_
          refine wa_ireturn rfl ?_
          refine ⟨rfl, congrArg (fun z => Sum.inl (some (0, z))) ?_⟩
          unfold tk_r
          repeat (first | rw [if_pos (by omega)] | rw [if_neg (by omega)])
          all_goals rfl
        · skip
          refine wa_aload_n (n := 0) rfl ?_
          refine wb_gf4 237 rfl (wy_pr rfl) wt_237 wf_15_141 (v := 366) wl_237_141 ?_
          refine wa_iload_n (n := 3) rfl ?_
          refine wb_iald 366 rfl (wy_pr rfl) wt_366 (n := 400) ((w_up_slot (by decide)).trans ((ml_366 hM))) (by omega) (by omega) (v := (S 366 (((200 * t) + (S 358 t)) - 1))) (w_up_slot (by decide)) (fun r19 => ?_)
          refine wa_goto ⟨_, rfl⟩ ?_
          refine wa_ireturn rfl ?_
          refine ⟨rfl, congrArg (fun z => Sum.inl (some (0, z))) ?_⟩
          unfold tk_r
          repeat (first | rw [if_pos (by omega)] | rw [if_neg (by omega)])
          all_goals rfl
      refine wb_sw (w_rg0 (by omega) (by omega)) (tb := 11) (w_tb_df (by simp only [List.length_cons, List.length_nil]; omega)) ⟨_, rfl⟩ ?_
      refine wa_iconst ?_
      refine wa_ireturn rfl ?_
      refine ⟨rfl, congrArg (fun z => Sum.inl (some (0, z))) ?_⟩
      unfold tk_r
      repeat (first | rw [if_pos (by omega)] | rw [if_neg (by omega)])
      all_goals rfl
    · skip
      exact absurd c4 (by omega)
  · skip
    show wJ _ _ _ _ _ _ _ _ _ _
    refine wa_ifne (w_rg0 (by omega) (by omega)) ⟨_, rfl⟩ (fun c20 => ?_) (fun c20 => ?_)
    · skip
      exact absurd c20 (by omega)
    · skip
      refine wa_iconst ?_
      refine wa_ireturn rfl ?_
      refine ⟨rfl, congrArg (fun z => Sum.inl (some (0, z))) ?_⟩
      unfold tk_r
      repeat (first | rw [if_pos (by omega)] | rw [if_neg (by omega)])
      all_goals rfl
end Wdg
