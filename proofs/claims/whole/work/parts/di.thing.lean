/-! PART di: thing of each side. -/
section Wdi
variable {xs : List (Nat × List Int32)} {M : Nat → Prop} {d : Nat} {S Z : wS} {T : List aO} {L : List aH} {sl : Nat → List Int}
def th_c (S : wS) (k wh : Int) : Int := if 0 ≤ k ∧ k < S 72 3 then (if wh = 0 then S 127 k - 4 else if wh = 1 then S 128 k else if wh = 2 then (if S 128 k = -1 then -1 else S 144 (S 128 k)) else if wh = 3 then (if S 127 k = 7 then S 129 k else S 134 k) else if wh = 4 then S 130 k else if wh = 5 then (if S 127 k = 5 then S 129 k else -1) else -1) else -1
def th_r (S : wS) (k wh : Int) : Int := if 0 ≤ k ∧ k < S 237 68 then (if wh = 0 then S 314 k - 4 else if wh = 1 then (if S 314 k = 4 ∨ S 314 k = 5 then S 315 k else -1) else if wh = 2 then (if S 314 k = 4 ∨ S 314 k = 5 then S 329 (S 315 k) else -1) else if wh = 3 then (if S 314 k = 7 then S 321 k else S 317 k) else if wh = 4 then (if S 322 k = 0 then -1 else S 323 k) else if wh = 5 then S 319 k else -1) else -1
/-- what is told of a thing -/
def th_v (T : List aO) (L : List aH) (k wh : Int) : Int := if 0 ≤ k ∧ k < (T.length : Int) then (if wh = 0 then (T.getD k.toNat (0, 0, 0, 0, 0, 0, [])).1 - 4 else if wh = 1 then (T.getD k.toNat (0, 0, 0, 0, 0, 0, [])).2.1 else if wh = 2 then (if (T.getD k.toNat (0, 0, 0, 0, 0, 0, [])).2.1 = -1 then -1 else (L.getD (T.getD k.toNat (0, 0, 0, 0, 0, 0, [])).2.1.toNat (0, 0, 0, 0)).1) else if wh = 3 then (if (T.getD k.toNat (0, 0, 0, 0, 0, 0, [])).1 = 7 then (T.getD k.toNat (0, 0, 0, 0, 0, 0, [])).2.2.1 else ((T.getD k.toNat (0, 0, 0, 0, 0, 0, [])).2.2.2.2.2.2.length : Int)) else if wh = 4 then (T.getD k.toNat (0, 0, 0, 0, 0, 0, [])).2.2.2.2.1 else if wh = 5 then (if (T.getD k.toNat (0, 0, 0, 0, 0, 0, [])).1 = 5 then (T.getD k.toNat (0, 0, 0, 0, 0, 0, [])).2.2.1 else -1) else -1) else -1
/-- a thing as such: its kind, and whether it has a shape -/
def wTh (L : List aH) (o : aO) : Prop := (4 ≤ o.1 ∧ o.1 ≤ 7) ∧ ((o.1 = 4 ∨ o.1 = 5) → 0 ≤ o.2.1 ∧ o.2.1 < (L.length : Int)) ∧ ((o.1 = 6 ∨ o.1 = 7) → o.2.1 = -1) ∧ (o.2.2.2.2.1 = -1 ∨ 0 ≤ o.2.2.2.2.1)
theorem th_ce {k wh : Int} (h : cTh S T) (hL : cHs S L) (hw : ∀ q : Nat, q < T.length → wTh L (T.getD q (0, 0, 0, 0, 0, 0, []))) : th_c S k wh = th_v T L k wh := by
  unfold th_c th_v
  rw [h.1]
  by_cases e : 0 ≤ k ∧ k < (T.length : Int)
  · rw [if_pos e, if_pos e]
    obtain ⟨⟨a1, a2, a3, a4, a5, a6⟩, ⟨b1, -⟩, -⟩ := h.2 k.toNat (by omega)
    obtain ⟨w1, w2, w3, w4⟩ := hw k.toNat (by omega)
    rw [show ((k.toNat : Nat) : Int) = k by omega] at a1 a2 a3 a5 b1
    rw [a1, a2, a3, a5, b1]
    by_cases q : (T.getD k.toNat (0, 0, 0, 0, 0, 0, [])).2.1 = -1
    · rw [if_pos q, if_pos q]
    · have q2 : 0 ≤ (T.getD k.toNat (0, 0, 0, 0, 0, 0, [])).2.1 ∧ (T.getD k.toNat (0, 0, 0, 0, 0, 0, [])).2.1 < (L.length : Int) := w2 (by omega)
      have := (hL.2.2 (T.getD k.toNat (0, 0, 0, 0, 0, 0, [])).2.1.toNat (by omega)).1
      rw [show (((T.getD k.toNat (0, 0, 0, 0, 0, 0, [])).2.1.toNat : Nat) : Int) = (T.getD k.toNat (0, 0, 0, 0, 0, 0, [])).2.1 by omega] at this
      rw [if_neg q, if_neg q, this]
  · rw [if_neg e, if_neg e]
theorem th_re {k wh : Int} (h : rTh S sl T) (hL : rHs S L) (hw : ∀ q : Nat, q < T.length → wTh L (T.getD q (0, 0, 0, 0, 0, 0, []))) : th_r S k wh = th_v T L k wh := by
  unfold th_r th_v
  rw [h.1]
  by_cases e : 0 ≤ k ∧ k < (T.length : Int)
  · rw [if_pos e, if_pos e]
    obtain ⟨⟨a1, a2, a3, a4, a5, a6, a7, a8⟩, ⟨b1, -⟩, -⟩ := h.2 k.toNat (by omega)
    obtain ⟨w1, w2, w3, w4⟩ := hw k.toNat (by omega)
    rw [show ((k.toNat : Nat) : Int) = k by omega] at a1 a2 a3 a4 a6 a7 b1
    rw [a1, a2, a3, a4, b1]
    have f4 : (if S 322 k = 0 then (-1 : Int) else S 323 k) = (T.getD k.toNat (0, 0, 0, 0, 0, 0, [])).2.2.2.2.1 := by
      by_cases q : (T.getD k.toNat (0, 0, 0, 0, 0, 0, [])).2.2.2.2.1 = -1
      · rw [if_pos q] at a6
        rw [a6, if_pos rfl, q]
      · rw [if_neg q] at a6
        rw [a6, if_neg (by decide), a7 q]
    rw [f4]
    have f3 : (if (T.getD k.toNat (0, 0, 0, 0, 0, 0, [])).1 = 7 then (if (T.getD k.toNat (0, 0, 0, 0, 0, 0, [])).1 = 7 then (T.getD k.toNat (0, 0, 0, 0, 0, 0, [])).2.2.1 else (-1 : Int)) else ((T.getD k.toNat (0, 0, 0, 0, 0, 0, [])).2.2.2.2.2.2.length : Int)) = (if (T.getD k.toNat (0, 0, 0, 0, 0, 0, [])).1 = 7 then (T.getD k.toNat (0, 0, 0, 0, 0, 0, [])).2.2.1 else ((T.getD k.toNat (0, 0, 0, 0, 0, 0, [])).2.2.2.2.2.2.length : Int)) := by
      by_cases q : (T.getD k.toNat (0, 0, 0, 0, 0, 0, [])).1 = 7
      · rw [if_pos q, if_pos q, if_pos q]
      · rw [if_neg q, if_neg q]
    rw [f3]
    by_cases q : (T.getD k.toNat (0, 0, 0, 0, 0, 0, [])).1 = 4 ∨ (T.getD k.toNat (0, 0, 0, 0, 0, 0, [])).1 = 5
    · have q2 := w2 q
      have := (hL.2 (T.getD k.toNat (0, 0, 0, 0, 0, 0, [])).2.1.toNat (by omega)).1
      rw [show (((T.getD k.toNat (0, 0, 0, 0, 0, 0, [])).2.1.toNat : Nat) : Int) = (T.getD k.toNat (0, 0, 0, 0, 0, 0, [])).2.1 by omega] at this
      rw [if_pos q, if_pos q, if_neg (show ¬ (T.getD k.toNat (0, 0, 0, 0, 0, 0, [])).2.1 = -1 by omega), this]
    · have q2 := w3 (by omega)
      rw [if_neg q, if_neg q, if_pos q2, q2]
  · rw [if_neg e, if_neg e]
theorem xth {k wh : Int} (h3 : 0 ≤ S 72 3 ∧ S 72 3 ≤ S 127 (-1)) (hz : S 127 (-1) ≤ 1000000) (hl : ∀ x : Nat, x < 10 → S (127 + x) (-1) = S 127 (-1)) (hC : w_CL S) (hs : ∀ k : Int, 0 ≤ k → k < S 72 3 → S 128 k = -1 ∨ (0 ≤ S 128 k ∧ S 128 k < S 144 (-1))) (hz2 : S 144 (-1) ≤ 1000000) (hk : -2147483648 ≤ k ∧ k ≤ 2147483647) (hwh : -2147483648 ≤ wh ∧ wh ≤ 2147483647) : wJ (pe_GA xs) wY0 M d t_X_thing ((pe_at t_X_thing.bl 0).getD (0, [])).2 [(0, (2, 0)), (1, (0, k)), (2, (0, wh))] [] S (fun o Z => S = Z ∧ o = .inl (some (0, th_c S k wh))) := by
  refine wa_iload_n (n := 1) rfl ?_
  refine wa_iflt (w_rg0 (by omega) (by omega)) ⟨_, rfl⟩ (fun c1 => ?_) (fun c1 => ?_)
  · skip
    refine wa_iconst ?_
    refine wa_ireturn rfl ?_
    refine ⟨rfl, congrArg (fun z => Sum.inl (some (0, z))) ?_⟩
    unfold th_c
    repeat (first | rw [if_pos (by omega)] | rw [if_neg (by omega)])
    all_goals first | rfl | omega
  · skip
    refine wa_iload_n (n := 1) rfl ?_
    refine wa_aload_n (n := 0) rfl ?_
    refine wb_gf4 0 rfl (wy_pr rfl) wt_0 wf_10_7 (v := 72) wl_0_7 ?_
    refine wb_gfi 72 rfl (wy_pr rfl) wt_72 wf_2_3 (v := (S 72 3)) rfl (fun r2 => ?_)
    refine wa_icmplt (w_rg0 (by omega) (by omega)) (w_rg0 (by omega) (by omega)) ⟨_, rfl⟩ (fun c3 => ?_) (fun c3 => ?_)
    · skip
      have hs1 := hs k (by omega) (by omega)
      refine wa_aload_n (n := 0) rfl ?_
      refine wb_gf4 0 rfl (wy_pr rfl) wt_0 wf_10_7 (v := 72) wl_0_7 ?_
      refine wb_gf4 72 rfl (wy_pr rfl) wt_72 wf_2_2 (v := 126) wl_72_2 ?_
      refine wa_astore_n (n := 3) rfl ?_
      refine wa_aload_n (n := 3) rfl ?_
      refine wa_iconst ?_
      refine wb_aald5 126 1 rfl rfl (wy_pr rfl) wt_126 (by rw [show _ = _ from ((cl_126 hC))]; omega) wl_126_1 ?_
      refine wa_iload_n (n := 1) rfl ?_
      refine wb_iald 128 rfl (wy_pr rfl) wt_128 (n := (S 127 (-1))) ((hl 1 (by decide))) (by omega) (by omega) (v := (S 128 k)) rfl (fun r4 => ?_)
      refine wa_iconst ?_
      refine wa_icmpeq (w_rg0 (by omega) (by omega)) (w_rg0 (by omega) (by omega)) ⟨_, rfl⟩ (fun c5 => ?_) (fun c5 => ?_)
      · skip
        refine wa_iconst ?_
        refine wa_fall ⟨_, rfl⟩ ?_
        refine wa_istore (n := 4) rfl ?_
        refine wa_iload_n (n := 2) rfl ?_
        by_cases c6 : wh = 0
        · refine wb_sw (w_rg0 (by omega) (by omega)) (tb := 5) (by rw [c6]; rfl) ⟨_, rfl⟩ ?_
          refine wa_aload_n (n := 3) rfl ?_
          refine wa_iconst ?_
          refine wb_aald5 126 0 rfl rfl (wy_pr rfl) wt_126 (by rw [show _ = _ from ((cl_126 hC))]; omega) wl_126_0 ?_
          refine wa_iload_n (n := 1) rfl ?_
          refine wb_iald 127 rfl (wy_pr rfl) wt_127 (n := (S 127 (-1))) (rfl) (by omega) (by omega) (v := (S 127 k)) rfl (fun r7 => ?_)
          refine wa_iconst ?_
          refine wa_isub ?_
          refine wa_ireturn rfl ?_
          refine ⟨rfl, congrArg (fun z => Sum.inl (some (0, z))) ?_⟩
          unfold th_c
          repeat (first | rw [if_pos (by omega)] | rw [if_neg (by omega)])
          all_goals first | rfl | omega
        by_cases c8 : wh = 1
        · refine wb_sw (w_rg0 (by omega) (by omega)) (tb := 6) (by rw [c8]; rfl) ⟨_, rfl⟩ ?_
          refine wa_aload_n (n := 3) rfl ?_
          refine wa_iconst ?_
          refine wb_aald5 126 1 rfl rfl (wy_pr rfl) wt_126 (by rw [show _ = _ from ((cl_126 hC))]; omega) wl_126_1 ?_
          refine wa_iload_n (n := 1) rfl ?_
          refine wb_iald 128 rfl (wy_pr rfl) wt_128 (n := (S 127 (-1))) ((hl 1 (by decide))) (by omega) (by omega) (v := (S 128 k)) rfl (fun r9 => ?_)
          refine wa_ireturn rfl ?_
          refine ⟨rfl, congrArg (fun z => Sum.inl (some (0, z))) ?_⟩
          unfold th_c
          repeat (first | rw [if_pos (by omega)] | rw [if_neg (by omega)])
          all_goals first | rfl | omega
        by_cases c10 : wh = 2
        · refine wb_sw (w_rg0 (by omega) (by omega)) (tb := 7) (by rw [c10]; rfl) ⟨_, rfl⟩ ?_
          refine wa_iload (n := 4) rfl ?_
          refine wa_ifeq (w_rg0 (by omega) (by omega)) ⟨_, rfl⟩ (fun c11 => ?_) (fun c11 => ?_)
          · skip
            refine wa_iconst ?_
            refine wa_fall ⟨_, rfl⟩ ?_
            refine wa_ireturn rfl ?_
            refine ⟨rfl, congrArg (fun z => Sum.inl (some (0, z))) ?_⟩
            unfold th_c
            repeat (first | rw [if_pos (by omega)] | rw [if_neg (by omega)])
            all_goals first | rfl | omega
          · skip
            exact absurd c11 (by omega)
        by_cases c12 : wh = 3
        · refine wb_sw (w_rg0 (by omega) (by omega)) (tb := 10) (by rw [c12]; rfl) ⟨_, rfl⟩ ?_
          refine wa_aload_n (n := 3) rfl ?_
          refine wa_iconst ?_
          refine wb_aald5 126 0 rfl rfl (wy_pr rfl) wt_126 (by rw [show _ = _ from ((cl_126 hC))]; omega) wl_126_0 ?_
          refine wa_iload_n (n := 1) rfl ?_
          refine wb_iald 127 rfl (wy_pr rfl) wt_127 (n := (S 127 (-1))) (rfl) (by omega) (by omega) (v := (S 127 k)) rfl (fun r13 => ?_)
          refine wa_bipush (w_rg2 (by omega) (by omega)) ?_
          refine wa_icmpne (w_rg0 (by omega) (by omega)) (w_rg0 (by omega) (by omega)) ⟨_, rfl⟩ (fun c14 => ?_) (fun c14 => ?_)
          · skip
            refine wa_aload_n (n := 3) rfl ?_
            refine wa_bipush (w_rg2 (by omega) (by omega)) ?_
            refine wb_aald5 126 7 rfl rfl (wy_pr rfl) wt_126 (by rw [show _ = _ from ((cl_126 hC))]; omega) wl_126_7 ?_
            refine wa_iload_n (n := 1) rfl ?_
            refine wb_iald 134 rfl (wy_pr rfl) wt_134 (n := (S 127 (-1))) ((hl 7 (by decide))) (by omega) (by omega) (v := (S 134 k)) rfl (fun r15 => ?_)
            refine wa_fall ⟨_, rfl⟩ ?_
            refine wa_ireturn rfl ?_
            refine ⟨rfl, congrArg (fun z => Sum.inl (some (0, z))) ?_⟩
            unfold th_c
            repeat (first | rw [if_pos (by omega)] | rw [if_neg (by omega)])
            all_goals first | rfl | omega
          · skip
            refine wa_aload_n (n := 3) rfl ?_
            refine wa_iconst ?_
            refine wb_aald5 126 2 rfl rfl (wy_pr rfl) wt_126 (by rw [show _ = _ from ((cl_126 hC))]; omega) wl_126_2 ?_
            refine wa_iload_n (n := 1) rfl ?_
            refine wb_iald 129 rfl (wy_pr rfl) wt_129 (n := (S 127 (-1))) ((hl 2 (by decide))) (by omega) (by omega) (v := (S 129 k)) rfl (fun r16 => ?_)
            refine wa_goto ⟨_, rfl⟩ ?_
            refine wa_ireturn rfl ?_
            refine ⟨rfl, congrArg (fun z => Sum.inl (some (0, z))) ?_⟩
            unfold th_c
            repeat (first | rw [if_pos (by omega)] | rw [if_neg (by omega)])
            all_goals first | rfl | omega
        by_cases c17 : wh = 4
        · refine wb_sw (w_rg0 (by omega) (by omega)) (tb := 13) (by rw [c17]; rfl) ⟨_, rfl⟩ ?_
          refine wa_aload_n (n := 3) rfl ?_
          refine wa_iconst ?_
          refine wb_aald5 126 3 rfl rfl (wy_pr rfl) wt_126 (by rw [show _ = _ from ((cl_126 hC))]; omega) wl_126_3 ?_
          refine wa_iload_n (n := 1) rfl ?_
          refine wb_iald 130 rfl (wy_pr rfl) wt_130 (n := (S 127 (-1))) ((hl 3 (by decide))) (by omega) (by omega) (v := (S 130 k)) rfl (fun r18 => ?_)
          refine wa_ireturn rfl ?_
          refine ⟨rfl, congrArg (fun z => Sum.inl (some (0, z))) ?_⟩
          unfold th_c
          repeat (first | rw [if_pos (by omega)] | rw [if_neg (by omega)])
          all_goals first | rfl | omega
        by_cases c19 : wh = 5
        · refine wb_sw (w_rg0 (by omega) (by omega)) (tb := 14) (by rw [c19]; rfl) ⟨_, rfl⟩ ?_
          refine wa_aload_n (n := 3) rfl ?_
          refine wa_iconst ?_
          refine wb_aald5 126 0 rfl rfl (wy_pr rfl) wt_126 (by rw [show _ = _ from ((cl_126 hC))]; omega) wl_126_0 ?_
          refine wa_iload_n (n := 1) rfl ?_
          refine wb_iald 127 rfl (wy_pr rfl) wt_127 (n := (S 127 (-1))) (rfl) (by omega) (by omega) (v := (S 127 k)) rfl (fun r20 => ?_)
          refine wa_iconst ?_
          refine wa_icmpne (w_rg0 (by omega) (by omega)) (w_rg0 (by omega) (by omega)) ⟨_, rfl⟩ (fun c21 => ?_) (fun c21 => ?_)
          · skip
            refine wa_iconst ?_
            refine wa_fall ⟨_, rfl⟩ ?_
            refine wa_ireturn rfl ?_
            refine ⟨rfl, congrArg (fun z => Sum.inl (some (0, z))) ?_⟩
            unfold th_c
            repeat (first | rw [if_pos (by omega)] | rw [if_neg (by omega)])
            all_goals first | rfl | omega
          · skip
            refine wa_aload_n (n := 3) rfl ?_
            refine wa_iconst ?_
            refine wb_aald5 126 2 rfl rfl (wy_pr rfl) wt_126 (by rw [show _ = _ from ((cl_126 hC))]; omega) wl_126_2 ?_
            refine wa_iload_n (n := 1) rfl ?_
            refine wb_iald 129 rfl (wy_pr rfl) wt_129 (n := (S 127 (-1))) ((hl 2 (by decide))) (by omega) (by omega) (v := (S 129 k)) rfl (fun r22 => ?_)
            refine wa_goto ⟨_, rfl⟩ ?_
            refine wa_ireturn rfl ?_
            refine ⟨rfl, congrArg (fun z => Sum.inl (some (0, z))) ?_⟩
            unfold th_c
            repeat (first | rw [if_pos (by omega)] | rw [if_neg (by omega)])
            all_goals first | rfl | omega
        refine wb_sw (w_rg0 (by omega) (by omega)) (tb := 17) (w_tb_df (by simp only [List.length_cons, List.length_nil]; omega)) ⟨_, rfl⟩ ?_
        refine wa_iconst ?_
        refine wa_ireturn rfl ?_
        refine ⟨rfl, congrArg (fun z => Sum.inl (some (0, z))) ?_⟩
        unfold th_c
        repeat (first | rw [if_pos (by omega)] | rw [if_neg (by omega)])
        all_goals first | rfl | omega
      · skip
        refine wa_iconst ?_
        refine wa_goto ⟨_, rfl⟩ ?_
        refine wa_istore (n := 4) rfl ?_
        refine wa_iload_n (n := 2) rfl ?_
        by_cases c23 : wh = 0
        · refine wb_sw (w_rg0 (by omega) (by omega)) (tb := 5) (by rw [c23]; rfl) ⟨_, rfl⟩ ?_
          refine wa_aload_n (n := 3) rfl ?_
          refine wa_iconst ?_
          refine wb_aald5 126 0 rfl rfl (wy_pr rfl) wt_126 (by rw [show _ = _ from ((cl_126 hC))]; omega) wl_126_0 ?_
          refine wa_iload_n (n := 1) rfl ?_
          refine wb_iald 127 rfl (wy_pr rfl) wt_127 (n := (S 127 (-1))) (rfl) (by omega) (by omega) (v := (S 127 k)) rfl (fun r24 => ?_)
          refine wa_iconst ?_
          refine wa_isub ?_
          refine wa_ireturn rfl ?_
          refine ⟨rfl, congrArg (fun z => Sum.inl (some (0, z))) ?_⟩
          unfold th_c
          repeat (first | rw [if_pos (by omega)] | rw [if_neg (by omega)])
          all_goals first | rfl | omega
        by_cases c25 : wh = 1
        · refine wb_sw (w_rg0 (by omega) (by omega)) (tb := 6) (by rw [c25]; rfl) ⟨_, rfl⟩ ?_
          refine wa_aload_n (n := 3) rfl ?_
          refine wa_iconst ?_
          refine wb_aald5 126 1 rfl rfl (wy_pr rfl) wt_126 (by rw [show _ = _ from ((cl_126 hC))]; omega) wl_126_1 ?_
          refine wa_iload_n (n := 1) rfl ?_
          refine wb_iald 128 rfl (wy_pr rfl) wt_128 (n := (S 127 (-1))) ((hl 1 (by decide))) (by omega) (by omega) (v := (S 128 k)) rfl (fun r26 => ?_)
          refine wa_ireturn rfl ?_
          refine ⟨rfl, congrArg (fun z => Sum.inl (some (0, z))) ?_⟩
          unfold th_c
          repeat (first | rw [if_pos (by omega)] | rw [if_neg (by omega)])
          all_goals first | rfl | omega
        by_cases c27 : wh = 2
        · refine wb_sw (w_rg0 (by omega) (by omega)) (tb := 7) (by rw [c27]; rfl) ⟨_, rfl⟩ ?_
          refine wa_iload (n := 4) rfl ?_
          refine wa_ifeq (w_rg0 (by omega) (by omega)) ⟨_, rfl⟩ (fun c28 => ?_) (fun c28 => ?_)
          · skip
            exact absurd c28 (by omega)
          · skip
            refine wa_aload_n (n := 0) rfl ?_
            refine wb_gf4 0 rfl (wy_pr rfl) wt_0 wf_10_7 (v := 72) wl_0_7 ?_
            refine wb_gf4 72 rfl (wy_pr rfl) wt_72 wf_2_7 (v := 143) wl_72_7 ?_
            refine wa_iconst ?_
            refine wb_aald5 143 0 rfl rfl (wy_pr rfl) wt_143 (by rw [show _ = _ from ((cl_143 hC))]; omega) wl_143_0 ?_
            refine wa_aload_n (n := 3) rfl ?_
            refine wa_iconst ?_
            refine wb_aald5 126 1 rfl rfl (wy_pr rfl) wt_126 (by rw [show _ = _ from ((cl_126 hC))]; omega) wl_126_1 ?_
            refine wa_iload_n (n := 1) rfl ?_
            refine wb_iald 128 rfl (wy_pr rfl) wt_128 (n := (S 127 (-1))) ((hl 1 (by decide))) (by omega) (by omega) (v := (S 128 k)) rfl (fun r29 => ?_)
            refine wb_iald 144 rfl (wy_pr rfl) wt_144 (n := (S 144 (-1))) (rfl) (by omega) (by omega) (v := (S 144 (S 128 k))) rfl (fun r30 => ?_)
            refine wa_goto ⟨_, rfl⟩ ?_
            refine wa_ireturn rfl ?_
            refine ⟨rfl, congrArg (fun z => Sum.inl (some (0, z))) ?_⟩
            unfold th_c
            repeat (first | rw [if_pos (by omega)] | rw [if_neg (by omega)])
            all_goals first | rfl | omega
        by_cases c31 : wh = 3
        · refine wb_sw (w_rg0 (by omega) (by omega)) (tb := 10) (by rw [c31]; rfl) ⟨_, rfl⟩ ?_
          refine wa_aload_n (n := 3) rfl ?_
          refine wa_iconst ?_
          refine wb_aald5 126 0 rfl rfl (wy_pr rfl) wt_126 (by rw [show _ = _ from ((cl_126 hC))]; omega) wl_126_0 ?_
          refine wa_iload_n (n := 1) rfl ?_
          refine wb_iald 127 rfl (wy_pr rfl) wt_127 (n := (S 127 (-1))) (rfl) (by omega) (by omega) (v := (S 127 k)) rfl (fun r32 => ?_)
          refine wa_bipush (w_rg2 (by omega) (by omega)) ?_
          refine wa_icmpne (w_rg0 (by omega) (by omega)) (w_rg0 (by omega) (by omega)) ⟨_, rfl⟩ (fun c33 => ?_) (fun c33 => ?_)
          · skip
            refine wa_aload_n (n := 3) rfl ?_
            refine wa_bipush (w_rg2 (by omega) (by omega)) ?_
            refine wb_aald5 126 7 rfl rfl (wy_pr rfl) wt_126 (by rw [show _ = _ from ((cl_126 hC))]; omega) wl_126_7 ?_
            refine wa_iload_n (n := 1) rfl ?_
            refine wb_iald 134 rfl (wy_pr rfl) wt_134 (n := (S 127 (-1))) ((hl 7 (by decide))) (by omega) (by omega) (v := (S 134 k)) rfl (fun r34 => ?_)
            refine wa_fall ⟨_, rfl⟩ ?_
            refine wa_ireturn rfl ?_
            refine ⟨rfl, congrArg (fun z => Sum.inl (some (0, z))) ?_⟩
            unfold th_c
            repeat (first | rw [if_pos (by omega)] | rw [if_neg (by omega)])
            all_goals first | rfl | omega
          · skip
            refine wa_aload_n (n := 3) rfl ?_
            refine wa_iconst ?_
            refine wb_aald5 126 2 rfl rfl (wy_pr rfl) wt_126 (by rw [show _ = _ from ((cl_126 hC))]; omega) wl_126_2 ?_
            refine wa_iload_n (n := 1) rfl ?_
            refine wb_iald 129 rfl (wy_pr rfl) wt_129 (n := (S 127 (-1))) ((hl 2 (by decide))) (by omega) (by omega) (v := (S 129 k)) rfl (fun r35 => ?_)
            refine wa_goto ⟨_, rfl⟩ ?_
            refine wa_ireturn rfl ?_
            refine ⟨rfl, congrArg (fun z => Sum.inl (some (0, z))) ?_⟩
            unfold th_c
            repeat (first | rw [if_pos (by omega)] | rw [if_neg (by omega)])
            all_goals first | rfl | omega
        by_cases c36 : wh = 4
        · refine wb_sw (w_rg0 (by omega) (by omega)) (tb := 13) (by rw [c36]; rfl) ⟨_, rfl⟩ ?_
          refine wa_aload_n (n := 3) rfl ?_
          refine wa_iconst ?_
          refine wb_aald5 126 3 rfl rfl (wy_pr rfl) wt_126 (by rw [show _ = _ from ((cl_126 hC))]; omega) wl_126_3 ?_
          refine wa_iload_n (n := 1) rfl ?_
          refine wb_iald 130 rfl (wy_pr rfl) wt_130 (n := (S 127 (-1))) ((hl 3 (by decide))) (by omega) (by omega) (v := (S 130 k)) rfl (fun r37 => ?_)
          refine wa_ireturn rfl ?_
          refine ⟨rfl, congrArg (fun z => Sum.inl (some (0, z))) ?_⟩
          unfold th_c
          repeat (first | rw [if_pos (by omega)] | rw [if_neg (by omega)])
          all_goals first | rfl | omega
        by_cases c38 : wh = 5
        · refine wb_sw (w_rg0 (by omega) (by omega)) (tb := 14) (by rw [c38]; rfl) ⟨_, rfl⟩ ?_
          refine wa_aload_n (n := 3) rfl ?_
          refine wa_iconst ?_
          refine wb_aald5 126 0 rfl rfl (wy_pr rfl) wt_126 (by rw [show _ = _ from ((cl_126 hC))]; omega) wl_126_0 ?_
          refine wa_iload_n (n := 1) rfl ?_
          refine wb_iald 127 rfl (wy_pr rfl) wt_127 (n := (S 127 (-1))) (rfl) (by omega) (by omega) (v := (S 127 k)) rfl (fun r39 => ?_)
          refine wa_iconst ?_
          refine wa_icmpne (w_rg0 (by omega) (by omega)) (w_rg0 (by omega) (by omega)) ⟨_, rfl⟩ (fun c40 => ?_) (fun c40 => ?_)
          · skip
            refine wa_iconst ?_
            refine wa_fall ⟨_, rfl⟩ ?_
            refine wa_ireturn rfl ?_
            refine ⟨rfl, congrArg (fun z => Sum.inl (some (0, z))) ?_⟩
            unfold th_c
            repeat (first | rw [if_pos (by omega)] | rw [if_neg (by omega)])
            all_goals first | rfl | omega
          · skip
            refine wa_aload_n (n := 3) rfl ?_
            refine wa_iconst ?_
            refine wb_aald5 126 2 rfl rfl (wy_pr rfl) wt_126 (by rw [show _ = _ from ((cl_126 hC))]; omega) wl_126_2 ?_
            refine wa_iload_n (n := 1) rfl ?_
            refine wb_iald 129 rfl (wy_pr rfl) wt_129 (n := (S 127 (-1))) ((hl 2 (by decide))) (by omega) (by omega) (v := (S 129 k)) rfl (fun r41 => ?_)
            refine wa_goto ⟨_, rfl⟩ ?_
            refine wa_ireturn rfl ?_
            refine ⟨rfl, congrArg (fun z => Sum.inl (some (0, z))) ?_⟩
            unfold th_c
            repeat (first | rw [if_pos (by omega)] | rw [if_neg (by omega)])
            all_goals first | rfl | omega
        refine wb_sw (w_rg0 (by omega) (by omega)) (tb := 17) (w_tb_df (by simp only [List.length_cons, List.length_nil]; omega)) ⟨_, rfl⟩ ?_
        refine wa_iconst ?_
        refine wa_ireturn rfl ?_
        refine ⟨rfl, congrArg (fun z => Sum.inl (some (0, z))) ?_⟩
        unfold th_c
        repeat (first | rw [if_pos (by omega)] | rw [if_neg (by omega)])
        all_goals first | rfl | omega
    · skip
      refine wa_fall ⟨_, rfl⟩ ?_
      refine wa_iconst ?_
      refine wa_ireturn rfl ?_
      refine ⟨rfl, congrArg (fun z => Sum.inl (some (0, z))) ?_⟩
      unfold th_c
      repeat (first | rw [if_pos (by omega)] | rw [if_neg (by omega)])
      all_goals first | rfl | omega
theorem mth {k wh : Int} (hM : w_ML S) (h3 : 0 ≤ S 237 68 ∧ S 237 68 ≤ 8000) (hs : ∀ k : Int, 0 ≤ k → k < S 237 68 → (S 314 k = 4 ∨ S 314 k = 5) → 0 ≤ S 315 k ∧ S 315 k < 4001) (hk : -2147483648 ≤ k ∧ k ≤ 2147483647) (hwh : -2147483648 ≤ wh ∧ wh ≤ 2147483647) : wJ (pe_GA xs) wY0 M (d + 1) t_M_thing ((pe_at t_M_thing.bl 0).getD (0, [])).2 [(0, (2, 237)), (1, (0, k)), (2, (0, wh))] [] S (fun o Z => w_up S 237 0 0 = Z ∧ o = .inl (some (0, th_r S k wh))) := by
  refine wa_aload_n (n := 0) rfl ?_
  refine wa_iconst ?_
  refine wb_pfi 237 rfl (wy_pr rfl) wt_237 wf_15_0 (n := 0) rfl ⟨(by omega), (by omega)⟩ ?_
  refine wa_iload_n (n := 1) rfl ?_
  refine wa_i2l (w_rg0 (by omega) (by omega)) ?_
  refine wa_lconst ?_
  refine wa_aload_n (n := 0) rfl ?_
  refine wb_gfi 237 rfl (wy_pr rfl) wt_237 wf_15_68 (v := (S 237 68)) (w_up_at (by decide)) (fun r1 => ?_)
  refine wa_iconst ?_
  refine wa_isub ?_
  refine wa_i2l (w_rg0 (by omega) (by omega)) ?_
  refine wa_cs (M2 := fun _ => False) rfl at_M_in ⟨_, rfl⟩ rfl rfl ⟨(Or.inr ⟨wy_pr rfl, fun q => q⟩), trivial, trivial, trivial⟩ trivial (fun _ _ q => False.elim q) (in_ok (S := (w_up S 237 0 0)) (a := k) (lo := 0) (hi := ((S 237 68) - 1)) ⟨by omega, by omega⟩ ⟨by omega, by omega⟩ ⟨by omega, by omega⟩) (fun oq3 Sq3 hp4 q3 => ?_)
  rcases q3 with ⟨rfl, ⟨rfl, hin2⟩ | ⟨rfl, hin2⟩⟩
  · skip
    show wJ _ _ _ _ _ _ _ _ _ _
    refine wa_ifne (w_rg0 (by omega) (by omega)) ⟨_, rfl⟩ (fun c5 => ?_) (fun c5 => ?_)
    · skip
      have hs1 := hs k (by omega) (by omega)
      refine wa_aload_n (n := 0) rfl ?_
      refine wa_aload_n (n := 0) rfl ?_
      refine wb_gf4 237 rfl (wy_pr rfl) wt_237 wf_15_70 (v := 314) wl_237_70 ?_
      refine wa_iload_n (n := 1) rfl ?_
      refine wb_iald 314 rfl (wy_pr rfl) wt_314 (n := 8000) ((w_up_slot (by decide)).trans ((ml_314 hM))) (by omega) (by omega) (v := (S 314 k)) (w_up_slot (by decide)) (fun r6 => ?_)
      refine wa_cv 237 rfl (wy_pr rfl) wt_237 (M2 := fun _ => False) rfl at_M_hasShape ⟨_, rfl⟩ rfl rfl ⟨(Or.inr ⟨wy_pr rfl, fun q => q⟩), trivial, trivial, trivial⟩ trivial (fun _ _ q => False.elim q) ?_ (fun _ _ _ q => q)
      refine wa_iload_n (n := 1) rfl ?_
      refine wa_iconst ?_
      refine wa_icmpeq (w_rg0 (by omega) (by omega)) (w_rg0 (by omega) (by omega)) ⟨_, rfl⟩ (fun c7 => ?_) (fun c7 => ?_)
      · skip
        refine wa_iconst ?_
        refine wa_goto ⟨_, rfl⟩ ?_
        refine wa_zreturn rfl (Or.inr rfl) ?_
        show wJ _ _ _ _ _ _ _ _ _ _
        refine wa_istore_n (n := 3) rfl ?_
        refine wa_iload_n (n := 2) rfl ?_
        by_cases c8 : wh = 0
        · refine wb_sw (w_rg0 (by omega) (by omega)) (tb := 2) (by rw [c8]; rfl) ⟨_, rfl⟩ ?_
          refine wa_aload_n (n := 0) rfl ?_
          refine wb_gf4 237 rfl (wy_pr rfl) wt_237 wf_15_70 (v := 314) wl_237_70 ?_
          refine wa_iload_n (n := 1) rfl ?_
          refine wb_iald 314 rfl (wy_pr rfl) wt_314 (n := 8000) ((w_up_slot (by decide)).trans ((ml_314 hM))) (by omega) (by omega) (v := (S 314 k)) (w_up_slot (by decide)) (fun r9 => ?_)
          refine wa_iconst ?_
          refine wa_isub ?_
          refine wa_ireturn rfl ?_
          refine ⟨rfl, congrArg (fun z => Sum.inl (some (0, z))) ?_⟩
          unfold th_r
          repeat (first | rw [if_pos (by omega)] | rw [if_neg (by omega)])
          all_goals first | rfl | omega
        by_cases c10 : wh = 1
        · refine wb_sw (w_rg0 (by omega) (by omega)) (tb := 3) (by rw [c10]; rfl) ⟨_, rfl⟩ ?_
          refine wa_iload_n (n := 3) rfl ?_
          refine wa_ifeq (w_rg0 (by omega) (by omega)) ⟨_, rfl⟩ (fun c11 => ?_) (fun c11 => ?_)
          · skip
            exact absurd c11 (by omega)
          · skip
            refine wa_aload_n (n := 0) rfl ?_
            refine wb_gf4 237 rfl (wy_pr rfl) wt_237 wf_15_71 (v := 315) wl_237_71 ?_
            refine wa_iload_n (n := 1) rfl ?_
            refine wb_iald 315 rfl (wy_pr rfl) wt_315 (n := 8000) ((w_up_slot (by decide)).trans ((ml_315 hM))) (by omega) (by omega) (v := (S 315 k)) (w_up_slot (by decide)) (fun r12 => ?_)
            refine wa_goto ⟨_, rfl⟩ ?_
            refine wa_ireturn rfl ?_
            refine ⟨rfl, congrArg (fun z => Sum.inl (some (0, z))) ?_⟩
            unfold th_r
            repeat (first | rw [if_pos (by omega)] | rw [if_neg (by omega)])
            all_goals first | rfl | omega
        by_cases c13 : wh = 2
        · refine wb_sw (w_rg0 (by omega) (by omega)) (tb := 6) (by rw [c13]; rfl) ⟨_, rfl⟩ ?_
          refine wa_iload_n (n := 3) rfl ?_
          refine wa_ifeq (w_rg0 (by omega) (by omega)) ⟨_, rfl⟩ (fun c14 => ?_) (fun c14 => ?_)
          · skip
            exact absurd c14 (by omega)
          · skip
            refine wa_aload_n (n := 0) rfl ?_
            refine wa_iload_n (n := 1) rfl ?_
            refine wa_cv 237 rfl (wy_pr rfl) wt_237 (M2 := fun _ => False) rfl at_M_protoOf ⟨_, rfl⟩ rfl rfl ⟨trivial, (Or.inr ⟨wy_pr rfl, fun q => q⟩), trivial, trivial, trivial⟩ trivial (fun _ _ q => False.elim q) ?_ (fun _ _ _ q => q)
            refine wa_aload_n (n := 0) rfl ?_
            refine wb_gf4 237 rfl (wy_pr rfl) wt_237 wf_15_88 (v := 329) wl_237_88 ?_
            refine wa_aload_n (n := 0) rfl ?_
            refine wb_gf4 237 rfl (wy_pr rfl) wt_237 wf_15_71 (v := 315) wl_237_71 ?_
            refine wa_iload_n (n := 1) rfl ?_
            refine wb_iald 315 rfl (wy_pr rfl) wt_315 (n := 8000) ((w_up_slot (by decide)).trans ((ml_315 hM))) (by omega) (by omega) (v := (S 315 k)) (w_up_slot (by decide)) (fun r15 => ?_)
            refine wb_iald 329 rfl (wy_pr rfl) wt_329 (n := 4001) ((w_up_slot (by decide)).trans ((ml_329 hM))) (by omega) (by omega) (v := (S 329 (S 315 k))) (w_up_slot (by decide)) (fun r16 => ?_)
            refine wa_ireturn rfl ?_
            show wJ _ _ _ _ _ _ _ _ _ _
            refine wa_goto ⟨_, rfl⟩ ?_
            refine wa_ireturn rfl ?_
            refine ⟨rfl, congrArg (fun z => Sum.inl (some (0, z))) ?_⟩
            unfold th_r
            repeat (first | rw [if_pos (by omega)] | rw [if_neg (by omega)])
            all_goals first | rfl | omega
        by_cases c17 : wh = 3
        · refine wb_sw (w_rg0 (by omega) (by omega)) (tb := 9) (by rw [c17]; rfl) ⟨_, rfl⟩ ?_
          refine wa_aload_n (n := 0) rfl ?_
          refine wb_gf4 237 rfl (wy_pr rfl) wt_237 wf_15_70 (v := 314) wl_237_70 ?_
          refine wa_iload_n (n := 1) rfl ?_
          refine wb_iald 314 rfl (wy_pr rfl) wt_314 (n := 8000) ((w_up_slot (by decide)).trans ((ml_314 hM))) (by omega) (by omega) (v := (S 314 k)) (w_up_slot (by decide)) (fun r18 => ?_)
          refine wa_bipush (w_rg2 (by omega) (by omega)) ?_
          refine wa_icmpne (w_rg0 (by omega) (by omega)) (w_rg0 (by omega) (by omega)) ⟨_, rfl⟩ (fun c19 => ?_) (fun c19 => ?_)
          · skip
            refine wa_aload_n (n := 0) rfl ?_
            refine wb_gf4 237 rfl (wy_pr rfl) wt_237 wf_15_73 (v := 317) wl_237_73 ?_
            refine wa_iload_n (n := 1) rfl ?_
            refine wb_iald 317 rfl (wy_pr rfl) wt_317 (n := 8000) ((w_up_slot (by decide)).trans ((ml_317 hM))) (by omega) (by omega) (v := (S 317 k)) (w_up_slot (by decide)) (fun r20 => ?_)
            refine wa_fall ⟨_, rfl⟩ ?_
            refine wa_ireturn rfl ?_
            refine ⟨rfl, congrArg (fun z => Sum.inl (some (0, z))) ?_⟩
            unfold th_r
            repeat (first | rw [if_pos (by omega)] | rw [if_neg (by omega)])
            all_goals first | rfl | omega
          · skip
            exact absurd c19 (by omega)
        by_cases c21 : wh = 4
        · refine wb_sw (w_rg0 (by omega) (by omega)) (tb := 12) (by rw [c21]; rfl) ⟨_, rfl⟩ ?_
          refine wa_aload_n (n := 0) rfl ?_
          refine wb_gf4 237 rfl (wy_pr rfl) wt_237 wf_15_78 (v := 322) wl_237_78 ?_
          refine wa_iload_n (n := 1) rfl ?_
          refine wb_zald 322 rfl (wy_pr rfl) wt_322 (n := 8000) ((w_up_slot (by decide)).trans ((ml_322 hM))) (by omega) (by omega) (v := (S 322 k)) (w_up_slot (by decide)) (fun r22 => ?_)
          refine wa_ifeq (w_rg0 (by omega) (by omega)) ⟨_, rfl⟩ (fun c23 => ?_) (fun c23 => ?_)
          · skip
            refine wa_iconst ?_
            refine wa_fall ⟨_, rfl⟩ ?_
            refine wa_ireturn rfl ?_
            refine ⟨rfl, congrArg (fun z => Sum.inl (some (0, z))) ?_⟩
            unfold th_r
            repeat (first | rw [if_pos (by omega)] | rw [if_neg (by omega)])
            all_goals first | rfl | omega
          · skip
            refine wa_aload_n (n := 0) rfl ?_
            refine wb_gf4 237 rfl (wy_pr rfl) wt_237 wf_15_79 (v := 323) wl_237_79 ?_
            refine wa_iload_n (n := 1) rfl ?_
            refine wb_iald 323 rfl (wy_pr rfl) wt_323 (n := 8000) ((w_up_slot (by decide)).trans ((ml_323 hM))) (by omega) (by omega) (v := (S 323 k)) (w_up_slot (by decide)) (fun r24 => ?_)
            refine wa_goto ⟨_, rfl⟩ ?_
            refine wa_ireturn rfl ?_
            refine ⟨rfl, congrArg (fun z => Sum.inl (some (0, z))) ?_⟩
            unfold th_r
            repeat (first | rw [if_pos (by omega)] | rw [if_neg (by omega)])
            all_goals first | rfl | omega
        by_cases c25 : wh = 5
        · refine wb_sw (w_rg0 (by omega) (by omega)) (tb := 15) (by rw [c25]; rfl) ⟨_, rfl⟩ ?_
          refine wa_aload_n (n := 0) rfl ?_
          refine wb_gf4 237 rfl (wy_pr rfl) wt_237 wf_15_75 (v := 319) wl_237_75 ?_
          refine wa_iload_n (n := 1) rfl ?_
          refine wb_iald 319 rfl (wy_pr rfl) wt_319 (n := 8000) ((w_up_slot (by decide)).trans ((ml_319 hM))) (by omega) (by omega) (v := (S 319 k)) (w_up_slot (by decide)) (fun r26 => ?_)
          refine wa_ireturn rfl ?_
          refine ⟨rfl, congrArg (fun z => Sum.inl (some (0, z))) ?_⟩
          unfold th_r
          repeat (first | rw [if_pos (by omega)] | rw [if_neg (by omega)])
          all_goals first | rfl | omega
        refine wb_sw (w_rg0 (by omega) (by omega)) (tb := 16) (w_tb_df (by simp only [List.length_cons, List.length_nil]; omega)) ⟨_, rfl⟩ ?_
        refine wa_iconst ?_
        refine wa_ireturn rfl ?_
        refine ⟨rfl, congrArg (fun z => Sum.inl (some (0, z))) ?_⟩
        unfold th_r
        repeat (first | rw [if_pos (by omega)] | rw [if_neg (by omega)])
        all_goals first | rfl | omega
      · skip
        refine wa_iload_n (n := 1) rfl ?_
        refine wa_iconst ?_
        refine wa_icmpne (w_rg0 (by omega) (by omega)) (w_rg0 (by omega) (by omega)) ⟨_, rfl⟩ (fun c27 => ?_) (fun c27 => ?_)
        · skip
          refine wa_iconst ?_
          refine wa_fall ⟨_, rfl⟩ ?_
          refine wa_zreturn rfl (Or.inl rfl) ?_
          show wJ _ _ _ _ _ _ _ _ _ _
          refine wa_istore_n (n := 3) rfl ?_
          refine wa_iload_n (n := 2) rfl ?_
          by_cases c28 : wh = 0
          · refine wb_sw (w_rg0 (by omega) (by omega)) (tb := 2) (by rw [c28]; rfl) ⟨_, rfl⟩ ?_
            refine wa_aload_n (n := 0) rfl ?_
            refine wb_gf4 237 rfl (wy_pr rfl) wt_237 wf_15_70 (v := 314) wl_237_70 ?_
            refine wa_iload_n (n := 1) rfl ?_
            refine wb_iald 314 rfl (wy_pr rfl) wt_314 (n := 8000) ((w_up_slot (by decide)).trans ((ml_314 hM))) (by omega) (by omega) (v := (S 314 k)) (w_up_slot (by decide)) (fun r29 => ?_)
            refine wa_iconst ?_
            refine wa_isub ?_
            refine wa_ireturn rfl ?_
            refine ⟨rfl, congrArg (fun z => Sum.inl (some (0, z))) ?_⟩
            unfold th_r
            repeat (first | rw [if_pos (by omega)] | rw [if_neg (by omega)])
            all_goals first | rfl | omega
          by_cases c30 : wh = 1
          · refine wb_sw (w_rg0 (by omega) (by omega)) (tb := 3) (by rw [c30]; rfl) ⟨_, rfl⟩ ?_
            refine wa_iload_n (n := 3) rfl ?_
            refine wa_ifeq (w_rg0 (by omega) (by omega)) ⟨_, rfl⟩ (fun c31 => ?_) (fun c31 => ?_)
            · skip
              refine wa_iconst ?_
              refine wa_fall ⟨_, rfl⟩ ?_
              refine wa_ireturn rfl ?_
              refine ⟨rfl, congrArg (fun z => Sum.inl (some (0, z))) ?_⟩
              unfold th_r
              repeat (first | rw [if_pos (by omega)] | rw [if_neg (by omega)])
              all_goals first | rfl | omega
            · skip
              exact absurd c31 (by omega)
          by_cases c32 : wh = 2
          · refine wb_sw (w_rg0 (by omega) (by omega)) (tb := 6) (by rw [c32]; rfl) ⟨_, rfl⟩ ?_
            refine wa_iload_n (n := 3) rfl ?_
            refine wa_ifeq (w_rg0 (by omega) (by omega)) ⟨_, rfl⟩ (fun c33 => ?_) (fun c33 => ?_)
            · skip
              refine wa_iconst ?_
              refine wa_fall ⟨_, rfl⟩ ?_
              refine wa_ireturn rfl ?_
              refine ⟨rfl, congrArg (fun z => Sum.inl (some (0, z))) ?_⟩
              unfold th_r
              repeat (first | rw [if_pos (by omega)] | rw [if_neg (by omega)])
              all_goals first | rfl | omega
            · skip
              exact absurd c33 (by omega)
          by_cases c34 : wh = 3
          · refine wb_sw (w_rg0 (by omega) (by omega)) (tb := 9) (by rw [c34]; rfl) ⟨_, rfl⟩ ?_
            refine wa_aload_n (n := 0) rfl ?_
            refine wb_gf4 237 rfl (wy_pr rfl) wt_237 wf_15_70 (v := 314) wl_237_70 ?_
            refine wa_iload_n (n := 1) rfl ?_
            refine wb_iald 314 rfl (wy_pr rfl) wt_314 (n := 8000) ((w_up_slot (by decide)).trans ((ml_314 hM))) (by omega) (by omega) (v := (S 314 k)) (w_up_slot (by decide)) (fun r35 => ?_)
            refine wa_bipush (w_rg2 (by omega) (by omega)) ?_
            refine wa_icmpne (w_rg0 (by omega) (by omega)) (w_rg0 (by omega) (by omega)) ⟨_, rfl⟩ (fun c36 => ?_) (fun c36 => ?_)
            · skip
              refine wa_aload_n (n := 0) rfl ?_
              refine wb_gf4 237 rfl (wy_pr rfl) wt_237 wf_15_73 (v := 317) wl_237_73 ?_
              refine wa_iload_n (n := 1) rfl ?_
              refine wb_iald 317 rfl (wy_pr rfl) wt_317 (n := 8000) ((w_up_slot (by decide)).trans ((ml_317 hM))) (by omega) (by omega) (v := (S 317 k)) (w_up_slot (by decide)) (fun r37 => ?_)
              refine wa_fall ⟨_, rfl⟩ ?_
              refine wa_ireturn rfl ?_
              refine ⟨rfl, congrArg (fun z => Sum.inl (some (0, z))) ?_⟩
              unfold th_r
              repeat (first | rw [if_pos (by omega)] | rw [if_neg (by omega)])
              all_goals first | rfl | omega
            · skip
              refine wa_aload_n (n := 0) rfl ?_
              refine wb_gf4 237 rfl (wy_pr rfl) wt_237 wf_15_77 (v := 321) wl_237_77 ?_
              refine wa_iload_n (n := 1) rfl ?_
              refine wb_iald 321 rfl (wy_pr rfl) wt_321 (n := 8000) ((w_up_slot (by decide)).trans ((ml_321 hM))) (by omega) (by omega) (v := (S 321 k)) (w_up_slot (by decide)) (fun r38 => ?_)
              refine wa_goto ⟨_, rfl⟩ ?_
              refine wa_ireturn rfl ?_
              refine ⟨rfl, congrArg (fun z => Sum.inl (some (0, z))) ?_⟩
              unfold th_r
              repeat (first | rw [if_pos (by omega)] | rw [if_neg (by omega)])
              all_goals first | rfl | omega
          by_cases c39 : wh = 4
          · refine wb_sw (w_rg0 (by omega) (by omega)) (tb := 12) (by rw [c39]; rfl) ⟨_, rfl⟩ ?_
            refine wa_aload_n (n := 0) rfl ?_
            refine wb_gf4 237 rfl (wy_pr rfl) wt_237 wf_15_78 (v := 322) wl_237_78 ?_
            refine wa_iload_n (n := 1) rfl ?_
            refine wb_zald 322 rfl (wy_pr rfl) wt_322 (n := 8000) ((w_up_slot (by decide)).trans ((ml_322 hM))) (by omega) (by omega) (v := (S 322 k)) (w_up_slot (by decide)) (fun r40 => ?_)
            refine wa_ifeq (w_rg0 (by omega) (by omega)) ⟨_, rfl⟩ (fun c41 => ?_) (fun c41 => ?_)
            · skip
              refine wa_iconst ?_
              refine wa_fall ⟨_, rfl⟩ ?_
              refine wa_ireturn rfl ?_
              refine ⟨rfl, congrArg (fun z => Sum.inl (some (0, z))) ?_⟩
              unfold th_r
              repeat (first | rw [if_pos (by omega)] | rw [if_neg (by omega)])
              all_goals first | rfl | omega
            · skip
              refine wa_aload_n (n := 0) rfl ?_
              refine wb_gf4 237 rfl (wy_pr rfl) wt_237 wf_15_79 (v := 323) wl_237_79 ?_
              refine wa_iload_n (n := 1) rfl ?_
              refine wb_iald 323 rfl (wy_pr rfl) wt_323 (n := 8000) ((w_up_slot (by decide)).trans ((ml_323 hM))) (by omega) (by omega) (v := (S 323 k)) (w_up_slot (by decide)) (fun r42 => ?_)
              refine wa_goto ⟨_, rfl⟩ ?_
              refine wa_ireturn rfl ?_
              refine ⟨rfl, congrArg (fun z => Sum.inl (some (0, z))) ?_⟩
              unfold th_r
              repeat (first | rw [if_pos (by omega)] | rw [if_neg (by omega)])
              all_goals first | rfl | omega
          by_cases c43 : wh = 5
          · refine wb_sw (w_rg0 (by omega) (by omega)) (tb := 15) (by rw [c43]; rfl) ⟨_, rfl⟩ ?_
            refine wa_aload_n (n := 0) rfl ?_
            refine wb_gf4 237 rfl (wy_pr rfl) wt_237 wf_15_75 (v := 319) wl_237_75 ?_
            refine wa_iload_n (n := 1) rfl ?_
            refine wb_iald 319 rfl (wy_pr rfl) wt_319 (n := 8000) ((w_up_slot (by decide)).trans ((ml_319 hM))) (by omega) (by omega) (v := (S 319 k)) (w_up_slot (by decide)) (fun r44 => ?_)
            refine wa_ireturn rfl ?_
            refine ⟨rfl, congrArg (fun z => Sum.inl (some (0, z))) ?_⟩
            unfold th_r
            repeat (first | rw [if_pos (by omega)] | rw [if_neg (by omega)])
            all_goals first | rfl | omega
          refine wb_sw (w_rg0 (by omega) (by omega)) (tb := 16) (w_tb_df (by simp only [List.length_cons, List.length_nil]; omega)) ⟨_, rfl⟩ ?_
          refine wa_iconst ?_
          refine wa_ireturn rfl ?_
          refine ⟨rfl, congrArg (fun z => Sum.inl (some (0, z))) ?_⟩
          unfold th_r
          repeat (first | rw [if_pos (by omega)] | rw [if_neg (by omega)])
          all_goals first | rfl | omega
        · skip
          refine wa_fall ⟨_, rfl⟩ ?_
          refine wa_iconst ?_
          refine wa_goto ⟨_, rfl⟩ ?_
          refine wa_zreturn rfl (Or.inr rfl) ?_
          show wJ _ _ _ _ _ _ _ _ _ _
          refine wa_istore_n (n := 3) rfl ?_
          refine wa_iload_n (n := 2) rfl ?_
          by_cases c45 : wh = 0
          · refine wb_sw (w_rg0 (by omega) (by omega)) (tb := 2) (by rw [c45]; rfl) ⟨_, rfl⟩ ?_
            refine wa_aload_n (n := 0) rfl ?_
            refine wb_gf4 237 rfl (wy_pr rfl) wt_237 wf_15_70 (v := 314) wl_237_70 ?_
            refine wa_iload_n (n := 1) rfl ?_
            refine wb_iald 314 rfl (wy_pr rfl) wt_314 (n := 8000) ((w_up_slot (by decide)).trans ((ml_314 hM))) (by omega) (by omega) (v := (S 314 k)) (w_up_slot (by decide)) (fun r46 => ?_)
            refine wa_iconst ?_
            refine wa_isub ?_
            refine wa_ireturn rfl ?_
            refine ⟨rfl, congrArg (fun z => Sum.inl (some (0, z))) ?_⟩
            unfold th_r
            repeat (first | rw [if_pos (by omega)] | rw [if_neg (by omega)])
            all_goals first | rfl | omega
          by_cases c47 : wh = 1
          · refine wb_sw (w_rg0 (by omega) (by omega)) (tb := 3) (by rw [c47]; rfl) ⟨_, rfl⟩ ?_
            refine wa_iload_n (n := 3) rfl ?_
            refine wa_ifeq (w_rg0 (by omega) (by omega)) ⟨_, rfl⟩ (fun c48 => ?_) (fun c48 => ?_)
            · skip
              exact absurd c48 (by omega)
            · skip
              refine wa_aload_n (n := 0) rfl ?_
              refine wb_gf4 237 rfl (wy_pr rfl) wt_237 wf_15_71 (v := 315) wl_237_71 ?_
              refine wa_iload_n (n := 1) rfl ?_
              refine wb_iald 315 rfl (wy_pr rfl) wt_315 (n := 8000) ((w_up_slot (by decide)).trans ((ml_315 hM))) (by omega) (by omega) (v := (S 315 k)) (w_up_slot (by decide)) (fun r49 => ?_)
              refine wa_goto ⟨_, rfl⟩ ?_
              refine wa_ireturn rfl ?_
              refine ⟨rfl, congrArg (fun z => Sum.inl (some (0, z))) ?_⟩
              unfold th_r
              repeat (first | rw [if_pos (by omega)] | rw [if_neg (by omega)])
              all_goals first | rfl | omega
          by_cases c50 : wh = 2
          · refine wb_sw (w_rg0 (by omega) (by omega)) (tb := 6) (by rw [c50]; rfl) ⟨_, rfl⟩ ?_
            refine wa_iload_n (n := 3) rfl ?_
            refine wa_ifeq (w_rg0 (by omega) (by omega)) ⟨_, rfl⟩ (fun c51 => ?_) (fun c51 => ?_)
            · skip
              exact absurd c51 (by omega)
            · skip
              refine wa_aload_n (n := 0) rfl ?_
              refine wa_iload_n (n := 1) rfl ?_
              refine wa_cv 237 rfl (wy_pr rfl) wt_237 (M2 := fun _ => False) rfl at_M_protoOf ⟨_, rfl⟩ rfl rfl ⟨trivial, (Or.inr ⟨wy_pr rfl, fun q => q⟩), trivial, trivial, trivial⟩ trivial (fun _ _ q => False.elim q) ?_ (fun _ _ _ q => q)
              refine wa_aload_n (n := 0) rfl ?_
              refine wb_gf4 237 rfl (wy_pr rfl) wt_237 wf_15_88 (v := 329) wl_237_88 ?_
              refine wa_aload_n (n := 0) rfl ?_
              refine wb_gf4 237 rfl (wy_pr rfl) wt_237 wf_15_71 (v := 315) wl_237_71 ?_
              refine wa_iload_n (n := 1) rfl ?_
              refine wb_iald 315 rfl (wy_pr rfl) wt_315 (n := 8000) ((w_up_slot (by decide)).trans ((ml_315 hM))) (by omega) (by omega) (v := (S 315 k)) (w_up_slot (by decide)) (fun r52 => ?_)
              refine wb_iald 329 rfl (wy_pr rfl) wt_329 (n := 4001) ((w_up_slot (by decide)).trans ((ml_329 hM))) (by omega) (by omega) (v := (S 329 (S 315 k))) (w_up_slot (by decide)) (fun r53 => ?_)
              refine wa_ireturn rfl ?_
              show wJ _ _ _ _ _ _ _ _ _ _
              refine wa_goto ⟨_, rfl⟩ ?_
              refine wa_ireturn rfl ?_
              refine ⟨rfl, congrArg (fun z => Sum.inl (some (0, z))) ?_⟩
              unfold th_r
              repeat (first | rw [if_pos (by omega)] | rw [if_neg (by omega)])
              all_goals first | rfl | omega
          by_cases c54 : wh = 3
          · refine wb_sw (w_rg0 (by omega) (by omega)) (tb := 9) (by rw [c54]; rfl) ⟨_, rfl⟩ ?_
            refine wa_aload_n (n := 0) rfl ?_
            refine wb_gf4 237 rfl (wy_pr rfl) wt_237 wf_15_70 (v := 314) wl_237_70 ?_
            refine wa_iload_n (n := 1) rfl ?_
            refine wb_iald 314 rfl (wy_pr rfl) wt_314 (n := 8000) ((w_up_slot (by decide)).trans ((ml_314 hM))) (by omega) (by omega) (v := (S 314 k)) (w_up_slot (by decide)) (fun r55 => ?_)
            refine wa_bipush (w_rg2 (by omega) (by omega)) ?_
            refine wa_icmpne (w_rg0 (by omega) (by omega)) (w_rg0 (by omega) (by omega)) ⟨_, rfl⟩ (fun c56 => ?_) (fun c56 => ?_)
            · skip
              refine wa_aload_n (n := 0) rfl ?_
              refine wb_gf4 237 rfl (wy_pr rfl) wt_237 wf_15_73 (v := 317) wl_237_73 ?_
              refine wa_iload_n (n := 1) rfl ?_
              refine wb_iald 317 rfl (wy_pr rfl) wt_317 (n := 8000) ((w_up_slot (by decide)).trans ((ml_317 hM))) (by omega) (by omega) (v := (S 317 k)) (w_up_slot (by decide)) (fun r57 => ?_)
              refine wa_fall ⟨_, rfl⟩ ?_
              refine wa_ireturn rfl ?_
              refine ⟨rfl, congrArg (fun z => Sum.inl (some (0, z))) ?_⟩
              unfold th_r
              repeat (first | rw [if_pos (by omega)] | rw [if_neg (by omega)])
              all_goals first | rfl | omega
            · skip
              exact absurd c56 (by omega)
          by_cases c58 : wh = 4
          · refine wb_sw (w_rg0 (by omega) (by omega)) (tb := 12) (by rw [c58]; rfl) ⟨_, rfl⟩ ?_
            refine wa_aload_n (n := 0) rfl ?_
            refine wb_gf4 237 rfl (wy_pr rfl) wt_237 wf_15_78 (v := 322) wl_237_78 ?_
            refine wa_iload_n (n := 1) rfl ?_
            refine wb_zald 322 rfl (wy_pr rfl) wt_322 (n := 8000) ((w_up_slot (by decide)).trans ((ml_322 hM))) (by omega) (by omega) (v := (S 322 k)) (w_up_slot (by decide)) (fun r59 => ?_)
            refine wa_ifeq (w_rg0 (by omega) (by omega)) ⟨_, rfl⟩ (fun c60 => ?_) (fun c60 => ?_)
            · skip
              refine wa_iconst ?_
              refine wa_fall ⟨_, rfl⟩ ?_
              refine wa_ireturn rfl ?_
              refine ⟨rfl, congrArg (fun z => Sum.inl (some (0, z))) ?_⟩
              unfold th_r
              repeat (first | rw [if_pos (by omega)] | rw [if_neg (by omega)])
              all_goals first | rfl | omega
            · skip
              refine wa_aload_n (n := 0) rfl ?_
              refine wb_gf4 237 rfl (wy_pr rfl) wt_237 wf_15_79 (v := 323) wl_237_79 ?_
              refine wa_iload_n (n := 1) rfl ?_
              refine wb_iald 323 rfl (wy_pr rfl) wt_323 (n := 8000) ((w_up_slot (by decide)).trans ((ml_323 hM))) (by omega) (by omega) (v := (S 323 k)) (w_up_slot (by decide)) (fun r61 => ?_)
              refine wa_goto ⟨_, rfl⟩ ?_
              refine wa_ireturn rfl ?_
              refine ⟨rfl, congrArg (fun z => Sum.inl (some (0, z))) ?_⟩
              unfold th_r
              repeat (first | rw [if_pos (by omega)] | rw [if_neg (by omega)])
              all_goals first | rfl | omega
          by_cases c62 : wh = 5
          · refine wb_sw (w_rg0 (by omega) (by omega)) (tb := 15) (by rw [c62]; rfl) ⟨_, rfl⟩ ?_
            refine wa_aload_n (n := 0) rfl ?_
            refine wb_gf4 237 rfl (wy_pr rfl) wt_237 wf_15_75 (v := 319) wl_237_75 ?_
            refine wa_iload_n (n := 1) rfl ?_
            refine wb_iald 319 rfl (wy_pr rfl) wt_319 (n := 8000) ((w_up_slot (by decide)).trans ((ml_319 hM))) (by omega) (by omega) (v := (S 319 k)) (w_up_slot (by decide)) (fun r63 => ?_)
            refine wa_ireturn rfl ?_
            refine ⟨rfl, congrArg (fun z => Sum.inl (some (0, z))) ?_⟩
            unfold th_r
            repeat (first | rw [if_pos (by omega)] | rw [if_neg (by omega)])
            all_goals first | rfl | omega
          refine wb_sw (w_rg0 (by omega) (by omega)) (tb := 16) (w_tb_df (by simp only [List.length_cons, List.length_nil]; omega)) ⟨_, rfl⟩ ?_
          refine wa_iconst ?_
          refine wa_ireturn rfl ?_
          refine ⟨rfl, congrArg (fun z => Sum.inl (some (0, z))) ?_⟩
          unfold th_r
          repeat (first | rw [if_pos (by omega)] | rw [if_neg (by omega)])
          all_goals first | rfl | omega
    · skip
      exact absurd c5 (by omega)
  · skip
    show wJ _ _ _ _ _ _ _ _ _ _
    refine wa_ifne (w_rg0 (by omega) (by omega)) ⟨_, rfl⟩ (fun c64 => ?_) (fun c64 => ?_)
    · skip
      exact absurd c64 (by omega)
    · skip
      refine wa_iconst ?_
      refine wa_ireturn rfl ?_
      refine ⟨rfl, congrArg (fun z => Sum.inl (some (0, z))) ?_⟩
      unfold th_r
      repeat (first | rw [if_pos (by omega)] | rw [if_neg (by omega)])
      all_goals first | rfl | omega
end Wdi
