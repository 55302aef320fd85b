/-! PART d4: function, code, site, name. -/
section Wd4
variable {xs : List (Nat × List Int32)} {M : Nat → Prop} {d c : Nat} {A B C S Z : wS} {N : List (List Int)}
def fu_v (S : wS) (f wh : Int) : Int := if 0 ≤ f ∧ f < S 19 1 ∧ 0 ≤ wh ∧ wh ≤ 5 then S (21 + wh.toNat) f else -1
def fu_r (S : wS) (f wh : Int) : Int := if 0 ≤ f ∧ f < S 237 34 then (if wh = 0 then S 293 f else if wh = 1 then S 295 f else if wh = 2 then S 296 f else if wh = 3 then S 298 f else if wh = 4 then S 299 f else if wh = 5 then S 300 f else -1) else -1
def co_v (S : wS) (f i wh : Int) : Int := if 0 ≤ f ∧ f < S 19 1 ∧ 0 ≤ i ∧ i < S 24 f then (if wh = 0 then S 31 (S 27 f + i) else if wh = 1 then S 32 (S 27 f + i) else if wh = 2 then S 33 (S 27 f + i) else -1) else -1
def co_r (S : wS) (f i wh : Int) : Int := if 0 ≤ f ∧ f < S 237 34 ∧ 0 ≤ i ∧ i < S 298 f then (if wh = 0 then S 301 (S 297 f + i) else if wh = 1 then S 302 (S 297 f + i) else if wh = 2 then S 303 (S 297 f + i) else -1) else -1
def st_v (S : wS) (f wh : Int) : Int := if 0 ≤ f ∧ f < S 19 9 ∧ 0 ≤ wh ∧ wh ≤ 10 then S (35 + wh.toNat) f else -1
def st_r (S : wS) (f wh : Int) : Int := if 0 ≤ f ∧ f < S 237 47 then (if wh = 0 then S 304 f else if wh = 1 then S 305 f else if wh = 2 then S 306 f else if wh = 3 then S 307 f else if wh = 4 then S 308 f else if wh = 5 then S 309 f else if wh = 6 then S 310 f else if wh = 7 then S 311 f else if wh = 8 then S 312 f else if wh = 9 then S 376 f else if wh = 10 then S 313 f else -1) else -1
/-- a list's sign -/
def nm_v (N : List (List Int)) (k i : Int) : Int := if 0 ≤ k ∧ k < (N.length : Int) ∧ 0 ≤ i ∧ i < ((N.getD k.toNat []).length : Int) then (N.getD k.toNat []).getD i.toNat 0 else -1
theorem xfu {f wh : Int} (hC : w_CL S) (h1 : 0 ≤ S 19 1 ∧ S 19 1 ≤ 400) (hf : -2147483648 ≤ f ∧ f ≤ 2147483647) (hwh : -2147483648 ≤ wh ∧ wh ≤ 2147483647) : wJ (pe_GA xs) wY0 M d t_X_function ((pe_at t_X_function.bl 0).getD (0, [])).2 [(0, (2, 0)), (1, (0, f)), (2, (0, wh))] [] S (fun o Z => S = Z ∧ o = .inl (some (0, fu_v S f wh))) := by
  refine wa_iload_n (n := 1) rfl ?_
  refine wa_iflt (w_rg0 (by omega) (by omega)) ⟨_, rfl⟩ (fun c1 => ?_) (fun c1 => ?_)
  · skip
    refine wa_iconst ?_
    refine wa_ireturn rfl ?_
    refine ⟨rfl, congrArg (fun z => Sum.inl (some (0, z))) ?_⟩
    unfold fu_v; rw [if_neg (by omega)]
  · skip
    refine wa_iload_n (n := 1) rfl ?_
    refine wa_aload_n (n := 0) rfl ?_
    refine wb_gf4 0 rfl (wy_pr rfl) wt_0 wf_10_4 (v := 19) wl_0_4 ?_
    refine wb_gfi 19 rfl (wy_pr rfl) wt_19 wf_0_1 (v := (S 19 1)) rfl (fun r2 => ?_)
    refine wa_icmpge (w_rg0 (by omega) (by omega)) (w_rg0 (by omega) (by omega)) ⟨_, rfl⟩ (fun c3 => ?_) (fun c3 => ?_)
    · skip
      refine wa_iconst ?_
      refine wa_ireturn rfl ?_
      refine ⟨rfl, congrArg (fun z => Sum.inl (some (0, z))) ?_⟩
      unfold fu_v; rw [if_neg (by omega)]
    · skip
      refine wa_iload_n (n := 2) rfl ?_
      refine wa_iflt (w_rg0 (by omega) (by omega)) ⟨_, rfl⟩ (fun c4 => ?_) (fun c4 => ?_)
      · skip
        refine wa_iconst ?_
        refine wa_ireturn rfl ?_
        refine ⟨rfl, congrArg (fun z => Sum.inl (some (0, z))) ?_⟩
        unfold fu_v; rw [if_neg (by omega)]
      · skip
        refine wa_iload_n (n := 2) rfl ?_
        refine wa_iconst ?_
        refine wa_icmple (w_rg0 (by omega) (by omega)) (w_rg0 (by omega) (by omega)) ⟨_, rfl⟩ (fun c5 => ?_) (fun c5 => ?_)
        · skip
          rcases (show wh = 0 ∨ wh = 1 ∨ wh = 2 ∨ wh = 3 ∨ wh = 4 ∨ wh = 5 by omega) with e | e | e | e | e | e
          · subst e
            refine wa_aload_n (n := 0) rfl ?_
            refine wb_gf4 0 rfl (wy_pr rfl) wt_0 wf_10_4 (v := 19) wl_0_4 ?_
            refine wb_gf4 19 rfl (wy_pr rfl) wt_19 wf_0_0 (v := 20) wl_19_0 ?_
            refine wa_iload_n (n := 2) rfl ?_
            refine wb_aald5 20 0 rfl rfl (wy_pr rfl) wt_20 (by rw [show _ = _ from ((cl_20 hC))]; omega) wl_20_0 ?_
            refine wa_iload_n (n := 1) rfl ?_
            refine wb_iald 21 rfl (wy_pr rfl) wt_21 (n := 400) ((cl_21 hC)) (by omega) (by omega) (v := (S 21 f)) rfl (fun r6 => ?_)
            refine wa_ireturn rfl ?_
            refine ⟨rfl, congrArg (fun z => Sum.inl (some (0, z))) ?_⟩
            unfold fu_v; rw [if_pos (by omega)]; rfl
          · subst e
            refine wa_aload_n (n := 0) rfl ?_
            refine wb_gf4 0 rfl (wy_pr rfl) wt_0 wf_10_4 (v := 19) wl_0_4 ?_
            refine wb_gf4 19 rfl (wy_pr rfl) wt_19 wf_0_0 (v := 20) wl_19_0 ?_
            refine wa_iload_n (n := 2) rfl ?_
            refine wb_aald5 20 1 rfl rfl (wy_pr rfl) wt_20 (by rw [show _ = _ from ((cl_20 hC))]; omega) wl_20_1 ?_
            refine wa_iload_n (n := 1) rfl ?_
            refine wb_iald 22 rfl (wy_pr rfl) wt_22 (n := 400) ((cl_22 hC)) (by omega) (by omega) (v := (S 22 f)) rfl (fun r7 => ?_)
            refine wa_ireturn rfl ?_
            refine ⟨rfl, congrArg (fun z => Sum.inl (some (0, z))) ?_⟩
            unfold fu_v; rw [if_pos (by omega)]; rfl
          · subst e
            refine wa_aload_n (n := 0) rfl ?_
            refine wb_gf4 0 rfl (wy_pr rfl) wt_0 wf_10_4 (v := 19) wl_0_4 ?_
            refine wb_gf4 19 rfl (wy_pr rfl) wt_19 wf_0_0 (v := 20) wl_19_0 ?_
            refine wa_iload_n (n := 2) rfl ?_
            refine wb_aald5 20 2 rfl rfl (wy_pr rfl) wt_20 (by rw [show _ = _ from ((cl_20 hC))]; omega) wl_20_2 ?_
            refine wa_iload_n (n := 1) rfl ?_
            refine wb_iald 23 rfl (wy_pr rfl) wt_23 (n := 400) ((cl_23 hC)) (by omega) (by omega) (v := (S 23 f)) rfl (fun r8 => ?_)
            refine wa_ireturn rfl ?_
            refine ⟨rfl, congrArg (fun z => Sum.inl (some (0, z))) ?_⟩
            unfold fu_v; rw [if_pos (by omega)]; rfl
          · subst e
            refine wa_aload_n (n := 0) rfl ?_
            refine wb_gf4 0 rfl (wy_pr rfl) wt_0 wf_10_4 (v := 19) wl_0_4 ?_
            refine wb_gf4 19 rfl (wy_pr rfl) wt_19 wf_0_0 (v := 20) wl_19_0 ?_
            refine wa_iload_n (n := 2) rfl ?_
            refine wb_aald5 20 3 rfl rfl (wy_pr rfl) wt_20 (by rw [show _ = _ from ((cl_20 hC))]; omega) wl_20_3 ?_
            refine wa_iload_n (n := 1) rfl ?_
            refine wb_iald 24 rfl (wy_pr rfl) wt_24 (n := 400) ((cl_24 hC)) (by omega) (by omega) (v := (S 24 f)) rfl (fun r9 => ?_)
            refine wa_ireturn rfl ?_
            refine ⟨rfl, congrArg (fun z => Sum.inl (some (0, z))) ?_⟩
            unfold fu_v; rw [if_pos (by omega)]; rfl
          · subst e
            refine wa_aload_n (n := 0) rfl ?_
            refine wb_gf4 0 rfl (wy_pr rfl) wt_0 wf_10_4 (v := 19) wl_0_4 ?_
            refine wb_gf4 19 rfl (wy_pr rfl) wt_19 wf_0_0 (v := 20) wl_19_0 ?_
            refine wa_iload_n (n := 2) rfl ?_
            refine wb_aald5 20 4 rfl rfl (wy_pr rfl) wt_20 (by rw [show _ = _ from ((cl_20 hC))]; omega) wl_20_4 ?_
            refine wa_iload_n (n := 1) rfl ?_
            refine wb_iald 25 rfl (wy_pr rfl) wt_25 (n := 400) ((cl_25 hC)) (by omega) (by omega) (v := (S 25 f)) rfl (fun r10 => ?_)
            refine wa_ireturn rfl ?_
            refine ⟨rfl, congrArg (fun z => Sum.inl (some (0, z))) ?_⟩
            unfold fu_v; rw [if_pos (by omega)]; rfl
          · subst e
            refine wa_aload_n (n := 0) rfl ?_
            refine wb_gf4 0 rfl (wy_pr rfl) wt_0 wf_10_4 (v := 19) wl_0_4 ?_
            refine wb_gf4 19 rfl (wy_pr rfl) wt_19 wf_0_0 (v := 20) wl_19_0 ?_
            refine wa_iload_n (n := 2) rfl ?_
            refine wb_aald5 20 5 rfl rfl (wy_pr rfl) wt_20 (by rw [show _ = _ from ((cl_20 hC))]; omega) wl_20_5 ?_
            refine wa_iload_n (n := 1) rfl ?_
            refine wb_iald 26 rfl (wy_pr rfl) wt_26 (n := 400) ((cl_26 hC)) (by omega) (by omega) (v := (S 26 f)) rfl (fun r11 => ?_)
            refine wa_ireturn rfl ?_
            refine ⟨rfl, congrArg (fun z => Sum.inl (some (0, z))) ?_⟩
            unfold fu_v; rw [if_pos (by omega)]; rfl
        · skip
          refine wa_fall ⟨_, rfl⟩ ?_
          refine wa_iconst ?_
          refine wa_ireturn rfl ?_
          refine ⟨rfl, congrArg (fun z => Sum.inl (some (0, z))) ?_⟩
          unfold fu_v; rw [if_neg (by omega)]
theorem xco {f i wh : Int} (hC : w_CL S) (h1 : 0 ≤ S 19 1 ∧ S 19 1 ≤ 400) (hl : S 32 (-1) = S 31 (-1) ∧ S 33 (-1) = S 31 (-1) ∧ S 31 (-1) ≤ 40000) (h2 : ∀ k : Int, 0 ≤ k → k < S 19 1 → 0 ≤ S 27 k ∧ 0 ≤ S 24 k ∧ S 27 k + S 24 k ≤ S 31 (-1)) (hf : -2147483648 ≤ f ∧ f ≤ 2147483647) (hi : -2147483648 ≤ i ∧ i ≤ 2147483647) (hwh : -2147483648 ≤ wh ∧ wh ≤ 2147483647) : wJ (pe_GA xs) wY0 M d t_X_code ((pe_at t_X_code.bl 0).getD (0, [])).2 [(0, (2, 0)), (1, (0, f)), (2, (0, i)), (3, (0, wh))] [] S (fun o Z => S = Z ∧ o = .inl (some (0, co_v S f i wh))) := by
  obtain ⟨l1, l2, l3⟩ := hl
  refine wa_iload_n (n := 1) rfl ?_
  refine wa_iflt (w_rg0 (by omega) (by omega)) ⟨_, rfl⟩ (fun c1 => ?_) (fun c1 => ?_)
  · skip
    refine wa_iconst ?_
    refine wa_ireturn rfl ?_
    refine ⟨rfl, congrArg (fun z => Sum.inl (some (0, z))) ?_⟩
    unfold co_v
    first | (rw [if_neg (by omega)]; done) | (rw [if_pos (by omega)]; repeat (first | rw [if_pos (by omega)] | rw [if_neg (by omega)]))
  · skip
    refine wa_iload_n (n := 1) rfl ?_
    refine wa_aload_n (n := 0) rfl ?_
    refine wb_gf4 0 rfl (wy_pr rfl) wt_0 wf_10_4 (v := 19) wl_0_4 ?_
    refine wb_gfi 19 rfl (wy_pr rfl) wt_19 wf_0_1 (v := (S 19 1)) rfl (fun r2 => ?_)
    refine wa_icmpge (w_rg0 (by omega) (by omega)) (w_rg0 (by omega) (by omega)) ⟨_, rfl⟩ (fun c3 => ?_) (fun c3 => ?_)
    · skip
      refine wa_iconst ?_
      refine wa_ireturn rfl ?_
      refine ⟨rfl, congrArg (fun z => Sum.inl (some (0, z))) ?_⟩
      unfold co_v
      first | (rw [if_neg (by omega)]; done) | (rw [if_pos (by omega)]; repeat (first | rw [if_pos (by omega)] | rw [if_neg (by omega)]))
    · skip
      refine wa_iload_n (n := 2) rfl ?_
      refine wa_iflt (w_rg0 (by omega) (by omega)) ⟨_, rfl⟩ (fun c4 => ?_) (fun c4 => ?_)
      · skip
        refine wa_iconst ?_
        refine wa_ireturn rfl ?_
        refine ⟨rfl, congrArg (fun z => Sum.inl (some (0, z))) ?_⟩
        unfold co_v
        first | (rw [if_neg (by omega)]; done) | (rw [if_pos (by omega)]; repeat (first | rw [if_pos (by omega)] | rw [if_neg (by omega)]))
      · skip
        refine wa_iload_n (n := 2) rfl ?_
        refine wa_aload_n (n := 0) rfl ?_
        refine wb_gf4 0 rfl (wy_pr rfl) wt_0 wf_10_4 (v := 19) wl_0_4 ?_
        refine wb_gf4 19 rfl (wy_pr rfl) wt_19 wf_0_0 (v := 20) wl_19_0 ?_
        refine wa_iconst ?_
        refine wb_aald5 20 3 rfl rfl (wy_pr rfl) wt_20 (by rw [show _ = _ from ((cl_20 hC))]; omega) wl_20_3 ?_
        refine wa_iload_n (n := 1) rfl ?_
        refine wb_iald 24 rfl (wy_pr rfl) wt_24 (n := 400) ((cl_24 hC)) (by omega) (by omega) (v := (S 24 f)) rfl (fun r5 => ?_)
        refine wa_icmplt (w_rg0 (by omega) (by omega)) (w_rg0 (by omega) (by omega)) ⟨_, rfl⟩ (fun c6 => ?_) (fun c6 => ?_)
        · skip
          have h3 := h2 f (by omega) (by omega)
          refine wa_aload_n (n := 0) rfl ?_
          refine wb_gf4 0 rfl (wy_pr rfl) wt_0 wf_10_4 (v := 19) wl_0_4 ?_
          refine wb_gf4 19 rfl (wy_pr rfl) wt_19 wf_0_0 (v := 20) wl_19_0 ?_
          refine wa_bipush (w_rg2 (by omega) (by omega)) ?_
          refine wb_aald5 20 6 rfl rfl (wy_pr rfl) wt_20 (by rw [show _ = _ from ((cl_20 hC))]; omega) wl_20_6 ?_
          refine wa_iload_n (n := 1) rfl ?_
          refine wb_iald 27 rfl (wy_pr rfl) wt_27 (n := 400) ((cl_27 hC)) (by omega) (by omega) (v := (S 27 f)) rfl (fun r7 => ?_)
          refine wa_iload_n (n := 2) rfl ?_
          refine wa_iadd ?_
          refine wa_istore (n := 4) rfl ?_
          refine wa_iload_n (n := 3) rfl ?_
          by_cases c8 : wh = 0
          · refine wb_sw (w_rg0 (by omega) (by omega)) (tb := 3) (by rw [c8]; rfl) ⟨_, rfl⟩ ?_
            refine wa_aload_n (n := 0) rfl ?_
            refine wb_gf4 0 rfl (wy_pr rfl) wt_0 wf_10_4 (v := 19) wl_0_4 ?_
            refine wb_gf4 19 rfl (wy_pr rfl) wt_19 wf_0_4 (v := 31) wl_19_4 ?_
            refine wa_iload (n := 4) rfl ?_
            refine wb_iald 31 rfl (wy_pr rfl) wt_31 (n := (S 31 (-1))) (rfl) (by omega) (by omega) (v := (S 31 ((S 27 f) + i))) rfl (fun r9 => ?_)
            refine wa_ireturn rfl ?_
            refine ⟨rfl, congrArg (fun z => Sum.inl (some (0, z))) ?_⟩
            unfold co_v
            first | (rw [if_neg (by omega)]; done) | (rw [if_pos (by omega)]; repeat (first | rw [if_pos (by omega)] | rw [if_neg (by omega)]))
          by_cases c10 : wh = 1
          · refine wb_sw (w_rg0 (by omega) (by omega)) (tb := 4) (by rw [c10]; rfl) ⟨_, rfl⟩ ?_
            refine wa_aload_n (n := 0) rfl ?_
            refine wb_gf4 0 rfl (wy_pr rfl) wt_0 wf_10_4 (v := 19) wl_0_4 ?_
            refine wb_gf4 19 rfl (wy_pr rfl) wt_19 wf_0_5 (v := 32) wl_19_5 ?_
            refine wa_iload (n := 4) rfl ?_
            refine wb_iald 32 rfl (wy_pr rfl) wt_32 (n := (S 31 (-1))) (l1) (by omega) (by omega) (v := (S 32 ((S 27 f) + i))) rfl (fun r11 => ?_)
            refine wa_ireturn rfl ?_
            refine ⟨rfl, congrArg (fun z => Sum.inl (some (0, z))) ?_⟩
            unfold co_v
            first | (rw [if_neg (by omega)]; done) | (rw [if_pos (by omega)]; repeat (first | rw [if_pos (by omega)] | rw [if_neg (by omega)]))
          by_cases c12 : wh = 2
          · refine wb_sw (w_rg0 (by omega) (by omega)) (tb := 5) (by rw [c12]; rfl) ⟨_, rfl⟩ ?_
            refine wa_aload_n (n := 0) rfl ?_
            refine wb_gf4 0 rfl (wy_pr rfl) wt_0 wf_10_4 (v := 19) wl_0_4 ?_
            refine wb_gf4 19 rfl (wy_pr rfl) wt_19 wf_0_6 (v := 33) wl_19_6 ?_
            refine wa_iload (n := 4) rfl ?_
            refine wb_iald 33 rfl (wy_pr rfl) wt_33 (n := (S 31 (-1))) (l2) (by omega) (by omega) (v := (S 33 ((S 27 f) + i))) rfl (fun r13 => ?_)
            refine wa_ireturn rfl ?_
            refine ⟨rfl, congrArg (fun z => Sum.inl (some (0, z))) ?_⟩
            unfold co_v
            first | (rw [if_neg (by omega)]; done) | (rw [if_pos (by omega)]; repeat (first | rw [if_pos (by omega)] | rw [if_neg (by omega)]))
          refine wb_sw (w_rg0 (by omega) (by omega)) (tb := 6) (w_tb_df (by simp only [List.length_cons, List.length_nil]; omega)) ⟨_, rfl⟩ ?_
          refine wa_iconst ?_
          refine wa_ireturn rfl ?_
          refine ⟨rfl, congrArg (fun z => Sum.inl (some (0, z))) ?_⟩
          unfold co_v
          first | (rw [if_neg (by omega)]; done) | (rw [if_pos (by omega)]; repeat (first | rw [if_pos (by omega)] | rw [if_neg (by omega)]))
        · skip
          refine wa_fall ⟨_, rfl⟩ ?_
          refine wa_iconst ?_
          refine wa_ireturn rfl ?_
          refine ⟨rfl, congrArg (fun z => Sum.inl (some (0, z))) ?_⟩
          unfold co_v
          first | (rw [if_neg (by omega)]; done) | (rw [if_pos (by omega)]; repeat (first | rw [if_pos (by omega)] | rw [if_neg (by omega)]))
theorem xsi {f wh : Int} (hC : w_CL S) (h1 : 0 ≤ S 19 9 ∧ S 19 9 ≤ S 35 (-1)) (hz : S 35 (-1) ≤ 8191) (hl : ∀ x : Nat, x < 12 → S (35 + x) (-1) = S 35 (-1)) (hf : -2147483648 ≤ f ∧ f ≤ 2147483647) (hwh : -2147483648 ≤ wh ∧ wh ≤ 2147483647) : wJ (pe_GA xs) wY0 M d t_X_site ((pe_at t_X_site.bl 0).getD (0, [])).2 [(0, (2, 0)), (1, (0, f)), (2, (0, wh))] [] S (fun o Z => S = Z ∧ o = .inl (some (0, st_v S f wh))) := by
  refine wa_iload_n (n := 1) rfl ?_
  refine wa_iflt (w_rg0 (by omega) (by omega)) ⟨_, rfl⟩ (fun c1 => ?_) (fun c1 => ?_)
  · skip
    refine wa_iconst ?_
    refine wa_ireturn rfl ?_
    refine ⟨rfl, congrArg (fun z => Sum.inl (some (0, z))) ?_⟩
    unfold st_v; rw [if_neg (by omega)]
  · skip
    refine wa_iload_n (n := 1) rfl ?_
    refine wa_aload_n (n := 0) rfl ?_
    refine wb_gf4 0 rfl (wy_pr rfl) wt_0 wf_10_4 (v := 19) wl_0_4 ?_
    refine wb_gfi 19 rfl (wy_pr rfl) wt_19 wf_0_9 (v := (S 19 9)) rfl (fun r2 => ?_)
    refine wa_icmpge (w_rg0 (by omega) (by omega)) (w_rg0 (by omega) (by omega)) ⟨_, rfl⟩ (fun c3 => ?_) (fun c3 => ?_)
    · skip
      refine wa_iconst ?_
      refine wa_ireturn rfl ?_
      refine ⟨rfl, congrArg (fun z => Sum.inl (some (0, z))) ?_⟩
      unfold st_v; rw [if_neg (by omega)]
    · skip
      refine wa_iload_n (n := 2) rfl ?_
      refine wa_iflt (w_rg0 (by omega) (by omega)) ⟨_, rfl⟩ (fun c4 => ?_) (fun c4 => ?_)
      · skip
        refine wa_iconst ?_
        refine wa_ireturn rfl ?_
        refine ⟨rfl, congrArg (fun z => Sum.inl (some (0, z))) ?_⟩
        unfold st_v; rw [if_neg (by omega)]
      · skip
        refine wa_iload_n (n := 2) rfl ?_
        refine wa_bipush (w_rg2 (by omega) (by omega)) ?_
        refine wa_icmple (w_rg0 (by omega) (by omega)) (w_rg0 (by omega) (by omega)) ⟨_, rfl⟩ (fun c5 => ?_) (fun c5 => ?_)
        · skip
          rcases (show wh = 0 ∨ wh = 1 ∨ wh = 2 ∨ wh = 3 ∨ wh = 4 ∨ wh = 5 ∨ wh = 6 ∨ wh = 7 ∨ wh = 8 ∨ wh = 9 ∨ wh = 10 by omega) with e | e | e | e | e | e | e | e | e | e | e
          · subst e
            refine wa_aload_n (n := 0) rfl ?_
            refine wb_gf4 0 rfl (wy_pr rfl) wt_0 wf_10_4 (v := 19) wl_0_4 ?_
            refine wb_gf4 19 rfl (wy_pr rfl) wt_19 wf_0_8 (v := 34) wl_19_8 ?_
            refine wa_iload_n (n := 2) rfl ?_
            refine wb_aald5 34 0 rfl rfl (wy_pr rfl) wt_34 (by rw [show _ = _ from ((cl_34 hC))]; omega) wl_34_0 ?_
            refine wa_iload_n (n := 1) rfl ?_
            refine wb_iald 35 rfl (wy_pr rfl) wt_35 (n := (S 35 (-1))) (rfl) (by omega) (by omega) (v := (S 35 f)) rfl (fun r6 => ?_)
            refine wa_ireturn rfl ?_
            refine ⟨rfl, congrArg (fun z => Sum.inl (some (0, z))) ?_⟩
            unfold st_v; rw [if_pos (by omega)]; rfl
          · subst e
            refine wa_aload_n (n := 0) rfl ?_
            refine wb_gf4 0 rfl (wy_pr rfl) wt_0 wf_10_4 (v := 19) wl_0_4 ?_
            refine wb_gf4 19 rfl (wy_pr rfl) wt_19 wf_0_8 (v := 34) wl_19_8 ?_
            refine wa_iload_n (n := 2) rfl ?_
            refine wb_aald5 34 1 rfl rfl (wy_pr rfl) wt_34 (by rw [show _ = _ from ((cl_34 hC))]; omega) wl_34_1 ?_
            refine wa_iload_n (n := 1) rfl ?_
            refine wb_iald 36 rfl (wy_pr rfl) wt_36 (n := (S 35 (-1))) ((hl 1 (by decide))) (by omega) (by omega) (v := (S 36 f)) rfl (fun r7 => ?_)
            refine wa_ireturn rfl ?_
            refine ⟨rfl, congrArg (fun z => Sum.inl (some (0, z))) ?_⟩
            unfold st_v; rw [if_pos (by omega)]; rfl
          · subst e
            refine wa_aload_n (n := 0) rfl ?_
            refine wb_gf4 0 rfl (wy_pr rfl) wt_0 wf_10_4 (v := 19) wl_0_4 ?_
            refine wb_gf4 19 rfl (wy_pr rfl) wt_19 wf_0_8 (v := 34) wl_19_8 ?_
            refine wa_iload_n (n := 2) rfl ?_
            refine wb_aald5 34 2 rfl rfl (wy_pr rfl) wt_34 (by rw [show _ = _ from ((cl_34 hC))]; omega) wl_34_2 ?_
            refine wa_iload_n (n := 1) rfl ?_
            refine wb_iald 37 rfl (wy_pr rfl) wt_37 (n := (S 35 (-1))) ((hl 2 (by decide))) (by omega) (by omega) (v := (S 37 f)) rfl (fun r8 => ?_)
            refine wa_ireturn rfl ?_
            refine ⟨rfl, congrArg (fun z => Sum.inl (some (0, z))) ?_⟩
            unfold st_v; rw [if_pos (by omega)]; rfl
          · subst e
            refine wa_aload_n (n := 0) rfl ?_
            refine wb_gf4 0 rfl (wy_pr rfl) wt_0 wf_10_4 (v := 19) wl_0_4 ?_
            refine wb_gf4 19 rfl (wy_pr rfl) wt_19 wf_0_8 (v := 34) wl_19_8 ?_
            refine wa_iload_n (n := 2) rfl ?_
            refine wb_aald5 34 3 rfl rfl (wy_pr rfl) wt_34 (by rw [show _ = _ from ((cl_34 hC))]; omega) wl_34_3 ?_
            refine wa_iload_n (n := 1) rfl ?_
            refine wb_iald 38 rfl (wy_pr rfl) wt_38 (n := (S 35 (-1))) ((hl 3 (by decide))) (by omega) (by omega) (v := (S 38 f)) rfl (fun r9 => ?_)
            refine wa_ireturn rfl ?_
            refine ⟨rfl, congrArg (fun z => Sum.inl (some (0, z))) ?_⟩
            unfold st_v; rw [if_pos (by omega)]; rfl
          · subst e
            refine wa_aload_n (n := 0) rfl ?_
            refine wb_gf4 0 rfl (wy_pr rfl) wt_0 wf_10_4 (v := 19) wl_0_4 ?_
            refine wb_gf4 19 rfl (wy_pr rfl) wt_19 wf_0_8 (v := 34) wl_19_8 ?_
            refine wa_iload_n (n := 2) rfl ?_
            refine wb_aald5 34 4 rfl rfl (wy_pr rfl) wt_34 (by rw [show _ = _ from ((cl_34 hC))]; omega) wl_34_4 ?_
            refine wa_iload_n (n := 1) rfl ?_
            refine wb_iald 39 rfl (wy_pr rfl) wt_39 (n := (S 35 (-1))) ((hl 4 (by decide))) (by omega) (by omega) (v := (S 39 f)) rfl (fun r10 => ?_)
            refine wa_ireturn rfl ?_
            refine ⟨rfl, congrArg (fun z => Sum.inl (some (0, z))) ?_⟩
            unfold st_v; rw [if_pos (by omega)]; rfl
          · subst e
            refine wa_aload_n (n := 0) rfl ?_
            refine wb_gf4 0 rfl (wy_pr rfl) wt_0 wf_10_4 (v := 19) wl_0_4 ?_
            refine wb_gf4 19 rfl (wy_pr rfl) wt_19 wf_0_8 (v := 34) wl_19_8 ?_
            refine wa_iload_n (n := 2) rfl ?_
            refine wb_aald5 34 5 rfl rfl (wy_pr rfl) wt_34 (by rw [show _ = _ from ((cl_34 hC))]; omega) wl_34_5 ?_
            refine wa_iload_n (n := 1) rfl ?_
            refine wb_iald 40 rfl (wy_pr rfl) wt_40 (n := (S 35 (-1))) ((hl 5 (by decide))) (by omega) (by omega) (v := (S 40 f)) rfl (fun r11 => ?_)
            refine wa_ireturn rfl ?_
            refine ⟨rfl, congrArg (fun z => Sum.inl (some (0, z))) ?_⟩
            unfold st_v; rw [if_pos (by omega)]; rfl
          · subst e
            refine wa_aload_n (n := 0) rfl ?_
            refine wb_gf4 0 rfl (wy_pr rfl) wt_0 wf_10_4 (v := 19) wl_0_4 ?_
            refine wb_gf4 19 rfl (wy_pr rfl) wt_19 wf_0_8 (v := 34) wl_19_8 ?_
            refine wa_iload_n (n := 2) rfl ?_
            refine wb_aald5 34 6 rfl rfl (wy_pr rfl) wt_34 (by rw [show _ = _ from ((cl_34 hC))]; omega) wl_34_6 ?_
            refine wa_iload_n (n := 1) rfl ?_
            refine wb_iald 41 rfl (wy_pr rfl) wt_41 (n := (S 35 (-1))) ((hl 6 (by decide))) (by omega) (by omega) (v := (S 41 f)) rfl (fun r12 => ?_)
            refine wa_ireturn rfl ?_
            refine ⟨rfl, congrArg (fun z => Sum.inl (some (0, z))) ?_⟩
            unfold st_v; rw [if_pos (by omega)]; rfl
          · subst e
            refine wa_aload_n (n := 0) rfl ?_
            refine wb_gf4 0 rfl (wy_pr rfl) wt_0 wf_10_4 (v := 19) wl_0_4 ?_
            refine wb_gf4 19 rfl (wy_pr rfl) wt_19 wf_0_8 (v := 34) wl_19_8 ?_
            refine wa_iload_n (n := 2) rfl ?_
            refine wb_aald5 34 7 rfl rfl (wy_pr rfl) wt_34 (by rw [show _ = _ from ((cl_34 hC))]; omega) wl_34_7 ?_
            refine wa_iload_n (n := 1) rfl ?_
            refine wb_iald 42 rfl (wy_pr rfl) wt_42 (n := (S 35 (-1))) ((hl 7 (by decide))) (by omega) (by omega) (v := (S 42 f)) rfl (fun r13 => ?_)
            refine wa_ireturn rfl ?_
            refine ⟨rfl, congrArg (fun z => Sum.inl (some (0, z))) ?_⟩
            unfold st_v; rw [if_pos (by omega)]; rfl
          · subst e
            refine wa_aload_n (n := 0) rfl ?_
            refine wb_gf4 0 rfl (wy_pr rfl) wt_0 wf_10_4 (v := 19) wl_0_4 ?_
            refine wb_gf4 19 rfl (wy_pr rfl) wt_19 wf_0_8 (v := 34) wl_19_8 ?_
            refine wa_iload_n (n := 2) rfl ?_
            refine wb_aald5 34 8 rfl rfl (wy_pr rfl) wt_34 (by rw [show _ = _ from ((cl_34 hC))]; omega) wl_34_8 ?_
            refine wa_iload_n (n := 1) rfl ?_
            refine wb_iald 43 rfl (wy_pr rfl) wt_43 (n := (S 35 (-1))) ((hl 8 (by decide))) (by omega) (by omega) (v := (S 43 f)) rfl (fun r14 => ?_)
            refine wa_ireturn rfl ?_
            refine ⟨rfl, congrArg (fun z => Sum.inl (some (0, z))) ?_⟩
            unfold st_v; rw [if_pos (by omega)]; rfl
          · subst e
            refine wa_aload_n (n := 0) rfl ?_
            refine wb_gf4 0 rfl (wy_pr rfl) wt_0 wf_10_4 (v := 19) wl_0_4 ?_
            refine wb_gf4 19 rfl (wy_pr rfl) wt_19 wf_0_8 (v := 34) wl_19_8 ?_
            refine wa_iload_n (n := 2) rfl ?_
            refine wb_aald5 34 9 rfl rfl (wy_pr rfl) wt_34 (by rw [show _ = _ from ((cl_34 hC))]; omega) wl_34_9 ?_
            refine wa_iload_n (n := 1) rfl ?_
            refine wb_iald 44 rfl (wy_pr rfl) wt_44 (n := (S 35 (-1))) ((hl 9 (by decide))) (by omega) (by omega) (v := (S 44 f)) rfl (fun r15 => ?_)
            refine wa_ireturn rfl ?_
            refine ⟨rfl, congrArg (fun z => Sum.inl (some (0, z))) ?_⟩
            unfold st_v; rw [if_pos (by omega)]; rfl
          · subst e
            refine wa_aload_n (n := 0) rfl ?_
            refine wb_gf4 0 rfl (wy_pr rfl) wt_0 wf_10_4 (v := 19) wl_0_4 ?_
            refine wb_gf4 19 rfl (wy_pr rfl) wt_19 wf_0_8 (v := 34) wl_19_8 ?_
            refine wa_iload_n (n := 2) rfl ?_
            refine wb_aald5 34 10 rfl rfl (wy_pr rfl) wt_34 (by rw [show _ = _ from ((cl_34 hC))]; omega) wl_34_10 ?_
            refine wa_iload_n (n := 1) rfl ?_
            refine wb_iald 45 rfl (wy_pr rfl) wt_45 (n := (S 35 (-1))) ((hl 10 (by decide))) (by omega) (by omega) (v := (S 45 f)) rfl (fun r16 => ?_)
            refine wa_ireturn rfl ?_
            refine ⟨rfl, congrArg (fun z => Sum.inl (some (0, z))) ?_⟩
            unfold st_v; rw [if_pos (by omega)]; rfl
        · skip
          refine wa_fall ⟨_, rfl⟩ ?_
          refine wa_iconst ?_
          refine wa_ireturn rfl ?_
          refine ⟨rfl, congrArg (fun z => Sum.inl (some (0, z))) ?_⟩
          unfold st_v; rw [if_neg (by omega)]
theorem xnm {k i : Int} (hL : cL 9 10 N S) (hN : N.length ≤ 4000) (hw : wd_at S 2 1024) (hl : wd_L S 2 1024) (hv : wv_L S 2) (hk : -2147483648 ≤ k ∧ k ≤ 2147483647) (hi : -2147483648 ≤ i ∧ i ≤ 2147483647) : wJ (pe_GA xs) wY0 M d t_X_name ((pe_at t_X_name.bl 0).getD (0, [])).2 [(0, (2, 0)), (1, (0, k)), (2, (0, i))] [] S (fun o Z => S = Z ∧ o = .inl (some (0, nm_v N k i))) := by
  have h10 : S 2 10 = (N.length : Int) := hL.1
  have h9 : S 2 10 ≤ S 9 (-1) := hv.2.2.1
  have h9b : S 9 (-1) ≤ 8192 := hv.2.2.2.2.1.2
  have l5 : S 5 (-1) = S 4 (-1) := hl.2.1
  have l4 : S 4 (-1) ≤ 2147483647 := hl.2.2.2.2.2.2.2.1
  have l3 : S 3 (-1) ≤ 2147483647 := hl.2.2.2.2.2.2.2.2
  have hc : S 2 7 ≤ S 4 (-1) := hw.1.2
  have hu : S 2 1 ≤ S 3 (-1) := hw.2.1.2
  have hw3 : ∀ k : Int, 0 ≤ k → k < S 2 7 → 0 ≤ S 4 k ∧ 0 ≤ S 5 k ∧ S 5 k ≤ 60 ∧ S 4 k + S 5 k ≤ S 2 1 := hw.2.2.1
  refine wa_iload_n (n := 1) rfl ?_
  refine wa_iflt (w_rg0 (by omega) (by omega)) ⟨_, rfl⟩ (fun c1 => ?_) (fun c1 => ?_)
  · skip
    refine wa_iconst ?_
    refine wa_ireturn rfl ?_
    refine ⟨rfl, congrArg (fun z => Sum.inl (some (0, z))) ?_⟩
    unfold nm_v
    rw [if_neg (by omega)]
  · skip
    refine wa_iload_n (n := 1) rfl ?_
    refine wa_aload_n (n := 0) rfl ?_
    refine wb_gf4 0 rfl (wy_pr rfl) wt_0 wf_10_2 (v := 2) wl_0_2 ?_
    refine wb_gfi 2 rfl (wy_pr rfl) wt_2 wf_9_10 (v := (S 2 10)) rfl (fun r2 => ?_)
    refine wa_icmplt (w_rg0 (by omega) (by omega)) (w_rg0 (by omega) (by omega)) ⟨_, rfl⟩ (fun c3 => ?_) (fun c3 => ?_)
    · skip
      have hk2 : ((k.toNat : Nat) : Int) = k := by omega
      obtain ⟨a1, a2⟩ := hL.2 k.toNat (by omega)
      rw [hk2] at a1 a2
      have a3 := hw3 (S 9 k) a1.1 a1.2
      have a4 : S 5 (S 9 k) = ((N.getD k.toNat []).length : Int) := a2.1
      have a5 : ∀ i : Nat, i < (N.getD k.toNat []).length → S 3 (S 4 (S 9 k) + (i : Int)) = (N.getD k.toNat []).getD i 0 := fun i hi => by
        have := a2.2 i (by rw [Int.toNat_natCast]; exact hi)
        rw [this]; show (N.getD k.toNat []).getD (0 + (i : Int)).toNat 0 = _; rw [show (0 + (i : Int)).toNat = i by omega]
      refine wa_aload_n (n := 0) rfl ?_
      refine wb_gf4 0 rfl (wy_pr rfl) wt_0 wf_10_2 (v := 2) wl_0_2 ?_
      refine wb_gf4 2 rfl (wy_pr rfl) wt_2 wf_9_9 (v := 9) wl_2_9 ?_
      refine wa_iload_n (n := 1) rfl ?_
      refine wb_iald 9 rfl (wy_pr rfl) wt_9 (n := (S 9 (-1))) (rfl) (by omega) (by omega) (v := (S 9 k)) rfl (fun r4 => ?_)
      refine wa_istore_n (n := 3) rfl ?_
      refine wa_iload_n (n := 2) rfl ?_
      refine wa_iflt (w_rg0 (by omega) (by omega)) ⟨_, rfl⟩ (fun c5 => ?_) (fun c5 => ?_)
      · skip
        refine wa_iconst ?_
        refine wa_goto ⟨_, rfl⟩ ?_
        refine wa_ireturn rfl ?_
        refine ⟨rfl, congrArg (fun z => Sum.inl (some (0, z))) ?_⟩
        unfold nm_v
        rw [if_neg (by omega)]
      · skip
        refine wa_iload_n (n := 2) rfl ?_
        refine wa_aload_n (n := 0) rfl ?_
        refine wb_gf4 0 rfl (wy_pr rfl) wt_0 wf_10_2 (v := 2) wl_0_2 ?_
        refine wb_gf4 2 rfl (wy_pr rfl) wt_2 wf_9_3 (v := 5) wl_2_3 ?_
        refine wa_iload_n (n := 3) rfl ?_
        refine wb_iald 5 rfl (wy_pr rfl) wt_5 (n := (S 4 (-1))) (l5) (by omega) (by omega) (v := (S 5 (S 9 k))) rfl (fun r6 => ?_)
        refine wa_icmplt (w_rg0 (by omega) (by omega)) (w_rg0 (by omega) (by omega)) ⟨_, rfl⟩ (fun c7 => ?_) (fun c7 => ?_)
        · skip
          refine wa_aload_n (n := 0) rfl ?_
          refine wb_gf4 0 rfl (wy_pr rfl) wt_0 wf_10_2 (v := 2) wl_0_2 ?_
          refine wb_gf4 2 rfl (wy_pr rfl) wt_2 wf_9_0 (v := 3) wl_2_0 ?_
          refine wa_aload_n (n := 0) rfl ?_
          refine wb_gf4 0 rfl (wy_pr rfl) wt_0 wf_10_2 (v := 2) wl_0_2 ?_
          refine wb_gf4 2 rfl (wy_pr rfl) wt_2 wf_9_2 (v := 4) wl_2_2 ?_
          refine wa_iload_n (n := 3) rfl ?_
          refine wb_iald 4 rfl (wy_pr rfl) wt_4 (n := (S 4 (-1))) (rfl) (by omega) (by omega) (v := (S 4 (S 9 k))) rfl (fun r8 => ?_)
          refine wa_iload_n (n := 2) rfl ?_
          refine wa_iadd ?_
          refine wb_bald 3 rfl (wy_pr rfl) wt_3 (n := (S 3 (-1))) (rfl) (by omega) (by omega) (v := (S 3 ((S 4 (S 9 k)) + i))) rfl (fun r9 => ?_)
          refine wa_fall ⟨_, rfl⟩ ?_
          refine wa_ireturn rfl ?_
          refine ⟨rfl, congrArg (fun z => Sum.inl (some (0, z))) ?_⟩
          unfold nm_v
          rw [if_pos (by omega)]
          have := a5 i.toNat (by omega)
          rw [show ((i.toNat : Nat) : Int) = i by omega] at this
          exact this
        · skip
          refine wa_fall ⟨_, rfl⟩ ?_
          refine wa_iconst ?_
          refine wa_goto ⟨_, rfl⟩ ?_
          refine wa_ireturn rfl ?_
          refine ⟨rfl, congrArg (fun z => Sum.inl (some (0, z))) ?_⟩
          unfold nm_v
          rw [if_neg (by omega)]
    · skip
      refine wa_fall ⟨_, rfl⟩ ?_
      refine wa_iconst ?_
      refine wa_ireturn rfl ?_
      refine ⟨rfl, congrArg (fun z => Sum.inl (some (0, z))) ?_⟩
      unfold nm_v
      rw [if_neg (by omega)]
theorem mfu {f wh : Int} (hM : w_ML S) (h1 : 0 ≤ S 237 34 ∧ S 237 34 ≤ 400) (hf : -2147483648 ≤ f ∧ f ≤ 2147483647) (hwh : -2147483648 ≤ wh ∧ wh ≤ 2147483647) : wJ (pe_GA xs) wY0 M (d + 1) t_M_function ((pe_at t_M_function.bl 0).getD (0, [])).2 [(0, (2, 237)), (1, (0, f)), (2, (0, wh))] [] S (fun o Z => w_up S 237 0 0 = Z ∧ o = .inl (some (0, fu_r S f wh))) := by
  refine wa_aload_n (n := 0) rfl ?_
  refine wa_iconst ?_
  refine wb_pfi 237 rfl (wy_pr rfl) wt_237 wf_15_0 (n := 0) rfl ⟨(by omega), (by omega)⟩ ?_
  refine wa_iload_n (n := 1) rfl ?_
  refine wa_i2l (w_rg0 (by omega) (by omega)) ?_
  refine wa_lconst ?_
  refine wa_aload_n (n := 0) rfl ?_
  refine wb_gfi 237 rfl (wy_pr rfl) wt_237 wf_15_34 (v := (S 237 34)) (w_up_at (by decide)) (fun r1 => ?_)
  refine wa_iconst ?_
  refine wa_isub ?_
  refine wa_i2l (w_rg0 (by omega) (by omega)) ?_
  refine wa_cs (M2 := fun _ => False) rfl at_M_in ⟨_, rfl⟩ rfl rfl ⟨(Or.inr ⟨wy_pr rfl, fun q => q⟩), trivial, trivial, trivial⟩ trivial (fun _ _ q => False.elim q) (in_ok (S := (w_up S 237 0 0)) (a := f) (lo := 0) (hi := ((S 237 34) - 1)) ⟨by omega, by omega⟩ ⟨by omega, by omega⟩ ⟨by omega, by omega⟩) (fun oq3 Sq3 hp4 q3 => ?_)
  rcases q3 with ⟨rfl, ⟨rfl, hin2⟩ | ⟨rfl, hin2⟩⟩
  · skip
    show wJ _ _ _ _ _ _ _ _ _ _
    refine wa_ifne (w_rg0 (by omega) (by omega)) ⟨_, rfl⟩ (fun c5 => ?_) (fun c5 => ?_)
    · skip
      refine wa_iload_n (n := 2) rfl ?_
      by_cases c6 : wh = 0
      · refine wb_sw (w_rg0 (by omega) (by omega)) (tb := 2) (by rw [c6]; rfl) ⟨_, rfl⟩ ?_
        refine wa_aload_n (n := 0) rfl ?_
        refine wb_gf4 237 rfl (wy_pr rfl) wt_237 wf_15_35 (v := 293) wl_237_35 ?_
        refine wa_iload_n (n := 1) rfl ?_
        refine wb_iald 293 rfl (wy_pr rfl) wt_293 (n := 400) ((w_up_slot (by decide)).trans ((ml_293 hM))) (by omega) (by omega) (v := (S 293 f)) (w_up_slot (by decide)) (fun r7 => ?_)
        refine wa_ireturn rfl ?_
        refine ⟨rfl, congrArg (fun z => Sum.inl (some (0, z))) ?_⟩
        unfold fu_r
        first | (rw [if_neg (by omega)]; done) | (rw [if_pos (by omega)]; repeat (first | rw [if_pos (by omega)] | rw [if_neg (by omega)]))
        all_goals first | rfl | (show _ = _; omega)
      by_cases c8 : wh = 1
      · refine wb_sw (w_rg0 (by omega) (by omega)) (tb := 3) (by rw [c8]; rfl) ⟨_, rfl⟩ ?_
        refine wa_aload_n (n := 0) rfl ?_
        refine wb_gf4 237 rfl (wy_pr rfl) wt_237 wf_15_37 (v := 295) wl_237_37 ?_
        refine wa_iload_n (n := 1) rfl ?_
        refine wb_iald 295 rfl (wy_pr rfl) wt_295 (n := 400) ((w_up_slot (by decide)).trans ((ml_295 hM))) (by omega) (by omega) (v := (S 295 f)) (w_up_slot (by decide)) (fun r9 => ?_)
        refine wa_ireturn rfl ?_
        refine ⟨rfl, congrArg (fun z => Sum.inl (some (0, z))) ?_⟩
        unfold fu_r
        first | (rw [if_neg (by omega)]; done) | (rw [if_pos (by omega)]; repeat (first | rw [if_pos (by omega)] | rw [if_neg (by omega)]))
        all_goals first | rfl | (show _ = _; omega)
      by_cases c10 : wh = 2
      · refine wb_sw (w_rg0 (by omega) (by omega)) (tb := 4) (by rw [c10]; rfl) ⟨_, rfl⟩ ?_
        refine wa_aload_n (n := 0) rfl ?_
        refine wb_gf4 237 rfl (wy_pr rfl) wt_237 wf_15_38 (v := 296) wl_237_38 ?_
        refine wa_iload_n (n := 1) rfl ?_
        refine wb_iald 296 rfl (wy_pr rfl) wt_296 (n := 400) ((w_up_slot (by decide)).trans ((ml_296 hM))) (by omega) (by omega) (v := (S 296 f)) (w_up_slot (by decide)) (fun r11 => ?_)
        refine wa_ireturn rfl ?_
        refine ⟨rfl, congrArg (fun z => Sum.inl (some (0, z))) ?_⟩
        unfold fu_r
        first | (rw [if_neg (by omega)]; done) | (rw [if_pos (by omega)]; repeat (first | rw [if_pos (by omega)] | rw [if_neg (by omega)]))
        all_goals first | rfl | (show _ = _; omega)
      by_cases c12 : wh = 3
      · refine wb_sw (w_rg0 (by omega) (by omega)) (tb := 5) (by rw [c12]; rfl) ⟨_, rfl⟩ ?_
        refine wa_aload_n (n := 0) rfl ?_
        refine wb_gf4 237 rfl (wy_pr rfl) wt_237 wf_15_40 (v := 298) wl_237_40 ?_
        refine wa_iload_n (n := 1) rfl ?_
        refine wb_iald 298 rfl (wy_pr rfl) wt_298 (n := 400) ((w_up_slot (by decide)).trans ((ml_298 hM))) (by omega) (by omega) (v := (S 298 f)) (w_up_slot (by decide)) (fun r13 => ?_)
        refine wa_ireturn rfl ?_
        refine ⟨rfl, congrArg (fun z => Sum.inl (some (0, z))) ?_⟩
        unfold fu_r
        first | (rw [if_neg (by omega)]; done) | (rw [if_pos (by omega)]; repeat (first | rw [if_pos (by omega)] | rw [if_neg (by omega)]))
        all_goals first | rfl | (show _ = _; omega)
      by_cases c14 : wh = 4
      · refine wb_sw (w_rg0 (by omega) (by omega)) (tb := 6) (by rw [c14]; rfl) ⟨_, rfl⟩ ?_
        refine wa_aload_n (n := 0) rfl ?_
        refine wb_gf4 237 rfl (wy_pr rfl) wt_237 wf_15_41 (v := 299) wl_237_41 ?_
        refine wa_iload_n (n := 1) rfl ?_
        refine wb_iald 299 rfl (wy_pr rfl) wt_299 (n := 400) ((w_up_slot (by decide)).trans ((ml_299 hM))) (by omega) (by omega) (v := (S 299 f)) (w_up_slot (by decide)) (fun r15 => ?_)
        refine wa_ireturn rfl ?_
        refine ⟨rfl, congrArg (fun z => Sum.inl (some (0, z))) ?_⟩
        unfold fu_r
        first | (rw [if_neg (by omega)]; done) | (rw [if_pos (by omega)]; repeat (first | rw [if_pos (by omega)] | rw [if_neg (by omega)]))
        all_goals first | rfl | (show _ = _; omega)
      by_cases c16 : wh = 5
      · refine wb_sw (w_rg0 (by omega) (by omega)) (tb := 7) (by rw [c16]; rfl) ⟨_, rfl⟩ ?_
        refine wa_aload_n (n := 0) rfl ?_
        refine wb_gf4 237 rfl (wy_pr rfl) wt_237 wf_15_42 (v := 300) wl_237_42 ?_
        refine wa_iload_n (n := 1) rfl ?_
        refine wb_iald 300 rfl (wy_pr rfl) wt_300 (n := 400) ((w_up_slot (by decide)).trans ((ml_300 hM))) (by omega) (by omega) (v := (S 300 f)) (w_up_slot (by decide)) (fun r17 => ?_)
        refine wa_ireturn rfl ?_
        refine ⟨rfl, congrArg (fun z => Sum.inl (some (0, z))) ?_⟩
        unfold fu_r
        first | (rw [if_neg (by omega)]; done) | (rw [if_pos (by omega)]; repeat (first | rw [if_pos (by omega)] | rw [if_neg (by omega)]))
        all_goals first | rfl | (show _ = _; omega)
      refine wb_sw (w_rg0 (by omega) (by omega)) (tb := 8) (w_tb_df (by simp only [List.length_cons, List.length_nil]; omega)) ⟨_, rfl⟩ ?_
      refine wa_iconst ?_
      refine wa_ireturn rfl ?_
      refine ⟨rfl, congrArg (fun z => Sum.inl (some (0, z))) ?_⟩
      unfold fu_r
      first | (rw [if_neg (by omega)]; done) | (rw [if_pos (by omega)]; repeat (first | rw [if_pos (by omega)] | rw [if_neg (by omega)]))
      all_goals first | rfl | (show _ = _; omega)
    · skip
      exact absurd c5 (by omega)
  · skip
    show wJ _ _ _ _ _ _ _ _ _ _
    refine wa_ifne (w_rg0 (by omega) (by omega)) ⟨_, rfl⟩ (fun c18 => ?_) (fun c18 => ?_)
    · skip
      exact absurd c18 (by omega)
    · skip
      refine wa_iconst ?_
      refine wa_ireturn rfl ?_
      refine ⟨rfl, congrArg (fun z => Sum.inl (some (0, z))) ?_⟩
      unfold fu_r
      first | (rw [if_neg (by omega)]; done) | (rw [if_pos (by omega)]; repeat (first | rw [if_pos (by omega)] | rw [if_neg (by omega)]))
      all_goals first | rfl | (show _ = _; omega)
theorem mco {f i wh : Int} (hM : w_ML S) (h1 : 0 ≤ S 237 34 ∧ S 237 34 ≤ 400) (h2 : ∀ k : Int, 0 ≤ k → k < S 237 34 → 0 ≤ S 297 k ∧ 0 ≤ S 298 k ∧ S 297 k + S 298 k ≤ 20000) (hf : -2147483648 ≤ f ∧ f ≤ 2147483647) (hi : -2147483648 ≤ i ∧ i ≤ 2147483647) (hwh : -2147483648 ≤ wh ∧ wh ≤ 2147483647) : wJ (pe_GA xs) wY0 M (d + 1) t_M_code ((pe_at t_M_code.bl 0).getD (0, [])).2 [(0, (2, 237)), (1, (0, f)), (2, (0, i)), (3, (0, wh))] [] S (fun o Z => w_up S 237 0 0 = Z ∧ o = .inl (some (0, co_r S f i wh))) := by
  refine wa_aload_n (n := 0) rfl ?_
  refine wa_iconst ?_
  refine wb_pfi 237 rfl (wy_pr rfl) wt_237 wf_15_0 (n := 0) rfl ⟨(by omega), (by omega)⟩ ?_
  refine wa_iload_n (n := 1) rfl ?_
  refine wa_i2l (w_rg0 (by omega) (by omega)) ?_
  refine wa_lconst ?_
  refine wa_aload_n (n := 0) rfl ?_
  refine wb_gfi 237 rfl (wy_pr rfl) wt_237 wf_15_34 (v := (S 237 34)) (w_up_at (by decide)) (fun r1 => ?_)
  refine wa_iconst ?_
  refine wa_isub ?_
  refine wa_i2l (w_rg0 (by omega) (by omega)) ?_
  refine wa_cs (M2 := fun _ => False) rfl at_M_in ⟨_, rfl⟩ rfl rfl ⟨(Or.inr ⟨wy_pr rfl, fun q => q⟩), trivial, trivial, trivial, trivial⟩ trivial (fun _ _ q => False.elim q) (in_ok (S := (w_up S 237 0 0)) (a := f) (lo := 0) (hi := ((S 237 34) - 1)) ⟨by omega, by omega⟩ ⟨by omega, by omega⟩ ⟨by omega, by omega⟩) (fun oq3 Sq3 hp4 q3 => ?_)
  rcases q3 with ⟨rfl, ⟨rfl, hin2⟩ | ⟨rfl, hin2⟩⟩
  · skip
    show wJ _ _ _ _ _ _ _ _ _ _
    refine wa_ifeq (w_rg0 (by omega) (by omega)) ⟨_, rfl⟩ (fun c5 => ?_) (fun c5 => ?_)
    · skip
      exact absurd c5 (by omega)
    · skip
      have h3 := h2 f (by omega) (by omega)
      refine wa_iload_n (n := 2) rfl ?_
      refine wa_i2l (w_rg0 (by omega) (by omega)) ?_
      refine wa_lconst ?_
      refine wa_aload_n (n := 0) rfl ?_
      refine wb_gf4 237 rfl (wy_pr rfl) wt_237 wf_15_40 (v := 298) wl_237_40 ?_
      refine wa_iload_n (n := 1) rfl ?_
      refine wb_iald 298 rfl (wy_pr rfl) wt_298 (n := 400) ((w_up_slot (by decide)).trans ((ml_298 hM))) (by omega) (by omega) (v := (S 298 f)) (w_up_slot (by decide)) (fun r6 => ?_)
      refine wa_iconst ?_
      refine wa_isub ?_
      refine wa_i2l (w_rg0 (by omega) (by omega)) ?_
      refine wa_cs (M2 := fun _ => False) rfl at_M_in ⟨_, rfl⟩ rfl rfl ⟨(Or.inr ⟨wy_pr rfl, fun q => q⟩), trivial, trivial, trivial, trivial⟩ trivial (fun _ _ q => False.elim q) (in_ok (S := (w_up S 237 0 0)) (a := i) (lo := 0) (hi := ((S 298 f) - 1)) ⟨by omega, by omega⟩ ⟨by omega, by omega⟩ ⟨by omega, by omega⟩) (fun oq8 Sq8 hp9 q8 => ?_)
      rcases q8 with ⟨rfl, ⟨rfl, hin7⟩ | ⟨rfl, hin7⟩⟩
      · skip
        show wJ _ _ _ _ _ _ _ _ _ _
        refine wa_ifne (w_rg0 (by omega) (by omega)) ⟨_, rfl⟩ (fun c10 => ?_) (fun c10 => ?_)
        · skip
          refine wa_aload_n (n := 0) rfl ?_
          refine wb_gf4 237 rfl (wy_pr rfl) wt_237 wf_15_39 (v := 297) wl_237_39 ?_
          refine wa_iload_n (n := 1) rfl ?_
          refine wb_iald 297 rfl (wy_pr rfl) wt_297 (n := 400) ((w_up_slot (by decide)).trans ((ml_297 hM))) (by omega) (by omega) (v := (S 297 f)) (w_up_slot (by decide)) (fun r11 => ?_)
          refine wa_iload_n (n := 2) rfl ?_
          refine wa_iadd ?_
          refine wa_istore (n := 4) rfl ?_
          refine wa_iload_n (n := 3) rfl ?_
          refine wa_ifne (w_rg0 (by omega) (by omega)) ⟨_, rfl⟩ (fun c12 => ?_) (fun c12 => ?_)
          · skip
            refine wa_iload_n (n := 3) rfl ?_
            refine wa_iconst ?_
            refine wa_icmpne (w_rg0 (by omega) (by omega)) (w_rg0 (by omega) (by omega)) ⟨_, rfl⟩ (fun c13 => ?_) (fun c13 => ?_)
            · skip
              refine wa_iload_n (n := 3) rfl ?_
              refine wa_iconst ?_
              refine wa_icmpne (w_rg0 (by omega) (by omega)) (w_rg0 (by omega) (by omega)) ⟨_, rfl⟩ (fun c14 => ?_) (fun c14 => ?_)
              · skip
                refine wa_iconst ?_
                refine wa_fall ⟨_, rfl⟩ ?_
                refine wa_ireturn rfl ?_
                refine ⟨rfl, congrArg (fun z => Sum.inl (some (0, z))) ?_⟩
                unfold co_r
                first | (rw [if_neg (by omega)]; done) | (rw [if_pos (by omega)]; repeat (first | rw [if_pos (by omega)] | rw [if_neg (by omega)]))
                all_goals first | rfl | (show _ = _; omega)
              · skip
                refine wa_aload_n (n := 0) rfl ?_
                refine wb_gf4 237 rfl (wy_pr rfl) wt_237 wf_15_46 (v := 303) wl_237_46 ?_
                refine wa_iload (n := 4) rfl ?_
                refine wb_iald 303 rfl (wy_pr rfl) wt_303 (n := 20000) ((w_up_slot (by decide)).trans ((ml_303 hM))) (by omega) (by omega) (v := (S 303 ((S 297 f) + i))) (w_up_slot (by decide)) (fun r15 => ?_)
                refine wa_goto ⟨_, rfl⟩ ?_
                refine wa_ireturn rfl ?_
                refine ⟨rfl, congrArg (fun z => Sum.inl (some (0, z))) ?_⟩
                unfold co_r
                first | (rw [if_neg (by omega)]; done) | (rw [if_pos (by omega)]; repeat (first | rw [if_pos (by omega)] | rw [if_neg (by omega)]))
                all_goals first | rfl | (show _ = _; omega)
            · skip
              refine wa_aload_n (n := 0) rfl ?_
              refine wb_gf4 237 rfl (wy_pr rfl) wt_237 wf_15_45 (v := 302) wl_237_45 ?_
              refine wa_iload (n := 4) rfl ?_
              refine wb_iald 302 rfl (wy_pr rfl) wt_302 (n := 20000) ((w_up_slot (by decide)).trans ((ml_302 hM))) (by omega) (by omega) (v := (S 302 ((S 297 f) + i))) (w_up_slot (by decide)) (fun r16 => ?_)
              refine wa_goto ⟨_, rfl⟩ ?_
              refine wa_ireturn rfl ?_
              refine ⟨rfl, congrArg (fun z => Sum.inl (some (0, z))) ?_⟩
              unfold co_r
              first | (rw [if_neg (by omega)]; done) | (rw [if_pos (by omega)]; repeat (first | rw [if_pos (by omega)] | rw [if_neg (by omega)]))
              all_goals first | rfl | (show _ = _; omega)
          · skip
            refine wa_aload_n (n := 0) rfl ?_
            refine wb_gf4 237 rfl (wy_pr rfl) wt_237 wf_15_44 (v := 301) wl_237_44 ?_
            refine wa_iload (n := 4) rfl ?_
            refine wb_iald 301 rfl (wy_pr rfl) wt_301 (n := 20000) ((w_up_slot (by decide)).trans ((ml_301 hM))) (by omega) (by omega) (v := (S 301 ((S 297 f) + i))) (w_up_slot (by decide)) (fun r17 => ?_)
            refine wa_goto ⟨_, rfl⟩ ?_
            refine wa_ireturn rfl ?_
            refine ⟨rfl, congrArg (fun z => Sum.inl (some (0, z))) ?_⟩
            unfold co_r
            first | (rw [if_neg (by omega)]; done) | (rw [if_pos (by omega)]; repeat (first | rw [if_pos (by omega)] | rw [if_neg (by omega)]))
            all_goals first | rfl | (show _ = _; omega)
        · skip
          exact absurd c10 (by omega)
      · skip
        show wJ _ _ _ _ _ _ _ _ _ _
        refine wa_ifne (w_rg0 (by omega) (by omega)) ⟨_, rfl⟩ (fun c18 => ?_) (fun c18 => ?_)
        · skip
          exact absurd c18 (by omega)
        · skip
          refine wa_fall ⟨_, rfl⟩ ?_
          refine wa_iconst ?_
          refine wa_ireturn rfl ?_
          refine ⟨rfl, congrArg (fun z => Sum.inl (some (0, z))) ?_⟩
          unfold co_r
          first | (rw [if_neg (by omega)]; done) | (rw [if_pos (by omega)]; repeat (first | rw [if_pos (by omega)] | rw [if_neg (by omega)]))
          all_goals first | rfl | (show _ = _; omega)
  · skip
    show wJ _ _ _ _ _ _ _ _ _ _
    refine wa_ifeq (w_rg0 (by omega) (by omega)) ⟨_, rfl⟩ (fun c19 => ?_) (fun c19 => ?_)
    · skip
      refine wa_iconst ?_
      refine wa_ireturn rfl ?_
      refine ⟨rfl, congrArg (fun z => Sum.inl (some (0, z))) ?_⟩
      unfold co_r
      first | (rw [if_neg (by omega)]; done) | (rw [if_pos (by omega)]; repeat (first | rw [if_pos (by omega)] | rw [if_neg (by omega)]))
      all_goals first | rfl | (show _ = _; omega)
    · skip
      exact absurd c19 (by omega)
theorem msi {f wh : Int} (hM : w_ML S) (h1 : 0 ≤ S 237 47 ∧ S 237 47 ≤ 4000) (hf : -2147483648 ≤ f ∧ f ≤ 2147483647) (hwh : -2147483648 ≤ wh ∧ wh ≤ 2147483647) : wJ (pe_GA xs) wY0 M (d + 1) t_M_site ((pe_at t_M_site.bl 0).getD (0, [])).2 [(0, (2, 237)), (1, (0, f)), (2, (0, wh))] [] S (fun o Z => w_up S 237 0 0 = Z ∧ o = .inl (some (0, st_r S f wh))) := by
  refine wa_aload_n (n := 0) rfl ?_
  refine wa_iconst ?_
  refine wb_pfi 237 rfl (wy_pr rfl) wt_237 wf_15_0 (n := 0) rfl ⟨(by omega), (by omega)⟩ ?_
  refine wa_iload_n (n := 1) rfl ?_
  refine wa_i2l (w_rg0 (by omega) (by omega)) ?_
  refine wa_lconst ?_
  refine wa_aload_n (n := 0) rfl ?_
  refine wb_gfi 237 rfl (wy_pr rfl) wt_237 wf_15_47 (v := (S 237 47)) (w_up_at (by decide)) (fun r1 => ?_)
  refine wa_iconst ?_
  refine wa_isub ?_
  refine wa_i2l (w_rg0 (by omega) (by omega)) ?_
  refine wa_cs (M2 := fun _ => False) rfl at_M_in ⟨_, rfl⟩ rfl rfl ⟨(Or.inr ⟨wy_pr rfl, fun q => q⟩), trivial, trivial, trivial⟩ trivial (fun _ _ q => False.elim q) (in_ok (S := (w_up S 237 0 0)) (a := f) (lo := 0) (hi := ((S 237 47) - 1)) ⟨by omega, by omega⟩ ⟨by omega, by omega⟩ ⟨by omega, by omega⟩) (fun oq3 Sq3 hp4 q3 => ?_)
  rcases q3 with ⟨rfl, ⟨rfl, hin2⟩ | ⟨rfl, hin2⟩⟩
  · skip
    show wJ _ _ _ _ _ _ _ _ _ _
    refine wa_ifne (w_rg0 (by omega) (by omega)) ⟨_, rfl⟩ (fun c5 => ?_) (fun c5 => ?_)
    · skip
      refine wa_iload_n (n := 2) rfl ?_
      by_cases c6 : wh = 0
      · refine wb_sw (w_rg0 (by omega) (by omega)) (tb := 2) (by rw [c6]; rfl) ⟨_, rfl⟩ ?_
        refine wa_aload_n (n := 0) rfl ?_
        refine wb_gf4 237 rfl (wy_pr rfl) wt_237 wf_15_49 (v := 304) wl_237_49 ?_
        refine wa_iload_n (n := 1) rfl ?_
        refine wb_iald 304 rfl (wy_pr rfl) wt_304 (n := 4000) ((w_up_slot (by decide)).trans ((ml_304 hM))) (by omega) (by omega) (v := (S 304 f)) (w_up_slot (by decide)) (fun r7 => ?_)
        refine wa_ireturn rfl ?_
        refine ⟨rfl, congrArg (fun z => Sum.inl (some (0, z))) ?_⟩
        unfold st_r
        first | (rw [if_neg (by omega)]; done) | (rw [if_pos (by omega)]; repeat (first | rw [if_pos (by omega)] | rw [if_neg (by omega)]))
        all_goals first | rfl | (show _ = _; omega)
      by_cases c8 : wh = 1
      · refine wb_sw (w_rg0 (by omega) (by omega)) (tb := 3) (by rw [c8]; rfl) ⟨_, rfl⟩ ?_
        refine wa_aload_n (n := 0) rfl ?_
        refine wb_gf4 237 rfl (wy_pr rfl) wt_237 wf_15_50 (v := 305) wl_237_50 ?_
        refine wa_iload_n (n := 1) rfl ?_
        refine wb_iald 305 rfl (wy_pr rfl) wt_305 (n := 4000) ((w_up_slot (by decide)).trans ((ml_305 hM))) (by omega) (by omega) (v := (S 305 f)) (w_up_slot (by decide)) (fun r9 => ?_)
        refine wa_ireturn rfl ?_
        refine ⟨rfl, congrArg (fun z => Sum.inl (some (0, z))) ?_⟩
        unfold st_r
        first | (rw [if_neg (by omega)]; done) | (rw [if_pos (by omega)]; repeat (first | rw [if_pos (by omega)] | rw [if_neg (by omega)]))
        all_goals first | rfl | (show _ = _; omega)
      by_cases c10 : wh = 2
      · refine wb_sw (w_rg0 (by omega) (by omega)) (tb := 4) (by rw [c10]; rfl) ⟨_, rfl⟩ ?_
        refine wa_aload_n (n := 0) rfl ?_
        refine wb_gf4 237 rfl (wy_pr rfl) wt_237 wf_15_51 (v := 306) wl_237_51 ?_
        refine wa_iload_n (n := 1) rfl ?_
        refine wb_iald 306 rfl (wy_pr rfl) wt_306 (n := 4000) ((w_up_slot (by decide)).trans ((ml_306 hM))) (by omega) (by omega) (v := (S 306 f)) (w_up_slot (by decide)) (fun r11 => ?_)
        refine wa_ireturn rfl ?_
        refine ⟨rfl, congrArg (fun z => Sum.inl (some (0, z))) ?_⟩
        unfold st_r
        first | (rw [if_neg (by omega)]; done) | (rw [if_pos (by omega)]; repeat (first | rw [if_pos (by omega)] | rw [if_neg (by omega)]))
        all_goals first | rfl | (show _ = _; omega)
      by_cases c12 : wh = 3
      · refine wb_sw (w_rg0 (by omega) (by omega)) (tb := 5) (by rw [c12]; rfl) ⟨_, rfl⟩ ?_
        refine wa_aload_n (n := 0) rfl ?_
        refine wb_gf4 237 rfl (wy_pr rfl) wt_237 wf_15_52 (v := 307) wl_237_52 ?_
        refine wa_iload_n (n := 1) rfl ?_
        refine wb_iald 307 rfl (wy_pr rfl) wt_307 (n := 4000) ((w_up_slot (by decide)).trans ((ml_307 hM))) (by omega) (by omega) (v := (S 307 f)) (w_up_slot (by decide)) (fun r13 => ?_)
        refine wa_ireturn rfl ?_
        refine ⟨rfl, congrArg (fun z => Sum.inl (some (0, z))) ?_⟩
        unfold st_r
        first | (rw [if_neg (by omega)]; done) | (rw [if_pos (by omega)]; repeat (first | rw [if_pos (by omega)] | rw [if_neg (by omega)]))
        all_goals first | rfl | (show _ = _; omega)
      by_cases c14 : wh = 4
      · refine wb_sw (w_rg0 (by omega) (by omega)) (tb := 6) (by rw [c14]; rfl) ⟨_, rfl⟩ ?_
        refine wa_aload_n (n := 0) rfl ?_
        refine wb_gf4 237 rfl (wy_pr rfl) wt_237 wf_15_53 (v := 308) wl_237_53 ?_
        refine wa_iload_n (n := 1) rfl ?_
        refine wb_iald 308 rfl (wy_pr rfl) wt_308 (n := 4000) ((w_up_slot (by decide)).trans ((ml_308 hM))) (by omega) (by omega) (v := (S 308 f)) (w_up_slot (by decide)) (fun r15 => ?_)
        refine wa_ireturn rfl ?_
        refine ⟨rfl, congrArg (fun z => Sum.inl (some (0, z))) ?_⟩
        unfold st_r
        first | (rw [if_neg (by omega)]; done) | (rw [if_pos (by omega)]; repeat (first | rw [if_pos (by omega)] | rw [if_neg (by omega)]))
        all_goals first | rfl | (show _ = _; omega)
      by_cases c16 : wh = 5
      · refine wb_sw (w_rg0 (by omega) (by omega)) (tb := 7) (by rw [c16]; rfl) ⟨_, rfl⟩ ?_
        refine wa_aload_n (n := 0) rfl ?_
        refine wb_gf4 237 rfl (wy_pr rfl) wt_237 wf_15_54 (v := 309) wl_237_54 ?_
        refine wa_iload_n (n := 1) rfl ?_
        refine wb_iald 309 rfl (wy_pr rfl) wt_309 (n := 4000) ((w_up_slot (by decide)).trans ((ml_309 hM))) (by omega) (by omega) (v := (S 309 f)) (w_up_slot (by decide)) (fun r17 => ?_)
        refine wa_ireturn rfl ?_
        refine ⟨rfl, congrArg (fun z => Sum.inl (some (0, z))) ?_⟩
        unfold st_r
        first | (rw [if_neg (by omega)]; done) | (rw [if_pos (by omega)]; repeat (first | rw [if_pos (by omega)] | rw [if_neg (by omega)]))
        all_goals first | rfl | (show _ = _; omega)
      by_cases c18 : wh = 6
      · refine wb_sw (w_rg0 (by omega) (by omega)) (tb := 8) (by rw [c18]; rfl) ⟨_, rfl⟩ ?_
        refine wa_aload_n (n := 0) rfl ?_
        refine wb_gf4 237 rfl (wy_pr rfl) wt_237 wf_15_55 (v := 310) wl_237_55 ?_
        refine wa_iload_n (n := 1) rfl ?_
        refine wb_iald 310 rfl (wy_pr rfl) wt_310 (n := 4000) ((w_up_slot (by decide)).trans ((ml_310 hM))) (by omega) (by omega) (v := (S 310 f)) (w_up_slot (by decide)) (fun r19 => ?_)
        refine wa_ireturn rfl ?_
        refine ⟨rfl, congrArg (fun z => Sum.inl (some (0, z))) ?_⟩
        unfold st_r
        first | (rw [if_neg (by omega)]; done) | (rw [if_pos (by omega)]; repeat (first | rw [if_pos (by omega)] | rw [if_neg (by omega)]))
        all_goals first | rfl | (show _ = _; omega)
      by_cases c20 : wh = 7
      · refine wb_sw (w_rg0 (by omega) (by omega)) (tb := 9) (by rw [c20]; rfl) ⟨_, rfl⟩ ?_
        refine wa_aload_n (n := 0) rfl ?_
        refine wb_gf4 237 rfl (wy_pr rfl) wt_237 wf_15_56 (v := 311) wl_237_56 ?_
        refine wa_iload_n (n := 1) rfl ?_
        refine wb_iald 311 rfl (wy_pr rfl) wt_311 (n := 4000) ((w_up_slot (by decide)).trans ((ml_311 hM))) (by omega) (by omega) (v := (S 311 f)) (w_up_slot (by decide)) (fun r21 => ?_)
        refine wa_ireturn rfl ?_
        refine ⟨rfl, congrArg (fun z => Sum.inl (some (0, z))) ?_⟩
        unfold st_r
        first | (rw [if_neg (by omega)]; done) | (rw [if_pos (by omega)]; repeat (first | rw [if_pos (by omega)] | rw [if_neg (by omega)]))
        all_goals first | rfl | (show _ = _; omega)
      by_cases c22 : wh = 8
      · refine wb_sw (w_rg0 (by omega) (by omega)) (tb := 10) (by rw [c22]; rfl) ⟨_, rfl⟩ ?_
        refine wa_aload_n (n := 0) rfl ?_
        refine wb_gf4 237 rfl (wy_pr rfl) wt_237 wf_15_57 (v := 312) wl_237_57 ?_
        refine wa_iload_n (n := 1) rfl ?_
        refine wb_iald 312 rfl (wy_pr rfl) wt_312 (n := 4000) ((w_up_slot (by decide)).trans ((ml_312 hM))) (by omega) (by omega) (v := (S 312 f)) (w_up_slot (by decide)) (fun r23 => ?_)
        refine wa_ireturn rfl ?_
        refine ⟨rfl, congrArg (fun z => Sum.inl (some (0, z))) ?_⟩
        unfold st_r
        first | (rw [if_neg (by omega)]; done) | (rw [if_pos (by omega)]; repeat (first | rw [if_pos (by omega)] | rw [if_neg (by omega)]))
        all_goals first | rfl | (show _ = _; omega)
      by_cases c24 : wh = 9
      · refine wb_sw (w_rg0 (by omega) (by omega)) (tb := 11) (by rw [c24]; rfl) ⟨_, rfl⟩ ?_
        refine wa_aload_n (n := 0) rfl ?_
        refine wb_gf4 237 rfl (wy_pr rfl) wt_237 wf_15_156 (v := 376) wl_237_156 ?_
        refine wa_iload_n (n := 1) rfl ?_
        refine wb_iald 376 rfl (wy_pr rfl) wt_376 (n := 4000) ((w_up_slot (by decide)).trans ((ml_376 hM))) (by omega) (by omega) (v := (S 376 f)) (w_up_slot (by decide)) (fun r25 => ?_)
        refine wa_ireturn rfl ?_
        refine ⟨rfl, congrArg (fun z => Sum.inl (some (0, z))) ?_⟩
        unfold st_r
        first | (rw [if_neg (by omega)]; done) | (rw [if_pos (by omega)]; repeat (first | rw [if_pos (by omega)] | rw [if_neg (by omega)]))
        all_goals first | rfl | (show _ = _; omega)
      by_cases c26 : wh = 10
      · refine wb_sw (w_rg0 (by omega) (by omega)) (tb := 12) (by rw [c26]; rfl) ⟨_, rfl⟩ ?_
        refine wa_aload_n (n := 0) rfl ?_
        refine wb_gf4 237 rfl (wy_pr rfl) wt_237 wf_15_58 (v := 313) wl_237_58 ?_
        refine wa_iload_n (n := 1) rfl ?_
        refine wb_zald 313 rfl (wy_pr rfl) wt_313 (n := 4000) ((w_up_slot (by decide)).trans ((ml_313 hM))) (by omega) (by omega) (v := (S 313 f)) (w_up_slot (by decide)) (fun r27 => ?_)
        refine wa_ifeq (w_rg0 (by omega) (by omega)) ⟨_, rfl⟩ (fun c28 => ?_) (fun c28 => ?_)
        · skip
          refine wa_iconst ?_
          refine wa_fall ⟨_, rfl⟩ ?_
          refine wa_ireturn rfl ?_
          refine ⟨rfl, congrArg (fun z => Sum.inl (some (0, z))) ?_⟩
          unfold st_r
          first | (have hz : 0 ≤ S 313 f ∧ S 313 f ≤ 1 := by first | assumption | exact (by assumption : w_rg 3 (S 313 f)))
          first | (rw [if_neg (by omega)]; done) | (rw [if_pos (by omega)]; repeat (first | rw [if_pos (by omega)] | rw [if_neg (by omega)]))
          all_goals first | rfl | (show _ = _; omega)
        · skip
          refine wa_iconst ?_
          refine wa_goto ⟨_, rfl⟩ ?_
          refine wa_ireturn rfl ?_
          refine ⟨rfl, congrArg (fun z => Sum.inl (some (0, z))) ?_⟩
          unfold st_r
          first | (have hz : 0 ≤ S 313 f ∧ S 313 f ≤ 1 := by first | assumption | exact (by assumption : w_rg 3 (S 313 f)))
          first | (rw [if_neg (by omega)]; done) | (rw [if_pos (by omega)]; repeat (first | rw [if_pos (by omega)] | rw [if_neg (by omega)]))
          all_goals first | rfl | (show _ = _; omega)
      refine wb_sw (w_rg0 (by omega) (by omega)) (tb := 15) (w_tb_df (by simp only [List.length_cons, List.length_nil]; omega)) ⟨_, rfl⟩ ?_
      refine wa_iconst ?_
      refine wa_ireturn rfl ?_
      refine ⟨rfl, congrArg (fun z => Sum.inl (some (0, z))) ?_⟩
      unfold st_r
      first | (rw [if_neg (by omega)]; done) | (rw [if_pos (by omega)]; repeat (first | rw [if_pos (by omega)] | rw [if_neg (by omega)]))
      all_goals first | rfl | (show _ = _; omega)
    · skip
      exact absurd c5 (by omega)
  · skip
    show wJ _ _ _ _ _ _ _ _ _ _
    refine wa_ifne (w_rg0 (by omega) (by omega)) ⟨_, rfl⟩ (fun c29 => ?_) (fun c29 => ?_)
    · skip
      exact absurd c29 (by omega)
    · skip
      refine wa_iconst ?_
      refine wa_ireturn rfl ?_
      refine ⟨rfl, congrArg (fun z => Sum.inl (some (0, z))) ?_⟩
      unfold st_r
      first | (rw [if_neg (by omega)]; done) | (rw [if_pos (by omega)]; repeat (first | rw [if_pos (by omega)] | rw [if_neg (by omega)]))
      all_goals first | rfl | (show _ = _; omega)
theorem mnm {k i : Int} (hM : w_ML S) (hN : mN N S) (hk : -2147483648 ≤ k ∧ k ≤ 2147483647) (hi : -2147483648 ≤ i ∧ i ≤ 2147483647) : wJ (pe_GA xs) wY0 M (d + 1) t_M_name ((pe_at t_M_name.bl 0).getD (0, [])).2 [(0, (2, 237)), (1, (0, k)), (2, (0, i))] [] S (fun o Z => w_up S 237 0 0 = Z ∧ o = .inl (some (0, nm_v N k i))) := by
  have h10 : S 237 16 = (N.length : Int) := hN.1
  have h4 := hN.2.1
  refine wa_aload_n (n := 0) rfl ?_
  refine wa_iconst ?_
  refine wb_pfi 237 rfl (wy_pr rfl) wt_237 wf_15_0 (n := 0) rfl ⟨(by omega), (by omega)⟩ ?_
  refine wa_iload_n (n := 1) rfl ?_
  refine wa_i2l (w_rg0 (by omega) (by omega)) ?_
  refine wa_lconst ?_
  refine wa_aload_n (n := 0) rfl ?_
  refine wb_gfi 237 rfl (wy_pr rfl) wt_237 wf_15_16 (v := (S 237 16)) (w_up_at (by decide)) (fun r1 => ?_)
  refine wa_iconst ?_
  refine wa_isub ?_
  refine wa_i2l (w_rg0 (by omega) (by omega)) ?_
  refine wa_cs (M2 := fun _ => False) rfl at_M_in ⟨_, rfl⟩ rfl rfl ⟨(Or.inr ⟨wy_pr rfl, fun q => q⟩), trivial, trivial, trivial⟩ trivial (fun _ _ q => False.elim q) (in_ok (S := (w_up S 237 0 0)) (a := k) (lo := 0) (hi := ((S 237 16) - 1)) ⟨by omega, by omega⟩ ⟨by omega, by omega⟩ ⟨by omega, by omega⟩) (fun oq3 Sq3 hp4 q3 => ?_)
  rcases q3 with ⟨rfl, ⟨rfl, hin2⟩ | ⟨rfl, hin2⟩⟩
  · skip
    show wJ _ _ _ _ _ _ _ _ _ _
    refine wa_ifeq (w_rg0 (by omega) (by omega)) ⟨_, rfl⟩ (fun c5 => ?_) (fun c5 => ?_)
    · skip
      exact absurd c5 (by omega)
    · skip
      have hk2 : ((k.toNat : Nat) : Int) = k := by omega
      obtain ⟨a1, a2, a3⟩ := hN.2.2 k.toNat (by omega)
      rw [hk2] at a1 a3
      refine wa_iload_n (n := 2) rfl ?_
      refine wa_i2l (w_rg0 (by omega) (by omega)) ?_
      refine wa_lconst ?_
      refine wa_aload_n (n := 0) rfl ?_
      refine wb_gf4 237 rfl (wy_pr rfl) wt_237 wf_15_18 (v := 282) wl_237_18 ?_
      refine wa_iload_n (n := 1) rfl ?_
      refine wb_iald 282 rfl (wy_pr rfl) wt_282 (n := 4000) ((w_up_slot (by decide)).trans ((ml_282 hM))) (by omega) (by omega) (v := (S 282 k)) (w_up_slot (by decide)) (fun r6 => ?_)
      refine wa_iconst ?_
      refine wa_isub ?_
      refine wa_i2l (w_rg0 (by omega) (by omega)) ?_
      refine wa_cs (M2 := fun _ => False) rfl at_M_in ⟨_, rfl⟩ rfl rfl ⟨(Or.inr ⟨wy_pr rfl, fun q => q⟩), trivial, trivial, trivial⟩ trivial (fun _ _ q => False.elim q) (in_ok (S := (w_up S 237 0 0)) (a := i) (lo := 0) (hi := ((S 282 k) - 1)) ⟨by omega, by omega⟩ ⟨by omega, by omega⟩ ⟨by omega, by omega⟩) (fun oq8 Sq8 hp9 q8 => ?_)
      rcases q8 with ⟨rfl, ⟨rfl, hin7⟩ | ⟨rfl, hin7⟩⟩
      · skip
        show wJ _ _ _ _ _ _ _ _ _ _
        refine wa_ifeq (w_rg0 (by omega) (by omega)) ⟨_, rfl⟩ (fun c10 => ?_) (fun c10 => ?_)
        · skip
          exact absurd c10 (by omega)
        · skip
          refine wa_aload_n (n := 0) rfl ?_
          refine wb_gf4 237 rfl (wy_pr rfl) wt_237 wf_15_17 (v := 281) wl_237_17 ?_
          refine wa_bipush (w_rg2 (by omega) (by omega)) ?_
          refine wa_iload_n (n := 1) rfl ?_
          refine wa_imul ?_
          refine wa_iload_n (n := 2) rfl ?_
          refine wa_iadd ?_
          refine wb_bald 281 rfl (wy_pr rfl) wt_281 (n := 240000) ((w_up_slot (by decide)).trans ((ml_281 hM))) (by omega) (by omega) (v := (S 281 ((60 * k) + i))) (w_up_slot (by decide)) (fun r11 => ?_)
          refine wa_goto ⟨_, rfl⟩ ?_
          refine wa_ireturn rfl ?_
          refine ⟨rfl, congrArg (fun z => Sum.inl (some (0, z))) ?_⟩
          unfold nm_v
          rw [if_pos (by omega)]
          have := a3 i.toNat (by omega)
          rw [show ((i.toNat : Nat) : Int) = i by omega] at this
          exact this
      · skip
        show wJ _ _ _ _ _ _ _ _ _ _
        refine wa_ifeq (w_rg0 (by omega) (by omega)) ⟨_, rfl⟩ (fun c12 => ?_) (fun c12 => ?_)
        · skip
          refine wa_iconst ?_
          refine wa_fall ⟨_, rfl⟩ ?_
          refine wa_ireturn rfl ?_
          refine ⟨rfl, congrArg (fun z => Sum.inl (some (0, z))) ?_⟩
          unfold nm_v
          rw [if_neg (by omega)]
        · skip
          exact absurd c12 (by omega)
  · skip
    show wJ _ _ _ _ _ _ _ _ _ _
    refine wa_ifeq (w_rg0 (by omega) (by omega)) ⟨_, rfl⟩ (fun c13 => ?_) (fun c13 => ?_)
    · skip
      refine wa_iconst ?_
      refine wa_fall ⟨_, rfl⟩ ?_
      refine wa_ireturn rfl ?_
      refine ⟨rfl, congrArg (fun z => Sum.inl (some (0, z))) ?_⟩
      unfold nm_v
      rw [if_neg (by omega)]
    · skip
      exact absurd c13 (by omega)
end Wd4
