/-! PART ih: told, result, sign: of the reference. -/
section Wih
variable {xs : List (Nat × List Int32)} {M : Nat → Prop} {d : Nat} {S Z : wS} {K0 K1 : aK} {v : aV} {k b wh t i : Int}
theorem mtn (hM : w_ML S) (h3 : v.1 ≠ 3) (hk1 : k = v.1) (hb : b = v.2.1) (h0 : v.1 = 0 → v.2.1 = 0) (hwh : -2147483648 ≤ wh ∧ wh ≤ 2147483647) (hk : -2147483648 ≤ k ∧ k ≤ 2147483647) : wJ (pe_GA xs) wY0 M d t_M_told ((pe_at t_M_told.bl 0).getD (0, [])).2 [(0, (2, 237)), (1, (0, k)), (2, (1, b)), (4, (0, wh))] [] S (fun o Z => S = Z ∧ o = .inl (some (1, tdV v wh))) := by
  refine wa_iload (n := 4) rfl ?_
  refine wa_ifne (w_rg0 (by omega) (by omega)) ⟨_, rfl⟩ (fun c1 => ?_) (fun c1 => ?_)
  · skip
    refine wa_iload_n (n := 1) rfl ?_
    refine wa_iconst ?_
    refine wa_icmpne (w_rg0 (by omega) (by omega)) (w_rg0 (by omega) (by omega)) ⟨_, rfl⟩ (fun c2 => ?_) (fun c2 => ?_)
    · skip
      refine wa_iload_n (n := 1) rfl ?_
      refine wa_ifne (w_rg0 (by omega) (by omega)) ⟨_, rfl⟩ (fun c3 => ?_) (fun c3 => ?_)
      · skip
        refine wa_lload_n (n := 2) rfl ?_
        refine wa_fall ⟨_, rfl⟩ ?_
        refine wa_lreturn rfl ?_
        refine ⟨rfl, congrArg (fun z => Sum.inl (some (1, z))) ?_⟩
        unfold tdV
        repeat (first | rw [if_pos (by omega)] | rw [if_neg (by omega)])
        all_goals first | rfl | omega
      · skip
        refine wa_lconst ?_
        refine wa_goto ⟨_, rfl⟩ ?_
        refine wa_lreturn rfl ?_
        refine ⟨rfl, congrArg (fun z => Sum.inl (some (1, z))) ?_⟩
        unfold tdV
        repeat (first | rw [if_pos (by omega)] | rw [if_neg (by omega)])
        all_goals first | rfl | omega
    · skip
      exfalso; omega
  · skip
    refine wa_iload_n (n := 1) rfl ?_
    refine wa_i2l (w_rg0 (by omega) (by omega)) ?_
    refine wa_lreturn rfl ?_
    refine ⟨rfl, congrArg (fun z => Sum.inl (some (1, z))) ?_⟩
    unfold tdV
    repeat (first | rw [if_pos (by omega)] | rw [if_neg (by omega)])
    all_goals first | rfl | omega
theorem mtt (hM : w_ML S) (h3 : v.1 = 3) (hb : 0 ≤ b ∧ b < 16000) (hl : S 285 b = (v.2.2.length : Int)) (hwh : -2147483648 ≤ wh ∧ wh ≤ 2147483647)  : wJ (pe_GA xs) wY0 M d t_M_told ((pe_at t_M_told.bl 0).getD (0, [])).2 [(0, (2, 237)), (1, (0, 3)), (2, (1, b)), (4, (0, wh))] [] S (fun o Z => S = Z ∧ o = .inl (some (1, tdV v wh))) := by
  refine wa_iload (n := 4) rfl ?_
  refine wa_ifne (w_rg0 (by omega) (by omega)) ⟨_, rfl⟩ (fun c1 => ?_) (fun c1 => ?_)
  · skip
    refine wa_iload_n (n := 1) rfl ?_
    refine wa_iconst ?_
    refine wa_icmpne (w_rg0 (by omega) (by omega)) (w_rg0 (by omega) (by omega)) ⟨_, rfl⟩ (fun c2 => ?_) (fun c2 => ?_)
    · skip
      exact absurd c2 (by omega)
    · skip
      refine wa_aload_n (n := 0) rfl ?_
      refine wb_gf4 237 rfl (wy_pr rfl) wt_237 wf_15_23 (v := 285) wl_237_23 ?_
      refine wa_lload_n (n := 2) rfl ?_
      refine wb_l2i_r (y := b) (wb_l2i_id ⟨by omega, by omega⟩) ?_
      refine wb_iald 285 rfl (wy_pr rfl) wt_285 (n := 16000) ((ml_285 hM)) (by omega) (by omega) (v := (S 285 b)) rfl (fun r3 => ?_)
      refine wa_i2l (w_rg0 (by omega) (by omega)) ?_
      refine wa_goto ⟨_, rfl⟩ ?_
      refine wa_lreturn rfl ?_
      refine ⟨rfl, congrArg (fun z => Sum.inl (some (1, z))) ?_⟩
      unfold tdV
      repeat (first | rw [if_pos (by omega)] | rw [if_neg (by omega)])
      all_goals first | rfl | omega
  · skip
    refine wa_iload_n (n := 1) rfl ?_
    refine wa_i2l (w_rg0 (by omega) (by omega)) ?_
    refine wa_lreturn rfl ?_
    refine ⟨rfl, congrArg (fun z => Sum.inl (some (1, z))) ?_⟩
    unfold tdV
    repeat (first | rw [if_pos (by omega)] | rw [if_neg (by omega)])
    all_goals first | rfl | omega
theorem mto (hM : w_ML S) (h : rVl S k b v) (h0 : v.1 = 0 → v.2.1 = 0) (h19 : S 237 19 ≤ 4000) (h102 : S 237 102 ≤ 12000) (hk : -2147483648 ≤ k ∧ k ≤ 2147483647) (hwh : -2147483648 ≤ wh ∧ wh ≤ 2147483647) : wJ (pe_GA xs) wY0 M d t_M_told ((pe_at t_M_told.bl 0).getD (0, [])).2 [(0, (2, 237)), (1, (0, k)), (2, (1, b)), (4, (0, wh))] [] S (fun o Z => S = Z ∧ o = .inl (some (1, tdV v wh))) := by
  obtain ⟨h1, h2, h3⟩ := h
  by_cases c : v.1 = 3
  · obtain ⟨-, s0, s1, -⟩ := h3 c
    have hk3 : k = 3 := h1.trans c
    rw [hk3]
    exact mtt hM c (by omega) s1 hwh
  · exact mtn hM c h1 (h2 c).1 h0 hwh hk
theorem mre (hM : w_ML S) (k0 : rTk 0 S K0) (k1 : rTk 1 S K1) (h19 : S 237 19 ≤ 4000) (h102 : S 237 102 ≤ 12000) (h00 : K0.2.2.2.2.1 = 0 → K0.2.2.2.2.2.1 = 0) (h01 : K1.2.2.2.2.1 = 0 → K1.2.2.2.2.2.1 = 0) (ht : -2147483648 ≤ t ∧ t ≤ 2147483647) (hwh : -2147483648 ≤ wh ∧ wh ≤ 2147483647) (hrk : ∀ t : Int, 0 ≤ t → t ≤ 1 → -2147483648 ≤ S 361 t ∧ S 361 t ≤ 2147483647) : wJ (pe_GA xs) wY0 M (d + 1) t_M_result ((pe_at t_M_result.bl 0).getD (0, [])).2 [(0, (2, 237)), (1, (0, t)), (2, (0, wh))] [] S (fun o Z => (¬ (0 ≤ t ∧ t < 2 ∧ 0 ≤ wh ∧ wh ≤ 1) ∧ w_up S 237 0 1 = Z ∧ o = .inl (some (1, 0))) ∨ ((0 ≤ t ∧ t < 2 ∧ 0 ≤ wh ∧ wh ≤ 1) ∧ ¬ tkE (tkq K0 K1 t) ∧ w_up S 237 0 2 = Z ∧ o = .inl (some (1, 0))) ∨ ((0 ≤ t ∧ t < 2 ∧ 0 ≤ wh ∧ wh ≤ 1) ∧ tkE (tkq K0 K1 t) ∧ w_up S 237 0 0 = Z ∧ o = .inl (some (1, tdV (tkq K0 K1 t).2.2.2.2 wh)))) := by
  refine wa_iload_n (n := 1) rfl ?_
  refine wa_i2l (w_rg0 (by omega) (by omega)) ?_
  refine wa_lconst ?_
  refine wa_lconst ?_
  refine wa_cs (M2 := fun _ => False) rfl at_M_in ⟨_, rfl⟩ rfl rfl ⟨(Or.inr ⟨wy_pr rfl, fun q => q⟩), trivial, trivial, trivial⟩ trivial (fun _ _ q => False.elim q) (in_ok (S := S) (a := t) (lo := 0) (hi := 1) ⟨by omega, by omega⟩ ⟨by omega, by omega⟩ ⟨by omega, by omega⟩) (fun oq2 Sq2 hp3 q2 => ?_)
  rcases q2 with ⟨rfl, ⟨rfl, hin1⟩ | ⟨rfl, hin1⟩⟩
  · skip
    show wJ _ _ _ _ _ _ _ _ _ _
    refine wa_ifeq (w_rg0 (by omega) (by omega)) ⟨_, rfl⟩ (fun c4 => ?_) (fun c4 => ?_)
    · skip
      exact absurd c4 (by omega)
    · skip
      refine wa_iload_n (n := 2) rfl ?_
      refine wa_i2l (w_rg0 (by omega) (by omega)) ?_
      refine wa_lconst ?_
      refine wa_lconst ?_
      refine wa_cs (M2 := fun _ => False) rfl at_M_in ⟨_, rfl⟩ rfl rfl ⟨(Or.inr ⟨wy_pr rfl, fun q => q⟩), trivial, trivial, trivial⟩ trivial (fun _ _ q => False.elim q) (in_ok (S := S) (a := wh) (lo := 0) (hi := 1) ⟨by omega, by omega⟩ ⟨by omega, by omega⟩ ⟨by omega, by omega⟩) (fun oq6 Sq6 hp7 q6 => ?_)
      rcases q6 with ⟨rfl, ⟨rfl, hin5⟩ | ⟨rfl, hin5⟩⟩
      · skip
        show wJ _ _ _ _ _ _ _ _ _ _
        refine wa_ifne (w_rg0 (by omega) (by omega)) ⟨_, rfl⟩ (fun c8 => ?_) (fun c8 => ?_)
        · skip
          rcases (show t = 0 ∨ t = 1 by omega) with e | e
          · subst e
            have hst : S 357 0 = K0.2.2.2.1 := k0.2.2.2.1
            have hrk1 := hrk 0 (by omega) (by omega)
            have hval := k0.2.2.2.2
            refine wa_aload_n (n := 0) rfl ?_
            refine wa_aload_n (n := 0) rfl ?_
            refine wb_gf4 237 rfl (wy_pr rfl) wt_237 wf_15_132 (v := 357) wl_237_132 ?_
            refine wa_iload_n (n := 1) rfl ?_
            refine wb_iald 357 rfl (wy_pr rfl) wt_357 (n := 2) ((ml_357 hM)) (by omega) (by omega) (v := (S 357 0)) rfl (fun r9 => ?_)
            refine wa_iconst ?_
            refine wa_icmpeq (w_rg0 (by omega) (by omega)) (w_rg0 (by omega) (by omega)) ⟨_, rfl⟩ (fun c10 => ?_) (fun c10 => ?_)
            · skip
              refine wa_iconst ?_
              refine wa_goto ⟨_, rfl⟩ ?_
              refine wb_pfi 237 rfl (wy_pr rfl) wt_237 wf_15_0 (n := 0) rfl ⟨(by omega), (by omega)⟩ ?_
              refine wa_aload_n (n := 0) rfl ?_
              refine wb_gfi 237 rfl (wy_pr rfl) wt_237 wf_15_0 (v := 0) (w_up_same _ _ _ _) (fun r11 => ?_)
              refine wa_ifle (w_rg0 (by omega) (by omega)) ⟨_, rfl⟩ (fun c12 => ?_) (fun c12 => ?_)
              · skip
                refine wa_aload_n (n := 0) rfl ?_
                refine wa_aload_n (n := 0) rfl ?_
                refine wb_gf4 237 rfl (wy_pr rfl) wt_237 wf_15_136 (v := 361) wl_237_136 ?_
                refine wa_iload_n (n := 1) rfl ?_
                refine wb_iald 361 rfl (wy_pr rfl) wt_361 (n := 2) ((w_up_slot (by decide)).trans ((ml_361 hM))) (by omega) (by omega) (v := (S 361 0)) (w_up_slot (by decide)) (fun r13 => ?_)
                refine wa_aload_n (n := 0) rfl ?_
                refine wb_gf4 237 rfl (wy_pr rfl) wt_237 wf_15_137 (v := 362) wl_237_137 ?_
                refine wa_iload_n (n := 1) rfl ?_
                refine wb_lald 362 rfl (wy_pr rfl) wt_362 (n := 2) ((w_up_slot (by decide)).trans ((ml_362 hM))) (by omega) (by omega) (v := (S 362 0)) (w_up_slot (by decide)) (fun r14 => ?_)
                refine wa_iload_n (n := 2) rfl ?_
                refine wa_cv 237 rfl (wy_pr rfl) wt_237 (M2 := fun _ => False) rfl at_M_told ⟨_, rfl⟩ rfl rfl ⟨(Or.inr ⟨wy_pr rfl, fun q => q⟩), trivial, trivial, trivial⟩ trivial (fun _ _ q => False.elim q) (mto (S := (w_up S 237 0 0)) (k := S 361 0) (b := S 362 0) (v := K0.2.2.2.2) (wh := wh) (w_ML_up hM (by decide)) (rVl_mo (hval (by omega)) rTx_rfl) h00 h19 h102 hrk1 (by omega)) (fun oq15 Sq15 hp16 q15 => ?_)
                rcases q15 with ⟨rfl, rfl⟩
                show wJ _ _ _ _ _ _ _ _ _ _
                refine wa_fall ⟨_, rfl⟩ ?_
                refine wa_lreturn rfl ?_
                refine Or.inr (Or.inr ⟨⟨by omega, by omega, by omega, by omega⟩, ?_, rfl, ?_⟩)
                · unfold tkE; rw [show tkq K0 K1 0 = K0 from if_pos rfl]; omega
                · rw [show tkq K0 K1 0 = K0 from if_pos rfl]
              · skip
                exact absurd c12 (by omega)
            · skip
              refine wa_aload_n (n := 0) rfl ?_
              refine wb_gf4 237 rfl (wy_pr rfl) wt_237 wf_15_132 (v := 357) wl_237_132 ?_
              refine wa_iload_n (n := 1) rfl ?_
              refine wb_iald 357 rfl (wy_pr rfl) wt_357 (n := 2) ((ml_357 hM)) (by omega) (by omega) (v := (S 357 0)) rfl (fun r17 => ?_)
              refine wa_iconst ?_
              refine wa_icmpne (w_rg0 (by omega) (by omega)) (w_rg0 (by omega) (by omega)) ⟨_, rfl⟩ (fun c18 => ?_) (fun c18 => ?_)
              · skip
                refine wa_iconst ?_
                refine wa_fall ⟨_, rfl⟩ ?_
                refine wb_pfi 237 rfl (wy_pr rfl) wt_237 wf_15_0 (n := 0) rfl ⟨(by omega), (by omega)⟩ ?_
                refine wa_aload_n (n := 0) rfl ?_
                refine wb_gfi 237 rfl (wy_pr rfl) wt_237 wf_15_0 (v := 2) (w_up_same _ _ _ _) (fun r19 => ?_)
                refine wa_ifle (w_rg0 (by omega) (by omega)) ⟨_, rfl⟩ (fun c20 => ?_) (fun c20 => ?_)
                · skip
                  exact absurd c20 (by omega)
                · skip
                  refine wa_lconst ?_
                  refine wa_goto ⟨_, rfl⟩ ?_
                  refine wa_lreturn rfl ?_
                  refine Or.inr (Or.inl ⟨⟨by omega, by omega, by omega, by omega⟩, fun z => ?_, rfl, rfl⟩)
                  unfold tkE at z
                  rw [show tkq K0 K1 0 = K0 from if_pos rfl] at z; omega
              · skip
                refine wa_fall ⟨_, rfl⟩ ?_
                refine wa_iconst ?_
                refine wa_goto ⟨_, rfl⟩ ?_
                refine wb_pfi 237 rfl (wy_pr rfl) wt_237 wf_15_0 (n := 0) rfl ⟨(by omega), (by omega)⟩ ?_
                refine wa_aload_n (n := 0) rfl ?_
                refine wb_gfi 237 rfl (wy_pr rfl) wt_237 wf_15_0 (v := 0) (w_up_same _ _ _ _) (fun r21 => ?_)
                refine wa_ifle (w_rg0 (by omega) (by omega)) ⟨_, rfl⟩ (fun c22 => ?_) (fun c22 => ?_)
                · skip
                  refine wa_aload_n (n := 0) rfl ?_
                  refine wa_aload_n (n := 0) rfl ?_
                  refine wb_gf4 237 rfl (wy_pr rfl) wt_237 wf_15_136 (v := 361) wl_237_136 ?_
                  refine wa_iload_n (n := 1) rfl ?_
                  refine wb_iald 361 rfl (wy_pr rfl) wt_361 (n := 2) ((w_up_slot (by decide)).trans ((ml_361 hM))) (by omega) (by omega) (v := (S 361 0)) (w_up_slot (by decide)) (fun r23 => ?_)
                  refine wa_aload_n (n := 0) rfl ?_
                  refine wb_gf4 237 rfl (wy_pr rfl) wt_237 wf_15_137 (v := 362) wl_237_137 ?_
                  refine wa_iload_n (n := 1) rfl ?_
                  refine wb_lald 362 rfl (wy_pr rfl) wt_362 (n := 2) ((w_up_slot (by decide)).trans ((ml_362 hM))) (by omega) (by omega) (v := (S 362 0)) (w_up_slot (by decide)) (fun r24 => ?_)
                  refine wa_iload_n (n := 2) rfl ?_
                  refine wa_cv 237 rfl (wy_pr rfl) wt_237 (M2 := fun _ => False) rfl at_M_told ⟨_, rfl⟩ rfl rfl ⟨(Or.inr ⟨wy_pr rfl, fun q => q⟩), trivial, trivial, trivial⟩ trivial (fun _ _ q => False.elim q) (mto (S := (w_up S 237 0 0)) (k := S 361 0) (b := S 362 0) (v := K0.2.2.2.2) (wh := wh) (w_ML_up hM (by decide)) (rVl_mo (hval (by omega)) rTx_rfl) h00 h19 h102 hrk1 (by omega)) (fun oq25 Sq25 hp26 q25 => ?_)
                  rcases q25 with ⟨rfl, rfl⟩
                  show wJ _ _ _ _ _ _ _ _ _ _
                  refine wa_fall ⟨_, rfl⟩ ?_
                  refine wa_lreturn rfl ?_
                  refine Or.inr (Or.inr ⟨⟨by omega, by omega, by omega, by omega⟩, ?_, rfl, ?_⟩)
                  · unfold tkE; rw [show tkq K0 K1 0 = K0 from if_pos rfl]; omega
                  · rw [show tkq K0 K1 0 = K0 from if_pos rfl]
                · skip
                  exact absurd c22 (by omega)
          · subst e
            have hst : S 357 1 = K1.2.2.2.1 := k1.2.2.2.1
            have hrk1 := hrk 1 (by omega) (by omega)
            have hval := k1.2.2.2.2
            refine wa_aload_n (n := 0) rfl ?_
            refine wa_aload_n (n := 0) rfl ?_
            refine wb_gf4 237 rfl (wy_pr rfl) wt_237 wf_15_132 (v := 357) wl_237_132 ?_
            refine wa_iload_n (n := 1) rfl ?_
            refine wb_iald 357 rfl (wy_pr rfl) wt_357 (n := 2) ((ml_357 hM)) (by omega) (by omega) (v := (S 357 1)) rfl (fun r27 => ?_)
            refine wa_iconst ?_
            refine wa_icmpeq (w_rg0 (by omega) (by omega)) (w_rg0 (by omega) (by omega)) ⟨_, rfl⟩ (fun c28 => ?_) (fun c28 => ?_)
            · skip
              refine wa_iconst ?_
              refine wa_goto ⟨_, rfl⟩ ?_
              refine wb_pfi 237 rfl (wy_pr rfl) wt_237 wf_15_0 (n := 0) rfl ⟨(by omega), (by omega)⟩ ?_
              refine wa_aload_n (n := 0) rfl ?_
              refine wb_gfi 237 rfl (wy_pr rfl) wt_237 wf_15_0 (v := 0) (w_up_same _ _ _ _) (fun r29 => ?_)
              refine wa_ifle (w_rg0 (by omega) (by omega)) ⟨_, rfl⟩ (fun c30 => ?_) (fun c30 => ?_)
              · skip
                refine wa_aload_n (n := 0) rfl ?_
                refine wa_aload_n (n := 0) rfl ?_
                refine wb_gf4 237 rfl (wy_pr rfl) wt_237 wf_15_136 (v := 361) wl_237_136 ?_
                refine wa_iload_n (n := 1) rfl ?_
                refine wb_iald 361 rfl (wy_pr rfl) wt_361 (n := 2) ((w_up_slot (by decide)).trans ((ml_361 hM))) (by omega) (by omega) (v := (S 361 1)) (w_up_slot (by decide)) (fun r31 => ?_)
                refine wa_aload_n (n := 0) rfl ?_
                refine wb_gf4 237 rfl (wy_pr rfl) wt_237 wf_15_137 (v := 362) wl_237_137 ?_
                refine wa_iload_n (n := 1) rfl ?_
                refine wb_lald 362 rfl (wy_pr rfl) wt_362 (n := 2) ((w_up_slot (by decide)).trans ((ml_362 hM))) (by omega) (by omega) (v := (S 362 1)) (w_up_slot (by decide)) (fun r32 => ?_)
                refine wa_iload_n (n := 2) rfl ?_
                refine wa_cv 237 rfl (wy_pr rfl) wt_237 (M2 := fun _ => False) rfl at_M_told ⟨_, rfl⟩ rfl rfl ⟨(Or.inr ⟨wy_pr rfl, fun q => q⟩), trivial, trivial, trivial⟩ trivial (fun _ _ q => False.elim q) (mto (S := (w_up S 237 0 0)) (k := S 361 1) (b := S 362 1) (v := K1.2.2.2.2) (wh := wh) (w_ML_up hM (by decide)) (rVl_mo (hval (by omega)) rTx_rfl) h01 h19 h102 hrk1 (by omega)) (fun oq33 Sq33 hp34 q33 => ?_)
                rcases q33 with ⟨rfl, rfl⟩
                show wJ _ _ _ _ _ _ _ _ _ _
                refine wa_fall ⟨_, rfl⟩ ?_
                refine wa_lreturn rfl ?_
                refine Or.inr (Or.inr ⟨⟨by omega, by omega, by omega, by omega⟩, ?_, rfl, ?_⟩)
                · unfold tkE; rw [show tkq K0 K1 1 = K1 from if_neg (by first | decide | omega)]; omega
                · rw [show tkq K0 K1 1 = K1 from if_neg (by first | decide | omega)]
              · skip
                exact absurd c30 (by omega)
            · skip
              refine wa_aload_n (n := 0) rfl ?_
              refine wb_gf4 237 rfl (wy_pr rfl) wt_237 wf_15_132 (v := 357) wl_237_132 ?_
              refine wa_iload_n (n := 1) rfl ?_
              refine wb_iald 357 rfl (wy_pr rfl) wt_357 (n := 2) ((ml_357 hM)) (by omega) (by omega) (v := (S 357 1)) rfl (fun r35 => ?_)
              refine wa_iconst ?_
              refine wa_icmpne (w_rg0 (by omega) (by omega)) (w_rg0 (by omega) (by omega)) ⟨_, rfl⟩ (fun c36 => ?_) (fun c36 => ?_)
              · skip
                refine wa_iconst ?_
                refine wa_fall ⟨_, rfl⟩ ?_
                refine wb_pfi 237 rfl (wy_pr rfl) wt_237 wf_15_0 (n := 0) rfl ⟨(by omega), (by omega)⟩ ?_
                refine wa_aload_n (n := 0) rfl ?_
                refine wb_gfi 237 rfl (wy_pr rfl) wt_237 wf_15_0 (v := 2) (w_up_same _ _ _ _) (fun r37 => ?_)
                refine wa_ifle (w_rg0 (by omega) (by omega)) ⟨_, rfl⟩ (fun c38 => ?_) (fun c38 => ?_)
                · skip
                  exact absurd c38 (by omega)
                · skip
                  refine wa_lconst ?_
                  refine wa_goto ⟨_, rfl⟩ ?_
                  refine wa_lreturn rfl ?_
                  refine Or.inr (Or.inl ⟨⟨by omega, by omega, by omega, by omega⟩, fun z => ?_, rfl, rfl⟩)
                  unfold tkE at z
                  rw [show tkq K0 K1 1 = K1 from if_neg (by first | decide | omega)] at z; omega
              · skip
                refine wa_fall ⟨_, rfl⟩ ?_
                refine wa_iconst ?_
                refine wa_goto ⟨_, rfl⟩ ?_
                refine wb_pfi 237 rfl (wy_pr rfl) wt_237 wf_15_0 (n := 0) rfl ⟨(by omega), (by omega)⟩ ?_
                refine wa_aload_n (n := 0) rfl ?_
                refine wb_gfi 237 rfl (wy_pr rfl) wt_237 wf_15_0 (v := 0) (w_up_same _ _ _ _) (fun r39 => ?_)
                refine wa_ifle (w_rg0 (by omega) (by omega)) ⟨_, rfl⟩ (fun c40 => ?_) (fun c40 => ?_)
                · skip
                  refine wa_aload_n (n := 0) rfl ?_
                  refine wa_aload_n (n := 0) rfl ?_
                  refine wb_gf4 237 rfl (wy_pr rfl) wt_237 wf_15_136 (v := 361) wl_237_136 ?_
                  refine wa_iload_n (n := 1) rfl ?_
                  refine wb_iald 361 rfl (wy_pr rfl) wt_361 (n := 2) ((w_up_slot (by decide)).trans ((ml_361 hM))) (by omega) (by omega) (v := (S 361 1)) (w_up_slot (by decide)) (fun r41 => ?_)
                  refine wa_aload_n (n := 0) rfl ?_
                  refine wb_gf4 237 rfl (wy_pr rfl) wt_237 wf_15_137 (v := 362) wl_237_137 ?_
                  refine wa_iload_n (n := 1) rfl ?_
                  refine wb_lald 362 rfl (wy_pr rfl) wt_362 (n := 2) ((w_up_slot (by decide)).trans ((ml_362 hM))) (by omega) (by omega) (v := (S 362 1)) (w_up_slot (by decide)) (fun r42 => ?_)
                  refine wa_iload_n (n := 2) rfl ?_
                  refine wa_cv 237 rfl (wy_pr rfl) wt_237 (M2 := fun _ => False) rfl at_M_told ⟨_, rfl⟩ rfl rfl ⟨(Or.inr ⟨wy_pr rfl, fun q => q⟩), trivial, trivial, trivial⟩ trivial (fun _ _ q => False.elim q) (mto (S := (w_up S 237 0 0)) (k := S 361 1) (b := S 362 1) (v := K1.2.2.2.2) (wh := wh) (w_ML_up hM (by decide)) (rVl_mo (hval (by omega)) rTx_rfl) h01 h19 h102 hrk1 (by omega)) (fun oq43 Sq43 hp44 q43 => ?_)
                  rcases q43 with ⟨rfl, rfl⟩
                  show wJ _ _ _ _ _ _ _ _ _ _
                  refine wa_fall ⟨_, rfl⟩ ?_
                  refine wa_lreturn rfl ?_
                  refine Or.inr (Or.inr ⟨⟨by omega, by omega, by omega, by omega⟩, ?_, rfl, ?_⟩)
                  · unfold tkE; rw [show tkq K0 K1 1 = K1 from if_neg (by first | decide | omega)]; omega
                  · rw [show tkq K0 K1 1 = K1 from if_neg (by first | decide | omega)]
                · skip
                  exact absurd c40 (by omega)
        · skip
          exact absurd c8 (by omega)
      · skip
        show wJ _ _ _ _ _ _ _ _ _ _
        refine wa_ifne (w_rg0 (by omega) (by omega)) ⟨_, rfl⟩ (fun c45 => ?_) (fun c45 => ?_)
        · skip
          exact absurd c45 (by omega)
        · skip
          refine wa_fall ⟨_, rfl⟩ ?_
          refine wa_aload_n (n := 0) rfl ?_
          refine wa_iconst ?_
          refine wb_pfi 237 rfl (wy_pr rfl) wt_237 wf_15_0 (n := 0) rfl ⟨(by omega), (by omega)⟩ ?_
          refine wa_lconst ?_
          refine wa_lreturn rfl ?_
          exact Or.inl ⟨by omega, rfl, rfl⟩
  · skip
    show wJ _ _ _ _ _ _ _ _ _ _
    refine wa_ifeq (w_rg0 (by omega) (by omega)) ⟨_, rfl⟩ (fun c46 => ?_) (fun c46 => ?_)
    · skip
      refine wa_aload_n (n := 0) rfl ?_
      refine wa_iconst ?_
      refine wb_pfi 237 rfl (wy_pr rfl) wt_237 wf_15_0 (n := 0) rfl ⟨(by omega), (by omega)⟩ ?_
      refine wa_lconst ?_
      refine wa_lreturn rfl ?_
      exact Or.inl ⟨by omega, rfl, rfl⟩
    · skip
      exact absurd c46 (by omega)
theorem msg (hM : w_ML S) (k0 : rTk 0 S K0) (k1 : rTk 1 S K1) (h19 : S 237 19 ≤ 4000) (h102 : S 237 102 ≤ 12000) (hfr : ∀ x : Int, 0 ≤ x → x < 16000 → 0 ≤ S 284 x ∧ S 284 x + S 285 x ≤ 269632) (ht : -2147483648 ≤ t ∧ t ≤ 2147483647) (hi : -2147483648 ≤ i ∧ i ≤ 2147483647) (hrk : ∀ t : Int, 0 ≤ t → t ≤ 1 → -2147483648 ≤ S 361 t ∧ S 361 t ≤ 2147483647) : wJ (pe_GA xs) wY0 M (d + 1) t_M_sign ((pe_at t_M_sign.bl 0).getD (0, [])).2 [(0, (2, 237)), (1, (0, t)), (2, (0, i))] [] S (fun o Z => w_up S 237 0 0 = Z ∧ o = .inl (some (0, if 0 ≤ t ∧ t < 2 then sgW (tkq K0 K1 t) i else -1))) := by
  rcases (show t = 0 ∨ t = 1 ∨ (t < 0 ∨ 1 < t) by omega) with e | e | e
  · subst e
    have hst : S 357 0 = K0.2.2.2.1 := k0.2.2.2.1
    have hrk1 := hrk 0 (by omega) (by omega)
    have hval := k0.2.2.2.2
    refine wa_aload_n (n := 0) rfl ?_
    refine wa_iconst ?_
    refine wb_pfi 237 rfl (wy_pr rfl) wt_237 wf_15_0 (n := 0) rfl ⟨(by omega), (by omega)⟩ ?_
    refine wa_iload_n (n := 1) rfl ?_
    refine wa_i2l (w_rg0 (by omega) (by omega)) ?_
    refine wa_lconst ?_
    refine wa_lconst ?_
    refine wa_cs (M2 := fun _ => False) rfl at_M_in ⟨_, rfl⟩ rfl rfl ⟨(Or.inr ⟨wy_pr rfl, fun q => q⟩), trivial, trivial, trivial⟩ trivial (fun _ _ q => False.elim q) (in_ok (S := (w_up S 237 0 0)) (a := 0) (lo := 0) (hi := 1) ⟨by omega, by omega⟩ ⟨by omega, by omega⟩ ⟨by omega, by omega⟩) (fun oq2 Sq2 hp3 q2 => ?_)
    rcases q2 with ⟨rfl, ⟨rfl, hin1⟩ | ⟨rfl, hin1⟩⟩
    · skip
      show wJ _ _ _ _ _ _ _ _ _ _
      refine wa_ifeq (w_rg0 (by omega) (by omega)) ⟨_, rfl⟩ (fun c4 => ?_) (fun c4 => ?_)
      · skip
        exact absurd c4 (by omega)
      · skip
        refine wa_aload_n (n := 0) rfl ?_
        refine wb_gf4 237 rfl (wy_pr rfl) wt_237 wf_15_132 (v := 357) wl_237_132 ?_
        refine wa_iload_n (n := 1) rfl ?_
        refine wb_iald 357 rfl (wy_pr rfl) wt_357 (n := 2) ((w_up_slot (by decide)).trans ((ml_357 hM))) (by omega) (by omega) (v := (S 357 0)) (w_up_slot (by decide)) (fun r5 => ?_)
        refine wa_iconst ?_
        refine wa_icmpeq (w_rg0 (by omega) (by omega)) (w_rg0 (by omega) (by omega)) ⟨_, rfl⟩ (fun c6 => ?_) (fun c6 => ?_)
        · skip
          refine wa_aload_n (n := 0) rfl ?_
          refine wb_gf4 237 rfl (wy_pr rfl) wt_237 wf_15_136 (v := 361) wl_237_136 ?_
          refine wa_iload_n (n := 1) rfl ?_
          refine wa_i2l (w_rg0 (by omega) (by omega)) ?_
          refine wa_lconst ?_
          refine wa_lconst ?_
          refine wa_cs (M2 := fun _ => False) rfl at_M_in ⟨_, rfl⟩ rfl rfl ⟨(Or.inr ⟨wy_pr rfl, fun q => q⟩), trivial, trivial, trivial⟩ ⟨(Or.inr ⟨wy_pr rfl, fun q => q⟩), trivial⟩ (fun _ _ q => False.elim q) (in_ok (S := (w_up S 237 0 0)) (a := 0) (lo := 0) (hi := 1) ⟨by omega, by omega⟩ ⟨by omega, by omega⟩ ⟨by omega, by omega⟩) (fun oq8 Sq8 hp9 q8 => ?_)
          rcases q8 with ⟨rfl, ⟨rfl, hin7⟩ | ⟨rfl, hin7⟩⟩
          · skip
            show wJ _ _ _ _ _ _ _ _ _ _
            refine wa_ifeq (w_rg0 (by omega) (by omega)) ⟨_, rfl⟩ (fun c10 => ?_) (fun c10 => ?_)
            · skip
              exact absurd c10 (by omega)
            · skip
              refine wa_iload_n (n := 1) rfl ?_
              refine wa_goto ⟨_, rfl⟩ ?_
              refine wb_iald 361 rfl (wy_pr rfl) wt_361 (n := 2) ((w_up_slot (by decide)).trans ((ml_361 hM))) (by omega) (by omega) (v := (S 361 0)) (w_up_slot (by decide)) (fun r11 => ?_)
              refine wa_iconst ?_
              refine wa_icmpne (w_rg0 (by omega) (by omega)) (w_rg0 (by omega) (by omega)) ⟨_, rfl⟩ (fun c12 => ?_) (fun c12 => ?_)
              · skip
                refine wa_iconst ?_
                refine wa_fall ⟨_, rfl⟩ ?_
                refine wa_istore_n (n := 3) rfl ?_
                refine wa_iload_n (n := 3) rfl ?_
                refine wa_ifeq (w_rg0 (by omega) (by omega)) ⟨_, rfl⟩ (fun c13 => ?_) (fun c13 => ?_)
                · skip
                  refine wa_iconst ?_
                  refine wa_fall ⟨_, rfl⟩ ?_
                  refine wa_istore (n := 4) rfl ?_
                  refine wa_iload_n (n := 3) rfl ?_
                  refine wa_ifeq (w_rg0 (by omega) (by omega)) ⟨_, rfl⟩ (fun c14 => ?_) (fun c14 => ?_)
                  · skip
                    refine wa_iconst ?_
                    refine wa_fall ⟨_, rfl⟩ ?_
                    refine wa_ireturn rfl ?_
                    refine ⟨rfl, congrArg (fun z => Sum.inl (some (0, z))) ?_⟩
                    rw [if_pos (by omega), show tkq K0 K1 0 = K0 from if_pos rfl]
                    unfold sgW
                    rw [if_neg (fun z => ?_)]
                    first | omega | (have w1 := (hval z.1).1; omega)
                  · skip
                    exact absurd c14 (by omega)
                · skip
                  exact absurd c13 (by omega)
              · skip
                refine wa_iconst ?_
                refine wa_goto ⟨_, rfl⟩ ?_
                refine wa_istore_n (n := 3) rfl ?_
                refine wa_iload_n (n := 3) rfl ?_
                refine wa_ifeq (w_rg0 (by omega) (by omega)) ⟨_, rfl⟩ (fun c15 => ?_) (fun c15 => ?_)
                · skip
                  exact absurd c15 (by omega)
                · skip
                  obtain ⟨v1, v2, v3⟩ := hval (by omega)
                  have v1n : K0.2.2.2.2.1 = 3 := by omega
                  obtain ⟨-, sb, sl, he⟩ := v3 v1n
                  have hbr : 0 ≤ S 362 0 ∧ S 362 0 < 16000 := by omega
                  have hfr1 := hfr (S 362 0) hbr.1 hbr.2
                  refine wa_aload_n (n := 0) rfl ?_
                  refine wb_gf4 237 rfl (wy_pr rfl) wt_237 wf_15_137 (v := 362) wl_237_137 ?_
                  refine wa_iload_n (n := 1) rfl ?_
                  refine wb_lald 362 rfl (wy_pr rfl) wt_362 (n := 2) ((w_up_slot (by decide)).trans ((ml_362 hM))) (by omega) (by omega) (v := (S 362 0)) (w_up_slot (by decide)) (fun r16 => ?_)
                  refine wb_l2i_r (y := (S 362 0)) (wb_l2i_id ⟨by omega, by omega⟩) ?_
                  refine wa_goto ⟨_, rfl⟩ ?_
                  refine wa_istore (n := 4) rfl ?_
                  refine wa_iload_n (n := 3) rfl ?_
                  refine wa_ifeq (w_rg0 (by omega) (by omega)) ⟨_, rfl⟩ (fun c17 => ?_) (fun c17 => ?_)
                  · skip
                    exact absurd c17 (by omega)
                  · skip
                    refine wa_iload_n (n := 2) rfl ?_
                    refine wa_i2l (w_rg0 (by omega) (by omega)) ?_
                    refine wa_lconst ?_
                    refine wa_aload_n (n := 0) rfl ?_
                    refine wb_gf4 237 rfl (wy_pr rfl) wt_237 wf_15_23 (v := 285) wl_237_23 ?_
                    refine wa_iload (n := 4) rfl ?_
                    refine wb_iald 285 rfl (wy_pr rfl) wt_285 (n := 16000) ((w_up_slot (by decide)).trans ((ml_285 hM))) (by omega) (by omega) (v := (S 285 (S 362 0))) (w_up_slot (by decide)) (fun r18 => ?_)
                    refine wa_iconst ?_
                    refine wa_isub ?_
                    refine wa_i2l (w_rg0 (by omega) (by omega)) ?_
                    refine wa_cs (M2 := fun _ => False) rfl at_M_in ⟨_, rfl⟩ rfl rfl ⟨trivial, trivial, (Or.inr ⟨wy_pr rfl, fun q => q⟩), trivial, trivial, trivial⟩ trivial (fun _ _ q => False.elim q) (in_ok (S := (w_up S 237 0 0)) (a := i) (lo := 0) (hi := ((S 285 (S 362 0)) - 1)) ⟨by omega, by omega⟩ ⟨by omega, by omega⟩ ⟨by omega, by omega⟩) (fun oq20 Sq20 hp21 q20 => ?_)
                    rcases q20 with ⟨rfl, ⟨rfl, hin19⟩ | ⟨rfl, hin19⟩⟩
                    · skip
                      show wJ _ _ _ _ _ _ _ _ _ _
                      refine wa_ifeq (w_rg0 (by omega) (by omega)) ⟨_, rfl⟩ (fun c22 => ?_) (fun c22 => ?_)
                      · skip
                        exact absurd c22 (by omega)
                      · skip
                        refine wa_aload_n (n := 0) rfl ?_
                        refine wb_gf4 237 rfl (wy_pr rfl) wt_237 wf_15_21 (v := 283) wl_237_21 ?_
                        refine wa_aload_n (n := 0) rfl ?_
                        refine wb_gf4 237 rfl (wy_pr rfl) wt_237 wf_15_22 (v := 284) wl_237_22 ?_
                        refine wa_iload (n := 4) rfl ?_
                        refine wb_iald 284 rfl (wy_pr rfl) wt_284 (n := 16000) ((w_up_slot (by decide)).trans ((ml_284 hM))) (by omega) (by omega) (v := (S 284 (S 362 0))) (w_up_slot (by decide)) (fun r23 => ?_)
                        refine wa_iload_n (n := 2) rfl ?_
                        refine wa_iadd ?_
                        refine wb_bald 283 rfl (wy_pr rfl) wt_283 (n := 269632) ((w_up_slot (by decide)).trans ((ml_283 hM))) (by omega) (by omega) (v := (S 283 ((S 284 (S 362 0)) + i))) (w_up_slot (by decide)) (fun r24 => ?_)
                        refine wa_goto ⟨_, rfl⟩ ?_
                        refine wa_ireturn rfl ?_
                        refine ⟨rfl, congrArg (fun z => Sum.inl (some (0, z))) ?_⟩
                        rw [if_pos (by omega), show tkq K0 K1 0 = K0 from if_pos rfl]
                        unfold sgW
                        rw [if_pos ⟨by omega, v1n, by omega, by omega⟩]
                        have e1 := he i.toNat (by omega)
                        rw [show ((i.toNat : Nat) : Int) = i by omega] at e1
                        exact e1
                    · skip
                      show wJ _ _ _ _ _ _ _ _ _ _
                      refine wa_ifeq (w_rg0 (by omega) (by omega)) ⟨_, rfl⟩ (fun c25 => ?_) (fun c25 => ?_)
                      · skip
                        refine wa_iconst ?_
                        refine wa_fall ⟨_, rfl⟩ ?_
                        refine wa_ireturn rfl ?_
                        refine ⟨rfl, congrArg (fun z => Sum.inl (some (0, z))) ?_⟩
                        rw [if_pos (by omega), show tkq K0 K1 0 = K0 from if_pos rfl]
                        unfold sgW
                        rw [if_neg (fun z => ?_)]
                        first | omega | (have w1 := (hval z.1).1; omega)
                      · skip
                        exact absurd c25 (by omega)
          · skip
            show wJ _ _ _ _ _ _ _ _ _ _
            refine wa_ifeq (w_rg0 (by omega) (by omega)) ⟨_, rfl⟩ (fun c26 => ?_) (fun c26 => ?_)
            · skip
              refine wa_iconst ?_
              refine wa_fall ⟨_, rfl⟩ ?_
              refine wb_iald 361 rfl (wy_pr rfl) wt_361 (n := 2) ((w_up_slot (by decide)).trans ((ml_361 hM))) (by omega) (by omega) (v := (S 361 0)) (w_up_slot (by decide)) (fun r27 => ?_)
              refine wa_iconst ?_
              refine wa_icmpne (w_rg0 (by omega) (by omega)) (w_rg0 (by omega) (by omega)) ⟨_, rfl⟩ (fun c28 => ?_) (fun c28 => ?_)
              · skip
                refine wa_iconst ?_
                refine wa_fall ⟨_, rfl⟩ ?_
                refine wa_istore_n (n := 3) rfl ?_
                refine wa_iload_n (n := 3) rfl ?_
                refine wa_ifeq (w_rg0 (by omega) (by omega)) ⟨_, rfl⟩ (fun c29 => ?_) (fun c29 => ?_)
                · skip
                  refine wa_iconst ?_
                  refine wa_fall ⟨_, rfl⟩ ?_
                  refine wa_istore (n := 4) rfl ?_
                  refine wa_iload_n (n := 3) rfl ?_
                  refine wa_ifeq (w_rg0 (by omega) (by omega)) ⟨_, rfl⟩ (fun c30 => ?_) (fun c30 => ?_)
                  · skip
                    refine wa_iconst ?_
                    refine wa_fall ⟨_, rfl⟩ ?_
                    refine wa_ireturn rfl ?_
                    refine ⟨rfl, congrArg (fun z => Sum.inl (some (0, z))) ?_⟩
                    rw [if_pos (by omega), show tkq K0 K1 0 = K0 from if_pos rfl]
                    unfold sgW
                    rw [if_neg (fun z => ?_)]
                    first | omega | (have w1 := (hval z.1).1; omega)
                  · skip
                    exact absurd c30 (by omega)
                · skip
                  exact absurd c29 (by omega)
              · skip
                refine wa_iconst ?_
                refine wa_goto ⟨_, rfl⟩ ?_
                refine wa_istore_n (n := 3) rfl ?_
                refine wa_iload_n (n := 3) rfl ?_
                refine wa_ifeq (w_rg0 (by omega) (by omega)) ⟨_, rfl⟩ (fun c31 => ?_) (fun c31 => ?_)
                · skip
                  exact absurd c31 (by omega)
                · skip
                  obtain ⟨v1, v2, v3⟩ := hval (by omega)
                  have v1n : K0.2.2.2.2.1 = 3 := by omega
                  obtain ⟨-, sb, sl, he⟩ := v3 v1n
                  have hbr : 0 ≤ S 362 0 ∧ S 362 0 < 16000 := by omega
                  have hfr1 := hfr (S 362 0) hbr.1 hbr.2
                  refine wa_aload_n (n := 0) rfl ?_
                  refine wb_gf4 237 rfl (wy_pr rfl) wt_237 wf_15_137 (v := 362) wl_237_137 ?_
                  refine wa_iload_n (n := 1) rfl ?_
                  refine wb_lald 362 rfl (wy_pr rfl) wt_362 (n := 2) ((w_up_slot (by decide)).trans ((ml_362 hM))) (by omega) (by omega) (v := (S 362 0)) (w_up_slot (by decide)) (fun r32 => ?_)
                  refine wb_l2i_r (y := (S 362 0)) (wb_l2i_id ⟨by omega, by omega⟩) ?_
                  refine wa_goto ⟨_, rfl⟩ ?_
                  refine wa_istore (n := 4) rfl ?_
                  refine wa_iload_n (n := 3) rfl ?_
                  refine wa_ifeq (w_rg0 (by omega) (by omega)) ⟨_, rfl⟩ (fun c33 => ?_) (fun c33 => ?_)
                  · skip
                    exact absurd c33 (by omega)
                  · skip
                    refine wa_iload_n (n := 2) rfl ?_
                    refine wa_i2l (w_rg0 (by omega) (by omega)) ?_
                    refine wa_lconst ?_
                    refine wa_aload_n (n := 0) rfl ?_
                    refine wb_gf4 237 rfl (wy_pr rfl) wt_237 wf_15_23 (v := 285) wl_237_23 ?_
                    refine wa_iload (n := 4) rfl ?_
                    refine wb_iald 285 rfl (wy_pr rfl) wt_285 (n := 16000) ((w_up_slot (by decide)).trans ((ml_285 hM))) (by omega) (by omega) (v := (S 285 (S 362 0))) (w_up_slot (by decide)) (fun r34 => ?_)
                    refine wa_iconst ?_
                    refine wa_isub ?_
                    refine wa_i2l (w_rg0 (by omega) (by omega)) ?_
                    refine wa_cs (M2 := fun _ => False) rfl at_M_in ⟨_, rfl⟩ rfl rfl ⟨trivial, trivial, (Or.inr ⟨wy_pr rfl, fun q => q⟩), trivial, trivial, trivial⟩ trivial (fun _ _ q => False.elim q) (in_ok (S := (w_up S 237 0 0)) (a := i) (lo := 0) (hi := ((S 285 (S 362 0)) - 1)) ⟨by omega, by omega⟩ ⟨by omega, by omega⟩ ⟨by omega, by omega⟩) (fun oq36 Sq36 hp37 q36 => ?_)
                    rcases q36 with ⟨rfl, ⟨rfl, hin35⟩ | ⟨rfl, hin35⟩⟩
                    · skip
                      show wJ _ _ _ _ _ _ _ _ _ _
                      refine wa_ifeq (w_rg0 (by omega) (by omega)) ⟨_, rfl⟩ (fun c38 => ?_) (fun c38 => ?_)
                      · skip
                        exact absurd c38 (by omega)
                      · skip
                        refine wa_aload_n (n := 0) rfl ?_
                        refine wb_gf4 237 rfl (wy_pr rfl) wt_237 wf_15_21 (v := 283) wl_237_21 ?_
                        refine wa_aload_n (n := 0) rfl ?_
                        refine wb_gf4 237 rfl (wy_pr rfl) wt_237 wf_15_22 (v := 284) wl_237_22 ?_
                        refine wa_iload (n := 4) rfl ?_
                        refine wb_iald 284 rfl (wy_pr rfl) wt_284 (n := 16000) ((w_up_slot (by decide)).trans ((ml_284 hM))) (by omega) (by omega) (v := (S 284 (S 362 0))) (w_up_slot (by decide)) (fun r39 => ?_)
                        refine wa_iload_n (n := 2) rfl ?_
                        refine wa_iadd ?_
                        refine wb_bald 283 rfl (wy_pr rfl) wt_283 (n := 269632) ((w_up_slot (by decide)).trans ((ml_283 hM))) (by omega) (by omega) (v := (S 283 ((S 284 (S 362 0)) + i))) (w_up_slot (by decide)) (fun r40 => ?_)
                        refine wa_goto ⟨_, rfl⟩ ?_
                        refine wa_ireturn rfl ?_
                        refine ⟨rfl, congrArg (fun z => Sum.inl (some (0, z))) ?_⟩
                        rw [if_pos (by omega), show tkq K0 K1 0 = K0 from if_pos rfl]
                        unfold sgW
                        rw [if_pos ⟨by omega, v1n, by omega, by omega⟩]
                        have e1 := he i.toNat (by omega)
                        rw [show ((i.toNat : Nat) : Int) = i by omega] at e1
                        exact e1
                    · skip
                      show wJ _ _ _ _ _ _ _ _ _ _
                      refine wa_ifeq (w_rg0 (by omega) (by omega)) ⟨_, rfl⟩ (fun c41 => ?_) (fun c41 => ?_)
                      · skip
                        refine wa_iconst ?_
                        refine wa_fall ⟨_, rfl⟩ ?_
                        refine wa_ireturn rfl ?_
                        refine ⟨rfl, congrArg (fun z => Sum.inl (some (0, z))) ?_⟩
                        rw [if_pos (by omega), show tkq K0 K1 0 = K0 from if_pos rfl]
                        unfold sgW
                        rw [if_neg (fun z => ?_)]
                        first | omega | (have w1 := (hval z.1).1; omega)
                      · skip
                        exact absurd c41 (by omega)
            · skip
              exact absurd c26 (by omega)
        · skip
          refine wa_aload_n (n := 0) rfl ?_
          refine wb_gf4 237 rfl (wy_pr rfl) wt_237 wf_15_132 (v := 357) wl_237_132 ?_
          refine wa_iload_n (n := 1) rfl ?_
          refine wb_iald 357 rfl (wy_pr rfl) wt_357 (n := 2) ((w_up_slot (by decide)).trans ((ml_357 hM))) (by omega) (by omega) (v := (S 357 0)) (w_up_slot (by decide)) (fun r42 => ?_)
          refine wa_iconst ?_
          refine wa_icmpne (w_rg0 (by omega) (by omega)) (w_rg0 (by omega) (by omega)) ⟨_, rfl⟩ (fun c43 => ?_) (fun c43 => ?_)
          · skip
            refine wa_iconst ?_
            refine wa_fall ⟨_, rfl⟩ ?_
            refine wa_istore_n (n := 3) rfl ?_
            refine wa_iload_n (n := 3) rfl ?_
            refine wa_ifeq (w_rg0 (by omega) (by omega)) ⟨_, rfl⟩ (fun c44 => ?_) (fun c44 => ?_)
            · skip
              refine wa_iconst ?_
              refine wa_fall ⟨_, rfl⟩ ?_
              refine wa_istore (n := 4) rfl ?_
              refine wa_iload_n (n := 3) rfl ?_
              refine wa_ifeq (w_rg0 (by omega) (by omega)) ⟨_, rfl⟩ (fun c45 => ?_) (fun c45 => ?_)
              · skip
                refine wa_iconst ?_
                refine wa_fall ⟨_, rfl⟩ ?_
                refine wa_ireturn rfl ?_
                refine ⟨rfl, congrArg (fun z => Sum.inl (some (0, z))) ?_⟩
                rw [if_pos (by omega), show tkq K0 K1 0 = K0 from if_pos rfl]
                unfold sgW
                rw [if_neg (fun z => ?_)]
                first | omega | (have w1 := (hval z.1).1; omega)
              · skip
                exact absurd c45 (by omega)
            · skip
              exact absurd c44 (by omega)
          · skip
            refine wa_fall ⟨_, rfl⟩ ?_
            refine wa_aload_n (n := 0) rfl ?_
            refine wb_gf4 237 rfl (wy_pr rfl) wt_237 wf_15_136 (v := 361) wl_237_136 ?_
            refine wa_iload_n (n := 1) rfl ?_
            refine wa_i2l (w_rg0 (by omega) (by omega)) ?_
            refine wa_lconst ?_
            refine wa_lconst ?_
            refine wa_cs (M2 := fun _ => False) rfl at_M_in ⟨_, rfl⟩ rfl rfl ⟨(Or.inr ⟨wy_pr rfl, fun q => q⟩), trivial, trivial, trivial⟩ ⟨(Or.inr ⟨wy_pr rfl, fun q => q⟩), trivial⟩ (fun _ _ q => False.elim q) (in_ok (S := (w_up S 237 0 0)) (a := 0) (lo := 0) (hi := 1) ⟨by omega, by omega⟩ ⟨by omega, by omega⟩ ⟨by omega, by omega⟩) (fun oq47 Sq47 hp48 q47 => ?_)
            rcases q47 with ⟨rfl, ⟨rfl, hin46⟩ | ⟨rfl, hin46⟩⟩
            · skip
              show wJ _ _ _ _ _ _ _ _ _ _
              refine wa_ifeq (w_rg0 (by omega) (by omega)) ⟨_, rfl⟩ (fun c49 => ?_) (fun c49 => ?_)
              · skip
                exact absurd c49 (by omega)
              · skip
                refine wa_iload_n (n := 1) rfl ?_
                refine wa_goto ⟨_, rfl⟩ ?_
                refine wb_iald 361 rfl (wy_pr rfl) wt_361 (n := 2) ((w_up_slot (by decide)).trans ((ml_361 hM))) (by omega) (by omega) (v := (S 361 0)) (w_up_slot (by decide)) (fun r50 => ?_)
                refine wa_iconst ?_
                refine wa_icmpne (w_rg0 (by omega) (by omega)) (w_rg0 (by omega) (by omega)) ⟨_, rfl⟩ (fun c51 => ?_) (fun c51 => ?_)
                · skip
                  refine wa_iconst ?_
                  refine wa_fall ⟨_, rfl⟩ ?_
                  refine wa_istore_n (n := 3) rfl ?_
                  refine wa_iload_n (n := 3) rfl ?_
                  refine wa_ifeq (w_rg0 (by omega) (by omega)) ⟨_, rfl⟩ (fun c52 => ?_) (fun c52 => ?_)
                  · skip
                    refine wa_iconst ?_
                    refine wa_fall ⟨_, rfl⟩ ?_
                    refine wa_istore (n := 4) rfl ?_
                    refine wa_iload_n (n := 3) rfl ?_
                    refine wa_ifeq (w_rg0 (by omega) (by omega)) ⟨_, rfl⟩ (fun c53 => ?_) (fun c53 => ?_)
                    · skip
                      refine wa_iconst ?_
                      refine wa_fall ⟨_, rfl⟩ ?_
                      refine wa_ireturn rfl ?_
                      refine ⟨rfl, congrArg (fun z => Sum.inl (some (0, z))) ?_⟩
                      rw [if_pos (by omega), show tkq K0 K1 0 = K0 from if_pos rfl]
                      unfold sgW
                      rw [if_neg (fun z => ?_)]
                      first | omega | (have w1 := (hval z.1).1; omega)
                    · skip
                      exact absurd c53 (by omega)
                  · skip
                    exact absurd c52 (by omega)
                · skip
                  refine wa_iconst ?_
                  refine wa_goto ⟨_, rfl⟩ ?_
                  refine wa_istore_n (n := 3) rfl ?_
                  refine wa_iload_n (n := 3) rfl ?_
                  refine wa_ifeq (w_rg0 (by omega) (by omega)) ⟨_, rfl⟩ (fun c54 => ?_) (fun c54 => ?_)
                  · skip
                    exact absurd c54 (by omega)
                  · skip
                    obtain ⟨v1, v2, v3⟩ := hval (by omega)
                    have v1n : K0.2.2.2.2.1 = 3 := by omega
                    obtain ⟨-, sb, sl, he⟩ := v3 v1n
                    have hbr : 0 ≤ S 362 0 ∧ S 362 0 < 16000 := by omega
                    have hfr1 := hfr (S 362 0) hbr.1 hbr.2
                    refine wa_aload_n (n := 0) rfl ?_
                    refine wb_gf4 237 rfl (wy_pr rfl) wt_237 wf_15_137 (v := 362) wl_237_137 ?_
                    refine wa_iload_n (n := 1) rfl ?_
                    refine wb_lald 362 rfl (wy_pr rfl) wt_362 (n := 2) ((w_up_slot (by decide)).trans ((ml_362 hM))) (by omega) (by omega) (v := (S 362 0)) (w_up_slot (by decide)) (fun r55 => ?_)
                    refine wb_l2i_r (y := (S 362 0)) (wb_l2i_id ⟨by omega, by omega⟩) ?_
                    refine wa_goto ⟨_, rfl⟩ ?_
                    refine wa_istore (n := 4) rfl ?_
                    refine wa_iload_n (n := 3) rfl ?_
                    refine wa_ifeq (w_rg0 (by omega) (by omega)) ⟨_, rfl⟩ (fun c56 => ?_) (fun c56 => ?_)
                    · skip
                      exact absurd c56 (by omega)
                    · skip
                      refine wa_iload_n (n := 2) rfl ?_
                      refine wa_i2l (w_rg0 (by omega) (by omega)) ?_
                      refine wa_lconst ?_
                      refine wa_aload_n (n := 0) rfl ?_
                      refine wb_gf4 237 rfl (wy_pr rfl) wt_237 wf_15_23 (v := 285) wl_237_23 ?_
                      refine wa_iload (n := 4) rfl ?_
                      refine wb_iald 285 rfl (wy_pr rfl) wt_285 (n := 16000) ((w_up_slot (by decide)).trans ((ml_285 hM))) (by omega) (by omega) (v := (S 285 (S 362 0))) (w_up_slot (by decide)) (fun r57 => ?_)
                      refine wa_iconst ?_
                      refine wa_isub ?_
                      refine wa_i2l (w_rg0 (by omega) (by omega)) ?_
                      refine wa_cs (M2 := fun _ => False) rfl at_M_in ⟨_, rfl⟩ rfl rfl ⟨trivial, trivial, (Or.inr ⟨wy_pr rfl, fun q => q⟩), trivial, trivial, trivial⟩ trivial (fun _ _ q => False.elim q) (in_ok (S := (w_up S 237 0 0)) (a := i) (lo := 0) (hi := ((S 285 (S 362 0)) - 1)) ⟨by omega, by omega⟩ ⟨by omega, by omega⟩ ⟨by omega, by omega⟩) (fun oq59 Sq59 hp60 q59 => ?_)
                      rcases q59 with ⟨rfl, ⟨rfl, hin58⟩ | ⟨rfl, hin58⟩⟩
                      · skip
                        show wJ _ _ _ _ _ _ _ _ _ _
                        refine wa_ifeq (w_rg0 (by omega) (by omega)) ⟨_, rfl⟩ (fun c61 => ?_) (fun c61 => ?_)
                        · skip
                          exact absurd c61 (by omega)
                        · skip
                          refine wa_aload_n (n := 0) rfl ?_
                          refine wb_gf4 237 rfl (wy_pr rfl) wt_237 wf_15_21 (v := 283) wl_237_21 ?_
                          refine wa_aload_n (n := 0) rfl ?_
                          refine wb_gf4 237 rfl (wy_pr rfl) wt_237 wf_15_22 (v := 284) wl_237_22 ?_
                          refine wa_iload (n := 4) rfl ?_
                          refine wb_iald 284 rfl (wy_pr rfl) wt_284 (n := 16000) ((w_up_slot (by decide)).trans ((ml_284 hM))) (by omega) (by omega) (v := (S 284 (S 362 0))) (w_up_slot (by decide)) (fun r62 => ?_)
                          refine wa_iload_n (n := 2) rfl ?_
                          refine wa_iadd ?_
                          refine wb_bald 283 rfl (wy_pr rfl) wt_283 (n := 269632) ((w_up_slot (by decide)).trans ((ml_283 hM))) (by omega) (by omega) (v := (S 283 ((S 284 (S 362 0)) + i))) (w_up_slot (by decide)) (fun r63 => ?_)
                          refine wa_goto ⟨_, rfl⟩ ?_
                          refine wa_ireturn rfl ?_
                          refine ⟨rfl, congrArg (fun z => Sum.inl (some (0, z))) ?_⟩
                          rw [if_pos (by omega), show tkq K0 K1 0 = K0 from if_pos rfl]
                          unfold sgW
                          rw [if_pos ⟨by omega, v1n, by omega, by omega⟩]
                          have e1 := he i.toNat (by omega)
                          rw [show ((i.toNat : Nat) : Int) = i by omega] at e1
                          exact e1
                      · skip
                        show wJ _ _ _ _ _ _ _ _ _ _
                        refine wa_ifeq (w_rg0 (by omega) (by omega)) ⟨_, rfl⟩ (fun c64 => ?_) (fun c64 => ?_)
                        · skip
                          refine wa_iconst ?_
                          refine wa_fall ⟨_, rfl⟩ ?_
                          refine wa_ireturn rfl ?_
                          refine ⟨rfl, congrArg (fun z => Sum.inl (some (0, z))) ?_⟩
                          rw [if_pos (by omega), show tkq K0 K1 0 = K0 from if_pos rfl]
                          unfold sgW
                          rw [if_neg (fun z => ?_)]
                          first | omega | (have w1 := (hval z.1).1; omega)
                        · skip
                          exact absurd c64 (by omega)
            · skip
              show wJ _ _ _ _ _ _ _ _ _ _
              refine wa_ifeq (w_rg0 (by omega) (by omega)) ⟨_, rfl⟩ (fun c65 => ?_) (fun c65 => ?_)
              · skip
                refine wa_iconst ?_
                refine wa_fall ⟨_, rfl⟩ ?_
                refine wb_iald 361 rfl (wy_pr rfl) wt_361 (n := 2) ((w_up_slot (by decide)).trans ((ml_361 hM))) (by omega) (by omega) (v := (S 361 0)) (w_up_slot (by decide)) (fun r66 => ?_)
                refine wa_iconst ?_
                refine wa_icmpne (w_rg0 (by omega) (by omega)) (w_rg0 (by omega) (by omega)) ⟨_, rfl⟩ (fun c67 => ?_) (fun c67 => ?_)
                · skip
                  refine wa_iconst ?_
                  refine wa_fall ⟨_, rfl⟩ ?_
                  refine wa_istore_n (n := 3) rfl ?_
                  refine wa_iload_n (n := 3) rfl ?_
                  refine wa_ifeq (w_rg0 (by omega) (by omega)) ⟨_, rfl⟩ (fun c68 => ?_) (fun c68 => ?_)
                  · skip
                    refine wa_iconst ?_
                    refine wa_fall ⟨_, rfl⟩ ?_
                    refine wa_istore (n := 4) rfl ?_
                    refine wa_iload_n (n := 3) rfl ?_
                    refine wa_ifeq (w_rg0 (by omega) (by omega)) ⟨_, rfl⟩ (fun c69 => ?_) (fun c69 => ?_)
                    · skip
                      refine wa_iconst ?_
                      refine wa_fall ⟨_, rfl⟩ ?_
                      refine wa_ireturn rfl ?_
                      refine ⟨rfl, congrArg (fun z => Sum.inl (some (0, z))) ?_⟩
                      rw [if_pos (by omega), show tkq K0 K1 0 = K0 from if_pos rfl]
                      unfold sgW
                      rw [if_neg (fun z => ?_)]
                      first | omega | (have w1 := (hval z.1).1; omega)
                    · skip
                      exact absurd c69 (by omega)
                  · skip
                    exact absurd c68 (by omega)
                · skip
                  refine wa_iconst ?_
                  refine wa_goto ⟨_, rfl⟩ ?_
                  refine wa_istore_n (n := 3) rfl ?_
                  refine wa_iload_n (n := 3) rfl ?_
                  refine wa_ifeq (w_rg0 (by omega) (by omega)) ⟨_, rfl⟩ (fun c70 => ?_) (fun c70 => ?_)
                  · skip
                    exact absurd c70 (by omega)
                  · skip
                    obtain ⟨v1, v2, v3⟩ := hval (by omega)
                    have v1n : K0.2.2.2.2.1 = 3 := by omega
                    obtain ⟨-, sb, sl, he⟩ := v3 v1n
                    have hbr : 0 ≤ S 362 0 ∧ S 362 0 < 16000 := by omega
                    have hfr1 := hfr (S 362 0) hbr.1 hbr.2
                    refine wa_aload_n (n := 0) rfl ?_
                    refine wb_gf4 237 rfl (wy_pr rfl) wt_237 wf_15_137 (v := 362) wl_237_137 ?_
                    refine wa_iload_n (n := 1) rfl ?_
                    refine wb_lald 362 rfl (wy_pr rfl) wt_362 (n := 2) ((w_up_slot (by decide)).trans ((ml_362 hM))) (by omega) (by omega) (v := (S 362 0)) (w_up_slot (by decide)) (fun r71 => ?_)
                    refine wb_l2i_r (y := (S 362 0)) (wb_l2i_id ⟨by omega, by omega⟩) ?_
                    refine wa_goto ⟨_, rfl⟩ ?_
                    refine wa_istore (n := 4) rfl ?_
                    refine wa_iload_n (n := 3) rfl ?_
                    refine wa_ifeq (w_rg0 (by omega) (by omega)) ⟨_, rfl⟩ (fun c72 => ?_) (fun c72 => ?_)
                    · skip
                      exact absurd c72 (by omega)
                    · skip
                      refine wa_iload_n (n := 2) rfl ?_
                      refine wa_i2l (w_rg0 (by omega) (by omega)) ?_
                      refine wa_lconst ?_
                      refine wa_aload_n (n := 0) rfl ?_
                      refine wb_gf4 237 rfl (wy_pr rfl) wt_237 wf_15_23 (v := 285) wl_237_23 ?_
                      refine wa_iload (n := 4) rfl ?_
                      refine wb_iald 285 rfl (wy_pr rfl) wt_285 (n := 16000) ((w_up_slot (by decide)).trans ((ml_285 hM))) (by omega) (by omega) (v := (S 285 (S 362 0))) (w_up_slot (by decide)) (fun r73 => ?_)
                      refine wa_iconst ?_
                      refine wa_isub ?_
                      refine wa_i2l (w_rg0 (by omega) (by omega)) ?_
                      refine wa_cs (M2 := fun _ => False) rfl at_M_in ⟨_, rfl⟩ rfl rfl ⟨trivial, trivial, (Or.inr ⟨wy_pr rfl, fun q => q⟩), trivial, trivial, trivial⟩ trivial (fun _ _ q => False.elim q) (in_ok (S := (w_up S 237 0 0)) (a := i) (lo := 0) (hi := ((S 285 (S 362 0)) - 1)) ⟨by omega, by omega⟩ ⟨by omega, by omega⟩ ⟨by omega, by omega⟩) (fun oq75 Sq75 hp76 q75 => ?_)
                      rcases q75 with ⟨rfl, ⟨rfl, hin74⟩ | ⟨rfl, hin74⟩⟩
                      · skip
                        show wJ _ _ _ _ _ _ _ _ _ _
                        refine wa_ifeq (w_rg0 (by omega) (by omega)) ⟨_, rfl⟩ (fun c77 => ?_) (fun c77 => ?_)
                        · skip
                          exact absurd c77 (by omega)
                        · skip
                          refine wa_aload_n (n := 0) rfl ?_
                          refine wb_gf4 237 rfl (wy_pr rfl) wt_237 wf_15_21 (v := 283) wl_237_21 ?_
                          refine wa_aload_n (n := 0) rfl ?_
                          refine wb_gf4 237 rfl (wy_pr rfl) wt_237 wf_15_22 (v := 284) wl_237_22 ?_
                          refine wa_iload (n := 4) rfl ?_
                          refine wb_iald 284 rfl (wy_pr rfl) wt_284 (n := 16000) ((w_up_slot (by decide)).trans ((ml_284 hM))) (by omega) (by omega) (v := (S 284 (S 362 0))) (w_up_slot (by decide)) (fun r78 => ?_)
                          refine wa_iload_n (n := 2) rfl ?_
                          refine wa_iadd ?_
                          refine wb_bald 283 rfl (wy_pr rfl) wt_283 (n := 269632) ((w_up_slot (by decide)).trans ((ml_283 hM))) (by omega) (by omega) (v := (S 283 ((S 284 (S 362 0)) + i))) (w_up_slot (by decide)) (fun r79 => ?_)
                          refine wa_goto ⟨_, rfl⟩ ?_
                          refine wa_ireturn rfl ?_
                          refine ⟨rfl, congrArg (fun z => Sum.inl (some (0, z))) ?_⟩
                          rw [if_pos (by omega), show tkq K0 K1 0 = K0 from if_pos rfl]
                          unfold sgW
                          rw [if_pos ⟨by omega, v1n, by omega, by omega⟩]
                          have e1 := he i.toNat (by omega)
                          rw [show ((i.toNat : Nat) : Int) = i by omega] at e1
                          exact e1
                      · skip
                        show wJ _ _ _ _ _ _ _ _ _ _
                        refine wa_ifeq (w_rg0 (by omega) (by omega)) ⟨_, rfl⟩ (fun c80 => ?_) (fun c80 => ?_)
                        · skip
                          refine wa_iconst ?_
                          refine wa_fall ⟨_, rfl⟩ ?_
                          refine wa_ireturn rfl ?_
                          refine ⟨rfl, congrArg (fun z => Sum.inl (some (0, z))) ?_⟩
                          rw [if_pos (by omega), show tkq K0 K1 0 = K0 from if_pos rfl]
                          unfold sgW
                          rw [if_neg (fun z => ?_)]
                          first | omega | (have w1 := (hval z.1).1; omega)
                        · skip
                          exact absurd c80 (by omega)
              · skip
                exact absurd c65 (by omega)
    · skip
      show wJ _ _ _ _ _ _ _ _ _ _
      refine wa_ifeq (w_rg0 (by omega) (by omega)) ⟨_, rfl⟩ (fun c81 => ?_) (fun c81 => ?_)
      · skip
        refine wa_iconst ?_
        refine wa_fall ⟨_, rfl⟩ ?_
        refine wa_istore_n (n := 3) rfl ?_
        refine wa_iload_n (n := 3) rfl ?_
        refine wa_ifeq (w_rg0 (by omega) (by omega)) ⟨_, rfl⟩ (fun c82 => ?_) (fun c82 => ?_)
        · skip
          refine wa_iconst ?_
          refine wa_fall ⟨_, rfl⟩ ?_
          refine wa_istore (n := 4) rfl ?_
          refine wa_iload_n (n := 3) rfl ?_
          refine wa_ifeq (w_rg0 (by omega) (by omega)) ⟨_, rfl⟩ (fun c83 => ?_) (fun c83 => ?_)
          · skip
            refine wa_iconst ?_
            refine wa_fall ⟨_, rfl⟩ ?_
            refine wa_ireturn rfl ?_
            refine ⟨rfl, congrArg (fun z => Sum.inl (some (0, z))) ?_⟩
            rw [if_pos (by omega), show tkq K0 K1 0 = K0 from if_pos rfl]
            unfold sgW
            rw [if_neg (fun z => ?_)]
            first | omega | (have w1 := (hval z.1).1; omega)
          · skip
            exact absurd c83 (by omega)
        · skip
          exact absurd c82 (by omega)
      · skip
        exact absurd c81 (by omega)
  · subst e
    have hst : S 357 1 = K1.2.2.2.1 := k1.2.2.2.1
    have hrk1 := hrk 1 (by omega) (by omega)
    have hval := k1.2.2.2.2
    refine wa_aload_n (n := 0) rfl ?_
    refine wa_iconst ?_
    refine wb_pfi 237 rfl (wy_pr rfl) wt_237 wf_15_0 (n := 0) rfl ⟨(by omega), (by omega)⟩ ?_
    refine wa_iload_n (n := 1) rfl ?_
    refine wa_i2l (w_rg0 (by omega) (by omega)) ?_
    refine wa_lconst ?_
    refine wa_lconst ?_
    refine wa_cs (M2 := fun _ => False) rfl at_M_in ⟨_, rfl⟩ rfl rfl ⟨(Or.inr ⟨wy_pr rfl, fun q => q⟩), trivial, trivial, trivial⟩ trivial (fun _ _ q => False.elim q) (in_ok (S := (w_up S 237 0 0)) (a := 1) (lo := 0) (hi := 1) ⟨by omega, by omega⟩ ⟨by omega, by omega⟩ ⟨by omega, by omega⟩) (fun oq202 Sq202 hp203 q202 => ?_)
    rcases q202 with ⟨rfl, ⟨rfl, hin201⟩ | ⟨rfl, hin201⟩⟩
    · skip
      show wJ _ _ _ _ _ _ _ _ _ _
      refine wa_ifeq (w_rg0 (by omega) (by omega)) ⟨_, rfl⟩ (fun c204 => ?_) (fun c204 => ?_)
      · skip
        exact absurd c204 (by omega)
      · skip
        refine wa_aload_n (n := 0) rfl ?_
        refine wb_gf4 237 rfl (wy_pr rfl) wt_237 wf_15_132 (v := 357) wl_237_132 ?_
        refine wa_iload_n (n := 1) rfl ?_
        refine wb_iald 357 rfl (wy_pr rfl) wt_357 (n := 2) ((w_up_slot (by decide)).trans ((ml_357 hM))) (by omega) (by omega) (v := (S 357 1)) (w_up_slot (by decide)) (fun r205 => ?_)
        refine wa_iconst ?_
        refine wa_icmpeq (w_rg0 (by omega) (by omega)) (w_rg0 (by omega) (by omega)) ⟨_, rfl⟩ (fun c206 => ?_) (fun c206 => ?_)
        · skip
          refine wa_aload_n (n := 0) rfl ?_
          refine wb_gf4 237 rfl (wy_pr rfl) wt_237 wf_15_136 (v := 361) wl_237_136 ?_
          refine wa_iload_n (n := 1) rfl ?_
          refine wa_i2l (w_rg0 (by omega) (by omega)) ?_
          refine wa_lconst ?_
          refine wa_lconst ?_
          refine wa_cs (M2 := fun _ => False) rfl at_M_in ⟨_, rfl⟩ rfl rfl ⟨(Or.inr ⟨wy_pr rfl, fun q => q⟩), trivial, trivial, trivial⟩ ⟨(Or.inr ⟨wy_pr rfl, fun q => q⟩), trivial⟩ (fun _ _ q => False.elim q) (in_ok (S := (w_up S 237 0 0)) (a := 1) (lo := 0) (hi := 1) ⟨by omega, by omega⟩ ⟨by omega, by omega⟩ ⟨by omega, by omega⟩) (fun oq208 Sq208 hp209 q208 => ?_)
          rcases q208 with ⟨rfl, ⟨rfl, hin207⟩ | ⟨rfl, hin207⟩⟩
          · skip
            show wJ _ _ _ _ _ _ _ _ _ _
            refine wa_ifeq (w_rg0 (by omega) (by omega)) ⟨_, rfl⟩ (fun c210 => ?_) (fun c210 => ?_)
            · skip
              exact absurd c210 (by omega)
            · skip
              refine wa_iload_n (n := 1) rfl ?_
              refine wa_goto ⟨_, rfl⟩ ?_
              refine wb_iald 361 rfl (wy_pr rfl) wt_361 (n := 2) ((w_up_slot (by decide)).trans ((ml_361 hM))) (by omega) (by omega) (v := (S 361 1)) (w_up_slot (by decide)) (fun r211 => ?_)
              refine wa_iconst ?_
              refine wa_icmpne (w_rg0 (by omega) (by omega)) (w_rg0 (by omega) (by omega)) ⟨_, rfl⟩ (fun c212 => ?_) (fun c212 => ?_)
              · skip
                refine wa_iconst ?_
                refine wa_fall ⟨_, rfl⟩ ?_
                refine wa_istore_n (n := 3) rfl ?_
                refine wa_iload_n (n := 3) rfl ?_
                refine wa_ifeq (w_rg0 (by omega) (by omega)) ⟨_, rfl⟩ (fun c213 => ?_) (fun c213 => ?_)
                · skip
                  refine wa_iconst ?_
                  refine wa_fall ⟨_, rfl⟩ ?_
                  refine wa_istore (n := 4) rfl ?_
                  refine wa_iload_n (n := 3) rfl ?_
                  refine wa_ifeq (w_rg0 (by omega) (by omega)) ⟨_, rfl⟩ (fun c214 => ?_) (fun c214 => ?_)
                  · skip
                    refine wa_iconst ?_
                    refine wa_fall ⟨_, rfl⟩ ?_
                    refine wa_ireturn rfl ?_
                    refine ⟨rfl, congrArg (fun z => Sum.inl (some (0, z))) ?_⟩
                    rw [if_pos (by omega), show tkq K0 K1 1 = K1 from if_neg (by first | decide | omega)]
                    unfold sgW
                    rw [if_neg (fun z => ?_)]
                    first | omega | (have w1 := (hval z.1).1; omega)
                  · skip
                    exact absurd c214 (by omega)
                · skip
                  exact absurd c213 (by omega)
              · skip
                refine wa_iconst ?_
                refine wa_goto ⟨_, rfl⟩ ?_
                refine wa_istore_n (n := 3) rfl ?_
                refine wa_iload_n (n := 3) rfl ?_
                refine wa_ifeq (w_rg0 (by omega) (by omega)) ⟨_, rfl⟩ (fun c215 => ?_) (fun c215 => ?_)
                · skip
                  exact absurd c215 (by omega)
                · skip
                  obtain ⟨v1, v2, v3⟩ := hval (by omega)
                  have v1n : K1.2.2.2.2.1 = 3 := by omega
                  obtain ⟨-, sb, sl, he⟩ := v3 v1n
                  have hbr : 0 ≤ S 362 1 ∧ S 362 1 < 16000 := by omega
                  have hfr1 := hfr (S 362 1) hbr.1 hbr.2
                  refine wa_aload_n (n := 0) rfl ?_
                  refine wb_gf4 237 rfl (wy_pr rfl) wt_237 wf_15_137 (v := 362) wl_237_137 ?_
                  refine wa_iload_n (n := 1) rfl ?_
                  refine wb_lald 362 rfl (wy_pr rfl) wt_362 (n := 2) ((w_up_slot (by decide)).trans ((ml_362 hM))) (by omega) (by omega) (v := (S 362 1)) (w_up_slot (by decide)) (fun r216 => ?_)
                  refine wb_l2i_r (y := (S 362 1)) (wb_l2i_id ⟨by omega, by omega⟩) ?_
                  refine wa_goto ⟨_, rfl⟩ ?_
                  refine wa_istore (n := 4) rfl ?_
                  refine wa_iload_n (n := 3) rfl ?_
                  refine wa_ifeq (w_rg0 (by omega) (by omega)) ⟨_, rfl⟩ (fun c217 => ?_) (fun c217 => ?_)
                  · skip
                    exact absurd c217 (by omega)
                  · skip
                    refine wa_iload_n (n := 2) rfl ?_
                    refine wa_i2l (w_rg0 (by omega) (by omega)) ?_
                    refine wa_lconst ?_
                    refine wa_aload_n (n := 0) rfl ?_
                    refine wb_gf4 237 rfl (wy_pr rfl) wt_237 wf_15_23 (v := 285) wl_237_23 ?_
                    refine wa_iload (n := 4) rfl ?_
                    refine wb_iald 285 rfl (wy_pr rfl) wt_285 (n := 16000) ((w_up_slot (by decide)).trans ((ml_285 hM))) (by omega) (by omega) (v := (S 285 (S 362 1))) (w_up_slot (by decide)) (fun r218 => ?_)
                    refine wa_iconst ?_
                    refine wa_isub ?_
                    refine wa_i2l (w_rg0 (by omega) (by omega)) ?_
                    refine wa_cs (M2 := fun _ => False) rfl at_M_in ⟨_, rfl⟩ rfl rfl ⟨trivial, trivial, (Or.inr ⟨wy_pr rfl, fun q => q⟩), trivial, trivial, trivial⟩ trivial (fun _ _ q => False.elim q) (in_ok (S := (w_up S 237 0 0)) (a := i) (lo := 0) (hi := ((S 285 (S 362 1)) - 1)) ⟨by omega, by omega⟩ ⟨by omega, by omega⟩ ⟨by omega, by omega⟩) (fun oq220 Sq220 hp221 q220 => ?_)
                    rcases q220 with ⟨rfl, ⟨rfl, hin219⟩ | ⟨rfl, hin219⟩⟩
                    · skip
                      show wJ _ _ _ _ _ _ _ _ _ _
                      refine wa_ifeq (w_rg0 (by omega) (by omega)) ⟨_, rfl⟩ (fun c222 => ?_) (fun c222 => ?_)
                      · skip
                        exact absurd c222 (by omega)
                      · skip
                        refine wa_aload_n (n := 0) rfl ?_
                        refine wb_gf4 237 rfl (wy_pr rfl) wt_237 wf_15_21 (v := 283) wl_237_21 ?_
                        refine wa_aload_n (n := 0) rfl ?_
                        refine wb_gf4 237 rfl (wy_pr rfl) wt_237 wf_15_22 (v := 284) wl_237_22 ?_
                        refine wa_iload (n := 4) rfl ?_
                        refine wb_iald 284 rfl (wy_pr rfl) wt_284 (n := 16000) ((w_up_slot (by decide)).trans ((ml_284 hM))) (by omega) (by omega) (v := (S 284 (S 362 1))) (w_up_slot (by decide)) (fun r223 => ?_)
                        refine wa_iload_n (n := 2) rfl ?_
                        refine wa_iadd ?_
                        refine wb_bald 283 rfl (wy_pr rfl) wt_283 (n := 269632) ((w_up_slot (by decide)).trans ((ml_283 hM))) (by omega) (by omega) (v := (S 283 ((S 284 (S 362 1)) + i))) (w_up_slot (by decide)) (fun r224 => ?_)
                        refine wa_goto ⟨_, rfl⟩ ?_
                        refine wa_ireturn rfl ?_
                        refine ⟨rfl, congrArg (fun z => Sum.inl (some (0, z))) ?_⟩
                        rw [if_pos (by omega), show tkq K0 K1 1 = K1 from if_neg (by first | decide | omega)]
                        unfold sgW
                        rw [if_pos ⟨by omega, v1n, by omega, by omega⟩]
                        have e1 := he i.toNat (by omega)
                        rw [show ((i.toNat : Nat) : Int) = i by omega] at e1
                        exact e1
                    · skip
                      show wJ _ _ _ _ _ _ _ _ _ _
                      refine wa_ifeq (w_rg0 (by omega) (by omega)) ⟨_, rfl⟩ (fun c225 => ?_) (fun c225 => ?_)
                      · skip
                        refine wa_iconst ?_
                        refine wa_fall ⟨_, rfl⟩ ?_
                        refine wa_ireturn rfl ?_
                        refine ⟨rfl, congrArg (fun z => Sum.inl (some (0, z))) ?_⟩
                        rw [if_pos (by omega), show tkq K0 K1 1 = K1 from if_neg (by first | decide | omega)]
                        unfold sgW
                        rw [if_neg (fun z => ?_)]
                        first | omega | (have w1 := (hval z.1).1; omega)
                      · skip
                        exact absurd c225 (by omega)
          · skip
            show wJ _ _ _ _ _ _ _ _ _ _
            refine wa_ifeq (w_rg0 (by omega) (by omega)) ⟨_, rfl⟩ (fun c226 => ?_) (fun c226 => ?_)
            · skip
              refine wa_iconst ?_
              refine wa_fall ⟨_, rfl⟩ ?_
              refine wb_iald 361 rfl (wy_pr rfl) wt_361 (n := 2) ((w_up_slot (by decide)).trans ((ml_361 hM))) (by omega) (by omega) (v := (S 361 0)) (w_up_slot (by decide)) (fun r227 => ?_)
              refine wa_iconst ?_
              refine wa_icmpne (w_rg0 (by omega) (by omega)) (w_rg0 (by omega) (by omega)) ⟨_, rfl⟩ (fun c228 => ?_) (fun c228 => ?_)
              · skip
                refine wa_iconst ?_
                refine wa_fall ⟨_, rfl⟩ ?_
                refine wa_istore_n (n := 3) rfl ?_
                refine wa_iload_n (n := 3) rfl ?_
                refine wa_ifeq (w_rg0 (by omega) (by omega)) ⟨_, rfl⟩ (fun c229 => ?_) (fun c229 => ?_)
                · skip
                  refine wa_iconst ?_
                  refine wa_fall ⟨_, rfl⟩ ?_
                  refine wa_istore (n := 4) rfl ?_
                  refine wa_iload_n (n := 3) rfl ?_
                  refine wa_ifeq (w_rg0 (by omega) (by omega)) ⟨_, rfl⟩ (fun c230 => ?_) (fun c230 => ?_)
                  · skip
                    refine wa_iconst ?_
                    refine wa_fall ⟨_, rfl⟩ ?_
                    refine wa_ireturn rfl ?_
                    refine ⟨rfl, congrArg (fun z => Sum.inl (some (0, z))) ?_⟩
                    rw [if_pos (by omega), show tkq K0 K1 1 = K1 from if_neg (by first | decide | omega)]
                    unfold sgW
                    rw [if_neg (fun z => ?_)]
                    first | omega | (have w1 := (hval z.1).1; omega)
                  · skip
                    exact absurd c230 (by omega)
                · skip
                  exact absurd c229 (by omega)
              · skip
                refine wa_iconst ?_
                refine wa_goto ⟨_, rfl⟩ ?_
                refine wa_istore_n (n := 3) rfl ?_
                refine wa_iload_n (n := 3) rfl ?_
                refine wa_ifeq (w_rg0 (by omega) (by omega)) ⟨_, rfl⟩ (fun c231 => ?_) (fun c231 => ?_)
                · skip
                  exact absurd c231 (by omega)
                · skip
                  obtain ⟨v1, v2, v3⟩ := hval (by omega)
                  have v1n : K1.2.2.2.2.1 = 3 := by omega
                  obtain ⟨-, sb, sl, he⟩ := v3 v1n
                  have hbr : 0 ≤ S 362 1 ∧ S 362 1 < 16000 := by omega
                  have hfr1 := hfr (S 362 1) hbr.1 hbr.2
                  refine wa_aload_n (n := 0) rfl ?_
                  refine wb_gf4 237 rfl (wy_pr rfl) wt_237 wf_15_137 (v := 362) wl_237_137 ?_
                  refine wa_iload_n (n := 1) rfl ?_
                  refine wb_lald 362 rfl (wy_pr rfl) wt_362 (n := 2) ((w_up_slot (by decide)).trans ((ml_362 hM))) (by omega) (by omega) (v := (S 362 1)) (w_up_slot (by decide)) (fun r232 => ?_)
                  refine wb_l2i_r (y := (S 362 1)) (wb_l2i_id ⟨by omega, by omega⟩) ?_
                  refine wa_goto ⟨_, rfl⟩ ?_
                  refine wa_istore (n := 4) rfl ?_
                  refine wa_iload_n (n := 3) rfl ?_
                  refine wa_ifeq (w_rg0 (by omega) (by omega)) ⟨_, rfl⟩ (fun c233 => ?_) (fun c233 => ?_)
                  · skip
                    exact absurd c233 (by omega)
                  · skip
                    refine wa_iload_n (n := 2) rfl ?_
                    refine wa_i2l (w_rg0 (by omega) (by omega)) ?_
                    refine wa_lconst ?_
                    refine wa_aload_n (n := 0) rfl ?_
                    refine wb_gf4 237 rfl (wy_pr rfl) wt_237 wf_15_23 (v := 285) wl_237_23 ?_
                    refine wa_iload (n := 4) rfl ?_
                    refine wb_iald 285 rfl (wy_pr rfl) wt_285 (n := 16000) ((w_up_slot (by decide)).trans ((ml_285 hM))) (by omega) (by omega) (v := (S 285 (S 362 1))) (w_up_slot (by decide)) (fun r234 => ?_)
                    refine wa_iconst ?_
                    refine wa_isub ?_
                    refine wa_i2l (w_rg0 (by omega) (by omega)) ?_
                    refine wa_cs (M2 := fun _ => False) rfl at_M_in ⟨_, rfl⟩ rfl rfl ⟨trivial, trivial, (Or.inr ⟨wy_pr rfl, fun q => q⟩), trivial, trivial, trivial⟩ trivial (fun _ _ q => False.elim q) (in_ok (S := (w_up S 237 0 0)) (a := i) (lo := 0) (hi := ((S 285 (S 362 1)) - 1)) ⟨by omega, by omega⟩ ⟨by omega, by omega⟩ ⟨by omega, by omega⟩) (fun oq236 Sq236 hp237 q236 => ?_)
                    rcases q236 with ⟨rfl, ⟨rfl, hin235⟩ | ⟨rfl, hin235⟩⟩
                    · skip
                      show wJ _ _ _ _ _ _ _ _ _ _
                      refine wa_ifeq (w_rg0 (by omega) (by omega)) ⟨_, rfl⟩ (fun c238 => ?_) (fun c238 => ?_)
                      · skip
                        exact absurd c238 (by omega)
                      · skip
                        refine wa_aload_n (n := 0) rfl ?_
                        refine wb_gf4 237 rfl (wy_pr rfl) wt_237 wf_15_21 (v := 283) wl_237_21 ?_
                        refine wa_aload_n (n := 0) rfl ?_
                        refine wb_gf4 237 rfl (wy_pr rfl) wt_237 wf_15_22 (v := 284) wl_237_22 ?_
                        refine wa_iload (n := 4) rfl ?_
                        refine wb_iald 284 rfl (wy_pr rfl) wt_284 (n := 16000) ((w_up_slot (by decide)).trans ((ml_284 hM))) (by omega) (by omega) (v := (S 284 (S 362 1))) (w_up_slot (by decide)) (fun r239 => ?_)
                        refine wa_iload_n (n := 2) rfl ?_
                        refine wa_iadd ?_
                        refine wb_bald 283 rfl (wy_pr rfl) wt_283 (n := 269632) ((w_up_slot (by decide)).trans ((ml_283 hM))) (by omega) (by omega) (v := (S 283 ((S 284 (S 362 1)) + i))) (w_up_slot (by decide)) (fun r240 => ?_)
                        refine wa_goto ⟨_, rfl⟩ ?_
                        refine wa_ireturn rfl ?_
                        refine ⟨rfl, congrArg (fun z => Sum.inl (some (0, z))) ?_⟩
                        rw [if_pos (by omega), show tkq K0 K1 1 = K1 from if_neg (by first | decide | omega)]
                        unfold sgW
                        rw [if_pos ⟨by omega, v1n, by omega, by omega⟩]
                        have e1 := he i.toNat (by omega)
                        rw [show ((i.toNat : Nat) : Int) = i by omega] at e1
                        exact e1
                    · skip
                      show wJ _ _ _ _ _ _ _ _ _ _
                      refine wa_ifeq (w_rg0 (by omega) (by omega)) ⟨_, rfl⟩ (fun c241 => ?_) (fun c241 => ?_)
                      · skip
                        refine wa_iconst ?_
                        refine wa_fall ⟨_, rfl⟩ ?_
                        refine wa_ireturn rfl ?_
                        refine ⟨rfl, congrArg (fun z => Sum.inl (some (0, z))) ?_⟩
                        rw [if_pos (by omega), show tkq K0 K1 1 = K1 from if_neg (by first | decide | omega)]
                        unfold sgW
                        rw [if_neg (fun z => ?_)]
                        first | omega | (have w1 := (hval z.1).1; omega)
                      · skip
                        exact absurd c241 (by omega)
            · skip
              exact absurd c226 (by omega)
        · skip
          refine wa_aload_n (n := 0) rfl ?_
          refine wb_gf4 237 rfl (wy_pr rfl) wt_237 wf_15_132 (v := 357) wl_237_132 ?_
          refine wa_iload_n (n := 1) rfl ?_
          refine wb_iald 357 rfl (wy_pr rfl) wt_357 (n := 2) ((w_up_slot (by decide)).trans ((ml_357 hM))) (by omega) (by omega) (v := (S 357 1)) (w_up_slot (by decide)) (fun r242 => ?_)
          refine wa_iconst ?_
          refine wa_icmpne (w_rg0 (by omega) (by omega)) (w_rg0 (by omega) (by omega)) ⟨_, rfl⟩ (fun c243 => ?_) (fun c243 => ?_)
          · skip
            refine wa_iconst ?_
            refine wa_fall ⟨_, rfl⟩ ?_
            refine wa_istore_n (n := 3) rfl ?_
            refine wa_iload_n (n := 3) rfl ?_
            refine wa_ifeq (w_rg0 (by omega) (by omega)) ⟨_, rfl⟩ (fun c244 => ?_) (fun c244 => ?_)
            · skip
              refine wa_iconst ?_
              refine wa_fall ⟨_, rfl⟩ ?_
              refine wa_istore (n := 4) rfl ?_
              refine wa_iload_n (n := 3) rfl ?_
              refine wa_ifeq (w_rg0 (by omega) (by omega)) ⟨_, rfl⟩ (fun c245 => ?_) (fun c245 => ?_)
              · skip
                refine wa_iconst ?_
                refine wa_fall ⟨_, rfl⟩ ?_
                refine wa_ireturn rfl ?_
                refine ⟨rfl, congrArg (fun z => Sum.inl (some (0, z))) ?_⟩
                rw [if_pos (by omega), show tkq K0 K1 1 = K1 from if_neg (by first | decide | omega)]
                unfold sgW
                rw [if_neg (fun z => ?_)]
                first | omega | (have w1 := (hval z.1).1; omega)
              · skip
                exact absurd c245 (by omega)
            · skip
              exact absurd c244 (by omega)
          · skip
            refine wa_fall ⟨_, rfl⟩ ?_
            refine wa_aload_n (n := 0) rfl ?_
            refine wb_gf4 237 rfl (wy_pr rfl) wt_237 wf_15_136 (v := 361) wl_237_136 ?_
            refine wa_iload_n (n := 1) rfl ?_
            refine wa_i2l (w_rg0 (by omega) (by omega)) ?_
            refine wa_lconst ?_
            refine wa_lconst ?_
            refine wa_cs (M2 := fun _ => False) rfl at_M_in ⟨_, rfl⟩ rfl rfl ⟨(Or.inr ⟨wy_pr rfl, fun q => q⟩), trivial, trivial, trivial⟩ ⟨(Or.inr ⟨wy_pr rfl, fun q => q⟩), trivial⟩ (fun _ _ q => False.elim q) (in_ok (S := (w_up S 237 0 0)) (a := 1) (lo := 0) (hi := 1) ⟨by omega, by omega⟩ ⟨by omega, by omega⟩ ⟨by omega, by omega⟩) (fun oq247 Sq247 hp248 q247 => ?_)
            rcases q247 with ⟨rfl, ⟨rfl, hin246⟩ | ⟨rfl, hin246⟩⟩
            · skip
              show wJ _ _ _ _ _ _ _ _ _ _
              refine wa_ifeq (w_rg0 (by omega) (by omega)) ⟨_, rfl⟩ (fun c249 => ?_) (fun c249 => ?_)
              · skip
                exact absurd c249 (by omega)
              · skip
                refine wa_iload_n (n := 1) rfl ?_
                refine wa_goto ⟨_, rfl⟩ ?_
                refine wb_iald 361 rfl (wy_pr rfl) wt_361 (n := 2) ((w_up_slot (by decide)).trans ((ml_361 hM))) (by omega) (by omega) (v := (S 361 1)) (w_up_slot (by decide)) (fun r250 => ?_)
                refine wa_iconst ?_
                refine wa_icmpne (w_rg0 (by omega) (by omega)) (w_rg0 (by omega) (by omega)) ⟨_, rfl⟩ (fun c251 => ?_) (fun c251 => ?_)
                · skip
                  refine wa_iconst ?_
                  refine wa_fall ⟨_, rfl⟩ ?_
                  refine wa_istore_n (n := 3) rfl ?_
                  refine wa_iload_n (n := 3) rfl ?_
                  refine wa_ifeq (w_rg0 (by omega) (by omega)) ⟨_, rfl⟩ (fun c252 => ?_) (fun c252 => ?_)
                  · skip
                    refine wa_iconst ?_
                    refine wa_fall ⟨_, rfl⟩ ?_
                    refine wa_istore (n := 4) rfl ?_
                    refine wa_iload_n (n := 3) rfl ?_
                    refine wa_ifeq (w_rg0 (by omega) (by omega)) ⟨_, rfl⟩ (fun c253 => ?_) (fun c253 => ?_)
                    · skip
                      refine wa_iconst ?_
                      refine wa_fall ⟨_, rfl⟩ ?_
                      refine wa_ireturn rfl ?_
                      refine ⟨rfl, congrArg (fun z => Sum.inl (some (0, z))) ?_⟩
                      rw [if_pos (by omega), show tkq K0 K1 1 = K1 from if_neg (by first | decide | omega)]
                      unfold sgW
                      rw [if_neg (fun z => ?_)]
                      first | omega | (have w1 := (hval z.1).1; omega)
                    · skip
                      exact absurd c253 (by omega)
                  · skip
                    exact absurd c252 (by omega)
                · skip
                  refine wa_iconst ?_
                  refine wa_goto ⟨_, rfl⟩ ?_
                  refine wa_istore_n (n := 3) rfl ?_
                  refine wa_iload_n (n := 3) rfl ?_
                  refine wa_ifeq (w_rg0 (by omega) (by omega)) ⟨_, rfl⟩ (fun c254 => ?_) (fun c254 => ?_)
                  · skip
                    exact absurd c254 (by omega)
                  · skip
                    obtain ⟨v1, v2, v3⟩ := hval (by omega)
                    have v1n : K1.2.2.2.2.1 = 3 := by omega
                    obtain ⟨-, sb, sl, he⟩ := v3 v1n
                    have hbr : 0 ≤ S 362 1 ∧ S 362 1 < 16000 := by omega
                    have hfr1 := hfr (S 362 1) hbr.1 hbr.2
                    refine wa_aload_n (n := 0) rfl ?_
                    refine wb_gf4 237 rfl (wy_pr rfl) wt_237 wf_15_137 (v := 362) wl_237_137 ?_
                    refine wa_iload_n (n := 1) rfl ?_
                    refine wb_lald 362 rfl (wy_pr rfl) wt_362 (n := 2) ((w_up_slot (by decide)).trans ((ml_362 hM))) (by omega) (by omega) (v := (S 362 1)) (w_up_slot (by decide)) (fun r255 => ?_)
                    refine wb_l2i_r (y := (S 362 1)) (wb_l2i_id ⟨by omega, by omega⟩) ?_
                    refine wa_goto ⟨_, rfl⟩ ?_
                    refine wa_istore (n := 4) rfl ?_
                    refine wa_iload_n (n := 3) rfl ?_
                    refine wa_ifeq (w_rg0 (by omega) (by omega)) ⟨_, rfl⟩ (fun c256 => ?_) (fun c256 => ?_)
                    · skip
                      exact absurd c256 (by omega)
                    · skip
                      refine wa_iload_n (n := 2) rfl ?_
                      refine wa_i2l (w_rg0 (by omega) (by omega)) ?_
                      refine wa_lconst ?_
                      refine wa_aload_n (n := 0) rfl ?_
                      refine wb_gf4 237 rfl (wy_pr rfl) wt_237 wf_15_23 (v := 285) wl_237_23 ?_
                      refine wa_iload (n := 4) rfl ?_
                      refine wb_iald 285 rfl (wy_pr rfl) wt_285 (n := 16000) ((w_up_slot (by decide)).trans ((ml_285 hM))) (by omega) (by omega) (v := (S 285 (S 362 1))) (w_up_slot (by decide)) (fun r257 => ?_)
                      refine wa_iconst ?_
                      refine wa_isub ?_
                      refine wa_i2l (w_rg0 (by omega) (by omega)) ?_
                      refine wa_cs (M2 := fun _ => False) rfl at_M_in ⟨_, rfl⟩ rfl rfl ⟨trivial, trivial, (Or.inr ⟨wy_pr rfl, fun q => q⟩), trivial, trivial, trivial⟩ trivial (fun _ _ q => False.elim q) (in_ok (S := (w_up S 237 0 0)) (a := i) (lo := 0) (hi := ((S 285 (S 362 1)) - 1)) ⟨by omega, by omega⟩ ⟨by omega, by omega⟩ ⟨by omega, by omega⟩) (fun oq259 Sq259 hp260 q259 => ?_)
                      rcases q259 with ⟨rfl, ⟨rfl, hin258⟩ | ⟨rfl, hin258⟩⟩
                      · skip
                        show wJ _ _ _ _ _ _ _ _ _ _
                        refine wa_ifeq (w_rg0 (by omega) (by omega)) ⟨_, rfl⟩ (fun c261 => ?_) (fun c261 => ?_)
                        · skip
                          exact absurd c261 (by omega)
                        · skip
                          refine wa_aload_n (n := 0) rfl ?_
                          refine wb_gf4 237 rfl (wy_pr rfl) wt_237 wf_15_21 (v := 283) wl_237_21 ?_
                          refine wa_aload_n (n := 0) rfl ?_
                          refine wb_gf4 237 rfl (wy_pr rfl) wt_237 wf_15_22 (v := 284) wl_237_22 ?_
                          refine wa_iload (n := 4) rfl ?_
                          refine wb_iald 284 rfl (wy_pr rfl) wt_284 (n := 16000) ((w_up_slot (by decide)).trans ((ml_284 hM))) (by omega) (by omega) (v := (S 284 (S 362 1))) (w_up_slot (by decide)) (fun r262 => ?_)
                          refine wa_iload_n (n := 2) rfl ?_
                          refine wa_iadd ?_
                          refine wb_bald 283 rfl (wy_pr rfl) wt_283 (n := 269632) ((w_up_slot (by decide)).trans ((ml_283 hM))) (by omega) (by omega) (v := (S 283 ((S 284 (S 362 1)) + i))) (w_up_slot (by decide)) (fun r263 => ?_)
                          refine wa_goto ⟨_, rfl⟩ ?_
                          refine wa_ireturn rfl ?_
                          refine ⟨rfl, congrArg (fun z => Sum.inl (some (0, z))) ?_⟩
                          rw [if_pos (by omega), show tkq K0 K1 1 = K1 from if_neg (by first | decide | omega)]
                          unfold sgW
                          rw [if_pos ⟨by omega, v1n, by omega, by omega⟩]
                          have e1 := he i.toNat (by omega)
                          rw [show ((i.toNat : Nat) : Int) = i by omega] at e1
                          exact e1
                      · skip
                        show wJ _ _ _ _ _ _ _ _ _ _
                        refine wa_ifeq (w_rg0 (by omega) (by omega)) ⟨_, rfl⟩ (fun c264 => ?_) (fun c264 => ?_)
                        · skip
                          refine wa_iconst ?_
                          refine wa_fall ⟨_, rfl⟩ ?_
                          refine wa_ireturn rfl ?_
                          refine ⟨rfl, congrArg (fun z => Sum.inl (some (0, z))) ?_⟩
                          rw [if_pos (by omega), show tkq K0 K1 1 = K1 from if_neg (by first | decide | omega)]
                          unfold sgW
                          rw [if_neg (fun z => ?_)]
                          first | omega | (have w1 := (hval z.1).1; omega)
                        · skip
                          exact absurd c264 (by omega)
            · skip
              show wJ _ _ _ _ _ _ _ _ _ _
              refine wa_ifeq (w_rg0 (by omega) (by omega)) ⟨_, rfl⟩ (fun c265 => ?_) (fun c265 => ?_)
              · skip
                refine wa_iconst ?_
                refine wa_fall ⟨_, rfl⟩ ?_
                refine wb_iald 361 rfl (wy_pr rfl) wt_361 (n := 2) ((w_up_slot (by decide)).trans ((ml_361 hM))) (by omega) (by omega) (v := (S 361 0)) (w_up_slot (by decide)) (fun r266 => ?_)
                refine wa_iconst ?_
                refine wa_icmpne (w_rg0 (by omega) (by omega)) (w_rg0 (by omega) (by omega)) ⟨_, rfl⟩ (fun c267 => ?_) (fun c267 => ?_)
                · skip
                  refine wa_iconst ?_
                  refine wa_fall ⟨_, rfl⟩ ?_
                  refine wa_istore_n (n := 3) rfl ?_
                  refine wa_iload_n (n := 3) rfl ?_
                  refine wa_ifeq (w_rg0 (by omega) (by omega)) ⟨_, rfl⟩ (fun c268 => ?_) (fun c268 => ?_)
                  · skip
                    refine wa_iconst ?_
                    refine wa_fall ⟨_, rfl⟩ ?_
                    refine wa_istore (n := 4) rfl ?_
                    refine wa_iload_n (n := 3) rfl ?_
                    refine wa_ifeq (w_rg0 (by omega) (by omega)) ⟨_, rfl⟩ (fun c269 => ?_) (fun c269 => ?_)
                    · skip
                      refine wa_iconst ?_
                      refine wa_fall ⟨_, rfl⟩ ?_
                      refine wa_ireturn rfl ?_
                      refine ⟨rfl, congrArg (fun z => Sum.inl (some (0, z))) ?_⟩
                      rw [if_pos (by omega), show tkq K0 K1 1 = K1 from if_neg (by first | decide | omega)]
                      unfold sgW
                      rw [if_neg (fun z => ?_)]
                      first | omega | (have w1 := (hval z.1).1; omega)
                    · skip
                      exact absurd c269 (by omega)
                  · skip
                    exact absurd c268 (by omega)
                · skip
                  refine wa_iconst ?_
                  refine wa_goto ⟨_, rfl⟩ ?_
                  refine wa_istore_n (n := 3) rfl ?_
                  refine wa_iload_n (n := 3) rfl ?_
                  refine wa_ifeq (w_rg0 (by omega) (by omega)) ⟨_, rfl⟩ (fun c270 => ?_) (fun c270 => ?_)
                  · skip
                    exact absurd c270 (by omega)
                  · skip
                    obtain ⟨v1, v2, v3⟩ := hval (by omega)
                    have v1n : K1.2.2.2.2.1 = 3 := by omega
                    obtain ⟨-, sb, sl, he⟩ := v3 v1n
                    have hbr : 0 ≤ S 362 1 ∧ S 362 1 < 16000 := by omega
                    have hfr1 := hfr (S 362 1) hbr.1 hbr.2
                    refine wa_aload_n (n := 0) rfl ?_
                    refine wb_gf4 237 rfl (wy_pr rfl) wt_237 wf_15_137 (v := 362) wl_237_137 ?_
                    refine wa_iload_n (n := 1) rfl ?_
                    refine wb_lald 362 rfl (wy_pr rfl) wt_362 (n := 2) ((w_up_slot (by decide)).trans ((ml_362 hM))) (by omega) (by omega) (v := (S 362 1)) (w_up_slot (by decide)) (fun r271 => ?_)
                    refine wb_l2i_r (y := (S 362 1)) (wb_l2i_id ⟨by omega, by omega⟩) ?_
                    refine wa_goto ⟨_, rfl⟩ ?_
                    refine wa_istore (n := 4) rfl ?_
                    refine wa_iload_n (n := 3) rfl ?_
                    refine wa_ifeq (w_rg0 (by omega) (by omega)) ⟨_, rfl⟩ (fun c272 => ?_) (fun c272 => ?_)
                    · skip
                      exact absurd c272 (by omega)
                    · skip
                      refine wa_iload_n (n := 2) rfl ?_
                      refine wa_i2l (w_rg0 (by omega) (by omega)) ?_
                      refine wa_lconst ?_
                      refine wa_aload_n (n := 0) rfl ?_
                      refine wb_gf4 237 rfl (wy_pr rfl) wt_237 wf_15_23 (v := 285) wl_237_23 ?_
                      refine wa_iload (n := 4) rfl ?_
                      refine wb_iald 285 rfl (wy_pr rfl) wt_285 (n := 16000) ((w_up_slot (by decide)).trans ((ml_285 hM))) (by omega) (by omega) (v := (S 285 (S 362 1))) (w_up_slot (by decide)) (fun r273 => ?_)
                      refine wa_iconst ?_
                      refine wa_isub ?_
                      refine wa_i2l (w_rg0 (by omega) (by omega)) ?_
                      refine wa_cs (M2 := fun _ => False) rfl at_M_in ⟨_, rfl⟩ rfl rfl ⟨trivial, trivial, (Or.inr ⟨wy_pr rfl, fun q => q⟩), trivial, trivial, trivial⟩ trivial (fun _ _ q => False.elim q) (in_ok (S := (w_up S 237 0 0)) (a := i) (lo := 0) (hi := ((S 285 (S 362 1)) - 1)) ⟨by omega, by omega⟩ ⟨by omega, by omega⟩ ⟨by omega, by omega⟩) (fun oq275 Sq275 hp276 q275 => ?_)
                      rcases q275 with ⟨rfl, ⟨rfl, hin274⟩ | ⟨rfl, hin274⟩⟩
                      · skip
                        show wJ _ _ _ _ _ _ _ _ _ _
                        refine wa_ifeq (w_rg0 (by omega) (by omega)) ⟨_, rfl⟩ (fun c277 => ?_) (fun c277 => ?_)
                        · skip
                          exact absurd c277 (by omega)
                        · skip
                          refine wa_aload_n (n := 0) rfl ?_
                          refine wb_gf4 237 rfl (wy_pr rfl) wt_237 wf_15_21 (v := 283) wl_237_21 ?_
                          refine wa_aload_n (n := 0) rfl ?_
                          refine wb_gf4 237 rfl (wy_pr rfl) wt_237 wf_15_22 (v := 284) wl_237_22 ?_
                          refine wa_iload (n := 4) rfl ?_
                          refine wb_iald 284 rfl (wy_pr rfl) wt_284 (n := 16000) ((w_up_slot (by decide)).trans ((ml_284 hM))) (by omega) (by omega) (v := (S 284 (S 362 1))) (w_up_slot (by decide)) (fun r278 => ?_)
                          refine wa_iload_n (n := 2) rfl ?_
                          refine wa_iadd ?_
                          refine wb_bald 283 rfl (wy_pr rfl) wt_283 (n := 269632) ((w_up_slot (by decide)).trans ((ml_283 hM))) (by omega) (by omega) (v := (S 283 ((S 284 (S 362 1)) + i))) (w_up_slot (by decide)) (fun r279 => ?_)
                          refine wa_goto ⟨_, rfl⟩ ?_
                          refine wa_ireturn rfl ?_
                          refine ⟨rfl, congrArg (fun z => Sum.inl (some (0, z))) ?_⟩
                          rw [if_pos (by omega), show tkq K0 K1 1 = K1 from if_neg (by first | decide | omega)]
                          unfold sgW
                          rw [if_pos ⟨by omega, v1n, by omega, by omega⟩]
                          have e1 := he i.toNat (by omega)
                          rw [show ((i.toNat : Nat) : Int) = i by omega] at e1
                          exact e1
                      · skip
                        show wJ _ _ _ _ _ _ _ _ _ _
                        refine wa_ifeq (w_rg0 (by omega) (by omega)) ⟨_, rfl⟩ (fun c280 => ?_) (fun c280 => ?_)
                        · skip
                          refine wa_iconst ?_
                          refine wa_fall ⟨_, rfl⟩ ?_
                          refine wa_ireturn rfl ?_
                          refine ⟨rfl, congrArg (fun z => Sum.inl (some (0, z))) ?_⟩
                          rw [if_pos (by omega), show tkq K0 K1 1 = K1 from if_neg (by first | decide | omega)]
                          unfold sgW
                          rw [if_neg (fun z => ?_)]
                          first | omega | (have w1 := (hval z.1).1; omega)
                        · skip
                          exact absurd c280 (by omega)
              · skip
                exact absurd c265 (by omega)
    · skip
      show wJ _ _ _ _ _ _ _ _ _ _
      refine wa_ifeq (w_rg0 (by omega) (by omega)) ⟨_, rfl⟩ (fun c281 => ?_) (fun c281 => ?_)
      · skip
        refine wa_iconst ?_
        refine wa_fall ⟨_, rfl⟩ ?_
        refine wa_istore_n (n := 3) rfl ?_
        refine wa_iload_n (n := 3) rfl ?_
        refine wa_ifeq (w_rg0 (by omega) (by omega)) ⟨_, rfl⟩ (fun c282 => ?_) (fun c282 => ?_)
        · skip
          refine wa_iconst ?_
          refine wa_fall ⟨_, rfl⟩ ?_
          refine wa_istore (n := 4) rfl ?_
          refine wa_iload_n (n := 3) rfl ?_
          refine wa_ifeq (w_rg0 (by omega) (by omega)) ⟨_, rfl⟩ (fun c283 => ?_) (fun c283 => ?_)
          · skip
            refine wa_iconst ?_
            refine wa_fall ⟨_, rfl⟩ ?_
            refine wa_ireturn rfl ?_
            refine ⟨rfl, congrArg (fun z => Sum.inl (some (0, z))) ?_⟩
            rw [if_pos (by omega), show tkq K0 K1 1 = K1 from if_neg (by first | decide | omega)]
            unfold sgW
            rw [if_neg (fun z => ?_)]
            first | omega | (have w1 := (hval z.1).1; omega)
          · skip
            exact absurd c283 (by omega)
        · skip
          exact absurd c282 (by omega)
      · skip
        exact absurd c281 (by omega)
  · skip
    refine wa_aload_n (n := 0) rfl ?_
    refine wa_iconst ?_
    refine wb_pfi 237 rfl (wy_pr rfl) wt_237 wf_15_0 (n := 0) rfl ⟨(by omega), (by omega)⟩ ?_
    refine wa_iload_n (n := 1) rfl ?_
    refine wa_i2l (w_rg0 (by omega) (by omega)) ?_
    refine wa_lconst ?_
    refine wa_lconst ?_
    refine wa_cs (M2 := fun _ => False) rfl at_M_in ⟨_, rfl⟩ rfl rfl ⟨(Or.inr ⟨wy_pr rfl, fun q => q⟩), trivial, trivial, trivial⟩ trivial (fun _ _ q => False.elim q) (in_ok (S := (w_up S 237 0 0)) (a := t) (lo := 0) (hi := 1) ⟨by omega, by omega⟩ ⟨by omega, by omega⟩ ⟨by omega, by omega⟩) (fun oq402 Sq402 hp403 q402 => ?_)
    rcases q402 with ⟨rfl, ⟨rfl, hin401⟩ | ⟨rfl, hin401⟩⟩
    · skip
      show wJ _ _ _ _ _ _ _ _ _ _
      refine wa_ifeq (w_rg0 (by omega) (by omega)) ⟨_, rfl⟩ (fun c404 => ?_) (fun c404 => ?_)
      · skip
        exact absurd c404 (by omega)
      · skip
        exfalso; omega
    · skip
      show wJ _ _ _ _ _ _ _ _ _ _
      refine wa_ifeq (w_rg0 (by omega) (by omega)) ⟨_, rfl⟩ (fun c405 => ?_) (fun c405 => ?_)
      · skip
        refine wa_iconst ?_
        refine wa_fall ⟨_, rfl⟩ ?_
        refine wa_istore_n (n := 3) rfl ?_
        refine wa_iload_n (n := 3) rfl ?_
        refine wa_ifeq (w_rg0 (by omega) (by omega)) ⟨_, rfl⟩ (fun c406 => ?_) (fun c406 => ?_)
        · skip
          refine wa_iconst ?_
          refine wa_fall ⟨_, rfl⟩ ?_
          refine wa_istore (n := 4) rfl ?_
          refine wa_iload_n (n := 3) rfl ?_
          refine wa_ifeq (w_rg0 (by omega) (by omega)) ⟨_, rfl⟩ (fun c407 => ?_) (fun c407 => ?_)
          · skip
            refine wa_iconst ?_
            refine wa_fall ⟨_, rfl⟩ ?_
            refine wa_ireturn rfl ?_
            refine ⟨rfl, congrArg (fun z => Sum.inl (some (0, z))) ?_⟩
            first | omega | rw [if_neg (by omega)]
          · skip
            exact absurd c407 (by omega)
        · skip
          exact absurd c406 (by omega)
      · skip
        exact absurd c405 (by omega)
end Wih
