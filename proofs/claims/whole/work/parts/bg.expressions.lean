/-! PART bg: the Compiler's assignments and expressions. -/
section Wbg
variable {xs : List (Nat × List Int32)} {M : Nat → Prop} {d : Nat} {A B C S Z : wS} {Q : wO → wS → Prop} {T : Int → Int} {n : Int} {N X : List (List Int)} {c i : Nat} {f u w : Int} {I : List pz_I} {F : List pz_F}
theorem as_q {D m mm : Nat} {dp t : Int} (hX : cX xs T n N X c f m) (hS : cST xs T n N X c f m) (h : cQ T n N X c f u w i I F S) (hm : c - i < m + 1) (hD : 0 ≤ dp ∧ dp ≤ 50 ∧ 10 * (51 - dp) + 18 ≤ (D : Int)) (hI : I.length ≤ 1 * i) (hw : w ≤ 20 * dp) (hk : kq T n N X i = 20) (ht : S 63 16 = t) (ht0 : t ≠ 0) (htr : 0 ≤ t ∧ t ≤ 3) (htl : tl_I u mm t I) : wJ (pe_GA xs) wY0 (mS [64, 65, 66, 67, 69, 70]) D t_XP_readAssigned ((pe_at t_XP_readAssigned.bl 0).getD (0, [])).2 [(0, (2, 63)), (1, (0, dp)), (2, (0, w))] [] S (fun o Z => ((∃ (i2 : Nat) (I2 : List pz_I) (F2 : List pz_F), o = .inl none ∧ cD T n N X f (fun R => fun (o : pz_O) => if 50 ≤ dp then o = pz_fa (tp T n 0) 4 i else pz_q (R 4 0 [] (i + 1) (dp + 1) u I.dropLast F) (fun i2 I2 F2 _ o => o = .inr (i2, I2 ++ [if t = 1 then (4, (I.getD (I.length - 1) (0, 0, 0, 0)).2.1, 0, u) else (27, (if t = 2 then 1 else 3), (I.getD (I.length - 1) (0, 0, 0, 0)).2.2.1, u)], F2, 0)) o) (.inr (i2, I2, F2, 0)) ∧ cQ T n N X c f u w i2 I2 F2 Z ∧ cQg f (mm : Int) w S Z ∧ (i + 1 ≤ i2 ∧ I2.length + 1 * i ≤ I.length + 1 * i2 ∧ pz_le F F2 ∧ I.length ≤ I2.length)) ∨ (∃ (v : Nat) (x : Int), o = .inr v ∧ cD T n N X f (fun R => fun (o : pz_O) => if 50 ≤ dp then o = pz_fa (tp T n 0) 4 i else pz_q (R 4 0 [] (i + 1) (dp + 1) u I.dropLast F) (fun i2 I2 F2 _ o => o = .inr (i2, I2 ++ [if t = 1 then (4, (I.getD (I.length - 1) (0, 0, 0, 0)).2.1, 0, u) else (27, (if t = 2 then 1 else 3), (I.getD (I.length - 1) (0, 0, 0, 0)).2.2.1, u)], F2, 0)) o) (.inl x) ∧ cQf f S Z v x))) := by
  rcases htl with htl | ⟨I3, x, rfl, hm3, hxu, hx⟩
  · exact absurd htl ht0
  have g0 : cQg f (mm : Int) w S S := cQg_rfl
  have kr0 := kq_rg T n N X i
  have ic0 := cQ_ic h
  have hcn := cQ_cn h
  have hwr := cQ_wr h
  obtain ⟨hu1, hu2⟩ := cQ_ur h
  obtain ⟨D, rfl⟩ : ∃ D2, D = D2 + 14 := ⟨D - 14, by omega⟩
  have hl3 : (I3 ++ [x]).length = I3.length + 1 := List.length_append
  have hdl : (I3 ++ [x]).dropLast = I3 := List.dropLast_concat
  have hgl : (I3 ++ [x]).getD ((I3 ++ [x]).length - 1) (0, 0, 0, 0) = x := by rw [hl3, Nat.add_sub_cancel]; exact gD_r
  have hph := pz_h_rg (I3 ++ [x]) u
  have hps := pz_s_rg (I3 ++ [x])
  have ei : ((I3 ++ [x]).length : Int) - 1 = (I3.length : Int) := by omega
  have h6 := cQ_h6 h
  refine wa_aload_n (n := 0) rfl ?_
  refine wb_gfi 63 rfl (wy_pr rfl) wt_63 wf_1_16 (v := t) (ht) (fun r101 => ?_)
  refine wa_ifeq (w_rg0 (by omega) (by omega)) ⟨_, rfl⟩ (fun c102 => ?_) (fun c102 => ?_)
  · skip
    exact absurd c102 (by omega)
  · skip
    refine wa_aload_n (n := 0) rfl ?_
    refine wb_gfi 63 rfl (wy_pr rfl) wt_63 wf_1_15 (v := w) ((cQ_15 h)) (fun r103 => ?_)
    refine wa_iload_n (n := 2) rfl ?_
    refine wa_icmple (w_rg0 (by omega) (by omega)) (w_rg0 (by omega) (by omega)) ⟨_, rfl⟩ (fun c104 => ?_) (fun c104 => ?_)
    · skip
      refine wa_aload_n (n := 0) rfl ?_
      refine wa_bipush (w_rg2 (by omega) (by omega)) ?_
      refine wa_iload_n (n := 1) rfl ?_
      refine wa_cv 63 rfl (wy_pr rfl) wt_63 (M2 := fun _ => False) rfl at_XP_open ⟨_, rfl⟩ rfl rfl ⟨(Or.inr ⟨wy_pr rfl, fun q => q⟩), trivial, trivial, trivial⟩ trivial (fun _ _ q => False.elim q) (op_q (S := S) (k := 20) (dp := dp) h ⟨by omega, by omega⟩ ⟨by omega, by omega⟩) (fun oq115 Sq115 hp116 q115 => ?_)
      rcases q115 with ⟨rfl, hk108, hc105, hg106, ht107⟩ | ⟨v109, rfl, hk111, hz110⟩ | ⟨v112, rfl, hk114, hz113⟩
      · skip
        show wJ _ _ _ _ _ _ _ _ _ _
        have hSq115 : cQ T n N X c f u w (i + 1) (I3 ++ [x]) F Sq115 := hc105
        have gSq115 : cQg f (mm : Int) w S Sq115 := cQg_tr g0 (hg106 _ _)
        have krSq115 := kq_rg T n N X (i + 1)
        have icSq115 := cQ_ic hSq115
        have tSq115 : Sq115 63 16 = t := (ht107.1).trans ht
        have dSq115 : pz_op (kq T n N X) (tp T n 0) 20 dp i (I3 ++ [x]) F = .inr ((i + 1), (I3 ++ [x]), F, 0) := pz_op_o hk108
        obtain ⟨⟨nz1, nz2⟩, nz3, nz4, nz5, nz6, nz7⟩ := hSq115.2.2.1.1
        have n7 := cQ_7 hSq115
        have ca := hSq115.2.2.1.2.2.2 I3.length (by omega)
        rw [gD_r] at ca
        have c8 : Sq115 63 8 = pz_s (I3 ++ [x]) := hSq115.2.2.1.2.2.1
        have c24 := (cQ_fn hSq115 hu1).2.2.2
        refine wa_aload_n (n := 0) rfl ?_
        refine wb_gfi 63 rfl (wy_pr rfl) wt_63 wf_1_16 (v := t) (tSq115) (fun r117 => ?_)
        refine wa_istore_n (n := 3) rfl ?_
        refine wa_aload_n (n := 0) rfl ?_
        refine wa_dup (by decide) ?_
        refine wb_gfi 63 rfl (wy_pr rfl) wt_63 wf_1_7 (v := ((I3 ++ [x]).length : Int)) ((cQ_7 hSq115)) (fun r118 => ?_)
        refine wa_iconst ?_
        refine wa_isub ?_
        refine wb_pfi 63 rfl (wy_pr rfl) wt_63 wf_1_7 (n := 7) rfl ⟨(by omega), (by omega)⟩ ?_
        refine wa_aload_n (n := 0) rfl ?_
        refine wb_gf4 63 rfl (wy_pr rfl) wt_63 wf_1_9 (v := 20) wl_63_9 ?_
        refine wa_iconst ?_
        refine wb_aald5 20 3 rfl rfl (wy_pr rfl) wt_20 (by rw [show _ = _ from ((w_up_slot (by decide)).trans ((cl_20 hSq115.2.1.2)))]; omega) wl_20_3 ?_
        refine wa_aload_n (n := 0) rfl ?_
        refine wb_gfi 63 rfl (wy_pr rfl) wt_63 wf_1_11 (v := u) ((w_up_at (by decide)).trans ((cQ_11 hSq115))) (fun r119 => ?_)
        refine wa_dup2 (by decide) (by decide) ?_
        refine wb_iald 24 rfl (wy_pr rfl) wt_24 (n := 400) ((w_up_slot (by decide)).trans ((cl_24 hSq115.2.1.2))) (by omega) (by omega) (v := (pz_h (I3 ++ [x]) u)) ((w_up_slot (by decide)).trans (c24)) (fun r120 => ?_)
        refine wa_iconst ?_
        refine wa_isub ?_
        refine wb_iast 24 rfl (wy_pr rfl) wt_24 (n := 400) ((w_up_slot (by decide)).trans ((cl_24 hSq115.2.1.2))) (by omega) (by omega) ⟨(by omega), (by omega)⟩ ?_
        refine wa_iload_n (n := 3) rfl ?_
        refine wa_iconst ?_
        refine wa_icmpne (w_rg0 (by omega) (by omega)) (w_rg0 (by omega) (by omega)) ⟨_, rfl⟩ (fun c121 => ?_) (fun c121 => ?_)
        · skip
          refine wa_aload_n (n := 0) rfl ?_
          refine wb_gf4 63 rfl (wy_pr rfl) wt_63 wf_1_5 (v := 66) wl_63_5 ?_
          refine wa_aload_n (n := 0) rfl ?_
          refine wb_gfi 63 rfl (wy_pr rfl) wt_63 wf_1_7 (v := (((I3 ++ [x]).length : Int) - 1)) ((w_up_slot (by decide)).trans (w_up_same _ _ _ _)) (fun r122 => ?_)
          refine wb_iald 66 rfl (wy_pr rfl) wt_66 (n := (Sq115 64 (-1))) ((w_up_slot (by decide)).trans ((w_up_slot (by decide)).trans (nz4))) (by omega) (by omega) (v := x.2.2.1) ((w_up_slot (by decide)).trans ((w_up_slot (by decide)).trans ((by rw [ei]; exact ca.2.2.1)))) (fun r123 => ?_)
          refine wa_fall ⟨_, rfl⟩ ?_
          refine wa_istore (n := 4) rfl ?_
          refine wa_iload_n (n := 3) rfl ?_
          refine wa_iconst ?_
          refine wa_icmpeq (w_rg0 (by omega) (by omega)) (w_rg0 (by omega) (by omega)) ⟨_, rfl⟩ (fun c124 => ?_) (fun c124 => ?_)
          · skip
            exact absurd c124 (by omega)
          · skip
            refine wa_aload_n (n := 0) rfl ?_
            refine wa_dup (by decide) ?_
            refine wb_gfi 63 rfl (wy_pr rfl) wt_63 wf_1_8 (v := (Sq115 63 8)) ((w_up_slot (by decide)).trans (w_up_at (by decide))) (fun r125 => ?_)
            refine wa_iconst ?_
            refine wa_isub ?_
            refine wb_pfi 63 rfl (wy_pr rfl) wt_63 wf_1_8 (n := 8) rfl ⟨(by omega), (by omega)⟩ ?_
            refine wa_fall ⟨_, rfl⟩ ?_
            refine wa_aload_n (n := 0) rfl ?_
            refine wa_iload_n (n := 1) rfl ?_
            refine wa_iconst ?_
            refine wa_iadd ?_
            refine wa_cv 63 rfl (wy_pr rfl) wt_63 (M2 := mS [64, 65, 66, 67, 69, 70]) rfl at_XP_readExpression ⟨_, rfl⟩ rfl rfl ⟨trivial, trivial, (Or.inr ⟨wy_pr rfl, mS_no rfl⟩), trivial, trivial, trivial⟩ trivial (fun _ _ q => q) (hX _ (dp + 1) u w (i + 1) I3 F (w_up (w_up (w_up Sq115 63 7 (((I3 ++ [x]).length : Int) - 1)) 24 u ((pz_h (I3 ++ [x]) u) - 1)) 63 8 ((Sq115 63 8) - 1)) (by omega) ⟨by omega, by omega, by omega⟩ ⟨by omega, by omega⟩ (cQ_dr (x := x) (v7 := (((I3 ++ [x]).length : Int) - 1)) (v24 := ((pz_h (I3 ++ [x]) u) - 1)) (v8 := ((Sq115 63 8) - 1)) hSq115 hxu (by rw [cQ_7 hSq115]) (by rw [(cQ_fn hSq115 ⟨by omega, by omega⟩).2.2.2]) (by rw [if_pos (by omega)]))) (fun oq142 Sq142 hp143 q142 => ?_)
            rcases q142 with ⟨i126, I127, F128, t129, rfl, hd130, hc131, hg132, ⟨p133, p134, p135, p136⟩, e137⟩ | ⟨v138, x139, rfl, hd140, hz141⟩
            · skip
              show wJ _ _ _ _ _ _ _ _ _ _
              have hSq142 : cQ T n N X c f u w i126 I127 F128 Sq142 := hc131
              have gSq142 : cQg f (mm : Int) w S Sq142 := cQg_tr (cQg_tr (cQg_tr (cQg_tr gSq115 (cQg_up (by omega) (by decide) (by omega))) (cQg_up (by omega) (by decide) (by omega))) (cQg_up (by omega) (by decide) (by omega))) (cQg_mo hg132 (by omega) (by omega))
              have krSq142 := kq_rg T n N X i126
              have icSq142 := cQ_ic hSq142
              have tSq142 : Sq142 63 16 = 0 := e137
              have flSq142 := p135.1
              refine wa_iload_n (n := 3) rfl ?_
              refine wa_iconst ?_
              refine wa_icmpne (w_rg0 (by omega) (by omega)) (w_rg0 (by omega) (by omega)) ⟨_, rfl⟩ (fun c144 => ?_) (fun c144 => ?_)
              · skip
                refine wa_aload_n (n := 0) rfl ?_
                refine wa_iload_n (n := 3) rfl ?_
                refine wa_iconst ?_
                refine wa_icmpne (w_rg0 (by omega) (by omega)) (w_rg0 (by omega) (by omega)) ⟨_, rfl⟩ (fun c145 => ?_) (fun c145 => ?_)
                · skip
                  refine wa_iconst ?_
                  refine wa_fall ⟨_, rfl⟩ ?_
                  refine wa_iload (n := 4) rfl ?_
                  refine wa_iconst ?_
                  refine wa_cv 63 rfl (wy_pr rfl) wt_63 (M2 := mS [64, 65, 66, 67]) rfl at_XP_noteSite ⟨_, rfl⟩ rfl rfl ⟨trivial, trivial, (Or.inr ⟨wy_pr rfl, mS_no rfl⟩), trivial, trivial, trivial⟩ trivial (fun _ _ q => mS_sub (by decide) q) (ns_q (S := Sq142) (k := 3) (y := x.2.2.1) (e := 0) hSq142 ⟨by omega, by omega⟩ ⟨by omega, by omega⟩ ⟨by omega, by omega⟩ (by omega)) (fun oq149 Sq149 hp150 q149 => ?_)
                  rcases q149 with ⟨rfl, hc146, hg147, ht148⟩
                  show wJ _ _ _ _ _ _ _ _ _ _
                  have hSq149 : cQ T n N X c f u w i126 (I127 ++ [(27, 3, x.2.2.1, u)]) F128 Sq149 := hc146
                  have gSq149 : cQg f (mm : Int) w S Sq149 := cQg_tr gSq142 (hg147 _ _ (by omega))
                  have tSq149 : Sq149 63 16 = 0 := (ht148).trans tSq142
                  have hlSq149 : (I127 ++ [(27, 3, x.2.2.1, u)]).length = I127.length + 1 := List.length_append
                  refine wa_fall ⟨_, rfl⟩ ?_
                  refine wa_return rfl ?_
                  refine Or.inl ⟨_, _, _, rfl, fun R hR => ?_, hSq149, gSq149, ⟨by omega, by omega, (pz_le_tr pz_le_rfl p135), by omega⟩⟩
                  try dsimp only
                  rw [hdl, hgl]
                  repeat first | rw [if_pos (by omega)] | rw [if_neg (by omega)]
                  first | refine pz_fo dSq115 ?_ | exact dSq115.symm | skip
                  repeat first | rw [if_pos (by omega)] | rw [if_neg (by omega)]
                  first | refine pz_qo (hd130 R hR) ?_ | exact hd130 R hR
                  all_goals repeat first | rw [if_pos (by omega)] | rw [if_neg (by omega)]
                  all_goals first | rfl | (exfalso; omega)
                · skip
                  refine wa_iconst ?_
                  refine wa_goto ⟨_, rfl⟩ ?_
                  refine wa_iload (n := 4) rfl ?_
                  refine wa_iconst ?_
                  refine wa_cv 63 rfl (wy_pr rfl) wt_63 (M2 := mS [64, 65, 66, 67]) rfl at_XP_noteSite ⟨_, rfl⟩ rfl rfl ⟨trivial, trivial, (Or.inr ⟨wy_pr rfl, mS_no rfl⟩), trivial, trivial, trivial⟩ trivial (fun _ _ q => mS_sub (by decide) q) (ns_q (S := Sq142) (k := 1) (y := x.2.2.1) (e := 0) hSq142 ⟨by omega, by omega⟩ ⟨by omega, by omega⟩ ⟨by omega, by omega⟩ (by omega)) (fun oq154 Sq154 hp155 q154 => ?_)
                  rcases q154 with ⟨rfl, hc151, hg152, ht153⟩
                  show wJ _ _ _ _ _ _ _ _ _ _
                  have hSq154 : cQ T n N X c f u w i126 (I127 ++ [(27, 1, x.2.2.1, u)]) F128 Sq154 := hc151
                  have gSq154 : cQg f (mm : Int) w S Sq154 := cQg_tr gSq142 (hg152 _ _ (by omega))
                  have tSq154 : Sq154 63 16 = 0 := (ht153).trans tSq142
                  have hlSq154 : (I127 ++ [(27, 1, x.2.2.1, u)]).length = I127.length + 1 := List.length_append
                  refine wa_fall ⟨_, rfl⟩ ?_
                  refine wa_return rfl ?_
                  refine Or.inl ⟨_, _, _, rfl, fun R hR => ?_, hSq154, gSq154, ⟨by omega, by omega, (pz_le_tr pz_le_rfl p135), by omega⟩⟩
                  try dsimp only
                  rw [hdl, hgl]
                  repeat first | rw [if_pos (by omega)] | rw [if_neg (by omega)]
                  first | refine pz_fo dSq115 ?_ | exact dSq115.symm | skip
                  repeat first | rw [if_pos (by omega)] | rw [if_neg (by omega)]
                  first | refine pz_qo (hd130 R hR) ?_ | exact hd130 R hR
                  all_goals repeat first | rw [if_pos (by omega)] | rw [if_neg (by omega)]
                  all_goals first | rfl | (exfalso; omega)
              · skip
                exact absurd c144 (by omega)
            · skip
              refine ⟨rfl, ?_⟩
              refine Or.inr ⟨_, _, rfl, fun R hR => ?_, cQf_tr (cQg_tr (cQg_tr (cQg_tr gSq115 (cQg_up (by omega) (by decide) (by omega))) (cQg_up (by omega) (by decide) (by omega))) (cQg_up (by omega) (by decide) (by omega))) (by omega) (by omega) hz141⟩
              try dsimp only
              rw [hdl, hgl]
              repeat first | rw [if_pos (by omega)] | rw [if_neg (by omega)]
              first | refine pz_fo dSq115 ?_ | exact dSq115.symm | skip
              repeat first | rw [if_pos (by omega)] | rw [if_neg (by omega)]
              first | exact pz_qi (hd140 R hR) | exact hd140 R hR
              all_goals repeat first | rw [if_pos (by omega)] | rw [if_neg (by omega)]
              all_goals first | rfl | (exfalso; omega)
        · skip
          refine wa_aload_n (n := 0) rfl ?_
          refine wb_gf4 63 rfl (wy_pr rfl) wt_63 wf_1_4 (v := 65) wl_63_4 ?_
          refine wa_aload_n (n := 0) rfl ?_
          refine wb_gfi 63 rfl (wy_pr rfl) wt_63 wf_1_7 (v := (((I3 ++ [x]).length : Int) - 1)) ((w_up_slot (by decide)).trans (w_up_same _ _ _ _)) (fun r156 => ?_)
          refine wb_iald 65 rfl (wy_pr rfl) wt_65 (n := (Sq115 64 (-1))) ((w_up_slot (by decide)).trans ((w_up_slot (by decide)).trans (nz3))) (by omega) (by omega) (v := x.2.1) ((w_up_slot (by decide)).trans ((w_up_slot (by decide)).trans ((by rw [ei]; exact ca.2.1 (by omega))))) (fun r157 => ?_)
          refine wa_goto ⟨_, rfl⟩ ?_
          refine wa_istore (n := 4) rfl ?_
          refine wa_iload_n (n := 3) rfl ?_
          refine wa_iconst ?_
          refine wa_icmpeq (w_rg0 (by omega) (by omega)) (w_rg0 (by omega) (by omega)) ⟨_, rfl⟩ (fun c158 => ?_) (fun c158 => ?_)
          · skip
            refine wa_aload_n (n := 0) rfl ?_
            refine wa_iload_n (n := 1) rfl ?_
            refine wa_iconst ?_
            refine wa_iadd ?_
            refine wa_cv 63 rfl (wy_pr rfl) wt_63 (M2 := mS [64, 65, 66, 67, 69, 70]) rfl at_XP_readExpression ⟨_, rfl⟩ rfl rfl ⟨trivial, trivial, (Or.inr ⟨wy_pr rfl, mS_no rfl⟩), trivial, trivial, trivial⟩ trivial (fun _ _ q => q) (hX _ (dp + 1) u w (i + 1) I3 F (w_up (w_up Sq115 63 7 (((I3 ++ [x]).length : Int) - 1)) 24 u ((pz_h (I3 ++ [x]) u) - 1)) (by omega) ⟨by omega, by omega, by omega⟩ ⟨by omega, by omega⟩ (by have q0 := cQ_dr (x := x) (v7 := (((I3 ++ [x]).length : Int) - 1)) (v24 := ((pz_h (I3 ++ [x]) u) - 1)) (v8 := (w_up (w_up Sq115 63 7 (((I3 ++ [x]).length : Int) - 1)) 24 u ((pz_h (I3 ++ [x]) u) - 1)) 63 8) hSq115 hxu (by rw [cQ_7 hSq115]) (by rw [(cQ_fn hSq115 ⟨by omega, by omega⟩).2.2.2]) (by rw [if_neg (by omega)]; show Sq115 63 8 = Sq115 63 8 - 0; omega); rw [w_up_id] at q0; exact q0)) (fun oq175 Sq175 hp176 q175 => ?_)
            rcases q175 with ⟨i159, I160, F161, t162, rfl, hd163, hc164, hg165, ⟨p166, p167, p168, p169⟩, e170⟩ | ⟨v171, x172, rfl, hd173, hz174⟩
            · skip
              show wJ _ _ _ _ _ _ _ _ _ _
              have hSq175 : cQ T n N X c f u w i159 I160 F161 Sq175 := hc164
              have gSq175 : cQg f (mm : Int) w S Sq175 := cQg_tr (cQg_tr (cQg_tr gSq115 (cQg_up (by omega) (by decide) (by omega))) (cQg_up (by omega) (by decide) (by omega))) (cQg_mo hg165 (by omega) (by omega))
              have krSq175 := kq_rg T n N X i159
              have icSq175 := cQ_ic hSq175
              have tSq175 : Sq175 63 16 = 0 := e170
              have flSq175 := p168.1
              refine wa_iload_n (n := 3) rfl ?_
              refine wa_iconst ?_
              refine wa_icmpne (w_rg0 (by omega) (by omega)) (w_rg0 (by omega) (by omega)) ⟨_, rfl⟩ (fun c177 => ?_) (fun c177 => ?_)
              · skip
                exact absurd c177 (by omega)
              · skip
                refine wa_aload_n (n := 0) rfl ?_
                refine wa_iconst ?_
                refine wa_iload (n := 4) rfl ?_
                refine wa_iconst ?_
                refine wa_cv 63 rfl (wy_pr rfl) wt_63 (M2 := mS [64, 65, 66, 67]) rfl at_XP_note ⟨_, rfl⟩ rfl rfl ⟨trivial, trivial, (Or.inr ⟨wy_pr rfl, mS_no rfl⟩), trivial, trivial, trivial⟩ trivial (fun _ _ q => mS_sub (by decide) q) (nt_q (S := Sq175) (op := 4) (a := x.2.1) (b := 0) (l := I160.length) hSq175 ⟨by omega, by omega⟩ ⟨by omega, by omega⟩ ⟨by omega, by omega⟩ (by omega) (by omega) (by omega)) (fun oq181 Sq181 hp182 q181 => ?_)
                rcases q181 with ⟨rfl, hc178, hg179, ht180⟩
                show wJ _ _ _ _ _ _ _ _ _ _
                have hSq181 : cQ T n N X c f u w i159 (I160 ++ [(4, x.2.1, 0, u)]) F161 Sq181 := hc178
                have gSq181 : cQg f (mm : Int) w S Sq181 := cQg_tr gSq175 (hg179 _ _ (by omega))
                have tSq181 : Sq181 63 16 = 0 := (ht180).trans tSq175
                have hlSq181 : (I160 ++ [(4, x.2.1, 0, u)]).length = I160.length + 1 := List.length_append
                refine wa_pop (by decide) ?_
                refine wa_goto ⟨_, rfl⟩ ?_
                refine wa_return rfl ?_
                refine Or.inl ⟨_, _, _, rfl, fun R hR => ?_, hSq181, gSq181, ⟨by omega, by omega, (pz_le_tr pz_le_rfl p168), by omega⟩⟩
                try dsimp only
                rw [hdl, hgl]
                repeat first | rw [if_pos (by omega)] | rw [if_neg (by omega)]
                first | refine pz_fo dSq115 ?_ | exact dSq115.symm | skip
                repeat first | rw [if_pos (by omega)] | rw [if_neg (by omega)]
                first | refine pz_qo (hd163 R hR) ?_ | exact hd163 R hR
                all_goals repeat first | rw [if_pos (by omega)] | rw [if_neg (by omega)]
                all_goals first | rfl | (exfalso; omega)
            · skip
              refine ⟨rfl, ?_⟩
              refine Or.inr ⟨_, _, rfl, fun R hR => ?_, cQf_tr (cQg_tr (cQg_tr gSq115 (cQg_up (by omega) (by decide) (by omega))) (cQg_up (by omega) (by decide) (by omega))) (by omega) (by omega) hz174⟩
              try dsimp only
              rw [hdl, hgl]
              repeat first | rw [if_pos (by omega)] | rw [if_neg (by omega)]
              first | refine pz_fo dSq115 ?_ | exact dSq115.symm | skip
              repeat first | rw [if_pos (by omega)] | rw [if_neg (by omega)]
              first | exact pz_qi (hd173 R hR) | exact hd173 R hR
              all_goals repeat first | rw [if_pos (by omega)] | rw [if_neg (by omega)]
              all_goals first | rfl | (exfalso; omega)
          · skip
            exact absurd c158 (by omega)
      · skip
        refine ⟨rfl, ?_⟩
        refine Or.inr ⟨_, _, rfl, fun R hR => ?_, cQf_of g0 (by omega) (by omega) (cQn_of h) hz110⟩
        try dsimp only
        rw [hdl, hgl]
        repeat first | rw [if_pos (by omega)] | rw [if_neg (by omega)]
        first | exact pz_fi (pz_op_1 hk111) | exact (pz_op_1 hk111).symm | (exfalso; omega)
        all_goals repeat first | rw [if_pos (by omega)] | rw [if_neg (by omega)]
        all_goals first | rfl | (exfalso; omega)
      · skip
        refine ⟨rfl, ?_⟩
        refine Or.inr ⟨_, _, rfl, fun R hR => ?_, cQf_of g0 (by omega) (by omega) (cQn_of h) hz113⟩
        try dsimp only
        rw [hdl, hgl]
        repeat first | rw [if_pos (by omega)] | rw [if_neg (by omega)]
        first | exact pz_fi (pz_op_4 hk114) | exact (pz_op_4 hk114).symm | rfl
        all_goals repeat first | rw [if_pos (by omega)] | rw [if_neg (by omega)]
        all_goals first | rfl | (exfalso; omega)
    · skip
      exact absurd c104 (by omega)
theorem as_a {D m mm : Nat} {dp t : Int} (hX : cX xs T n N X c f m) (hS : cST xs T n N X c f m) {w1 : Int} (h : cQ T n N X c f u w1 i I F S) (hm : c - i < m + 1) (hD : 0 ≤ dp ∧ dp ≤ 50 ∧ 10 * (51 - dp) + 18 ≤ (D : Int)) (hI : I.length ≤ 1 * i) (hw : w ≤ 20 * dp) (hw0 : 0 ≤ w) (hww : w ≤ w1) (hk : kq T n N X i = 20) (ht : S 63 16 = t) (htr : 0 ≤ t ∧ t ≤ 3) (htl : tl_I u mm t I) : wJ (pe_GA xs) wY0 (mS [64, 65, 66, 67, 69, 70]) D t_XP_readAssigned ((pe_at t_XP_readAssigned.bl 0).getD (0, [])).2 [(0, (2, 63)), (1, (0, dp)), (2, (0, w))] [] S (fun o Z => ((t = 0 ∨ w < w1) ∧ ∃ v : Nat, o = .inr v ∧ ry_ag S Z v (2 + 16 * tp T n 0 i)) ∨ ((t ≠ 0 ∧ w1 = w) ∧ ((∃ (i2 : Nat) (I2 : List pz_I) (F2 : List pz_F), o = .inl none ∧ cD T n N X f (fun R => fun (o : pz_O) => if 50 ≤ dp then o = pz_fa (tp T n 0) 4 i else pz_q (R 4 0 [] (i + 1) (dp + 1) u I.dropLast F) (fun i2 I2 F2 _ o => o = .inr (i2, I2 ++ [if t = 1 then (4, (I.getD (I.length - 1) (0, 0, 0, 0)).2.1, 0, u) else (27, (if t = 2 then 1 else 3), (I.getD (I.length - 1) (0, 0, 0, 0)).2.2.1, u)], F2, 0)) o) (.inr (i2, I2, F2, 0)) ∧ cQ T n N X c f u w i2 I2 F2 Z ∧ cQg f (mm : Int) w S Z ∧ (i + 1 ≤ i2 ∧ I2.length + 1 * i ≤ I.length + 1 * i2 ∧ pz_le F F2 ∧ I.length ≤ I2.length)) ∨ (∃ (v : Nat) (x : Int), o = .inr v ∧ cD T n N X f (fun R => fun (o : pz_O) => if 50 ≤ dp then o = pz_fa (tp T n 0) 4 i else pz_q (R 4 0 [] (i + 1) (dp + 1) u I.dropLast F) (fun i2 I2 F2 _ o => o = .inr (i2, I2 ++ [if t = 1 then (4, (I.getD (I.length - 1) (0, 0, 0, 0)).2.1, 0, u) else (27, (if t = 2 then 1 else 3), (I.getD (I.length - 1) (0, 0, 0, 0)).2.2.1, u)], F2, 0)) o) (.inl x) ∧ cQf f S Z v x)))) := by
  by_cases hc : t ≠ 0 ∧ w1 = w
  · obtain ⟨h1, rfl⟩ := hc
    exact wJ_mono (as_q hX hS h hm hD hI hw hk ht h1 htr htl) (fun o Z hz => Or.inr ⟨⟨h1, rfl⟩, hz⟩)
  · have hwr := cQ_wr h
    obtain ⟨D, rfl⟩ : ∃ D2, D = D2 + 14 := ⟨D - 14, by omega⟩
    refine wa_aload_n (n := 0) rfl ?_
    refine wb_gfi 63 rfl (wy_pr rfl) wt_63 wf_1_16 (v := t) (ht) (fun r101 => ?_)
    refine wa_ifeq (w_rg0 (by omega) (by omega)) ⟨_, rfl⟩ (fun c102 => ?_) (fun c102 => ?_)
    · skip
      refine wa_aload_n (n := 0) rfl ?_
      refine wa_iconst ?_
      refine wa_cv 63 rfl (wy_pr rfl) wt_63 (M2 := fun _ => False) rfl at_XP_refuse ⟨_, rfl⟩ rfl rfl ⟨(Or.inr ⟨wy_pr rfl, fun q => q⟩), trivial, trivial, trivial⟩ trivial (fun _ _ q => False.elim q) (rf_q (S := S) (k := 2) h ⟨by omega, by omega⟩) (fun oq105 Sq105 hp106 q105 => ?_)
      rcases q105 with ⟨v103, rfl, hz104⟩
      have hthr := hz104
      refine ⟨rfl, ?_⟩
      exact Or.inl ⟨by omega, _, rfl, hthr⟩
    · skip
      refine wa_aload_n (n := 0) rfl ?_
      refine wb_gfi 63 rfl (wy_pr rfl) wt_63 wf_1_15 (v := w1) ((cQ_15 h)) (fun r107 => ?_)
      refine wa_iload_n (n := 2) rfl ?_
      refine wa_icmple (w_rg0 (by omega) (by omega)) (w_rg0 (by omega) (by omega)) ⟨_, rfl⟩ (fun c108 => ?_) (fun c108 => ?_)
      · skip
        exact absurd c108 (by omega)
      · skip
        refine wa_fall ⟨_, rfl⟩ ?_
        refine wa_aload_n (n := 0) rfl ?_
        refine wa_iconst ?_
        refine wa_cv 63 rfl (wy_pr rfl) wt_63 (M2 := fun _ => False) rfl at_XP_refuse ⟨_, rfl⟩ rfl rfl ⟨(Or.inr ⟨wy_pr rfl, fun q => q⟩), trivial, trivial, trivial⟩ trivial (fun _ _ q => False.elim q) (rf_q (S := S) (k := 2) h ⟨by omega, by omega⟩) (fun oq111 Sq111 hp112 q111 => ?_)
        rcases q111 with ⟨v109, rfl, hz110⟩
        have hthr := hz110
        refine ⟨rfl, ?_⟩
        exact Or.inl ⟨by omega, _, rfl, hthr⟩
theorem lv_d (k : Int) : pz_lv k = 0 ∨ 21 ≤ k := by
  unfold pz_lv
  repeat' split
  all_goals omega
theorem lv_q0 {k : Int} (hk : -2147483648 ≤ k ∧ k ≤ 2147483647) (h0 : pz_lv k = 0) : wJ (pe_GA xs) wY0 M d t_XP_levelOf ((pe_at t_XP_levelOf.bl 0).getD (0, [])).2 [(0, (0, k))] [] S (fun o Z => S = Z ∧ o = .inl (some (0, 0))) := wJ_mono (lv_q hk) (fun o Z hz => ⟨hz.1, by rw [hz.2, h0]⟩)
theorem se_0 {lev : Int} (h : cQ T n N X c f u w i I F S) (hl : 0 ≤ lev ∧ lev ≤ 10) : wJ (pe_GA xs) wY0 M (d + 4) t_XP_settle ((pe_at t_XP_settle.bl 0).getD (0, [])).2 [(0, (2, 63)), (1, (0, w)), (2, (0, lev))] [] S (fun o Z => S = Z ∧ o = .inl none) := by
  have hwr := cQ_wr h
  refine wa_aload_n (n := 0) rfl ?_
  refine wb_gfi 63 rfl (wy_pr rfl) wt_63 wf_1_15 (v := w) ((cQ_15 h)) (fun r101 => ?_)
  refine wa_iload_n (n := 1) rfl ?_
  refine wa_icmple (w_rg0 (by omega) (by omega)) (w_rg0 (by omega) (by omega)) ⟨_, rfl⟩ (fun c102 => ?_) (fun c102 => ?_)
  · skip
    refine wa_return rfl ?_
    exact ⟨rfl, rfl⟩
  · skip
    exact absurd c102 (by omega)
theorem ex_1 {D m i0 : Nat} {dp : Int} {I0 : List pz_I} {F0 : List pz_F} {S0 : wS} (hX : cX xs T n N X c f m) (hS : cST xs T n N X c f m) (hx101 : pe_at (pe_GA xs).xs 101 = some (1, tx_101)) (hD : 0 ≤ dp ∧ dp ≤ 50 ∧ 10 * (51 - dp) + 20 ≤ (D : Int)) (hw : w ≤ 20 * dp) (hw0 : 0 ≤ w) : ∀ (fu : Nat) (W : List (Int × Nat)) (q w1 : Int) (i : Nat) (I : List pz_I) (F : List pz_F) (S : wS), c - i < fu → cQ T n N X c f u w1 i I F S → w1 = w + 2 * (W.length : Int) → c - i < m + 1 → (i0 ≤ i ∧ I.length + awN W + 1 * i0 ≤ I0.length + 1 * i ∧ I0.length ≤ 1 * i0 ∧ I0.length ≤ I.length) → pz_le F0 F → cQg f (I0.length : Int) w S0 S → wt_I S w W → ow I0.length I.length W → (0 ≤ q ∧ q ≤ (i : Int)) → (∀ R : pz_R, pz_C (kq T n N X) (vq T n N X) (tp T n 0) f R → wH R dp u (fun o => R 5 1 [] i0 dp u I0 F0 o) W i I F) → wJ (pe_GA xs) wY0 (mS [64, 65, 66, 67, 69, 70]) D t_XP_readExpression ((pe_at t_XP_readExpression.bl 1).getD (0, [])).2 [(0, (2, 63)), (1, (0, dp)), (2, (0, w)), (3, (0, 1)), (4, (0, q))] [] S (cR T n N X c f (fun R => R 4 0 [] i0 dp u I0 F0) u w i0 I0 F0 1 (fun _ _ Z => Z 63 16 = 0) S0) := by
  obtain ⟨D, rfl⟩ : ∃ D2, D = D2 + 14 := ⟨D - 14, by omega⟩
  intro fu
  induction fu with
  | zero => intro W q w1 i I F S hf; exact absurd hf (Nat.not_lt_zero _)
  | succ fu ih =>
    intro W q w1 i I F S hfu h hw1 hm hl hle hg0 hwt how hq hH
    have kr0 := kq_rg T n N X i
    have ic0 := cQ_ic h
    have hcn := cQ_cn h
    have hwr := cQ_wr h
    have hur := cQ_ur h
    have hol := ow_len W how
    have hox := ow_wl W how
    refine wa_iload_n (n := 3) rfl ?_
    refine wa_ifeq (w_rg0 (by omega) (by omega)) ⟨_, rfl⟩ (fun c101 => ?_) (fun c101 => ?_)
    · skip
      exact absurd c101 (by omega)
    · skip
      refine wa_iload (n := 4) rfl ?_
      refine wa_aload_n (n := 0) rfl ?_
      refine wb_gf4 63 rfl (wy_pr rfl) wt_63 wf_1_0 (v := 14) wl_63_0 ?_
      refine wb_gfi 14 rfl (wy_pr rfl) wt_14 wf_6_3 (v := ((c : Int) + 1)) ((cQ_3 h)) (fun r102 => ?_)
      refine wa_icmpge (w_rg0 (by omega) (by omega)) (w_rg0 (by omega) (by omega)) ⟨_, rfl⟩ (fun c103 => ?_) (fun c103 => ?_)
      · skip
        exact absurd c103 (by omega)
      · skip
        refine wa_aload_n (n := 0) rfl ?_
        refine wa_iload_n (n := 1) rfl ?_
        refine wa_cv 63 rfl (wy_pr rfl) wt_63 (M2 := fun _ => False) rfl at_XP_readFronts ⟨_, rfl⟩ rfl rfl ⟨(Or.inr ⟨wy_pr rfl, fun q => q⟩), trivial, trivial, trivial, trivial, trivial⟩ trivial (fun _ _ q => False.elim q) (fr_q (S := S) (dp := dp) h ⟨by omega, by omega⟩ (by omega)) (fun oq104 Sq104 hp105 q104 => ?_)
        rcases q104 with ⟨L, dl, i2, rfl, he2, hF2, hc2, hg2, hwf2⟩ | ⟨v2, x2, rfl, hF2, hz2⟩
        · skip
          show wJ _ _ _ _ _ _ _ _ _ _
          have hSq104 : cQ T n N X c f u (w1 + 2 * (L.length : Int)) i2 I F Sq104 := hc2
          have gSq104 : cQg f (I0.length : Int) w S0 Sq104 := cQg_tr hg0 (cQg_mo hg2 (by omega) (by omega))
          have krSq104 := kq_rg T n N X i2
          have icSq104 := cQ_ic hSq104
          refine wa_istore (n := 5) rfl ?_
          refine wa_aload_n (n := 0) rfl ?_
          refine wa_iload (n := 5) rfl ?_
          refine wa_cv 63 rfl (wy_pr rfl) wt_63 (M2 := mS [64, 65, 66, 67, 69, 70]) rfl at_XP_readOperand ⟨_, rfl⟩ rfl rfl ⟨trivial, (Or.inr ⟨wy_pr rfl, mS_no rfl⟩), trivial, trivial, trivial, trivial, trivial⟩ trivial (fun _ _ q => q) (ro_q hX hS hSq104 (by omega) ⟨by omega, by omega, by omega⟩ (by omega) (by omega) hx101) (fun oq122 Sq122 hp123 q122 => ?_)
          rcases q122 with ⟨i106, I107, F108, t109, rfl, hd110, hc111, hg112, ⟨p113, p114, p115, p116⟩, e117⟩ | ⟨v118, x119, rfl, hd120, hz121⟩
          · skip
            show wJ _ _ _ _ _ _ _ _ _ _
            have hSq122 : cQ T n N X c f u (w1 + 2 * (L.length : Int)) i106 I107 F108 Sq122 := hc111
            have gSq122 : cQg f (I0.length : Int) w S0 Sq122 := cQg_tr gSq104 (cQg_mo hg112 (by omega) (by omega))
            have krSq122 := kq_rg T n N X i106
            have icSq122 := cQ_ic hSq122
            have tSq122 : Sq122 63 16 = t109 := e117.1.2
            have flSq122 := p115.1
            have hwf3 : wf_I Sq122 w1 L := wf_ag L (fun x hx => cQg_71 hg112 (by omega)) hwf2
            have et3 : 0 ≤ t109 ∧ t109 ≤ 3 := e117.1.1
            have tl3 := e117.2
            have fg3 := hg112
            refine wa_aload_n (n := 0) rfl ?_
            refine wa_iload (n := 5) rfl ?_
            refine wa_iload_n (n := 1) rfl ?_
            refine wa_isub ?_
            refine wa_cv 63 rfl (wy_pr rfl) wt_63 (M2 := mS [64, 65, 66, 67]) rfl at_XP_settleFronts ⟨_, rfl⟩ rfl rfl ⟨trivial, (Or.inr ⟨wy_pr rfl, mS_no rfl⟩), trivial, trivial, trivial, trivial, trivial⟩ trivial (fun _ _ q => mS_sub (by decide) q) (sf_q (S := Sq122) (L := L) (nn := (dl - dp)) hSq122 (by omega) (by omega) (by omega) (by omega) hwf3) (fun oq124 Sq124 hp125 q124 => ?_)
            rcases q124 with ⟨rfl, hc4, hg4, hz4⟩
            show wJ _ _ _ _ _ _ _ _ _ _
            obtain ⟨I4, hI4⟩ : ∃ I4, I4 = sf u L I107 := ⟨_, rfl⟩
            obtain ⟨t4, ht4e⟩ : ∃ t4 : Int, t4 = (if L = [] then t109 else 0) := ⟨_, rfl⟩
            rw [← hI4] at hc4
            have hd4 : ∀ R : pz_R, pz_C (kq T n N X) (vq T n N X) (tp T n 0) f R → R 7 0 [] i dp u I F (.inr (i106, I4, F108, t4)) := fun R hR => by rw [hI4, ht4e]; exact hF2 R hR _ (fc_o L _ I107 t109 (hd110 R hR))
            have hl4 : I4.length = I107.length + L.length := by rw [hI4]; exact sf_len L I107
            have htr4 : 0 ≤ t4 ∧ t4 ≤ 3 := by rw [ht4e]; split <;> omega
            have htl4 : tl_I u I.length t4 I4 := by
                by_cases hL : L = []
                · rw [ht4e, hI4, if_pos hL, hL]; exact tl3
                · rw [ht4e, if_neg hL]; exact Or.inl rfl
            have ht4 : Sq124 63 16 = t4 := by rw [hz4, ht4e, tSq122]
            have hSq124 : cQ T n N X c f u w1 i106 I4 F108 Sq124 := hc4
            have gSq124 : cQg f (I0.length : Int) w S0 Sq124 := cQg_tr gSq122 (cQg_mo hg4 (by omega) (by omega))
            have tSq124 : Sq124 63 16 = t4 := ht4
            have hwt4 : wt_I Sq124 w W := wt_ag W (fun x hx => (cQg_71 hg4 (by omega)).trans ((cQg_71 fg3 (by omega)).trans (cQg_71 hg2 (by omega)))) hwt
            have hD4 : ∀ R : pz_R, pz_C (kq T n N X) (vq T n N X) (tp T n 0) f R → wD R dp u (fun o => R 5 1 [] i0 dp u I0 F0 o) W (pz_lv (kq T n N X i106)) i106 I4 F108 t4 := fun R hR => wH_D (K := kq T n N X) hR how (hH R hR) (hd4 R hR)
            have hlv := lv_rg (kq T n N X i106)
            have hlc := lv_c (kq T n N X i106)
            have hld := lv_d (kq T n N X i106)
            refine wa_aload_n (n := 0) rfl ?_
            refine wb_gf4 63 rfl (wy_pr rfl) wt_63 wf_1_0 (v := 14) wl_63_0 ?_
            refine wa_cv 14 rfl (wy_pr rfl) wt_14 (M2 := fun _ => False) rfl at_XR_kind ⟨_, rfl⟩ rfl rfl ⟨trivial, (Or.inr ⟨wy_pr rfl, fun q => q⟩), trivial, trivial, trivial, trivial, trivial⟩ trivial (fun _ _ q => False.elim q) (kd_q (S := Sq124) hSq124) (fun oq126 Sq126 hp127 q126 => ?_)
            rcases q126 with ⟨rfl, rfl⟩
            show wJ _ _ _ _ _ _ _ _ _ _
            refine wa_istore (n := 6) rfl ?_
            refine wa_iload (n := 6) rfl ?_
            refine wa_bipush (w_rg2 (by omega) (by omega)) ?_
            refine wa_icmpne (w_rg0 (by omega) (by omega)) (w_rg0 (by omega) (by omega)) ⟨_, rfl⟩ (fun c128 => ?_) (fun c128 => ?_)
            · skip
              refine wa_iload (n := 6) rfl ?_
              refine wa_cs (M2 := fun _ => False) rfl at_XP_levelOf ⟨_, rfl⟩ rfl rfl ⟨trivial, trivial, (Or.inr ⟨wy_pr rfl, fun q => q⟩), trivial, trivial, trivial, trivial, trivial⟩ trivial (fun _ _ q => False.elim q) (lv_q (S := Sq124) (k := (kq T n N X i106)) ⟨by omega, by omega⟩) (fun oq129 Sq129 hp130 q129 => ?_)
              rcases q129 with ⟨rfl, rfl⟩
              show wJ _ _ _ _ _ _ _ _ _ _
              refine wa_istore (n := 7) rfl ?_
              refine wa_iload (n := 7) rfl ?_
              refine wa_ifle (w_rg0 (by omega) (by omega)) ⟨_, rfl⟩ (fun c131 => ?_) (fun c131 => ?_)
              · skip
                refine wa_iconst ?_
                refine wa_fall ⟨_, rfl⟩ ?_
                refine wa_istore_n (n := 3) rfl ?_
                refine wa_iload_n (n := 3) rfl ?_
                refine wa_ifeq (w_rg0 (by omega) (by omega)) ⟨_, rfl⟩ (fun c132 => ?_) (fun c132 => ?_)
                · skip
                  refine wa_iinc rfl rfl ?_
                  refine wa_goto ⟨_, rfl⟩ ?_
                  refine wa_iload_n (n := 3) rfl ?_
                  refine wa_ifeq (w_rg0 (by omega) (by omega)) ⟨_, rfl⟩ (fun c133 => ?_) (fun c133 => ?_)
                  · skip
                    refine wa_aload_n (n := 0) rfl ?_
                    refine wa_iload_n (n := 2) rfl ?_
                    refine wa_iconst ?_
                    refine wa_cv 63 rfl (wy_pr rfl) wt_63 (M2 := mS [64, 65, 66, 67]) rfl at_XP_settle ⟨_, rfl⟩ rfl rfl ⟨trivial, trivial, trivial, trivial, trivial, (Or.inr ⟨wy_pr rfl, mS_no rfl⟩), trivial, trivial, trivial⟩ trivial (fun _ _ q => mS_sub (by decide) q) (se_q (m := I0.length) (dp := dp) (lev := 1) ⟨by omega, by omega, by omega⟩ ⟨by omega, by omega⟩ W I4 w1 Sq124 hSq124 hw1 hwt4 (ow_le (by omega) W how) (by omega) (by omega)) (fun oq134 Sq134 hp135 q134 => ?_)
                    rcases q134 with ⟨W6, I6, rfl, hc6, hwt6, how6, hwl6, hg6, ⟨hl6, hl6b⟩, ht6, hD6⟩
                    show wJ _ _ _ _ _ _ _ _ _ _
                    have hSq134 : cQ T n N X c f u (w + 2 * (W6.length : Int)) i106 I6 F108 Sq134 := hc6
                    have gSq134 : cQg f (I0.length : Int) w S0 Sq134 := cQg_tr gSq124 (cQg_mo hg6 (by omega) (by omega))
                    have tSq134 : Sq134 63 16 = t4 := (ht6).trans tSq124
                    have hol6 := ow_len W6 how6
                    have hox6 := ow_wl W6 how6
                    refine wa_aload_n (n := 0) rfl ?_
                    refine wa_iconst ?_
                    refine wb_pfi 63 rfl (wy_pr rfl) wt_63 wf_1_16 (n := 16) rfl ⟨(by omega), (by omega)⟩ ?_
                    refine wa_return rfl ?_
                    have hW6 : W6 = [] := by cases W6 with | nil => rfl | cons y W6 => exact absurd hwl6 (by have := how6.1; show ¬ (pz_lv y.1 + 1 ≤ 1); omega)
                    subst hW6
                    have e06 : w + 2 * (([] : List (Int × Nat)).length : Int) = w := by show w + 2 * 0 = w; omega
                    have hc9 := (cQ_63 (k := 16) (x := 0) hSq134 (Or.inl rfl))
                    rw [e06] at hc9
                    refine Or.inl ⟨_, _, _, 0, rfl, fun R hR => pz_cVA hR ?_, hc9, (cQg_tr gSq134 (cQg_up (by omega) (by decide) (by omega))), ⟨by omega, by omega, (pz_le_tr hle p115), by omega⟩, (w_up_same _ _ _ _)⟩
                    unfold pz_VA
                    have hk0 : pz_lv (kq T n N X i106) = 0 := by omega
                    obtain ⟨t9, h9⟩ := hD6 R hR _ t4 (hD4 R hR)
                    rw [hk0] at h9
                    refine pz_qo (wD_end h9) ?_
                    repeat first | rw [if_pos (by omega)] | rw [if_neg (by omega)]
                    all_goals rfl
                  · skip
                    exact absurd c133 (by omega)
                · skip
                  exact absurd c132 (by omega)
              · skip
                refine wa_iconst ?_
                refine wa_goto ⟨_, rfl⟩ ?_
                refine wa_istore_n (n := 3) rfl ?_
                refine wa_iload_n (n := 3) rfl ?_
                refine wa_ifeq (w_rg0 (by omega) (by omega)) ⟨_, rfl⟩ (fun c136 => ?_) (fun c136 => ?_)
                · skip
                  exact absurd c136 (by omega)
                · skip
                  refine wa_aload_n (n := 0) rfl ?_
                  refine wa_iload_n (n := 2) rfl ?_
                  refine wa_iload (n := 7) rfl ?_
                  refine wa_cv 63 rfl (wy_pr rfl) wt_63 (M2 := mS [64, 65, 66, 67]) rfl at_XP_settle ⟨_, rfl⟩ rfl rfl ⟨trivial, trivial, trivial, trivial, (Or.inr ⟨wy_pr rfl, mS_no rfl⟩), trivial, trivial, trivial, trivial⟩ trivial (fun _ _ q => mS_sub (by decide) q) (se_q (m := I0.length) (dp := dp) (lev := (pz_lv (kq T n N X i106))) ⟨by omega, by omega, by omega⟩ ⟨by omega, by omega⟩ W I4 w1 Sq124 hSq124 hw1 hwt4 (ow_le (by omega) W how) (by omega) (by omega)) (fun oq137 Sq137 hp138 q137 => ?_)
                  rcases q137 with ⟨W6, I6, rfl, hc6, hwt6, how6, hwl6, hg6, ⟨hl6, hl6b⟩, ht6, hD6⟩
                  show wJ _ _ _ _ _ _ _ _ _ _
                  have hSq137 : cQ T n N X c f u (w + 2 * (W6.length : Int)) i106 I6 F108 Sq137 := hc6
                  have gSq137 : cQg f (I0.length : Int) w S0 Sq137 := cQg_tr gSq124 (cQg_mo hg6 (by omega) (by omega))
                  have tSq137 : Sq137 63 16 = t4 := (ht6).trans tSq124
                  have hol6 := ow_len W6 how6
                  have hox6 := ow_wl W6 how6
                  refine wa_iload (n := 6) rfl ?_
                  refine wa_bipush (w_rg2 (by omega) (by omega)) ?_
                  refine wa_icmpeq (w_rg0 (by omega) (by omega)) (w_rg0 (by omega) (by omega)) ⟨_, rfl⟩ (fun c139 => ?_) (fun c139 => ?_)
                  · skip
                    refine wa_aload_n (n := 0) rfl ?_
                    refine wa_iload (n := 6) rfl ?_
                    refine wa_bipush (w_rg2 (by omega) (by omega)) ?_
                    refine wa_icmpne (w_rg0 (by omega) (by omega)) (w_rg0 (by omega) (by omega)) ⟨_, rfl⟩ (fun c140 => ?_) (fun c140 => ?_)
                    · skip
                      exact absurd c140 (by omega)
                    · skip
                      refine wa_bipush (w_rg2 (by omega) (by omega)) ?_
                      refine wa_goto ⟨_, rfl⟩ ?_
                      refine wa_iconst ?_
                      refine wa_iconst ?_
                      refine wa_cv 63 rfl (wy_pr rfl) wt_63 (M2 := mS [64, 65, 66, 67]) rfl at_XP_note ⟨_, rfl⟩ rfl rfl ⟨trivial, trivial, trivial, trivial, (Or.inr ⟨wy_pr rfl, mS_no rfl⟩), trivial, trivial, trivial, trivial⟩ trivial (fun _ _ q => mS_sub (by decide) q) (nt_q (S := Sq137) (op := 22) (a := 0) (b := 0) (l := I6.length) hSq137 ⟨by omega, by omega⟩ ⟨by omega, by omega⟩ ⟨by omega, by omega⟩ (by omega) (by omega) (by omega)) (fun oq144 Sq144 hp145 q144 => ?_)
                      rcases q144 with ⟨rfl, hc141, hg142, ht143⟩
                      show wJ _ _ _ _ _ _ _ _ _ _
                      have hSq144 : cQ T n N X c f u (w + 2 * (W6.length : Int)) i106 (I6 ++ [(22, 0, 0, u)]) F108 Sq144 := hc141
                      have gSq144 : cQg f (I0.length : Int) w S0 Sq144 := cQg_tr gSq137 (hg142 _ _ (by omega))
                      have tSq144 : Sq144 63 16 = t4 := (ht143).trans tSq137
                      have hlSq144 : (I6 ++ [(22, 0, 0, u)]).length = I6.length + 1 := List.length_append
                      refine wa_goto ⟨_, rfl⟩ ?_
                      refine wa_istore (n := 8) rfl ?_
                      refine wa_aload_n (n := 0) rfl ?_
                      refine wa_iload (n := 6) rfl ?_
                      refine wa_iload (n := 8) rfl ?_
                      refine wa_cv 63 rfl (wy_pr rfl) wt_63 (M2 := fun _ => False) rfl at_XP_await ⟨_, rfl⟩ rfl rfl ⟨trivial, trivial, trivial, trivial, trivial, (Or.inr ⟨wy_pr rfl, fun q => q⟩), trivial, trivial, trivial, trivial⟩ trivial (fun _ _ q => False.elim q) (aw_q (S := Sq144) (k := (kq T n N X i106)) (j := ((I6.length : Nat) : Int)) hSq144 (by omega) ⟨by omega, by omega⟩ ⟨by omega, by omega⟩) (fun oq146 Sq146 hp147 q146 => ?_)
                      rcases q146 with ⟨rfl, hc7, hv7, hg7, ht7⟩
                      show wJ _ _ _ _ _ _ _ _ _ _
                      have hSq146 : cQ T n N X c f u ((w + 2 * (W6.length : Int)) + 2) i106 (I6 ++ [(22, 0, 0, u)]) F108 Sq146 := hc7
                      have gSq146 : cQg f (I0.length : Int) w S0 Sq146 := cQg_tr gSq144 (cQg_mo (hg7 (I0.length : Int)) (by omega) (by omega))
                      have tSq146 : Sq146 63 16 = t4 := (ht7).trans tSq144
                      have hv7b := hv7
                      refine wa_aload_n (n := 0) rfl ?_
                      refine wb_gf4 63 rfl (wy_pr rfl) wt_63 wf_1_0 (v := 14) wl_63_0 ?_
                      refine wa_cv 14 rfl (wy_pr rfl) wt_14 (M2 := fun _ => False) rfl at_XR_next ⟨_, rfl⟩ rfl rfl ⟨trivial, trivial, trivial, trivial, trivial, (Or.inr ⟨wy_pr rfl, fun q => q⟩), trivial, trivial, trivial, trivial⟩ trivial (fun _ _ q => False.elim q) (nx_q (S := Sq146) hSq146 ⟨by omega, by omega⟩) (fun oq151 Sq151 hp152 q151 => ?_)
                      rcases q151 with ⟨rfl, hc148, hg149, ht150⟩
                      show wJ _ _ _ _ _ _ _ _ _ _
                      have hSq151 : cQ T n N X c f u ((w + 2 * (W6.length : Int)) + 2) (i106 + 1) (I6 ++ [(22, 0, 0, u)]) F108 Sq151 := hc148
                      have gSq151 : cQg f (I0.length : Int) w S0 Sq151 := cQg_tr gSq146 (hg149 _ _)
                      have krSq151 := kq_rg T n N X (i106 + 1)
                      have icSq151 := cQ_ic hSq151
                      have tSq151 : Sq151 63 16 = t4 := (ht150.1).trans tSq146
                      have hv7x : Sq151 71 (w + 2 * (W6.length : Int)) = (kq T n N X i106) ∧ Sq151 71 (w + 2 * (W6.length : Int) + 1) = (I6.length : Int) := ⟨(cQg_71 (hg149 0 (w + 2 * (W6.length : Int) + 2)) (by omega)).trans hv7.1, (cQg_71 (hg149 0 (w + 2 * (W6.length : Int) + 2)) (by omega)).trans hv7.2⟩
                      have hv7y : ∀ x : Int, x < w + 2 * (W6.length : Int) → Sq151 71 x = Sq137 71 x := fun x hx => (cQg_71 (hg149 0 (w + 2 * (W6.length : Int) + 2)) (by omega)).trans ((cQg_71 (hg7 0) hx).trans (cQg_71 (hg142 0 (w + 2 * (W6.length : Int)) (by omega)) hx))
                      refine wa_fall ⟨_, rfl⟩ ?_
                      refine wa_iinc rfl rfl ?_
                      refine wa_goto ⟨_, rfl⟩ ?_
                      have hlnW : (((kq T n N X i106, I6.length) :: W6 : List (Int × Nat)).length : Int) = (W6.length : Int) + 1 := rfl
                      have hlnW2 : ((kq T n N X i106, I6.length) :: W6 : List (Int × Nat)).length = W6.length + 1 := rfl
                      have hawW : (pz_lv (kq T n N X i106) ≤ 2 ∧ awN ((kq T n N X i106, I6.length) :: W6) = awN W6) ∨ (3 ≤ pz_lv (kq T n N X i106) ∧ awN ((kq T n N X i106, I6.length) :: W6) = awN W6 + 1) := awN_c (kq T n N X i106, I6.length) W6
                      have hwt9 : wt_I Sq151 w ((kq T n N X i106, I6.length) :: W6) := ⟨hv7x.1, hv7x.2, wt_ag W6 (fun x hx => hv7y x hx) hwt6⟩
                      · refine wJ_S (ih ((kq T n N X i106, I6.length) :: W6) (q + 1) ((w + 2 * (W6.length : Int)) + 2) (i106 + 1) (I6 ++ [(22, 0, 0, u)]) F108 Sq151 (by omega) hSq151 (by omega) (by omega) ⟨by omega, by omega, by omega, by omega⟩ (pz_le_tr hle p115) gSq151 hwt9 ⟨⟨by show 1 ≤ pz_lv (kq T n N X i106); omega, by show pz_lv (kq T n N X i106) ≤ 6; omega⟩, hwl6, fun hj => ⟨by show I0.length ≤ I6.length; have hj2 : pz_lv (kq T n N X i106) ≤ 2 := hj; omega, by show I6.length < _; have hj2 : pz_lv (kq T n N X i106) ≤ 2 := hj; omega⟩, ow_le (by omega) W6 how6⟩ ⟨by omega, by omega⟩ (fun R hR => ?_)) ⟨rfl, rfl, rfl, rfl, rfl, trivial⟩
                        obtain ⟨t9, h9⟩ := hD6 R hR _ t4 (hD4 R hR)
                        have h10 := wD_push (K := kq T n N X) (i := i106) (j := I6.length) hR (by omega) hwl6 (fun hj => by first | rfl | (exfalso; omega)) h9
                        rw [if_pos (by omega), if_pos (by omega)] at h10
                        exact h10
                  · skip
                    refine wa_iload (n := 6) rfl ?_
                    refine wa_bipush (w_rg2 (by omega) (by omega)) ?_
                    refine wa_icmpne (w_rg0 (by omega) (by omega)) (w_rg0 (by omega) (by omega)) ⟨_, rfl⟩ (fun c153 => ?_) (fun c153 => ?_)
                    · skip
                      refine wa_iconst ?_
                      refine wa_fall ⟨_, rfl⟩ ?_
                      refine wa_istore (n := 8) rfl ?_
                      refine wa_aload_n (n := 0) rfl ?_
                      refine wa_iload (n := 6) rfl ?_
                      refine wa_iload (n := 8) rfl ?_
                      refine wa_cv 63 rfl (wy_pr rfl) wt_63 (M2 := fun _ => False) rfl at_XP_await ⟨_, rfl⟩ rfl rfl ⟨trivial, trivial, trivial, trivial, trivial, (Or.inr ⟨wy_pr rfl, fun q => q⟩), trivial, trivial, trivial, trivial⟩ trivial (fun _ _ q => False.elim q) (aw_q (S := Sq137) (k := (kq T n N X i106)) (j := 0) hSq137 (by omega) ⟨by omega, by omega⟩ ⟨by omega, by omega⟩) (fun oq154 Sq154 hp155 q154 => ?_)
                      rcases q154 with ⟨rfl, hc7, hv7, hg7, ht7⟩
                      show wJ _ _ _ _ _ _ _ _ _ _
                      have hSq154 : cQ T n N X c f u ((w + 2 * (W6.length : Int)) + 2) i106 I6 F108 Sq154 := hc7
                      have gSq154 : cQg f (I0.length : Int) w S0 Sq154 := cQg_tr gSq137 (cQg_mo (hg7 (I0.length : Int)) (by omega) (by omega))
                      have tSq154 : Sq154 63 16 = t4 := (ht7).trans tSq137
                      have hv7b := hv7
                      refine wa_aload_n (n := 0) rfl ?_
                      refine wb_gf4 63 rfl (wy_pr rfl) wt_63 wf_1_0 (v := 14) wl_63_0 ?_
                      refine wa_cv 14 rfl (wy_pr rfl) wt_14 (M2 := fun _ => False) rfl at_XR_next ⟨_, rfl⟩ rfl rfl ⟨trivial, trivial, trivial, trivial, trivial, (Or.inr ⟨wy_pr rfl, fun q => q⟩), trivial, trivial, trivial, trivial⟩ trivial (fun _ _ q => False.elim q) (nx_q (S := Sq154) hSq154 ⟨by omega, by omega⟩) (fun oq159 Sq159 hp160 q159 => ?_)
                      rcases q159 with ⟨rfl, hc156, hg157, ht158⟩
                      show wJ _ _ _ _ _ _ _ _ _ _
                      have hSq159 : cQ T n N X c f u ((w + 2 * (W6.length : Int)) + 2) (i106 + 1) I6 F108 Sq159 := hc156
                      have gSq159 : cQg f (I0.length : Int) w S0 Sq159 := cQg_tr gSq154 (hg157 _ _)
                      have krSq159 := kq_rg T n N X (i106 + 1)
                      have icSq159 := cQ_ic hSq159
                      have tSq159 : Sq159 63 16 = t4 := (ht158.1).trans tSq154
                      have hv7x : Sq159 71 (w + 2 * (W6.length : Int)) = (kq T n N X i106) ∧ Sq159 71 (w + 2 * (W6.length : Int) + 1) = ((0 : Nat) : Int) := ⟨(cQg_71 (hg157 0 (w + 2 * (W6.length : Int) + 2)) (by omega)).trans hv7.1, (cQg_71 (hg157 0 (w + 2 * (W6.length : Int) + 2)) (by omega)).trans hv7.2⟩
                      have hv7y : ∀ x : Int, x < w + 2 * (W6.length : Int) → Sq159 71 x = Sq137 71 x := fun x hx => (cQg_71 (hg157 0 (w + 2 * (W6.length : Int) + 2)) (by omega)).trans ((cQg_71 (hg7 0) hx).trans rfl)
                      refine wa_fall ⟨_, rfl⟩ ?_
                      refine wa_iinc rfl rfl ?_
                      refine wa_goto ⟨_, rfl⟩ ?_
                      have hlnW : (((kq T n N X i106, 0) :: W6 : List (Int × Nat)).length : Int) = (W6.length : Int) + 1 := rfl
                      have hlnW2 : ((kq T n N X i106, 0) :: W6 : List (Int × Nat)).length = W6.length + 1 := rfl
                      have hawW : (pz_lv (kq T n N X i106) ≤ 2 ∧ awN ((kq T n N X i106, 0) :: W6) = awN W6) ∨ (3 ≤ pz_lv (kq T n N X i106) ∧ awN ((kq T n N X i106, 0) :: W6) = awN W6 + 1) := awN_c (kq T n N X i106, 0) W6
                      have hwt9 : wt_I Sq159 w ((kq T n N X i106, 0) :: W6) := ⟨hv7x.1, hv7x.2, wt_ag W6 (fun x hx => hv7y x hx) hwt6⟩
                      · refine wJ_S (ih ((kq T n N X i106, 0) :: W6) (q + 1) ((w + 2 * (W6.length : Int)) + 2) (i106 + 1) I6 F108 Sq159 (by omega) hSq159 (by omega) (by omega) ⟨by omega, by omega, by omega, by omega⟩ (pz_le_tr hle p115) gSq159 hwt9 ⟨⟨by show 1 ≤ pz_lv (kq T n N X i106); omega, by show pz_lv (kq T n N X i106) ≤ 6; omega⟩, hwl6, fun hj => ⟨by show I0.length ≤ 0; have hj2 : pz_lv (kq T n N X i106) ≤ 2 := hj; omega, by show 0 < _; have hj2 : pz_lv (kq T n N X i106) ≤ 2 := hj; omega⟩, ow_le (by omega) W6 how6⟩ ⟨by omega, by omega⟩ (fun R hR => ?_)) ⟨rfl, rfl, rfl, rfl, rfl, trivial⟩
                        obtain ⟨t9, h9⟩ := hD6 R hR _ t4 (hD4 R hR)
                        have h10 := wD_push (K := kq T n N X) (i := i106) (j := 0) hR (by omega) hwl6 (fun hj => by first | rfl | (exfalso; omega)) h9
                        rw [if_neg (by omega)] at h10
                        exact h10
                    · skip
                      refine wa_fall ⟨_, rfl⟩ ?_
                      refine wa_aload_n (n := 0) rfl ?_
                      refine wa_iload (n := 6) rfl ?_
                      refine wa_bipush (w_rg2 (by omega) (by omega)) ?_
                      refine wa_icmpne (w_rg0 (by omega) (by omega)) (w_rg0 (by omega) (by omega)) ⟨_, rfl⟩ (fun c161 => ?_) (fun c161 => ?_)
                      · skip
                        refine wa_bipush (w_rg2 (by omega) (by omega)) ?_
                        refine wa_fall ⟨_, rfl⟩ ?_
                        refine wa_iconst ?_
                        refine wa_iconst ?_
                        refine wa_cv 63 rfl (wy_pr rfl) wt_63 (M2 := mS [64, 65, 66, 67]) rfl at_XP_note ⟨_, rfl⟩ rfl rfl ⟨trivial, trivial, trivial, trivial, (Or.inr ⟨wy_pr rfl, mS_no rfl⟩), trivial, trivial, trivial, trivial⟩ trivial (fun _ _ q => mS_sub (by decide) q) (nt_q (S := Sq137) (op := 23) (a := 0) (b := 0) (l := I6.length) hSq137 ⟨by omega, by omega⟩ ⟨by omega, by omega⟩ ⟨by omega, by omega⟩ (by omega) (by omega) (by omega)) (fun oq165 Sq165 hp166 q165 => ?_)
                        rcases q165 with ⟨rfl, hc162, hg163, ht164⟩
                        show wJ _ _ _ _ _ _ _ _ _ _
                        have hSq165 : cQ T n N X c f u (w + 2 * (W6.length : Int)) i106 (I6 ++ [(23, 0, 0, u)]) F108 Sq165 := hc162
                        have gSq165 : cQg f (I0.length : Int) w S0 Sq165 := cQg_tr gSq137 (hg163 _ _ (by omega))
                        have tSq165 : Sq165 63 16 = t4 := (ht164).trans tSq137
                        have hlSq165 : (I6 ++ [(23, 0, 0, u)]).length = I6.length + 1 := List.length_append
                        refine wa_goto ⟨_, rfl⟩ ?_
                        refine wa_istore (n := 8) rfl ?_
                        refine wa_aload_n (n := 0) rfl ?_
                        refine wa_iload (n := 6) rfl ?_
                        refine wa_iload (n := 8) rfl ?_
                        refine wa_cv 63 rfl (wy_pr rfl) wt_63 (M2 := fun _ => False) rfl at_XP_await ⟨_, rfl⟩ rfl rfl ⟨trivial, trivial, trivial, trivial, trivial, (Or.inr ⟨wy_pr rfl, fun q => q⟩), trivial, trivial, trivial, trivial⟩ trivial (fun _ _ q => False.elim q) (aw_q (S := Sq165) (k := (kq T n N X i106)) (j := ((I6.length : Nat) : Int)) hSq165 (by omega) ⟨by omega, by omega⟩ ⟨by omega, by omega⟩) (fun oq167 Sq167 hp168 q167 => ?_)
                        rcases q167 with ⟨rfl, hc7, hv7, hg7, ht7⟩
                        show wJ _ _ _ _ _ _ _ _ _ _
                        have hSq167 : cQ T n N X c f u ((w + 2 * (W6.length : Int)) + 2) i106 (I6 ++ [(23, 0, 0, u)]) F108 Sq167 := hc7
                        have gSq167 : cQg f (I0.length : Int) w S0 Sq167 := cQg_tr gSq165 (cQg_mo (hg7 (I0.length : Int)) (by omega) (by omega))
                        have tSq167 : Sq167 63 16 = t4 := (ht7).trans tSq165
                        have hv7b := hv7
                        refine wa_aload_n (n := 0) rfl ?_
                        refine wb_gf4 63 rfl (wy_pr rfl) wt_63 wf_1_0 (v := 14) wl_63_0 ?_
                        refine wa_cv 14 rfl (wy_pr rfl) wt_14 (M2 := fun _ => False) rfl at_XR_next ⟨_, rfl⟩ rfl rfl ⟨trivial, trivial, trivial, trivial, trivial, (Or.inr ⟨wy_pr rfl, fun q => q⟩), trivial, trivial, trivial, trivial⟩ trivial (fun _ _ q => False.elim q) (nx_q (S := Sq167) hSq167 ⟨by omega, by omega⟩) (fun oq172 Sq172 hp173 q172 => ?_)
                        rcases q172 with ⟨rfl, hc169, hg170, ht171⟩
                        show wJ _ _ _ _ _ _ _ _ _ _
                        have hSq172 : cQ T n N X c f u ((w + 2 * (W6.length : Int)) + 2) (i106 + 1) (I6 ++ [(23, 0, 0, u)]) F108 Sq172 := hc169
                        have gSq172 : cQg f (I0.length : Int) w S0 Sq172 := cQg_tr gSq167 (hg170 _ _)
                        have krSq172 := kq_rg T n N X (i106 + 1)
                        have icSq172 := cQ_ic hSq172
                        have tSq172 : Sq172 63 16 = t4 := (ht171.1).trans tSq167
                        have hv7x : Sq172 71 (w + 2 * (W6.length : Int)) = (kq T n N X i106) ∧ Sq172 71 (w + 2 * (W6.length : Int) + 1) = (I6.length : Int) := ⟨(cQg_71 (hg170 0 (w + 2 * (W6.length : Int) + 2)) (by omega)).trans hv7.1, (cQg_71 (hg170 0 (w + 2 * (W6.length : Int) + 2)) (by omega)).trans hv7.2⟩
                        have hv7y : ∀ x : Int, x < w + 2 * (W6.length : Int) → Sq172 71 x = Sq137 71 x := fun x hx => (cQg_71 (hg170 0 (w + 2 * (W6.length : Int) + 2)) (by omega)).trans ((cQg_71 (hg7 0) hx).trans (cQg_71 (hg163 0 (w + 2 * (W6.length : Int)) (by omega)) hx))
                        refine wa_fall ⟨_, rfl⟩ ?_
                        refine wa_iinc rfl rfl ?_
                        refine wa_goto ⟨_, rfl⟩ ?_
                        have hlnW : (((kq T n N X i106, I6.length) :: W6 : List (Int × Nat)).length : Int) = (W6.length : Int) + 1 := rfl
                        have hlnW2 : ((kq T n N X i106, I6.length) :: W6 : List (Int × Nat)).length = W6.length + 1 := rfl
                        have hawW : (pz_lv (kq T n N X i106) ≤ 2 ∧ awN ((kq T n N X i106, I6.length) :: W6) = awN W6) ∨ (3 ≤ pz_lv (kq T n N X i106) ∧ awN ((kq T n N X i106, I6.length) :: W6) = awN W6 + 1) := awN_c (kq T n N X i106, I6.length) W6
                        have hwt9 : wt_I Sq172 w ((kq T n N X i106, I6.length) :: W6) := ⟨hv7x.1, hv7x.2, wt_ag W6 (fun x hx => hv7y x hx) hwt6⟩
                        · refine wJ_S (ih ((kq T n N X i106, I6.length) :: W6) (q + 1) ((w + 2 * (W6.length : Int)) + 2) (i106 + 1) (I6 ++ [(23, 0, 0, u)]) F108 Sq172 (by omega) hSq172 (by omega) (by omega) ⟨by omega, by omega, by omega, by omega⟩ (pz_le_tr hle p115) gSq172 hwt9 ⟨⟨by show 1 ≤ pz_lv (kq T n N X i106); omega, by show pz_lv (kq T n N X i106) ≤ 6; omega⟩, hwl6, fun hj => ⟨by show I0.length ≤ I6.length; have hj2 : pz_lv (kq T n N X i106) ≤ 2 := hj; omega, by show I6.length < _; have hj2 : pz_lv (kq T n N X i106) ≤ 2 := hj; omega⟩, ow_le (by omega) W6 how6⟩ ⟨by omega, by omega⟩ (fun R hR => ?_)) ⟨rfl, rfl, rfl, rfl, rfl, trivial⟩
                          obtain ⟨t9, h9⟩ := hD6 R hR _ t4 (hD4 R hR)
                          have h10 := wD_push (K := kq T n N X) (i := i106) (j := I6.length) hR (by omega) hwl6 (fun hj => by first | rfl | (exfalso; omega)) h9
                          rw [if_pos (by omega), if_neg (by omega)] at h10
                          exact h10
                      · skip
                        exact absurd c161 (by omega)
            · skip
              refine wa_aload_n (n := 0) rfl ?_
              refine wa_iload_n (n := 1) rfl ?_
              refine wa_iload_n (n := 2) rfl ?_
              refine wa_cv 63 rfl (wy_pr rfl) wt_63 (M2 := mS [64, 65, 66, 67, 69, 70]) rfl at_XP_readAssigned ⟨_, rfl⟩ rfl rfl ⟨trivial, trivial, (Or.inr ⟨wy_pr rfl, mS_no rfl⟩), trivial, trivial, trivial, trivial, trivial⟩ trivial (fun _ _ q => q) (as_a (S := Sq124) (mm := I.length) hX hS hSq124 (by omega) ⟨by omega, by omega, by omega⟩ (by omega) hw hw0 (by omega) (by omega) tSq124 htr4 htl4) (fun oq174 Sq174 hp175 q174 => ?_)
              rcases q174 with ⟨hr5, v5, rfl, hz5⟩ | ⟨hr5, ⟨i5, I5, F5, rfl, hd5, hc5, hg5, p51, p52, p53, p54⟩ | ⟨v5, x5, rfl, hd5, hz5⟩⟩
              · skip
                refine ⟨rfl, ?_⟩
                refine Or.inr ⟨_, _, rfl, fun R hR => pz_cVA hR ?_, cQf_of gSq124 (by omega) (by omega) (cQn_of hSq124) hz5⟩
                unfold pz_VA
                have hk0 : pz_lv (kq T n N X i106) = 0 := by rw [show kq T n N X i106 = 20 by omega]; rfl
                obtain ⟨I9, t9, a9, b9, c9⟩ := wD_all (K := kq T n N X) hR hk0 W I4 t4 how (by rw [← hk0]; exact hD4 R hR)
                have ht9 : t9 = 0 := by
                  by_cases hW : W = []
                  · rw [c9 hW]; rw [hW] at hw1; have e0 : (([] : List (Int × Nat)).length : Int) = 0 := rfl; omega
                  · exact b9 hW
                refine pz_qo a9 ?_
                repeat first | rw [if_pos (by omega)] | rw [if_neg (by omega)]
                all_goals rfl
              · skip
                show wJ _ _ _ _ _ _ _ _ _ _
                have hSq174 : cQ T n N X c f u w i5 I5 F5 Sq174 := hc5
                have gSq174 : cQg f (I0.length : Int) w S0 Sq174 := cQg_tr gSq124 (cQg_mo hg5 (by omega) (by omega))
                have krSq174 := kq_rg T n N X i5
                have icSq174 := cQ_ic hSq174
                have fl5 := p53.1
                have hl20 : pz_lv (kq T n N X i106) = 0 := by rw [show kq T n N X i106 = 20 by omega]; rfl
                refine wa_fall ⟨_, rfl⟩ ?_
                refine wa_iload (n := 6) rfl ?_
                refine wa_cs (M2 := fun _ => False) rfl at_XP_levelOf ⟨_, rfl⟩ rfl rfl ⟨trivial, trivial, (Or.inr ⟨wy_pr rfl, fun q => q⟩), trivial, trivial, trivial, trivial, trivial⟩ trivial (fun _ _ q => False.elim q) (lv_q0 (S := Sq174) (k := (kq T n N X i106)) ⟨by omega, by omega⟩ hl20) (fun oq176 Sq176 hp177 q176 => ?_)
                rcases q176 with ⟨rfl, rfl⟩
                show wJ _ _ _ _ _ _ _ _ _ _
                refine wa_istore (n := 7) rfl ?_
                refine wa_iload (n := 7) rfl ?_
                refine wa_ifle (w_rg0 (by omega) (by omega)) ⟨_, rfl⟩ (fun c178 => ?_) (fun c178 => ?_)
                · skip
                  refine wa_iconst ?_
                  refine wa_fall ⟨_, rfl⟩ ?_
                  refine wa_istore_n (n := 3) rfl ?_
                  refine wa_iload_n (n := 3) rfl ?_
                  refine wa_ifeq (w_rg0 (by omega) (by omega)) ⟨_, rfl⟩ (fun c179 => ?_) (fun c179 => ?_)
                  · skip
                    refine wa_iinc rfl rfl ?_
                    refine wa_goto ⟨_, rfl⟩ ?_
                    refine wa_iload_n (n := 3) rfl ?_
                    refine wa_ifeq (w_rg0 (by omega) (by omega)) ⟨_, rfl⟩ (fun c180 => ?_) (fun c180 => ?_)
                    · skip
                      refine wa_aload_n (n := 0) rfl ?_
                      refine wa_iload_n (n := 2) rfl ?_
                      refine wa_iconst ?_
                      refine wa_cv 63 rfl (wy_pr rfl) wt_63 (M2 := fun _ => False) rfl at_XP_settle ⟨_, rfl⟩ rfl rfl ⟨trivial, trivial, trivial, trivial, trivial, (Or.inr ⟨wy_pr rfl, fun q => q⟩), trivial, trivial, trivial⟩ trivial (fun _ _ q => False.elim q) (se_0 (S := Sq174) (lev := 1) hSq174 ⟨by omega, by omega⟩) (fun oq181 Sq181 hp182 q181 => ?_)
                      rcases q181 with ⟨rfl, rfl⟩
                      show wJ _ _ _ _ _ _ _ _ _ _
                      refine wa_aload_n (n := 0) rfl ?_
                      refine wa_iconst ?_
                      refine wb_pfi 63 rfl (wy_pr rfl) wt_63 wf_1_16 (n := 16) rfl ⟨(by omega), (by omega)⟩ ?_
                      refine wa_return rfl ?_
                      refine Or.inl ⟨_, _, _, 0, rfl, fun R hR => pz_cVA hR ?_, (cQ_63 (k := 16) (x := 0) hSq174 (Or.inl rfl)), (cQg_tr gSq174 (cQg_up (by omega) (by decide) (by omega))), ⟨by omega, by omega, (pz_le_tr (pz_le_tr hle p115) p53), by omega⟩, (w_up_same _ _ _ _)⟩
                      unfold pz_VA
                      have hW : W = [] := by cases W with | nil => rfl | cons y W => exact absurd hw1 (by have e0 : ((y :: W).length : Int) = (W.length : Int) + 1 := rfl; omega)
                      have h9 := hD4 R hR
                      rw [hl20, hW] at h9
                      refine pz_qo (wD_end h9) ?_
                      rw [if_neg (by omega), if_neg (by omega)]
                      exact hd5 R hR
                    · skip
                      exact absurd c180 (by omega)
                  · skip
                    exact absurd c179 (by omega)
                · skip
                  exact absurd c178 (by omega)
              · skip
                refine ⟨rfl, ?_⟩
                refine Or.inr ⟨_, _, rfl, fun R hR => pz_cVA hR ?_, cQf_tr gSq124 (by omega) (by omega) hz5⟩
                unfold pz_VA
                have hk0 : pz_lv (kq T n N X i106) = 0 := by rw [show kq T n N X i106 = 20 by omega]; rfl
                have hW : W = [] := by cases W with | nil => rfl | cons y W => exact absurd hw1 (by have e0 : ((y :: W).length : Int) = (W.length : Int) + 1 := rfl; omega)
                have h9 := hD4 R hR
                rw [hk0, hW] at h9
                refine pz_qo (wD_end h9) ?_
                rw [if_neg (by omega), if_neg (by omega)]
                exact hd5 R hR
          · skip
            refine ⟨rfl, ?_⟩
            refine Or.inr ⟨_, _, rfl, fun R hR => pz_cVA hR ?_, cQf_tr gSq104 (by omega) (by omega) hz121⟩
            unfold pz_VA
            exact pz_qi (wH_f hR how (hH R hR) (hF2 R hR _ (fc_f L _ (hd120 R hR))))
        · skip
          refine ⟨rfl, ?_⟩
          refine Or.inr ⟨_, _, rfl, fun R hR => pz_cVA hR ?_, cQf_tr hg0 (by omega) (by omega) hz2⟩
          unfold pz_VA
          exact pz_qi (wH_f hR how (hH R hR) (hF2 R hR))
theorem cX_s {m : Nat} (hx101 : pe_at (pe_GA xs).xs 101 = some (1, tx_101)) (hX : cX xs T n N X c f m) (hS : cST xs T n N X c f m) : cX xs T n N X c f (m + 1) := by
  intro D dp u w i I F S hm hD hI h
  have hwr := cQ_wr h
  refine wa_aload_n (n := 0) rfl ?_
  refine wb_gfi 63 rfl (wy_pr rfl) wt_63 wf_1_15 (v := w) ((cQ_15 h)) (fun r101 => ?_)
  refine wa_istore_n (n := 2) rfl ?_
  refine wa_iconst ?_
  refine wa_istore_n (n := 3) rfl ?_
  refine wa_iconst ?_
  refine wa_istore (n := 4) rfl ?_
  refine wa_fall ⟨_, rfl⟩ ?_
  refine wJ_S (ex_1 (S0 := S) (i0 := i) (I0 := I) (F0 := F) hX hS hx101 hD hI.2 hwr.1 (c + 1) [] 0 w i I F S (by omega) h (by show w = w + 2 * 0; omega) hm ⟨Nat.le_refl _, by show I.length + 0 + 1 * i ≤ _; omega, hI.1, Nat.le_refl _⟩ pz_le_rfl cQg_rfl trivial trivial ⟨by omega, by omega⟩ (fun R hR o q => ?_)) ⟨rfl, rfl, rfl, rfl, rfl, trivial⟩
  rcases q with ⟨v, q, rfl⟩ | ⟨i2, I2, F2, t2, q, q2⟩
  · exact q
  · have q3 : o = .inr (i2, I2, F2, t2) := q2
    rw [q3]; exact q
/-- every expression and every row of statements -/
theorem cXS (hx101 : pe_at (pe_GA xs).xs 101 = some (1, tx_101)) : ∀ m : Nat, cX xs T n N X c f m ∧ cST xs T n N X c f m
  | 0 => ⟨fun D dp u w i I F S h => absurd h (Nat.not_lt_zero _), fun D dp u w i I F S h => absurd h (Nat.not_lt_zero _)⟩
  | m + 1 => by
    obtain ⟨h1, h2⟩ := cXS hx101 m
    have h3 := cX_s hx101 h1 h2
    exact ⟨h3, cST_s h3 h2⟩
end Wbg
