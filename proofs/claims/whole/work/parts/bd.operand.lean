/-! PART bd: the Compiler's readOperand. -/
section Wbd
variable {xs : List (Nat × List Int32)} {M : Nat → Prop} {d : Nat} {A B C S Z : wS} {Q : wO → wS → Prop} {T : Int → Int} {n : Int} {N X : List (List Int)} {c i : Nat} {f u w : Int} {I : List pz_I} {F : List pz_F}
theorem op_4 {D m mm : Nat} {dp : Int} (hX : cX xs T n N X c f m) (hS : cST xs T n N X c f m) (hD : 0 ≤ dp ∧ dp ≤ 50 ∧ 10 * (51 - dp) + 19 ≤ (D : Int)) (hw : w ≤ 20 * dp + 12) : ∀ (fu : Nat) (t q : Int) (i : Nat) (I : List pz_I) (F : List pz_F) (S : wS), c - i < fu → cQ T n N X c f u w i I F S → c - i < m → I.length ≤ 1 * i → mm ≤ I.length → (0 ≤ q ∧ q ≤ (i : Int)) → ((0 ≤ t ∧ t ≤ 3) ∧ S 63 16 = t) → tl_I u mm t I → wJ (pe_GA xs) wY0 (mS [64, 65, 66, 67, 69, 70]) D t_XP_readOperand ((pe_at t_XP_readOperand.bl 4).getD (0, [])).2 [(0, (2, 63)), (1, (0, dp)), (2, (0, 0)), (3, (0, q))] [] S (cR T n N X c f (fun R => R 10 0 [t] i dp u I F) u w i I F 0 (fun t I2 Z => ((0 ≤ t ∧ t ≤ 3) ∧ Z 63 16 = t) ∧ tl_I u mm t I2) S) := by
  obtain ⟨D, rfl⟩ : ∃ D2, D = D2 + 14 := ⟨D - 14, by omega⟩
  intro fu
  induction fu with
  | zero => intro t q i I F S hf; exact absurd hf (Nat.not_lt_zero _)
  | succ fu ih =>
    intro t q i I F S hfu h hm hI hmm hq ht htl
    have g0 : cQg f (I.length : Int) w S S := cQg_rfl
    have kr0 := kq_rg T n N X i
    have ic0 := cQ_ic h
    have hcn := cQ_cn h
    have hwr := cQ_wr h
    obtain ⟨hu1, hu2⟩ := cQ_ur h
    refine wa_iload_n (n := 3) rfl ?_
    refine wa_aload_n (n := 0) rfl ?_
    refine wb_gf4 63 rfl (wy_pr rfl) wt_63 wf_1_0 (v := 14) wl_63_0 ?_
    refine wb_gfi 14 rfl (wy_pr rfl) wt_14 wf_6_3 (v := ((c : Int) + 1)) ((cQ_3 h)) (fun r101 => ?_)
    refine wa_icmpge (w_rg0 (by omega) (by omega)) (w_rg0 (by omega) (by omega)) ⟨_, rfl⟩ (fun c102 => ?_) (fun c102 => ?_)
    · skip
      exact absurd c102 (by omega)
    · skip
      refine wa_aload_n (n := 0) rfl ?_
      refine wb_gf4 63 rfl (wy_pr rfl) wt_63 wf_1_0 (v := 14) wl_63_0 ?_
      refine wa_cv 14 rfl (wy_pr rfl) wt_14 (M2 := fun _ => False) rfl at_XR_kind ⟨_, rfl⟩ rfl rfl ⟨(Or.inr ⟨wy_pr rfl, fun q => q⟩), trivial, trivial, trivial, trivial⟩ trivial (fun _ _ q => False.elim q) (kd_q (S := S) h) (fun oq103 Sq103 hp104 q103 => ?_)
      rcases q103 with ⟨rfl, rfl⟩
      show wJ _ _ _ _ _ _ _ _ _ _
      refine wa_istore (n := 4) rfl ?_
      refine wa_iload (n := 4) rfl ?_
      refine wa_bipush (w_rg2 (by omega) (by omega)) ?_
      refine wa_icmpne (w_rg0 (by omega) (by omega)) (w_rg0 (by omega) (by omega)) ⟨_, rfl⟩ (fun c105 => ?_) (fun c105 => ?_)
      · skip
        refine wa_iload (n := 4) rfl ?_
        refine wa_bipush (w_rg2 (by omega) (by omega)) ?_
        refine wa_icmpne (w_rg0 (by omega) (by omega)) (w_rg0 (by omega) (by omega)) ⟨_, rfl⟩ (fun c106 => ?_) (fun c106 => ?_)
        · skip
          refine wa_iload (n := 4) rfl ?_
          refine wa_bipush (w_rg2 (by omega) (by omega)) ?_
          refine wa_icmpne (w_rg0 (by omega) (by omega)) (w_rg0 (by omega) (by omega)) ⟨_, rfl⟩ (fun c107 => ?_) (fun c107 => ?_)
          · skip
            refine wa_iload_n (n := 2) rfl ?_
            refine wa_ifeq (w_rg0 (by omega) (by omega)) ⟨_, rfl⟩ (fun c108 => ?_) (fun c108 => ?_)
            · skip
              refine wa_return rfl ?_
              refine Or.inl ⟨_, _, _, t, rfl, fun R hR => ?_, h, g0, ⟨by omega, by omega, pz_le_rfl, by omega⟩, ⟨⟨by omega, by omega⟩, ht.2⟩, htl⟩
              try dsimp only
              refine pz_cBL hR ?_
              unfold pz_BL
              all_goals repeat first | rw [if_pos (by omega)] | rw [if_neg (by omega)]
              all_goals first | rfl | (exfalso; omega)
            · skip
              exact absurd c108 (by omega)
          · skip
            refine wa_aload_n (n := 0) rfl ?_
            refine wa_iload_n (n := 2) rfl ?_
            refine wa_ifeq (w_rg0 (by omega) (by omega)) ⟨_, rfl⟩ (fun c109 => ?_) (fun c109 => ?_)
            · skip
              refine wa_iconst ?_
              refine wa_fall ⟨_, rfl⟩ ?_
              refine wa_iconst ?_
              refine wa_aload_n (n := 0) rfl ?_
              refine wa_iload_n (n := 1) rfl ?_
              refine wa_cv 63 rfl (wy_pr rfl) wt_63 (M2 := mS [64, 65, 66, 67, 69, 70]) rfl at_XP_readEs ⟨_, rfl⟩ rfl rfl ⟨trivial, (Or.inr ⟨wy_pr rfl, mS_no rfl⟩), trivial, trivial, trivial, trivial⟩ ⟨trivial, trivial, (Or.inr ⟨wy_pr rfl, mS_no rfl⟩), trivial⟩ (fun _ _ q => q) (es_q hX hS h (by omega) ⟨by omega, by omega, by omega⟩ (by omega) (by omega)) (fun oq126 Sq126 hp127 q126 => ?_)
              rcases q126 with ⟨i110, I111, F112, t113, rfl, hd114, hc115, hg116, ⟨p117, p118, p119, p120⟩, e121⟩ | ⟨v122, x123, rfl, hd124, hz125⟩
              · skip
                show wJ _ _ _ _ _ _ _ _ _ _
                have hSq126 : cQ T n N X c f u w i110 I111 F112 Sq126 := hc115
                have gSq126 : cQg f (I.length : Int) w S Sq126 := cQg_tr g0 (cQg_mo hg116 (by omega) (by omega))
                have krSq126 := kq_rg T n N X i110
                have icSq126 := cQ_ic hSq126
                have flSq126 := p119.1
                have trSq126 : 0 ≤ t113 ∧ t113 ≤ 8 := e121.1
                have k11Sq126 := (cQ_k hSq126).symm.trans e121.2.2
                refine wa_cv 63 rfl (wy_pr rfl) wt_63 (M2 := mS [64, 65, 66, 67]) rfl at_XP_noteSite ⟨_, rfl⟩ rfl rfl ⟨trivial, (Or.inr ⟨wy_pr rfl, mS_no rfl⟩), trivial, trivial, trivial, trivial⟩ trivial (fun _ _ q => mS_sub (by decide) q) (ns_q (S := Sq126) (k := 4) (y := (-1)) (e := t113) hSq126 ⟨by omega, by omega⟩ ⟨by omega, by omega⟩ ⟨by omega, by omega⟩ (by omega)) (fun oq131 Sq131 hp132 q131 => ?_)
                rcases q131 with ⟨rfl, hc128, hg129, ht130⟩
                show wJ _ _ _ _ _ _ _ _ _ _
                have hSq131 : cQ T n N X c f u w i110 (I111 ++ [(27, 4 + 16 * t113, (-1), u)]) F112 Sq131 := hc128
                have gSq131 : cQg f (I.length : Int) w S Sq131 := cQg_tr gSq126 (hg129 _ _ (by omega))
                have hlSq131 : (I111 ++ [(27, 4 + 16 * t113, (-1), u)]).length = I111.length + 1 := List.length_append
                refine wa_aload_n (n := 0) rfl ?_
                refine wb_gf4 63 rfl (wy_pr rfl) wt_63 wf_1_0 (v := 14) wl_63_0 ?_
                refine wa_cv 14 rfl (wy_pr rfl) wt_14 (M2 := fun _ => False) rfl at_XR_next ⟨_, rfl⟩ rfl rfl ⟨trivial, (Or.inr ⟨wy_pr rfl, fun q => q⟩), trivial, trivial, trivial, trivial⟩ trivial (fun _ _ q => False.elim q) (nx_q (S := Sq131) hSq131 ⟨by omega, by omega⟩) (fun oq136 Sq136 hp137 q136 => ?_)
                rcases q136 with ⟨rfl, hc133, hg134, ht135⟩
                show wJ _ _ _ _ _ _ _ _ _ _
                have hSq136 : cQ T n N X c f u w (i110 + 1) (I111 ++ [(27, 4 + 16 * t113, (-1), u)]) F112 Sq136 := hc133
                have gSq136 : cQg f (I.length : Int) w S Sq136 := cQg_tr gSq131 (hg134 _ _)
                have krSq136 := kq_rg T n N X (i110 + 1)
                have icSq136 := cQ_ic hSq136
                refine wa_iconst ?_
                refine wa_istore_n (n := 2) rfl ?_
                refine wa_aload_n (n := 0) rfl ?_
                refine wa_iconst ?_
                refine wb_pfi 63 rfl (wy_pr rfl) wt_63 wf_1_16 (n := 16) rfl ⟨(by omega), (by omega)⟩ ?_
                refine wa_fall ⟨_, rfl⟩ ?_
                refine wa_iinc rfl rfl ?_
                refine wa_goto ⟨_, rfl⟩ ?_
                refine wJ_S (wJ_mono (ih 0 (q + 1) (i110 + 1) (I111 ++ [(27, 4 + 16 * t113, (-1), u)]) F112 (w_up Sq136 63 16 0) (by omega) (cQ_63 (k := 16) (x := 0) hSq136 (Or.inl rfl)) (by omega) (by omega) (by omega) ⟨by omega, by omega⟩ ⟨⟨by omega, by omega⟩, (w_up_same _ _ _ _)⟩ (Or.inl rfl)) (fun o Z hz => cR_tr (by omega) (cQg_tr gSq136 (cQg_up (by omega) (by decide) (by omega))) (by omega) (by omega) (by omega) (pz_le_tr pz_le_rfl p119) (fun R hR o ho => ?_) hz)) ⟨rfl, rfl, rfl, rfl, trivial⟩
                try dsimp only
                refine pz_cBL hR ?_
                unfold pz_BL
                repeat first | rw [if_pos (by omega)] | rw [if_neg (by omega)]
                first | refine pz_qo (hd114 R hR) ?_ | exact hd114 R hR
                all_goals repeat first | rw [if_pos (by omega)] | rw [if_neg (by omega)]
                all_goals exact ho
              · skip
                refine ⟨rfl, ?_⟩
                refine Or.inr ⟨_, _, rfl, fun R hR => ?_, cQf_tr g0 (by omega) (by omega) hz125⟩
                try dsimp only
                refine pz_cBL hR ?_
                unfold pz_BL
                repeat first | rw [if_pos (by omega)] | rw [if_neg (by omega)]
                first | exact pz_qi (hd124 R hR) | exact hd124 R hR
                all_goals repeat first | rw [if_pos (by omega)] | rw [if_neg (by omega)]
                all_goals first | rfl | (exfalso; omega)
            · skip
              exact absurd c109 (by omega)
        · skip
          refine wa_aload_n (n := 0) rfl ?_
          refine wa_bipush (w_rg2 (by omega) (by omega)) ?_
          refine wa_iload_n (n := 1) rfl ?_
          refine wa_cv 63 rfl (wy_pr rfl) wt_63 (M2 := fun _ => False) rfl at_XP_open ⟨_, rfl⟩ rfl rfl ⟨trivial, (Or.inr ⟨wy_pr rfl, fun q => q⟩), trivial, trivial, trivial, trivial⟩ trivial (fun _ _ q => False.elim q) (op_q (S := S) (k := 14) (dp := dp) h ⟨by omega, by omega⟩ ⟨by omega, by omega⟩) (fun oq148 Sq148 hp149 q148 => ?_)
          rcases q148 with ⟨rfl, hk141, hc138, hg139, ht140⟩ | ⟨v142, rfl, hk144, hz143⟩ | ⟨v145, rfl, hk147, hz146⟩
          · skip
            show wJ _ _ _ _ _ _ _ _ _ _
            have hSq148 : cQ T n N X c f u w (i + 1) I F Sq148 := hc138
            have gSq148 : cQg f (I.length : Int) w S Sq148 := cQg_tr g0 (hg139 _ _)
            have krSq148 := kq_rg T n N X (i + 1)
            have icSq148 := cQ_ic hSq148
            have tSq148 : Sq148 63 16 = t := (ht140.1).trans ht.2
            have dSq148 : pz_op (kq T n N X) (tp T n 0) 14 dp i I F = .inr ((i + 1), I, F, 0) := pz_op_o hk141
            refine wa_aload_n (n := 0) rfl ?_
            refine wa_iload_n (n := 1) rfl ?_
            refine wa_iconst ?_
            refine wa_iadd ?_
            refine wa_cv 63 rfl (wy_pr rfl) wt_63 (M2 := mS [64, 65, 66, 67, 69, 70]) rfl at_XP_readExpression ⟨_, rfl⟩ rfl rfl ⟨trivial, (Or.inr ⟨wy_pr rfl, mS_no rfl⟩), trivial, trivial, trivial, trivial⟩ trivial (fun _ _ q => q) (hX _ (dp + 1) u w (i + 1) I F Sq148 (by omega) ⟨by omega, by omega, by omega⟩ ⟨by omega, by omega⟩ hSq148) (fun oq166 Sq166 hp167 q166 => ?_)
            rcases q166 with ⟨i150, I151, F152, t153, rfl, hd154, hc155, hg156, ⟨p157, p158, p159, p160⟩, e161⟩ | ⟨v162, x163, rfl, hd164, hz165⟩
            · skip
              show wJ _ _ _ _ _ _ _ _ _ _
              have hSq166 : cQ T n N X c f u w i150 I151 F152 Sq166 := hc155
              have gSq166 : cQg f (I.length : Int) w S Sq166 := cQg_tr gSq148 (cQg_mo hg156 (by omega) (by omega))
              have krSq166 := kq_rg T n N X i150
              have icSq166 := cQ_ic hSq166
              have tSq166 : Sq166 63 16 = 0 := e161
              have flSq166 := p159.1
              refine wa_aload_n (n := 0) rfl ?_
              refine wa_bipush (w_rg2 (by omega) (by omega)) ?_
              refine wa_cv 63 rfl (wy_pr rfl) wt_63 (M2 := fun _ => False) rfl at_XP_take ⟨_, rfl⟩ rfl rfl ⟨trivial, (Or.inr ⟨wy_pr rfl, fun q => q⟩), trivial, trivial, trivial, trivial⟩ trivial (fun _ _ q => False.elim q) (tk_q (S := Sq166) (k := 15) hSq166 ⟨by omega, by omega⟩) (fun oq175 Sq175 hp176 q175 => ?_)
              rcases q175 with ⟨rfl, hk171, hc168, hg169, ht170⟩ | ⟨v172, rfl, hk174, hz173⟩
              · skip
                show wJ _ _ _ _ _ _ _ _ _ _
                have hSq175 : cQ T n N X c f u w (i150 + 1) I151 F152 Sq175 := hc168
                have gSq175 : cQg f (I.length : Int) w S Sq175 := cQg_tr gSq166 (hg169 _ _)
                have krSq175 := kq_rg T n N X (i150 + 1)
                have icSq175 := cQ_ic hSq175
                have tSq175 : Sq175 63 16 = 0 := (ht170.1).trans tSq166
                have dSq175 : pz_tk (kq T n N X) (tp T n 0) 15 i150 I151 F152 = .inr ((i150 + 1), I151, F152, 0) := pz_tk_o hk171
                refine wa_aload_n (n := 0) rfl ?_
                refine wa_iconst ?_
                refine wa_iconst ?_
                refine wa_iconst ?_
                refine wa_cv 63 rfl (wy_pr rfl) wt_63 (M2 := mS [64, 65, 66, 67]) rfl at_XP_noteSite ⟨_, rfl⟩ rfl rfl ⟨trivial, (Or.inr ⟨wy_pr rfl, mS_no rfl⟩), trivial, trivial, trivial, trivial⟩ trivial (fun _ _ q => mS_sub (by decide) q) (ns_q (S := Sq175) (k := 2) (y := (-1)) (e := 0) hSq175 ⟨by omega, by omega⟩ ⟨by omega, by omega⟩ ⟨by omega, by omega⟩ (by omega)) (fun oq180 Sq180 hp181 q180 => ?_)
                rcases q180 with ⟨rfl, hc177, hg178, ht179⟩
                show wJ _ _ _ _ _ _ _ _ _ _
                have hSq180 : cQ T n N X c f u w (i150 + 1) (I151 ++ [(27, 2, (-1), u)]) F152 Sq180 := hc177
                have gSq180 : cQg f (I.length : Int) w S Sq180 := cQg_tr gSq175 (hg178 _ _ (by omega))
                have tSq180 : Sq180 63 16 = 0 := (ht179).trans tSq175
                have hlSq180 : (I151 ++ [(27, 2, (-1), u)]).length = I151.length + 1 := List.length_append
                refine wa_aload_n (n := 0) rfl ?_
                refine wa_iconst ?_
                refine wb_pfi 63 rfl (wy_pr rfl) wt_63 wf_1_16 (n := 16) rfl ⟨(by omega), (by omega)⟩ ?_
                refine wa_goto ⟨_, rfl⟩ ?_
                refine wa_iinc rfl rfl ?_
                refine wa_goto ⟨_, rfl⟩ ?_
                refine wJ_S (wJ_mono (ih 3 (q + 1) (i150 + 1) (I151 ++ [(27, 2, (-1), u)]) F152 (w_up Sq180 63 16 3) (by omega) (cQ_63 (k := 16) (x := 3) hSq180 (Or.inl rfl)) (by omega) (by omega) (by omega) ⟨by omega, by omega⟩ ⟨⟨by omega, by omega⟩, (w_up_same _ _ _ _)⟩ (Or.inr ⟨_, _, rfl, by omega, rfl, Or.inr ⟨by omega, rfl, by dsimp only; omega, by dsimp only; omega⟩⟩)) (fun o Z hz => cR_tr (by omega) (cQg_tr gSq180 (cQg_up (by omega) (by decide) (by omega))) (by omega) (by omega) (by omega) (pz_le_tr pz_le_rfl p159) (fun R hR o ho => ?_) hz)) ⟨rfl, rfl, rfl, rfl, trivial⟩
                try dsimp only
                refine pz_cBL hR ?_
                unfold pz_BL
                repeat first | rw [if_pos (by omega)] | rw [if_neg (by omega)]
                refine pz_qo (t := 0) ?_ ho
                unfold pz_el
                repeat first | rw [if_pos (by omega)] | rw [if_neg (by omega)]
                first | refine pz_fo dSq148 ?_ | exact dSq148.symm | skip
                repeat first | rw [if_pos (by omega)] | rw [if_neg (by omega)]
                first | refine pz_qo (hd154 R hR) ?_ | exact hd154 R hR
                repeat first | rw [if_pos (by omega)] | rw [if_neg (by omega)]
                first | refine pz_fo dSq175 ?_ | exact dSq175.symm | exact (pz_tk_o hk171).symm | skip
                all_goals repeat first | rw [if_pos (by omega)] | rw [if_neg (by omega)]
                all_goals exact ho
              · skip
                refine ⟨rfl, ?_⟩
                refine Or.inr ⟨_, _, rfl, fun R hR => ?_, cQf_of gSq166 (by omega) (by omega) (cQn_of hSq166) hz173⟩
                try dsimp only
                refine pz_cBL hR ?_
                unfold pz_BL
                repeat first | rw [if_pos (by omega)] | rw [if_neg (by omega)]
                refine pz_qi ?_
                unfold pz_el
                repeat first | rw [if_pos (by omega)] | rw [if_neg (by omega)]
                first | refine pz_fo dSq148 ?_ | exact dSq148.symm | skip
                repeat first | rw [if_pos (by omega)] | rw [if_neg (by omega)]
                first | refine pz_qo (hd154 R hR) ?_ | exact hd154 R hR
                repeat first | rw [if_pos (by omega)] | rw [if_neg (by omega)]
                first | exact pz_fi (pz_tk_f hk174) | exact (pz_tk_f hk174).symm | (exfalso; omega)
                all_goals repeat first | rw [if_pos (by omega)] | rw [if_neg (by omega)]
                all_goals first | rfl | (exfalso; omega)
            · skip
              refine ⟨rfl, ?_⟩
              refine Or.inr ⟨_, _, rfl, fun R hR => ?_, cQf_tr gSq148 (by omega) (by omega) hz165⟩
              try dsimp only
              refine pz_cBL hR ?_
              unfold pz_BL
              repeat first | rw [if_pos (by omega)] | rw [if_neg (by omega)]
              refine pz_qi ?_
              unfold pz_el
              repeat first | rw [if_pos (by omega)] | rw [if_neg (by omega)]
              first | refine pz_fo dSq148 ?_ | exact dSq148.symm | skip
              repeat first | rw [if_pos (by omega)] | rw [if_neg (by omega)]
              first | exact pz_qi (hd164 R hR) | exact hd164 R hR
              all_goals repeat first | rw [if_pos (by omega)] | rw [if_neg (by omega)]
              all_goals first | rfl | (exfalso; omega)
          · skip
            refine ⟨rfl, ?_⟩
            refine Or.inr ⟨_, _, rfl, fun R hR => ?_, cQf_of g0 (by omega) (by omega) (cQn_of h) hz143⟩
            try dsimp only
            refine pz_cBL hR ?_
            unfold pz_BL
            repeat first | rw [if_pos (by omega)] | rw [if_neg (by omega)]
            (exfalso; omega)
            all_goals repeat first | rw [if_pos (by omega)] | rw [if_neg (by omega)]
            all_goals first | rfl | (exfalso; omega)
          · skip
            refine ⟨rfl, ?_⟩
            refine Or.inr ⟨_, _, rfl, fun R hR => ?_, cQf_of g0 (by omega) (by omega) (cQn_of h) hz146⟩
            try dsimp only
            refine pz_cBL hR ?_
            unfold pz_BL
            repeat first | rw [if_pos (by omega)] | rw [if_neg (by omega)]
            refine pz_qi ?_
            unfold pz_el
            repeat first | rw [if_pos (by omega)] | rw [if_neg (by omega)]
            first | exact pz_fi (pz_op_4 hk147) | exact (pz_op_4 hk147).symm | rfl
            all_goals repeat first | rw [if_pos (by omega)] | rw [if_neg (by omega)]
            all_goals first | rfl | (exfalso; omega)
      · skip
        refine wa_aload_n (n := 0) rfl ?_
        refine wa_iload_n (n := 1) rfl ?_
        refine wa_iload_n (n := 2) rfl ?_
        refine wa_cv 63 rfl (wy_pr rfl) wt_63 (M2 := mS [64, 65, 66, 67, 69, 70]) rfl at_XP_readDot ⟨_, rfl⟩ rfl rfl ⟨trivial, (Or.inr ⟨wy_pr rfl, mS_no rfl⟩), trivial, trivial, trivial, trivial⟩ trivial (fun _ _ q => q) ?_ (fun _ _ _ q => q)
        refine wa_aload_n (n := 0) rfl ?_
        refine wb_gf4 63 rfl (wy_pr rfl) wt_63 wf_1_0 (v := 14) wl_63_0 ?_
        refine wa_cv 14 rfl (wy_pr rfl) wt_14 (M2 := fun _ => False) rfl at_XR_next ⟨_, rfl⟩ rfl rfl ⟨(Or.inr ⟨wy_pr rfl, fun q => q⟩), trivial, trivial, trivial⟩ trivial (fun _ _ q => False.elim q) (nx_q (S := S) h ⟨by omega, by omega⟩) (fun oq185 Sq185 hp186 q185 => ?_)
        rcases q185 with ⟨rfl, hc182, hg183, ht184⟩
        show wJ _ _ _ _ _ _ _ _ _ _
        have hSq185 : cQ T n N X c f u w (i + 1) I F Sq185 := hc182
        have gSq185 : cQg f (I.length : Int) w S Sq185 := cQg_tr g0 (hg183 _ _)
        have krSq185 := kq_rg T n N X (i + 1)
        have icSq185 := cQ_ic hSq185
        have tSq185 : Sq185 63 16 = t := (ht184.1).trans ht.2
        refine wa_aload_n (n := 0) rfl ?_
        refine wa_cv 63 rfl (wy_pr rfl) wt_63 (M2 := fun _ => False) rfl at_XP_takeName ⟨_, rfl⟩ rfl rfl ⟨(Or.inr ⟨wy_pr rfl, fun q => q⟩), trivial, trivial, trivial⟩ trivial (fun _ _ q => False.elim q) (tn_q (S := Sq185) hSq185) (fun oq197 Sq197 hp198 q197 => ?_)
        rcases q197 with ⟨rfl, hk190, hc187, hg188, ht189⟩ | ⟨v191, rfl, hk193, hz192⟩ | ⟨v194, rfl, hk196, hz195⟩
        · skip
          show wJ _ _ _ _ _ _ _ _ _ _
          have hSq197 : cQ T n N X c f u w (i + 2) I F Sq197 := hc187
          have gSq197 : cQg f (I.length : Int) w S Sq197 := cQg_tr gSq185 (hg188 _ _)
          have krSq197 := kq_rg T n N X (i + 2)
          have icSq197 := cQ_ic hSq197
          have tSq197 : Sq197 63 16 = t := (ht189.1).trans tSq185
          have dSq197 : pz_nm (kq T n N X) (vq T n N X) (tp T n 0) (i + 1) I F = .inr ((i + 2), I, F, (vq T n N X (i + 1))) := pz_nm_o hk190.1
          have vnSq197 := vq_nn hk190.1
          refine wa_istore_n (n := 3) rfl ?_
          refine wa_aload_n (n := 0) rfl ?_
          refine wb_gf4 63 rfl (wy_pr rfl) wt_63 wf_1_0 (v := 14) wl_63_0 ?_
          refine wa_cv 14 rfl (wy_pr rfl) wt_14 (M2 := fun _ => False) rfl at_XR_kind ⟨_, rfl⟩ rfl rfl ⟨trivial, (Or.inr ⟨wy_pr rfl, fun q => q⟩), trivial, trivial, trivial⟩ trivial (fun _ _ q => False.elim q) (kd_q (S := Sq197) hSq197) (fun oq199 Sq199 hp200 q199 => ?_)
          rcases q199 with ⟨rfl, rfl⟩
          show wJ _ _ _ _ _ _ _ _ _ _
          refine wa_bipush (w_rg2 (by omega) (by omega)) ?_
          refine wa_icmpne (w_rg0 (by omega) (by omega)) (w_rg0 (by omega) (by omega)) ⟨_, rfl⟩ (fun c201 => ?_) (fun c201 => ?_)
          · skip
            refine wa_aload_n (n := 0) rfl ?_
            refine wa_iconst ?_
            refine wa_iload_n (n := 3) rfl ?_
            refine wa_iconst ?_
            refine wa_cv 63 rfl (wy_pr rfl) wt_63 (M2 := mS [64, 65, 66, 67]) rfl at_XP_noteSite ⟨_, rfl⟩ rfl rfl ⟨trivial, (Or.inr ⟨wy_pr rfl, mS_no rfl⟩), trivial, trivial, trivial⟩ trivial (fun _ _ q => mS_sub (by decide) q) (ns_q (S := Sq197) (k := 0) (y := (vq T n N X (i + 1))) (e := 0) hSq197 ⟨by omega, by omega⟩ ⟨by omega, by omega⟩ ⟨by omega, by omega⟩ (by omega)) (fun oq205 Sq205 hp206 q205 => ?_)
            rcases q205 with ⟨rfl, hc202, hg203, ht204⟩
            show wJ _ _ _ _ _ _ _ _ _ _
            have hSq205 : cQ T n N X c f u w (i + 2) (I ++ [(27, 0, (vq T n N X (i + 1)), u)]) F Sq205 := hc202
            have gSq205 : cQg f (I.length : Int) w S Sq205 := cQg_tr gSq197 (hg203 _ _ (by omega))
            have tSq205 : Sq205 63 16 = t := (ht204).trans tSq197
            have hlSq205 : (I ++ [(27, 0, (vq T n N X (i + 1)), u)]).length = I.length + 1 := List.length_append
            refine wa_aload_n (n := 0) rfl ?_
            refine wa_iconst ?_
            refine wb_pfi 63 rfl (wy_pr rfl) wt_63 wf_1_16 (n := 16) rfl ⟨(by omega), (by omega)⟩ ?_
            refine wa_fall ⟨_, rfl⟩ ?_
            refine wa_return rfl ?_
            show wJ _ _ _ _ _ _ _ _ _ _
            refine wa_goto ⟨_, rfl⟩ ?_
            refine wa_iinc rfl rfl ?_
            refine wa_goto ⟨_, rfl⟩ ?_
            refine wJ_S (wJ_mono (ih 2 (q + 1) (i + 2) (I ++ [(27, 0, (vq T n N X (i + 1)), u)]) F (w_up Sq205 63 16 2) (by omega) (cQ_63 (k := 16) (x := 2) hSq205 (Or.inl rfl)) (by omega) (by omega) (by omega) ⟨by omega, by omega⟩ ⟨⟨by omega, by omega⟩, (w_up_same _ _ _ _)⟩ (Or.inr ⟨_, _, rfl, by omega, rfl, Or.inr ⟨by omega, rfl, by dsimp only; omega, by dsimp only; omega⟩⟩)) (fun o Z hz => cR_tr (by omega) (cQg_tr gSq205 (cQg_up (by omega) (by decide) (by omega))) (by omega) (by omega) (by omega) pz_le_rfl (fun R hR o ho => ?_) hz)) ⟨rfl, rfl, rfl, rfl, trivial⟩
            try dsimp only
            refine pz_cBL hR ?_
            unfold pz_BL
            repeat first | rw [if_pos (by omega)] | rw [if_neg (by omega)]
            first | refine pz_fo dSq197 ?_ | skip
            all_goals repeat first | rw [if_pos (by omega)] | rw [if_neg (by omega)]
            all_goals exact ho
          · skip
            refine wa_iload_n (n := 2) rfl ?_
            refine wa_ifne (w_rg0 (by omega) (by omega)) ⟨_, rfl⟩ (fun c207 => ?_) (fun c207 => ?_)
            · skip
              exact absurd c207 (by omega)
            · skip
              refine wa_aload_n (n := 0) rfl ?_
              refine wa_iconst ?_
              refine wa_iload_n (n := 3) rfl ?_
              refine wa_aload_n (n := 0) rfl ?_
              refine wa_iload_n (n := 1) rfl ?_
              refine wa_cv 63 rfl (wy_pr rfl) wt_63 (M2 := mS [64, 65, 66, 67, 69, 70]) rfl at_XP_readEs ⟨_, rfl⟩ rfl rfl ⟨trivial, (Or.inr ⟨wy_pr rfl, mS_no rfl⟩), trivial, trivial, trivial⟩ ⟨trivial, trivial, (Or.inr ⟨wy_pr rfl, mS_no rfl⟩), trivial⟩ (fun _ _ q => q) (es_q hX hS hSq197 (by omega) ⟨by omega, by omega, by omega⟩ (by omega) (by omega)) (fun oq224 Sq224 hp225 q224 => ?_)
              rcases q224 with ⟨i208, I209, F210, t211, rfl, hd212, hc213, hg214, ⟨p215, p216, p217, p218⟩, e219⟩ | ⟨v220, x221, rfl, hd222, hz223⟩
              · skip
                show wJ _ _ _ _ _ _ _ _ _ _
                have hSq224 : cQ T n N X c f u w i208 I209 F210 Sq224 := hc213
                have gSq224 : cQg f (I.length : Int) w S Sq224 := cQg_tr gSq197 (cQg_mo hg214 (by omega) (by omega))
                have krSq224 := kq_rg T n N X i208
                have icSq224 := cQ_ic hSq224
                have flSq224 := p217.1
                have trSq224 : 0 ≤ t211 ∧ t211 ≤ 8 := e219.1
                have k11Sq224 := (cQ_k hSq224).symm.trans e219.2.2
                refine wa_cv 63 rfl (wy_pr rfl) wt_63 (M2 := mS [64, 65, 66, 67]) rfl at_XP_noteSite ⟨_, rfl⟩ rfl rfl ⟨trivial, (Or.inr ⟨wy_pr rfl, mS_no rfl⟩), trivial, trivial, trivial⟩ trivial (fun _ _ q => mS_sub (by decide) q) (ns_q (S := Sq224) (k := 5) (y := (vq T n N X (i + 1))) (e := t211) hSq224 ⟨by omega, by omega⟩ ⟨by omega, by omega⟩ ⟨by omega, by omega⟩ (by omega)) (fun oq229 Sq229 hp230 q229 => ?_)
                rcases q229 with ⟨rfl, hc226, hg227, ht228⟩
                show wJ _ _ _ _ _ _ _ _ _ _
                have hSq229 : cQ T n N X c f u w i208 (I209 ++ [(27, 5 + 16 * t211, (vq T n N X (i + 1)), u)]) F210 Sq229 := hc226
                have gSq229 : cQg f (I.length : Int) w S Sq229 := cQg_tr gSq224 (hg227 _ _ (by omega))
                have hlSq229 : (I209 ++ [(27, 5 + 16 * t211, (vq T n N X (i + 1)), u)]).length = I209.length + 1 := List.length_append
                refine wa_aload_n (n := 0) rfl ?_
                refine wb_gf4 63 rfl (wy_pr rfl) wt_63 wf_1_0 (v := 14) wl_63_0 ?_
                refine wa_cv 14 rfl (wy_pr rfl) wt_14 (M2 := fun _ => False) rfl at_XR_next ⟨_, rfl⟩ rfl rfl ⟨trivial, (Or.inr ⟨wy_pr rfl, fun q => q⟩), trivial, trivial, trivial⟩ trivial (fun _ _ q => False.elim q) (nx_q (S := Sq229) hSq229 ⟨by omega, by omega⟩) (fun oq234 Sq234 hp235 q234 => ?_)
                rcases q234 with ⟨rfl, hc231, hg232, ht233⟩
                show wJ _ _ _ _ _ _ _ _ _ _
                have hSq234 : cQ T n N X c f u w (i208 + 1) (I209 ++ [(27, 5 + 16 * t211, (vq T n N X (i + 1)), u)]) F210 Sq234 := hc231
                have gSq234 : cQg f (I.length : Int) w S Sq234 := cQg_tr gSq229 (hg232 _ _)
                have krSq234 := kq_rg T n N X (i208 + 1)
                have icSq234 := cQ_ic hSq234
                refine wa_aload_n (n := 0) rfl ?_
                refine wa_iconst ?_
                refine wb_pfi 63 rfl (wy_pr rfl) wt_63 wf_1_16 (n := 16) rfl ⟨(by omega), (by omega)⟩ ?_
                refine wa_goto ⟨_, rfl⟩ ?_
                refine wa_return rfl ?_
                show wJ _ _ _ _ _ _ _ _ _ _
                refine wa_goto ⟨_, rfl⟩ ?_
                refine wa_iinc rfl rfl ?_
                refine wa_goto ⟨_, rfl⟩ ?_
                refine wJ_S (wJ_mono (ih 0 (q + 1) (i208 + 1) (I209 ++ [(27, 5 + 16 * t211, (vq T n N X (i + 1)), u)]) F210 (w_up Sq234 63 16 0) (by omega) (cQ_63 (k := 16) (x := 0) hSq234 (Or.inl rfl)) (by omega) (by omega) (by omega) ⟨by omega, by omega⟩ ⟨⟨by omega, by omega⟩, (w_up_same _ _ _ _)⟩ (Or.inl rfl)) (fun o Z hz => cR_tr (by omega) (cQg_tr gSq234 (cQg_up (by omega) (by decide) (by omega))) (by omega) (by omega) (by omega) (pz_le_tr pz_le_rfl p217) (fun R hR o ho => ?_) hz)) ⟨rfl, rfl, rfl, rfl, trivial⟩
                try dsimp only
                refine pz_cBL hR ?_
                unfold pz_BL
                repeat first | rw [if_pos (by omega)] | rw [if_neg (by omega)]
                first | refine pz_fo dSq197 ?_ | skip
                repeat first | rw [if_pos (by omega)] | rw [if_neg (by omega)]
                first | refine pz_qo (hd212 R hR) ?_ | exact hd212 R hR
                all_goals repeat first | rw [if_pos (by omega)] | rw [if_neg (by omega)]
                all_goals exact ho
              · skip
                refine ⟨rfl, ?_⟩
                refine ⟨rfl, ?_⟩
                refine Or.inr ⟨_, _, rfl, fun R hR => ?_, cQf_tr gSq197 (by omega) (by omega) hz223⟩
                try dsimp only
                refine pz_cBL hR ?_
                unfold pz_BL
                repeat first | rw [if_pos (by omega)] | rw [if_neg (by omega)]
                first | refine pz_fo dSq197 ?_ | skip
                repeat first | rw [if_pos (by omega)] | rw [if_neg (by omega)]
                first | exact pz_qi (hd222 R hR) | exact hd222 R hR
                all_goals repeat first | rw [if_pos (by omega)] | rw [if_neg (by omega)]
                all_goals first | rfl | (exfalso; omega)
        · skip
          refine ⟨rfl, ?_⟩
          refine ⟨rfl, ?_⟩
          refine Or.inr ⟨_, _, rfl, fun R hR => ?_, cQf_of gSq185 (by omega) (by omega) (cQn_of hSq185) hz192⟩
          try dsimp only
          refine pz_cBL hR ?_
          unfold pz_BL
          repeat first | rw [if_pos (by omega)] | rw [if_neg (by omega)]
          first | exact pz_fi (pz_nm_7 hk193) | rfl | (exfalso; omega)
          all_goals repeat first | rw [if_pos (by omega)] | rw [if_neg (by omega)]
          all_goals first | rfl | (exfalso; omega)
        · skip
          refine ⟨rfl, ?_⟩
          refine ⟨rfl, ?_⟩
          refine Or.inr ⟨_, _, rfl, fun R hR => ?_, cQf_of gSq185 (by omega) (by omega) (cQn_of hSq185) hz195⟩
          try dsimp only
          refine pz_cBL hR ?_
          unfold pz_BL
          repeat first | rw [if_pos (by omega)] | rw [if_neg (by omega)]
          first | exact pz_fi (pz_nm_1 hk196) | rfl | (exfalso; omega)
          all_goals repeat first | rw [if_pos (by omega)] | rw [if_neg (by omega)]
          all_goals first | rfl | (exfalso; omega)
theorem op_4m {D m mm : Nat} {dp : Int} (hX : cX xs T n N X c f m) (hS : cST xs T n N X c f m) (hD : 0 ≤ dp ∧ dp ≤ 50 ∧ 10 * (51 - dp) + 19 ≤ (D : Int)) (hw : w ≤ 20 * dp + 12) : ∀ (fu : Nat) (q : Int) (i : Nat) (I : List pz_I) (F : List pz_F) (S : wS), c - i < fu → cQ T n N X c f u w i I F S → c - i < m → I.length ≤ 1 * i → mm ≤ I.length → (0 ≤ q ∧ q ≤ (i : Int)) → wJ (pe_GA xs) wY0 (mS [64, 65, 66, 67, 69, 70]) D t_XP_readOperand ((pe_at t_XP_readOperand.bl 4).getD (0, [])).2 [(0, (2, 63)), (1, (0, dp)), (2, (0, 1)), (3, (0, q))] [] S (cR T n N X c f (fun R => pz_q (fun o => pz_q (R 14 0 [] i dp u I F) (fun i I F _ => pz_q (pz_es (kq T n N X) (tp T n 0) R i dp u I F) (fun i I F t o => o = .inr (i + 1, I ++ [(27, 6 + 16 * t, -1, u)], F, 0))) o) (fun i I F t => R 10 0 [t] i dp u I F)) u w i I F 1 (fun t I2 Z => ((0 ≤ t ∧ t ≤ 3) ∧ Z 63 16 = t) ∧ tl_I u mm t I2) S) := by
  obtain ⟨D, rfl⟩ : ∃ D2, D = D2 + 14 := ⟨D - 14, by omega⟩
  intro fu
  induction fu with
  | zero => intro q i I F S hf; exact absurd hf (Nat.not_lt_zero _)
  | succ fu ih =>
    intro q i I F S hfu h hm hI hmm hq
    have g0 : cQg f (I.length : Int) w S S := cQg_rfl
    have kr0 := kq_rg T n N X i
    have ic0 := cQ_ic h
    have hcn := cQ_cn h
    have hwr := cQ_wr h
    obtain ⟨hu1, hu2⟩ := cQ_ur h
    refine wa_iload_n (n := 3) rfl ?_
    refine wa_aload_n (n := 0) rfl ?_
    refine wb_gf4 63 rfl (wy_pr rfl) wt_63 wf_1_0 (v := 14) wl_63_0 ?_
    refine wb_gfi 14 rfl (wy_pr rfl) wt_14 wf_6_3 (v := ((c : Int) + 1)) ((cQ_3 h)) (fun r101 => ?_)
    refine wa_icmpge (w_rg0 (by omega) (by omega)) (w_rg0 (by omega) (by omega)) ⟨_, rfl⟩ (fun c102 => ?_) (fun c102 => ?_)
    · skip
      exact absurd c102 (by omega)
    · skip
      refine wa_aload_n (n := 0) rfl ?_
      refine wb_gf4 63 rfl (wy_pr rfl) wt_63 wf_1_0 (v := 14) wl_63_0 ?_
      refine wa_cv 14 rfl (wy_pr rfl) wt_14 (M2 := fun _ => False) rfl at_XR_kind ⟨_, rfl⟩ rfl rfl ⟨(Or.inr ⟨wy_pr rfl, fun q => q⟩), trivial, trivial, trivial, trivial⟩ trivial (fun _ _ q => False.elim q) (kd_q (S := S) h) (fun oq103 Sq103 hp104 q103 => ?_)
      rcases q103 with ⟨rfl, rfl⟩
      show wJ _ _ _ _ _ _ _ _ _ _
      refine wa_istore (n := 4) rfl ?_
      refine wa_iload (n := 4) rfl ?_
      refine wa_bipush (w_rg2 (by omega) (by omega)) ?_
      refine wa_icmpne (w_rg0 (by omega) (by omega)) (w_rg0 (by omega) (by omega)) ⟨_, rfl⟩ (fun c105 => ?_) (fun c105 => ?_)
      · skip
        refine wa_iload (n := 4) rfl ?_
        refine wa_bipush (w_rg2 (by omega) (by omega)) ?_
        refine wa_icmpne (w_rg0 (by omega) (by omega)) (w_rg0 (by omega) (by omega)) ⟨_, rfl⟩ (fun c106 => ?_) (fun c106 => ?_)
        · skip
          refine wa_iload (n := 4) rfl ?_
          refine wa_bipush (w_rg2 (by omega) (by omega)) ?_
          refine wa_icmpne (w_rg0 (by omega) (by omega)) (w_rg0 (by omega) (by omega)) ⟨_, rfl⟩ (fun c107 => ?_) (fun c107 => ?_)
          · skip
            refine wa_iload_n (n := 2) rfl ?_
            refine wa_ifeq (w_rg0 (by omega) (by omega)) ⟨_, rfl⟩ (fun c108 => ?_) (fun c108 => ?_)
            · skip
              exact absurd c108 (by omega)
            · skip
              refine wa_aload_n (n := 0) rfl ?_
              refine wa_iconst ?_
              refine wa_cv 63 rfl (wy_pr rfl) wt_63 (M2 := fun _ => False) rfl at_XP_refuse ⟨_, rfl⟩ rfl rfl ⟨trivial, (Or.inr ⟨wy_pr rfl, fun q => q⟩), trivial, trivial, trivial, trivial⟩ trivial (fun _ _ q => False.elim q) (rf_q (S := S) (k := 1) h ⟨by omega, by omega⟩) (fun oq111 Sq111 hp112 q111 => ?_)
              rcases q111 with ⟨v109, rfl, hz110⟩
              refine ⟨rfl, ?_⟩
              refine Or.inr ⟨_, _, rfl, fun R hR => ?_, cQf_of g0 (by omega) (by omega) (cQn_of h) hz110⟩
              exact pz_qi (pz_qo (t := 0) (pz_cML hR (by unfold pz_ML; (repeat first | rw [if_pos (by omega)] | rw [if_neg (by omega)]); all_goals rfl)) (pz_qi (by unfold pz_es; exact pz_fi (pz_op_1 (by omega)))))
          · skip
            refine wa_aload_n (n := 0) rfl ?_
            refine wa_iload_n (n := 2) rfl ?_
            refine wa_ifeq (w_rg0 (by omega) (by omega)) ⟨_, rfl⟩ (fun c113 => ?_) (fun c113 => ?_)
            · skip
              exact absurd c113 (by omega)
            · skip
              refine wa_bipush (w_rg2 (by omega) (by omega)) ?_
              refine wa_goto ⟨_, rfl⟩ ?_
              refine wa_iconst ?_
              refine wa_aload_n (n := 0) rfl ?_
              refine wa_iload_n (n := 1) rfl ?_
              refine wa_cv 63 rfl (wy_pr rfl) wt_63 (M2 := mS [64, 65, 66, 67, 69, 70]) rfl at_XP_readEs ⟨_, rfl⟩ rfl rfl ⟨trivial, (Or.inr ⟨wy_pr rfl, mS_no rfl⟩), trivial, trivial, trivial, trivial⟩ ⟨trivial, trivial, (Or.inr ⟨wy_pr rfl, mS_no rfl⟩), trivial⟩ (fun _ _ q => q) (es_q hX hS h (by omega) ⟨by omega, by omega, by omega⟩ (by omega) (by omega)) (fun oq130 Sq130 hp131 q130 => ?_)
              rcases q130 with ⟨i114, I115, F116, t117, rfl, hd118, hc119, hg120, ⟨p121, p122, p123, p124⟩, e125⟩ | ⟨v126, x127, rfl, hd128, hz129⟩
              · skip
                show wJ _ _ _ _ _ _ _ _ _ _
                have hSq130 : cQ T n N X c f u w i114 I115 F116 Sq130 := hc119
                have gSq130 : cQg f (I.length : Int) w S Sq130 := cQg_tr g0 (cQg_mo hg120 (by omega) (by omega))
                have krSq130 := kq_rg T n N X i114
                have icSq130 := cQ_ic hSq130
                have flSq130 := p123.1
                have trSq130 : 0 ≤ t117 ∧ t117 ≤ 8 := e125.1
                have k11Sq130 := (cQ_k hSq130).symm.trans e125.2.2
                refine wa_cv 63 rfl (wy_pr rfl) wt_63 (M2 := mS [64, 65, 66, 67]) rfl at_XP_noteSite ⟨_, rfl⟩ rfl rfl ⟨trivial, (Or.inr ⟨wy_pr rfl, mS_no rfl⟩), trivial, trivial, trivial, trivial⟩ trivial (fun _ _ q => mS_sub (by decide) q) (ns_q (S := Sq130) (k := 6) (y := (-1)) (e := t117) hSq130 ⟨by omega, by omega⟩ ⟨by omega, by omega⟩ ⟨by omega, by omega⟩ (by omega)) (fun oq135 Sq135 hp136 q135 => ?_)
                rcases q135 with ⟨rfl, hc132, hg133, ht134⟩
                show wJ _ _ _ _ _ _ _ _ _ _
                have hSq135 : cQ T n N X c f u w i114 (I115 ++ [(27, 6 + 16 * t117, (-1), u)]) F116 Sq135 := hc132
                have gSq135 : cQg f (I.length : Int) w S Sq135 := cQg_tr gSq130 (hg133 _ _ (by omega))
                have hlSq135 : (I115 ++ [(27, 6 + 16 * t117, (-1), u)]).length = I115.length + 1 := List.length_append
                refine wa_aload_n (n := 0) rfl ?_
                refine wb_gf4 63 rfl (wy_pr rfl) wt_63 wf_1_0 (v := 14) wl_63_0 ?_
                refine wa_cv 14 rfl (wy_pr rfl) wt_14 (M2 := fun _ => False) rfl at_XR_next ⟨_, rfl⟩ rfl rfl ⟨trivial, (Or.inr ⟨wy_pr rfl, fun q => q⟩), trivial, trivial, trivial, trivial⟩ trivial (fun _ _ q => False.elim q) (nx_q (S := Sq135) hSq135 ⟨by omega, by omega⟩) (fun oq140 Sq140 hp141 q140 => ?_)
                rcases q140 with ⟨rfl, hc137, hg138, ht139⟩
                show wJ _ _ _ _ _ _ _ _ _ _
                have hSq140 : cQ T n N X c f u w (i114 + 1) (I115 ++ [(27, 6 + 16 * t117, (-1), u)]) F116 Sq140 := hc137
                have gSq140 : cQg f (I.length : Int) w S Sq140 := cQg_tr gSq135 (hg138 _ _)
                have krSq140 := kq_rg T n N X (i114 + 1)
                have icSq140 := cQ_ic hSq140
                refine wa_iconst ?_
                refine wa_istore_n (n := 2) rfl ?_
                refine wa_aload_n (n := 0) rfl ?_
                refine wa_iconst ?_
                refine wb_pfi 63 rfl (wy_pr rfl) wt_63 wf_1_16 (n := 16) rfl ⟨(by omega), (by omega)⟩ ?_
                refine wa_fall ⟨_, rfl⟩ ?_
                refine wa_iinc rfl rfl ?_
                refine wa_goto ⟨_, rfl⟩ ?_
                refine wJ_S (wJ_mono (op_4 (D := D + 14) (mm := mm) hX hS (by omega) hw (c + 1) 0 (q + 1) (i114 + 1) (I115 ++ [(27, 6 + 16 * t117, (-1), u)]) F116 (w_up Sq140 63 16 0) (by omega) (cQ_63 (k := 16) (x := 0) hSq140 (Or.inl rfl)) (by omega) (by omega) (by omega) ⟨by omega, by omega⟩ ⟨⟨by omega, by omega⟩, (w_up_same _ _ _ _)⟩ (Or.inl rfl)) (fun o Z hz => cR_tr (by omega) (cQg_tr gSq140 (cQg_up (by omega) (by decide) (by omega))) (by omega) (by omega) (by omega) (pz_le_tr pz_le_rfl p123) (fun R hR o ho => ?_) hz)) ⟨rfl, rfl, rfl, rfl, trivial⟩
                exact pz_qo (pz_qo (t := 0) (pz_cML hR (by unfold pz_ML; (repeat first | rw [if_pos (by omega)] | rw [if_neg (by omega)]); all_goals rfl)) (pz_qo (hd118 R hR) rfl)) ho
              · skip
                refine ⟨rfl, ?_⟩
                refine Or.inr ⟨_, _, rfl, fun R hR => ?_, cQf_tr g0 (by omega) (by omega) hz129⟩
                exact pz_qi (pz_qo (t := 0) (pz_cML hR (by unfold pz_ML; (repeat first | rw [if_pos (by omega)] | rw [if_neg (by omega)]); all_goals rfl)) (pz_qi (hd128 R hR)))
        · skip
          refine wa_aload_n (n := 0) rfl ?_
          refine wa_bipush (w_rg2 (by omega) (by omega)) ?_
          refine wa_iload_n (n := 1) rfl ?_
          refine wa_cv 63 rfl (wy_pr rfl) wt_63 (M2 := fun _ => False) rfl at_XP_open ⟨_, rfl⟩ rfl rfl ⟨trivial, (Or.inr ⟨wy_pr rfl, fun q => q⟩), trivial, trivial, trivial, trivial⟩ trivial (fun _ _ q => False.elim q) (op_q (S := S) (k := 14) (dp := dp) h ⟨by omega, by omega⟩ ⟨by omega, by omega⟩) (fun oq152 Sq152 hp153 q152 => ?_)
          rcases q152 with ⟨rfl, hk145, hc142, hg143, ht144⟩ | ⟨v146, rfl, hk148, hz147⟩ | ⟨v149, rfl, hk151, hz150⟩
          · skip
            show wJ _ _ _ _ _ _ _ _ _ _
            have hSq152 : cQ T n N X c f u w (i + 1) I F Sq152 := hc142
            have gSq152 : cQg f (I.length : Int) w S Sq152 := cQg_tr g0 (hg143 _ _)
            have krSq152 := kq_rg T n N X (i + 1)
            have icSq152 := cQ_ic hSq152
            have dSq152 : pz_op (kq T n N X) (tp T n 0) 14 dp i I F = .inr ((i + 1), I, F, 0) := pz_op_o hk145
            refine wa_aload_n (n := 0) rfl ?_
            refine wa_iload_n (n := 1) rfl ?_
            refine wa_iconst ?_
            refine wa_iadd ?_
            refine wa_cv 63 rfl (wy_pr rfl) wt_63 (M2 := mS [64, 65, 66, 67, 69, 70]) rfl at_XP_readExpression ⟨_, rfl⟩ rfl rfl ⟨trivial, (Or.inr ⟨wy_pr rfl, mS_no rfl⟩), trivial, trivial, trivial, trivial⟩ trivial (fun _ _ q => q) (hX _ (dp + 1) u w (i + 1) I F Sq152 (by omega) ⟨by omega, by omega, by omega⟩ ⟨by omega, by omega⟩ hSq152) (fun oq170 Sq170 hp171 q170 => ?_)
            rcases q170 with ⟨i154, I155, F156, t157, rfl, hd158, hc159, hg160, ⟨p161, p162, p163, p164⟩, e165⟩ | ⟨v166, x167, rfl, hd168, hz169⟩
            · skip
              show wJ _ _ _ _ _ _ _ _ _ _
              have hSq170 : cQ T n N X c f u w i154 I155 F156 Sq170 := hc159
              have gSq170 : cQg f (I.length : Int) w S Sq170 := cQg_tr gSq152 (cQg_mo hg160 (by omega) (by omega))
              have krSq170 := kq_rg T n N X i154
              have icSq170 := cQ_ic hSq170
              have tSq170 : Sq170 63 16 = 0 := e165
              have flSq170 := p163.1
              refine wa_aload_n (n := 0) rfl ?_
              refine wa_bipush (w_rg2 (by omega) (by omega)) ?_
              refine wa_cv 63 rfl (wy_pr rfl) wt_63 (M2 := fun _ => False) rfl at_XP_take ⟨_, rfl⟩ rfl rfl ⟨trivial, (Or.inr ⟨wy_pr rfl, fun q => q⟩), trivial, trivial, trivial, trivial⟩ trivial (fun _ _ q => False.elim q) (tk_q (S := Sq170) (k := 15) hSq170 ⟨by omega, by omega⟩) (fun oq179 Sq179 hp180 q179 => ?_)
              rcases q179 with ⟨rfl, hk175, hc172, hg173, ht174⟩ | ⟨v176, rfl, hk178, hz177⟩
              · skip
                show wJ _ _ _ _ _ _ _ _ _ _
                have hSq179 : cQ T n N X c f u w (i154 + 1) I155 F156 Sq179 := hc172
                have gSq179 : cQg f (I.length : Int) w S Sq179 := cQg_tr gSq170 (hg173 _ _)
                have krSq179 := kq_rg T n N X (i154 + 1)
                have icSq179 := cQ_ic hSq179
                have tSq179 : Sq179 63 16 = 0 := (ht174.1).trans tSq170
                have dSq179 : pz_tk (kq T n N X) (tp T n 0) 15 i154 I155 F156 = .inr ((i154 + 1), I155, F156, 0) := pz_tk_o hk175
                refine wa_aload_n (n := 0) rfl ?_
                refine wa_iconst ?_
                refine wa_iconst ?_
                refine wa_iconst ?_
                refine wa_cv 63 rfl (wy_pr rfl) wt_63 (M2 := mS [64, 65, 66, 67]) rfl at_XP_noteSite ⟨_, rfl⟩ rfl rfl ⟨trivial, (Or.inr ⟨wy_pr rfl, mS_no rfl⟩), trivial, trivial, trivial, trivial⟩ trivial (fun _ _ q => mS_sub (by decide) q) (ns_q (S := Sq179) (k := 2) (y := (-1)) (e := 0) hSq179 ⟨by omega, by omega⟩ ⟨by omega, by omega⟩ ⟨by omega, by omega⟩ (by omega)) (fun oq184 Sq184 hp185 q184 => ?_)
                rcases q184 with ⟨rfl, hc181, hg182, ht183⟩
                show wJ _ _ _ _ _ _ _ _ _ _
                have hSq184 : cQ T n N X c f u w (i154 + 1) (I155 ++ [(27, 2, (-1), u)]) F156 Sq184 := hc181
                have gSq184 : cQg f (I.length : Int) w S Sq184 := cQg_tr gSq179 (hg182 _ _ (by omega))
                have tSq184 : Sq184 63 16 = 0 := (ht183).trans tSq179
                have hlSq184 : (I155 ++ [(27, 2, (-1), u)]).length = I155.length + 1 := List.length_append
                refine wa_aload_n (n := 0) rfl ?_
                refine wa_iconst ?_
                refine wb_pfi 63 rfl (wy_pr rfl) wt_63 wf_1_16 (n := 16) rfl ⟨(by omega), (by omega)⟩ ?_
                refine wa_goto ⟨_, rfl⟩ ?_
                refine wa_iinc rfl rfl ?_
                refine wa_goto ⟨_, rfl⟩ ?_
                refine wJ_S (wJ_mono (ih (q + 1) (i154 + 1) (I155 ++ [(27, 2, (-1), u)]) F156 (w_up Sq184 63 16 3) (by omega) (cQ_63 (k := 16) (x := 3) hSq184 (Or.inl rfl)) (by omega) (by omega) (by omega) ⟨by omega, by omega⟩) (fun o Z hz => cR_tr (by omega) (cQg_tr gSq184 (cQg_up (by omega) (by decide) (by omega))) (by omega) (by omega) (by omega) (pz_le_tr pz_le_rfl p163) (fun R hR o hr => pz_q_mono (fun o2 ho2 => pz_q_mono (fun o3 ho => pz_cML hR ?_) ho2) hr) hz)) ⟨rfl, rfl, rfl, rfl, trivial⟩
                try dsimp only
                unfold pz_ML
                repeat first | rw [if_pos (by omega)] | rw [if_neg (by omega)]
                refine pz_qo (t := 0) ?_ ho
                unfold pz_el
                repeat first | rw [if_pos (by omega)] | rw [if_neg (by omega)]
                first | refine pz_fo dSq152 ?_ | exact dSq152.symm | skip
                repeat first | rw [if_pos (by omega)] | rw [if_neg (by omega)]
                first | refine pz_qo (hd158 R hR) ?_ | exact hd158 R hR
                repeat first | rw [if_pos (by omega)] | rw [if_neg (by omega)]
                first | refine pz_fo dSq179 ?_ | exact dSq179.symm | exact (pz_tk_o hk175).symm | skip
                all_goals repeat first | rw [if_pos (by omega)] | rw [if_neg (by omega)]
                all_goals exact ho
              · skip
                refine ⟨rfl, ?_⟩
                refine Or.inr ⟨_, _, rfl, fun R hR => ?_, cQf_of gSq170 (by omega) (by omega) (cQn_of hSq170) hz177⟩
                refine pz_qi (pz_qi (pz_cML hR ?_))
                unfold pz_ML
                try dsimp only
                repeat first | rw [if_pos (by omega)] | rw [if_neg (by omega)]
                refine pz_qi ?_
                unfold pz_el
                repeat first | rw [if_pos (by omega)] | rw [if_neg (by omega)]
                first | refine pz_fo dSq152 ?_ | exact dSq152.symm | skip
                repeat first | rw [if_pos (by omega)] | rw [if_neg (by omega)]
                first | refine pz_qo (hd158 R hR) ?_ | exact hd158 R hR
                repeat first | rw [if_pos (by omega)] | rw [if_neg (by omega)]
                first | exact pz_fi (pz_tk_f hk178) | exact (pz_tk_f hk178).symm | (exfalso; omega)
                all_goals repeat first | rw [if_pos (by omega)] | rw [if_neg (by omega)]
                all_goals first | rfl | (exfalso; omega)
            · skip
              refine ⟨rfl, ?_⟩
              refine Or.inr ⟨_, _, rfl, fun R hR => ?_, cQf_tr gSq152 (by omega) (by omega) hz169⟩
              refine pz_qi (pz_qi (pz_cML hR ?_))
              unfold pz_ML
              try dsimp only
              repeat first | rw [if_pos (by omega)] | rw [if_neg (by omega)]
              refine pz_qi ?_
              unfold pz_el
              repeat first | rw [if_pos (by omega)] | rw [if_neg (by omega)]
              first | refine pz_fo dSq152 ?_ | exact dSq152.symm | skip
              repeat first | rw [if_pos (by omega)] | rw [if_neg (by omega)]
              first | exact pz_qi (hd168 R hR) | exact hd168 R hR
              all_goals repeat first | rw [if_pos (by omega)] | rw [if_neg (by omega)]
              all_goals first | rfl | (exfalso; omega)
          · skip
            refine ⟨rfl, ?_⟩
            refine Or.inr ⟨_, _, rfl, fun R hR => ?_, cQf_of g0 (by omega) (by omega) (cQn_of h) hz147⟩
            refine pz_qi (pz_qi (pz_cML hR ?_))
            unfold pz_ML
            try dsimp only
            repeat first | rw [if_pos (by omega)] | rw [if_neg (by omega)]
            (exfalso; omega)
            all_goals repeat first | rw [if_pos (by omega)] | rw [if_neg (by omega)]
            all_goals first | rfl | (exfalso; omega)
          · skip
            refine ⟨rfl, ?_⟩
            refine Or.inr ⟨_, _, rfl, fun R hR => ?_, cQf_of g0 (by omega) (by omega) (cQn_of h) hz150⟩
            refine pz_qi (pz_qi (pz_cML hR ?_))
            unfold pz_ML
            try dsimp only
            repeat first | rw [if_pos (by omega)] | rw [if_neg (by omega)]
            refine pz_qi ?_
            unfold pz_el
            repeat first | rw [if_pos (by omega)] | rw [if_neg (by omega)]
            first | exact pz_fi (pz_op_4 hk151) | exact (pz_op_4 hk151).symm | rfl
            all_goals repeat first | rw [if_pos (by omega)] | rw [if_neg (by omega)]
            all_goals first | rfl | (exfalso; omega)
      · skip
        refine wa_aload_n (n := 0) rfl ?_
        refine wa_iload_n (n := 1) rfl ?_
        refine wa_iload_n (n := 2) rfl ?_
        refine wa_cv 63 rfl (wy_pr rfl) wt_63 (M2 := mS [64, 65, 66, 67, 69, 70]) rfl at_XP_readDot ⟨_, rfl⟩ rfl rfl ⟨trivial, (Or.inr ⟨wy_pr rfl, mS_no rfl⟩), trivial, trivial, trivial, trivial⟩ trivial (fun _ _ q => q) ?_ (fun _ _ _ q => q)
        refine wa_aload_n (n := 0) rfl ?_
        refine wb_gf4 63 rfl (wy_pr rfl) wt_63 wf_1_0 (v := 14) wl_63_0 ?_
        refine wa_cv 14 rfl (wy_pr rfl) wt_14 (M2 := fun _ => False) rfl at_XR_next ⟨_, rfl⟩ rfl rfl ⟨(Or.inr ⟨wy_pr rfl, fun q => q⟩), trivial, trivial, trivial⟩ trivial (fun _ _ q => False.elim q) (nx_q (S := S) h ⟨by omega, by omega⟩) (fun oq189 Sq189 hp190 q189 => ?_)
        rcases q189 with ⟨rfl, hc186, hg187, ht188⟩
        show wJ _ _ _ _ _ _ _ _ _ _
        have hSq189 : cQ T n N X c f u w (i + 1) I F Sq189 := hc186
        have gSq189 : cQg f (I.length : Int) w S Sq189 := cQg_tr g0 (hg187 _ _)
        have krSq189 := kq_rg T n N X (i + 1)
        have icSq189 := cQ_ic hSq189
        refine wa_aload_n (n := 0) rfl ?_
        refine wa_cv 63 rfl (wy_pr rfl) wt_63 (M2 := fun _ => False) rfl at_XP_takeName ⟨_, rfl⟩ rfl rfl ⟨(Or.inr ⟨wy_pr rfl, fun q => q⟩), trivial, trivial, trivial⟩ trivial (fun _ _ q => False.elim q) (tn_q (S := Sq189) hSq189) (fun oq201 Sq201 hp202 q201 => ?_)
        rcases q201 with ⟨rfl, hk194, hc191, hg192, ht193⟩ | ⟨v195, rfl, hk197, hz196⟩ | ⟨v198, rfl, hk200, hz199⟩
        · skip
          show wJ _ _ _ _ _ _ _ _ _ _
          have hSq201 : cQ T n N X c f u w (i + 2) I F Sq201 := hc191
          have gSq201 : cQg f (I.length : Int) w S Sq201 := cQg_tr gSq189 (hg192 _ _)
          have krSq201 := kq_rg T n N X (i + 2)
          have icSq201 := cQ_ic hSq201
          have dSq201 : pz_nm (kq T n N X) (vq T n N X) (tp T n 0) (i + 1) I F = .inr ((i + 2), I, F, (vq T n N X (i + 1))) := pz_nm_o hk194.1
          have vnSq201 := vq_nn hk194.1
          refine wa_istore_n (n := 3) rfl ?_
          refine wa_aload_n (n := 0) rfl ?_
          refine wb_gf4 63 rfl (wy_pr rfl) wt_63 wf_1_0 (v := 14) wl_63_0 ?_
          refine wa_cv 14 rfl (wy_pr rfl) wt_14 (M2 := fun _ => False) rfl at_XR_kind ⟨_, rfl⟩ rfl rfl ⟨trivial, (Or.inr ⟨wy_pr rfl, fun q => q⟩), trivial, trivial, trivial⟩ trivial (fun _ _ q => False.elim q) (kd_q (S := Sq201) hSq201) (fun oq203 Sq203 hp204 q203 => ?_)
          rcases q203 with ⟨rfl, rfl⟩
          show wJ _ _ _ _ _ _ _ _ _ _
          refine wa_bipush (w_rg2 (by omega) (by omega)) ?_
          refine wa_icmpne (w_rg0 (by omega) (by omega)) (w_rg0 (by omega) (by omega)) ⟨_, rfl⟩ (fun c205 => ?_) (fun c205 => ?_)
          · skip
            refine wa_aload_n (n := 0) rfl ?_
            refine wa_iconst ?_
            refine wa_iload_n (n := 3) rfl ?_
            refine wa_iconst ?_
            refine wa_cv 63 rfl (wy_pr rfl) wt_63 (M2 := mS [64, 65, 66, 67]) rfl at_XP_noteSite ⟨_, rfl⟩ rfl rfl ⟨trivial, (Or.inr ⟨wy_pr rfl, mS_no rfl⟩), trivial, trivial, trivial⟩ trivial (fun _ _ q => mS_sub (by decide) q) (ns_q (S := Sq201) (k := 0) (y := (vq T n N X (i + 1))) (e := 0) hSq201 ⟨by omega, by omega⟩ ⟨by omega, by omega⟩ ⟨by omega, by omega⟩ (by omega)) (fun oq209 Sq209 hp210 q209 => ?_)
            rcases q209 with ⟨rfl, hc206, hg207, ht208⟩
            show wJ _ _ _ _ _ _ _ _ _ _
            have hSq209 : cQ T n N X c f u w (i + 2) (I ++ [(27, 0, (vq T n N X (i + 1)), u)]) F Sq209 := hc206
            have gSq209 : cQg f (I.length : Int) w S Sq209 := cQg_tr gSq201 (hg207 _ _ (by omega))
            have hlSq209 : (I ++ [(27, 0, (vq T n N X (i + 1)), u)]).length = I.length + 1 := List.length_append
            refine wa_aload_n (n := 0) rfl ?_
            refine wa_iconst ?_
            refine wb_pfi 63 rfl (wy_pr rfl) wt_63 wf_1_16 (n := 16) rfl ⟨(by omega), (by omega)⟩ ?_
            refine wa_fall ⟨_, rfl⟩ ?_
            refine wa_return rfl ?_
            show wJ _ _ _ _ _ _ _ _ _ _
            refine wa_goto ⟨_, rfl⟩ ?_
            refine wa_iinc rfl rfl ?_
            refine wa_goto ⟨_, rfl⟩ ?_
            refine wJ_S (wJ_mono (ih (q + 1) (i + 2) (I ++ [(27, 0, (vq T n N X (i + 1)), u)]) F (w_up Sq209 63 16 2) (by omega) (cQ_63 (k := 16) (x := 2) hSq209 (Or.inl rfl)) (by omega) (by omega) (by omega) ⟨by omega, by omega⟩) (fun o Z hz => cR_tr (by omega) (cQg_tr gSq209 (cQg_up (by omega) (by decide) (by omega))) (by omega) (by omega) (by omega) pz_le_rfl (fun R hR o hr => pz_q_mono (fun o2 ho2 => pz_q_mono (fun o3 ho => pz_cML hR ?_) ho2) hr) hz)) ⟨rfl, rfl, rfl, rfl, trivial⟩
            try dsimp only
            unfold pz_ML
            repeat first | rw [if_pos (by omega)] | rw [if_neg (by omega)]
            first | refine pz_fo dSq201 ?_ | skip
            all_goals repeat first | rw [if_pos (by omega)] | rw [if_neg (by omega)]
            all_goals exact ho
          · skip
            refine wa_iload_n (n := 2) rfl ?_
            refine wa_ifne (w_rg0 (by omega) (by omega)) ⟨_, rfl⟩ (fun c211 => ?_) (fun c211 => ?_)
            · skip
              refine wa_aload_n (n := 0) rfl ?_
              refine wa_iconst ?_
              refine wa_iload_n (n := 3) rfl ?_
              refine wa_iconst ?_
              refine wa_cv 63 rfl (wy_pr rfl) wt_63 (M2 := mS [64, 65, 66, 67]) rfl at_XP_noteSite ⟨_, rfl⟩ rfl rfl ⟨trivial, (Or.inr ⟨wy_pr rfl, mS_no rfl⟩), trivial, trivial, trivial⟩ trivial (fun _ _ q => mS_sub (by decide) q) (ns_q (S := Sq201) (k := 0) (y := (vq T n N X (i + 1))) (e := 0) hSq201 ⟨by omega, by omega⟩ ⟨by omega, by omega⟩ ⟨by omega, by omega⟩ (by omega)) (fun oq215 Sq215 hp216 q215 => ?_)
              rcases q215 with ⟨rfl, hc212, hg213, ht214⟩
              show wJ _ _ _ _ _ _ _ _ _ _
              have hSq215 : cQ T n N X c f u w (i + 2) (I ++ [(27, 0, (vq T n N X (i + 1)), u)]) F Sq215 := hc212
              have gSq215 : cQg f (I.length : Int) w S Sq215 := cQg_tr gSq201 (hg213 _ _ (by omega))
              have hlSq215 : (I ++ [(27, 0, (vq T n N X (i + 1)), u)]).length = I.length + 1 := List.length_append
              refine wa_aload_n (n := 0) rfl ?_
              refine wa_iconst ?_
              refine wb_pfi 63 rfl (wy_pr rfl) wt_63 wf_1_16 (n := 16) rfl ⟨(by omega), (by omega)⟩ ?_
              refine wa_fall ⟨_, rfl⟩ ?_
              refine wa_return rfl ?_
              show wJ _ _ _ _ _ _ _ _ _ _
              refine wa_goto ⟨_, rfl⟩ ?_
              refine wa_iinc rfl rfl ?_
              refine wa_goto ⟨_, rfl⟩ ?_
              refine wJ_S (wJ_mono (ih (q + 1) (i + 2) (I ++ [(27, 0, (vq T n N X (i + 1)), u)]) F (w_up Sq215 63 16 2) (by omega) (cQ_63 (k := 16) (x := 2) hSq215 (Or.inl rfl)) (by omega) (by omega) (by omega) ⟨by omega, by omega⟩) (fun o Z hz => cR_tr (by omega) (cQg_tr gSq215 (cQg_up (by omega) (by decide) (by omega))) (by omega) (by omega) (by omega) pz_le_rfl (fun R hR o hr => pz_q_mono (fun o2 ho2 => pz_q_mono (fun o3 ho => pz_cML hR ?_) ho2) hr) hz)) ⟨rfl, rfl, rfl, rfl, trivial⟩
              try dsimp only
              unfold pz_ML
              repeat first | rw [if_pos (by omega)] | rw [if_neg (by omega)]
              first | refine pz_fo dSq201 ?_ | skip
              all_goals repeat first | rw [if_pos (by omega)] | rw [if_neg (by omega)]
              all_goals exact ho
            · skip
              exact absurd c211 (by omega)
        · skip
          refine ⟨rfl, ?_⟩
          refine ⟨rfl, ?_⟩
          refine Or.inr ⟨_, _, rfl, fun R hR => ?_, cQf_of gSq189 (by omega) (by omega) (cQn_of hSq189) hz196⟩
          refine pz_qi (pz_qi (pz_cML hR ?_))
          unfold pz_ML
          try dsimp only
          repeat first | rw [if_pos (by omega)] | rw [if_neg (by omega)]
          first | exact pz_fi (pz_nm_7 hk197) | rfl | (exfalso; omega)
          all_goals repeat first | rw [if_pos (by omega)] | rw [if_neg (by omega)]
          all_goals first | rfl | (exfalso; omega)
        · skip
          refine ⟨rfl, ?_⟩
          refine ⟨rfl, ?_⟩
          refine Or.inr ⟨_, _, rfl, fun R hR => ?_, cQf_of gSq189 (by omega) (by omega) (cQn_of hSq189) hz199⟩
          refine pz_qi (pz_qi (pz_cML hR ?_))
          unfold pz_ML
          try dsimp only
          repeat first | rw [if_pos (by omega)] | rw [if_neg (by omega)]
          first | exact pz_fi (pz_nm_1 hk200) | rfl | (exfalso; omega)
          all_goals repeat first | rw [if_pos (by omega)] | rw [if_neg (by omega)]
          all_goals first | rfl | (exfalso; omega)
theorem ro_q {D m : Nat} {dp : Int} (hX : cX xs T n N X c f m) (hS : cST xs T n N X c f m) (h : cQ T n N X c f u w i I F S) (hm : c - i < m + 1) (hD : 0 ≤ dp ∧ dp ≤ 50 ∧ 10 * (51 - dp) + 19 ≤ (D : Int)) (hI : I.length ≤ 1 * i) (hw : w ≤ 20 * dp + 12) (hx101 : pe_at (pe_GA xs).xs 101 = some (1, tx_101)) : wJ (pe_GA xs) wY0 (mS [64, 65, 66, 67, 69, 70]) D t_XP_readOperand ((pe_at t_XP_readOperand.bl 0).getD (0, [])).2 [(0, (2, 63)), (1, (0, dp))] [] S (cR T n N X c f (fun R => R 8 0 [] i dp u I F) u w i I F 1 (fun t I2 Z => ((0 ≤ t ∧ t ≤ 3) ∧ Z 63 16 = t) ∧ tl_I u I.length t I2) S) := by
  have g0 : cQg f (I.length : Int) w S S := cQg_rfl
  have kr0 := kq_rg T n N X i
  have ic0 := cQ_ic h
  have hcn := cQ_cn h
  have hwr := cQ_wr h
  obtain ⟨hu1, hu2⟩ := cQ_ur h
  obtain ⟨D, rfl⟩ : ∃ D2, D = D2 + 14 := ⟨D - 14, by omega⟩
  refine wa_aload_n (n := 0) rfl ?_
  refine wb_gf4 63 rfl (wy_pr rfl) wt_63 wf_1_0 (v := 14) wl_63_0 ?_
  refine wa_cv 14 rfl (wy_pr rfl) wt_14 (M2 := fun _ => False) rfl at_XR_kind ⟨_, rfl⟩ rfl rfl ⟨(Or.inr ⟨wy_pr rfl, fun q => q⟩), trivial, trivial⟩ trivial (fun _ _ q => False.elim q) (kd_q (S := S) h) (fun oq101 Sq101 hp102 q101 => ?_)
  rcases q101 with ⟨rfl, rfl⟩
  show wJ _ _ _ _ _ _ _ _ _ _
  refine wa_bipush (w_rg2 (by omega) (by omega)) ?_
  refine wa_icmpne (w_rg0 (by omega) (by omega)) (w_rg0 (by omega) (by omega)) ⟨_, rfl⟩ (fun c103 => ?_) (fun c103 => ?_)
  · skip
    refine wa_iconst ?_
    refine wa_fall ⟨_, rfl⟩ ?_
    refine wa_istore_n (n := 2) rfl ?_
    refine wa_iload_n (n := 2) rfl ?_
    refine wa_ifeq (w_rg0 (by omega) (by omega)) ⟨_, rfl⟩ (fun c104 => ?_) (fun c104 => ?_)
    · skip
      refine wa_aload_n (n := 0) rfl ?_
      refine wa_iload_n (n := 1) rfl ?_
      refine wa_cv 63 rfl (wy_pr rfl) wt_63 (M2 := mS [64, 65, 66, 67, 69, 70]) rfl at_XP_readFirst ⟨_, rfl⟩ rfl rfl ⟨trivial, (Or.inr ⟨wy_pr rfl, mS_no rfl⟩), trivial, trivial⟩ trivial (fun _ _ q => q) (fi_q (x := 1) hX hS h (by omega) ⟨by omega, by omega, by omega⟩ (by omega) (by omega) hx101 (by omega)) (fun oq121 Sq121 hp122 q121 => ?_)
      rcases q121 with ⟨i105, I106, F107, t108, rfl, hd109, hc110, hg111, ⟨p112, p113, p114, p115⟩, e116⟩ | ⟨v117, x118, rfl, hd119, hz120⟩
      · skip
        show wJ _ _ _ _ _ _ _ _ _ _
        have hSq121 : cQ T n N X c f u w i105 I106 F107 Sq121 := hc110
        have gSq121 : cQg f (I.length : Int) w S Sq121 := cQg_tr g0 (cQg_mo hg111 (by omega) (by omega))
        have krSq121 := kq_rg T n N X i105
        have icSq121 := cQ_ic hSq121
        have tSq121 : Sq121 63 16 = t108 := e116.1.2
        have flSq121 := p114.1
        have trSq121 : 0 ≤ t108 ∧ t108 ≤ 3 := e116.1.1
        have tlSq121 := e116.2
        refine wa_iconst ?_
        refine wa_istore_n (n := 3) rfl ?_
        refine wa_fall ⟨_, rfl⟩ ?_
        refine wJ_S (wJ_mono (op_4 (D := D + 14) (mm := I.length) hX hS hD hw (c + 1) t108 0 i105 I106 F107 Sq121 (by omega) hSq121 (by omega) (by omega) (by omega) ⟨by omega, by omega⟩ ⟨⟨by omega, by omega⟩, tSq121⟩ tlSq121) (fun o Z hz => cR_tr (by omega) gSq121 (by omega) (by omega) (by omega) (pz_le_tr pz_le_rfl p114) (fun R hR o ho => pz_cBH hR ?_) hz)) ⟨rfl, rfl, rfl, rfl, trivial⟩
        unfold pz_BH
        exact pz_qo (hd109 R hR) ho
      · skip
        refine ⟨rfl, ?_⟩
        refine Or.inr ⟨_, _, rfl, fun R hR => pz_cBH hR ?_, cQf_tr g0 (by omega) (by omega) hz120⟩
        unfold pz_BH
        exact pz_qi (hd119 R hR)
    · skip
      exact absurd c104 (by omega)
  · skip
    refine wa_iconst ?_
    refine wa_goto ⟨_, rfl⟩ ?_
    refine wa_istore_n (n := 2) rfl ?_
    refine wa_iload_n (n := 2) rfl ?_
    refine wa_ifeq (w_rg0 (by omega) (by omega)) ⟨_, rfl⟩ (fun c123 => ?_) (fun c123 => ?_)
    · skip
      exact absurd c123 (by omega)
    · skip
      refine wa_aload_n (n := 0) rfl ?_
      refine wb_gf4 63 rfl (wy_pr rfl) wt_63 wf_1_0 (v := 14) wl_63_0 ?_
      refine wa_cv 14 rfl (wy_pr rfl) wt_14 (M2 := fun _ => False) rfl at_XR_next ⟨_, rfl⟩ rfl rfl ⟨trivial, (Or.inr ⟨wy_pr rfl, fun q => q⟩), trivial, trivial⟩ trivial (fun _ _ q => False.elim q) (nx_q (S := S) h ⟨by omega, by omega⟩) (fun oq127 Sq127 hp128 q127 => ?_)
      rcases q127 with ⟨rfl, hc124, hg125, ht126⟩
      show wJ _ _ _ _ _ _ _ _ _ _
      have hSq127 : cQ T n N X c f u w (i + 1) I F Sq127 := hc124
      have gSq127 : cQg f (I.length : Int) w S Sq127 := cQg_tr g0 (hg125 _ _)
      have krSq127 := kq_rg T n N X (i + 1)
      have icSq127 := cQ_ic hSq127
      refine wa_fall ⟨_, rfl⟩ ?_
      refine wa_aload_n (n := 0) rfl ?_
      refine wa_iload_n (n := 1) rfl ?_
      refine wa_cv 63 rfl (wy_pr rfl) wt_63 (M2 := mS [64, 65, 66, 67, 69, 70]) rfl at_XP_readFirst ⟨_, rfl⟩ rfl rfl ⟨trivial, (Or.inr ⟨wy_pr rfl, mS_no rfl⟩), trivial, trivial⟩ trivial (fun _ _ q => q) (fi_q (x := 0) hX hS hSq127 (by omega) ⟨by omega, by omega, by omega⟩ (by omega) (by omega) hx101 (by omega)) (fun oq145 Sq145 hp146 q145 => ?_)
      rcases q145 with ⟨i129, I130, F131, t132, rfl, hd133, hc134, hg135, ⟨p136, p137, p138, p139⟩, e140⟩ | ⟨v141, x142, rfl, hd143, hz144⟩
      · skip
        show wJ _ _ _ _ _ _ _ _ _ _
        have hSq145 : cQ T n N X c f u w i129 I130 F131 Sq145 := hc134
        have gSq145 : cQg f (I.length : Int) w S Sq145 := cQg_tr gSq127 (cQg_mo hg135 (by omega) (by omega))
        have krSq145 := kq_rg T n N X i129
        have icSq145 := cQ_ic hSq145
        have tSq145 : Sq145 63 16 = t132 := e140.1.2
        have flSq145 := p138.1
        have trSq145 : 0 ≤ t132 ∧ t132 ≤ 3 := e140.1.1
        have tlSq145 := e140.2
        refine wa_iconst ?_
        refine wa_istore_n (n := 3) rfl ?_
        refine wa_fall ⟨_, rfl⟩ ?_
        refine wJ_S (wJ_mono (op_4m (D := D + 14) (mm := I.length) hX hS hD hw (c + 1) 0 i129 I130 F131 Sq145 (by omega) hSq145 (by omega) (by omega) (by omega) ⟨by omega, by omega⟩) (fun o Z hz => cR_tr (by omega) gSq145 (by omega) (by omega) (by omega) (pz_le_tr pz_le_rfl p138) (fun R hR o ho => pz_cBH hR ?_) hz)) ⟨rfl, rfl, rfl, rfl, trivial⟩
        unfold pz_BH
        exact pz_q_mono (fun o2 ho2 => pz_cFI hR (by unfold pz_FI; (repeat first | rw [if_pos (by omega)] | rw [if_neg (by omega)]); unfold pz_FI49; exact pz_qo (hd133 R hR) ho2)) ho
      · skip
        refine ⟨rfl, ?_⟩
        refine Or.inr ⟨_, _, rfl, fun R hR => pz_cBH hR ?_, cQf_tr gSq127 (by omega) (by omega) hz144⟩
        unfold pz_BH
        exact pz_qi (pz_cFI hR (by unfold pz_FI; (repeat first | rw [if_pos (by omega)] | rw [if_neg (by omega)]); unfold pz_FI49; exact pz_qi (hd143 R hR)))
end Wbd
