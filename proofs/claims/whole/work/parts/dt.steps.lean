/-! PART dt: a step of the class, by what its instruction does. -/
section Wdt
variable {xs : List (Nat × List Int32)} {d : Nat} {S Z : wS} {ml : List Nat} {R : wS → Prop}
theorem sp_215 {c g p e h a b oq : Int} (hB : xB 215 c g p e h S) (ho : S 31 (e + p) = oq) (ha : S 32 (e + p) = a) (hb : S 33 (e + p) = b) (ho1 : ((0 ≤ oq ∧ oq ≤ 6) ∨ (20 ≤ oq ∧ oq ≤ 33 ∧ oq ≠ 27 ∧ oq ≠ 28))) (hl : 2000 ≤ h → ¬ (oq = 0 ∨ oq = 1 ∨ oq = 3 ∨ oq = 6 ∨ oq = 24 ∨ oq = 26 ∨ oq = 33 ∨ (oq = 25 ∧ a = 0))) (hml : ∀ x ∈ [217, 218], x ∈ ml) (hmn : ¬ mS ml 215) (hcal : wJ (pe_GA xs) wY0 (mS ml) (d + 11) t_XK_perform ((pe_at t_XK_perform.bl 0).getD (0, [])).2 [(0, (2, 215)), (1, (0, oq)), (2, (0, a)), (3, (0, b))] [] (w_up S 215 16 0) (fun o Z => o = .inl none ∧ R Z)) (hR : ∀ Z : wS, R Z → Z 215 16 ≠ 0 → Z 215 16 ≠ 99 → xR 215 Z) : wJ (pe_GA xs) wY0 (mS ml) (d + 12) t_XK_step ((pe_at t_XK_step.bl 0).getD (0, [])).2 [(0, (2, 215))] [] S (fun o Z2 => ∃ Z : wS, R Z ∧ sR 215 Z o Z2) := by
  obtain ⟨⟨hC, hI⟩, ⟨bc, bc0, bc1⟩, ⟨bg, bg0, bg1⟩, ⟨bp, bp0, bp1⟩, ⟨be, be0, be1, be2, be3, be4⟩, ⟨bh, bh0, bh1, bh2⟩, bl1, bl2, bl3⟩ := hB
  refine wa_aload_n (n := 0) rfl ?_
  refine wb_gfi 215 rfl (wy_pr rfl) wt_215 wf_8_4 (v := c) (bc) (fun r1 => ?_)
  refine wa_iconst ?_
  refine wa_icmpge (w_rg0 (by omega) (by omega)) (w_rg0 (by omega) (by omega)) ⟨_, rfl⟩ (fun c2 => ?_) (fun c2 => ?_)
  · skip
    refine wa_aload_n (n := 0) rfl ?_
    refine wa_iconst ?_
    refine wb_pfi 215 rfl (wy_pr rfl) wt_215 wf_8_16 (n := 16) rfl ⟨(by omega), (by omega)⟩ ?_
    refine wa_aload_n (n := 0) rfl ?_
    refine wb_gf4 215 rfl (wy_pr rfl) wt_215 wf_8_1 (v := 19) wl_215_1 ?_
    refine wb_gf4 19 rfl (wy_pr rfl) wt_19 wf_0_0 (v := 20) wl_19_0 ?_
    refine wa_bipush (w_rg2 (by omega) (by omega)) ?_
    refine wb_aald5 20 6 rfl rfl (wy_pr rfl) wt_20 (by rw [show _ = _ from ((w_up_slot (by decide)).trans ((cl_20 hC)))]; omega) wl_20_6 ?_
    refine wa_aload_n (n := 0) rfl ?_
    refine wb_gf4 215 rfl (wy_pr rfl) wt_215 wf_8_5 (v := 219) wl_215_5 ?_
    refine wa_aload_n (n := 0) rfl ?_
    refine wb_gfi 215 rfl (wy_pr rfl) wt_215 wf_8_4 (v := c) ((w_up_at (by decide)).trans (bc)) (fun r3 => ?_)
    refine wa_iconst ?_
    refine wa_isub ?_
    refine wb_iald 219 rfl (wy_pr rfl) wt_219 (n := 200) ((w_up_slot (by decide)).trans ((cl_219 hC))) (by omega) (by omega) (v := g) ((w_up_slot (by decide)).trans (bg)) (fun r4 => ?_)
    refine wb_iald 27 rfl (wy_pr rfl) wt_27 (n := 400) ((w_up_slot (by decide)).trans ((cl_27 hC))) (by omega) (by omega) (v := e) ((w_up_slot (by decide)).trans (be)) (fun r5 => ?_)
    refine wa_aload_n (n := 0) rfl ?_
    refine wb_gf4 215 rfl (wy_pr rfl) wt_215 wf_8_6 (v := 220) wl_215_6 ?_
    refine wa_aload_n (n := 0) rfl ?_
    refine wb_gfi 215 rfl (wy_pr rfl) wt_215 wf_8_4 (v := c) ((w_up_at (by decide)).trans (bc)) (fun r6 => ?_)
    refine wa_iconst ?_
    refine wa_isub ?_
    refine wb_iald 220 rfl (wy_pr rfl) wt_220 (n := 200) ((w_up_slot (by decide)).trans ((cl_220 hC))) (by omega) (by omega) (v := p) ((w_up_slot (by decide)).trans (bp)) (fun r7 => ?_)
    refine wa_iadd ?_
    refine wa_istore_n (n := 1) rfl ?_
    refine wa_aload_n (n := 0) rfl ?_
    refine wb_gf4 215 rfl (wy_pr rfl) wt_215 wf_8_1 (v := 19) wl_215_1 ?_
    refine wb_gf4 19 rfl (wy_pr rfl) wt_19 wf_0_4 (v := 31) wl_19_4 ?_
    refine wa_iload_n (n := 1) rfl ?_
    refine wb_iald 31 rfl (wy_pr rfl) wt_31 (n := (S 31 (-1))) ((w_up_slot (by decide)).trans (rfl)) (by omega) (by omega) (v := oq) ((w_up_slot (by decide)).trans (ho)) (fun r8 => ?_)
    refine wa_istore_n (n := 2) rfl ?_
    refine wa_aload_n (n := 0) rfl ?_
    refine wb_gf4 215 rfl (wy_pr rfl) wt_215 wf_8_1 (v := 19) wl_215_1 ?_
    refine wb_gf4 19 rfl (wy_pr rfl) wt_19 wf_0_5 (v := 32) wl_19_5 ?_
    refine wa_iload_n (n := 1) rfl ?_
    refine wb_iald 32 rfl (wy_pr rfl) wt_32 (n := (S 31 (-1))) ((w_up_slot (by decide)).trans (be2)) (by omega) (by omega) (v := a) ((w_up_slot (by decide)).trans (ha)) (fun r9 => ?_)
    refine wa_istore_n (n := 3) rfl ?_
    refine wa_iload_n (n := 2) rfl ?_
    refine wa_bipush (w_rg2 (by omega) (by omega)) ?_
    refine wa_icmpne (w_rg0 (by omega) (by omega)) (w_rg0 (by omega) (by omega)) ⟨_, rfl⟩ (fun c10 => ?_) (fun c10 => ?_)
    · skip
      have key : wJ (pe_GA xs) wY0 (mS ml) (d + 12) t_XK_step ((pe_at t_XK_step.bl 8).getD (0, [])).2 [(3, (0, a)), (2, (0, oq)), (1, (0, (e + p))), (0, (2, 215))] [] (w_up S 215 16 0) (fun o Z2 => ∃ Z : wS, R Z ∧ sR 215 Z o Z2) := by
        refine wa_iload_n (n := 2) rfl ?_
        refine wa_bipush (w_rg2 (by omega) (by omega)) ?_
        refine wa_icmplt (w_rg0 (by omega) (by omega)) (w_rg0 (by omega) (by omega)) ⟨_, rfl⟩ (fun c11 => ?_) (fun c11 => ?_)
        · skip
          refine wa_iload_n (n := 2) rfl ?_
          refine wa_bipush (w_rg2 (by omega) (by omega)) ?_
          refine wa_icmpne (w_rg0 (by omega) (by omega)) (w_rg0 (by omega) (by omega)) ⟨_, rfl⟩ (fun c12 => ?_) (fun c12 => ?_)
          · skip
            refine wa_aload_n (n := 0) rfl ?_
            refine wa_iload_n (n := 2) rfl ?_
            refine wa_iload_n (n := 3) rfl ?_
            refine wa_aload_n (n := 0) rfl ?_
            refine wb_gf4 215 rfl (wy_pr rfl) wt_215 wf_8_1 (v := 19) wl_215_1 ?_
            refine wb_gf4 19 rfl (wy_pr rfl) wt_19 wf_0_6 (v := 33) wl_19_6 ?_
            refine wa_iload_n (n := 1) rfl ?_
            refine wb_iald 33 rfl (wy_pr rfl) wt_33 (n := (S 31 (-1))) ((w_up_slot (by decide)).trans (be3)) (by omega) (by omega) (v := b) ((w_up_slot (by decide)).trans (hb)) (fun r13 => ?_)
            refine wa_cv 215 rfl (wy_pr rfl) wt_215 (M2 := mS ml) rfl at_XK_perform ⟨_, rfl⟩ rfl rfl ⟨trivial, trivial, trivial, (Or.inr ⟨wy_pr rfl, hmn⟩), trivial⟩ trivial (fun _ _ q => q) (hcal) (fun oq14 Sq14 hp15 q14 => ?_)
            rcases q14 with ⟨rfl, hz14⟩
            show wJ _ _ _ _ _ _ _ _ _ _
            refine wa_fall ⟨_, rfl⟩ ?_
            refine wa_aload_n (n := 0) rfl ?_
            refine wb_gfi 215 rfl (wy_pr rfl) wt_215 wf_8_16 (v := (Sq14 215 16)) rfl (fun r16 => ?_)
            refine wa_bipush (w_rg2 (by omega) (by omega)) ?_
            refine wa_icmpne (w_rg0 (by omega) (by omega)) (w_rg0 (by omega) (by omega)) ⟨_, rfl⟩ (fun c17 => ?_) (fun c17 => ?_)
            · skip
              refine wa_aload_n (n := 0) rfl ?_
              refine wb_gfi 215 rfl (wy_pr rfl) wt_215 wf_8_16 (v := (Sq14 215 16)) rfl (fun r18 => ?_)
              refine wa_ifeq (w_rg0 (by omega) (by omega)) ⟨_, rfl⟩ (fun c19 => ?_) (fun c19 => ?_)
              · skip
                refine wa_iconst ?_
                refine wa_zreturn rfl (Or.inr rfl) ?_
                exact ⟨_, hz14, Or.inl ⟨by omega, rfl, rfl⟩⟩
              · skip
                refine wa_aload_n (n := 0) rfl ?_
                refine wa_iconst ?_
                refine wa_aload_n (n := 0) rfl ?_
                refine wb_gfi 215 rfl (wy_pr rfl) wt_215 wf_8_16 (v := (Sq14 215 16)) rfl (fun r20 => ?_)
                refine wa_i2l (w_rg0 (by omega) (by omega)) ?_
                refine wa_cv 215 rfl (wy_pr rfl) wt_215 (M2 := mS [217, 218]) rfl at_XK_raise ⟨_, rfl⟩ rfl rfl ⟨trivial, trivial, trivial, (Or.inr ⟨wy_pr rfl, mS_no rfl⟩), trivial⟩ trivial (fun _ _ q => mS_sub hml q) (rq_215 (hR _ hz14 (by omega) (by omega)) ⟨by omega, by omega⟩ ⟨by omega, by omega⟩) (fun oq21 Sq21 hp22 q21 => ?_)
                rcases q21 with ⟨rfl, rs21⟩
                show wJ _ _ _ _ _ _ _ _ _ _
                refine wa_fall ⟨_, rfl⟩ ?_
                refine wa_iconst ?_
                refine wa_zreturn rfl (Or.inr rfl) ?_
                exact ⟨_, hz14, Or.inr (Or.inr ⟨by omega, by omega, rfl, rs21⟩)⟩
            · skip
              refine wa_aload_n (n := 0) rfl ?_
              refine wa_iconst ?_
              refine wb_pfi 215 rfl (wy_pr rfl) wt_215 wf_8_13 (n := 13) rfl ⟨(by omega), (by omega)⟩ ?_
              refine wa_iconst ?_
              refine wa_zreturn rfl (Or.inl rfl) ?_
              exact ⟨_, hz14, Or.inr (Or.inl ⟨by omega, rfl, rfl⟩)⟩
          · skip
            exact absurd c12 (by omega)
        · skip
          refine wa_iload_n (n := 2) rfl ?_
          refine wa_bipush (w_rg2 (by omega) (by omega)) ?_
          refine wa_icmpgt (w_rg0 (by omega) (by omega)) (w_rg0 (by omega) (by omega)) ⟨_, rfl⟩ (fun c23 => ?_) (fun c23 => ?_)
          · skip
            refine wa_iload_n (n := 2) rfl ?_
            refine wa_bipush (w_rg2 (by omega) (by omega)) ?_
            refine wa_icmpne (w_rg0 (by omega) (by omega)) (w_rg0 (by omega) (by omega)) ⟨_, rfl⟩ (fun c24 => ?_) (fun c24 => ?_)
            · skip
              refine wa_aload_n (n := 0) rfl ?_
              refine wa_iload_n (n := 2) rfl ?_
              refine wa_iload_n (n := 3) rfl ?_
              refine wa_aload_n (n := 0) rfl ?_
              refine wb_gf4 215 rfl (wy_pr rfl) wt_215 wf_8_1 (v := 19) wl_215_1 ?_
              refine wb_gf4 19 rfl (wy_pr rfl) wt_19 wf_0_6 (v := 33) wl_19_6 ?_
              refine wa_iload_n (n := 1) rfl ?_
              refine wb_iald 33 rfl (wy_pr rfl) wt_33 (n := (S 31 (-1))) ((w_up_slot (by decide)).trans (be3)) (by omega) (by omega) (v := b) ((w_up_slot (by decide)).trans (hb)) (fun r25 => ?_)
              refine wa_cv 215 rfl (wy_pr rfl) wt_215 (M2 := mS ml) rfl at_XK_perform ⟨_, rfl⟩ rfl rfl ⟨trivial, trivial, trivial, (Or.inr ⟨wy_pr rfl, hmn⟩), trivial⟩ trivial (fun _ _ q => q) (hcal) (fun oq26 Sq26 hp27 q26 => ?_)
              rcases q26 with ⟨rfl, hz26⟩
              show wJ _ _ _ _ _ _ _ _ _ _
              refine wa_fall ⟨_, rfl⟩ ?_
              refine wa_aload_n (n := 0) rfl ?_
              refine wb_gfi 215 rfl (wy_pr rfl) wt_215 wf_8_16 (v := (Sq26 215 16)) rfl (fun r28 => ?_)
              refine wa_bipush (w_rg2 (by omega) (by omega)) ?_
              refine wa_icmpne (w_rg0 (by omega) (by omega)) (w_rg0 (by omega) (by omega)) ⟨_, rfl⟩ (fun c29 => ?_) (fun c29 => ?_)
              · skip
                refine wa_aload_n (n := 0) rfl ?_
                refine wb_gfi 215 rfl (wy_pr rfl) wt_215 wf_8_16 (v := (Sq26 215 16)) rfl (fun r30 => ?_)
                refine wa_ifeq (w_rg0 (by omega) (by omega)) ⟨_, rfl⟩ (fun c31 => ?_) (fun c31 => ?_)
                · skip
                  refine wa_iconst ?_
                  refine wa_zreturn rfl (Or.inr rfl) ?_
                  exact ⟨_, hz26, Or.inl ⟨by omega, rfl, rfl⟩⟩
                · skip
                  refine wa_aload_n (n := 0) rfl ?_
                  refine wa_iconst ?_
                  refine wa_aload_n (n := 0) rfl ?_
                  refine wb_gfi 215 rfl (wy_pr rfl) wt_215 wf_8_16 (v := (Sq26 215 16)) rfl (fun r32 => ?_)
                  refine wa_i2l (w_rg0 (by omega) (by omega)) ?_
                  refine wa_cv 215 rfl (wy_pr rfl) wt_215 (M2 := mS [217, 218]) rfl at_XK_raise ⟨_, rfl⟩ rfl rfl ⟨trivial, trivial, trivial, (Or.inr ⟨wy_pr rfl, mS_no rfl⟩), trivial⟩ trivial (fun _ _ q => mS_sub hml q) (rq_215 (hR _ hz26 (by omega) (by omega)) ⟨by omega, by omega⟩ ⟨by omega, by omega⟩) (fun oq33 Sq33 hp34 q33 => ?_)
                  rcases q33 with ⟨rfl, rs33⟩
                  show wJ _ _ _ _ _ _ _ _ _ _
                  refine wa_fall ⟨_, rfl⟩ ?_
                  refine wa_iconst ?_
                  refine wa_zreturn rfl (Or.inr rfl) ?_
                  exact ⟨_, hz26, Or.inr (Or.inr ⟨by omega, by omega, rfl, rs33⟩)⟩
              · skip
                refine wa_aload_n (n := 0) rfl ?_
                refine wa_iconst ?_
                refine wb_pfi 215 rfl (wy_pr rfl) wt_215 wf_8_13 (n := 13) rfl ⟨(by omega), (by omega)⟩ ?_
                refine wa_iconst ?_
                refine wa_zreturn rfl (Or.inl rfl) ?_
                exact ⟨_, hz26, Or.inr (Or.inl ⟨by omega, rfl, rfl⟩)⟩
            · skip
              exact absurd c24 (by omega)
          · skip
            exact absurd c23 (by omega)
      refine wa_aload_n (n := 0) rfl ?_
      refine wb_gf4 215 rfl (wy_pr rfl) wt_215 wf_8_3 (v := 216) wl_215_3 ?_
      refine wb_gfi 216 rfl (wy_pr rfl) wt_216 wf_7_2 (v := h) ((w_up_slot (by decide)).trans (bh)) (fun r35 => ?_)
      refine wa_sipush (by omega) ?_
      refine wa_icmplt (w_rg0 (by omega) (by omega)) (w_rg0 (by omega) (by omega)) ⟨_, rfl⟩ (fun c36 => ?_) (fun c36 => ?_)
      · skip
        exact key
      · skip
        refine wa_iload_n (n := 2) rfl ?_
        refine wa_iload_n (n := 3) rfl ?_
        refine wa_cs (M2 := mS ml) rfl at_XK_pushes ⟨_, rfl⟩ rfl rfl ⟨trivial, trivial, trivial, (Or.inr ⟨wy_pr rfl, hmn⟩), trivial⟩ trivial (fun _ _ q => q) ?_ (fun _ _ _ q => q)
        refine wa_iload_n (n := 0) rfl ?_
        refine wa_ifeq (w_rg0 (by omega) (by omega)) ⟨_, rfl⟩ (fun c37 => ?_) (fun c37 => ?_)
        · skip
          exfalso; have := hl (by omega); omega
        · skip
          refine wa_iload_n (n := 0) rfl ?_
          refine wa_iconst ?_
          refine wa_icmpeq (w_rg0 (by omega) (by omega)) (w_rg0 (by omega) (by omega)) ⟨_, rfl⟩ (fun c38 => ?_) (fun c38 => ?_)
          · skip
            exfalso; have := hl (by omega); omega
          · skip
            refine wa_iload_n (n := 0) rfl ?_
            refine wa_iconst ?_
            refine wa_icmpeq (w_rg0 (by omega) (by omega)) (w_rg0 (by omega) (by omega)) ⟨_, rfl⟩ (fun c39 => ?_) (fun c39 => ?_)
            · skip
              exfalso; have := hl (by omega); omega
            · skip
              refine wa_iload_n (n := 0) rfl ?_
              refine wa_bipush (w_rg2 (by omega) (by omega)) ?_
              refine wa_icmpeq (w_rg0 (by omega) (by omega)) (w_rg0 (by omega) (by omega)) ⟨_, rfl⟩ (fun c40 => ?_) (fun c40 => ?_)
              · skip
                exfalso; have := hl (by omega); omega
              · skip
                refine wa_iload_n (n := 0) rfl ?_
                refine wa_bipush (w_rg2 (by omega) (by omega)) ?_
                refine wa_icmpeq (w_rg0 (by omega) (by omega)) (w_rg0 (by omega) (by omega)) ⟨_, rfl⟩ (fun c41 => ?_) (fun c41 => ?_)
                · skip
                  exfalso; have := hl (by omega); omega
                · skip
                  refine wa_iload_n (n := 0) rfl ?_
                  refine wa_bipush (w_rg2 (by omega) (by omega)) ?_
                  refine wa_icmpeq (w_rg0 (by omega) (by omega)) (w_rg0 (by omega) (by omega)) ⟨_, rfl⟩ (fun c42 => ?_) (fun c42 => ?_)
                  · skip
                    exfalso; have := hl (by omega); omega
                  · skip
                    refine wa_iload_n (n := 0) rfl ?_
                    refine wa_bipush (w_rg2 (by omega) (by omega)) ?_
                    refine wa_icmpeq (w_rg0 (by omega) (by omega)) (w_rg0 (by omega) (by omega)) ⟨_, rfl⟩ (fun c43 => ?_) (fun c43 => ?_)
                    · skip
                      exfalso; have := hl (by omega); omega
                    · skip
                      refine wa_iload_n (n := 0) rfl ?_
                      refine wa_bipush (w_rg2 (by omega) (by omega)) ?_
                      refine wa_icmpne (w_rg0 (by omega) (by omega)) (w_rg0 (by omega) (by omega)) ⟨_, rfl⟩ (fun c44 => ?_) (fun c44 => ?_)
                      · skip
                        refine wa_iconst ?_
                        refine wa_fall ⟨_, rfl⟩ ?_
                        refine wa_zreturn rfl (Or.inl rfl) ?_
                        show wJ _ _ _ _ _ _ _ _ _ _
                        refine wa_ifeq (w_rg0 (by omega) (by omega)) ⟨_, rfl⟩ (fun c45 => ?_) (fun c45 => ?_)
                        · skip
                          exact key
                        · skip
                          exact absurd c45 (by omega)
                      · skip
                        refine wa_iload_n (n := 1) rfl ?_
                        refine wa_ifne (w_rg0 (by omega) (by omega)) ⟨_, rfl⟩ (fun c46 => ?_) (fun c46 => ?_)
                        · skip
                          refine wa_iconst ?_
                          refine wa_fall ⟨_, rfl⟩ ?_
                          refine wa_zreturn rfl (Or.inl rfl) ?_
                          show wJ _ _ _ _ _ _ _ _ _ _
                          refine wa_ifeq (w_rg0 (by omega) (by omega)) ⟨_, rfl⟩ (fun c47 => ?_) (fun c47 => ?_)
                          · skip
                            exact key
                          · skip
                            exact absurd c47 (by omega)
                        · skip
                          refine wa_fall ⟨_, rfl⟩ ?_
                          exfalso; have := hl (by omega); omega
    · skip
      exact absurd c10 (by omega)
  · skip
    exfalso; omega
theorem so_215 {c g p e h a b oq : Int} (hB : xB 215 c g p e h S) (ho : S 31 (e + p) = oq) (ha : S 32 (e + p) = a) (hb : S 33 (e + p) = b) (ho1 : (7 ≤ oq ∧ oq ≤ 19)) (hl : 2000 ≤ h → ¬ (oq = 0 ∨ oq = 1 ∨ oq = 3 ∨ oq = 6 ∨ oq = 24 ∨ oq = 26 ∨ oq = 33 ∨ (oq = 25 ∧ a = 0))) (hml : ∀ x ∈ [217, 218], x ∈ ml) (hmn : ¬ mS ml 215) (hcal : wJ (pe_GA xs) wY0 (mS ml) (d + 11) t_XK_operate ((pe_at t_XK_operate.bl 0).getD (0, [])).2 [(0, (2, 215)), (1, (0, oq))] [] (w_up S 215 16 0) (fun o Z => o = .inl none ∧ R Z)) (hR : ∀ Z : wS, R Z → Z 215 16 ≠ 0 → Z 215 16 ≠ 99 → xR 215 Z) : wJ (pe_GA xs) wY0 (mS ml) (d + 12) t_XK_step ((pe_at t_XK_step.bl 0).getD (0, [])).2 [(0, (2, 215))] [] S (fun o Z2 => ∃ Z : wS, R Z ∧ sR 215 Z o Z2) := by
  obtain ⟨⟨hC, hI⟩, ⟨bc, bc0, bc1⟩, ⟨bg, bg0, bg1⟩, ⟨bp, bp0, bp1⟩, ⟨be, be0, be1, be2, be3, be4⟩, ⟨bh, bh0, bh1, bh2⟩, bl1, bl2, bl3⟩ := hB
  refine wa_aload_n (n := 0) rfl ?_
  refine wb_gfi 215 rfl (wy_pr rfl) wt_215 wf_8_4 (v := c) (bc) (fun r1 => ?_)
  refine wa_iconst ?_
  refine wa_icmpge (w_rg0 (by omega) (by omega)) (w_rg0 (by omega) (by omega)) ⟨_, rfl⟩ (fun c2 => ?_) (fun c2 => ?_)
  · skip
    refine wa_aload_n (n := 0) rfl ?_
    refine wa_iconst ?_
    refine wb_pfi 215 rfl (wy_pr rfl) wt_215 wf_8_16 (n := 16) rfl ⟨(by omega), (by omega)⟩ ?_
    refine wa_aload_n (n := 0) rfl ?_
    refine wb_gf4 215 rfl (wy_pr rfl) wt_215 wf_8_1 (v := 19) wl_215_1 ?_
    refine wb_gf4 19 rfl (wy_pr rfl) wt_19 wf_0_0 (v := 20) wl_19_0 ?_
    refine wa_bipush (w_rg2 (by omega) (by omega)) ?_
    refine wb_aald5 20 6 rfl rfl (wy_pr rfl) wt_20 (by rw [show _ = _ from ((w_up_slot (by decide)).trans ((cl_20 hC)))]; omega) wl_20_6 ?_
    refine wa_aload_n (n := 0) rfl ?_
    refine wb_gf4 215 rfl (wy_pr rfl) wt_215 wf_8_5 (v := 219) wl_215_5 ?_
    refine wa_aload_n (n := 0) rfl ?_
    refine wb_gfi 215 rfl (wy_pr rfl) wt_215 wf_8_4 (v := c) ((w_up_at (by decide)).trans (bc)) (fun r3 => ?_)
    refine wa_iconst ?_
    refine wa_isub ?_
    refine wb_iald 219 rfl (wy_pr rfl) wt_219 (n := 200) ((w_up_slot (by decide)).trans ((cl_219 hC))) (by omega) (by omega) (v := g) ((w_up_slot (by decide)).trans (bg)) (fun r4 => ?_)
    refine wb_iald 27 rfl (wy_pr rfl) wt_27 (n := 400) ((w_up_slot (by decide)).trans ((cl_27 hC))) (by omega) (by omega) (v := e) ((w_up_slot (by decide)).trans (be)) (fun r5 => ?_)
    refine wa_aload_n (n := 0) rfl ?_
    refine wb_gf4 215 rfl (wy_pr rfl) wt_215 wf_8_6 (v := 220) wl_215_6 ?_
    refine wa_aload_n (n := 0) rfl ?_
    refine wb_gfi 215 rfl (wy_pr rfl) wt_215 wf_8_4 (v := c) ((w_up_at (by decide)).trans (bc)) (fun r6 => ?_)
    refine wa_iconst ?_
    refine wa_isub ?_
    refine wb_iald 220 rfl (wy_pr rfl) wt_220 (n := 200) ((w_up_slot (by decide)).trans ((cl_220 hC))) (by omega) (by omega) (v := p) ((w_up_slot (by decide)).trans (bp)) (fun r7 => ?_)
    refine wa_iadd ?_
    refine wa_istore_n (n := 1) rfl ?_
    refine wa_aload_n (n := 0) rfl ?_
    refine wb_gf4 215 rfl (wy_pr rfl) wt_215 wf_8_1 (v := 19) wl_215_1 ?_
    refine wb_gf4 19 rfl (wy_pr rfl) wt_19 wf_0_4 (v := 31) wl_19_4 ?_
    refine wa_iload_n (n := 1) rfl ?_
    refine wb_iald 31 rfl (wy_pr rfl) wt_31 (n := (S 31 (-1))) ((w_up_slot (by decide)).trans (rfl)) (by omega) (by omega) (v := oq) ((w_up_slot (by decide)).trans (ho)) (fun r8 => ?_)
    refine wa_istore_n (n := 2) rfl ?_
    refine wa_aload_n (n := 0) rfl ?_
    refine wb_gf4 215 rfl (wy_pr rfl) wt_215 wf_8_1 (v := 19) wl_215_1 ?_
    refine wb_gf4 19 rfl (wy_pr rfl) wt_19 wf_0_5 (v := 32) wl_19_5 ?_
    refine wa_iload_n (n := 1) rfl ?_
    refine wb_iald 32 rfl (wy_pr rfl) wt_32 (n := (S 31 (-1))) ((w_up_slot (by decide)).trans (be2)) (by omega) (by omega) (v := a) ((w_up_slot (by decide)).trans (ha)) (fun r9 => ?_)
    refine wa_istore_n (n := 3) rfl ?_
    refine wa_iload_n (n := 2) rfl ?_
    refine wa_bipush (w_rg2 (by omega) (by omega)) ?_
    refine wa_icmpne (w_rg0 (by omega) (by omega)) (w_rg0 (by omega) (by omega)) ⟨_, rfl⟩ (fun c10 => ?_) (fun c10 => ?_)
    · skip
      have key : wJ (pe_GA xs) wY0 (mS ml) (d + 12) t_XK_step ((pe_at t_XK_step.bl 8).getD (0, [])).2 [(3, (0, a)), (2, (0, oq)), (1, (0, (e + p))), (0, (2, 215))] [] (w_up S 215 16 0) (fun o Z2 => ∃ Z : wS, R Z ∧ sR 215 Z o Z2) := by
        refine wa_iload_n (n := 2) rfl ?_
        refine wa_bipush (w_rg2 (by omega) (by omega)) ?_
        refine wa_icmplt (w_rg0 (by omega) (by omega)) (w_rg0 (by omega) (by omega)) ⟨_, rfl⟩ (fun c11 => ?_) (fun c11 => ?_)
        · skip
          exact absurd c11 (by omega)
        · skip
          refine wa_iload_n (n := 2) rfl ?_
          refine wa_bipush (w_rg2 (by omega) (by omega)) ?_
          refine wa_icmpgt (w_rg0 (by omega) (by omega)) (w_rg0 (by omega) (by omega)) ⟨_, rfl⟩ (fun c12 => ?_) (fun c12 => ?_)
          · skip
            exact absurd c12 (by omega)
          · skip
            refine wa_aload_n (n := 0) rfl ?_
            refine wa_iload_n (n := 2) rfl ?_
            refine wa_cv 215 rfl (wy_pr rfl) wt_215 (M2 := mS ml) rfl at_XK_operate ⟨_, rfl⟩ rfl rfl ⟨trivial, trivial, trivial, (Or.inr ⟨wy_pr rfl, hmn⟩), trivial⟩ trivial (fun _ _ q => q) (hcal) (fun oq13 Sq13 hp14 q13 => ?_)
            rcases q13 with ⟨rfl, hz13⟩
            show wJ _ _ _ _ _ _ _ _ _ _
            refine wa_goto ⟨_, rfl⟩ ?_
            refine wa_aload_n (n := 0) rfl ?_
            refine wb_gfi 215 rfl (wy_pr rfl) wt_215 wf_8_16 (v := (Sq13 215 16)) rfl (fun r15 => ?_)
            refine wa_bipush (w_rg2 (by omega) (by omega)) ?_
            refine wa_icmpne (w_rg0 (by omega) (by omega)) (w_rg0 (by omega) (by omega)) ⟨_, rfl⟩ (fun c16 => ?_) (fun c16 => ?_)
            · skip
              refine wa_aload_n (n := 0) rfl ?_
              refine wb_gfi 215 rfl (wy_pr rfl) wt_215 wf_8_16 (v := (Sq13 215 16)) rfl (fun r17 => ?_)
              refine wa_ifeq (w_rg0 (by omega) (by omega)) ⟨_, rfl⟩ (fun c18 => ?_) (fun c18 => ?_)
              · skip
                refine wa_iconst ?_
                refine wa_zreturn rfl (Or.inr rfl) ?_
                exact ⟨_, hz13, Or.inl ⟨by omega, rfl, rfl⟩⟩
              · skip
                refine wa_aload_n (n := 0) rfl ?_
                refine wa_iconst ?_
                refine wa_aload_n (n := 0) rfl ?_
                refine wb_gfi 215 rfl (wy_pr rfl) wt_215 wf_8_16 (v := (Sq13 215 16)) rfl (fun r19 => ?_)
                refine wa_i2l (w_rg0 (by omega) (by omega)) ?_
                refine wa_cv 215 rfl (wy_pr rfl) wt_215 (M2 := mS [217, 218]) rfl at_XK_raise ⟨_, rfl⟩ rfl rfl ⟨trivial, trivial, trivial, (Or.inr ⟨wy_pr rfl, mS_no rfl⟩), trivial⟩ trivial (fun _ _ q => mS_sub hml q) (rq_215 (hR _ hz13 (by omega) (by omega)) ⟨by omega, by omega⟩ ⟨by omega, by omega⟩) (fun oq20 Sq20 hp21 q20 => ?_)
                rcases q20 with ⟨rfl, rs20⟩
                show wJ _ _ _ _ _ _ _ _ _ _
                refine wa_fall ⟨_, rfl⟩ ?_
                refine wa_iconst ?_
                refine wa_zreturn rfl (Or.inr rfl) ?_
                exact ⟨_, hz13, Or.inr (Or.inr ⟨by omega, by omega, rfl, rs20⟩)⟩
            · skip
              refine wa_aload_n (n := 0) rfl ?_
              refine wa_iconst ?_
              refine wb_pfi 215 rfl (wy_pr rfl) wt_215 wf_8_13 (n := 13) rfl ⟨(by omega), (by omega)⟩ ?_
              refine wa_iconst ?_
              refine wa_zreturn rfl (Or.inl rfl) ?_
              exact ⟨_, hz13, Or.inr (Or.inl ⟨by omega, rfl, rfl⟩)⟩
      refine wa_aload_n (n := 0) rfl ?_
      refine wb_gf4 215 rfl (wy_pr rfl) wt_215 wf_8_3 (v := 216) wl_215_3 ?_
      refine wb_gfi 216 rfl (wy_pr rfl) wt_216 wf_7_2 (v := h) ((w_up_slot (by decide)).trans (bh)) (fun r22 => ?_)
      refine wa_sipush (by omega) ?_
      refine wa_icmplt (w_rg0 (by omega) (by omega)) (w_rg0 (by omega) (by omega)) ⟨_, rfl⟩ (fun c23 => ?_) (fun c23 => ?_)
      · skip
        exact key
      · skip
        refine wa_iload_n (n := 2) rfl ?_
        refine wa_iload_n (n := 3) rfl ?_
        refine wa_cs (M2 := mS ml) rfl at_XK_pushes ⟨_, rfl⟩ rfl rfl ⟨trivial, trivial, trivial, (Or.inr ⟨wy_pr rfl, hmn⟩), trivial⟩ trivial (fun _ _ q => q) ?_ (fun _ _ _ q => q)
        refine wa_iload_n (n := 0) rfl ?_
        refine wa_ifeq (w_rg0 (by omega) (by omega)) ⟨_, rfl⟩ (fun c24 => ?_) (fun c24 => ?_)
        · skip
          exact absurd c24 (by omega)
        · skip
          refine wa_iload_n (n := 0) rfl ?_
          refine wa_iconst ?_
          refine wa_icmpeq (w_rg0 (by omega) (by omega)) (w_rg0 (by omega) (by omega)) ⟨_, rfl⟩ (fun c25 => ?_) (fun c25 => ?_)
          · skip
            exact absurd c25 (by omega)
          · skip
            refine wa_iload_n (n := 0) rfl ?_
            refine wa_iconst ?_
            refine wa_icmpeq (w_rg0 (by omega) (by omega)) (w_rg0 (by omega) (by omega)) ⟨_, rfl⟩ (fun c26 => ?_) (fun c26 => ?_)
            · skip
              exact absurd c26 (by omega)
            · skip
              refine wa_iload_n (n := 0) rfl ?_
              refine wa_bipush (w_rg2 (by omega) (by omega)) ?_
              refine wa_icmpeq (w_rg0 (by omega) (by omega)) (w_rg0 (by omega) (by omega)) ⟨_, rfl⟩ (fun c27 => ?_) (fun c27 => ?_)
              · skip
                exact absurd c27 (by omega)
              · skip
                refine wa_iload_n (n := 0) rfl ?_
                refine wa_bipush (w_rg2 (by omega) (by omega)) ?_
                refine wa_icmpeq (w_rg0 (by omega) (by omega)) (w_rg0 (by omega) (by omega)) ⟨_, rfl⟩ (fun c28 => ?_) (fun c28 => ?_)
                · skip
                  exact absurd c28 (by omega)
                · skip
                  refine wa_iload_n (n := 0) rfl ?_
                  refine wa_bipush (w_rg2 (by omega) (by omega)) ?_
                  refine wa_icmpeq (w_rg0 (by omega) (by omega)) (w_rg0 (by omega) (by omega)) ⟨_, rfl⟩ (fun c29 => ?_) (fun c29 => ?_)
                  · skip
                    exact absurd c29 (by omega)
                  · skip
                    refine wa_iload_n (n := 0) rfl ?_
                    refine wa_bipush (w_rg2 (by omega) (by omega)) ?_
                    refine wa_icmpeq (w_rg0 (by omega) (by omega)) (w_rg0 (by omega) (by omega)) ⟨_, rfl⟩ (fun c30 => ?_) (fun c30 => ?_)
                    · skip
                      exact absurd c30 (by omega)
                    · skip
                      refine wa_iload_n (n := 0) rfl ?_
                      refine wa_bipush (w_rg2 (by omega) (by omega)) ?_
                      refine wa_icmpne (w_rg0 (by omega) (by omega)) (w_rg0 (by omega) (by omega)) ⟨_, rfl⟩ (fun c31 => ?_) (fun c31 => ?_)
                      · skip
                        refine wa_iconst ?_
                        refine wa_fall ⟨_, rfl⟩ ?_
                        refine wa_zreturn rfl (Or.inl rfl) ?_
                        show wJ _ _ _ _ _ _ _ _ _ _
                        refine wa_ifeq (w_rg0 (by omega) (by omega)) ⟨_, rfl⟩ (fun c32 => ?_) (fun c32 => ?_)
                        · skip
                          exact key
                        · skip
                          exact absurd c32 (by omega)
                      · skip
                        exact absurd c31 (by omega)
    · skip
      exact absurd c10 (by omega)
  · skip
    exfalso; omega
theorem sb_215 {c g p e h a b oq : Int} (hB : xB 215 c g p e h S) (ho : S 31 (e + p) = oq) (ha : S 32 (e + p) = a) (hb : S 33 (e + p) = b) (ho1 : (oq = 28)) (hl : 2000 ≤ h → ¬ (oq = 0 ∨ oq = 1 ∨ oq = 3 ∨ oq = 6 ∨ oq = 24 ∨ oq = 26 ∨ oq = 33 ∨ (oq = 25 ∧ a = 0))) (hml : ∀ x ∈ [217, 218], x ∈ ml) (hmn : ¬ mS ml 215) (hcal : wJ (pe_GA xs) wY0 (mS ml) (d + 11) t_XK_callBuiltin ((pe_at t_XK_callBuiltin.bl 0).getD (0, [])).2 [(0, (2, 215)), (1, (0, a))] [] (w_up S 215 16 0) (fun o Z => o = .inl none ∧ R Z)) (hR : ∀ Z : wS, R Z → Z 215 16 ≠ 0 → Z 215 16 ≠ 99 → xR 215 Z) : wJ (pe_GA xs) wY0 (mS ml) (d + 12) t_XK_step ((pe_at t_XK_step.bl 0).getD (0, [])).2 [(0, (2, 215))] [] S (fun o Z2 => ∃ Z : wS, R Z ∧ sR 215 Z o Z2) := by
  obtain ⟨⟨hC, hI⟩, ⟨bc, bc0, bc1⟩, ⟨bg, bg0, bg1⟩, ⟨bp, bp0, bp1⟩, ⟨be, be0, be1, be2, be3, be4⟩, ⟨bh, bh0, bh1, bh2⟩, bl1, bl2, bl3⟩ := hB
  refine wa_aload_n (n := 0) rfl ?_
  refine wb_gfi 215 rfl (wy_pr rfl) wt_215 wf_8_4 (v := c) (bc) (fun r1 => ?_)
  refine wa_iconst ?_
  refine wa_icmpge (w_rg0 (by omega) (by omega)) (w_rg0 (by omega) (by omega)) ⟨_, rfl⟩ (fun c2 => ?_) (fun c2 => ?_)
  · skip
    refine wa_aload_n (n := 0) rfl ?_
    refine wa_iconst ?_
    refine wb_pfi 215 rfl (wy_pr rfl) wt_215 wf_8_16 (n := 16) rfl ⟨(by omega), (by omega)⟩ ?_
    refine wa_aload_n (n := 0) rfl ?_
    refine wb_gf4 215 rfl (wy_pr rfl) wt_215 wf_8_1 (v := 19) wl_215_1 ?_
    refine wb_gf4 19 rfl (wy_pr rfl) wt_19 wf_0_0 (v := 20) wl_19_0 ?_
    refine wa_bipush (w_rg2 (by omega) (by omega)) ?_
    refine wb_aald5 20 6 rfl rfl (wy_pr rfl) wt_20 (by rw [show _ = _ from ((w_up_slot (by decide)).trans ((cl_20 hC)))]; omega) wl_20_6 ?_
    refine wa_aload_n (n := 0) rfl ?_
    refine wb_gf4 215 rfl (wy_pr rfl) wt_215 wf_8_5 (v := 219) wl_215_5 ?_
    refine wa_aload_n (n := 0) rfl ?_
    refine wb_gfi 215 rfl (wy_pr rfl) wt_215 wf_8_4 (v := c) ((w_up_at (by decide)).trans (bc)) (fun r3 => ?_)
    refine wa_iconst ?_
    refine wa_isub ?_
    refine wb_iald 219 rfl (wy_pr rfl) wt_219 (n := 200) ((w_up_slot (by decide)).trans ((cl_219 hC))) (by omega) (by omega) (v := g) ((w_up_slot (by decide)).trans (bg)) (fun r4 => ?_)
    refine wb_iald 27 rfl (wy_pr rfl) wt_27 (n := 400) ((w_up_slot (by decide)).trans ((cl_27 hC))) (by omega) (by omega) (v := e) ((w_up_slot (by decide)).trans (be)) (fun r5 => ?_)
    refine wa_aload_n (n := 0) rfl ?_
    refine wb_gf4 215 rfl (wy_pr rfl) wt_215 wf_8_6 (v := 220) wl_215_6 ?_
    refine wa_aload_n (n := 0) rfl ?_
    refine wb_gfi 215 rfl (wy_pr rfl) wt_215 wf_8_4 (v := c) ((w_up_at (by decide)).trans (bc)) (fun r6 => ?_)
    refine wa_iconst ?_
    refine wa_isub ?_
    refine wb_iald 220 rfl (wy_pr rfl) wt_220 (n := 200) ((w_up_slot (by decide)).trans ((cl_220 hC))) (by omega) (by omega) (v := p) ((w_up_slot (by decide)).trans (bp)) (fun r7 => ?_)
    refine wa_iadd ?_
    refine wa_istore_n (n := 1) rfl ?_
    refine wa_aload_n (n := 0) rfl ?_
    refine wb_gf4 215 rfl (wy_pr rfl) wt_215 wf_8_1 (v := 19) wl_215_1 ?_
    refine wb_gf4 19 rfl (wy_pr rfl) wt_19 wf_0_4 (v := 31) wl_19_4 ?_
    refine wa_iload_n (n := 1) rfl ?_
    refine wb_iald 31 rfl (wy_pr rfl) wt_31 (n := (S 31 (-1))) ((w_up_slot (by decide)).trans (rfl)) (by omega) (by omega) (v := oq) ((w_up_slot (by decide)).trans (ho)) (fun r8 => ?_)
    refine wa_istore_n (n := 2) rfl ?_
    refine wa_aload_n (n := 0) rfl ?_
    refine wb_gf4 215 rfl (wy_pr rfl) wt_215 wf_8_1 (v := 19) wl_215_1 ?_
    refine wb_gf4 19 rfl (wy_pr rfl) wt_19 wf_0_5 (v := 32) wl_19_5 ?_
    refine wa_iload_n (n := 1) rfl ?_
    refine wb_iald 32 rfl (wy_pr rfl) wt_32 (n := (S 31 (-1))) ((w_up_slot (by decide)).trans (be2)) (by omega) (by omega) (v := a) ((w_up_slot (by decide)).trans (ha)) (fun r9 => ?_)
    refine wa_istore_n (n := 3) rfl ?_
    refine wa_iload_n (n := 2) rfl ?_
    refine wa_bipush (w_rg2 (by omega) (by omega)) ?_
    refine wa_icmpne (w_rg0 (by omega) (by omega)) (w_rg0 (by omega) (by omega)) ⟨_, rfl⟩ (fun c10 => ?_) (fun c10 => ?_)
    · skip
      have key : wJ (pe_GA xs) wY0 (mS ml) (d + 12) t_XK_step ((pe_at t_XK_step.bl 8).getD (0, [])).2 [(3, (0, a)), (2, (0, oq)), (1, (0, (e + p))), (0, (2, 215))] [] (w_up S 215 16 0) (fun o Z2 => ∃ Z : wS, R Z ∧ sR 215 Z o Z2) := by
        refine wa_iload_n (n := 2) rfl ?_
        refine wa_bipush (w_rg2 (by omega) (by omega)) ?_
        refine wa_icmplt (w_rg0 (by omega) (by omega)) (w_rg0 (by omega) (by omega)) ⟨_, rfl⟩ (fun c11 => ?_) (fun c11 => ?_)
        · skip
          exact absurd c11 (by omega)
        · skip
          refine wa_iload_n (n := 2) rfl ?_
          refine wa_bipush (w_rg2 (by omega) (by omega)) ?_
          refine wa_icmpgt (w_rg0 (by omega) (by omega)) (w_rg0 (by omega) (by omega)) ⟨_, rfl⟩ (fun c12 => ?_) (fun c12 => ?_)
          · skip
            refine wa_iload_n (n := 2) rfl ?_
            refine wa_bipush (w_rg2 (by omega) (by omega)) ?_
            refine wa_icmpne (w_rg0 (by omega) (by omega)) (w_rg0 (by omega) (by omega)) ⟨_, rfl⟩ (fun c13 => ?_) (fun c13 => ?_)
            · skip
              exact absurd c13 (by omega)
            · skip
              refine wa_aload_n (n := 0) rfl ?_
              refine wa_iload_n (n := 3) rfl ?_
              refine wa_cv 215 rfl (wy_pr rfl) wt_215 (M2 := mS ml) rfl at_XK_callBuiltin ⟨_, rfl⟩ rfl rfl ⟨trivial, trivial, trivial, (Or.inr ⟨wy_pr rfl, hmn⟩), trivial⟩ trivial (fun _ _ q => q) (hcal) (fun oq14 Sq14 hp15 q14 => ?_)
              rcases q14 with ⟨rfl, hz14⟩
              show wJ _ _ _ _ _ _ _ _ _ _
              refine wa_goto ⟨_, rfl⟩ ?_
              refine wa_aload_n (n := 0) rfl ?_
              refine wb_gfi 215 rfl (wy_pr rfl) wt_215 wf_8_16 (v := (Sq14 215 16)) rfl (fun r16 => ?_)
              refine wa_bipush (w_rg2 (by omega) (by omega)) ?_
              refine wa_icmpne (w_rg0 (by omega) (by omega)) (w_rg0 (by omega) (by omega)) ⟨_, rfl⟩ (fun c17 => ?_) (fun c17 => ?_)
              · skip
                refine wa_aload_n (n := 0) rfl ?_
                refine wb_gfi 215 rfl (wy_pr rfl) wt_215 wf_8_16 (v := (Sq14 215 16)) rfl (fun r18 => ?_)
                refine wa_ifeq (w_rg0 (by omega) (by omega)) ⟨_, rfl⟩ (fun c19 => ?_) (fun c19 => ?_)
                · skip
                  refine wa_iconst ?_
                  refine wa_zreturn rfl (Or.inr rfl) ?_
                  exact ⟨_, hz14, Or.inl ⟨by omega, rfl, rfl⟩⟩
                · skip
                  refine wa_aload_n (n := 0) rfl ?_
                  refine wa_iconst ?_
                  refine wa_aload_n (n := 0) rfl ?_
                  refine wb_gfi 215 rfl (wy_pr rfl) wt_215 wf_8_16 (v := (Sq14 215 16)) rfl (fun r20 => ?_)
                  refine wa_i2l (w_rg0 (by omega) (by omega)) ?_
                  refine wa_cv 215 rfl (wy_pr rfl) wt_215 (M2 := mS [217, 218]) rfl at_XK_raise ⟨_, rfl⟩ rfl rfl ⟨trivial, trivial, trivial, (Or.inr ⟨wy_pr rfl, mS_no rfl⟩), trivial⟩ trivial (fun _ _ q => mS_sub hml q) (rq_215 (hR _ hz14 (by omega) (by omega)) ⟨by omega, by omega⟩ ⟨by omega, by omega⟩) (fun oq21 Sq21 hp22 q21 => ?_)
                  rcases q21 with ⟨rfl, rs21⟩
                  show wJ _ _ _ _ _ _ _ _ _ _
                  refine wa_fall ⟨_, rfl⟩ ?_
                  refine wa_iconst ?_
                  refine wa_zreturn rfl (Or.inr rfl) ?_
                  exact ⟨_, hz14, Or.inr (Or.inr ⟨by omega, by omega, rfl, rs21⟩)⟩
              · skip
                refine wa_aload_n (n := 0) rfl ?_
                refine wa_iconst ?_
                refine wb_pfi 215 rfl (wy_pr rfl) wt_215 wf_8_13 (n := 13) rfl ⟨(by omega), (by omega)⟩ ?_
                refine wa_iconst ?_
                refine wa_zreturn rfl (Or.inl rfl) ?_
                exact ⟨_, hz14, Or.inr (Or.inl ⟨by omega, rfl, rfl⟩)⟩
          · skip
            exact absurd c12 (by omega)
      refine wa_aload_n (n := 0) rfl ?_
      refine wb_gf4 215 rfl (wy_pr rfl) wt_215 wf_8_3 (v := 216) wl_215_3 ?_
      refine wb_gfi 216 rfl (wy_pr rfl) wt_216 wf_7_2 (v := h) ((w_up_slot (by decide)).trans (bh)) (fun r23 => ?_)
      refine wa_sipush (by omega) ?_
      refine wa_icmplt (w_rg0 (by omega) (by omega)) (w_rg0 (by omega) (by omega)) ⟨_, rfl⟩ (fun c24 => ?_) (fun c24 => ?_)
      · skip
        exact key
      · skip
        refine wa_iload_n (n := 2) rfl ?_
        refine wa_iload_n (n := 3) rfl ?_
        refine wa_cs (M2 := mS ml) rfl at_XK_pushes ⟨_, rfl⟩ rfl rfl ⟨trivial, trivial, trivial, (Or.inr ⟨wy_pr rfl, hmn⟩), trivial⟩ trivial (fun _ _ q => q) ?_ (fun _ _ _ q => q)
        refine wa_iload_n (n := 0) rfl ?_
        refine wa_ifeq (w_rg0 (by omega) (by omega)) ⟨_, rfl⟩ (fun c25 => ?_) (fun c25 => ?_)
        · skip
          exact absurd c25 (by omega)
        · skip
          refine wa_iload_n (n := 0) rfl ?_
          refine wa_iconst ?_
          refine wa_icmpeq (w_rg0 (by omega) (by omega)) (w_rg0 (by omega) (by omega)) ⟨_, rfl⟩ (fun c26 => ?_) (fun c26 => ?_)
          · skip
            exact absurd c26 (by omega)
          · skip
            refine wa_iload_n (n := 0) rfl ?_
            refine wa_iconst ?_
            refine wa_icmpeq (w_rg0 (by omega) (by omega)) (w_rg0 (by omega) (by omega)) ⟨_, rfl⟩ (fun c27 => ?_) (fun c27 => ?_)
            · skip
              exact absurd c27 (by omega)
            · skip
              refine wa_iload_n (n := 0) rfl ?_
              refine wa_bipush (w_rg2 (by omega) (by omega)) ?_
              refine wa_icmpeq (w_rg0 (by omega) (by omega)) (w_rg0 (by omega) (by omega)) ⟨_, rfl⟩ (fun c28 => ?_) (fun c28 => ?_)
              · skip
                exact absurd c28 (by omega)
              · skip
                refine wa_iload_n (n := 0) rfl ?_
                refine wa_bipush (w_rg2 (by omega) (by omega)) ?_
                refine wa_icmpeq (w_rg0 (by omega) (by omega)) (w_rg0 (by omega) (by omega)) ⟨_, rfl⟩ (fun c29 => ?_) (fun c29 => ?_)
                · skip
                  exact absurd c29 (by omega)
                · skip
                  refine wa_iload_n (n := 0) rfl ?_
                  refine wa_bipush (w_rg2 (by omega) (by omega)) ?_
                  refine wa_icmpeq (w_rg0 (by omega) (by omega)) (w_rg0 (by omega) (by omega)) ⟨_, rfl⟩ (fun c30 => ?_) (fun c30 => ?_)
                  · skip
                    exact absurd c30 (by omega)
                  · skip
                    refine wa_iload_n (n := 0) rfl ?_
                    refine wa_bipush (w_rg2 (by omega) (by omega)) ?_
                    refine wa_icmpeq (w_rg0 (by omega) (by omega)) (w_rg0 (by omega) (by omega)) ⟨_, rfl⟩ (fun c31 => ?_) (fun c31 => ?_)
                    · skip
                      exact absurd c31 (by omega)
                    · skip
                      refine wa_iload_n (n := 0) rfl ?_
                      refine wa_bipush (w_rg2 (by omega) (by omega)) ?_
                      refine wa_icmpne (w_rg0 (by omega) (by omega)) (w_rg0 (by omega) (by omega)) ⟨_, rfl⟩ (fun c32 => ?_) (fun c32 => ?_)
                      · skip
                        refine wa_iconst ?_
                        refine wa_fall ⟨_, rfl⟩ ?_
                        refine wa_zreturn rfl (Or.inl rfl) ?_
                        show wJ _ _ _ _ _ _ _ _ _ _
                        refine wa_ifeq (w_rg0 (by omega) (by omega)) ⟨_, rfl⟩ (fun c33 => ?_) (fun c33 => ?_)
                        · skip
                          exact key
                        · skip
                          exact absurd c33 (by omega)
                      · skip
                        exact absurd c32 (by omega)
    · skip
      exact absurd c10 (by omega)
  · skip
    exfalso; omega
theorem xpe_215 {c g p e h a b oq : Int} (hB : xB 215 c g p e h S) (ho : S 31 (e + p) = oq) (ha : S 32 (e + p) = a) (hb : S 33 (e + p) = b) (ho1 : (oq = 0 ∨ oq = 1 ∨ oq = 3 ∨ oq = 6 ∨ oq = 24 ∨ oq = 26 ∨ oq = 33 ∨ (oq = 25 ∧ a = 0))) (hl : 2000 ≤ h) (hR : xR 215 (w_up (w_up S 215 16 0) 215 16 11)) : wJ (pe_GA xs) wY0 (mS [217, 218]) (d + 12) t_XK_step ((pe_at t_XK_step.bl 0).getD (0, [])).2 [(0, (2, 215))] [] S (fun o Z2 => o = .inl (some (0, 1)) ∧ rsQ 215 2 11 (w_up (w_up S 215 16 0) 215 16 11) Z2) := by
  obtain ⟨⟨hC, hI⟩, ⟨bc, bc0, bc1⟩, ⟨bg, bg0, bg1⟩, ⟨bp, bp0, bp1⟩, ⟨be, be0, be1, be2, be3, be4⟩, ⟨bh, bh0, bh1, bh2⟩, bl1, bl2, bl3⟩ := hB
  refine wa_aload_n (n := 0) rfl ?_
  refine wb_gfi 215 rfl (wy_pr rfl) wt_215 wf_8_4 (v := c) (bc) (fun r1 => ?_)
  refine wa_iconst ?_
  refine wa_icmpge (w_rg0 (by omega) (by omega)) (w_rg0 (by omega) (by omega)) ⟨_, rfl⟩ (fun c2 => ?_) (fun c2 => ?_)
  · skip
    refine wa_aload_n (n := 0) rfl ?_
    refine wa_iconst ?_
    refine wb_pfi 215 rfl (wy_pr rfl) wt_215 wf_8_16 (n := 16) rfl ⟨(by omega), (by omega)⟩ ?_
    refine wa_aload_n (n := 0) rfl ?_
    refine wb_gf4 215 rfl (wy_pr rfl) wt_215 wf_8_1 (v := 19) wl_215_1 ?_
    refine wb_gf4 19 rfl (wy_pr rfl) wt_19 wf_0_0 (v := 20) wl_19_0 ?_
    refine wa_bipush (w_rg2 (by omega) (by omega)) ?_
    refine wb_aald5 20 6 rfl rfl (wy_pr rfl) wt_20 (by rw [show _ = _ from ((w_up_slot (by decide)).trans ((cl_20 hC)))]; omega) wl_20_6 ?_
    refine wa_aload_n (n := 0) rfl ?_
    refine wb_gf4 215 rfl (wy_pr rfl) wt_215 wf_8_5 (v := 219) wl_215_5 ?_
    refine wa_aload_n (n := 0) rfl ?_
    refine wb_gfi 215 rfl (wy_pr rfl) wt_215 wf_8_4 (v := c) ((w_up_at (by decide)).trans (bc)) (fun r3 => ?_)
    refine wa_iconst ?_
    refine wa_isub ?_
    refine wb_iald 219 rfl (wy_pr rfl) wt_219 (n := 200) ((w_up_slot (by decide)).trans ((cl_219 hC))) (by omega) (by omega) (v := g) ((w_up_slot (by decide)).trans (bg)) (fun r4 => ?_)
    refine wb_iald 27 rfl (wy_pr rfl) wt_27 (n := 400) ((w_up_slot (by decide)).trans ((cl_27 hC))) (by omega) (by omega) (v := e) ((w_up_slot (by decide)).trans (be)) (fun r5 => ?_)
    refine wa_aload_n (n := 0) rfl ?_
    refine wb_gf4 215 rfl (wy_pr rfl) wt_215 wf_8_6 (v := 220) wl_215_6 ?_
    refine wa_aload_n (n := 0) rfl ?_
    refine wb_gfi 215 rfl (wy_pr rfl) wt_215 wf_8_4 (v := c) ((w_up_at (by decide)).trans (bc)) (fun r6 => ?_)
    refine wa_iconst ?_
    refine wa_isub ?_
    refine wb_iald 220 rfl (wy_pr rfl) wt_220 (n := 200) ((w_up_slot (by decide)).trans ((cl_220 hC))) (by omega) (by omega) (v := p) ((w_up_slot (by decide)).trans (bp)) (fun r7 => ?_)
    refine wa_iadd ?_
    refine wa_istore_n (n := 1) rfl ?_
    refine wa_aload_n (n := 0) rfl ?_
    refine wb_gf4 215 rfl (wy_pr rfl) wt_215 wf_8_1 (v := 19) wl_215_1 ?_
    refine wb_gf4 19 rfl (wy_pr rfl) wt_19 wf_0_4 (v := 31) wl_19_4 ?_
    refine wa_iload_n (n := 1) rfl ?_
    refine wb_iald 31 rfl (wy_pr rfl) wt_31 (n := (S 31 (-1))) ((w_up_slot (by decide)).trans (rfl)) (by omega) (by omega) (v := oq) ((w_up_slot (by decide)).trans (ho)) (fun r8 => ?_)
    refine wa_istore_n (n := 2) rfl ?_
    refine wa_aload_n (n := 0) rfl ?_
    refine wb_gf4 215 rfl (wy_pr rfl) wt_215 wf_8_1 (v := 19) wl_215_1 ?_
    refine wb_gf4 19 rfl (wy_pr rfl) wt_19 wf_0_5 (v := 32) wl_19_5 ?_
    refine wa_iload_n (n := 1) rfl ?_
    refine wb_iald 32 rfl (wy_pr rfl) wt_32 (n := (S 31 (-1))) ((w_up_slot (by decide)).trans (be2)) (by omega) (by omega) (v := a) ((w_up_slot (by decide)).trans (ha)) (fun r9 => ?_)
    refine wa_istore_n (n := 3) rfl ?_
    refine wa_iload_n (n := 2) rfl ?_
    refine wa_bipush (w_rg2 (by omega) (by omega)) ?_
    refine wa_icmpne (w_rg0 (by omega) (by omega)) (w_rg0 (by omega) (by omega)) ⟨_, rfl⟩ (fun c10 => ?_) (fun c10 => ?_)
    · skip
      refine wa_aload_n (n := 0) rfl ?_
      refine wb_gf4 215 rfl (wy_pr rfl) wt_215 wf_8_3 (v := 216) wl_215_3 ?_
      refine wb_gfi 216 rfl (wy_pr rfl) wt_216 wf_7_2 (v := h) ((w_up_slot (by decide)).trans (bh)) (fun r11 => ?_)
      refine wa_sipush (by omega) ?_
      refine wa_icmplt (w_rg0 (by omega) (by omega)) (w_rg0 (by omega) (by omega)) ⟨_, rfl⟩ (fun c12 => ?_) (fun c12 => ?_)
      · skip
        exact absurd c12 (by omega)
      · skip
        refine wa_iload_n (n := 2) rfl ?_
        refine wa_iload_n (n := 3) rfl ?_
        refine wa_cs (M2 := mS [217, 218]) rfl at_XK_pushes ⟨_, rfl⟩ rfl rfl ⟨trivial, trivial, trivial, (Or.inr ⟨wy_pr rfl, mS_no rfl⟩), trivial⟩ trivial (fun _ _ q => q) ?_ (fun _ _ _ q => q)
        refine wa_iload_n (n := 0) rfl ?_
        refine wa_ifeq (w_rg0 (by omega) (by omega)) ⟨_, rfl⟩ (fun c13 => ?_) (fun c13 => ?_)
        · skip
          refine wa_iconst ?_
          refine wa_goto ⟨_, rfl⟩ ?_
          refine wa_zreturn rfl (Or.inr rfl) ?_
          show wJ _ _ _ _ _ _ _ _ _ _
          refine wa_ifeq (w_rg0 (by omega) (by omega)) ⟨_, rfl⟩ (fun c14 => ?_) (fun c14 => ?_)
          · skip
            exact absurd c14 (by omega)
          · skip
            refine wa_aload_n (n := 0) rfl ?_
            refine wa_bipush (w_rg2 (by omega) (by omega)) ?_
            refine wb_pfi 215 rfl (wy_pr rfl) wt_215 wf_8_16 (n := 16) rfl ⟨(by omega), (by omega)⟩ ?_
            refine wa_goto ⟨_, rfl⟩ ?_
            refine wa_aload_n (n := 0) rfl ?_
            refine wb_gfi 215 rfl (wy_pr rfl) wt_215 wf_8_16 (v := 11) (w_up_same _ _ _ _) (fun r15 => ?_)
            refine wa_bipush (w_rg2 (by omega) (by omega)) ?_
            refine wa_icmpne (w_rg0 (by omega) (by omega)) (w_rg0 (by omega) (by omega)) ⟨_, rfl⟩ (fun c16 => ?_) (fun c16 => ?_)
            · skip
              refine wa_aload_n (n := 0) rfl ?_
              refine wb_gfi 215 rfl (wy_pr rfl) wt_215 wf_8_16 (v := 11) (w_up_same _ _ _ _) (fun r17 => ?_)
              refine wa_ifeq (w_rg0 (by omega) (by omega)) ⟨_, rfl⟩ (fun c18 => ?_) (fun c18 => ?_)
              · skip
                exact absurd c18 (by omega)
              · skip
                refine wa_aload_n (n := 0) rfl ?_
                refine wa_iconst ?_
                refine wa_aload_n (n := 0) rfl ?_
                refine wb_gfi 215 rfl (wy_pr rfl) wt_215 wf_8_16 (v := 11) (w_up_same _ _ _ _) (fun r19 => ?_)
                refine wa_i2l (w_rg0 (by omega) (by omega)) ?_
                refine wa_cv 215 rfl (wy_pr rfl) wt_215 (M2 := mS [217, 218]) rfl at_XK_raise ⟨_, rfl⟩ rfl rfl ⟨trivial, trivial, trivial, (Or.inr ⟨wy_pr rfl, mS_no rfl⟩), trivial⟩ trivial (fun _ _ q => q) (rq_215 hR ⟨by omega, by omega⟩ ⟨by omega, by omega⟩) (fun oq20 Sq20 hp21 q20 => ?_)
                rcases q20 with ⟨rfl, rs20⟩
                show wJ _ _ _ _ _ _ _ _ _ _
                refine wa_fall ⟨_, rfl⟩ ?_
                refine wa_iconst ?_
                refine wa_zreturn rfl (Or.inr rfl) ?_
                exact ⟨rfl, rs20⟩
            · skip
              exact absurd c16 (by omega)
        · skip
          refine wa_iload_n (n := 0) rfl ?_
          refine wa_iconst ?_
          refine wa_icmpeq (w_rg0 (by omega) (by omega)) (w_rg0 (by omega) (by omega)) ⟨_, rfl⟩ (fun c22 => ?_) (fun c22 => ?_)
          · skip
            refine wa_iconst ?_
            refine wa_goto ⟨_, rfl⟩ ?_
            refine wa_zreturn rfl (Or.inr rfl) ?_
            show wJ _ _ _ _ _ _ _ _ _ _
            refine wa_ifeq (w_rg0 (by omega) (by omega)) ⟨_, rfl⟩ (fun c23 => ?_) (fun c23 => ?_)
            · skip
              exact absurd c23 (by omega)
            · skip
              refine wa_aload_n (n := 0) rfl ?_
              refine wa_bipush (w_rg2 (by omega) (by omega)) ?_
              refine wb_pfi 215 rfl (wy_pr rfl) wt_215 wf_8_16 (n := 16) rfl ⟨(by omega), (by omega)⟩ ?_
              refine wa_goto ⟨_, rfl⟩ ?_
              refine wa_aload_n (n := 0) rfl ?_
              refine wb_gfi 215 rfl (wy_pr rfl) wt_215 wf_8_16 (v := 11) (w_up_same _ _ _ _) (fun r24 => ?_)
              refine wa_bipush (w_rg2 (by omega) (by omega)) ?_
              refine wa_icmpne (w_rg0 (by omega) (by omega)) (w_rg0 (by omega) (by omega)) ⟨_, rfl⟩ (fun c25 => ?_) (fun c25 => ?_)
              · skip
                refine wa_aload_n (n := 0) rfl ?_
                refine wb_gfi 215 rfl (wy_pr rfl) wt_215 wf_8_16 (v := 11) (w_up_same _ _ _ _) (fun r26 => ?_)
                refine wa_ifeq (w_rg0 (by omega) (by omega)) ⟨_, rfl⟩ (fun c27 => ?_) (fun c27 => ?_)
                · skip
                  exact absurd c27 (by omega)
                · skip
                  refine wa_aload_n (n := 0) rfl ?_
                  refine wa_iconst ?_
                  refine wa_aload_n (n := 0) rfl ?_
                  refine wb_gfi 215 rfl (wy_pr rfl) wt_215 wf_8_16 (v := 11) (w_up_same _ _ _ _) (fun r28 => ?_)
                  refine wa_i2l (w_rg0 (by omega) (by omega)) ?_
                  refine wa_cv 215 rfl (wy_pr rfl) wt_215 (M2 := mS [217, 218]) rfl at_XK_raise ⟨_, rfl⟩ rfl rfl ⟨trivial, trivial, trivial, (Or.inr ⟨wy_pr rfl, mS_no rfl⟩), trivial⟩ trivial (fun _ _ q => q) (rq_215 hR ⟨by omega, by omega⟩ ⟨by omega, by omega⟩) (fun oq29 Sq29 hp30 q29 => ?_)
                  rcases q29 with ⟨rfl, rs29⟩
                  show wJ _ _ _ _ _ _ _ _ _ _
                  refine wa_fall ⟨_, rfl⟩ ?_
                  refine wa_iconst ?_
                  refine wa_zreturn rfl (Or.inr rfl) ?_
                  exact ⟨rfl, rs29⟩
              · skip
                exact absurd c25 (by omega)
          · skip
            refine wa_iload_n (n := 0) rfl ?_
            refine wa_iconst ?_
            refine wa_icmpeq (w_rg0 (by omega) (by omega)) (w_rg0 (by omega) (by omega)) ⟨_, rfl⟩ (fun c31 => ?_) (fun c31 => ?_)
            · skip
              refine wa_iconst ?_
              refine wa_goto ⟨_, rfl⟩ ?_
              refine wa_zreturn rfl (Or.inr rfl) ?_
              show wJ _ _ _ _ _ _ _ _ _ _
              refine wa_ifeq (w_rg0 (by omega) (by omega)) ⟨_, rfl⟩ (fun c32 => ?_) (fun c32 => ?_)
              · skip
                exact absurd c32 (by omega)
              · skip
                refine wa_aload_n (n := 0) rfl ?_
                refine wa_bipush (w_rg2 (by omega) (by omega)) ?_
                refine wb_pfi 215 rfl (wy_pr rfl) wt_215 wf_8_16 (n := 16) rfl ⟨(by omega), (by omega)⟩ ?_
                refine wa_goto ⟨_, rfl⟩ ?_
                refine wa_aload_n (n := 0) rfl ?_
                refine wb_gfi 215 rfl (wy_pr rfl) wt_215 wf_8_16 (v := 11) (w_up_same _ _ _ _) (fun r33 => ?_)
                refine wa_bipush (w_rg2 (by omega) (by omega)) ?_
                refine wa_icmpne (w_rg0 (by omega) (by omega)) (w_rg0 (by omega) (by omega)) ⟨_, rfl⟩ (fun c34 => ?_) (fun c34 => ?_)
                · skip
                  refine wa_aload_n (n := 0) rfl ?_
                  refine wb_gfi 215 rfl (wy_pr rfl) wt_215 wf_8_16 (v := 11) (w_up_same _ _ _ _) (fun r35 => ?_)
                  refine wa_ifeq (w_rg0 (by omega) (by omega)) ⟨_, rfl⟩ (fun c36 => ?_) (fun c36 => ?_)
                  · skip
                    exact absurd c36 (by omega)
                  · skip
                    refine wa_aload_n (n := 0) rfl ?_
                    refine wa_iconst ?_
                    refine wa_aload_n (n := 0) rfl ?_
                    refine wb_gfi 215 rfl (wy_pr rfl) wt_215 wf_8_16 (v := 11) (w_up_same _ _ _ _) (fun r37 => ?_)
                    refine wa_i2l (w_rg0 (by omega) (by omega)) ?_
                    refine wa_cv 215 rfl (wy_pr rfl) wt_215 (M2 := mS [217, 218]) rfl at_XK_raise ⟨_, rfl⟩ rfl rfl ⟨trivial, trivial, trivial, (Or.inr ⟨wy_pr rfl, mS_no rfl⟩), trivial⟩ trivial (fun _ _ q => q) (rq_215 hR ⟨by omega, by omega⟩ ⟨by omega, by omega⟩) (fun oq38 Sq38 hp39 q38 => ?_)
                    rcases q38 with ⟨rfl, rs38⟩
                    show wJ _ _ _ _ _ _ _ _ _ _
                    refine wa_fall ⟨_, rfl⟩ ?_
                    refine wa_iconst ?_
                    refine wa_zreturn rfl (Or.inr rfl) ?_
                    exact ⟨rfl, rs38⟩
                · skip
                  exact absurd c34 (by omega)
            · skip
              refine wa_iload_n (n := 0) rfl ?_
              refine wa_bipush (w_rg2 (by omega) (by omega)) ?_
              refine wa_icmpeq (w_rg0 (by omega) (by omega)) (w_rg0 (by omega) (by omega)) ⟨_, rfl⟩ (fun c40 => ?_) (fun c40 => ?_)
              · skip
                refine wa_iconst ?_
                refine wa_goto ⟨_, rfl⟩ ?_
                refine wa_zreturn rfl (Or.inr rfl) ?_
                show wJ _ _ _ _ _ _ _ _ _ _
                refine wa_ifeq (w_rg0 (by omega) (by omega)) ⟨_, rfl⟩ (fun c41 => ?_) (fun c41 => ?_)
                · skip
                  exact absurd c41 (by omega)
                · skip
                  refine wa_aload_n (n := 0) rfl ?_
                  refine wa_bipush (w_rg2 (by omega) (by omega)) ?_
                  refine wb_pfi 215 rfl (wy_pr rfl) wt_215 wf_8_16 (n := 16) rfl ⟨(by omega), (by omega)⟩ ?_
                  refine wa_goto ⟨_, rfl⟩ ?_
                  refine wa_aload_n (n := 0) rfl ?_
                  refine wb_gfi 215 rfl (wy_pr rfl) wt_215 wf_8_16 (v := 11) (w_up_same _ _ _ _) (fun r42 => ?_)
                  refine wa_bipush (w_rg2 (by omega) (by omega)) ?_
                  refine wa_icmpne (w_rg0 (by omega) (by omega)) (w_rg0 (by omega) (by omega)) ⟨_, rfl⟩ (fun c43 => ?_) (fun c43 => ?_)
                  · skip
                    refine wa_aload_n (n := 0) rfl ?_
                    refine wb_gfi 215 rfl (wy_pr rfl) wt_215 wf_8_16 (v := 11) (w_up_same _ _ _ _) (fun r44 => ?_)
                    refine wa_ifeq (w_rg0 (by omega) (by omega)) ⟨_, rfl⟩ (fun c45 => ?_) (fun c45 => ?_)
                    · skip
                      exact absurd c45 (by omega)
                    · skip
                      refine wa_aload_n (n := 0) rfl ?_
                      refine wa_iconst ?_
                      refine wa_aload_n (n := 0) rfl ?_
                      refine wb_gfi 215 rfl (wy_pr rfl) wt_215 wf_8_16 (v := 11) (w_up_same _ _ _ _) (fun r46 => ?_)
                      refine wa_i2l (w_rg0 (by omega) (by omega)) ?_
                      refine wa_cv 215 rfl (wy_pr rfl) wt_215 (M2 := mS [217, 218]) rfl at_XK_raise ⟨_, rfl⟩ rfl rfl ⟨trivial, trivial, trivial, (Or.inr ⟨wy_pr rfl, mS_no rfl⟩), trivial⟩ trivial (fun _ _ q => q) (rq_215 hR ⟨by omega, by omega⟩ ⟨by omega, by omega⟩) (fun oq47 Sq47 hp48 q47 => ?_)
                      rcases q47 with ⟨rfl, rs47⟩
                      show wJ _ _ _ _ _ _ _ _ _ _
                      refine wa_fall ⟨_, rfl⟩ ?_
                      refine wa_iconst ?_
                      refine wa_zreturn rfl (Or.inr rfl) ?_
                      exact ⟨rfl, rs47⟩
                  · skip
                    exact absurd c43 (by omega)
              · skip
                refine wa_iload_n (n := 0) rfl ?_
                refine wa_bipush (w_rg2 (by omega) (by omega)) ?_
                refine wa_icmpeq (w_rg0 (by omega) (by omega)) (w_rg0 (by omega) (by omega)) ⟨_, rfl⟩ (fun c49 => ?_) (fun c49 => ?_)
                · skip
                  refine wa_iconst ?_
                  refine wa_goto ⟨_, rfl⟩ ?_
                  refine wa_zreturn rfl (Or.inr rfl) ?_
                  show wJ _ _ _ _ _ _ _ _ _ _
                  refine wa_ifeq (w_rg0 (by omega) (by omega)) ⟨_, rfl⟩ (fun c50 => ?_) (fun c50 => ?_)
                  · skip
                    exact absurd c50 (by omega)
                  · skip
                    refine wa_aload_n (n := 0) rfl ?_
                    refine wa_bipush (w_rg2 (by omega) (by omega)) ?_
                    refine wb_pfi 215 rfl (wy_pr rfl) wt_215 wf_8_16 (n := 16) rfl ⟨(by omega), (by omega)⟩ ?_
                    refine wa_goto ⟨_, rfl⟩ ?_
                    refine wa_aload_n (n := 0) rfl ?_
                    refine wb_gfi 215 rfl (wy_pr rfl) wt_215 wf_8_16 (v := 11) (w_up_same _ _ _ _) (fun r51 => ?_)
                    refine wa_bipush (w_rg2 (by omega) (by omega)) ?_
                    refine wa_icmpne (w_rg0 (by omega) (by omega)) (w_rg0 (by omega) (by omega)) ⟨_, rfl⟩ (fun c52 => ?_) (fun c52 => ?_)
                    · skip
                      refine wa_aload_n (n := 0) rfl ?_
                      refine wb_gfi 215 rfl (wy_pr rfl) wt_215 wf_8_16 (v := 11) (w_up_same _ _ _ _) (fun r53 => ?_)
                      refine wa_ifeq (w_rg0 (by omega) (by omega)) ⟨_, rfl⟩ (fun c54 => ?_) (fun c54 => ?_)
                      · skip
                        exact absurd c54 (by omega)
                      · skip
                        refine wa_aload_n (n := 0) rfl ?_
                        refine wa_iconst ?_
                        refine wa_aload_n (n := 0) rfl ?_
                        refine wb_gfi 215 rfl (wy_pr rfl) wt_215 wf_8_16 (v := 11) (w_up_same _ _ _ _) (fun r55 => ?_)
                        refine wa_i2l (w_rg0 (by omega) (by omega)) ?_
                        refine wa_cv 215 rfl (wy_pr rfl) wt_215 (M2 := mS [217, 218]) rfl at_XK_raise ⟨_, rfl⟩ rfl rfl ⟨trivial, trivial, trivial, (Or.inr ⟨wy_pr rfl, mS_no rfl⟩), trivial⟩ trivial (fun _ _ q => q) (rq_215 hR ⟨by omega, by omega⟩ ⟨by omega, by omega⟩) (fun oq56 Sq56 hp57 q56 => ?_)
                        rcases q56 with ⟨rfl, rs56⟩
                        show wJ _ _ _ _ _ _ _ _ _ _
                        refine wa_fall ⟨_, rfl⟩ ?_
                        refine wa_iconst ?_
                        refine wa_zreturn rfl (Or.inr rfl) ?_
                        exact ⟨rfl, rs56⟩
                    · skip
                      exact absurd c52 (by omega)
                · skip
                  refine wa_iload_n (n := 0) rfl ?_
                  refine wa_bipush (w_rg2 (by omega) (by omega)) ?_
                  refine wa_icmpeq (w_rg0 (by omega) (by omega)) (w_rg0 (by omega) (by omega)) ⟨_, rfl⟩ (fun c58 => ?_) (fun c58 => ?_)
                  · skip
                    refine wa_iconst ?_
                    refine wa_goto ⟨_, rfl⟩ ?_
                    refine wa_zreturn rfl (Or.inr rfl) ?_
                    show wJ _ _ _ _ _ _ _ _ _ _
                    refine wa_ifeq (w_rg0 (by omega) (by omega)) ⟨_, rfl⟩ (fun c59 => ?_) (fun c59 => ?_)
                    · skip
                      exact absurd c59 (by omega)
                    · skip
                      refine wa_aload_n (n := 0) rfl ?_
                      refine wa_bipush (w_rg2 (by omega) (by omega)) ?_
                      refine wb_pfi 215 rfl (wy_pr rfl) wt_215 wf_8_16 (n := 16) rfl ⟨(by omega), (by omega)⟩ ?_
                      refine wa_goto ⟨_, rfl⟩ ?_
                      refine wa_aload_n (n := 0) rfl ?_
                      refine wb_gfi 215 rfl (wy_pr rfl) wt_215 wf_8_16 (v := 11) (w_up_same _ _ _ _) (fun r60 => ?_)
                      refine wa_bipush (w_rg2 (by omega) (by omega)) ?_
                      refine wa_icmpne (w_rg0 (by omega) (by omega)) (w_rg0 (by omega) (by omega)) ⟨_, rfl⟩ (fun c61 => ?_) (fun c61 => ?_)
                      · skip
                        refine wa_aload_n (n := 0) rfl ?_
                        refine wb_gfi 215 rfl (wy_pr rfl) wt_215 wf_8_16 (v := 11) (w_up_same _ _ _ _) (fun r62 => ?_)
                        refine wa_ifeq (w_rg0 (by omega) (by omega)) ⟨_, rfl⟩ (fun c63 => ?_) (fun c63 => ?_)
                        · skip
                          exact absurd c63 (by omega)
                        · skip
                          refine wa_aload_n (n := 0) rfl ?_
                          refine wa_iconst ?_
                          refine wa_aload_n (n := 0) rfl ?_
                          refine wb_gfi 215 rfl (wy_pr rfl) wt_215 wf_8_16 (v := 11) (w_up_same _ _ _ _) (fun r64 => ?_)
                          refine wa_i2l (w_rg0 (by omega) (by omega)) ?_
                          refine wa_cv 215 rfl (wy_pr rfl) wt_215 (M2 := mS [217, 218]) rfl at_XK_raise ⟨_, rfl⟩ rfl rfl ⟨trivial, trivial, trivial, (Or.inr ⟨wy_pr rfl, mS_no rfl⟩), trivial⟩ trivial (fun _ _ q => q) (rq_215 hR ⟨by omega, by omega⟩ ⟨by omega, by omega⟩) (fun oq65 Sq65 hp66 q65 => ?_)
                          rcases q65 with ⟨rfl, rs65⟩
                          show wJ _ _ _ _ _ _ _ _ _ _
                          refine wa_fall ⟨_, rfl⟩ ?_
                          refine wa_iconst ?_
                          refine wa_zreturn rfl (Or.inr rfl) ?_
                          exact ⟨rfl, rs65⟩
                      · skip
                        exact absurd c61 (by omega)
                  · skip
                    refine wa_iload_n (n := 0) rfl ?_
                    refine wa_bipush (w_rg2 (by omega) (by omega)) ?_
                    refine wa_icmpeq (w_rg0 (by omega) (by omega)) (w_rg0 (by omega) (by omega)) ⟨_, rfl⟩ (fun c67 => ?_) (fun c67 => ?_)
                    · skip
                      refine wa_iconst ?_
                      refine wa_goto ⟨_, rfl⟩ ?_
                      refine wa_zreturn rfl (Or.inr rfl) ?_
                      show wJ _ _ _ _ _ _ _ _ _ _
                      refine wa_ifeq (w_rg0 (by omega) (by omega)) ⟨_, rfl⟩ (fun c68 => ?_) (fun c68 => ?_)
                      · skip
                        exact absurd c68 (by omega)
                      · skip
                        refine wa_aload_n (n := 0) rfl ?_
                        refine wa_bipush (w_rg2 (by omega) (by omega)) ?_
                        refine wb_pfi 215 rfl (wy_pr rfl) wt_215 wf_8_16 (n := 16) rfl ⟨(by omega), (by omega)⟩ ?_
                        refine wa_goto ⟨_, rfl⟩ ?_
                        refine wa_aload_n (n := 0) rfl ?_
                        refine wb_gfi 215 rfl (wy_pr rfl) wt_215 wf_8_16 (v := 11) (w_up_same _ _ _ _) (fun r69 => ?_)
                        refine wa_bipush (w_rg2 (by omega) (by omega)) ?_
                        refine wa_icmpne (w_rg0 (by omega) (by omega)) (w_rg0 (by omega) (by omega)) ⟨_, rfl⟩ (fun c70 => ?_) (fun c70 => ?_)
                        · skip
                          refine wa_aload_n (n := 0) rfl ?_
                          refine wb_gfi 215 rfl (wy_pr rfl) wt_215 wf_8_16 (v := 11) (w_up_same _ _ _ _) (fun r71 => ?_)
                          refine wa_ifeq (w_rg0 (by omega) (by omega)) ⟨_, rfl⟩ (fun c72 => ?_) (fun c72 => ?_)
                          · skip
                            exact absurd c72 (by omega)
                          · skip
                            refine wa_aload_n (n := 0) rfl ?_
                            refine wa_iconst ?_
                            refine wa_aload_n (n := 0) rfl ?_
                            refine wb_gfi 215 rfl (wy_pr rfl) wt_215 wf_8_16 (v := 11) (w_up_same _ _ _ _) (fun r73 => ?_)
                            refine wa_i2l (w_rg0 (by omega) (by omega)) ?_
                            refine wa_cv 215 rfl (wy_pr rfl) wt_215 (M2 := mS [217, 218]) rfl at_XK_raise ⟨_, rfl⟩ rfl rfl ⟨trivial, trivial, trivial, (Or.inr ⟨wy_pr rfl, mS_no rfl⟩), trivial⟩ trivial (fun _ _ q => q) (rq_215 hR ⟨by omega, by omega⟩ ⟨by omega, by omega⟩) (fun oq74 Sq74 hp75 q74 => ?_)
                            rcases q74 with ⟨rfl, rs74⟩
                            show wJ _ _ _ _ _ _ _ _ _ _
                            refine wa_fall ⟨_, rfl⟩ ?_
                            refine wa_iconst ?_
                            refine wa_zreturn rfl (Or.inr rfl) ?_
                            exact ⟨rfl, rs74⟩
                        · skip
                          exact absurd c70 (by omega)
                    · skip
                      refine wa_iload_n (n := 0) rfl ?_
                      refine wa_bipush (w_rg2 (by omega) (by omega)) ?_
                      refine wa_icmpne (w_rg0 (by omega) (by omega)) (w_rg0 (by omega) (by omega)) ⟨_, rfl⟩ (fun c76 => ?_) (fun c76 => ?_)
                      · skip
                        exfalso; omega
                      · skip
                        refine wa_iload_n (n := 1) rfl ?_
                        refine wa_ifne (w_rg0 (by omega) (by omega)) ⟨_, rfl⟩ (fun c77 => ?_) (fun c77 => ?_)
                        · skip
                          exfalso; omega
                        · skip
                          refine wa_fall ⟨_, rfl⟩ ?_
                          refine wa_iconst ?_
                          refine wa_goto ⟨_, rfl⟩ ?_
                          refine wa_zreturn rfl (Or.inr rfl) ?_
                          show wJ _ _ _ _ _ _ _ _ _ _
                          refine wa_ifeq (w_rg0 (by omega) (by omega)) ⟨_, rfl⟩ (fun c78 => ?_) (fun c78 => ?_)
                          · skip
                            exact absurd c78 (by omega)
                          · skip
                            refine wa_aload_n (n := 0) rfl ?_
                            refine wa_bipush (w_rg2 (by omega) (by omega)) ?_
                            refine wb_pfi 215 rfl (wy_pr rfl) wt_215 wf_8_16 (n := 16) rfl ⟨(by omega), (by omega)⟩ ?_
                            refine wa_goto ⟨_, rfl⟩ ?_
                            refine wa_aload_n (n := 0) rfl ?_
                            refine wb_gfi 215 rfl (wy_pr rfl) wt_215 wf_8_16 (v := 11) (w_up_same _ _ _ _) (fun r79 => ?_)
                            refine wa_bipush (w_rg2 (by omega) (by omega)) ?_
                            refine wa_icmpne (w_rg0 (by omega) (by omega)) (w_rg0 (by omega) (by omega)) ⟨_, rfl⟩ (fun c80 => ?_) (fun c80 => ?_)
                            · skip
                              refine wa_aload_n (n := 0) rfl ?_
                              refine wb_gfi 215 rfl (wy_pr rfl) wt_215 wf_8_16 (v := 11) (w_up_same _ _ _ _) (fun r81 => ?_)
                              refine wa_ifeq (w_rg0 (by omega) (by omega)) ⟨_, rfl⟩ (fun c82 => ?_) (fun c82 => ?_)
                              · skip
                                exact absurd c82 (by omega)
                              · skip
                                refine wa_aload_n (n := 0) rfl ?_
                                refine wa_iconst ?_
                                refine wa_aload_n (n := 0) rfl ?_
                                refine wb_gfi 215 rfl (wy_pr rfl) wt_215 wf_8_16 (v := 11) (w_up_same _ _ _ _) (fun r83 => ?_)
                                refine wa_i2l (w_rg0 (by omega) (by omega)) ?_
                                refine wa_cv 215 rfl (wy_pr rfl) wt_215 (M2 := mS [217, 218]) rfl at_XK_raise ⟨_, rfl⟩ rfl rfl ⟨trivial, trivial, trivial, (Or.inr ⟨wy_pr rfl, mS_no rfl⟩), trivial⟩ trivial (fun _ _ q => q) (rq_215 hR ⟨by omega, by omega⟩ ⟨by omega, by omega⟩) (fun oq84 Sq84 hp85 q84 => ?_)
                                rcases q84 with ⟨rfl, rs84⟩
                                show wJ _ _ _ _ _ _ _ _ _ _
                                refine wa_fall ⟨_, rfl⟩ ?_
                                refine wa_iconst ?_
                                refine wa_zreturn rfl (Or.inr rfl) ?_
                                exact ⟨rfl, rs84⟩
                            · skip
                              exact absurd c80 (by omega)
    · skip
      exact absurd c10 (by omega)
  · skip
    exfalso; omega
theorem sp_226 {c g p e h a b oq : Int} (hB : xB 226 c g p e h S) (ho : S 31 (e + p) = oq) (ha : S 32 (e + p) = a) (hb : S 33 (e + p) = b) (ho1 : ((0 ≤ oq ∧ oq ≤ 6) ∨ (20 ≤ oq ∧ oq ≤ 33 ∧ oq ≠ 27 ∧ oq ≠ 28))) (hl : 2000 ≤ h → ¬ (oq = 0 ∨ oq = 1 ∨ oq = 3 ∨ oq = 6 ∨ oq = 24 ∨ oq = 26 ∨ oq = 33 ∨ (oq = 25 ∧ a = 0))) (hml : ∀ x ∈ [228, 229], x ∈ ml) (hmn : ¬ mS ml 226) (hcal : wJ (pe_GA xs) wY0 (mS ml) (d + 11) t_XK_perform ((pe_at t_XK_perform.bl 0).getD (0, [])).2 [(0, (2, 226)), (1, (0, oq)), (2, (0, a)), (3, (0, b))] [] (w_up S 226 16 0) (fun o Z => o = .inl none ∧ R Z)) (hR : ∀ Z : wS, R Z → Z 226 16 ≠ 0 → Z 226 16 ≠ 99 → xR 226 Z) : wJ (pe_GA xs) wY0 (mS ml) (d + 12) t_XK_step ((pe_at t_XK_step.bl 0).getD (0, [])).2 [(0, (2, 226))] [] S (fun o Z2 => ∃ Z : wS, R Z ∧ sR 226 Z o Z2) := by
  obtain ⟨⟨hC, hI⟩, ⟨bc, bc0, bc1⟩, ⟨bg, bg0, bg1⟩, ⟨bp, bp0, bp1⟩, ⟨be, be0, be1, be2, be3, be4⟩, ⟨bh, bh0, bh1, bh2⟩, bl1, bl2, bl3⟩ := hB
  refine wa_aload_n (n := 0) rfl ?_
  refine wb_gfi 226 rfl (wy_pr rfl) wt_226 wf_8_4 (v := c) (bc) (fun r1 => ?_)
  refine wa_iconst ?_
  refine wa_icmpge (w_rg0 (by omega) (by omega)) (w_rg0 (by omega) (by omega)) ⟨_, rfl⟩ (fun c2 => ?_) (fun c2 => ?_)
  · skip
    refine wa_aload_n (n := 0) rfl ?_
    refine wa_iconst ?_
    refine wb_pfi 226 rfl (wy_pr rfl) wt_226 wf_8_16 (n := 16) rfl ⟨(by omega), (by omega)⟩ ?_
    refine wa_aload_n (n := 0) rfl ?_
    refine wb_gf4 226 rfl (wy_pr rfl) wt_226 wf_8_1 (v := 19) wl_226_1 ?_
    refine wb_gf4 19 rfl (wy_pr rfl) wt_19 wf_0_0 (v := 20) wl_19_0 ?_
    refine wa_bipush (w_rg2 (by omega) (by omega)) ?_
    refine wb_aald5 20 6 rfl rfl (wy_pr rfl) wt_20 (by rw [show _ = _ from ((w_up_slot (by decide)).trans ((cl_20 hC)))]; omega) wl_20_6 ?_
    refine wa_aload_n (n := 0) rfl ?_
    refine wb_gf4 226 rfl (wy_pr rfl) wt_226 wf_8_5 (v := 230) wl_226_5 ?_
    refine wa_aload_n (n := 0) rfl ?_
    refine wb_gfi 226 rfl (wy_pr rfl) wt_226 wf_8_4 (v := c) ((w_up_at (by decide)).trans (bc)) (fun r3 => ?_)
    refine wa_iconst ?_
    refine wa_isub ?_
    refine wb_iald 230 rfl (wy_pr rfl) wt_230 (n := 200) ((w_up_slot (by decide)).trans ((cl_230 hC))) (by omega) (by omega) (v := g) ((w_up_slot (by decide)).trans (bg)) (fun r4 => ?_)
    refine wb_iald 27 rfl (wy_pr rfl) wt_27 (n := 400) ((w_up_slot (by decide)).trans ((cl_27 hC))) (by omega) (by omega) (v := e) ((w_up_slot (by decide)).trans (be)) (fun r5 => ?_)
    refine wa_aload_n (n := 0) rfl ?_
    refine wb_gf4 226 rfl (wy_pr rfl) wt_226 wf_8_6 (v := 231) wl_226_6 ?_
    refine wa_aload_n (n := 0) rfl ?_
    refine wb_gfi 226 rfl (wy_pr rfl) wt_226 wf_8_4 (v := c) ((w_up_at (by decide)).trans (bc)) (fun r6 => ?_)
    refine wa_iconst ?_
    refine wa_isub ?_
    refine wb_iald 231 rfl (wy_pr rfl) wt_231 (n := 200) ((w_up_slot (by decide)).trans ((cl_231 hC))) (by omega) (by omega) (v := p) ((w_up_slot (by decide)).trans (bp)) (fun r7 => ?_)
    refine wa_iadd ?_
    refine wa_istore_n (n := 1) rfl ?_
    refine wa_aload_n (n := 0) rfl ?_
    refine wb_gf4 226 rfl (wy_pr rfl) wt_226 wf_8_1 (v := 19) wl_226_1 ?_
    refine wb_gf4 19 rfl (wy_pr rfl) wt_19 wf_0_4 (v := 31) wl_19_4 ?_
    refine wa_iload_n (n := 1) rfl ?_
    refine wb_iald 31 rfl (wy_pr rfl) wt_31 (n := (S 31 (-1))) ((w_up_slot (by decide)).trans (rfl)) (by omega) (by omega) (v := oq) ((w_up_slot (by decide)).trans (ho)) (fun r8 => ?_)
    refine wa_istore_n (n := 2) rfl ?_
    refine wa_aload_n (n := 0) rfl ?_
    refine wb_gf4 226 rfl (wy_pr rfl) wt_226 wf_8_1 (v := 19) wl_226_1 ?_
    refine wb_gf4 19 rfl (wy_pr rfl) wt_19 wf_0_5 (v := 32) wl_19_5 ?_
    refine wa_iload_n (n := 1) rfl ?_
    refine wb_iald 32 rfl (wy_pr rfl) wt_32 (n := (S 31 (-1))) ((w_up_slot (by decide)).trans (be2)) (by omega) (by omega) (v := a) ((w_up_slot (by decide)).trans (ha)) (fun r9 => ?_)
    refine wa_istore_n (n := 3) rfl ?_
    refine wa_iload_n (n := 2) rfl ?_
    refine wa_bipush (w_rg2 (by omega) (by omega)) ?_
    refine wa_icmpne (w_rg0 (by omega) (by omega)) (w_rg0 (by omega) (by omega)) ⟨_, rfl⟩ (fun c10 => ?_) (fun c10 => ?_)
    · skip
      have key : wJ (pe_GA xs) wY0 (mS ml) (d + 12) t_XK_step ((pe_at t_XK_step.bl 8).getD (0, [])).2 [(3, (0, a)), (2, (0, oq)), (1, (0, (e + p))), (0, (2, 226))] [] (w_up S 226 16 0) (fun o Z2 => ∃ Z : wS, R Z ∧ sR 226 Z o Z2) := by
        refine wa_iload_n (n := 2) rfl ?_
        refine wa_bipush (w_rg2 (by omega) (by omega)) ?_
        refine wa_icmplt (w_rg0 (by omega) (by omega)) (w_rg0 (by omega) (by omega)) ⟨_, rfl⟩ (fun c11 => ?_) (fun c11 => ?_)
        · skip
          refine wa_iload_n (n := 2) rfl ?_
          refine wa_bipush (w_rg2 (by omega) (by omega)) ?_
          refine wa_icmpne (w_rg0 (by omega) (by omega)) (w_rg0 (by omega) (by omega)) ⟨_, rfl⟩ (fun c12 => ?_) (fun c12 => ?_)
          · skip
            refine wa_aload_n (n := 0) rfl ?_
            refine wa_iload_n (n := 2) rfl ?_
            refine wa_iload_n (n := 3) rfl ?_
            refine wa_aload_n (n := 0) rfl ?_
            refine wb_gf4 226 rfl (wy_pr rfl) wt_226 wf_8_1 (v := 19) wl_226_1 ?_
            refine wb_gf4 19 rfl (wy_pr rfl) wt_19 wf_0_6 (v := 33) wl_19_6 ?_
            refine wa_iload_n (n := 1) rfl ?_
            refine wb_iald 33 rfl (wy_pr rfl) wt_33 (n := (S 31 (-1))) ((w_up_slot (by decide)).trans (be3)) (by omega) (by omega) (v := b) ((w_up_slot (by decide)).trans (hb)) (fun r13 => ?_)
            refine wa_cv 226 rfl (wy_pr rfl) wt_226 (M2 := mS ml) rfl at_XK_perform ⟨_, rfl⟩ rfl rfl ⟨trivial, trivial, trivial, (Or.inr ⟨wy_pr rfl, hmn⟩), trivial⟩ trivial (fun _ _ q => q) (hcal) (fun oq14 Sq14 hp15 q14 => ?_)
            rcases q14 with ⟨rfl, hz14⟩
            show wJ _ _ _ _ _ _ _ _ _ _
            refine wa_fall ⟨_, rfl⟩ ?_
            refine wa_aload_n (n := 0) rfl ?_
            refine wb_gfi 226 rfl (wy_pr rfl) wt_226 wf_8_16 (v := (Sq14 226 16)) rfl (fun r16 => ?_)
            refine wa_bipush (w_rg2 (by omega) (by omega)) ?_
            refine wa_icmpne (w_rg0 (by omega) (by omega)) (w_rg0 (by omega) (by omega)) ⟨_, rfl⟩ (fun c17 => ?_) (fun c17 => ?_)
            · skip
              refine wa_aload_n (n := 0) rfl ?_
              refine wb_gfi 226 rfl (wy_pr rfl) wt_226 wf_8_16 (v := (Sq14 226 16)) rfl (fun r18 => ?_)
              refine wa_ifeq (w_rg0 (by omega) (by omega)) ⟨_, rfl⟩ (fun c19 => ?_) (fun c19 => ?_)
              · skip
                refine wa_iconst ?_
                refine wa_zreturn rfl (Or.inr rfl) ?_
                exact ⟨_, hz14, Or.inl ⟨by omega, rfl, rfl⟩⟩
              · skip
                refine wa_aload_n (n := 0) rfl ?_
                refine wa_iconst ?_
                refine wa_aload_n (n := 0) rfl ?_
                refine wb_gfi 226 rfl (wy_pr rfl) wt_226 wf_8_16 (v := (Sq14 226 16)) rfl (fun r20 => ?_)
                refine wa_i2l (w_rg0 (by omega) (by omega)) ?_
                refine wa_cv 226 rfl (wy_pr rfl) wt_226 (M2 := mS [228, 229]) rfl at_XK_raise ⟨_, rfl⟩ rfl rfl ⟨trivial, trivial, trivial, (Or.inr ⟨wy_pr rfl, mS_no rfl⟩), trivial⟩ trivial (fun _ _ q => mS_sub hml q) (rq_226 (hR _ hz14 (by omega) (by omega)) ⟨by omega, by omega⟩ ⟨by omega, by omega⟩) (fun oq21 Sq21 hp22 q21 => ?_)
                rcases q21 with ⟨rfl, rs21⟩
                show wJ _ _ _ _ _ _ _ _ _ _
                refine wa_fall ⟨_, rfl⟩ ?_
                refine wa_iconst ?_
                refine wa_zreturn rfl (Or.inr rfl) ?_
                exact ⟨_, hz14, Or.inr (Or.inr ⟨by omega, by omega, rfl, rs21⟩)⟩
            · skip
              refine wa_aload_n (n := 0) rfl ?_
              refine wa_iconst ?_
              refine wb_pfi 226 rfl (wy_pr rfl) wt_226 wf_8_13 (n := 13) rfl ⟨(by omega), (by omega)⟩ ?_
              refine wa_iconst ?_
              refine wa_zreturn rfl (Or.inl rfl) ?_
              exact ⟨_, hz14, Or.inr (Or.inl ⟨by omega, rfl, rfl⟩)⟩
          · skip
            exact absurd c12 (by omega)
        · skip
          refine wa_iload_n (n := 2) rfl ?_
          refine wa_bipush (w_rg2 (by omega) (by omega)) ?_
          refine wa_icmpgt (w_rg0 (by omega) (by omega)) (w_rg0 (by omega) (by omega)) ⟨_, rfl⟩ (fun c23 => ?_) (fun c23 => ?_)
          · skip
            refine wa_iload_n (n := 2) rfl ?_
            refine wa_bipush (w_rg2 (by omega) (by omega)) ?_
            refine wa_icmpne (w_rg0 (by omega) (by omega)) (w_rg0 (by omega) (by omega)) ⟨_, rfl⟩ (fun c24 => ?_) (fun c24 => ?_)
            · skip
              refine wa_aload_n (n := 0) rfl ?_
              refine wa_iload_n (n := 2) rfl ?_
              refine wa_iload_n (n := 3) rfl ?_
              refine wa_aload_n (n := 0) rfl ?_
              refine wb_gf4 226 rfl (wy_pr rfl) wt_226 wf_8_1 (v := 19) wl_226_1 ?_
              refine wb_gf4 19 rfl (wy_pr rfl) wt_19 wf_0_6 (v := 33) wl_19_6 ?_
              refine wa_iload_n (n := 1) rfl ?_
              refine wb_iald 33 rfl (wy_pr rfl) wt_33 (n := (S 31 (-1))) ((w_up_slot (by decide)).trans (be3)) (by omega) (by omega) (v := b) ((w_up_slot (by decide)).trans (hb)) (fun r25 => ?_)
              refine wa_cv 226 rfl (wy_pr rfl) wt_226 (M2 := mS ml) rfl at_XK_perform ⟨_, rfl⟩ rfl rfl ⟨trivial, trivial, trivial, (Or.inr ⟨wy_pr rfl, hmn⟩), trivial⟩ trivial (fun _ _ q => q) (hcal) (fun oq26 Sq26 hp27 q26 => ?_)
              rcases q26 with ⟨rfl, hz26⟩
              show wJ _ _ _ _ _ _ _ _ _ _
              refine wa_fall ⟨_, rfl⟩ ?_
              refine wa_aload_n (n := 0) rfl ?_
              refine wb_gfi 226 rfl (wy_pr rfl) wt_226 wf_8_16 (v := (Sq26 226 16)) rfl (fun r28 => ?_)
              refine wa_bipush (w_rg2 (by omega) (by omega)) ?_
              refine wa_icmpne (w_rg0 (by omega) (by omega)) (w_rg0 (by omega) (by omega)) ⟨_, rfl⟩ (fun c29 => ?_) (fun c29 => ?_)
              · skip
                refine wa_aload_n (n := 0) rfl ?_
                refine wb_gfi 226 rfl (wy_pr rfl) wt_226 wf_8_16 (v := (Sq26 226 16)) rfl (fun r30 => ?_)
                refine wa_ifeq (w_rg0 (by omega) (by omega)) ⟨_, rfl⟩ (fun c31 => ?_) (fun c31 => ?_)
                · skip
                  refine wa_iconst ?_
                  refine wa_zreturn rfl (Or.inr rfl) ?_
                  exact ⟨_, hz26, Or.inl ⟨by omega, rfl, rfl⟩⟩
                · skip
                  refine wa_aload_n (n := 0) rfl ?_
                  refine wa_iconst ?_
                  refine wa_aload_n (n := 0) rfl ?_
                  refine wb_gfi 226 rfl (wy_pr rfl) wt_226 wf_8_16 (v := (Sq26 226 16)) rfl (fun r32 => ?_)
                  refine wa_i2l (w_rg0 (by omega) (by omega)) ?_
                  refine wa_cv 226 rfl (wy_pr rfl) wt_226 (M2 := mS [228, 229]) rfl at_XK_raise ⟨_, rfl⟩ rfl rfl ⟨trivial, trivial, trivial, (Or.inr ⟨wy_pr rfl, mS_no rfl⟩), trivial⟩ trivial (fun _ _ q => mS_sub hml q) (rq_226 (hR _ hz26 (by omega) (by omega)) ⟨by omega, by omega⟩ ⟨by omega, by omega⟩) (fun oq33 Sq33 hp34 q33 => ?_)
                  rcases q33 with ⟨rfl, rs33⟩
                  show wJ _ _ _ _ _ _ _ _ _ _
                  refine wa_fall ⟨_, rfl⟩ ?_
                  refine wa_iconst ?_
                  refine wa_zreturn rfl (Or.inr rfl) ?_
                  exact ⟨_, hz26, Or.inr (Or.inr ⟨by omega, by omega, rfl, rs33⟩)⟩
              · skip
                refine wa_aload_n (n := 0) rfl ?_
                refine wa_iconst ?_
                refine wb_pfi 226 rfl (wy_pr rfl) wt_226 wf_8_13 (n := 13) rfl ⟨(by omega), (by omega)⟩ ?_
                refine wa_iconst ?_
                refine wa_zreturn rfl (Or.inl rfl) ?_
                exact ⟨_, hz26, Or.inr (Or.inl ⟨by omega, rfl, rfl⟩)⟩
            · skip
              exact absurd c24 (by omega)
          · skip
            exact absurd c23 (by omega)
      refine wa_aload_n (n := 0) rfl ?_
      refine wb_gf4 226 rfl (wy_pr rfl) wt_226 wf_8_3 (v := 227) wl_226_3 ?_
      refine wb_gfi 227 rfl (wy_pr rfl) wt_227 wf_7_2 (v := h) ((w_up_slot (by decide)).trans (bh)) (fun r35 => ?_)
      refine wa_sipush (by omega) ?_
      refine wa_icmplt (w_rg0 (by omega) (by omega)) (w_rg0 (by omega) (by omega)) ⟨_, rfl⟩ (fun c36 => ?_) (fun c36 => ?_)
      · skip
        exact key
      · skip
        refine wa_iload_n (n := 2) rfl ?_
        refine wa_iload_n (n := 3) rfl ?_
        refine wa_cs (M2 := mS ml) rfl at_XK_pushes ⟨_, rfl⟩ rfl rfl ⟨trivial, trivial, trivial, (Or.inr ⟨wy_pr rfl, hmn⟩), trivial⟩ trivial (fun _ _ q => q) ?_ (fun _ _ _ q => q)
        refine wa_iload_n (n := 0) rfl ?_
        refine wa_ifeq (w_rg0 (by omega) (by omega)) ⟨_, rfl⟩ (fun c37 => ?_) (fun c37 => ?_)
        · skip
          exfalso; have := hl (by omega); omega
        · skip
          refine wa_iload_n (n := 0) rfl ?_
          refine wa_iconst ?_
          refine wa_icmpeq (w_rg0 (by omega) (by omega)) (w_rg0 (by omega) (by omega)) ⟨_, rfl⟩ (fun c38 => ?_) (fun c38 => ?_)
          · skip
            exfalso; have := hl (by omega); omega
          · skip
            refine wa_iload_n (n := 0) rfl ?_
            refine wa_iconst ?_
            refine wa_icmpeq (w_rg0 (by omega) (by omega)) (w_rg0 (by omega) (by omega)) ⟨_, rfl⟩ (fun c39 => ?_) (fun c39 => ?_)
            · skip
              exfalso; have := hl (by omega); omega
            · skip
              refine wa_iload_n (n := 0) rfl ?_
              refine wa_bipush (w_rg2 (by omega) (by omega)) ?_
              refine wa_icmpeq (w_rg0 (by omega) (by omega)) (w_rg0 (by omega) (by omega)) ⟨_, rfl⟩ (fun c40 => ?_) (fun c40 => ?_)
              · skip
                exfalso; have := hl (by omega); omega
              · skip
                refine wa_iload_n (n := 0) rfl ?_
                refine wa_bipush (w_rg2 (by omega) (by omega)) ?_
                refine wa_icmpeq (w_rg0 (by omega) (by omega)) (w_rg0 (by omega) (by omega)) ⟨_, rfl⟩ (fun c41 => ?_) (fun c41 => ?_)
                · skip
                  exfalso; have := hl (by omega); omega
                · skip
                  refine wa_iload_n (n := 0) rfl ?_
                  refine wa_bipush (w_rg2 (by omega) (by omega)) ?_
                  refine wa_icmpeq (w_rg0 (by omega) (by omega)) (w_rg0 (by omega) (by omega)) ⟨_, rfl⟩ (fun c42 => ?_) (fun c42 => ?_)
                  · skip
                    exfalso; have := hl (by omega); omega
                  · skip
                    refine wa_iload_n (n := 0) rfl ?_
                    refine wa_bipush (w_rg2 (by omega) (by omega)) ?_
                    refine wa_icmpeq (w_rg0 (by omega) (by omega)) (w_rg0 (by omega) (by omega)) ⟨_, rfl⟩ (fun c43 => ?_) (fun c43 => ?_)
                    · skip
                      exfalso; have := hl (by omega); omega
                    · skip
                      refine wa_iload_n (n := 0) rfl ?_
                      refine wa_bipush (w_rg2 (by omega) (by omega)) ?_
                      refine wa_icmpne (w_rg0 (by omega) (by omega)) (w_rg0 (by omega) (by omega)) ⟨_, rfl⟩ (fun c44 => ?_) (fun c44 => ?_)
                      · skip
                        refine wa_iconst ?_
                        refine wa_fall ⟨_, rfl⟩ ?_
                        refine wa_zreturn rfl (Or.inl rfl) ?_
                        show wJ _ _ _ _ _ _ _ _ _ _
                        refine wa_ifeq (w_rg0 (by omega) (by omega)) ⟨_, rfl⟩ (fun c45 => ?_) (fun c45 => ?_)
                        · skip
                          exact key
                        · skip
                          exact absurd c45 (by omega)
                      · skip
                        refine wa_iload_n (n := 1) rfl ?_
                        refine wa_ifne (w_rg0 (by omega) (by omega)) ⟨_, rfl⟩ (fun c46 => ?_) (fun c46 => ?_)
                        · skip
                          refine wa_iconst ?_
                          refine wa_fall ⟨_, rfl⟩ ?_
                          refine wa_zreturn rfl (Or.inl rfl) ?_
                          show wJ _ _ _ _ _ _ _ _ _ _
                          refine wa_ifeq (w_rg0 (by omega) (by omega)) ⟨_, rfl⟩ (fun c47 => ?_) (fun c47 => ?_)
                          · skip
                            exact key
                          · skip
                            exact absurd c47 (by omega)
                        · skip
                          refine wa_fall ⟨_, rfl⟩ ?_
                          exfalso; have := hl (by omega); omega
    · skip
      exact absurd c10 (by omega)
  · skip
    exfalso; omega
theorem so_226 {c g p e h a b oq : Int} (hB : xB 226 c g p e h S) (ho : S 31 (e + p) = oq) (ha : S 32 (e + p) = a) (hb : S 33 (e + p) = b) (ho1 : (7 ≤ oq ∧ oq ≤ 19)) (hl : 2000 ≤ h → ¬ (oq = 0 ∨ oq = 1 ∨ oq = 3 ∨ oq = 6 ∨ oq = 24 ∨ oq = 26 ∨ oq = 33 ∨ (oq = 25 ∧ a = 0))) (hml : ∀ x ∈ [228, 229], x ∈ ml) (hmn : ¬ mS ml 226) (hcal : wJ (pe_GA xs) wY0 (mS ml) (d + 11) t_XK_operate ((pe_at t_XK_operate.bl 0).getD (0, [])).2 [(0, (2, 226)), (1, (0, oq))] [] (w_up S 226 16 0) (fun o Z => o = .inl none ∧ R Z)) (hR : ∀ Z : wS, R Z → Z 226 16 ≠ 0 → Z 226 16 ≠ 99 → xR 226 Z) : wJ (pe_GA xs) wY0 (mS ml) (d + 12) t_XK_step ((pe_at t_XK_step.bl 0).getD (0, [])).2 [(0, (2, 226))] [] S (fun o Z2 => ∃ Z : wS, R Z ∧ sR 226 Z o Z2) := by
  obtain ⟨⟨hC, hI⟩, ⟨bc, bc0, bc1⟩, ⟨bg, bg0, bg1⟩, ⟨bp, bp0, bp1⟩, ⟨be, be0, be1, be2, be3, be4⟩, ⟨bh, bh0, bh1, bh2⟩, bl1, bl2, bl3⟩ := hB
  refine wa_aload_n (n := 0) rfl ?_
  refine wb_gfi 226 rfl (wy_pr rfl) wt_226 wf_8_4 (v := c) (bc) (fun r1 => ?_)
  refine wa_iconst ?_
  refine wa_icmpge (w_rg0 (by omega) (by omega)) (w_rg0 (by omega) (by omega)) ⟨_, rfl⟩ (fun c2 => ?_) (fun c2 => ?_)
  · skip
    refine wa_aload_n (n := 0) rfl ?_
    refine wa_iconst ?_
    refine wb_pfi 226 rfl (wy_pr rfl) wt_226 wf_8_16 (n := 16) rfl ⟨(by omega), (by omega)⟩ ?_
    refine wa_aload_n (n := 0) rfl ?_
    refine wb_gf4 226 rfl (wy_pr rfl) wt_226 wf_8_1 (v := 19) wl_226_1 ?_
    refine wb_gf4 19 rfl (wy_pr rfl) wt_19 wf_0_0 (v := 20) wl_19_0 ?_
    refine wa_bipush (w_rg2 (by omega) (by omega)) ?_
    refine wb_aald5 20 6 rfl rfl (wy_pr rfl) wt_20 (by rw [show _ = _ from ((w_up_slot (by decide)).trans ((cl_20 hC)))]; omega) wl_20_6 ?_
    refine wa_aload_n (n := 0) rfl ?_
    refine wb_gf4 226 rfl (wy_pr rfl) wt_226 wf_8_5 (v := 230) wl_226_5 ?_
    refine wa_aload_n (n := 0) rfl ?_
    refine wb_gfi 226 rfl (wy_pr rfl) wt_226 wf_8_4 (v := c) ((w_up_at (by decide)).trans (bc)) (fun r3 => ?_)
    refine wa_iconst ?_
    refine wa_isub ?_
    refine wb_iald 230 rfl (wy_pr rfl) wt_230 (n := 200) ((w_up_slot (by decide)).trans ((cl_230 hC))) (by omega) (by omega) (v := g) ((w_up_slot (by decide)).trans (bg)) (fun r4 => ?_)
    refine wb_iald 27 rfl (wy_pr rfl) wt_27 (n := 400) ((w_up_slot (by decide)).trans ((cl_27 hC))) (by omega) (by omega) (v := e) ((w_up_slot (by decide)).trans (be)) (fun r5 => ?_)
    refine wa_aload_n (n := 0) rfl ?_
    refine wb_gf4 226 rfl (wy_pr rfl) wt_226 wf_8_6 (v := 231) wl_226_6 ?_
    refine wa_aload_n (n := 0) rfl ?_
    refine wb_gfi 226 rfl (wy_pr rfl) wt_226 wf_8_4 (v := c) ((w_up_at (by decide)).trans (bc)) (fun r6 => ?_)
    refine wa_iconst ?_
    refine wa_isub ?_
    refine wb_iald 231 rfl (wy_pr rfl) wt_231 (n := 200) ((w_up_slot (by decide)).trans ((cl_231 hC))) (by omega) (by omega) (v := p) ((w_up_slot (by decide)).trans (bp)) (fun r7 => ?_)
    refine wa_iadd ?_
    refine wa_istore_n (n := 1) rfl ?_
    refine wa_aload_n (n := 0) rfl ?_
    refine wb_gf4 226 rfl (wy_pr rfl) wt_226 wf_8_1 (v := 19) wl_226_1 ?_
    refine wb_gf4 19 rfl (wy_pr rfl) wt_19 wf_0_4 (v := 31) wl_19_4 ?_
    refine wa_iload_n (n := 1) rfl ?_
    refine wb_iald 31 rfl (wy_pr rfl) wt_31 (n := (S 31 (-1))) ((w_up_slot (by decide)).trans (rfl)) (by omega) (by omega) (v := oq) ((w_up_slot (by decide)).trans (ho)) (fun r8 => ?_)
    refine wa_istore_n (n := 2) rfl ?_
    refine wa_aload_n (n := 0) rfl ?_
    refine wb_gf4 226 rfl (wy_pr rfl) wt_226 wf_8_1 (v := 19) wl_226_1 ?_
    refine wb_gf4 19 rfl (wy_pr rfl) wt_19 wf_0_5 (v := 32) wl_19_5 ?_
    refine wa_iload_n (n := 1) rfl ?_
    refine wb_iald 32 rfl (wy_pr rfl) wt_32 (n := (S 31 (-1))) ((w_up_slot (by decide)).trans (be2)) (by omega) (by omega) (v := a) ((w_up_slot (by decide)).trans (ha)) (fun r9 => ?_)
    refine wa_istore_n (n := 3) rfl ?_
    refine wa_iload_n (n := 2) rfl ?_
    refine wa_bipush (w_rg2 (by omega) (by omega)) ?_
    refine wa_icmpne (w_rg0 (by omega) (by omega)) (w_rg0 (by omega) (by omega)) ⟨_, rfl⟩ (fun c10 => ?_) (fun c10 => ?_)
    · skip
      have key : wJ (pe_GA xs) wY0 (mS ml) (d + 12) t_XK_step ((pe_at t_XK_step.bl 8).getD (0, [])).2 [(3, (0, a)), (2, (0, oq)), (1, (0, (e + p))), (0, (2, 226))] [] (w_up S 226 16 0) (fun o Z2 => ∃ Z : wS, R Z ∧ sR 226 Z o Z2) := by
        refine wa_iload_n (n := 2) rfl ?_
        refine wa_bipush (w_rg2 (by omega) (by omega)) ?_
        refine wa_icmplt (w_rg0 (by omega) (by omega)) (w_rg0 (by omega) (by omega)) ⟨_, rfl⟩ (fun c11 => ?_) (fun c11 => ?_)
        · skip
          exact absurd c11 (by omega)
        · skip
          refine wa_iload_n (n := 2) rfl ?_
          refine wa_bipush (w_rg2 (by omega) (by omega)) ?_
          refine wa_icmpgt (w_rg0 (by omega) (by omega)) (w_rg0 (by omega) (by omega)) ⟨_, rfl⟩ (fun c12 => ?_) (fun c12 => ?_)
          · skip
            exact absurd c12 (by omega)
          · skip
            refine wa_aload_n (n := 0) rfl ?_
            refine wa_iload_n (n := 2) rfl ?_
            refine wa_cv 226 rfl (wy_pr rfl) wt_226 (M2 := mS ml) rfl at_XK_operate ⟨_, rfl⟩ rfl rfl ⟨trivial, trivial, trivial, (Or.inr ⟨wy_pr rfl, hmn⟩), trivial⟩ trivial (fun _ _ q => q) (hcal) (fun oq13 Sq13 hp14 q13 => ?_)
            rcases q13 with ⟨rfl, hz13⟩
            show wJ _ _ _ _ _ _ _ _ _ _
            refine wa_goto ⟨_, rfl⟩ ?_
            refine wa_aload_n (n := 0) rfl ?_
            refine wb_gfi 226 rfl (wy_pr rfl) wt_226 wf_8_16 (v := (Sq13 226 16)) rfl (fun r15 => ?_)
            refine wa_bipush (w_rg2 (by omega) (by omega)) ?_
            refine wa_icmpne (w_rg0 (by omega) (by omega)) (w_rg0 (by omega) (by omega)) ⟨_, rfl⟩ (fun c16 => ?_) (fun c16 => ?_)
            · skip
              refine wa_aload_n (n := 0) rfl ?_
              refine wb_gfi 226 rfl (wy_pr rfl) wt_226 wf_8_16 (v := (Sq13 226 16)) rfl (fun r17 => ?_)
              refine wa_ifeq (w_rg0 (by omega) (by omega)) ⟨_, rfl⟩ (fun c18 => ?_) (fun c18 => ?_)
              · skip
                refine wa_iconst ?_
                refine wa_zreturn rfl (Or.inr rfl) ?_
                exact ⟨_, hz13, Or.inl ⟨by omega, rfl, rfl⟩⟩
              · skip
                refine wa_aload_n (n := 0) rfl ?_
                refine wa_iconst ?_
                refine wa_aload_n (n := 0) rfl ?_
                refine wb_gfi 226 rfl (wy_pr rfl) wt_226 wf_8_16 (v := (Sq13 226 16)) rfl (fun r19 => ?_)
                refine wa_i2l (w_rg0 (by omega) (by omega)) ?_
                refine wa_cv 226 rfl (wy_pr rfl) wt_226 (M2 := mS [228, 229]) rfl at_XK_raise ⟨_, rfl⟩ rfl rfl ⟨trivial, trivial, trivial, (Or.inr ⟨wy_pr rfl, mS_no rfl⟩), trivial⟩ trivial (fun _ _ q => mS_sub hml q) (rq_226 (hR _ hz13 (by omega) (by omega)) ⟨by omega, by omega⟩ ⟨by omega, by omega⟩) (fun oq20 Sq20 hp21 q20 => ?_)
                rcases q20 with ⟨rfl, rs20⟩
                show wJ _ _ _ _ _ _ _ _ _ _
                refine wa_fall ⟨_, rfl⟩ ?_
                refine wa_iconst ?_
                refine wa_zreturn rfl (Or.inr rfl) ?_
                exact ⟨_, hz13, Or.inr (Or.inr ⟨by omega, by omega, rfl, rs20⟩)⟩
            · skip
              refine wa_aload_n (n := 0) rfl ?_
              refine wa_iconst ?_
              refine wb_pfi 226 rfl (wy_pr rfl) wt_226 wf_8_13 (n := 13) rfl ⟨(by omega), (by omega)⟩ ?_
              refine wa_iconst ?_
              refine wa_zreturn rfl (Or.inl rfl) ?_
              exact ⟨_, hz13, Or.inr (Or.inl ⟨by omega, rfl, rfl⟩)⟩
      refine wa_aload_n (n := 0) rfl ?_
      refine wb_gf4 226 rfl (wy_pr rfl) wt_226 wf_8_3 (v := 227) wl_226_3 ?_
      refine wb_gfi 227 rfl (wy_pr rfl) wt_227 wf_7_2 (v := h) ((w_up_slot (by decide)).trans (bh)) (fun r22 => ?_)
      refine wa_sipush (by omega) ?_
      refine wa_icmplt (w_rg0 (by omega) (by omega)) (w_rg0 (by omega) (by omega)) ⟨_, rfl⟩ (fun c23 => ?_) (fun c23 => ?_)
      · skip
        exact key
      · skip
        refine wa_iload_n (n := 2) rfl ?_
        refine wa_iload_n (n := 3) rfl ?_
        refine wa_cs (M2 := mS ml) rfl at_XK_pushes ⟨_, rfl⟩ rfl rfl ⟨trivial, trivial, trivial, (Or.inr ⟨wy_pr rfl, hmn⟩), trivial⟩ trivial (fun _ _ q => q) ?_ (fun _ _ _ q => q)
        refine wa_iload_n (n := 0) rfl ?_
        refine wa_ifeq (w_rg0 (by omega) (by omega)) ⟨_, rfl⟩ (fun c24 => ?_) (fun c24 => ?_)
        · skip
          exact absurd c24 (by omega)
        · skip
          refine wa_iload_n (n := 0) rfl ?_
          refine wa_iconst ?_
          refine wa_icmpeq (w_rg0 (by omega) (by omega)) (w_rg0 (by omega) (by omega)) ⟨_, rfl⟩ (fun c25 => ?_) (fun c25 => ?_)
          · skip
            exact absurd c25 (by omega)
          · skip
            refine wa_iload_n (n := 0) rfl ?_
            refine wa_iconst ?_
            refine wa_icmpeq (w_rg0 (by omega) (by omega)) (w_rg0 (by omega) (by omega)) ⟨_, rfl⟩ (fun c26 => ?_) (fun c26 => ?_)
            · skip
              exact absurd c26 (by omega)
            · skip
              refine wa_iload_n (n := 0) rfl ?_
              refine wa_bipush (w_rg2 (by omega) (by omega)) ?_
              refine wa_icmpeq (w_rg0 (by omega) (by omega)) (w_rg0 (by omega) (by omega)) ⟨_, rfl⟩ (fun c27 => ?_) (fun c27 => ?_)
              · skip
                exact absurd c27 (by omega)
              · skip
                refine wa_iload_n (n := 0) rfl ?_
                refine wa_bipush (w_rg2 (by omega) (by omega)) ?_
                refine wa_icmpeq (w_rg0 (by omega) (by omega)) (w_rg0 (by omega) (by omega)) ⟨_, rfl⟩ (fun c28 => ?_) (fun c28 => ?_)
                · skip
                  exact absurd c28 (by omega)
                · skip
                  refine wa_iload_n (n := 0) rfl ?_
                  refine wa_bipush (w_rg2 (by omega) (by omega)) ?_
                  refine wa_icmpeq (w_rg0 (by omega) (by omega)) (w_rg0 (by omega) (by omega)) ⟨_, rfl⟩ (fun c29 => ?_) (fun c29 => ?_)
                  · skip
                    exact absurd c29 (by omega)
                  · skip
                    refine wa_iload_n (n := 0) rfl ?_
                    refine wa_bipush (w_rg2 (by omega) (by omega)) ?_
                    refine wa_icmpeq (w_rg0 (by omega) (by omega)) (w_rg0 (by omega) (by omega)) ⟨_, rfl⟩ (fun c30 => ?_) (fun c30 => ?_)
                    · skip
                      exact absurd c30 (by omega)
                    · skip
                      refine wa_iload_n (n := 0) rfl ?_
                      refine wa_bipush (w_rg2 (by omega) (by omega)) ?_
                      refine wa_icmpne (w_rg0 (by omega) (by omega)) (w_rg0 (by omega) (by omega)) ⟨_, rfl⟩ (fun c31 => ?_) (fun c31 => ?_)
                      · skip
                        refine wa_iconst ?_
                        refine wa_fall ⟨_, rfl⟩ ?_
                        refine wa_zreturn rfl (Or.inl rfl) ?_
                        show wJ _ _ _ _ _ _ _ _ _ _
                        refine wa_ifeq (w_rg0 (by omega) (by omega)) ⟨_, rfl⟩ (fun c32 => ?_) (fun c32 => ?_)
                        · skip
                          exact key
                        · skip
                          exact absurd c32 (by omega)
                      · skip
                        exact absurd c31 (by omega)
    · skip
      exact absurd c10 (by omega)
  · skip
    exfalso; omega
theorem sb_226 {c g p e h a b oq : Int} (hB : xB 226 c g p e h S) (ho : S 31 (e + p) = oq) (ha : S 32 (e + p) = a) (hb : S 33 (e + p) = b) (ho1 : (oq = 28)) (hl : 2000 ≤ h → ¬ (oq = 0 ∨ oq = 1 ∨ oq = 3 ∨ oq = 6 ∨ oq = 24 ∨ oq = 26 ∨ oq = 33 ∨ (oq = 25 ∧ a = 0))) (hml : ∀ x ∈ [228, 229], x ∈ ml) (hmn : ¬ mS ml 226) (hcal : wJ (pe_GA xs) wY0 (mS ml) (d + 11) t_XK_callBuiltin ((pe_at t_XK_callBuiltin.bl 0).getD (0, [])).2 [(0, (2, 226)), (1, (0, a))] [] (w_up S 226 16 0) (fun o Z => o = .inl none ∧ R Z)) (hR : ∀ Z : wS, R Z → Z 226 16 ≠ 0 → Z 226 16 ≠ 99 → xR 226 Z) : wJ (pe_GA xs) wY0 (mS ml) (d + 12) t_XK_step ((pe_at t_XK_step.bl 0).getD (0, [])).2 [(0, (2, 226))] [] S (fun o Z2 => ∃ Z : wS, R Z ∧ sR 226 Z o Z2) := by
  obtain ⟨⟨hC, hI⟩, ⟨bc, bc0, bc1⟩, ⟨bg, bg0, bg1⟩, ⟨bp, bp0, bp1⟩, ⟨be, be0, be1, be2, be3, be4⟩, ⟨bh, bh0, bh1, bh2⟩, bl1, bl2, bl3⟩ := hB
  refine wa_aload_n (n := 0) rfl ?_
  refine wb_gfi 226 rfl (wy_pr rfl) wt_226 wf_8_4 (v := c) (bc) (fun r1 => ?_)
  refine wa_iconst ?_
  refine wa_icmpge (w_rg0 (by omega) (by omega)) (w_rg0 (by omega) (by omega)) ⟨_, rfl⟩ (fun c2 => ?_) (fun c2 => ?_)
  · skip
    refine wa_aload_n (n := 0) rfl ?_
    refine wa_iconst ?_
    refine wb_pfi 226 rfl (wy_pr rfl) wt_226 wf_8_16 (n := 16) rfl ⟨(by omega), (by omega)⟩ ?_
    refine wa_aload_n (n := 0) rfl ?_
    refine wb_gf4 226 rfl (wy_pr rfl) wt_226 wf_8_1 (v := 19) wl_226_1 ?_
    refine wb_gf4 19 rfl (wy_pr rfl) wt_19 wf_0_0 (v := 20) wl_19_0 ?_
    refine wa_bipush (w_rg2 (by omega) (by omega)) ?_
    refine wb_aald5 20 6 rfl rfl (wy_pr rfl) wt_20 (by rw [show _ = _ from ((w_up_slot (by decide)).trans ((cl_20 hC)))]; omega) wl_20_6 ?_
    refine wa_aload_n (n := 0) rfl ?_
    refine wb_gf4 226 rfl (wy_pr rfl) wt_226 wf_8_5 (v := 230) wl_226_5 ?_
    refine wa_aload_n (n := 0) rfl ?_
    refine wb_gfi 226 rfl (wy_pr rfl) wt_226 wf_8_4 (v := c) ((w_up_at (by decide)).trans (bc)) (fun r3 => ?_)
    refine wa_iconst ?_
    refine wa_isub ?_
    refine wb_iald 230 rfl (wy_pr rfl) wt_230 (n := 200) ((w_up_slot (by decide)).trans ((cl_230 hC))) (by omega) (by omega) (v := g) ((w_up_slot (by decide)).trans (bg)) (fun r4 => ?_)
    refine wb_iald 27 rfl (wy_pr rfl) wt_27 (n := 400) ((w_up_slot (by decide)).trans ((cl_27 hC))) (by omega) (by omega) (v := e) ((w_up_slot (by decide)).trans (be)) (fun r5 => ?_)
    refine wa_aload_n (n := 0) rfl ?_
    refine wb_gf4 226 rfl (wy_pr rfl) wt_226 wf_8_6 (v := 231) wl_226_6 ?_
    refine wa_aload_n (n := 0) rfl ?_
    refine wb_gfi 226 rfl (wy_pr rfl) wt_226 wf_8_4 (v := c) ((w_up_at (by decide)).trans (bc)) (fun r6 => ?_)
    refine wa_iconst ?_
    refine wa_isub ?_
    refine wb_iald 231 rfl (wy_pr rfl) wt_231 (n := 200) ((w_up_slot (by decide)).trans ((cl_231 hC))) (by omega) (by omega) (v := p) ((w_up_slot (by decide)).trans (bp)) (fun r7 => ?_)
    refine wa_iadd ?_
    refine wa_istore_n (n := 1) rfl ?_
    refine wa_aload_n (n := 0) rfl ?_
    refine wb_gf4 226 rfl (wy_pr rfl) wt_226 wf_8_1 (v := 19) wl_226_1 ?_
    refine wb_gf4 19 rfl (wy_pr rfl) wt_19 wf_0_4 (v := 31) wl_19_4 ?_
    refine wa_iload_n (n := 1) rfl ?_
    refine wb_iald 31 rfl (wy_pr rfl) wt_31 (n := (S 31 (-1))) ((w_up_slot (by decide)).trans (rfl)) (by omega) (by omega) (v := oq) ((w_up_slot (by decide)).trans (ho)) (fun r8 => ?_)
    refine wa_istore_n (n := 2) rfl ?_
    refine wa_aload_n (n := 0) rfl ?_
    refine wb_gf4 226 rfl (wy_pr rfl) wt_226 wf_8_1 (v := 19) wl_226_1 ?_
    refine wb_gf4 19 rfl (wy_pr rfl) wt_19 wf_0_5 (v := 32) wl_19_5 ?_
    refine wa_iload_n (n := 1) rfl ?_
    refine wb_iald 32 rfl (wy_pr rfl) wt_32 (n := (S 31 (-1))) ((w_up_slot (by decide)).trans (be2)) (by omega) (by omega) (v := a) ((w_up_slot (by decide)).trans (ha)) (fun r9 => ?_)
    refine wa_istore_n (n := 3) rfl ?_
    refine wa_iload_n (n := 2) rfl ?_
    refine wa_bipush (w_rg2 (by omega) (by omega)) ?_
    refine wa_icmpne (w_rg0 (by omega) (by omega)) (w_rg0 (by omega) (by omega)) ⟨_, rfl⟩ (fun c10 => ?_) (fun c10 => ?_)
    · skip
      have key : wJ (pe_GA xs) wY0 (mS ml) (d + 12) t_XK_step ((pe_at t_XK_step.bl 8).getD (0, [])).2 [(3, (0, a)), (2, (0, oq)), (1, (0, (e + p))), (0, (2, 226))] [] (w_up S 226 16 0) (fun o Z2 => ∃ Z : wS, R Z ∧ sR 226 Z o Z2) := by
        refine wa_iload_n (n := 2) rfl ?_
        refine wa_bipush (w_rg2 (by omega) (by omega)) ?_
        refine wa_icmplt (w_rg0 (by omega) (by omega)) (w_rg0 (by omega) (by omega)) ⟨_, rfl⟩ (fun c11 => ?_) (fun c11 => ?_)
        · skip
          exact absurd c11 (by omega)
        · skip
          refine wa_iload_n (n := 2) rfl ?_
          refine wa_bipush (w_rg2 (by omega) (by omega)) ?_
          refine wa_icmpgt (w_rg0 (by omega) (by omega)) (w_rg0 (by omega) (by omega)) ⟨_, rfl⟩ (fun c12 => ?_) (fun c12 => ?_)
          · skip
            refine wa_iload_n (n := 2) rfl ?_
            refine wa_bipush (w_rg2 (by omega) (by omega)) ?_
            refine wa_icmpne (w_rg0 (by omega) (by omega)) (w_rg0 (by omega) (by omega)) ⟨_, rfl⟩ (fun c13 => ?_) (fun c13 => ?_)
            · skip
              exact absurd c13 (by omega)
            · skip
              refine wa_aload_n (n := 0) rfl ?_
              refine wa_iload_n (n := 3) rfl ?_
              refine wa_cv 226 rfl (wy_pr rfl) wt_226 (M2 := mS ml) rfl at_XK_callBuiltin ⟨_, rfl⟩ rfl rfl ⟨trivial, trivial, trivial, (Or.inr ⟨wy_pr rfl, hmn⟩), trivial⟩ trivial (fun _ _ q => q) (hcal) (fun oq14 Sq14 hp15 q14 => ?_)
              rcases q14 with ⟨rfl, hz14⟩
              show wJ _ _ _ _ _ _ _ _ _ _
              refine wa_goto ⟨_, rfl⟩ ?_
              refine wa_aload_n (n := 0) rfl ?_
              refine wb_gfi 226 rfl (wy_pr rfl) wt_226 wf_8_16 (v := (Sq14 226 16)) rfl (fun r16 => ?_)
              refine wa_bipush (w_rg2 (by omega) (by omega)) ?_
              refine wa_icmpne (w_rg0 (by omega) (by omega)) (w_rg0 (by omega) (by omega)) ⟨_, rfl⟩ (fun c17 => ?_) (fun c17 => ?_)
              · skip
                refine wa_aload_n (n := 0) rfl ?_
                refine wb_gfi 226 rfl (wy_pr rfl) wt_226 wf_8_16 (v := (Sq14 226 16)) rfl (fun r18 => ?_)
                refine wa_ifeq (w_rg0 (by omega) (by omega)) ⟨_, rfl⟩ (fun c19 => ?_) (fun c19 => ?_)
                · skip
                  refine wa_iconst ?_
                  refine wa_zreturn rfl (Or.inr rfl) ?_
                  exact ⟨_, hz14, Or.inl ⟨by omega, rfl, rfl⟩⟩
                · skip
                  refine wa_aload_n (n := 0) rfl ?_
                  refine wa_iconst ?_
                  refine wa_aload_n (n := 0) rfl ?_
                  refine wb_gfi 226 rfl (wy_pr rfl) wt_226 wf_8_16 (v := (Sq14 226 16)) rfl (fun r20 => ?_)
                  refine wa_i2l (w_rg0 (by omega) (by omega)) ?_
                  refine wa_cv 226 rfl (wy_pr rfl) wt_226 (M2 := mS [228, 229]) rfl at_XK_raise ⟨_, rfl⟩ rfl rfl ⟨trivial, trivial, trivial, (Or.inr ⟨wy_pr rfl, mS_no rfl⟩), trivial⟩ trivial (fun _ _ q => mS_sub hml q) (rq_226 (hR _ hz14 (by omega) (by omega)) ⟨by omega, by omega⟩ ⟨by omega, by omega⟩) (fun oq21 Sq21 hp22 q21 => ?_)
                  rcases q21 with ⟨rfl, rs21⟩
                  show wJ _ _ _ _ _ _ _ _ _ _
                  refine wa_fall ⟨_, rfl⟩ ?_
                  refine wa_iconst ?_
                  refine wa_zreturn rfl (Or.inr rfl) ?_
                  exact ⟨_, hz14, Or.inr (Or.inr ⟨by omega, by omega, rfl, rs21⟩)⟩
              · skip
                refine wa_aload_n (n := 0) rfl ?_
                refine wa_iconst ?_
                refine wb_pfi 226 rfl (wy_pr rfl) wt_226 wf_8_13 (n := 13) rfl ⟨(by omega), (by omega)⟩ ?_
                refine wa_iconst ?_
                refine wa_zreturn rfl (Or.inl rfl) ?_
                exact ⟨_, hz14, Or.inr (Or.inl ⟨by omega, rfl, rfl⟩)⟩
          · skip
            exact absurd c12 (by omega)
      refine wa_aload_n (n := 0) rfl ?_
      refine wb_gf4 226 rfl (wy_pr rfl) wt_226 wf_8_3 (v := 227) wl_226_3 ?_
      refine wb_gfi 227 rfl (wy_pr rfl) wt_227 wf_7_2 (v := h) ((w_up_slot (by decide)).trans (bh)) (fun r23 => ?_)
      refine wa_sipush (by omega) ?_
      refine wa_icmplt (w_rg0 (by omega) (by omega)) (w_rg0 (by omega) (by omega)) ⟨_, rfl⟩ (fun c24 => ?_) (fun c24 => ?_)
      · skip
        exact key
      · skip
        refine wa_iload_n (n := 2) rfl ?_
        refine wa_iload_n (n := 3) rfl ?_
        refine wa_cs (M2 := mS ml) rfl at_XK_pushes ⟨_, rfl⟩ rfl rfl ⟨trivial, trivial, trivial, (Or.inr ⟨wy_pr rfl, hmn⟩), trivial⟩ trivial (fun _ _ q => q) ?_ (fun _ _ _ q => q)
        refine wa_iload_n (n := 0) rfl ?_
        refine wa_ifeq (w_rg0 (by omega) (by omega)) ⟨_, rfl⟩ (fun c25 => ?_) (fun c25 => ?_)
        · skip
          exact absurd c25 (by omega)
        · skip
          refine wa_iload_n (n := 0) rfl ?_
          refine wa_iconst ?_
          refine wa_icmpeq (w_rg0 (by omega) (by omega)) (w_rg0 (by omega) (by omega)) ⟨_, rfl⟩ (fun c26 => ?_) (fun c26 => ?_)
          · skip
            exact absurd c26 (by omega)
          · skip
            refine wa_iload_n (n := 0) rfl ?_
            refine wa_iconst ?_
            refine wa_icmpeq (w_rg0 (by omega) (by omega)) (w_rg0 (by omega) (by omega)) ⟨_, rfl⟩ (fun c27 => ?_) (fun c27 => ?_)
            · skip
              exact absurd c27 (by omega)
            · skip
              refine wa_iload_n (n := 0) rfl ?_
              refine wa_bipush (w_rg2 (by omega) (by omega)) ?_
              refine wa_icmpeq (w_rg0 (by omega) (by omega)) (w_rg0 (by omega) (by omega)) ⟨_, rfl⟩ (fun c28 => ?_) (fun c28 => ?_)
              · skip
                exact absurd c28 (by omega)
              · skip
                refine wa_iload_n (n := 0) rfl ?_
                refine wa_bipush (w_rg2 (by omega) (by omega)) ?_
                refine wa_icmpeq (w_rg0 (by omega) (by omega)) (w_rg0 (by omega) (by omega)) ⟨_, rfl⟩ (fun c29 => ?_) (fun c29 => ?_)
                · skip
                  exact absurd c29 (by omega)
                · skip
                  refine wa_iload_n (n := 0) rfl ?_
                  refine wa_bipush (w_rg2 (by omega) (by omega)) ?_
                  refine wa_icmpeq (w_rg0 (by omega) (by omega)) (w_rg0 (by omega) (by omega)) ⟨_, rfl⟩ (fun c30 => ?_) (fun c30 => ?_)
                  · skip
                    exact absurd c30 (by omega)
                  · skip
                    refine wa_iload_n (n := 0) rfl ?_
                    refine wa_bipush (w_rg2 (by omega) (by omega)) ?_
                    refine wa_icmpeq (w_rg0 (by omega) (by omega)) (w_rg0 (by omega) (by omega)) ⟨_, rfl⟩ (fun c31 => ?_) (fun c31 => ?_)
                    · skip
                      exact absurd c31 (by omega)
                    · skip
                      refine wa_iload_n (n := 0) rfl ?_
                      refine wa_bipush (w_rg2 (by omega) (by omega)) ?_
                      refine wa_icmpne (w_rg0 (by omega) (by omega)) (w_rg0 (by omega) (by omega)) ⟨_, rfl⟩ (fun c32 => ?_) (fun c32 => ?_)
                      · skip
                        refine wa_iconst ?_
                        refine wa_fall ⟨_, rfl⟩ ?_
                        refine wa_zreturn rfl (Or.inl rfl) ?_
                        show wJ _ _ _ _ _ _ _ _ _ _
                        refine wa_ifeq (w_rg0 (by omega) (by omega)) ⟨_, rfl⟩ (fun c33 => ?_) (fun c33 => ?_)
                        · skip
                          exact key
                        · skip
                          exact absurd c33 (by omega)
                      · skip
                        exact absurd c32 (by omega)
    · skip
      exact absurd c10 (by omega)
  · skip
    exfalso; omega
theorem xpe_226 {c g p e h a b oq : Int} (hB : xB 226 c g p e h S) (ho : S 31 (e + p) = oq) (ha : S 32 (e + p) = a) (hb : S 33 (e + p) = b) (ho1 : (oq = 0 ∨ oq = 1 ∨ oq = 3 ∨ oq = 6 ∨ oq = 24 ∨ oq = 26 ∨ oq = 33 ∨ (oq = 25 ∧ a = 0))) (hl : 2000 ≤ h) (hR : xR 226 (w_up (w_up S 226 16 0) 226 16 11)) : wJ (pe_GA xs) wY0 (mS [228, 229]) (d + 12) t_XK_step ((pe_at t_XK_step.bl 0).getD (0, [])).2 [(0, (2, 226))] [] S (fun o Z2 => o = .inl (some (0, 1)) ∧ rsQ 226 2 11 (w_up (w_up S 226 16 0) 226 16 11) Z2) := by
  obtain ⟨⟨hC, hI⟩, ⟨bc, bc0, bc1⟩, ⟨bg, bg0, bg1⟩, ⟨bp, bp0, bp1⟩, ⟨be, be0, be1, be2, be3, be4⟩, ⟨bh, bh0, bh1, bh2⟩, bl1, bl2, bl3⟩ := hB
  refine wa_aload_n (n := 0) rfl ?_
  refine wb_gfi 226 rfl (wy_pr rfl) wt_226 wf_8_4 (v := c) (bc) (fun r1 => ?_)
  refine wa_iconst ?_
  refine wa_icmpge (w_rg0 (by omega) (by omega)) (w_rg0 (by omega) (by omega)) ⟨_, rfl⟩ (fun c2 => ?_) (fun c2 => ?_)
  · skip
    refine wa_aload_n (n := 0) rfl ?_
    refine wa_iconst ?_
    refine wb_pfi 226 rfl (wy_pr rfl) wt_226 wf_8_16 (n := 16) rfl ⟨(by omega), (by omega)⟩ ?_
    refine wa_aload_n (n := 0) rfl ?_
    refine wb_gf4 226 rfl (wy_pr rfl) wt_226 wf_8_1 (v := 19) wl_226_1 ?_
    refine wb_gf4 19 rfl (wy_pr rfl) wt_19 wf_0_0 (v := 20) wl_19_0 ?_
    refine wa_bipush (w_rg2 (by omega) (by omega)) ?_
    refine wb_aald5 20 6 rfl rfl (wy_pr rfl) wt_20 (by rw [show _ = _ from ((w_up_slot (by decide)).trans ((cl_20 hC)))]; omega) wl_20_6 ?_
    refine wa_aload_n (n := 0) rfl ?_
    refine wb_gf4 226 rfl (wy_pr rfl) wt_226 wf_8_5 (v := 230) wl_226_5 ?_
    refine wa_aload_n (n := 0) rfl ?_
    refine wb_gfi 226 rfl (wy_pr rfl) wt_226 wf_8_4 (v := c) ((w_up_at (by decide)).trans (bc)) (fun r3 => ?_)
    refine wa_iconst ?_
    refine wa_isub ?_
    refine wb_iald 230 rfl (wy_pr rfl) wt_230 (n := 200) ((w_up_slot (by decide)).trans ((cl_230 hC))) (by omega) (by omega) (v := g) ((w_up_slot (by decide)).trans (bg)) (fun r4 => ?_)
    refine wb_iald 27 rfl (wy_pr rfl) wt_27 (n := 400) ((w_up_slot (by decide)).trans ((cl_27 hC))) (by omega) (by omega) (v := e) ((w_up_slot (by decide)).trans (be)) (fun r5 => ?_)
    refine wa_aload_n (n := 0) rfl ?_
    refine wb_gf4 226 rfl (wy_pr rfl) wt_226 wf_8_6 (v := 231) wl_226_6 ?_
    refine wa_aload_n (n := 0) rfl ?_
    refine wb_gfi 226 rfl (wy_pr rfl) wt_226 wf_8_4 (v := c) ((w_up_at (by decide)).trans (bc)) (fun r6 => ?_)
    refine wa_iconst ?_
    refine wa_isub ?_
    refine wb_iald 231 rfl (wy_pr rfl) wt_231 (n := 200) ((w_up_slot (by decide)).trans ((cl_231 hC))) (by omega) (by omega) (v := p) ((w_up_slot (by decide)).trans (bp)) (fun r7 => ?_)
    refine wa_iadd ?_
    refine wa_istore_n (n := 1) rfl ?_
    refine wa_aload_n (n := 0) rfl ?_
    refine wb_gf4 226 rfl (wy_pr rfl) wt_226 wf_8_1 (v := 19) wl_226_1 ?_
    refine wb_gf4 19 rfl (wy_pr rfl) wt_19 wf_0_4 (v := 31) wl_19_4 ?_
    refine wa_iload_n (n := 1) rfl ?_
    refine wb_iald 31 rfl (wy_pr rfl) wt_31 (n := (S 31 (-1))) ((w_up_slot (by decide)).trans (rfl)) (by omega) (by omega) (v := oq) ((w_up_slot (by decide)).trans (ho)) (fun r8 => ?_)
    refine wa_istore_n (n := 2) rfl ?_
    refine wa_aload_n (n := 0) rfl ?_
    refine wb_gf4 226 rfl (wy_pr rfl) wt_226 wf_8_1 (v := 19) wl_226_1 ?_
    refine wb_gf4 19 rfl (wy_pr rfl) wt_19 wf_0_5 (v := 32) wl_19_5 ?_
    refine wa_iload_n (n := 1) rfl ?_
    refine wb_iald 32 rfl (wy_pr rfl) wt_32 (n := (S 31 (-1))) ((w_up_slot (by decide)).trans (be2)) (by omega) (by omega) (v := a) ((w_up_slot (by decide)).trans (ha)) (fun r9 => ?_)
    refine wa_istore_n (n := 3) rfl ?_
    refine wa_iload_n (n := 2) rfl ?_
    refine wa_bipush (w_rg2 (by omega) (by omega)) ?_
    refine wa_icmpne (w_rg0 (by omega) (by omega)) (w_rg0 (by omega) (by omega)) ⟨_, rfl⟩ (fun c10 => ?_) (fun c10 => ?_)
    · skip
      refine wa_aload_n (n := 0) rfl ?_
      refine wb_gf4 226 rfl (wy_pr rfl) wt_226 wf_8_3 (v := 227) wl_226_3 ?_
      refine wb_gfi 227 rfl (wy_pr rfl) wt_227 wf_7_2 (v := h) ((w_up_slot (by decide)).trans (bh)) (fun r11 => ?_)
      refine wa_sipush (by omega) ?_
      refine wa_icmplt (w_rg0 (by omega) (by omega)) (w_rg0 (by omega) (by omega)) ⟨_, rfl⟩ (fun c12 => ?_) (fun c12 => ?_)
      · skip
        exact absurd c12 (by omega)
      · skip
        refine wa_iload_n (n := 2) rfl ?_
        refine wa_iload_n (n := 3) rfl ?_
        refine wa_cs (M2 := mS [228, 229]) rfl at_XK_pushes ⟨_, rfl⟩ rfl rfl ⟨trivial, trivial, trivial, (Or.inr ⟨wy_pr rfl, mS_no rfl⟩), trivial⟩ trivial (fun _ _ q => q) ?_ (fun _ _ _ q => q)
        refine wa_iload_n (n := 0) rfl ?_
        refine wa_ifeq (w_rg0 (by omega) (by omega)) ⟨_, rfl⟩ (fun c13 => ?_) (fun c13 => ?_)
        · skip
          refine wa_iconst ?_
          refine wa_goto ⟨_, rfl⟩ ?_
          refine wa_zreturn rfl (Or.inr rfl) ?_
          show wJ _ _ _ _ _ _ _ _ _ _
          refine wa_ifeq (w_rg0 (by omega) (by omega)) ⟨_, rfl⟩ (fun c14 => ?_) (fun c14 => ?_)
          · skip
            exact absurd c14 (by omega)
          · skip
            refine wa_aload_n (n := 0) rfl ?_
            refine wa_bipush (w_rg2 (by omega) (by omega)) ?_
            refine wb_pfi 226 rfl (wy_pr rfl) wt_226 wf_8_16 (n := 16) rfl ⟨(by omega), (by omega)⟩ ?_
            refine wa_goto ⟨_, rfl⟩ ?_
            refine wa_aload_n (n := 0) rfl ?_
            refine wb_gfi 226 rfl (wy_pr rfl) wt_226 wf_8_16 (v := 11) (w_up_same _ _ _ _) (fun r15 => ?_)
            refine wa_bipush (w_rg2 (by omega) (by omega)) ?_
            refine wa_icmpne (w_rg0 (by omega) (by omega)) (w_rg0 (by omega) (by omega)) ⟨_, rfl⟩ (fun c16 => ?_) (fun c16 => ?_)
            · skip
              refine wa_aload_n (n := 0) rfl ?_
              refine wb_gfi 226 rfl (wy_pr rfl) wt_226 wf_8_16 (v := 11) (w_up_same _ _ _ _) (fun r17 => ?_)
              refine wa_ifeq (w_rg0 (by omega) (by omega)) ⟨_, rfl⟩ (fun c18 => ?_) (fun c18 => ?_)
              · skip
                exact absurd c18 (by omega)
              · skip
                refine wa_aload_n (n := 0) rfl ?_
                refine wa_iconst ?_
                refine wa_aload_n (n := 0) rfl ?_
                refine wb_gfi 226 rfl (wy_pr rfl) wt_226 wf_8_16 (v := 11) (w_up_same _ _ _ _) (fun r19 => ?_)
                refine wa_i2l (w_rg0 (by omega) (by omega)) ?_
                refine wa_cv 226 rfl (wy_pr rfl) wt_226 (M2 := mS [228, 229]) rfl at_XK_raise ⟨_, rfl⟩ rfl rfl ⟨trivial, trivial, trivial, (Or.inr ⟨wy_pr rfl, mS_no rfl⟩), trivial⟩ trivial (fun _ _ q => q) (rq_226 hR ⟨by omega, by omega⟩ ⟨by omega, by omega⟩) (fun oq20 Sq20 hp21 q20 => ?_)
                rcases q20 with ⟨rfl, rs20⟩
                show wJ _ _ _ _ _ _ _ _ _ _
                refine wa_fall ⟨_, rfl⟩ ?_
                refine wa_iconst ?_
                refine wa_zreturn rfl (Or.inr rfl) ?_
                exact ⟨rfl, rs20⟩
            · skip
              exact absurd c16 (by omega)
        · skip
          refine wa_iload_n (n := 0) rfl ?_
          refine wa_iconst ?_
          refine wa_icmpeq (w_rg0 (by omega) (by omega)) (w_rg0 (by omega) (by omega)) ⟨_, rfl⟩ (fun c22 => ?_) (fun c22 => ?_)
          · skip
            refine wa_iconst ?_
            refine wa_goto ⟨_, rfl⟩ ?_
            refine wa_zreturn rfl (Or.inr rfl) ?_
            show wJ _ _ _ _ _ _ _ _ _ _
            refine wa_ifeq (w_rg0 (by omega) (by omega)) ⟨_, rfl⟩ (fun c23 => ?_) (fun c23 => ?_)
            · skip
              exact absurd c23 (by omega)
            · skip
              refine wa_aload_n (n := 0) rfl ?_
              refine wa_bipush (w_rg2 (by omega) (by omega)) ?_
              refine wb_pfi 226 rfl (wy_pr rfl) wt_226 wf_8_16 (n := 16) rfl ⟨(by omega), (by omega)⟩ ?_
              refine wa_goto ⟨_, rfl⟩ ?_
              refine wa_aload_n (n := 0) rfl ?_
              refine wb_gfi 226 rfl (wy_pr rfl) wt_226 wf_8_16 (v := 11) (w_up_same _ _ _ _) (fun r24 => ?_)
              refine wa_bipush (w_rg2 (by omega) (by omega)) ?_
              refine wa_icmpne (w_rg0 (by omega) (by omega)) (w_rg0 (by omega) (by omega)) ⟨_, rfl⟩ (fun c25 => ?_) (fun c25 => ?_)
              · skip
                refine wa_aload_n (n := 0) rfl ?_
                refine wb_gfi 226 rfl (wy_pr rfl) wt_226 wf_8_16 (v := 11) (w_up_same _ _ _ _) (fun r26 => ?_)
                refine wa_ifeq (w_rg0 (by omega) (by omega)) ⟨_, rfl⟩ (fun c27 => ?_) (fun c27 => ?_)
                · skip
                  exact absurd c27 (by omega)
                · skip
                  refine wa_aload_n (n := 0) rfl ?_
                  refine wa_iconst ?_
                  refine wa_aload_n (n := 0) rfl ?_
                  refine wb_gfi 226 rfl (wy_pr rfl) wt_226 wf_8_16 (v := 11) (w_up_same _ _ _ _) (fun r28 => ?_)
                  refine wa_i2l (w_rg0 (by omega) (by omega)) ?_
                  refine wa_cv 226 rfl (wy_pr rfl) wt_226 (M2 := mS [228, 229]) rfl at_XK_raise ⟨_, rfl⟩ rfl rfl ⟨trivial, trivial, trivial, (Or.inr ⟨wy_pr rfl, mS_no rfl⟩), trivial⟩ trivial (fun _ _ q => q) (rq_226 hR ⟨by omega, by omega⟩ ⟨by omega, by omega⟩) (fun oq29 Sq29 hp30 q29 => ?_)
                  rcases q29 with ⟨rfl, rs29⟩
                  show wJ _ _ _ _ _ _ _ _ _ _
                  refine wa_fall ⟨_, rfl⟩ ?_
                  refine wa_iconst ?_
                  refine wa_zreturn rfl (Or.inr rfl) ?_
                  exact ⟨rfl, rs29⟩
              · skip
                exact absurd c25 (by omega)
          · skip
            refine wa_iload_n (n := 0) rfl ?_
            refine wa_iconst ?_
            refine wa_icmpeq (w_rg0 (by omega) (by omega)) (w_rg0 (by omega) (by omega)) ⟨_, rfl⟩ (fun c31 => ?_) (fun c31 => ?_)
            · skip
              refine wa_iconst ?_
              refine wa_goto ⟨_, rfl⟩ ?_
              refine wa_zreturn rfl (Or.inr rfl) ?_
              show wJ _ _ _ _ _ _ _ _ _ _
              refine wa_ifeq (w_rg0 (by omega) (by omega)) ⟨_, rfl⟩ (fun c32 => ?_) (fun c32 => ?_)
              · skip
                exact absurd c32 (by omega)
              · skip
                refine wa_aload_n (n := 0) rfl ?_
                refine wa_bipush (w_rg2 (by omega) (by omega)) ?_
                refine wb_pfi 226 rfl (wy_pr rfl) wt_226 wf_8_16 (n := 16) rfl ⟨(by omega), (by omega)⟩ ?_
                refine wa_goto ⟨_, rfl⟩ ?_
                refine wa_aload_n (n := 0) rfl ?_
                refine wb_gfi 226 rfl (wy_pr rfl) wt_226 wf_8_16 (v := 11) (w_up_same _ _ _ _) (fun r33 => ?_)
                refine wa_bipush (w_rg2 (by omega) (by omega)) ?_
                refine wa_icmpne (w_rg0 (by omega) (by omega)) (w_rg0 (by omega) (by omega)) ⟨_, rfl⟩ (fun c34 => ?_) (fun c34 => ?_)
                · skip
                  refine wa_aload_n (n := 0) rfl ?_
                  refine wb_gfi 226 rfl (wy_pr rfl) wt_226 wf_8_16 (v := 11) (w_up_same _ _ _ _) (fun r35 => ?_)
                  refine wa_ifeq (w_rg0 (by omega) (by omega)) ⟨_, rfl⟩ (fun c36 => ?_) (fun c36 => ?_)
                  · skip
                    exact absurd c36 (by omega)
                  · skip
                    refine wa_aload_n (n := 0) rfl ?_
                    refine wa_iconst ?_
                    refine wa_aload_n (n := 0) rfl ?_
                    refine wb_gfi 226 rfl (wy_pr rfl) wt_226 wf_8_16 (v := 11) (w_up_same _ _ _ _) (fun r37 => ?_)
                    refine wa_i2l (w_rg0 (by omega) (by omega)) ?_
                    refine wa_cv 226 rfl (wy_pr rfl) wt_226 (M2 := mS [228, 229]) rfl at_XK_raise ⟨_, rfl⟩ rfl rfl ⟨trivial, trivial, trivial, (Or.inr ⟨wy_pr rfl, mS_no rfl⟩), trivial⟩ trivial (fun _ _ q => q) (rq_226 hR ⟨by omega, by omega⟩ ⟨by omega, by omega⟩) (fun oq38 Sq38 hp39 q38 => ?_)
                    rcases q38 with ⟨rfl, rs38⟩
                    show wJ _ _ _ _ _ _ _ _ _ _
                    refine wa_fall ⟨_, rfl⟩ ?_
                    refine wa_iconst ?_
                    refine wa_zreturn rfl (Or.inr rfl) ?_
                    exact ⟨rfl, rs38⟩
                · skip
                  exact absurd c34 (by omega)
            · skip
              refine wa_iload_n (n := 0) rfl ?_
              refine wa_bipush (w_rg2 (by omega) (by omega)) ?_
              refine wa_icmpeq (w_rg0 (by omega) (by omega)) (w_rg0 (by omega) (by omega)) ⟨_, rfl⟩ (fun c40 => ?_) (fun c40 => ?_)
              · skip
                refine wa_iconst ?_
                refine wa_goto ⟨_, rfl⟩ ?_
                refine wa_zreturn rfl (Or.inr rfl) ?_
                show wJ _ _ _ _ _ _ _ _ _ _
                refine wa_ifeq (w_rg0 (by omega) (by omega)) ⟨_, rfl⟩ (fun c41 => ?_) (fun c41 => ?_)
                · skip
                  exact absurd c41 (by omega)
                · skip
                  refine wa_aload_n (n := 0) rfl ?_
                  refine wa_bipush (w_rg2 (by omega) (by omega)) ?_
                  refine wb_pfi 226 rfl (wy_pr rfl) wt_226 wf_8_16 (n := 16) rfl ⟨(by omega), (by omega)⟩ ?_
                  refine wa_goto ⟨_, rfl⟩ ?_
                  refine wa_aload_n (n := 0) rfl ?_
                  refine wb_gfi 226 rfl (wy_pr rfl) wt_226 wf_8_16 (v := 11) (w_up_same _ _ _ _) (fun r42 => ?_)
                  refine wa_bipush (w_rg2 (by omega) (by omega)) ?_
                  refine wa_icmpne (w_rg0 (by omega) (by omega)) (w_rg0 (by omega) (by omega)) ⟨_, rfl⟩ (fun c43 => ?_) (fun c43 => ?_)
                  · skip
                    refine wa_aload_n (n := 0) rfl ?_
                    refine wb_gfi 226 rfl (wy_pr rfl) wt_226 wf_8_16 (v := 11) (w_up_same _ _ _ _) (fun r44 => ?_)
                    refine wa_ifeq (w_rg0 (by omega) (by omega)) ⟨_, rfl⟩ (fun c45 => ?_) (fun c45 => ?_)
                    · skip
                      exact absurd c45 (by omega)
                    · skip
                      refine wa_aload_n (n := 0) rfl ?_
                      refine wa_iconst ?_
                      refine wa_aload_n (n := 0) rfl ?_
                      refine wb_gfi 226 rfl (wy_pr rfl) wt_226 wf_8_16 (v := 11) (w_up_same _ _ _ _) (fun r46 => ?_)
                      refine wa_i2l (w_rg0 (by omega) (by omega)) ?_
                      refine wa_cv 226 rfl (wy_pr rfl) wt_226 (M2 := mS [228, 229]) rfl at_XK_raise ⟨_, rfl⟩ rfl rfl ⟨trivial, trivial, trivial, (Or.inr ⟨wy_pr rfl, mS_no rfl⟩), trivial⟩ trivial (fun _ _ q => q) (rq_226 hR ⟨by omega, by omega⟩ ⟨by omega, by omega⟩) (fun oq47 Sq47 hp48 q47 => ?_)
                      rcases q47 with ⟨rfl, rs47⟩
                      show wJ _ _ _ _ _ _ _ _ _ _
                      refine wa_fall ⟨_, rfl⟩ ?_
                      refine wa_iconst ?_
                      refine wa_zreturn rfl (Or.inr rfl) ?_
                      exact ⟨rfl, rs47⟩
                  · skip
                    exact absurd c43 (by omega)
              · skip
                refine wa_iload_n (n := 0) rfl ?_
                refine wa_bipush (w_rg2 (by omega) (by omega)) ?_
                refine wa_icmpeq (w_rg0 (by omega) (by omega)) (w_rg0 (by omega) (by omega)) ⟨_, rfl⟩ (fun c49 => ?_) (fun c49 => ?_)
                · skip
                  refine wa_iconst ?_
                  refine wa_goto ⟨_, rfl⟩ ?_
                  refine wa_zreturn rfl (Or.inr rfl) ?_
                  show wJ _ _ _ _ _ _ _ _ _ _
                  refine wa_ifeq (w_rg0 (by omega) (by omega)) ⟨_, rfl⟩ (fun c50 => ?_) (fun c50 => ?_)
                  · skip
                    exact absurd c50 (by omega)
                  · skip
                    refine wa_aload_n (n := 0) rfl ?_
                    refine wa_bipush (w_rg2 (by omega) (by omega)) ?_
                    refine wb_pfi 226 rfl (wy_pr rfl) wt_226 wf_8_16 (n := 16) rfl ⟨(by omega), (by omega)⟩ ?_
                    refine wa_goto ⟨_, rfl⟩ ?_
                    refine wa_aload_n (n := 0) rfl ?_
                    refine wb_gfi 226 rfl (wy_pr rfl) wt_226 wf_8_16 (v := 11) (w_up_same _ _ _ _) (fun r51 => ?_)
                    refine wa_bipush (w_rg2 (by omega) (by omega)) ?_
                    refine wa_icmpne (w_rg0 (by omega) (by omega)) (w_rg0 (by omega) (by omega)) ⟨_, rfl⟩ (fun c52 => ?_) (fun c52 => ?_)
                    · skip
                      refine wa_aload_n (n := 0) rfl ?_
                      refine wb_gfi 226 rfl (wy_pr rfl) wt_226 wf_8_16 (v := 11) (w_up_same _ _ _ _) (fun r53 => ?_)
                      refine wa_ifeq (w_rg0 (by omega) (by omega)) ⟨_, rfl⟩ (fun c54 => ?_) (fun c54 => ?_)
                      · skip
                        exact absurd c54 (by omega)
                      · skip
                        refine wa_aload_n (n := 0) rfl ?_
                        refine wa_iconst ?_
                        refine wa_aload_n (n := 0) rfl ?_
                        refine wb_gfi 226 rfl (wy_pr rfl) wt_226 wf_8_16 (v := 11) (w_up_same _ _ _ _) (fun r55 => ?_)
                        refine wa_i2l (w_rg0 (by omega) (by omega)) ?_
                        refine wa_cv 226 rfl (wy_pr rfl) wt_226 (M2 := mS [228, 229]) rfl at_XK_raise ⟨_, rfl⟩ rfl rfl ⟨trivial, trivial, trivial, (Or.inr ⟨wy_pr rfl, mS_no rfl⟩), trivial⟩ trivial (fun _ _ q => q) (rq_226 hR ⟨by omega, by omega⟩ ⟨by omega, by omega⟩) (fun oq56 Sq56 hp57 q56 => ?_)
                        rcases q56 with ⟨rfl, rs56⟩
                        show wJ _ _ _ _ _ _ _ _ _ _
                        refine wa_fall ⟨_, rfl⟩ ?_
                        refine wa_iconst ?_
                        refine wa_zreturn rfl (Or.inr rfl) ?_
                        exact ⟨rfl, rs56⟩
                    · skip
                      exact absurd c52 (by omega)
                · skip
                  refine wa_iload_n (n := 0) rfl ?_
                  refine wa_bipush (w_rg2 (by omega) (by omega)) ?_
                  refine wa_icmpeq (w_rg0 (by omega) (by omega)) (w_rg0 (by omega) (by omega)) ⟨_, rfl⟩ (fun c58 => ?_) (fun c58 => ?_)
                  · skip
                    refine wa_iconst ?_
                    refine wa_goto ⟨_, rfl⟩ ?_
                    refine wa_zreturn rfl (Or.inr rfl) ?_
                    show wJ _ _ _ _ _ _ _ _ _ _
                    refine wa_ifeq (w_rg0 (by omega) (by omega)) ⟨_, rfl⟩ (fun c59 => ?_) (fun c59 => ?_)
                    · skip
                      exact absurd c59 (by omega)
                    · skip
                      refine wa_aload_n (n := 0) rfl ?_
                      refine wa_bipush (w_rg2 (by omega) (by omega)) ?_
                      refine wb_pfi 226 rfl (wy_pr rfl) wt_226 wf_8_16 (n := 16) rfl ⟨(by omega), (by omega)⟩ ?_
                      refine wa_goto ⟨_, rfl⟩ ?_
                      refine wa_aload_n (n := 0) rfl ?_
                      refine wb_gfi 226 rfl (wy_pr rfl) wt_226 wf_8_16 (v := 11) (w_up_same _ _ _ _) (fun r60 => ?_)
                      refine wa_bipush (w_rg2 (by omega) (by omega)) ?_
                      refine wa_icmpne (w_rg0 (by omega) (by omega)) (w_rg0 (by omega) (by omega)) ⟨_, rfl⟩ (fun c61 => ?_) (fun c61 => ?_)
                      · skip
                        refine wa_aload_n (n := 0) rfl ?_
                        refine wb_gfi 226 rfl (wy_pr rfl) wt_226 wf_8_16 (v := 11) (w_up_same _ _ _ _) (fun r62 => ?_)
                        refine wa_ifeq (w_rg0 (by omega) (by omega)) ⟨_, rfl⟩ (fun c63 => ?_) (fun c63 => ?_)
                        · skip
                          exact absurd c63 (by omega)
                        · skip
                          refine wa_aload_n (n := 0) rfl ?_
                          refine wa_iconst ?_
                          refine wa_aload_n (n := 0) rfl ?_
                          refine wb_gfi 226 rfl (wy_pr rfl) wt_226 wf_8_16 (v := 11) (w_up_same _ _ _ _) (fun r64 => ?_)
                          refine wa_i2l (w_rg0 (by omega) (by omega)) ?_
                          refine wa_cv 226 rfl (wy_pr rfl) wt_226 (M2 := mS [228, 229]) rfl at_XK_raise ⟨_, rfl⟩ rfl rfl ⟨trivial, trivial, trivial, (Or.inr ⟨wy_pr rfl, mS_no rfl⟩), trivial⟩ trivial (fun _ _ q => q) (rq_226 hR ⟨by omega, by omega⟩ ⟨by omega, by omega⟩) (fun oq65 Sq65 hp66 q65 => ?_)
                          rcases q65 with ⟨rfl, rs65⟩
                          show wJ _ _ _ _ _ _ _ _ _ _
                          refine wa_fall ⟨_, rfl⟩ ?_
                          refine wa_iconst ?_
                          refine wa_zreturn rfl (Or.inr rfl) ?_
                          exact ⟨rfl, rs65⟩
                      · skip
                        exact absurd c61 (by omega)
                  · skip
                    refine wa_iload_n (n := 0) rfl ?_
                    refine wa_bipush (w_rg2 (by omega) (by omega)) ?_
                    refine wa_icmpeq (w_rg0 (by omega) (by omega)) (w_rg0 (by omega) (by omega)) ⟨_, rfl⟩ (fun c67 => ?_) (fun c67 => ?_)
                    · skip
                      refine wa_iconst ?_
                      refine wa_goto ⟨_, rfl⟩ ?_
                      refine wa_zreturn rfl (Or.inr rfl) ?_
                      show wJ _ _ _ _ _ _ _ _ _ _
                      refine wa_ifeq (w_rg0 (by omega) (by omega)) ⟨_, rfl⟩ (fun c68 => ?_) (fun c68 => ?_)
                      · skip
                        exact absurd c68 (by omega)
                      · skip
                        refine wa_aload_n (n := 0) rfl ?_
                        refine wa_bipush (w_rg2 (by omega) (by omega)) ?_
                        refine wb_pfi 226 rfl (wy_pr rfl) wt_226 wf_8_16 (n := 16) rfl ⟨(by omega), (by omega)⟩ ?_
                        refine wa_goto ⟨_, rfl⟩ ?_
                        refine wa_aload_n (n := 0) rfl ?_
                        refine wb_gfi 226 rfl (wy_pr rfl) wt_226 wf_8_16 (v := 11) (w_up_same _ _ _ _) (fun r69 => ?_)
                        refine wa_bipush (w_rg2 (by omega) (by omega)) ?_
                        refine wa_icmpne (w_rg0 (by omega) (by omega)) (w_rg0 (by omega) (by omega)) ⟨_, rfl⟩ (fun c70 => ?_) (fun c70 => ?_)
                        · skip
                          refine wa_aload_n (n := 0) rfl ?_
                          refine wb_gfi 226 rfl (wy_pr rfl) wt_226 wf_8_16 (v := 11) (w_up_same _ _ _ _) (fun r71 => ?_)
                          refine wa_ifeq (w_rg0 (by omega) (by omega)) ⟨_, rfl⟩ (fun c72 => ?_) (fun c72 => ?_)
                          · skip
                            exact absurd c72 (by omega)
                          · skip
                            refine wa_aload_n (n := 0) rfl ?_
                            refine wa_iconst ?_
                            refine wa_aload_n (n := 0) rfl ?_
                            refine wb_gfi 226 rfl (wy_pr rfl) wt_226 wf_8_16 (v := 11) (w_up_same _ _ _ _) (fun r73 => ?_)
                            refine wa_i2l (w_rg0 (by omega) (by omega)) ?_
                            refine wa_cv 226 rfl (wy_pr rfl) wt_226 (M2 := mS [228, 229]) rfl at_XK_raise ⟨_, rfl⟩ rfl rfl ⟨trivial, trivial, trivial, (Or.inr ⟨wy_pr rfl, mS_no rfl⟩), trivial⟩ trivial (fun _ _ q => q) (rq_226 hR ⟨by omega, by omega⟩ ⟨by omega, by omega⟩) (fun oq74 Sq74 hp75 q74 => ?_)
                            rcases q74 with ⟨rfl, rs74⟩
                            show wJ _ _ _ _ _ _ _ _ _ _
                            refine wa_fall ⟨_, rfl⟩ ?_
                            refine wa_iconst ?_
                            refine wa_zreturn rfl (Or.inr rfl) ?_
                            exact ⟨rfl, rs74⟩
                        · skip
                          exact absurd c70 (by omega)
                    · skip
                      refine wa_iload_n (n := 0) rfl ?_
                      refine wa_bipush (w_rg2 (by omega) (by omega)) ?_
                      refine wa_icmpne (w_rg0 (by omega) (by omega)) (w_rg0 (by omega) (by omega)) ⟨_, rfl⟩ (fun c76 => ?_) (fun c76 => ?_)
                      · skip
                        exfalso; omega
                      · skip
                        refine wa_iload_n (n := 1) rfl ?_
                        refine wa_ifne (w_rg0 (by omega) (by omega)) ⟨_, rfl⟩ (fun c77 => ?_) (fun c77 => ?_)
                        · skip
                          exfalso; omega
                        · skip
                          refine wa_fall ⟨_, rfl⟩ ?_
                          refine wa_iconst ?_
                          refine wa_goto ⟨_, rfl⟩ ?_
                          refine wa_zreturn rfl (Or.inr rfl) ?_
                          show wJ _ _ _ _ _ _ _ _ _ _
                          refine wa_ifeq (w_rg0 (by omega) (by omega)) ⟨_, rfl⟩ (fun c78 => ?_) (fun c78 => ?_)
                          · skip
                            exact absurd c78 (by omega)
                          · skip
                            refine wa_aload_n (n := 0) rfl ?_
                            refine wa_bipush (w_rg2 (by omega) (by omega)) ?_
                            refine wb_pfi 226 rfl (wy_pr rfl) wt_226 wf_8_16 (n := 16) rfl ⟨(by omega), (by omega)⟩ ?_
                            refine wa_goto ⟨_, rfl⟩ ?_
                            refine wa_aload_n (n := 0) rfl ?_
                            refine wb_gfi 226 rfl (wy_pr rfl) wt_226 wf_8_16 (v := 11) (w_up_same _ _ _ _) (fun r79 => ?_)
                            refine wa_bipush (w_rg2 (by omega) (by omega)) ?_
                            refine wa_icmpne (w_rg0 (by omega) (by omega)) (w_rg0 (by omega) (by omega)) ⟨_, rfl⟩ (fun c80 => ?_) (fun c80 => ?_)
                            · skip
                              refine wa_aload_n (n := 0) rfl ?_
                              refine wb_gfi 226 rfl (wy_pr rfl) wt_226 wf_8_16 (v := 11) (w_up_same _ _ _ _) (fun r81 => ?_)
                              refine wa_ifeq (w_rg0 (by omega) (by omega)) ⟨_, rfl⟩ (fun c82 => ?_) (fun c82 => ?_)
                              · skip
                                exact absurd c82 (by omega)
                              · skip
                                refine wa_aload_n (n := 0) rfl ?_
                                refine wa_iconst ?_
                                refine wa_aload_n (n := 0) rfl ?_
                                refine wb_gfi 226 rfl (wy_pr rfl) wt_226 wf_8_16 (v := 11) (w_up_same _ _ _ _) (fun r83 => ?_)
                                refine wa_i2l (w_rg0 (by omega) (by omega)) ?_
                                refine wa_cv 226 rfl (wy_pr rfl) wt_226 (M2 := mS [228, 229]) rfl at_XK_raise ⟨_, rfl⟩ rfl rfl ⟨trivial, trivial, trivial, (Or.inr ⟨wy_pr rfl, mS_no rfl⟩), trivial⟩ trivial (fun _ _ q => q) (rq_226 hR ⟨by omega, by omega⟩ ⟨by omega, by omega⟩) (fun oq84 Sq84 hp85 q84 => ?_)
                                rcases q84 with ⟨rfl, rs84⟩
                                show wJ _ _ _ _ _ _ _ _ _ _
                                refine wa_fall ⟨_, rfl⟩ ?_
                                refine wa_iconst ?_
                                refine wa_zreturn rfl (Or.inr rfl) ?_
                                exact ⟨rfl, rs84⟩
                            · skip
                              exact absurd c80 (by omega)
    · skip
      exact absurd c10 (by omega)
  · skip
    exfalso; omega
end Wdt
