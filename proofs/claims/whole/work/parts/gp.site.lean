/-! PART gp: a step of the class at a site. -/
section Wgp
variable {xs : List (Nat × List Int32)} {d : Nat} {S Z : wS} {ml : List Nat} {R PA : wS → Prop}
theorem sst_215 (hz : R Z) (hml : ∀ x ∈ [217, 218], x ∈ ml) (hmn : ¬ mS ml 215) (hR : Z 215 16 ≠ 0 → Z 215 16 ≠ 99 → xR 215 Z) : wJ (pe_GA xs) wY0 (mS ml) (d + 12) t_XK_step ((pe_at t_XK_step.bl 11).getD (0, [])).2 [(0, (2, 215))] [] Z (fun o Z2 => ∃ Z : wS, R Z ∧ sR 215 Z o Z2) := by
  refine wa_aload_n (n := 0) rfl ?_
  refine wb_gfi 215 rfl (wy_pr rfl) wt_215 wf_8_16 (v := (Z 215 16)) rfl (fun r1 => ?_)
  refine wa_bipush (w_rg2 (by omega) (by omega)) ?_
  refine wa_icmpne (w_rg0 (by omega) (by omega)) (w_rg0 (by omega) (by omega)) ⟨_, rfl⟩ (fun c2 => ?_) (fun c2 => ?_)
  · skip
    refine wa_aload_n (n := 0) rfl ?_
    refine wb_gfi 215 rfl (wy_pr rfl) wt_215 wf_8_16 (v := (Z 215 16)) rfl (fun r3 => ?_)
    refine wa_ifeq (w_rg0 (by omega) (by omega)) ⟨_, rfl⟩ (fun c4 => ?_) (fun c4 => ?_)
    · skip
      refine wa_iconst ?_
      refine wa_zreturn rfl (Or.inr rfl) ?_
      exact ⟨_, hz, Or.inl ⟨by omega, rfl, rfl⟩⟩
    · skip
      refine wa_aload_n (n := 0) rfl ?_
      refine wa_iconst ?_
      refine wa_aload_n (n := 0) rfl ?_
      refine wb_gfi 215 rfl (wy_pr rfl) wt_215 wf_8_16 (v := (Z 215 16)) rfl (fun r5 => ?_)
      refine wa_i2l (w_rg0 (by omega) (by omega)) ?_
      refine wa_cv 215 rfl (wy_pr rfl) wt_215 (M2 := mS [217, 218]) rfl at_XK_raise ⟨_, rfl⟩ rfl rfl ⟨(Or.inr ⟨wy_pr rfl, mS_no rfl⟩), trivial⟩ trivial (fun _ _ q => mS_sub hml q) (rq_215 (hR (by omega) (by omega)) ⟨by omega, by omega⟩ ⟨by omega, by omega⟩) (fun oq6 Sq6 hp7 q6 => ?_)
      rcases q6 with ⟨rfl, rs6⟩
      show wJ _ _ _ _ _ _ _ _ _ _
      refine wa_fall ⟨_, rfl⟩ ?_
      refine wa_iconst ?_
      refine wa_zreturn rfl (Or.inr rfl) ?_
      exact ⟨_, hz, Or.inr (Or.inr ⟨by omega, by omega, rfl, rs6⟩)⟩
  · skip
    refine wa_aload_n (n := 0) rfl ?_
    refine wa_iconst ?_
    refine wb_pfi 215 rfl (wy_pr rfl) wt_215 wf_8_13 (n := 13) rfl ⟨(by omega), (by omega)⟩ ?_
    refine wa_iconst ?_
    refine wa_zreturn rfl (Or.inl rfl) ?_
    exact ⟨_, hz, Or.inr (Or.inl ⟨by omega, rfl, rfl⟩)⟩
set_option maxHeartbeats 4000000 in
theorem ss_215 {c g p e h a : Int} (hB : xB 215 c g p e h S) (ho : S 31 (e + p) = 27) (ha : S 32 (e + p) = a) (hml : ∀ x ∈ [217, 218], x ∈ ml) (hmn : ¬ mS ml 215) (hmn2 : ¬ mS ml 158) (hA : wJ (pe_GA xs) wY0 (mS ml) (d + 11) t_XL_aim ((pe_at t_XL_aim.bl 0).getD (0, [])).2 [(0, (2, 158)), (1, (2, 215)), (2, (0, a))] [] (w_up S 215 16 0) (fun o Z => o = .inl none ∧ PA Z)) (hP1 : ∀ Z : wS, PA Z → (Z 215 16 ≠ 0 ∧ R Z) ∨ (Z 215 16 = 0 ∧ wJ (pe_GA xs) wY0 (mS ml) (d + 11) t_XL_held ((pe_at t_XL_held.bl 0).getD (0, [])).2 [(0, (2, 158))] [] Z (fun o Y => ∃ y : Int, o = .inl (some (0, y)) ∧ (-2147483648 ≤ y ∧ y ≤ 2147483647) ∧ Y 215 16 = 0 ∧ ((y ≠ -1 ∧ wJ (pe_GA xs) wY0 (mS ml) (d + 11) t_XL_act ((pe_at t_XL_act.bl 0).getD (0, [])).2 [(0, (2, 158)), (1, (0, y))] [] Y (fun o V => o = .inl none ∧ R V)) ∨ (y = -1 ∧ wJ (pe_GA xs) wY0 (mS ml) (d + 11) t_XL_look ((pe_at t_XL_look.bl 0).getD (0, [])).2 [(0, (2, 158))] [] Y (fun o X => ∃ y2 : Int, o = .inl (some (0, y2)) ∧ ((X 215 16 ≠ 0 ∧ R X) ∨ (X 215 16 = 0 ∧ wJ (pe_GA xs) wY0 (mS ml) (d + 11) t_XL_act ((pe_at t_XL_act.bl 0).getD (0, [])).2 [(0, (2, 158)), (1, (0, y2))] [] X (fun o V => o = .inl none ∧ R V))))))))) (hR : ∀ Z : wS, R Z → Z 215 16 ≠ 0 → Z 215 16 ≠ 99 → xR 215 Z) : wJ (pe_GA xs) wY0 (mS ml) (d + 12) t_XK_step ((pe_at t_XK_step.bl 0).getD (0, [])).2 [(0, (2, 215))] [] S (fun o Z2 => ∃ Z : wS, R Z ∧ sR 215 Z o Z2) := by
  obtain ⟨⟨hC, hI⟩, ⟨bc, bc0, bc1⟩, ⟨bg, bg0, bg1⟩, ⟨bp, bp0, bp1⟩, ⟨be, be0, be1, be2, be3, be4⟩, ⟨bh, bh0, bh1, bh2⟩, bl1, bl2, bl3⟩ := hB
  replace bg : S 219 (c - 1) = g := bg
  replace bp : S 220 (c - 1) = p := bp
  replace bh : S 216 2 = h := bh
  refine wa_aload_n (n := 0) rfl ?_
  refine wb_gfi 215 rfl (wy_pr rfl) wt_215 wf_8_4 (v := c) (bc) (fun r1 => ?_)
  refine wa_iconst ?_
  refine wa_icmpge (w_rg0 (by omega) (by omega)) (w_rg0 (by omega) (by omega)) ⟨_, rfl⟩ (fun c2 => ?_) (fun c2 => ?_)
  · skip
    refine wa_aload_n (n := 0) rfl ?_
    refine wa_iconst ?_
    refine wb_pfi 215 rfl (wy_pr rfl) wt_215 wf_8_16 (n := 16) rfl ⟨(by omega), (by omega)⟩ ?_
    refine wa_aload_n (n := 0) rfl ?_
    refine wb_gf4 215 rfl (wy_pr rfl) wt_215 wf_8_1 (v := 19) wl_215_1 ?_
    refine wb_gf4 19 rfl (wy_pr rfl) wt_19 wf_0_0 (v := 20) wl_19_0 ?_
    refine wa_bipush (w_rg2 (by omega) (by omega)) ?_
    refine wb_aald5 20 6 rfl rfl (wy_pr rfl) wt_20 (by rw [show _ = _ from ((w_up_slot (by decide)).trans ((cl_20 hC)))]; omega) wl_20_6 ?_
    refine wa_aload_n (n := 0) rfl ?_
    refine wb_gf4 215 rfl (wy_pr rfl) wt_215 wf_8_5 (v := 219) wl_215_5 ?_
    refine wa_aload_n (n := 0) rfl ?_
    refine wb_gfi 215 rfl (wy_pr rfl) wt_215 wf_8_4 (v := c) ((w_up_at (by decide)).trans (bc)) (fun r3 => ?_)
    refine wa_iconst ?_
    refine wa_isub ?_
    refine wb_iald 219 rfl (wy_pr rfl) wt_219 (n := 200) ((w_up_slot (by decide)).trans ((cl_219 hC))) (by omega) (by omega) (v := g) ((w_up_slot (by decide)).trans (bg)) (fun r4 => ?_)
    refine wb_iald 27 rfl (wy_pr rfl) wt_27 (n := 400) ((w_up_slot (by decide)).trans ((cl_27 hC))) (by omega) (by omega) (v := e) ((w_up_slot (by decide)).trans (be)) (fun r5 => ?_)
    refine wa_aload_n (n := 0) rfl ?_
    refine wb_gf4 215 rfl (wy_pr rfl) wt_215 wf_8_6 (v := 220) wl_215_6 ?_
    refine wa_aload_n (n := 0) rfl ?_
    refine wb_gfi 215 rfl (wy_pr rfl) wt_215 wf_8_4 (v := c) ((w_up_at (by decide)).trans (bc)) (fun r6 => ?_)
    refine wa_iconst ?_
    refine wa_isub ?_
    refine wb_iald 220 rfl (wy_pr rfl) wt_220 (n := 200) ((w_up_slot (by decide)).trans ((cl_220 hC))) (by omega) (by omega) (v := p) ((w_up_slot (by decide)).trans (bp)) (fun r7 => ?_)
    refine wa_iadd ?_
    refine wa_istore_n (n := 1) rfl ?_
    refine wa_aload_n (n := 0) rfl ?_
    refine wb_gf4 215 rfl (wy_pr rfl) wt_215 wf_8_1 (v := 19) wl_215_1 ?_
    refine wb_gf4 19 rfl (wy_pr rfl) wt_19 wf_0_4 (v := 31) wl_19_4 ?_
    refine wa_iload_n (n := 1) rfl ?_
    refine wb_iald 31 rfl (wy_pr rfl) wt_31 (n := (S 31 (-1))) ((w_up_slot (by decide)).trans (rfl)) (by omega) (by omega) (v := 27) ((w_up_slot (by decide)).trans (ho)) (fun r8 => ?_)
    refine wa_istore_n (n := 2) rfl ?_
    refine wa_aload_n (n := 0) rfl ?_
    refine wb_gf4 215 rfl (wy_pr rfl) wt_215 wf_8_1 (v := 19) wl_215_1 ?_
    refine wb_gf4 19 rfl (wy_pr rfl) wt_19 wf_0_5 (v := 32) wl_19_5 ?_
    refine wa_iload_n (n := 1) rfl ?_
    refine wb_iald 32 rfl (wy_pr rfl) wt_32 (n := (S 31 (-1))) ((w_up_slot (by decide)).trans (be2)) (by omega) (by omega) (v := a) ((w_up_slot (by decide)).trans (ha)) (fun r9 => ?_)
    refine wa_istore_n (n := 3) rfl ?_
    refine wa_iload_n (n := 2) rfl ?_
    refine wa_bipush (w_rg2 (by omega) (by omega)) ?_
    refine wa_icmpne (w_rg0 (by omega) (by omega)) (w_rg0 (by omega) (by omega)) ⟨_, rfl⟩ (fun c10 => ?_) (fun c10 => ?_)
    · skip
      exact absurd c10 (by omega)
    · skip
      refine wa_fall ⟨_, rfl⟩ ?_
      refine wa_aload_n (n := 0) rfl ?_
      refine wb_gf4 215 rfl (wy_pr rfl) wt_215 wf_8_2 (v := 158) wl_215_2 ?_
      refine wa_aload_n (n := 0) rfl ?_
      refine wa_iload_n (n := 3) rfl ?_
      refine wa_cv 158 rfl (wy_pr rfl) wt_158 (M2 := mS ml) rfl at_XL_aim ⟨_, rfl⟩ rfl rfl ⟨trivial, trivial, trivial, (Or.inr ⟨wy_pr rfl, hmn⟩), trivial⟩ trivial (fun _ _ q => q) (hA) (fun oq11 Sq11 hp12 q11 => ?_)
      rcases q11 with ⟨rfl, hz11⟩
      show wJ _ _ _ _ _ _ _ _ _ _
      have hz1 := hP1 _ hz11
      refine wa_aload_n (n := 0) rfl ?_
      refine wb_gfi 215 rfl (wy_pr rfl) wt_215 wf_8_16 (v := (Sq11 215 16)) rfl (fun r13 => ?_)
      refine wa_ifne (w_rg0 (by omega) (by omega)) ⟨_, rfl⟩ (fun c14 => ?_) (fun c14 => ?_)
      · skip
        refine wa_iconst ?_
        refine wa_fall ⟨_, rfl⟩ ?_
        refine wa_istore (n := 4) rfl ?_
        refine wa_iload (n := 4) rfl ?_
        refine wa_iconst ?_
        refine wa_icmpne (w_rg0 (by omega) (by omega)) (w_rg0 (by omega) (by omega)) ⟨_, rfl⟩ (fun c15 => ?_) (fun c15 => ?_)
        · skip
          exact absurd c15 (by omega)
        · skip
          refine wa_aload_n (n := 0) rfl ?_
          refine wb_gfi 215 rfl (wy_pr rfl) wt_215 wf_8_16 (v := (Sq11 215 16)) rfl (fun r16 => ?_)
          refine wa_ifne (w_rg0 (by omega) (by omega)) ⟨_, rfl⟩ (fun c17 => ?_) (fun c17 => ?_)
          · skip
            refine wa_aload_n (n := 0) rfl ?_
            refine wb_gfi 215 rfl (wy_pr rfl) wt_215 wf_8_16 (v := (Sq11 215 16)) rfl (fun r18 => ?_)
            refine wa_ifne (w_rg0 (by omega) (by omega)) ⟨_, rfl⟩ (fun c19 => ?_) (fun c19 => ?_)
            · skip
              refine wa_goto ⟨_, rfl⟩ ?_
              exact wJ_S (sst_215 (hz1.resolve_right (fun q => by omega)).2 hml hmn (hR _ (hz1.resolve_right (fun q => by omega)).2)) ⟨rfl, trivial⟩
            · skip
              exact absurd c19 (by omega)
          · skip
            exact absurd c17 (by omega)
      · skip
        refine wa_aload_n (n := 0) rfl ?_
        refine wb_gf4 215 rfl (wy_pr rfl) wt_215 wf_8_2 (v := 158) wl_215_2 ?_
        refine wa_cv 158 rfl (wy_pr rfl) wt_158 (M2 := mS ml) rfl at_XL_held ⟨_, rfl⟩ rfl rfl ⟨trivial, trivial, trivial, (Or.inr ⟨wy_pr rfl, hmn⟩), trivial⟩ trivial (fun _ _ q => q) ((hz1.resolve_left (fun q => by omega)).2) (fun oq20 Sq20 hp21 q20 => ?_)
        rcases q20 with ⟨y, rfl, hyr, hy0, hyq⟩
        show wJ _ _ _ _ _ _ _ _ _ _
        skip
        refine wa_goto ⟨_, rfl⟩ ?_
        refine wa_istore (n := 4) rfl ?_
        refine wa_iload (n := 4) rfl ?_
        refine wa_iconst ?_
        refine wa_icmpne (w_rg0 (by omega) (by omega)) (w_rg0 (by omega) (by omega)) ⟨_, rfl⟩ (fun c22 => ?_) (fun c22 => ?_)
        · skip
          refine wa_aload_n (n := 0) rfl ?_
          refine wb_gfi 215 rfl (wy_pr rfl) wt_215 wf_8_16 (v := 0) (hy0) (fun r23 => ?_)
          refine wa_ifne (w_rg0 (by omega) (by omega)) ⟨_, rfl⟩ (fun c24 => ?_) (fun c24 => ?_)
          · skip
            exact absurd c24 (by omega)
          · skip
            refine wa_aload_n (n := 0) rfl ?_
            refine wb_gf4 215 rfl (wy_pr rfl) wt_215 wf_8_2 (v := 158) wl_215_2 ?_
            refine wa_iload (n := 4) rfl ?_
            refine wa_cv 158 rfl (wy_pr rfl) wt_158 (M2 := mS ml) rfl at_XL_act ⟨_, rfl⟩ rfl rfl ⟨trivial, trivial, trivial, trivial, (Or.inr ⟨wy_pr rfl, hmn⟩), trivial⟩ trivial (fun _ _ q => q) ((hyq.resolve_right (fun q => by omega)).2) (fun oq25 Sq25 hp26 q25 => ?_)
            rcases q25 with ⟨rfl, hact⟩
            show wJ _ _ _ _ _ _ _ _ _ _
            refine wa_fall ⟨_, rfl⟩ ?_
            refine wa_goto ⟨_, rfl⟩ ?_
            exact wJ_S (sst_215 hact hml hmn (hR _ hact)) ⟨rfl, trivial⟩
        · skip
          refine wa_aload_n (n := 0) rfl ?_
          refine wb_gfi 215 rfl (wy_pr rfl) wt_215 wf_8_16 (v := 0) (hy0) (fun r27 => ?_)
          refine wa_ifne (w_rg0 (by omega) (by omega)) ⟨_, rfl⟩ (fun c28 => ?_) (fun c28 => ?_)
          · skip
            exact absurd c28 (by omega)
          · skip
            refine wa_aload_n (n := 0) rfl ?_
            refine wb_gf4 215 rfl (wy_pr rfl) wt_215 wf_8_2 (v := 158) wl_215_2 ?_
            refine wa_cv 158 rfl (wy_pr rfl) wt_158 (M2 := mS ml) rfl at_XL_look ⟨_, rfl⟩ rfl rfl ⟨trivial, trivial, trivial, trivial, (Or.inr ⟨wy_pr rfl, hmn⟩), trivial⟩ trivial (fun _ _ q => q) ((hyq.resolve_left (fun q => by omega)).2) (fun oq29 Sq29 hp30 q29 => ?_)
            rcases q29 with ⟨y2, rfl, hyq2⟩
            show wJ _ _ _ _ _ _ _ _ _ _
            refine wa_istore (n := 4) rfl ?_
            refine wa_fall ⟨_, rfl⟩ ?_
            refine wa_aload_n (n := 0) rfl ?_
            refine wb_gfi 215 rfl (wy_pr rfl) wt_215 wf_8_16 (v := (Sq29 215 16)) rfl (fun r31 => ?_)
            refine wa_ifne (w_rg0 (by omega) (by omega)) ⟨_, rfl⟩ (fun c32 => ?_) (fun c32 => ?_)
            · skip
              refine wa_goto ⟨_, rfl⟩ ?_
              exact wJ_S (sst_215 (hyq2.resolve_right (fun q => by omega)).2 hml hmn (hR _ (hyq2.resolve_right (fun q => by omega)).2)) ⟨rfl, trivial⟩
            · skip
              refine wa_aload_n (n := 0) rfl ?_
              refine wb_gf4 215 rfl (wy_pr rfl) wt_215 wf_8_2 (v := 158) wl_215_2 ?_
              refine wa_iload (n := 4) rfl ?_
              refine wa_cv 158 rfl (wy_pr rfl) wt_158 (M2 := mS ml) rfl at_XL_act ⟨_, rfl⟩ rfl rfl ⟨trivial, trivial, trivial, trivial, (Or.inr ⟨wy_pr rfl, hmn⟩), trivial⟩ trivial (fun _ _ q => q) ((hyq2.resolve_left (fun q => by omega)).2) (fun oq33 Sq33 hp34 q33 => ?_)
              rcases q33 with ⟨rfl, hact⟩
              show wJ _ _ _ _ _ _ _ _ _ _
              refine wa_fall ⟨_, rfl⟩ ?_
              refine wa_goto ⟨_, rfl⟩ ?_
              exact wJ_S (sst_215 hact hml hmn (hR _ hact)) ⟨rfl, trivial⟩
  · skip
    exfalso; omega
theorem sst_226 (hz : R Z) (hml : ∀ x ∈ [228, 229], x ∈ ml) (hmn : ¬ mS ml 226) (hR : Z 226 16 ≠ 0 → Z 226 16 ≠ 99 → xR 226 Z) : wJ (pe_GA xs) wY0 (mS ml) (d + 12) t_XK_step ((pe_at t_XK_step.bl 11).getD (0, [])).2 [(0, (2, 226))] [] Z (fun o Z2 => ∃ Z : wS, R Z ∧ sR 226 Z o Z2) := by
  refine wa_aload_n (n := 0) rfl ?_
  refine wb_gfi 226 rfl (wy_pr rfl) wt_226 wf_8_16 (v := (Z 226 16)) rfl (fun r1 => ?_)
  refine wa_bipush (w_rg2 (by omega) (by omega)) ?_
  refine wa_icmpne (w_rg0 (by omega) (by omega)) (w_rg0 (by omega) (by omega)) ⟨_, rfl⟩ (fun c2 => ?_) (fun c2 => ?_)
  · skip
    refine wa_aload_n (n := 0) rfl ?_
    refine wb_gfi 226 rfl (wy_pr rfl) wt_226 wf_8_16 (v := (Z 226 16)) rfl (fun r3 => ?_)
    refine wa_ifeq (w_rg0 (by omega) (by omega)) ⟨_, rfl⟩ (fun c4 => ?_) (fun c4 => ?_)
    · skip
      refine wa_iconst ?_
      refine wa_zreturn rfl (Or.inr rfl) ?_
      exact ⟨_, hz, Or.inl ⟨by omega, rfl, rfl⟩⟩
    · skip
      refine wa_aload_n (n := 0) rfl ?_
      refine wa_iconst ?_
      refine wa_aload_n (n := 0) rfl ?_
      refine wb_gfi 226 rfl (wy_pr rfl) wt_226 wf_8_16 (v := (Z 226 16)) rfl (fun r5 => ?_)
      refine wa_i2l (w_rg0 (by omega) (by omega)) ?_
      refine wa_cv 226 rfl (wy_pr rfl) wt_226 (M2 := mS [228, 229]) rfl at_XK_raise ⟨_, rfl⟩ rfl rfl ⟨(Or.inr ⟨wy_pr rfl, mS_no rfl⟩), trivial⟩ trivial (fun _ _ q => mS_sub hml q) (rq_226 (hR (by omega) (by omega)) ⟨by omega, by omega⟩ ⟨by omega, by omega⟩) (fun oq6 Sq6 hp7 q6 => ?_)
      rcases q6 with ⟨rfl, rs6⟩
      show wJ _ _ _ _ _ _ _ _ _ _
      refine wa_fall ⟨_, rfl⟩ ?_
      refine wa_iconst ?_
      refine wa_zreturn rfl (Or.inr rfl) ?_
      exact ⟨_, hz, Or.inr (Or.inr ⟨by omega, by omega, rfl, rs6⟩)⟩
  · skip
    refine wa_aload_n (n := 0) rfl ?_
    refine wa_iconst ?_
    refine wb_pfi 226 rfl (wy_pr rfl) wt_226 wf_8_13 (n := 13) rfl ⟨(by omega), (by omega)⟩ ?_
    refine wa_iconst ?_
    refine wa_zreturn rfl (Or.inl rfl) ?_
    exact ⟨_, hz, Or.inr (Or.inl ⟨by omega, rfl, rfl⟩)⟩
set_option maxHeartbeats 4000000 in
theorem ss_226 {c g p e h a : Int} (hB : xB 226 c g p e h S) (ho : S 31 (e + p) = 27) (ha : S 32 (e + p) = a) (hml : ∀ x ∈ [228, 229], x ∈ ml) (hmn : ¬ mS ml 226) (hmn2 : ¬ mS ml 158) (hA : wJ (pe_GA xs) wY0 (mS ml) (d + 11) t_XL_aim ((pe_at t_XL_aim.bl 0).getD (0, [])).2 [(0, (2, 158)), (1, (2, 226)), (2, (0, a))] [] (w_up S 226 16 0) (fun o Z => o = .inl none ∧ PA Z)) (hP1 : ∀ Z : wS, PA Z → (Z 226 16 ≠ 0 ∧ R Z) ∨ (Z 226 16 = 0 ∧ wJ (pe_GA xs) wY0 (mS ml) (d + 11) t_XL_held ((pe_at t_XL_held.bl 0).getD (0, [])).2 [(0, (2, 158))] [] Z (fun o Y => ∃ y : Int, o = .inl (some (0, y)) ∧ (-2147483648 ≤ y ∧ y ≤ 2147483647) ∧ Y 226 16 = 0 ∧ ((y ≠ -1 ∧ wJ (pe_GA xs) wY0 (mS ml) (d + 11) t_XL_act ((pe_at t_XL_act.bl 0).getD (0, [])).2 [(0, (2, 158)), (1, (0, y))] [] Y (fun o V => o = .inl none ∧ R V)) ∨ (y = -1 ∧ wJ (pe_GA xs) wY0 (mS ml) (d + 11) t_XL_look ((pe_at t_XL_look.bl 0).getD (0, [])).2 [(0, (2, 158))] [] Y (fun o X => ∃ y2 : Int, o = .inl (some (0, y2)) ∧ ((X 226 16 ≠ 0 ∧ R X) ∨ (X 226 16 = 0 ∧ wJ (pe_GA xs) wY0 (mS ml) (d + 11) t_XL_act ((pe_at t_XL_act.bl 0).getD (0, [])).2 [(0, (2, 158)), (1, (0, y2))] [] X (fun o V => o = .inl none ∧ R V))))))))) (hR : ∀ Z : wS, R Z → Z 226 16 ≠ 0 → Z 226 16 ≠ 99 → xR 226 Z) : wJ (pe_GA xs) wY0 (mS ml) (d + 12) t_XK_step ((pe_at t_XK_step.bl 0).getD (0, [])).2 [(0, (2, 226))] [] S (fun o Z2 => ∃ Z : wS, R Z ∧ sR 226 Z o Z2) := by
  obtain ⟨⟨hC, hI⟩, ⟨bc, bc0, bc1⟩, ⟨bg, bg0, bg1⟩, ⟨bp, bp0, bp1⟩, ⟨be, be0, be1, be2, be3, be4⟩, ⟨bh, bh0, bh1, bh2⟩, bl1, bl2, bl3⟩ := hB
  replace bg : S 230 (c - 1) = g := bg
  replace bp : S 231 (c - 1) = p := bp
  replace bh : S 227 2 = h := bh
  refine wa_aload_n (n := 0) rfl ?_
  refine wb_gfi 226 rfl (wy_pr rfl) wt_226 wf_8_4 (v := c) (bc) (fun r1 => ?_)
  refine wa_iconst ?_
  refine wa_icmpge (w_rg0 (by omega) (by omega)) (w_rg0 (by omega) (by omega)) ⟨_, rfl⟩ (fun c2 => ?_) (fun c2 => ?_)
  · skip
    refine wa_aload_n (n := 0) rfl ?_
    refine wa_iconst ?_
    refine wb_pfi 226 rfl (wy_pr rfl) wt_226 wf_8_16 (n := 16) rfl ⟨(by omega), (by omega)⟩ ?_
    refine wa_aload_n (n := 0) rfl ?_
    refine wb_gf4 226 rfl (wy_pr rfl) wt_226 wf_8_1 (v := 19) wl_226_1 ?_
    refine wb_gf4 19 rfl (wy_pr rfl) wt_19 wf_0_0 (v := 20) wl_19_0 ?_
    refine wa_bipush (w_rg2 (by omega) (by omega)) ?_
    refine wb_aald5 20 6 rfl rfl (wy_pr rfl) wt_20 (by rw [show _ = _ from ((w_up_slot (by decide)).trans ((cl_20 hC)))]; omega) wl_20_6 ?_
    refine wa_aload_n (n := 0) rfl ?_
    refine wb_gf4 226 rfl (wy_pr rfl) wt_226 wf_8_5 (v := 230) wl_226_5 ?_
    refine wa_aload_n (n := 0) rfl ?_
    refine wb_gfi 226 rfl (wy_pr rfl) wt_226 wf_8_4 (v := c) ((w_up_at (by decide)).trans (bc)) (fun r3 => ?_)
    refine wa_iconst ?_
    refine wa_isub ?_
    refine wb_iald 230 rfl (wy_pr rfl) wt_230 (n := 200) ((w_up_slot (by decide)).trans ((cl_230 hC))) (by omega) (by omega) (v := g) ((w_up_slot (by decide)).trans (bg)) (fun r4 => ?_)
    refine wb_iald 27 rfl (wy_pr rfl) wt_27 (n := 400) ((w_up_slot (by decide)).trans ((cl_27 hC))) (by omega) (by omega) (v := e) ((w_up_slot (by decide)).trans (be)) (fun r5 => ?_)
    refine wa_aload_n (n := 0) rfl ?_
    refine wb_gf4 226 rfl (wy_pr rfl) wt_226 wf_8_6 (v := 231) wl_226_6 ?_
    refine wa_aload_n (n := 0) rfl ?_
    refine wb_gfi 226 rfl (wy_pr rfl) wt_226 wf_8_4 (v := c) ((w_up_at (by decide)).trans (bc)) (fun r6 => ?_)
    refine wa_iconst ?_
    refine wa_isub ?_
    refine wb_iald 231 rfl (wy_pr rfl) wt_231 (n := 200) ((w_up_slot (by decide)).trans ((cl_231 hC))) (by omega) (by omega) (v := p) ((w_up_slot (by decide)).trans (bp)) (fun r7 => ?_)
    refine wa_iadd ?_
    refine wa_istore_n (n := 1) rfl ?_
    refine wa_aload_n (n := 0) rfl ?_
    refine wb_gf4 226 rfl (wy_pr rfl) wt_226 wf_8_1 (v := 19) wl_226_1 ?_
    refine wb_gf4 19 rfl (wy_pr rfl) wt_19 wf_0_4 (v := 31) wl_19_4 ?_
    refine wa_iload_n (n := 1) rfl ?_
    refine wb_iald 31 rfl (wy_pr rfl) wt_31 (n := (S 31 (-1))) ((w_up_slot (by decide)).trans (rfl)) (by omega) (by omega) (v := 27) ((w_up_slot (by decide)).trans (ho)) (fun r8 => ?_)
    refine wa_istore_n (n := 2) rfl ?_
    refine wa_aload_n (n := 0) rfl ?_
    refine wb_gf4 226 rfl (wy_pr rfl) wt_226 wf_8_1 (v := 19) wl_226_1 ?_
    refine wb_gf4 19 rfl (wy_pr rfl) wt_19 wf_0_5 (v := 32) wl_19_5 ?_
    refine wa_iload_n (n := 1) rfl ?_
    refine wb_iald 32 rfl (wy_pr rfl) wt_32 (n := (S 31 (-1))) ((w_up_slot (by decide)).trans (be2)) (by omega) (by omega) (v := a) ((w_up_slot (by decide)).trans (ha)) (fun r9 => ?_)
    refine wa_istore_n (n := 3) rfl ?_
    refine wa_iload_n (n := 2) rfl ?_
    refine wa_bipush (w_rg2 (by omega) (by omega)) ?_
    refine wa_icmpne (w_rg0 (by omega) (by omega)) (w_rg0 (by omega) (by omega)) ⟨_, rfl⟩ (fun c10 => ?_) (fun c10 => ?_)
    · skip
      exact absurd c10 (by omega)
    · skip
      refine wa_fall ⟨_, rfl⟩ ?_
      refine wa_aload_n (n := 0) rfl ?_
      refine wb_gf4 226 rfl (wy_pr rfl) wt_226 wf_8_2 (v := 158) wl_226_2 ?_
      refine wa_aload_n (n := 0) rfl ?_
      refine wa_iload_n (n := 3) rfl ?_
      refine wa_cv 158 rfl (wy_pr rfl) wt_158 (M2 := mS ml) rfl at_XL_aim ⟨_, rfl⟩ rfl rfl ⟨trivial, trivial, trivial, (Or.inr ⟨wy_pr rfl, hmn⟩), trivial⟩ trivial (fun _ _ q => q) (hA) (fun oq11 Sq11 hp12 q11 => ?_)
      rcases q11 with ⟨rfl, hz11⟩
      show wJ _ _ _ _ _ _ _ _ _ _
      have hz1 := hP1 _ hz11
      refine wa_aload_n (n := 0) rfl ?_
      refine wb_gfi 226 rfl (wy_pr rfl) wt_226 wf_8_16 (v := (Sq11 226 16)) rfl (fun r13 => ?_)
      refine wa_ifne (w_rg0 (by omega) (by omega)) ⟨_, rfl⟩ (fun c14 => ?_) (fun c14 => ?_)
      · skip
        refine wa_iconst ?_
        refine wa_fall ⟨_, rfl⟩ ?_
        refine wa_istore (n := 4) rfl ?_
        refine wa_iload (n := 4) rfl ?_
        refine wa_iconst ?_
        refine wa_icmpne (w_rg0 (by omega) (by omega)) (w_rg0 (by omega) (by omega)) ⟨_, rfl⟩ (fun c15 => ?_) (fun c15 => ?_)
        · skip
          exact absurd c15 (by omega)
        · skip
          refine wa_aload_n (n := 0) rfl ?_
          refine wb_gfi 226 rfl (wy_pr rfl) wt_226 wf_8_16 (v := (Sq11 226 16)) rfl (fun r16 => ?_)
          refine wa_ifne (w_rg0 (by omega) (by omega)) ⟨_, rfl⟩ (fun c17 => ?_) (fun c17 => ?_)
          · skip
            refine wa_aload_n (n := 0) rfl ?_
            refine wb_gfi 226 rfl (wy_pr rfl) wt_226 wf_8_16 (v := (Sq11 226 16)) rfl (fun r18 => ?_)
            refine wa_ifne (w_rg0 (by omega) (by omega)) ⟨_, rfl⟩ (fun c19 => ?_) (fun c19 => ?_)
            · skip
              refine wa_goto ⟨_, rfl⟩ ?_
              exact wJ_S (sst_226 (hz1.resolve_right (fun q => by omega)).2 hml hmn (hR _ (hz1.resolve_right (fun q => by omega)).2)) ⟨rfl, trivial⟩
            · skip
              exact absurd c19 (by omega)
          · skip
            exact absurd c17 (by omega)
      · skip
        refine wa_aload_n (n := 0) rfl ?_
        refine wb_gf4 226 rfl (wy_pr rfl) wt_226 wf_8_2 (v := 158) wl_226_2 ?_
        refine wa_cv 158 rfl (wy_pr rfl) wt_158 (M2 := mS ml) rfl at_XL_held ⟨_, rfl⟩ rfl rfl ⟨trivial, trivial, trivial, (Or.inr ⟨wy_pr rfl, hmn⟩), trivial⟩ trivial (fun _ _ q => q) ((hz1.resolve_left (fun q => by omega)).2) (fun oq20 Sq20 hp21 q20 => ?_)
        rcases q20 with ⟨y, rfl, hyr, hy0, hyq⟩
        show wJ _ _ _ _ _ _ _ _ _ _
        skip
        refine wa_goto ⟨_, rfl⟩ ?_
        refine wa_istore (n := 4) rfl ?_
        refine wa_iload (n := 4) rfl ?_
        refine wa_iconst ?_
        refine wa_icmpne (w_rg0 (by omega) (by omega)) (w_rg0 (by omega) (by omega)) ⟨_, rfl⟩ (fun c22 => ?_) (fun c22 => ?_)
        · skip
          refine wa_aload_n (n := 0) rfl ?_
          refine wb_gfi 226 rfl (wy_pr rfl) wt_226 wf_8_16 (v := 0) (hy0) (fun r23 => ?_)
          refine wa_ifne (w_rg0 (by omega) (by omega)) ⟨_, rfl⟩ (fun c24 => ?_) (fun c24 => ?_)
          · skip
            exact absurd c24 (by omega)
          · skip
            refine wa_aload_n (n := 0) rfl ?_
            refine wb_gf4 226 rfl (wy_pr rfl) wt_226 wf_8_2 (v := 158) wl_226_2 ?_
            refine wa_iload (n := 4) rfl ?_
            refine wa_cv 158 rfl (wy_pr rfl) wt_158 (M2 := mS ml) rfl at_XL_act ⟨_, rfl⟩ rfl rfl ⟨trivial, trivial, trivial, trivial, (Or.inr ⟨wy_pr rfl, hmn⟩), trivial⟩ trivial (fun _ _ q => q) ((hyq.resolve_right (fun q => by omega)).2) (fun oq25 Sq25 hp26 q25 => ?_)
            rcases q25 with ⟨rfl, hact⟩
            show wJ _ _ _ _ _ _ _ _ _ _
            refine wa_fall ⟨_, rfl⟩ ?_
            refine wa_goto ⟨_, rfl⟩ ?_
            exact wJ_S (sst_226 hact hml hmn (hR _ hact)) ⟨rfl, trivial⟩
        · skip
          refine wa_aload_n (n := 0) rfl ?_
          refine wb_gfi 226 rfl (wy_pr rfl) wt_226 wf_8_16 (v := 0) (hy0) (fun r27 => ?_)
          refine wa_ifne (w_rg0 (by omega) (by omega)) ⟨_, rfl⟩ (fun c28 => ?_) (fun c28 => ?_)
          · skip
            exact absurd c28 (by omega)
          · skip
            refine wa_aload_n (n := 0) rfl ?_
            refine wb_gf4 226 rfl (wy_pr rfl) wt_226 wf_8_2 (v := 158) wl_226_2 ?_
            refine wa_cv 158 rfl (wy_pr rfl) wt_158 (M2 := mS ml) rfl at_XL_look ⟨_, rfl⟩ rfl rfl ⟨trivial, trivial, trivial, trivial, (Or.inr ⟨wy_pr rfl, hmn⟩), trivial⟩ trivial (fun _ _ q => q) ((hyq.resolve_left (fun q => by omega)).2) (fun oq29 Sq29 hp30 q29 => ?_)
            rcases q29 with ⟨y2, rfl, hyq2⟩
            show wJ _ _ _ _ _ _ _ _ _ _
            refine wa_istore (n := 4) rfl ?_
            refine wa_fall ⟨_, rfl⟩ ?_
            refine wa_aload_n (n := 0) rfl ?_
            refine wb_gfi 226 rfl (wy_pr rfl) wt_226 wf_8_16 (v := (Sq29 226 16)) rfl (fun r31 => ?_)
            refine wa_ifne (w_rg0 (by omega) (by omega)) ⟨_, rfl⟩ (fun c32 => ?_) (fun c32 => ?_)
            · skip
              refine wa_goto ⟨_, rfl⟩ ?_
              exact wJ_S (sst_226 (hyq2.resolve_right (fun q => by omega)).2 hml hmn (hR _ (hyq2.resolve_right (fun q => by omega)).2)) ⟨rfl, trivial⟩
            · skip
              refine wa_aload_n (n := 0) rfl ?_
              refine wb_gf4 226 rfl (wy_pr rfl) wt_226 wf_8_2 (v := 158) wl_226_2 ?_
              refine wa_iload (n := 4) rfl ?_
              refine wa_cv 158 rfl (wy_pr rfl) wt_158 (M2 := mS ml) rfl at_XL_act ⟨_, rfl⟩ rfl rfl ⟨trivial, trivial, trivial, trivial, (Or.inr ⟨wy_pr rfl, hmn⟩), trivial⟩ trivial (fun _ _ q => q) ((hyq2.resolve_left (fun q => by omega)).2) (fun oq33 Sq33 hp34 q33 => ?_)
              rcases q33 with ⟨rfl, hact⟩
              show wJ _ _ _ _ _ _ _ _ _ _
              refine wa_fall ⟨_, rfl⟩ ?_
              refine wa_goto ⟨_, rfl⟩ ?_
              exact wJ_S (sst_226 hact hml hmn (hR _ hact)) ⟨rfl, trivial⟩
  · skip
    exfalso; omega
end Wgp
