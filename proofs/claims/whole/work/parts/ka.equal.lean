/-! PART ka: instructions 14 and 15 where not both values are texts. -/
section Wka
variable {xs : List (Nat × List Int32)} {M : Nat → Prop} {d : Nat} {S Z A T : wS} {K Kr : aK} {k v q t a b : Int} {u : aV} {w m : Nat}
theorem cV_eq2 {k2 v2 : Int} {y : aV} (h : cVl S k v u) (g : cVl S k2 v2 y) (hy : ¬ (u.1 = 3 ∧ y.1 = 3)) : (k = k2 ∧ v = v2) ↔ (u.1 = y.1 ∧ u.2.1 = y.2.1) := by
  by_cases c : y.1 = 3
  · have h1 := h.1
    have g1 := g.1
    exact ⟨fun z => absurd z.1 (by omega), fun z => absurd z.1 (by omega)⟩
  · exact cV_eq h g c
theorem rV_eq2 {k2 v2 : Int} {y : aV} (h : rVl S k v u) (g : rVl S k2 v2 y) (hy : ¬ (u.1 = 3 ∧ y.1 = 3)) : (k = k2 ∧ v = v2) ↔ (u.1 = y.1 ∧ u.2.1 = y.2.1) := by
  by_cases c : y.1 = 3
  · have h1 := h.1
    have g1 := g.1
    exact ⟨fun z => absurd z.1 (by omega), fun z => absurd z.1 (by omega)⟩
  · exact rV_eq h g c

theorem x14n_215 {c p h kx ky vx vy : Int} (hP : xP 215 c p h S) (hky : S 217 (h - 1) = ky) (hvy : S 218 (h - 1) = vy) (hkx : S 217 (h - 1 - 1) = kx) (hvx : S 218 (h - 1 - 1) = vx) (hh1 : 2 ≤ h) (hk3 : ¬ (kx = 3 ∧ ky = 3)) : wJ (pe_GA xs) wY0 (mS [217, 218]) (d + 11) t_XK_operate ((pe_at t_XK_operate.bl 0).getD (0, [])).2 [(0, (2, 215)), (1, (0, 14))] [] S (fun o Z => o = .inl none ∧ sO 215 h c p (2) (1) (if kx = ky ∧ vx = vy then 1 else 0) S Z) := by
  obtain ⟨⟨hC, hI⟩, ⟨bc, bc0, bc1⟩, ⟨bp, bp0, bp1⟩, ⟨bh, bh0, bh1, bh2⟩, bl1, bl2, bl3⟩ := hP
  replace bp : S 220 (c - 1) = p := bp
  replace bh : S 216 2 = h := bh
  replace bh2 : h ≤ S 217 (-1) := bh2
  replace bl1 : S 218 (-1) = S 217 (-1) := bl1
  replace bl2 : 64 ≤ S 217 (-1) := bl2
  replace bl3 : S 217 (-1) ≤ 4095 := bl3
  refine wa_aload_n (n := 0) rfl ?_
  refine wb_gf4 215 rfl (wy_pr rfl) wt_215 wf_8_3 (v := 216) wl_215_3 ?_
  refine wb_gfi 216 rfl (wy_pr rfl) wt_216 wf_7_2 (v := h) (bh) (fun r1 => ?_)
  refine wa_iconst ?_
  refine wa_isub ?_
  refine wa_istore_n (n := 2) rfl ?_
  refine wa_iload_n (n := 1) rfl ?_
  refine wa_bipush (w_rg2 (by omega) (by omega)) ?_
  refine wa_icmpne (w_rg0 (by omega) (by omega)) (w_rg0 (by omega) (by omega)) ⟨_, rfl⟩ (fun c2 => ?_) (fun c2 => ?_)
  · skip
    refine wa_iload_n (n := 1) rfl ?_
    refine wa_bipush (w_rg2 (by omega) (by omega)) ?_
    refine wa_icmpne (w_rg0 (by omega) (by omega)) (w_rg0 (by omega) (by omega)) ⟨_, rfl⟩ (fun c3 => ?_) (fun c3 => ?_)
    · skip
      refine wa_iload_n (n := 1) rfl ?_
      refine wa_bipush (w_rg2 (by omega) (by omega)) ?_
      refine wa_icmpeq (w_rg0 (by omega) (by omega)) (w_rg0 (by omega) (by omega)) ⟨_, rfl⟩ (fun c4 => ?_) (fun c4 => ?_)
      · skip
        refine wa_aload_n (n := 0) rfl ?_
        refine wa_iconst ?_
        refine wa_iconst ?_
        refine wa_aload_n (n := 0) rfl ?_
        refine wa_iload_n (n := 2) rfl ?_
        refine wa_iconst ?_
        refine wa_isub ?_
        refine wa_iload_n (n := 2) rfl ?_
        refine wa_cv 215 rfl (wy_pr rfl) wt_215 (M2 := mS [217, 218]) rfl at_XK_areEqual ⟨_, rfl⟩ rfl rfl ⟨trivial, (Or.inr ⟨wy_pr rfl, mS_no rfl⟩), trivial, trivial⟩ ⟨trivial, trivial, (Or.inr ⟨wy_pr rfl, mS_no rfl⟩), trivial⟩ (fun _ _ q => q) ?_ (fun _ _ _ q => q)
        refine wa_aload_n (n := 0) rfl ?_
        refine wb_gf4 215 rfl (wy_pr rfl) wt_215 wf_8_3 (v := 216) wl_215_3 ?_
        refine wb_gf4 216 rfl (wy_pr rfl) wt_216 wf_7_0 (v := 217) wl_216_0 ?_
        refine wa_iload_n (n := 1) rfl ?_
        refine wb_bald 217 rfl (wy_pr rfl) wt_217 (n := (S 217 (-1))) (rfl) (by omega) (by omega) (v := kx) (hkx) (fun r5 => ?_)
        refine wa_aload_n (n := 0) rfl ?_
        refine wb_gf4 215 rfl (wy_pr rfl) wt_215 wf_8_3 (v := 216) wl_215_3 ?_
        refine wb_gf4 216 rfl (wy_pr rfl) wt_216 wf_7_0 (v := 217) wl_216_0 ?_
        refine wa_iload_n (n := 2) rfl ?_
        refine wb_bald 217 rfl (wy_pr rfl) wt_217 (n := (S 217 (-1))) (rfl) (by omega) (by omega) (v := ky) (hky) (fun r6 => ?_)
        refine wa_icmpeq (w_rg0 (by omega) (by omega)) (w_rg0 (by omega) (by omega)) ⟨_, rfl⟩ (fun c7 => ?_) (fun c7 => ?_)
        · skip
          refine wa_aload_n (n := 0) rfl ?_
          refine wb_gf4 215 rfl (wy_pr rfl) wt_215 wf_8_3 (v := 216) wl_215_3 ?_
          refine wb_gf4 216 rfl (wy_pr rfl) wt_216 wf_7_0 (v := 217) wl_216_0 ?_
          refine wa_iload_n (n := 1) rfl ?_
          refine wb_bald 217 rfl (wy_pr rfl) wt_217 (n := (S 217 (-1))) (rfl) (by omega) (by omega) (v := kx) (hkx) (fun r8 => ?_)
          refine wa_iconst ?_
          refine wa_icmpne (w_rg0 (by omega) (by omega)) (w_rg0 (by omega) (by omega)) ⟨_, rfl⟩ (fun c9 => ?_) (fun c9 => ?_)
          · skip
            refine wa_aload_n (n := 0) rfl ?_
            refine wb_gf4 215 rfl (wy_pr rfl) wt_215 wf_8_3 (v := 216) wl_215_3 ?_
            refine wb_gf4 216 rfl (wy_pr rfl) wt_216 wf_7_1 (v := 218) wl_216_1 ?_
            refine wa_iload_n (n := 1) rfl ?_
            refine wb_lald 218 rfl (wy_pr rfl) wt_218 (n := (S 217 (-1))) (bl1) (by omega) (by omega) (v := vx) (hvx) (fun r10 => ?_)
            refine wa_aload_n (n := 0) rfl ?_
            refine wb_gf4 215 rfl (wy_pr rfl) wt_215 wf_8_3 (v := 216) wl_215_3 ?_
            refine wb_gf4 216 rfl (wy_pr rfl) wt_216 wf_7_1 (v := 218) wl_216_1 ?_
            refine wa_iload_n (n := 2) rfl ?_
            refine wb_lald 218 rfl (wy_pr rfl) wt_218 (n := (S 217 (-1))) (bl1) (by omega) (by omega) (v := vy) (hvy) (fun r11 => ?_)
            refine wa_lcmp (w_rg1 (by omega) (by omega)) (w_rg1 (by omega) (by omega)) ?_
            refine wa_ifne (by have := @wb_lcmp_cases; exact w_lcmp_rg) ⟨_, rfl⟩ (fun c12 => ?_) (fun c12 => ?_)
            · skip
              have c12x := @wb_lcmp_cases vx vy
              refine wa_iconst ?_
              refine wa_fall ⟨_, rfl⟩ ?_
              refine wa_zreturn rfl (Or.inl rfl) ?_
              show wJ _ _ _ _ _ _ _ _ _ _
              refine wa_iload_n (n := 1) rfl ?_
              refine wa_bipush (w_rg2 (by omega) (by omega)) ?_
              refine wa_icmpne (w_rg0 (by omega) (by omega)) (w_rg0 (by omega) (by omega)) ⟨_, rfl⟩ (fun c13 => ?_) (fun c13 => ?_)
              · skip
                exact absurd c13 (by omega)
              · skip
                refine wa_iconst ?_
                refine wa_goto ⟨_, rfl⟩ ?_
                refine wa_icmpne (w_rg0 (by omega) (by omega)) (w_rg0 (by omega) (by omega)) ⟨_, rfl⟩ (fun c14 => ?_) (fun c14 => ?_)
                · skip
                  refine wb_lconst (m := 0) rfl ?_
                  refine wa_fall ⟨_, rfl⟩ ?_
                  refine wa_cv 215 rfl (wy_pr rfl) wt_215 (M2 := mS [217, 218]) rfl at_XK_give ⟨_, rfl⟩ rfl rfl ⟨trivial, (Or.inr ⟨wy_pr rfl, mS_no rfl⟩), trivial, trivial⟩ trivial (fun _ _ q => q) (gw_215 (S := S) (n := 2) (k := 1) (v := 0) (h := h) (c := c) (p := p) (ln := (S 217 (-1))) hC hI ⟨by omega, by omega⟩ ⟨by omega, by omega⟩ (bh) (bc) (bp) (rfl) (bl1) ⟨by omega, by omega⟩ ⟨by omega, by omega, by omega⟩ ⟨by omega, by omega⟩ ⟨by omega, by omega⟩) (fun oq15 Sq15 hp16 q15 => ?_)
                  rcases q15 with ⟨rfl, A15, ra15, rfl⟩
                  show wJ _ _ _ _ _ _ _ _ _ _
                  refine wa_goto ⟨_, rfl⟩ ?_
                  refine wa_return rfl ?_
                  refine ⟨rfl, A15, ?_, rfl⟩
                  repeat (first | rw [if_pos (by omega)] | rw [if_neg (by omega)])
                  exact ra15
                · skip
                  exact absurd c14 (by omega)
            · skip
              have c12x := @wb_lcmp_cases vx vy
              refine wa_iconst ?_
              refine wa_goto ⟨_, rfl⟩ ?_
              refine wa_zreturn rfl (Or.inr rfl) ?_
              show wJ _ _ _ _ _ _ _ _ _ _
              refine wa_iload_n (n := 1) rfl ?_
              refine wa_bipush (w_rg2 (by omega) (by omega)) ?_
              refine wa_icmpne (w_rg0 (by omega) (by omega)) (w_rg0 (by omega) (by omega)) ⟨_, rfl⟩ (fun c17 => ?_) (fun c17 => ?_)
              · skip
                exact absurd c17 (by omega)
              · skip
                refine wa_iconst ?_
                refine wa_goto ⟨_, rfl⟩ ?_
                refine wa_icmpne (w_rg0 (by omega) (by omega)) (w_rg0 (by omega) (by omega)) ⟨_, rfl⟩ (fun c18 => ?_) (fun c18 => ?_)
                · skip
                  exact absurd c18 (by omega)
                · skip
                  refine wb_lconst (m := 1) rfl ?_
                  refine wa_goto ⟨_, rfl⟩ ?_
                  refine wa_cv 215 rfl (wy_pr rfl) wt_215 (M2 := mS [217, 218]) rfl at_XK_give ⟨_, rfl⟩ rfl rfl ⟨trivial, (Or.inr ⟨wy_pr rfl, mS_no rfl⟩), trivial, trivial⟩ trivial (fun _ _ q => q) (gw_215 (S := S) (n := 2) (k := 1) (v := 1) (h := h) (c := c) (p := p) (ln := (S 217 (-1))) hC hI ⟨by omega, by omega⟩ ⟨by omega, by omega⟩ (bh) (bc) (bp) (rfl) (bl1) ⟨by omega, by omega⟩ ⟨by omega, by omega, by omega⟩ ⟨by omega, by omega⟩ ⟨by omega, by omega⟩) (fun oq19 Sq19 hp20 q19 => ?_)
                  rcases q19 with ⟨rfl, A19, ra19, rfl⟩
                  show wJ _ _ _ _ _ _ _ _ _ _
                  refine wa_goto ⟨_, rfl⟩ ?_
                  refine wa_return rfl ?_
                  refine ⟨rfl, A19, ?_, rfl⟩
                  repeat (first | rw [if_pos (by omega)] | rw [if_neg (by omega)])
                  exact ra19
          · skip
            exact absurd c9 (by omega)
        · skip
          refine wa_iconst ?_
          refine wa_zreturn rfl (Or.inl rfl) ?_
          show wJ _ _ _ _ _ _ _ _ _ _
          refine wa_iload_n (n := 1) rfl ?_
          refine wa_bipush (w_rg2 (by omega) (by omega)) ?_
          refine wa_icmpne (w_rg0 (by omega) (by omega)) (w_rg0 (by omega) (by omega)) ⟨_, rfl⟩ (fun c21 => ?_) (fun c21 => ?_)
          · skip
            exact absurd c21 (by omega)
          · skip
            refine wa_iconst ?_
            refine wa_goto ⟨_, rfl⟩ ?_
            refine wa_icmpne (w_rg0 (by omega) (by omega)) (w_rg0 (by omega) (by omega)) ⟨_, rfl⟩ (fun c22 => ?_) (fun c22 => ?_)
            · skip
              refine wb_lconst (m := 0) rfl ?_
              refine wa_fall ⟨_, rfl⟩ ?_
              refine wa_cv 215 rfl (wy_pr rfl) wt_215 (M2 := mS [217, 218]) rfl at_XK_give ⟨_, rfl⟩ rfl rfl ⟨trivial, (Or.inr ⟨wy_pr rfl, mS_no rfl⟩), trivial, trivial⟩ trivial (fun _ _ q => q) (gw_215 (S := S) (n := 2) (k := 1) (v := 0) (h := h) (c := c) (p := p) (ln := (S 217 (-1))) hC hI ⟨by omega, by omega⟩ ⟨by omega, by omega⟩ (bh) (bc) (bp) (rfl) (bl1) ⟨by omega, by omega⟩ ⟨by omega, by omega, by omega⟩ ⟨by omega, by omega⟩ ⟨by omega, by omega⟩) (fun oq23 Sq23 hp24 q23 => ?_)
              rcases q23 with ⟨rfl, A23, ra23, rfl⟩
              show wJ _ _ _ _ _ _ _ _ _ _
              refine wa_goto ⟨_, rfl⟩ ?_
              refine wa_return rfl ?_
              refine ⟨rfl, A23, ?_, rfl⟩
              repeat (first | rw [if_pos (by omega)] | rw [if_neg (by omega)])
              exact ra23
            · skip
              exact absurd c22 (by omega)
      · skip
        exact absurd c4 (by omega)
    · skip
      exact absurd c3 (by omega)
  · skip
    exact absurd c2 (by omega)

theorem x15n_215 {c p h kx ky vx vy : Int} (hP : xP 215 c p h S) (hky : S 217 (h - 1) = ky) (hvy : S 218 (h - 1) = vy) (hkx : S 217 (h - 1 - 1) = kx) (hvx : S 218 (h - 1 - 1) = vx) (hh1 : 2 ≤ h) (hk3 : ¬ (kx = 3 ∧ ky = 3)) : wJ (pe_GA xs) wY0 (mS [217, 218]) (d + 11) t_XK_operate ((pe_at t_XK_operate.bl 0).getD (0, [])).2 [(0, (2, 215)), (1, (0, 15))] [] S (fun o Z => o = .inl none ∧ sO 215 h c p (2) (1) (if kx = ky ∧ vx = vy then 0 else 1) S Z) := by
  obtain ⟨⟨hC, hI⟩, ⟨bc, bc0, bc1⟩, ⟨bp, bp0, bp1⟩, ⟨bh, bh0, bh1, bh2⟩, bl1, bl2, bl3⟩ := hP
  replace bp : S 220 (c - 1) = p := bp
  replace bh : S 216 2 = h := bh
  replace bh2 : h ≤ S 217 (-1) := bh2
  replace bl1 : S 218 (-1) = S 217 (-1) := bl1
  replace bl2 : 64 ≤ S 217 (-1) := bl2
  replace bl3 : S 217 (-1) ≤ 4095 := bl3
  refine wa_aload_n (n := 0) rfl ?_
  refine wb_gf4 215 rfl (wy_pr rfl) wt_215 wf_8_3 (v := 216) wl_215_3 ?_
  refine wb_gfi 216 rfl (wy_pr rfl) wt_216 wf_7_2 (v := h) (bh) (fun r1 => ?_)
  refine wa_iconst ?_
  refine wa_isub ?_
  refine wa_istore_n (n := 2) rfl ?_
  refine wa_iload_n (n := 1) rfl ?_
  refine wa_bipush (w_rg2 (by omega) (by omega)) ?_
  refine wa_icmpne (w_rg0 (by omega) (by omega)) (w_rg0 (by omega) (by omega)) ⟨_, rfl⟩ (fun c2 => ?_) (fun c2 => ?_)
  · skip
    refine wa_iload_n (n := 1) rfl ?_
    refine wa_bipush (w_rg2 (by omega) (by omega)) ?_
    refine wa_icmpne (w_rg0 (by omega) (by omega)) (w_rg0 (by omega) (by omega)) ⟨_, rfl⟩ (fun c3 => ?_) (fun c3 => ?_)
    · skip
      refine wa_iload_n (n := 1) rfl ?_
      refine wa_bipush (w_rg2 (by omega) (by omega)) ?_
      refine wa_icmpeq (w_rg0 (by omega) (by omega)) (w_rg0 (by omega) (by omega)) ⟨_, rfl⟩ (fun c4 => ?_) (fun c4 => ?_)
      · skip
        exact absurd c4 (by omega)
      · skip
        refine wa_iload_n (n := 1) rfl ?_
        refine wa_bipush (w_rg2 (by omega) (by omega)) ?_
        refine wa_icmpne (w_rg0 (by omega) (by omega)) (w_rg0 (by omega) (by omega)) ⟨_, rfl⟩ (fun c5 => ?_) (fun c5 => ?_)
        · skip
          exact absurd c5 (by omega)
        · skip
          refine wa_fall ⟨_, rfl⟩ ?_
          refine wa_aload_n (n := 0) rfl ?_
          refine wa_iconst ?_
          refine wa_iconst ?_
          refine wa_aload_n (n := 0) rfl ?_
          refine wa_iload_n (n := 2) rfl ?_
          refine wa_iconst ?_
          refine wa_isub ?_
          refine wa_iload_n (n := 2) rfl ?_
          refine wa_cv 215 rfl (wy_pr rfl) wt_215 (M2 := mS [217, 218]) rfl at_XK_areEqual ⟨_, rfl⟩ rfl rfl ⟨trivial, (Or.inr ⟨wy_pr rfl, mS_no rfl⟩), trivial, trivial⟩ ⟨trivial, trivial, (Or.inr ⟨wy_pr rfl, mS_no rfl⟩), trivial⟩ (fun _ _ q => q) ?_ (fun _ _ _ q => q)
          refine wa_aload_n (n := 0) rfl ?_
          refine wb_gf4 215 rfl (wy_pr rfl) wt_215 wf_8_3 (v := 216) wl_215_3 ?_
          refine wb_gf4 216 rfl (wy_pr rfl) wt_216 wf_7_0 (v := 217) wl_216_0 ?_
          refine wa_iload_n (n := 1) rfl ?_
          refine wb_bald 217 rfl (wy_pr rfl) wt_217 (n := (S 217 (-1))) (rfl) (by omega) (by omega) (v := kx) (hkx) (fun r6 => ?_)
          refine wa_aload_n (n := 0) rfl ?_
          refine wb_gf4 215 rfl (wy_pr rfl) wt_215 wf_8_3 (v := 216) wl_215_3 ?_
          refine wb_gf4 216 rfl (wy_pr rfl) wt_216 wf_7_0 (v := 217) wl_216_0 ?_
          refine wa_iload_n (n := 2) rfl ?_
          refine wb_bald 217 rfl (wy_pr rfl) wt_217 (n := (S 217 (-1))) (rfl) (by omega) (by omega) (v := ky) (hky) (fun r7 => ?_)
          refine wa_icmpeq (w_rg0 (by omega) (by omega)) (w_rg0 (by omega) (by omega)) ⟨_, rfl⟩ (fun c8 => ?_) (fun c8 => ?_)
          · skip
            refine wa_aload_n (n := 0) rfl ?_
            refine wb_gf4 215 rfl (wy_pr rfl) wt_215 wf_8_3 (v := 216) wl_215_3 ?_
            refine wb_gf4 216 rfl (wy_pr rfl) wt_216 wf_7_0 (v := 217) wl_216_0 ?_
            refine wa_iload_n (n := 1) rfl ?_
            refine wb_bald 217 rfl (wy_pr rfl) wt_217 (n := (S 217 (-1))) (rfl) (by omega) (by omega) (v := kx) (hkx) (fun r9 => ?_)
            refine wa_iconst ?_
            refine wa_icmpne (w_rg0 (by omega) (by omega)) (w_rg0 (by omega) (by omega)) ⟨_, rfl⟩ (fun c10 => ?_) (fun c10 => ?_)
            · skip
              refine wa_aload_n (n := 0) rfl ?_
              refine wb_gf4 215 rfl (wy_pr rfl) wt_215 wf_8_3 (v := 216) wl_215_3 ?_
              refine wb_gf4 216 rfl (wy_pr rfl) wt_216 wf_7_1 (v := 218) wl_216_1 ?_
              refine wa_iload_n (n := 1) rfl ?_
              refine wb_lald 218 rfl (wy_pr rfl) wt_218 (n := (S 217 (-1))) (bl1) (by omega) (by omega) (v := vx) (hvx) (fun r11 => ?_)
              refine wa_aload_n (n := 0) rfl ?_
              refine wb_gf4 215 rfl (wy_pr rfl) wt_215 wf_8_3 (v := 216) wl_215_3 ?_
              refine wb_gf4 216 rfl (wy_pr rfl) wt_216 wf_7_1 (v := 218) wl_216_1 ?_
              refine wa_iload_n (n := 2) rfl ?_
              refine wb_lald 218 rfl (wy_pr rfl) wt_218 (n := (S 217 (-1))) (bl1) (by omega) (by omega) (v := vy) (hvy) (fun r12 => ?_)
              refine wa_lcmp (w_rg1 (by omega) (by omega)) (w_rg1 (by omega) (by omega)) ?_
              refine wa_ifne (by have := @wb_lcmp_cases; exact w_lcmp_rg) ⟨_, rfl⟩ (fun c13 => ?_) (fun c13 => ?_)
              · skip
                have c13x := @wb_lcmp_cases vx vy
                refine wa_iconst ?_
                refine wa_fall ⟨_, rfl⟩ ?_
                refine wa_zreturn rfl (Or.inl rfl) ?_
                show wJ _ _ _ _ _ _ _ _ _ _
                refine wa_iload_n (n := 1) rfl ?_
                refine wa_bipush (w_rg2 (by omega) (by omega)) ?_
                refine wa_icmpne (w_rg0 (by omega) (by omega)) (w_rg0 (by omega) (by omega)) ⟨_, rfl⟩ (fun c14 => ?_) (fun c14 => ?_)
                · skip
                  refine wa_iconst ?_
                  refine wa_fall ⟨_, rfl⟩ ?_
                  refine wa_icmpne (w_rg0 (by omega) (by omega)) (w_rg0 (by omega) (by omega)) ⟨_, rfl⟩ (fun c15 => ?_) (fun c15 => ?_)
                  · skip
                    exact absurd c15 (by omega)
                  · skip
                    refine wb_lconst (m := 1) rfl ?_
                    refine wa_goto ⟨_, rfl⟩ ?_
                    refine wa_cv 215 rfl (wy_pr rfl) wt_215 (M2 := mS [217, 218]) rfl at_XK_give ⟨_, rfl⟩ rfl rfl ⟨trivial, (Or.inr ⟨wy_pr rfl, mS_no rfl⟩), trivial, trivial⟩ trivial (fun _ _ q => q) (gw_215 (S := S) (n := 2) (k := 1) (v := 1) (h := h) (c := c) (p := p) (ln := (S 217 (-1))) hC hI ⟨by omega, by omega⟩ ⟨by omega, by omega⟩ (bh) (bc) (bp) (rfl) (bl1) ⟨by omega, by omega⟩ ⟨by omega, by omega, by omega⟩ ⟨by omega, by omega⟩ ⟨by omega, by omega⟩) (fun oq16 Sq16 hp17 q16 => ?_)
                    rcases q16 with ⟨rfl, A16, ra16, rfl⟩
                    show wJ _ _ _ _ _ _ _ _ _ _
                    refine wa_goto ⟨_, rfl⟩ ?_
                    refine wa_return rfl ?_
                    refine ⟨rfl, A16, ?_, rfl⟩
                    repeat (first | rw [if_pos (by omega)] | rw [if_neg (by omega)])
                    exact ra16
                · skip
                  exact absurd c14 (by omega)
              · skip
                have c13x := @wb_lcmp_cases vx vy
                refine wa_iconst ?_
                refine wa_goto ⟨_, rfl⟩ ?_
                refine wa_zreturn rfl (Or.inr rfl) ?_
                show wJ _ _ _ _ _ _ _ _ _ _
                refine wa_iload_n (n := 1) rfl ?_
                refine wa_bipush (w_rg2 (by omega) (by omega)) ?_
                refine wa_icmpne (w_rg0 (by omega) (by omega)) (w_rg0 (by omega) (by omega)) ⟨_, rfl⟩ (fun c18 => ?_) (fun c18 => ?_)
                · skip
                  refine wa_iconst ?_
                  refine wa_fall ⟨_, rfl⟩ ?_
                  refine wa_icmpne (w_rg0 (by omega) (by omega)) (w_rg0 (by omega) (by omega)) ⟨_, rfl⟩ (fun c19 => ?_) (fun c19 => ?_)
                  · skip
                    refine wb_lconst (m := 0) rfl ?_
                    refine wa_fall ⟨_, rfl⟩ ?_
                    refine wa_cv 215 rfl (wy_pr rfl) wt_215 (M2 := mS [217, 218]) rfl at_XK_give ⟨_, rfl⟩ rfl rfl ⟨trivial, (Or.inr ⟨wy_pr rfl, mS_no rfl⟩), trivial, trivial⟩ trivial (fun _ _ q => q) (gw_215 (S := S) (n := 2) (k := 1) (v := 0) (h := h) (c := c) (p := p) (ln := (S 217 (-1))) hC hI ⟨by omega, by omega⟩ ⟨by omega, by omega⟩ (bh) (bc) (bp) (rfl) (bl1) ⟨by omega, by omega⟩ ⟨by omega, by omega, by omega⟩ ⟨by omega, by omega⟩ ⟨by omega, by omega⟩) (fun oq20 Sq20 hp21 q20 => ?_)
                    rcases q20 with ⟨rfl, A20, ra20, rfl⟩
                    show wJ _ _ _ _ _ _ _ _ _ _
                    refine wa_goto ⟨_, rfl⟩ ?_
                    refine wa_return rfl ?_
                    refine ⟨rfl, A20, ?_, rfl⟩
                    repeat (first | rw [if_pos (by omega)] | rw [if_neg (by omega)])
                    exact ra20
                  · skip
                    exact absurd c19 (by omega)
                · skip
                  exact absurd c18 (by omega)
            · skip
              exact absurd c10 (by omega)
          · skip
            refine wa_iconst ?_
            refine wa_zreturn rfl (Or.inl rfl) ?_
            show wJ _ _ _ _ _ _ _ _ _ _
            refine wa_iload_n (n := 1) rfl ?_
            refine wa_bipush (w_rg2 (by omega) (by omega)) ?_
            refine wa_icmpne (w_rg0 (by omega) (by omega)) (w_rg0 (by omega) (by omega)) ⟨_, rfl⟩ (fun c22 => ?_) (fun c22 => ?_)
            · skip
              refine wa_iconst ?_
              refine wa_fall ⟨_, rfl⟩ ?_
              refine wa_icmpne (w_rg0 (by omega) (by omega)) (w_rg0 (by omega) (by omega)) ⟨_, rfl⟩ (fun c23 => ?_) (fun c23 => ?_)
              · skip
                exact absurd c23 (by omega)
              · skip
                refine wb_lconst (m := 1) rfl ?_
                refine wa_goto ⟨_, rfl⟩ ?_
                refine wa_cv 215 rfl (wy_pr rfl) wt_215 (M2 := mS [217, 218]) rfl at_XK_give ⟨_, rfl⟩ rfl rfl ⟨trivial, (Or.inr ⟨wy_pr rfl, mS_no rfl⟩), trivial, trivial⟩ trivial (fun _ _ q => q) (gw_215 (S := S) (n := 2) (k := 1) (v := 1) (h := h) (c := c) (p := p) (ln := (S 217 (-1))) hC hI ⟨by omega, by omega⟩ ⟨by omega, by omega⟩ (bh) (bc) (bp) (rfl) (bl1) ⟨by omega, by omega⟩ ⟨by omega, by omega, by omega⟩ ⟨by omega, by omega⟩ ⟨by omega, by omega⟩) (fun oq24 Sq24 hp25 q24 => ?_)
                rcases q24 with ⟨rfl, A24, ra24, rfl⟩
                show wJ _ _ _ _ _ _ _ _ _ _
                refine wa_goto ⟨_, rfl⟩ ?_
                refine wa_return rfl ?_
                refine ⟨rfl, A24, ?_, rfl⟩
                repeat (first | rw [if_pos (by omega)] | rw [if_neg (by omega)])
                exact ra24
            · skip
              exact absurd c22 (by omega)
    · skip
      exact absurd c3 (by omega)
  · skip
    exact absurd c2 (by omega)

theorem x14n_226 {c p h kx ky vx vy : Int} (hP : xP 226 c p h S) (hky : S 228 (h - 1) = ky) (hvy : S 229 (h - 1) = vy) (hkx : S 228 (h - 1 - 1) = kx) (hvx : S 229 (h - 1 - 1) = vx) (hh1 : 2 ≤ h) (hk3 : ¬ (kx = 3 ∧ ky = 3)) : wJ (pe_GA xs) wY0 (mS [228, 229]) (d + 11) t_XK_operate ((pe_at t_XK_operate.bl 0).getD (0, [])).2 [(0, (2, 226)), (1, (0, 14))] [] S (fun o Z => o = .inl none ∧ sO 226 h c p (2) (1) (if kx = ky ∧ vx = vy then 1 else 0) S Z) := by
  obtain ⟨⟨hC, hI⟩, ⟨bc, bc0, bc1⟩, ⟨bp, bp0, bp1⟩, ⟨bh, bh0, bh1, bh2⟩, bl1, bl2, bl3⟩ := hP
  replace bp : S 231 (c - 1) = p := bp
  replace bh : S 227 2 = h := bh
  replace bh2 : h ≤ S 228 (-1) := bh2
  replace bl1 : S 229 (-1) = S 228 (-1) := bl1
  replace bl2 : 64 ≤ S 228 (-1) := bl2
  replace bl3 : S 228 (-1) ≤ 4095 := bl3
  refine wa_aload_n (n := 0) rfl ?_
  refine wb_gf4 226 rfl (wy_pr rfl) wt_226 wf_8_3 (v := 227) wl_226_3 ?_
  refine wb_gfi 227 rfl (wy_pr rfl) wt_227 wf_7_2 (v := h) (bh) (fun r1 => ?_)
  refine wa_iconst ?_
  refine wa_isub ?_
  refine wa_istore_n (n := 2) rfl ?_
  refine wa_iload_n (n := 1) rfl ?_
  refine wa_bipush (w_rg2 (by omega) (by omega)) ?_
  refine wa_icmpne (w_rg0 (by omega) (by omega)) (w_rg0 (by omega) (by omega)) ⟨_, rfl⟩ (fun c2 => ?_) (fun c2 => ?_)
  · skip
    refine wa_iload_n (n := 1) rfl ?_
    refine wa_bipush (w_rg2 (by omega) (by omega)) ?_
    refine wa_icmpne (w_rg0 (by omega) (by omega)) (w_rg0 (by omega) (by omega)) ⟨_, rfl⟩ (fun c3 => ?_) (fun c3 => ?_)
    · skip
      refine wa_iload_n (n := 1) rfl ?_
      refine wa_bipush (w_rg2 (by omega) (by omega)) ?_
      refine wa_icmpeq (w_rg0 (by omega) (by omega)) (w_rg0 (by omega) (by omega)) ⟨_, rfl⟩ (fun c4 => ?_) (fun c4 => ?_)
      · skip
        refine wa_aload_n (n := 0) rfl ?_
        refine wa_iconst ?_
        refine wa_iconst ?_
        refine wa_aload_n (n := 0) rfl ?_
        refine wa_iload_n (n := 2) rfl ?_
        refine wa_iconst ?_
        refine wa_isub ?_
        refine wa_iload_n (n := 2) rfl ?_
        refine wa_cv 226 rfl (wy_pr rfl) wt_226 (M2 := mS [228, 229]) rfl at_XK_areEqual ⟨_, rfl⟩ rfl rfl ⟨trivial, (Or.inr ⟨wy_pr rfl, mS_no rfl⟩), trivial, trivial⟩ ⟨trivial, trivial, (Or.inr ⟨wy_pr rfl, mS_no rfl⟩), trivial⟩ (fun _ _ q => q) ?_ (fun _ _ _ q => q)
        refine wa_aload_n (n := 0) rfl ?_
        refine wb_gf4 226 rfl (wy_pr rfl) wt_226 wf_8_3 (v := 227) wl_226_3 ?_
        refine wb_gf4 227 rfl (wy_pr rfl) wt_227 wf_7_0 (v := 228) wl_227_0 ?_
        refine wa_iload_n (n := 1) rfl ?_
        refine wb_bald 228 rfl (wy_pr rfl) wt_228 (n := (S 228 (-1))) (rfl) (by omega) (by omega) (v := kx) (hkx) (fun r5 => ?_)
        refine wa_aload_n (n := 0) rfl ?_
        refine wb_gf4 226 rfl (wy_pr rfl) wt_226 wf_8_3 (v := 227) wl_226_3 ?_
        refine wb_gf4 227 rfl (wy_pr rfl) wt_227 wf_7_0 (v := 228) wl_227_0 ?_
        refine wa_iload_n (n := 2) rfl ?_
        refine wb_bald 228 rfl (wy_pr rfl) wt_228 (n := (S 228 (-1))) (rfl) (by omega) (by omega) (v := ky) (hky) (fun r6 => ?_)
        refine wa_icmpeq (w_rg0 (by omega) (by omega)) (w_rg0 (by omega) (by omega)) ⟨_, rfl⟩ (fun c7 => ?_) (fun c7 => ?_)
        · skip
          refine wa_aload_n (n := 0) rfl ?_
          refine wb_gf4 226 rfl (wy_pr rfl) wt_226 wf_8_3 (v := 227) wl_226_3 ?_
          refine wb_gf4 227 rfl (wy_pr rfl) wt_227 wf_7_0 (v := 228) wl_227_0 ?_
          refine wa_iload_n (n := 1) rfl ?_
          refine wb_bald 228 rfl (wy_pr rfl) wt_228 (n := (S 228 (-1))) (rfl) (by omega) (by omega) (v := kx) (hkx) (fun r8 => ?_)
          refine wa_iconst ?_
          refine wa_icmpne (w_rg0 (by omega) (by omega)) (w_rg0 (by omega) (by omega)) ⟨_, rfl⟩ (fun c9 => ?_) (fun c9 => ?_)
          · skip
            refine wa_aload_n (n := 0) rfl ?_
            refine wb_gf4 226 rfl (wy_pr rfl) wt_226 wf_8_3 (v := 227) wl_226_3 ?_
            refine wb_gf4 227 rfl (wy_pr rfl) wt_227 wf_7_1 (v := 229) wl_227_1 ?_
            refine wa_iload_n (n := 1) rfl ?_
            refine wb_lald 229 rfl (wy_pr rfl) wt_229 (n := (S 228 (-1))) (bl1) (by omega) (by omega) (v := vx) (hvx) (fun r10 => ?_)
            refine wa_aload_n (n := 0) rfl ?_
            refine wb_gf4 226 rfl (wy_pr rfl) wt_226 wf_8_3 (v := 227) wl_226_3 ?_
            refine wb_gf4 227 rfl (wy_pr rfl) wt_227 wf_7_1 (v := 229) wl_227_1 ?_
            refine wa_iload_n (n := 2) rfl ?_
            refine wb_lald 229 rfl (wy_pr rfl) wt_229 (n := (S 228 (-1))) (bl1) (by omega) (by omega) (v := vy) (hvy) (fun r11 => ?_)
            refine wa_lcmp (w_rg1 (by omega) (by omega)) (w_rg1 (by omega) (by omega)) ?_
            refine wa_ifne (by have := @wb_lcmp_cases; exact w_lcmp_rg) ⟨_, rfl⟩ (fun c12 => ?_) (fun c12 => ?_)
            · skip
              have c12x := @wb_lcmp_cases vx vy
              refine wa_iconst ?_
              refine wa_fall ⟨_, rfl⟩ ?_
              refine wa_zreturn rfl (Or.inl rfl) ?_
              show wJ _ _ _ _ _ _ _ _ _ _
              refine wa_iload_n (n := 1) rfl ?_
              refine wa_bipush (w_rg2 (by omega) (by omega)) ?_
              refine wa_icmpne (w_rg0 (by omega) (by omega)) (w_rg0 (by omega) (by omega)) ⟨_, rfl⟩ (fun c13 => ?_) (fun c13 => ?_)
              · skip
                exact absurd c13 (by omega)
              · skip
                refine wa_iconst ?_
                refine wa_goto ⟨_, rfl⟩ ?_
                refine wa_icmpne (w_rg0 (by omega) (by omega)) (w_rg0 (by omega) (by omega)) ⟨_, rfl⟩ (fun c14 => ?_) (fun c14 => ?_)
                · skip
                  refine wb_lconst (m := 0) rfl ?_
                  refine wa_fall ⟨_, rfl⟩ ?_
                  refine wa_cv 226 rfl (wy_pr rfl) wt_226 (M2 := mS [228, 229]) rfl at_XK_give ⟨_, rfl⟩ rfl rfl ⟨trivial, (Or.inr ⟨wy_pr rfl, mS_no rfl⟩), trivial, trivial⟩ trivial (fun _ _ q => q) (gw_226 (S := S) (n := 2) (k := 1) (v := 0) (h := h) (c := c) (p := p) (ln := (S 228 (-1))) hC hI ⟨by omega, by omega⟩ ⟨by omega, by omega⟩ (bh) (bc) (bp) (rfl) (bl1) ⟨by omega, by omega⟩ ⟨by omega, by omega, by omega⟩ ⟨by omega, by omega⟩ ⟨by omega, by omega⟩) (fun oq15 Sq15 hp16 q15 => ?_)
                  rcases q15 with ⟨rfl, A15, ra15, rfl⟩
                  show wJ _ _ _ _ _ _ _ _ _ _
                  refine wa_goto ⟨_, rfl⟩ ?_
                  refine wa_return rfl ?_
                  refine ⟨rfl, A15, ?_, rfl⟩
                  repeat (first | rw [if_pos (by omega)] | rw [if_neg (by omega)])
                  exact ra15
                · skip
                  exact absurd c14 (by omega)
            · skip
              have c12x := @wb_lcmp_cases vx vy
              refine wa_iconst ?_
              refine wa_goto ⟨_, rfl⟩ ?_
              refine wa_zreturn rfl (Or.inr rfl) ?_
              show wJ _ _ _ _ _ _ _ _ _ _
              refine wa_iload_n (n := 1) rfl ?_
              refine wa_bipush (w_rg2 (by omega) (by omega)) ?_
              refine wa_icmpne (w_rg0 (by omega) (by omega)) (w_rg0 (by omega) (by omega)) ⟨_, rfl⟩ (fun c17 => ?_) (fun c17 => ?_)
              · skip
                exact absurd c17 (by omega)
              · skip
                refine wa_iconst ?_
                refine wa_goto ⟨_, rfl⟩ ?_
                refine wa_icmpne (w_rg0 (by omega) (by omega)) (w_rg0 (by omega) (by omega)) ⟨_, rfl⟩ (fun c18 => ?_) (fun c18 => ?_)
                · skip
                  exact absurd c18 (by omega)
                · skip
                  refine wb_lconst (m := 1) rfl ?_
                  refine wa_goto ⟨_, rfl⟩ ?_
                  refine wa_cv 226 rfl (wy_pr rfl) wt_226 (M2 := mS [228, 229]) rfl at_XK_give ⟨_, rfl⟩ rfl rfl ⟨trivial, (Or.inr ⟨wy_pr rfl, mS_no rfl⟩), trivial, trivial⟩ trivial (fun _ _ q => q) (gw_226 (S := S) (n := 2) (k := 1) (v := 1) (h := h) (c := c) (p := p) (ln := (S 228 (-1))) hC hI ⟨by omega, by omega⟩ ⟨by omega, by omega⟩ (bh) (bc) (bp) (rfl) (bl1) ⟨by omega, by omega⟩ ⟨by omega, by omega, by omega⟩ ⟨by omega, by omega⟩ ⟨by omega, by omega⟩) (fun oq19 Sq19 hp20 q19 => ?_)
                  rcases q19 with ⟨rfl, A19, ra19, rfl⟩
                  show wJ _ _ _ _ _ _ _ _ _ _
                  refine wa_goto ⟨_, rfl⟩ ?_
                  refine wa_return rfl ?_
                  refine ⟨rfl, A19, ?_, rfl⟩
                  repeat (first | rw [if_pos (by omega)] | rw [if_neg (by omega)])
                  exact ra19
          · skip
            exact absurd c9 (by omega)
        · skip
          refine wa_iconst ?_
          refine wa_zreturn rfl (Or.inl rfl) ?_
          show wJ _ _ _ _ _ _ _ _ _ _
          refine wa_iload_n (n := 1) rfl ?_
          refine wa_bipush (w_rg2 (by omega) (by omega)) ?_
          refine wa_icmpne (w_rg0 (by omega) (by omega)) (w_rg0 (by omega) (by omega)) ⟨_, rfl⟩ (fun c21 => ?_) (fun c21 => ?_)
          · skip
            exact absurd c21 (by omega)
          · skip
            refine wa_iconst ?_
            refine wa_goto ⟨_, rfl⟩ ?_
            refine wa_icmpne (w_rg0 (by omega) (by omega)) (w_rg0 (by omega) (by omega)) ⟨_, rfl⟩ (fun c22 => ?_) (fun c22 => ?_)
            · skip
              refine wb_lconst (m := 0) rfl ?_
              refine wa_fall ⟨_, rfl⟩ ?_
              refine wa_cv 226 rfl (wy_pr rfl) wt_226 (M2 := mS [228, 229]) rfl at_XK_give ⟨_, rfl⟩ rfl rfl ⟨trivial, (Or.inr ⟨wy_pr rfl, mS_no rfl⟩), trivial, trivial⟩ trivial (fun _ _ q => q) (gw_226 (S := S) (n := 2) (k := 1) (v := 0) (h := h) (c := c) (p := p) (ln := (S 228 (-1))) hC hI ⟨by omega, by omega⟩ ⟨by omega, by omega⟩ (bh) (bc) (bp) (rfl) (bl1) ⟨by omega, by omega⟩ ⟨by omega, by omega, by omega⟩ ⟨by omega, by omega⟩ ⟨by omega, by omega⟩) (fun oq23 Sq23 hp24 q23 => ?_)
              rcases q23 with ⟨rfl, A23, ra23, rfl⟩
              show wJ _ _ _ _ _ _ _ _ _ _
              refine wa_goto ⟨_, rfl⟩ ?_
              refine wa_return rfl ?_
              refine ⟨rfl, A23, ?_, rfl⟩
              repeat (first | rw [if_pos (by omega)] | rw [if_neg (by omega)])
              exact ra23
            · skip
              exact absurd c22 (by omega)
      · skip
        exact absurd c4 (by omega)
    · skip
      exact absurd c3 (by omega)
  · skip
    exact absurd c2 (by omega)

theorem x15n_226 {c p h kx ky vx vy : Int} (hP : xP 226 c p h S) (hky : S 228 (h - 1) = ky) (hvy : S 229 (h - 1) = vy) (hkx : S 228 (h - 1 - 1) = kx) (hvx : S 229 (h - 1 - 1) = vx) (hh1 : 2 ≤ h) (hk3 : ¬ (kx = 3 ∧ ky = 3)) : wJ (pe_GA xs) wY0 (mS [228, 229]) (d + 11) t_XK_operate ((pe_at t_XK_operate.bl 0).getD (0, [])).2 [(0, (2, 226)), (1, (0, 15))] [] S (fun o Z => o = .inl none ∧ sO 226 h c p (2) (1) (if kx = ky ∧ vx = vy then 0 else 1) S Z) := by
  obtain ⟨⟨hC, hI⟩, ⟨bc, bc0, bc1⟩, ⟨bp, bp0, bp1⟩, ⟨bh, bh0, bh1, bh2⟩, bl1, bl2, bl3⟩ := hP
  replace bp : S 231 (c - 1) = p := bp
  replace bh : S 227 2 = h := bh
  replace bh2 : h ≤ S 228 (-1) := bh2
  replace bl1 : S 229 (-1) = S 228 (-1) := bl1
  replace bl2 : 64 ≤ S 228 (-1) := bl2
  replace bl3 : S 228 (-1) ≤ 4095 := bl3
  refine wa_aload_n (n := 0) rfl ?_
  refine wb_gf4 226 rfl (wy_pr rfl) wt_226 wf_8_3 (v := 227) wl_226_3 ?_
  refine wb_gfi 227 rfl (wy_pr rfl) wt_227 wf_7_2 (v := h) (bh) (fun r1 => ?_)
  refine wa_iconst ?_
  refine wa_isub ?_
  refine wa_istore_n (n := 2) rfl ?_
  refine wa_iload_n (n := 1) rfl ?_
  refine wa_bipush (w_rg2 (by omega) (by omega)) ?_
  refine wa_icmpne (w_rg0 (by omega) (by omega)) (w_rg0 (by omega) (by omega)) ⟨_, rfl⟩ (fun c2 => ?_) (fun c2 => ?_)
  · skip
    refine wa_iload_n (n := 1) rfl ?_
    refine wa_bipush (w_rg2 (by omega) (by omega)) ?_
    refine wa_icmpne (w_rg0 (by omega) (by omega)) (w_rg0 (by omega) (by omega)) ⟨_, rfl⟩ (fun c3 => ?_) (fun c3 => ?_)
    · skip
      refine wa_iload_n (n := 1) rfl ?_
      refine wa_bipush (w_rg2 (by omega) (by omega)) ?_
      refine wa_icmpeq (w_rg0 (by omega) (by omega)) (w_rg0 (by omega) (by omega)) ⟨_, rfl⟩ (fun c4 => ?_) (fun c4 => ?_)
      · skip
        exact absurd c4 (by omega)
      · skip
        refine wa_iload_n (n := 1) rfl ?_
        refine wa_bipush (w_rg2 (by omega) (by omega)) ?_
        refine wa_icmpne (w_rg0 (by omega) (by omega)) (w_rg0 (by omega) (by omega)) ⟨_, rfl⟩ (fun c5 => ?_) (fun c5 => ?_)
        · skip
          exact absurd c5 (by omega)
        · skip
          refine wa_fall ⟨_, rfl⟩ ?_
          refine wa_aload_n (n := 0) rfl ?_
          refine wa_iconst ?_
          refine wa_iconst ?_
          refine wa_aload_n (n := 0) rfl ?_
          refine wa_iload_n (n := 2) rfl ?_
          refine wa_iconst ?_
          refine wa_isub ?_
          refine wa_iload_n (n := 2) rfl ?_
          refine wa_cv 226 rfl (wy_pr rfl) wt_226 (M2 := mS [228, 229]) rfl at_XK_areEqual ⟨_, rfl⟩ rfl rfl ⟨trivial, (Or.inr ⟨wy_pr rfl, mS_no rfl⟩), trivial, trivial⟩ ⟨trivial, trivial, (Or.inr ⟨wy_pr rfl, mS_no rfl⟩), trivial⟩ (fun _ _ q => q) ?_ (fun _ _ _ q => q)
          refine wa_aload_n (n := 0) rfl ?_
          refine wb_gf4 226 rfl (wy_pr rfl) wt_226 wf_8_3 (v := 227) wl_226_3 ?_
          refine wb_gf4 227 rfl (wy_pr rfl) wt_227 wf_7_0 (v := 228) wl_227_0 ?_
          refine wa_iload_n (n := 1) rfl ?_
          refine wb_bald 228 rfl (wy_pr rfl) wt_228 (n := (S 228 (-1))) (rfl) (by omega) (by omega) (v := kx) (hkx) (fun r6 => ?_)
          refine wa_aload_n (n := 0) rfl ?_
          refine wb_gf4 226 rfl (wy_pr rfl) wt_226 wf_8_3 (v := 227) wl_226_3 ?_
          refine wb_gf4 227 rfl (wy_pr rfl) wt_227 wf_7_0 (v := 228) wl_227_0 ?_
          refine wa_iload_n (n := 2) rfl ?_
          refine wb_bald 228 rfl (wy_pr rfl) wt_228 (n := (S 228 (-1))) (rfl) (by omega) (by omega) (v := ky) (hky) (fun r7 => ?_)
          refine wa_icmpeq (w_rg0 (by omega) (by omega)) (w_rg0 (by omega) (by omega)) ⟨_, rfl⟩ (fun c8 => ?_) (fun c8 => ?_)
          · skip
            refine wa_aload_n (n := 0) rfl ?_
            refine wb_gf4 226 rfl (wy_pr rfl) wt_226 wf_8_3 (v := 227) wl_226_3 ?_
            refine wb_gf4 227 rfl (wy_pr rfl) wt_227 wf_7_0 (v := 228) wl_227_0 ?_
            refine wa_iload_n (n := 1) rfl ?_
            refine wb_bald 228 rfl (wy_pr rfl) wt_228 (n := (S 228 (-1))) (rfl) (by omega) (by omega) (v := kx) (hkx) (fun r9 => ?_)
            refine wa_iconst ?_
            refine wa_icmpne (w_rg0 (by omega) (by omega)) (w_rg0 (by omega) (by omega)) ⟨_, rfl⟩ (fun c10 => ?_) (fun c10 => ?_)
            · skip
              refine wa_aload_n (n := 0) rfl ?_
              refine wb_gf4 226 rfl (wy_pr rfl) wt_226 wf_8_3 (v := 227) wl_226_3 ?_
              refine wb_gf4 227 rfl (wy_pr rfl) wt_227 wf_7_1 (v := 229) wl_227_1 ?_
              refine wa_iload_n (n := 1) rfl ?_
              refine wb_lald 229 rfl (wy_pr rfl) wt_229 (n := (S 228 (-1))) (bl1) (by omega) (by omega) (v := vx) (hvx) (fun r11 => ?_)
              refine wa_aload_n (n := 0) rfl ?_
              refine wb_gf4 226 rfl (wy_pr rfl) wt_226 wf_8_3 (v := 227) wl_226_3 ?_
              refine wb_gf4 227 rfl (wy_pr rfl) wt_227 wf_7_1 (v := 229) wl_227_1 ?_
              refine wa_iload_n (n := 2) rfl ?_
              refine wb_lald 229 rfl (wy_pr rfl) wt_229 (n := (S 228 (-1))) (bl1) (by omega) (by omega) (v := vy) (hvy) (fun r12 => ?_)
              refine wa_lcmp (w_rg1 (by omega) (by omega)) (w_rg1 (by omega) (by omega)) ?_
              refine wa_ifne (by have := @wb_lcmp_cases; exact w_lcmp_rg) ⟨_, rfl⟩ (fun c13 => ?_) (fun c13 => ?_)
              · skip
                have c13x := @wb_lcmp_cases vx vy
                refine wa_iconst ?_
                refine wa_fall ⟨_, rfl⟩ ?_
                refine wa_zreturn rfl (Or.inl rfl) ?_
                show wJ _ _ _ _ _ _ _ _ _ _
                refine wa_iload_n (n := 1) rfl ?_
                refine wa_bipush (w_rg2 (by omega) (by omega)) ?_
                refine wa_icmpne (w_rg0 (by omega) (by omega)) (w_rg0 (by omega) (by omega)) ⟨_, rfl⟩ (fun c14 => ?_) (fun c14 => ?_)
                · skip
                  refine wa_iconst ?_
                  refine wa_fall ⟨_, rfl⟩ ?_
                  refine wa_icmpne (w_rg0 (by omega) (by omega)) (w_rg0 (by omega) (by omega)) ⟨_, rfl⟩ (fun c15 => ?_) (fun c15 => ?_)
                  · skip
                    exact absurd c15 (by omega)
                  · skip
                    refine wb_lconst (m := 1) rfl ?_
                    refine wa_goto ⟨_, rfl⟩ ?_
                    refine wa_cv 226 rfl (wy_pr rfl) wt_226 (M2 := mS [228, 229]) rfl at_XK_give ⟨_, rfl⟩ rfl rfl ⟨trivial, (Or.inr ⟨wy_pr rfl, mS_no rfl⟩), trivial, trivial⟩ trivial (fun _ _ q => q) (gw_226 (S := S) (n := 2) (k := 1) (v := 1) (h := h) (c := c) (p := p) (ln := (S 228 (-1))) hC hI ⟨by omega, by omega⟩ ⟨by omega, by omega⟩ (bh) (bc) (bp) (rfl) (bl1) ⟨by omega, by omega⟩ ⟨by omega, by omega, by omega⟩ ⟨by omega, by omega⟩ ⟨by omega, by omega⟩) (fun oq16 Sq16 hp17 q16 => ?_)
                    rcases q16 with ⟨rfl, A16, ra16, rfl⟩
                    show wJ _ _ _ _ _ _ _ _ _ _
                    refine wa_goto ⟨_, rfl⟩ ?_
                    refine wa_return rfl ?_
                    refine ⟨rfl, A16, ?_, rfl⟩
                    repeat (first | rw [if_pos (by omega)] | rw [if_neg (by omega)])
                    exact ra16
                · skip
                  exact absurd c14 (by omega)
              · skip
                have c13x := @wb_lcmp_cases vx vy
                refine wa_iconst ?_
                refine wa_goto ⟨_, rfl⟩ ?_
                refine wa_zreturn rfl (Or.inr rfl) ?_
                show wJ _ _ _ _ _ _ _ _ _ _
                refine wa_iload_n (n := 1) rfl ?_
                refine wa_bipush (w_rg2 (by omega) (by omega)) ?_
                refine wa_icmpne (w_rg0 (by omega) (by omega)) (w_rg0 (by omega) (by omega)) ⟨_, rfl⟩ (fun c18 => ?_) (fun c18 => ?_)
                · skip
                  refine wa_iconst ?_
                  refine wa_fall ⟨_, rfl⟩ ?_
                  refine wa_icmpne (w_rg0 (by omega) (by omega)) (w_rg0 (by omega) (by omega)) ⟨_, rfl⟩ (fun c19 => ?_) (fun c19 => ?_)
                  · skip
                    refine wb_lconst (m := 0) rfl ?_
                    refine wa_fall ⟨_, rfl⟩ ?_
                    refine wa_cv 226 rfl (wy_pr rfl) wt_226 (M2 := mS [228, 229]) rfl at_XK_give ⟨_, rfl⟩ rfl rfl ⟨trivial, (Or.inr ⟨wy_pr rfl, mS_no rfl⟩), trivial, trivial⟩ trivial (fun _ _ q => q) (gw_226 (S := S) (n := 2) (k := 1) (v := 0) (h := h) (c := c) (p := p) (ln := (S 228 (-1))) hC hI ⟨by omega, by omega⟩ ⟨by omega, by omega⟩ (bh) (bc) (bp) (rfl) (bl1) ⟨by omega, by omega⟩ ⟨by omega, by omega, by omega⟩ ⟨by omega, by omega⟩ ⟨by omega, by omega⟩) (fun oq20 Sq20 hp21 q20 => ?_)
                    rcases q20 with ⟨rfl, A20, ra20, rfl⟩
                    show wJ _ _ _ _ _ _ _ _ _ _
                    refine wa_goto ⟨_, rfl⟩ ?_
                    refine wa_return rfl ?_
                    refine ⟨rfl, A20, ?_, rfl⟩
                    repeat (first | rw [if_pos (by omega)] | rw [if_neg (by omega)])
                    exact ra20
                  · skip
                    exact absurd c19 (by omega)
                · skip
                  exact absurd c18 (by omega)
            · skip
              exact absurd c10 (by omega)
          · skip
            refine wa_iconst ?_
            refine wa_zreturn rfl (Or.inl rfl) ?_
            show wJ _ _ _ _ _ _ _ _ _ _
            refine wa_iload_n (n := 1) rfl ?_
            refine wa_bipush (w_rg2 (by omega) (by omega)) ?_
            refine wa_icmpne (w_rg0 (by omega) (by omega)) (w_rg0 (by omega) (by omega)) ⟨_, rfl⟩ (fun c22 => ?_) (fun c22 => ?_)
            · skip
              refine wa_iconst ?_
              refine wa_fall ⟨_, rfl⟩ ?_
              refine wa_icmpne (w_rg0 (by omega) (by omega)) (w_rg0 (by omega) (by omega)) ⟨_, rfl⟩ (fun c23 => ?_) (fun c23 => ?_)
              · skip
                exact absurd c23 (by omega)
              · skip
                refine wb_lconst (m := 1) rfl ?_
                refine wa_goto ⟨_, rfl⟩ ?_
                refine wa_cv 226 rfl (wy_pr rfl) wt_226 (M2 := mS [228, 229]) rfl at_XK_give ⟨_, rfl⟩ rfl rfl ⟨trivial, (Or.inr ⟨wy_pr rfl, mS_no rfl⟩), trivial, trivial⟩ trivial (fun _ _ q => q) (gw_226 (S := S) (n := 2) (k := 1) (v := 1) (h := h) (c := c) (p := p) (ln := (S 228 (-1))) hC hI ⟨by omega, by omega⟩ ⟨by omega, by omega⟩ (bh) (bc) (bp) (rfl) (bl1) ⟨by omega, by omega⟩ ⟨by omega, by omega, by omega⟩ ⟨by omega, by omega⟩ ⟨by omega, by omega⟩) (fun oq24 Sq24 hp25 q24 => ?_)
                rcases q24 with ⟨rfl, A24, ra24, rfl⟩
                show wJ _ _ _ _ _ _ _ _ _ _
                refine wa_goto ⟨_, rfl⟩ ?_
                refine wa_return rfl ?_
                refine ⟨rfl, A24, ?_, rfl⟩
                repeat (first | rw [if_pos (by omega)] | rw [if_neg (by omega)])
                exact ra24
            · skip
              exact absurd c22 (by omega)
    · skip
      exact absurd c3 (by omega)
  · skip
    exact absurd c2 (by omega)

theorem y14n {t c p h tp kx ky vx vy : Int} (hP : mP t c p h tp S) (hky : S 363 (2100 * t + h - 1) = ky) (hvy : S 364 (2100 * t + h - 1) = vy) (hkx : S 363 (2100 * t + h - 1 - 1) = kx) (hvx : S 364 (2100 * t + h - 1 - 1) = vx) (hh1 : 2 ≤ h) (hk3 : ¬ (kx = 3 ∧ ky = 3)) : wJ (pe_GA xs) wY0 M (d + 11) t_M_operators ((pe_at t_M_operators.bl 0).getD (0, [])).2 [(0, (2, 237)), (1, (0, 14))] [] S (fun o Z => o = .inl none ∧ pXZ t h 1 (if kx = ky ∧ vx = vy then 1 else 0) S = Z) := by
  obtain ⟨hM, ⟨mt, mt0, mt1⟩, mp, mf, ⟨mc, mc0, mc1⟩, ⟨mtp, mtq⟩, ⟨mpa, mp0, mp1⟩, mh, mh0, mh1⟩ := hP
  refine wa_aload_n (n := 0) rfl ?_
  refine wa_cv 237 rfl (wy_pr rfl) wt_237 (M2 := fun _ => False) rfl at_M_h ⟨_, rfl⟩ rfl rfl ⟨(Or.inr ⟨wy_pr rfl, fun q => q⟩), trivial, trivial⟩ trivial (fun _ _ q => False.elim q) ?_ (fun _ _ _ q => q)
  refine wa_aload_n (n := 0) rfl ?_
  refine wb_gfi 237 rfl (wy_pr rfl) wt_237 wf_15_152 (v := (2100 * t)) (mp) (fun r1 => ?_)
  refine wa_aload_n (n := 0) rfl ?_
  refine wb_gf4 237 rfl (wy_pr rfl) wt_237 wf_15_134 (v := 359) wl_237_134 ?_
  refine wa_aload_n (n := 0) rfl ?_
  refine wb_gfi 237 rfl (wy_pr rfl) wt_237 wf_15_151 (v := t) (mt) (fun r2 => ?_)
  refine wb_iald 359 rfl (wy_pr rfl) wt_359 (n := 2) ((ml_359 hM)) (by omega) (by omega) (v := h) (mh) (fun r3 => ?_)
  refine wa_iadd ?_
  refine wa_ireturn rfl ?_
  show wJ _ _ _ _ _ _ _ _ _ _
  refine wa_iconst ?_
  refine wa_isub ?_
  refine wa_istore_n (n := 2) rfl ?_
  refine wa_iload_n (n := 2) rfl ?_
  refine wa_iconst ?_
  refine wa_isub ?_
  refine wa_istore_n (n := 3) rfl ?_
  refine wa_iload_n (n := 1) rfl ?_
  refine wa_iconst ?_
  refine wa_icmpne (w_rg0 (by omega) (by omega)) (w_rg0 (by omega) (by omega)) ⟨_, rfl⟩ (fun c4 => ?_) (fun c4 => ?_)
  · skip
    refine wa_iload_n (n := 1) rfl ?_
    refine wa_bipush (w_rg2 (by omega) (by omega)) ?_
    refine wa_icmpne (w_rg0 (by omega) (by omega)) (w_rg0 (by omega) (by omega)) ⟨_, rfl⟩ (fun c5 => ?_) (fun c5 => ?_)
    · skip
      refine wa_iload_n (n := 1) rfl ?_
      refine wa_bipush (w_rg2 (by omega) (by omega)) ?_
      refine wa_icmpne (w_rg0 (by omega) (by omega)) (w_rg0 (by omega) (by omega)) ⟨_, rfl⟩ (fun c6 => ?_) (fun c6 => ?_)
      · skip
        refine wa_iload_n (n := 1) rfl ?_
        refine wa_bipush (w_rg2 (by omega) (by omega)) ?_
        refine wa_icmpne (w_rg0 (by omega) (by omega)) (w_rg0 (by omega) (by omega)) ⟨_, rfl⟩ (fun c7 => ?_) (fun c7 => ?_)
        · skip
          refine wa_iload_n (n := 1) rfl ?_
          refine wa_bipush (w_rg2 (by omega) (by omega)) ?_
          refine wa_icmpge (w_rg0 (by omega) (by omega)) (w_rg0 (by omega) (by omega)) ⟨_, rfl⟩ (fun c8 => ?_) (fun c8 => ?_)
          · skip
            refine wa_aload_n (n := 0) rfl ?_
            refine wa_iload_n (n := 1) rfl ?_
            refine wa_iload_n (n := 3) rfl ?_
            refine wa_iload_n (n := 2) rfl ?_
            refine wa_cv 237 rfl (wy_pr rfl) wt_237 (M2 := fun _ => False) rfl at_M_compares ⟨_, rfl⟩ rfl rfl ⟨trivial, trivial, (Or.inr ⟨wy_pr rfl, fun q => q⟩), trivial, trivial⟩ trivial (fun _ _ q => False.elim q) ?_ (fun _ _ _ q => q)
            refine wa_iload_n (n := 1) rfl ?_
            refine wa_bipush (w_rg2 (by omega) (by omega)) ?_
            refine wa_icmpeq (w_rg0 (by omega) (by omega)) (w_rg0 (by omega) (by omega)) ⟨_, rfl⟩ (fun c9 => ?_) (fun c9 => ?_)
            · skip
              refine wa_aload_n (n := 0) rfl ?_
              refine wa_aload_n (n := 0) rfl ?_
              refine wb_gf4 237 rfl (wy_pr rfl) wt_237 wf_15_138 (v := 363) wl_237_138 ?_
              refine wa_iload_n (n := 2) rfl ?_
              refine wb_iald 363 rfl (wy_pr rfl) wt_363 (n := 4200) ((ml_363 hM)) (by omega) (by omega) (v := kx) (hkx) (fun r10 => ?_)
              refine wa_aload_n (n := 0) rfl ?_
              refine wb_gf4 237 rfl (wy_pr rfl) wt_237 wf_15_139 (v := 364) wl_237_139 ?_
              refine wa_iload_n (n := 2) rfl ?_
              refine wb_lald 364 rfl (wy_pr rfl) wt_364 (n := 4200) ((ml_364 hM)) (by omega) (by omega) (v := vx) (hvx) (fun r11 => ?_)
              refine wa_aload_n (n := 0) rfl ?_
              refine wb_gf4 237 rfl (wy_pr rfl) wt_237 wf_15_138 (v := 363) wl_237_138 ?_
              refine wa_iload_n (n := 3) rfl ?_
              refine wb_iald 363 rfl (wy_pr rfl) wt_363 (n := 4200) ((ml_363 hM)) (by omega) (by omega) (v := ky) (hky) (fun r12 => ?_)
              refine wa_aload_n (n := 0) rfl ?_
              refine wb_gf4 237 rfl (wy_pr rfl) wt_237 wf_15_139 (v := 364) wl_237_139 ?_
              refine wa_iload_n (n := 3) rfl ?_
              refine wb_lald 364 rfl (wy_pr rfl) wt_364 (n := 4200) ((ml_364 hM)) (by omega) (by omega) (v := vy) (hvy) (fun r13 => ?_)
              refine wa_cv 237 rfl (wy_pr rfl) wt_237 (M2 := fun _ => False) rfl at_M_alike ⟨_, rfl⟩ rfl rfl ⟨(Or.inr ⟨wy_pr rfl, fun q => q⟩), trivial, trivial, trivial, trivial⟩ trivial (fun _ _ q => False.elim q) ?_ (fun _ _ _ q => q)
              refine wa_iload_n (n := 1) rfl ?_
              refine wa_iconst ?_
              refine wa_icmpne (w_rg0 (by omega) (by omega)) (w_rg0 (by omega) (by omega)) ⟨_, rfl⟩ (fun c14 => ?_) (fun c14 => ?_)
              · skip
                refine wa_iload_n (n := 1) rfl ?_
                refine wa_lload_n (n := 2) rfl ?_
                refine wa_iload (n := 4) rfl ?_
                refine wa_lload (n := 5) rfl ?_
                refine wa_cs (M2 := fun _ => False) rfl at_M_isSame ⟨_, rfl⟩ rfl rfl ⟨(Or.inr ⟨wy_pr rfl, fun q => q⟩), trivial, trivial, trivial, trivial, trivial⟩ trivial (fun _ _ q => False.elim q) ?_ (fun _ _ _ q => q)
                refine wa_iload_n (n := 0) rfl ?_
                refine wa_iload_n (n := 3) rfl ?_
                refine wa_icmpne (w_rg0 (by omega) (by omega)) (w_rg0 (by omega) (by omega)) ⟨_, rfl⟩ (fun c15 => ?_) (fun c15 => ?_)
                · skip
                  refine wa_iconst ?_
                  refine wa_fall ⟨_, rfl⟩ ?_
                  refine wa_zreturn rfl (Or.inl rfl) ?_
                  show wJ _ _ _ _ _ _ _ _ _ _
                  refine wa_fall ⟨_, rfl⟩ ?_
                  refine wa_zreturn rfl (Or.inl rfl) ?_
                  show wJ _ _ _ _ _ _ _ _ _ _
                  refine wa_istore (n := 4) rfl ?_
                  refine wa_aload_n (n := 0) rfl ?_
                  refine wa_iconst ?_
                  refine wa_iload (n := 4) rfl ?_
                  refine wa_iload_n (n := 1) rfl ?_
                  refine wa_bipush (w_rg2 (by omega) (by omega)) ?_
                  refine wa_icmpne (w_rg0 (by omega) (by omega)) (w_rg0 (by omega) (by omega)) ⟨_, rfl⟩ (fun c16 => ?_) (fun c16 => ?_)
                  · skip
                    exact absurd c16 (by omega)
                  · skip
                    refine wa_iconst ?_
                    refine wa_goto ⟨_, rfl⟩ ?_
                    refine wa_icmpne (w_rg0 (by omega) (by omega)) (w_rg0 (by omega) (by omega)) ⟨_, rfl⟩ (fun c17 => ?_) (fun c17 => ?_)
                    · skip
                      refine wb_lconst (m := 0) rfl ?_
                      refine wa_fall ⟨_, rfl⟩ ?_
                      refine wa_cv 237 rfl (wy_pr rfl) wt_237 (M2 := fun _ => False) rfl at_M_is ⟨_, rfl⟩ rfl rfl ⟨trivial, (Or.inr ⟨wy_pr rfl, fun q => q⟩), trivial, trivial, trivial, trivial⟩ trivial (fun _ _ q => False.elim q) ?_ (fun _ _ _ q => q)
                      refine wa_aload_n (n := 0) rfl ?_
                      refine wa_iload_n (n := 1) rfl ?_
                      refine wb_pfi 237 rfl (wy_pr rfl) wt_237 wf_15_110 (n := 110) rfl ⟨(by omega), (by omega)⟩ ?_
                      refine wa_aload_n (n := 0) rfl ?_
                      refine wa_lload_n (n := 2) rfl ?_
                      refine wb_pfl 237 rfl (wy_pr rfl) wt_237 wf_15_111 (n := 111) rfl ⟨(by omega), (by omega)⟩ ?_
                      refine wa_return rfl ?_
                      show wJ _ _ _ _ _ _ _ _ _ _
                      refine wa_return rfl ?_
                      show wJ _ _ _ _ _ _ _ _ _ _
                      refine wa_fall ⟨_, rfl⟩ ?_
                      refine wa_aload_n (n := 0) rfl ?_
                      refine wb_gf4 237 rfl (wy_pr rfl) wt_237 wf_15_134 (v := 359) wl_237_134 ?_
                      refine wa_aload_n (n := 0) rfl ?_
                      refine wb_gfi 237 rfl (wy_pr rfl) wt_237 wf_15_151 (v := t) ((w_up_at (by decide)).trans ((w_up_at (by decide)).trans (mt))) (fun r18 => ?_)
                      refine wa_dup2 (by decide) (by decide) ?_
                      refine wb_iald 359 rfl (wy_pr rfl) wt_359 (n := 2) ((w_up_slot (by decide)).trans ((w_up_slot (by decide)).trans ((ml_359 hM)))) (by omega) (by omega) (v := h) ((w_up_slot (by decide)).trans ((w_up_slot (by decide)).trans (mh))) (fun r19 => ?_)
                      refine wa_iconst ?_
                      refine wa_isub ?_
                      refine wb_iast 359 rfl (wy_pr rfl) wt_359 (n := 2) ((w_up_slot (by decide)).trans ((w_up_slot (by decide)).trans ((ml_359 hM)))) (by omega) (by omega) ⟨(by omega), (by omega)⟩ ?_
                      refine wa_aload_n (n := 0) rfl ?_
                      refine wb_gf4 237 rfl (wy_pr rfl) wt_237 wf_15_138 (v := 363) wl_237_138 ?_
                      refine wa_iload_n (n := 3) rfl ?_
                      refine wa_aload_n (n := 0) rfl ?_
                      refine wb_gfi 237 rfl (wy_pr rfl) wt_237 wf_15_110 (v := 1) ((w_up_slot (by decide)).trans ((w_up_at (by decide)).trans (w_up_same _ _ _ _))) (fun r20 => ?_)
                      refine wb_iast 363 rfl (wy_pr rfl) wt_363 (n := 4200) ((w_up_slot (by decide)).trans ((w_up_slot (by decide)).trans ((w_up_slot (by decide)).trans ((ml_363 hM))))) (by omega) (by omega) ⟨(by omega), (by omega)⟩ ?_
                      refine wa_aload_n (n := 0) rfl ?_
                      refine wb_gf4 237 rfl (wy_pr rfl) wt_237 wf_15_139 (v := 364) wl_237_139 ?_
                      refine wa_iload_n (n := 3) rfl ?_
                      refine wa_aload_n (n := 0) rfl ?_
                      refine wb_gfl 237 rfl (wy_pr rfl) wt_237 wf_15_111 (v := 0) ((w_up_slot (by decide)).trans ((w_up_slot (by decide)).trans (w_up_same _ _ _ _))) (fun r21 => ?_)
                      refine wb_last 364 rfl (wy_pr rfl) wt_364 (n := 4200) ((w_up_slot (by decide)).trans ((w_up_slot (by decide)).trans ((w_up_slot (by decide)).trans ((w_up_slot (by decide)).trans ((ml_364 hM)))))) (by omega) (by omega) ⟨(by omega), (by omega)⟩ ?_
                      refine wa_fall ⟨_, rfl⟩ ?_
                      refine wa_return rfl ?_
                      refine ⟨rfl, ?_⟩
                      first
                        | (exfalso; omega)
                        | (rw [if_pos (by omega)]; rfl)
                        | (rw [if_neg (by omega)]; rfl)
                    · skip
                      exact absurd c17 (by omega)
                · skip
                  refine wa_lload_n (n := 1) rfl ?_
                  refine wa_lload (n := 4) rfl ?_
                  refine wa_lcmp (w_rg1 (by omega) (by omega)) (w_rg1 (by omega) (by omega)) ?_
                  refine wa_ifne (by have := @wb_lcmp_cases; exact w_lcmp_rg) ⟨_, rfl⟩ (fun c22 => ?_) (fun c22 => ?_)
                  · skip
                    have c22x := @wb_lcmp_cases vx vy
                    refine wa_iconst ?_
                    refine wa_fall ⟨_, rfl⟩ ?_
                    refine wa_zreturn rfl (Or.inl rfl) ?_
                    show wJ _ _ _ _ _ _ _ _ _ _
                    refine wa_fall ⟨_, rfl⟩ ?_
                    refine wa_zreturn rfl (Or.inl rfl) ?_
                    show wJ _ _ _ _ _ _ _ _ _ _
                    refine wa_istore (n := 4) rfl ?_
                    refine wa_aload_n (n := 0) rfl ?_
                    refine wa_iconst ?_
                    refine wa_iload (n := 4) rfl ?_
                    refine wa_iload_n (n := 1) rfl ?_
                    refine wa_bipush (w_rg2 (by omega) (by omega)) ?_
                    refine wa_icmpne (w_rg0 (by omega) (by omega)) (w_rg0 (by omega) (by omega)) ⟨_, rfl⟩ (fun c23 => ?_) (fun c23 => ?_)
                    · skip
                      exact absurd c23 (by omega)
                    · skip
                      refine wa_iconst ?_
                      refine wa_goto ⟨_, rfl⟩ ?_
                      refine wa_icmpne (w_rg0 (by omega) (by omega)) (w_rg0 (by omega) (by omega)) ⟨_, rfl⟩ (fun c24 => ?_) (fun c24 => ?_)
                      · skip
                        refine wb_lconst (m := 0) rfl ?_
                        refine wa_fall ⟨_, rfl⟩ ?_
                        refine wa_cv 237 rfl (wy_pr rfl) wt_237 (M2 := fun _ => False) rfl at_M_is ⟨_, rfl⟩ rfl rfl ⟨trivial, (Or.inr ⟨wy_pr rfl, fun q => q⟩), trivial, trivial, trivial, trivial⟩ trivial (fun _ _ q => False.elim q) ?_ (fun _ _ _ q => q)
                        refine wa_aload_n (n := 0) rfl ?_
                        refine wa_iload_n (n := 1) rfl ?_
                        refine wb_pfi 237 rfl (wy_pr rfl) wt_237 wf_15_110 (n := 110) rfl ⟨(by omega), (by omega)⟩ ?_
                        refine wa_aload_n (n := 0) rfl ?_
                        refine wa_lload_n (n := 2) rfl ?_
                        refine wb_pfl 237 rfl (wy_pr rfl) wt_237 wf_15_111 (n := 111) rfl ⟨(by omega), (by omega)⟩ ?_
                        refine wa_return rfl ?_
                        show wJ _ _ _ _ _ _ _ _ _ _
                        refine wa_return rfl ?_
                        show wJ _ _ _ _ _ _ _ _ _ _
                        refine wa_fall ⟨_, rfl⟩ ?_
                        refine wa_aload_n (n := 0) rfl ?_
                        refine wb_gf4 237 rfl (wy_pr rfl) wt_237 wf_15_134 (v := 359) wl_237_134 ?_
                        refine wa_aload_n (n := 0) rfl ?_
                        refine wb_gfi 237 rfl (wy_pr rfl) wt_237 wf_15_151 (v := t) ((w_up_at (by decide)).trans ((w_up_at (by decide)).trans (mt))) (fun r25 => ?_)
                        refine wa_dup2 (by decide) (by decide) ?_
                        refine wb_iald 359 rfl (wy_pr rfl) wt_359 (n := 2) ((w_up_slot (by decide)).trans ((w_up_slot (by decide)).trans ((ml_359 hM)))) (by omega) (by omega) (v := h) ((w_up_slot (by decide)).trans ((w_up_slot (by decide)).trans (mh))) (fun r26 => ?_)
                        refine wa_iconst ?_
                        refine wa_isub ?_
                        refine wb_iast 359 rfl (wy_pr rfl) wt_359 (n := 2) ((w_up_slot (by decide)).trans ((w_up_slot (by decide)).trans ((ml_359 hM)))) (by omega) (by omega) ⟨(by omega), (by omega)⟩ ?_
                        refine wa_aload_n (n := 0) rfl ?_
                        refine wb_gf4 237 rfl (wy_pr rfl) wt_237 wf_15_138 (v := 363) wl_237_138 ?_
                        refine wa_iload_n (n := 3) rfl ?_
                        refine wa_aload_n (n := 0) rfl ?_
                        refine wb_gfi 237 rfl (wy_pr rfl) wt_237 wf_15_110 (v := 1) ((w_up_slot (by decide)).trans ((w_up_at (by decide)).trans (w_up_same _ _ _ _))) (fun r27 => ?_)
                        refine wb_iast 363 rfl (wy_pr rfl) wt_363 (n := 4200) ((w_up_slot (by decide)).trans ((w_up_slot (by decide)).trans ((w_up_slot (by decide)).trans ((ml_363 hM))))) (by omega) (by omega) ⟨(by omega), (by omega)⟩ ?_
                        refine wa_aload_n (n := 0) rfl ?_
                        refine wb_gf4 237 rfl (wy_pr rfl) wt_237 wf_15_139 (v := 364) wl_237_139 ?_
                        refine wa_iload_n (n := 3) rfl ?_
                        refine wa_aload_n (n := 0) rfl ?_
                        refine wb_gfl 237 rfl (wy_pr rfl) wt_237 wf_15_111 (v := 0) ((w_up_slot (by decide)).trans ((w_up_slot (by decide)).trans (w_up_same _ _ _ _))) (fun r28 => ?_)
                        refine wb_last 364 rfl (wy_pr rfl) wt_364 (n := 4200) ((w_up_slot (by decide)).trans ((w_up_slot (by decide)).trans ((w_up_slot (by decide)).trans ((w_up_slot (by decide)).trans ((ml_364 hM)))))) (by omega) (by omega) ⟨(by omega), (by omega)⟩ ?_
                        refine wa_fall ⟨_, rfl⟩ ?_
                        refine wa_return rfl ?_
                        refine ⟨rfl, ?_⟩
                        first
                          | (exfalso; omega)
                          | (rw [if_pos (by omega)]; rfl)
                          | (rw [if_neg (by omega)]; rfl)
                      · skip
                        exact absurd c24 (by omega)
                  · skip
                    have c22x := @wb_lcmp_cases vx vy
                    refine wa_iconst ?_
                    refine wa_goto ⟨_, rfl⟩ ?_
                    refine wa_zreturn rfl (Or.inr rfl) ?_
                    show wJ _ _ _ _ _ _ _ _ _ _
                    refine wa_fall ⟨_, rfl⟩ ?_
                    refine wa_zreturn rfl (Or.inr rfl) ?_
                    show wJ _ _ _ _ _ _ _ _ _ _
                    refine wa_istore (n := 4) rfl ?_
                    refine wa_aload_n (n := 0) rfl ?_
                    refine wa_iconst ?_
                    refine wa_iload (n := 4) rfl ?_
                    refine wa_iload_n (n := 1) rfl ?_
                    refine wa_bipush (w_rg2 (by omega) (by omega)) ?_
                    refine wa_icmpne (w_rg0 (by omega) (by omega)) (w_rg0 (by omega) (by omega)) ⟨_, rfl⟩ (fun c29 => ?_) (fun c29 => ?_)
                    · skip
                      exact absurd c29 (by omega)
                    · skip
                      refine wa_iconst ?_
                      refine wa_goto ⟨_, rfl⟩ ?_
                      refine wa_icmpne (w_rg0 (by omega) (by omega)) (w_rg0 (by omega) (by omega)) ⟨_, rfl⟩ (fun c30 => ?_) (fun c30 => ?_)
                      · skip
                        exact absurd c30 (by omega)
                      · skip
                        refine wb_lconst (m := 1) rfl ?_
                        refine wa_goto ⟨_, rfl⟩ ?_
                        refine wa_cv 237 rfl (wy_pr rfl) wt_237 (M2 := fun _ => False) rfl at_M_is ⟨_, rfl⟩ rfl rfl ⟨trivial, (Or.inr ⟨wy_pr rfl, fun q => q⟩), trivial, trivial, trivial, trivial⟩ trivial (fun _ _ q => False.elim q) ?_ (fun _ _ _ q => q)
                        refine wa_aload_n (n := 0) rfl ?_
                        refine wa_iload_n (n := 1) rfl ?_
                        refine wb_pfi 237 rfl (wy_pr rfl) wt_237 wf_15_110 (n := 110) rfl ⟨(by omega), (by omega)⟩ ?_
                        refine wa_aload_n (n := 0) rfl ?_
                        refine wa_lload_n (n := 2) rfl ?_
                        refine wb_pfl 237 rfl (wy_pr rfl) wt_237 wf_15_111 (n := 111) rfl ⟨(by omega), (by omega)⟩ ?_
                        refine wa_return rfl ?_
                        show wJ _ _ _ _ _ _ _ _ _ _
                        refine wa_return rfl ?_
                        show wJ _ _ _ _ _ _ _ _ _ _
                        refine wa_fall ⟨_, rfl⟩ ?_
                        refine wa_aload_n (n := 0) rfl ?_
                        refine wb_gf4 237 rfl (wy_pr rfl) wt_237 wf_15_134 (v := 359) wl_237_134 ?_
                        refine wa_aload_n (n := 0) rfl ?_
                        refine wb_gfi 237 rfl (wy_pr rfl) wt_237 wf_15_151 (v := t) ((w_up_at (by decide)).trans ((w_up_at (by decide)).trans (mt))) (fun r31 => ?_)
                        refine wa_dup2 (by decide) (by decide) ?_
                        refine wb_iald 359 rfl (wy_pr rfl) wt_359 (n := 2) ((w_up_slot (by decide)).trans ((w_up_slot (by decide)).trans ((ml_359 hM)))) (by omega) (by omega) (v := h) ((w_up_slot (by decide)).trans ((w_up_slot (by decide)).trans (mh))) (fun r32 => ?_)
                        refine wa_iconst ?_
                        refine wa_isub ?_
                        refine wb_iast 359 rfl (wy_pr rfl) wt_359 (n := 2) ((w_up_slot (by decide)).trans ((w_up_slot (by decide)).trans ((ml_359 hM)))) (by omega) (by omega) ⟨(by omega), (by omega)⟩ ?_
                        refine wa_aload_n (n := 0) rfl ?_
                        refine wb_gf4 237 rfl (wy_pr rfl) wt_237 wf_15_138 (v := 363) wl_237_138 ?_
                        refine wa_iload_n (n := 3) rfl ?_
                        refine wa_aload_n (n := 0) rfl ?_
                        refine wb_gfi 237 rfl (wy_pr rfl) wt_237 wf_15_110 (v := 1) ((w_up_slot (by decide)).trans ((w_up_at (by decide)).trans (w_up_same _ _ _ _))) (fun r33 => ?_)
                        refine wb_iast 363 rfl (wy_pr rfl) wt_363 (n := 4200) ((w_up_slot (by decide)).trans ((w_up_slot (by decide)).trans ((w_up_slot (by decide)).trans ((ml_363 hM))))) (by omega) (by omega) ⟨(by omega), (by omega)⟩ ?_
                        refine wa_aload_n (n := 0) rfl ?_
                        refine wb_gf4 237 rfl (wy_pr rfl) wt_237 wf_15_139 (v := 364) wl_237_139 ?_
                        refine wa_iload_n (n := 3) rfl ?_
                        refine wa_aload_n (n := 0) rfl ?_
                        refine wb_gfl 237 rfl (wy_pr rfl) wt_237 wf_15_111 (v := 1) ((w_up_slot (by decide)).trans ((w_up_slot (by decide)).trans (w_up_same _ _ _ _))) (fun r34 => ?_)
                        refine wb_last 364 rfl (wy_pr rfl) wt_364 (n := 4200) ((w_up_slot (by decide)).trans ((w_up_slot (by decide)).trans ((w_up_slot (by decide)).trans ((w_up_slot (by decide)).trans ((ml_364 hM)))))) (by omega) (by omega) ⟨(by omega), (by omega)⟩ ?_
                        refine wa_fall ⟨_, rfl⟩ ?_
                        refine wa_return rfl ?_
                        refine ⟨rfl, ?_⟩
                        first
                          | (exfalso; omega)
                          | (rw [if_pos (by omega)]; rfl)
                          | (rw [if_neg (by omega)]; rfl)
              · skip
                refine wa_iload (n := 4) rfl ?_
                refine wa_iconst ?_
                refine wa_icmpne (w_rg0 (by omega) (by omega)) (w_rg0 (by omega) (by omega)) ⟨_, rfl⟩ (fun c35 => ?_) (fun c35 => ?_)
                · skip
                  refine wa_iload_n (n := 1) rfl ?_
                  refine wa_lload_n (n := 2) rfl ?_
                  refine wa_iload (n := 4) rfl ?_
                  refine wa_lload (n := 5) rfl ?_
                  refine wa_cs (M2 := fun _ => False) rfl at_M_isSame ⟨_, rfl⟩ rfl rfl ⟨(Or.inr ⟨wy_pr rfl, fun q => q⟩), trivial, trivial, trivial, trivial, trivial⟩ trivial (fun _ _ q => False.elim q) ?_ (fun _ _ _ q => q)
                  refine wa_iload_n (n := 0) rfl ?_
                  refine wa_iload_n (n := 3) rfl ?_
                  refine wa_icmpne (w_rg0 (by omega) (by omega)) (w_rg0 (by omega) (by omega)) ⟨_, rfl⟩ (fun c36 => ?_) (fun c36 => ?_)
                  · skip
                    refine wa_iconst ?_
                    refine wa_fall ⟨_, rfl⟩ ?_
                    refine wa_zreturn rfl (Or.inl rfl) ?_
                    show wJ _ _ _ _ _ _ _ _ _ _
                    refine wa_fall ⟨_, rfl⟩ ?_
                    refine wa_zreturn rfl (Or.inl rfl) ?_
                    show wJ _ _ _ _ _ _ _ _ _ _
                    refine wa_istore (n := 4) rfl ?_
                    refine wa_aload_n (n := 0) rfl ?_
                    refine wa_iconst ?_
                    refine wa_iload (n := 4) rfl ?_
                    refine wa_iload_n (n := 1) rfl ?_
                    refine wa_bipush (w_rg2 (by omega) (by omega)) ?_
                    refine wa_icmpne (w_rg0 (by omega) (by omega)) (w_rg0 (by omega) (by omega)) ⟨_, rfl⟩ (fun c37 => ?_) (fun c37 => ?_)
                    · skip
                      exact absurd c37 (by omega)
                    · skip
                      refine wa_iconst ?_
                      refine wa_goto ⟨_, rfl⟩ ?_
                      refine wa_icmpne (w_rg0 (by omega) (by omega)) (w_rg0 (by omega) (by omega)) ⟨_, rfl⟩ (fun c38 => ?_) (fun c38 => ?_)
                      · skip
                        refine wb_lconst (m := 0) rfl ?_
                        refine wa_fall ⟨_, rfl⟩ ?_
                        refine wa_cv 237 rfl (wy_pr rfl) wt_237 (M2 := fun _ => False) rfl at_M_is ⟨_, rfl⟩ rfl rfl ⟨trivial, (Or.inr ⟨wy_pr rfl, fun q => q⟩), trivial, trivial, trivial, trivial⟩ trivial (fun _ _ q => False.elim q) ?_ (fun _ _ _ q => q)
                        refine wa_aload_n (n := 0) rfl ?_
                        refine wa_iload_n (n := 1) rfl ?_
                        refine wb_pfi 237 rfl (wy_pr rfl) wt_237 wf_15_110 (n := 110) rfl ⟨(by omega), (by omega)⟩ ?_
                        refine wa_aload_n (n := 0) rfl ?_
                        refine wa_lload_n (n := 2) rfl ?_
                        refine wb_pfl 237 rfl (wy_pr rfl) wt_237 wf_15_111 (n := 111) rfl ⟨(by omega), (by omega)⟩ ?_
                        refine wa_return rfl ?_
                        show wJ _ _ _ _ _ _ _ _ _ _
                        refine wa_return rfl ?_
                        show wJ _ _ _ _ _ _ _ _ _ _
                        refine wa_fall ⟨_, rfl⟩ ?_
                        refine wa_aload_n (n := 0) rfl ?_
                        refine wb_gf4 237 rfl (wy_pr rfl) wt_237 wf_15_134 (v := 359) wl_237_134 ?_
                        refine wa_aload_n (n := 0) rfl ?_
                        refine wb_gfi 237 rfl (wy_pr rfl) wt_237 wf_15_151 (v := t) ((w_up_at (by decide)).trans ((w_up_at (by decide)).trans (mt))) (fun r39 => ?_)
                        refine wa_dup2 (by decide) (by decide) ?_
                        refine wb_iald 359 rfl (wy_pr rfl) wt_359 (n := 2) ((w_up_slot (by decide)).trans ((w_up_slot (by decide)).trans ((ml_359 hM)))) (by omega) (by omega) (v := h) ((w_up_slot (by decide)).trans ((w_up_slot (by decide)).trans (mh))) (fun r40 => ?_)
                        refine wa_iconst ?_
                        refine wa_isub ?_
                        refine wb_iast 359 rfl (wy_pr rfl) wt_359 (n := 2) ((w_up_slot (by decide)).trans ((w_up_slot (by decide)).trans ((ml_359 hM)))) (by omega) (by omega) ⟨(by omega), (by omega)⟩ ?_
                        refine wa_aload_n (n := 0) rfl ?_
                        refine wb_gf4 237 rfl (wy_pr rfl) wt_237 wf_15_138 (v := 363) wl_237_138 ?_
                        refine wa_iload_n (n := 3) rfl ?_
                        refine wa_aload_n (n := 0) rfl ?_
                        refine wb_gfi 237 rfl (wy_pr rfl) wt_237 wf_15_110 (v := 1) ((w_up_slot (by decide)).trans ((w_up_at (by decide)).trans (w_up_same _ _ _ _))) (fun r41 => ?_)
                        refine wb_iast 363 rfl (wy_pr rfl) wt_363 (n := 4200) ((w_up_slot (by decide)).trans ((w_up_slot (by decide)).trans ((w_up_slot (by decide)).trans ((ml_363 hM))))) (by omega) (by omega) ⟨(by omega), (by omega)⟩ ?_
                        refine wa_aload_n (n := 0) rfl ?_
                        refine wb_gf4 237 rfl (wy_pr rfl) wt_237 wf_15_139 (v := 364) wl_237_139 ?_
                        refine wa_iload_n (n := 3) rfl ?_
                        refine wa_aload_n (n := 0) rfl ?_
                        refine wb_gfl 237 rfl (wy_pr rfl) wt_237 wf_15_111 (v := 0) ((w_up_slot (by decide)).trans ((w_up_slot (by decide)).trans (w_up_same _ _ _ _))) (fun r42 => ?_)
                        refine wb_last 364 rfl (wy_pr rfl) wt_364 (n := 4200) ((w_up_slot (by decide)).trans ((w_up_slot (by decide)).trans ((w_up_slot (by decide)).trans ((w_up_slot (by decide)).trans ((ml_364 hM)))))) (by omega) (by omega) ⟨(by omega), (by omega)⟩ ?_
                        refine wa_fall ⟨_, rfl⟩ ?_
                        refine wa_return rfl ?_
                        refine ⟨rfl, ?_⟩
                        first
                          | (exfalso; omega)
                          | (rw [if_pos (by omega)]; rfl)
                          | (rw [if_neg (by omega)]; rfl)
                      · skip
                        exact absurd c38 (by omega)
                  · skip
                    refine wa_lload_n (n := 1) rfl ?_
                    refine wa_lload (n := 4) rfl ?_
                    refine wa_lcmp (w_rg1 (by omega) (by omega)) (w_rg1 (by omega) (by omega)) ?_
                    refine wa_ifne (by have := @wb_lcmp_cases; exact w_lcmp_rg) ⟨_, rfl⟩ (fun c43 => ?_) (fun c43 => ?_)
                    · skip
                      have c43x := @wb_lcmp_cases vx vy
                      refine wa_iconst ?_
                      refine wa_fall ⟨_, rfl⟩ ?_
                      refine wa_zreturn rfl (Or.inl rfl) ?_
                      show wJ _ _ _ _ _ _ _ _ _ _
                      refine wa_fall ⟨_, rfl⟩ ?_
                      refine wa_zreturn rfl (Or.inl rfl) ?_
                      show wJ _ _ _ _ _ _ _ _ _ _
                      refine wa_istore (n := 4) rfl ?_
                      refine wa_aload_n (n := 0) rfl ?_
                      refine wa_iconst ?_
                      refine wa_iload (n := 4) rfl ?_
                      refine wa_iload_n (n := 1) rfl ?_
                      refine wa_bipush (w_rg2 (by omega) (by omega)) ?_
                      refine wa_icmpne (w_rg0 (by omega) (by omega)) (w_rg0 (by omega) (by omega)) ⟨_, rfl⟩ (fun c44 => ?_) (fun c44 => ?_)
                      · skip
                        exact absurd c44 (by omega)
                      · skip
                        refine wa_iconst ?_
                        refine wa_goto ⟨_, rfl⟩ ?_
                        refine wa_icmpne (w_rg0 (by omega) (by omega)) (w_rg0 (by omega) (by omega)) ⟨_, rfl⟩ (fun c45 => ?_) (fun c45 => ?_)
                        · skip
                          refine wb_lconst (m := 0) rfl ?_
                          refine wa_fall ⟨_, rfl⟩ ?_
                          refine wa_cv 237 rfl (wy_pr rfl) wt_237 (M2 := fun _ => False) rfl at_M_is ⟨_, rfl⟩ rfl rfl ⟨trivial, (Or.inr ⟨wy_pr rfl, fun q => q⟩), trivial, trivial, trivial, trivial⟩ trivial (fun _ _ q => False.elim q) ?_ (fun _ _ _ q => q)
                          refine wa_aload_n (n := 0) rfl ?_
                          refine wa_iload_n (n := 1) rfl ?_
                          refine wb_pfi 237 rfl (wy_pr rfl) wt_237 wf_15_110 (n := 110) rfl ⟨(by omega), (by omega)⟩ ?_
                          refine wa_aload_n (n := 0) rfl ?_
                          refine wa_lload_n (n := 2) rfl ?_
                          refine wb_pfl 237 rfl (wy_pr rfl) wt_237 wf_15_111 (n := 111) rfl ⟨(by omega), (by omega)⟩ ?_
                          refine wa_return rfl ?_
                          show wJ _ _ _ _ _ _ _ _ _ _
                          refine wa_return rfl ?_
                          show wJ _ _ _ _ _ _ _ _ _ _
                          refine wa_fall ⟨_, rfl⟩ ?_
                          refine wa_aload_n (n := 0) rfl ?_
                          refine wb_gf4 237 rfl (wy_pr rfl) wt_237 wf_15_134 (v := 359) wl_237_134 ?_
                          refine wa_aload_n (n := 0) rfl ?_
                          refine wb_gfi 237 rfl (wy_pr rfl) wt_237 wf_15_151 (v := t) ((w_up_at (by decide)).trans ((w_up_at (by decide)).trans (mt))) (fun r46 => ?_)
                          refine wa_dup2 (by decide) (by decide) ?_
                          refine wb_iald 359 rfl (wy_pr rfl) wt_359 (n := 2) ((w_up_slot (by decide)).trans ((w_up_slot (by decide)).trans ((ml_359 hM)))) (by omega) (by omega) (v := h) ((w_up_slot (by decide)).trans ((w_up_slot (by decide)).trans (mh))) (fun r47 => ?_)
                          refine wa_iconst ?_
                          refine wa_isub ?_
                          refine wb_iast 359 rfl (wy_pr rfl) wt_359 (n := 2) ((w_up_slot (by decide)).trans ((w_up_slot (by decide)).trans ((ml_359 hM)))) (by omega) (by omega) ⟨(by omega), (by omega)⟩ ?_
                          refine wa_aload_n (n := 0) rfl ?_
                          refine wb_gf4 237 rfl (wy_pr rfl) wt_237 wf_15_138 (v := 363) wl_237_138 ?_
                          refine wa_iload_n (n := 3) rfl ?_
                          refine wa_aload_n (n := 0) rfl ?_
                          refine wb_gfi 237 rfl (wy_pr rfl) wt_237 wf_15_110 (v := 1) ((w_up_slot (by decide)).trans ((w_up_at (by decide)).trans (w_up_same _ _ _ _))) (fun r48 => ?_)
                          refine wb_iast 363 rfl (wy_pr rfl) wt_363 (n := 4200) ((w_up_slot (by decide)).trans ((w_up_slot (by decide)).trans ((w_up_slot (by decide)).trans ((ml_363 hM))))) (by omega) (by omega) ⟨(by omega), (by omega)⟩ ?_
                          refine wa_aload_n (n := 0) rfl ?_
                          refine wb_gf4 237 rfl (wy_pr rfl) wt_237 wf_15_139 (v := 364) wl_237_139 ?_
                          refine wa_iload_n (n := 3) rfl ?_
                          refine wa_aload_n (n := 0) rfl ?_
                          refine wb_gfl 237 rfl (wy_pr rfl) wt_237 wf_15_111 (v := 0) ((w_up_slot (by decide)).trans ((w_up_slot (by decide)).trans (w_up_same _ _ _ _))) (fun r49 => ?_)
                          refine wb_last 364 rfl (wy_pr rfl) wt_364 (n := 4200) ((w_up_slot (by decide)).trans ((w_up_slot (by decide)).trans ((w_up_slot (by decide)).trans ((w_up_slot (by decide)).trans ((ml_364 hM)))))) (by omega) (by omega) ⟨(by omega), (by omega)⟩ ?_
                          refine wa_fall ⟨_, rfl⟩ ?_
                          refine wa_return rfl ?_
                          refine ⟨rfl, ?_⟩
                          first
                            | (exfalso; omega)
                            | (rw [if_pos (by omega)]; rfl)
                            | (rw [if_neg (by omega)]; rfl)
                        · skip
                          exact absurd c45 (by omega)
                    · skip
                      have c43x := @wb_lcmp_cases vx vy
                      refine wa_iconst ?_
                      refine wa_goto ⟨_, rfl⟩ ?_
                      refine wa_zreturn rfl (Or.inr rfl) ?_
                      show wJ _ _ _ _ _ _ _ _ _ _
                      refine wa_fall ⟨_, rfl⟩ ?_
                      refine wa_zreturn rfl (Or.inr rfl) ?_
                      show wJ _ _ _ _ _ _ _ _ _ _
                      refine wa_istore (n := 4) rfl ?_
                      refine wa_aload_n (n := 0) rfl ?_
                      refine wa_iconst ?_
                      refine wa_iload (n := 4) rfl ?_
                      refine wa_iload_n (n := 1) rfl ?_
                      refine wa_bipush (w_rg2 (by omega) (by omega)) ?_
                      refine wa_icmpne (w_rg0 (by omega) (by omega)) (w_rg0 (by omega) (by omega)) ⟨_, rfl⟩ (fun c50 => ?_) (fun c50 => ?_)
                      · skip
                        exact absurd c50 (by omega)
                      · skip
                        refine wa_iconst ?_
                        refine wa_goto ⟨_, rfl⟩ ?_
                        refine wa_icmpne (w_rg0 (by omega) (by omega)) (w_rg0 (by omega) (by omega)) ⟨_, rfl⟩ (fun c51 => ?_) (fun c51 => ?_)
                        · skip
                          exact absurd c51 (by omega)
                        · skip
                          refine wb_lconst (m := 1) rfl ?_
                          refine wa_goto ⟨_, rfl⟩ ?_
                          refine wa_cv 237 rfl (wy_pr rfl) wt_237 (M2 := fun _ => False) rfl at_M_is ⟨_, rfl⟩ rfl rfl ⟨trivial, (Or.inr ⟨wy_pr rfl, fun q => q⟩), trivial, trivial, trivial, trivial⟩ trivial (fun _ _ q => False.elim q) ?_ (fun _ _ _ q => q)
                          refine wa_aload_n (n := 0) rfl ?_
                          refine wa_iload_n (n := 1) rfl ?_
                          refine wb_pfi 237 rfl (wy_pr rfl) wt_237 wf_15_110 (n := 110) rfl ⟨(by omega), (by omega)⟩ ?_
                          refine wa_aload_n (n := 0) rfl ?_
                          refine wa_lload_n (n := 2) rfl ?_
                          refine wb_pfl 237 rfl (wy_pr rfl) wt_237 wf_15_111 (n := 111) rfl ⟨(by omega), (by omega)⟩ ?_
                          refine wa_return rfl ?_
                          show wJ _ _ _ _ _ _ _ _ _ _
                          refine wa_return rfl ?_
                          show wJ _ _ _ _ _ _ _ _ _ _
                          refine wa_fall ⟨_, rfl⟩ ?_
                          refine wa_aload_n (n := 0) rfl ?_
                          refine wb_gf4 237 rfl (wy_pr rfl) wt_237 wf_15_134 (v := 359) wl_237_134 ?_
                          refine wa_aload_n (n := 0) rfl ?_
                          refine wb_gfi 237 rfl (wy_pr rfl) wt_237 wf_15_151 (v := t) ((w_up_at (by decide)).trans ((w_up_at (by decide)).trans (mt))) (fun r52 => ?_)
                          refine wa_dup2 (by decide) (by decide) ?_
                          refine wb_iald 359 rfl (wy_pr rfl) wt_359 (n := 2) ((w_up_slot (by decide)).trans ((w_up_slot (by decide)).trans ((ml_359 hM)))) (by omega) (by omega) (v := h) ((w_up_slot (by decide)).trans ((w_up_slot (by decide)).trans (mh))) (fun r53 => ?_)
                          refine wa_iconst ?_
                          refine wa_isub ?_
                          refine wb_iast 359 rfl (wy_pr rfl) wt_359 (n := 2) ((w_up_slot (by decide)).trans ((w_up_slot (by decide)).trans ((ml_359 hM)))) (by omega) (by omega) ⟨(by omega), (by omega)⟩ ?_
                          refine wa_aload_n (n := 0) rfl ?_
                          refine wb_gf4 237 rfl (wy_pr rfl) wt_237 wf_15_138 (v := 363) wl_237_138 ?_
                          refine wa_iload_n (n := 3) rfl ?_
                          refine wa_aload_n (n := 0) rfl ?_
                          refine wb_gfi 237 rfl (wy_pr rfl) wt_237 wf_15_110 (v := 1) ((w_up_slot (by decide)).trans ((w_up_at (by decide)).trans (w_up_same _ _ _ _))) (fun r54 => ?_)
                          refine wb_iast 363 rfl (wy_pr rfl) wt_363 (n := 4200) ((w_up_slot (by decide)).trans ((w_up_slot (by decide)).trans ((w_up_slot (by decide)).trans ((ml_363 hM))))) (by omega) (by omega) ⟨(by omega), (by omega)⟩ ?_
                          refine wa_aload_n (n := 0) rfl ?_
                          refine wb_gf4 237 rfl (wy_pr rfl) wt_237 wf_15_139 (v := 364) wl_237_139 ?_
                          refine wa_iload_n (n := 3) rfl ?_
                          refine wa_aload_n (n := 0) rfl ?_
                          refine wb_gfl 237 rfl (wy_pr rfl) wt_237 wf_15_111 (v := 1) ((w_up_slot (by decide)).trans ((w_up_slot (by decide)).trans (w_up_same _ _ _ _))) (fun r55 => ?_)
                          refine wb_last 364 rfl (wy_pr rfl) wt_364 (n := 4200) ((w_up_slot (by decide)).trans ((w_up_slot (by decide)).trans ((w_up_slot (by decide)).trans ((w_up_slot (by decide)).trans ((ml_364 hM)))))) (by omega) (by omega) ⟨(by omega), (by omega)⟩ ?_
                          refine wa_fall ⟨_, rfl⟩ ?_
                          refine wa_return rfl ?_
                          refine ⟨rfl, ?_⟩
                          first
                            | (exfalso; omega)
                            | (rw [if_pos (by omega)]; rfl)
                            | (rw [if_neg (by omega)]; rfl)
                · skip
                  exact absurd c35 (by omega)
            · skip
              exact absurd c9 (by omega)
          · skip
            exact absurd c8 (by omega)
        · skip
          exact absurd c7 (by omega)
      · skip
        exact absurd c6 (by omega)
    · skip
      exact absurd c5 (by omega)
  · skip
    exact absurd c4 (by omega)

theorem y15n {t c p h tp kx ky vx vy : Int} (hP : mP t c p h tp S) (hky : S 363 (2100 * t + h - 1) = ky) (hvy : S 364 (2100 * t + h - 1) = vy) (hkx : S 363 (2100 * t + h - 1 - 1) = kx) (hvx : S 364 (2100 * t + h - 1 - 1) = vx) (hh1 : 2 ≤ h) (hk3 : ¬ (kx = 3 ∧ ky = 3)) : wJ (pe_GA xs) wY0 M (d + 11) t_M_operators ((pe_at t_M_operators.bl 0).getD (0, [])).2 [(0, (2, 237)), (1, (0, 15))] [] S (fun o Z => o = .inl none ∧ pXZ t h 1 (if kx = ky ∧ vx = vy then 0 else 1) S = Z) := by
  obtain ⟨hM, ⟨mt, mt0, mt1⟩, mp, mf, ⟨mc, mc0, mc1⟩, ⟨mtp, mtq⟩, ⟨mpa, mp0, mp1⟩, mh, mh0, mh1⟩ := hP
  refine wa_aload_n (n := 0) rfl ?_
  refine wa_cv 237 rfl (wy_pr rfl) wt_237 (M2 := fun _ => False) rfl at_M_h ⟨_, rfl⟩ rfl rfl ⟨(Or.inr ⟨wy_pr rfl, fun q => q⟩), trivial, trivial⟩ trivial (fun _ _ q => False.elim q) ?_ (fun _ _ _ q => q)
  refine wa_aload_n (n := 0) rfl ?_
  refine wb_gfi 237 rfl (wy_pr rfl) wt_237 wf_15_152 (v := (2100 * t)) (mp) (fun r1 => ?_)
  refine wa_aload_n (n := 0) rfl ?_
  refine wb_gf4 237 rfl (wy_pr rfl) wt_237 wf_15_134 (v := 359) wl_237_134 ?_
  refine wa_aload_n (n := 0) rfl ?_
  refine wb_gfi 237 rfl (wy_pr rfl) wt_237 wf_15_151 (v := t) (mt) (fun r2 => ?_)
  refine wb_iald 359 rfl (wy_pr rfl) wt_359 (n := 2) ((ml_359 hM)) (by omega) (by omega) (v := h) (mh) (fun r3 => ?_)
  refine wa_iadd ?_
  refine wa_ireturn rfl ?_
  show wJ _ _ _ _ _ _ _ _ _ _
  refine wa_iconst ?_
  refine wa_isub ?_
  refine wa_istore_n (n := 2) rfl ?_
  refine wa_iload_n (n := 2) rfl ?_
  refine wa_iconst ?_
  refine wa_isub ?_
  refine wa_istore_n (n := 3) rfl ?_
  refine wa_iload_n (n := 1) rfl ?_
  refine wa_iconst ?_
  refine wa_icmpne (w_rg0 (by omega) (by omega)) (w_rg0 (by omega) (by omega)) ⟨_, rfl⟩ (fun c4 => ?_) (fun c4 => ?_)
  · skip
    refine wa_iload_n (n := 1) rfl ?_
    refine wa_bipush (w_rg2 (by omega) (by omega)) ?_
    refine wa_icmpne (w_rg0 (by omega) (by omega)) (w_rg0 (by omega) (by omega)) ⟨_, rfl⟩ (fun c5 => ?_) (fun c5 => ?_)
    · skip
      refine wa_iload_n (n := 1) rfl ?_
      refine wa_bipush (w_rg2 (by omega) (by omega)) ?_
      refine wa_icmpne (w_rg0 (by omega) (by omega)) (w_rg0 (by omega) (by omega)) ⟨_, rfl⟩ (fun c6 => ?_) (fun c6 => ?_)
      · skip
        refine wa_iload_n (n := 1) rfl ?_
        refine wa_bipush (w_rg2 (by omega) (by omega)) ?_
        refine wa_icmpne (w_rg0 (by omega) (by omega)) (w_rg0 (by omega) (by omega)) ⟨_, rfl⟩ (fun c7 => ?_) (fun c7 => ?_)
        · skip
          refine wa_iload_n (n := 1) rfl ?_
          refine wa_bipush (w_rg2 (by omega) (by omega)) ?_
          refine wa_icmpge (w_rg0 (by omega) (by omega)) (w_rg0 (by omega) (by omega)) ⟨_, rfl⟩ (fun c8 => ?_) (fun c8 => ?_)
          · skip
            refine wa_aload_n (n := 0) rfl ?_
            refine wa_iload_n (n := 1) rfl ?_
            refine wa_iload_n (n := 3) rfl ?_
            refine wa_iload_n (n := 2) rfl ?_
            refine wa_cv 237 rfl (wy_pr rfl) wt_237 (M2 := fun _ => False) rfl at_M_compares ⟨_, rfl⟩ rfl rfl ⟨trivial, trivial, (Or.inr ⟨wy_pr rfl, fun q => q⟩), trivial, trivial⟩ trivial (fun _ _ q => False.elim q) ?_ (fun _ _ _ q => q)
            refine wa_iload_n (n := 1) rfl ?_
            refine wa_bipush (w_rg2 (by omega) (by omega)) ?_
            refine wa_icmpeq (w_rg0 (by omega) (by omega)) (w_rg0 (by omega) (by omega)) ⟨_, rfl⟩ (fun c9 => ?_) (fun c9 => ?_)
            · skip
              exact absurd c9 (by omega)
            · skip
              refine wa_iload_n (n := 1) rfl ?_
              refine wa_bipush (w_rg2 (by omega) (by omega)) ?_
              refine wa_icmpne (w_rg0 (by omega) (by omega)) (w_rg0 (by omega) (by omega)) ⟨_, rfl⟩ (fun c10 => ?_) (fun c10 => ?_)
              · skip
                exact absurd c10 (by omega)
              · skip
                refine wa_fall ⟨_, rfl⟩ ?_
                refine wa_aload_n (n := 0) rfl ?_
                refine wa_aload_n (n := 0) rfl ?_
                refine wb_gf4 237 rfl (wy_pr rfl) wt_237 wf_15_138 (v := 363) wl_237_138 ?_
                refine wa_iload_n (n := 2) rfl ?_
                refine wb_iald 363 rfl (wy_pr rfl) wt_363 (n := 4200) ((ml_363 hM)) (by omega) (by omega) (v := kx) (hkx) (fun r11 => ?_)
                refine wa_aload_n (n := 0) rfl ?_
                refine wb_gf4 237 rfl (wy_pr rfl) wt_237 wf_15_139 (v := 364) wl_237_139 ?_
                refine wa_iload_n (n := 2) rfl ?_
                refine wb_lald 364 rfl (wy_pr rfl) wt_364 (n := 4200) ((ml_364 hM)) (by omega) (by omega) (v := vx) (hvx) (fun r12 => ?_)
                refine wa_aload_n (n := 0) rfl ?_
                refine wb_gf4 237 rfl (wy_pr rfl) wt_237 wf_15_138 (v := 363) wl_237_138 ?_
                refine wa_iload_n (n := 3) rfl ?_
                refine wb_iald 363 rfl (wy_pr rfl) wt_363 (n := 4200) ((ml_363 hM)) (by omega) (by omega) (v := ky) (hky) (fun r13 => ?_)
                refine wa_aload_n (n := 0) rfl ?_
                refine wb_gf4 237 rfl (wy_pr rfl) wt_237 wf_15_139 (v := 364) wl_237_139 ?_
                refine wa_iload_n (n := 3) rfl ?_
                refine wb_lald 364 rfl (wy_pr rfl) wt_364 (n := 4200) ((ml_364 hM)) (by omega) (by omega) (v := vy) (hvy) (fun r14 => ?_)
                refine wa_cv 237 rfl (wy_pr rfl) wt_237 (M2 := fun _ => False) rfl at_M_alike ⟨_, rfl⟩ rfl rfl ⟨(Or.inr ⟨wy_pr rfl, fun q => q⟩), trivial, trivial, trivial, trivial⟩ trivial (fun _ _ q => False.elim q) ?_ (fun _ _ _ q => q)
                refine wa_iload_n (n := 1) rfl ?_
                refine wa_iconst ?_
                refine wa_icmpne (w_rg0 (by omega) (by omega)) (w_rg0 (by omega) (by omega)) ⟨_, rfl⟩ (fun c15 => ?_) (fun c15 => ?_)
                · skip
                  refine wa_iload_n (n := 1) rfl ?_
                  refine wa_lload_n (n := 2) rfl ?_
                  refine wa_iload (n := 4) rfl ?_
                  refine wa_lload (n := 5) rfl ?_
                  refine wa_cs (M2 := fun _ => False) rfl at_M_isSame ⟨_, rfl⟩ rfl rfl ⟨(Or.inr ⟨wy_pr rfl, fun q => q⟩), trivial, trivial, trivial, trivial, trivial⟩ trivial (fun _ _ q => False.elim q) ?_ (fun _ _ _ q => q)
                  refine wa_iload_n (n := 0) rfl ?_
                  refine wa_iload_n (n := 3) rfl ?_
                  refine wa_icmpne (w_rg0 (by omega) (by omega)) (w_rg0 (by omega) (by omega)) ⟨_, rfl⟩ (fun c16 => ?_) (fun c16 => ?_)
                  · skip
                    refine wa_iconst ?_
                    refine wa_fall ⟨_, rfl⟩ ?_
                    refine wa_zreturn rfl (Or.inl rfl) ?_
                    show wJ _ _ _ _ _ _ _ _ _ _
                    refine wa_fall ⟨_, rfl⟩ ?_
                    refine wa_zreturn rfl (Or.inl rfl) ?_
                    show wJ _ _ _ _ _ _ _ _ _ _
                    refine wa_istore (n := 4) rfl ?_
                    refine wa_aload_n (n := 0) rfl ?_
                    refine wa_iconst ?_
                    refine wa_iload (n := 4) rfl ?_
                    refine wa_iload_n (n := 1) rfl ?_
                    refine wa_bipush (w_rg2 (by omega) (by omega)) ?_
                    refine wa_icmpne (w_rg0 (by omega) (by omega)) (w_rg0 (by omega) (by omega)) ⟨_, rfl⟩ (fun c17 => ?_) (fun c17 => ?_)
                    · skip
                      refine wa_iconst ?_
                      refine wa_fall ⟨_, rfl⟩ ?_
                      refine wa_icmpne (w_rg0 (by omega) (by omega)) (w_rg0 (by omega) (by omega)) ⟨_, rfl⟩ (fun c18 => ?_) (fun c18 => ?_)
                      · skip
                        exact absurd c18 (by omega)
                      · skip
                        refine wb_lconst (m := 1) rfl ?_
                        refine wa_goto ⟨_, rfl⟩ ?_
                        refine wa_cv 237 rfl (wy_pr rfl) wt_237 (M2 := fun _ => False) rfl at_M_is ⟨_, rfl⟩ rfl rfl ⟨trivial, (Or.inr ⟨wy_pr rfl, fun q => q⟩), trivial, trivial, trivial, trivial⟩ trivial (fun _ _ q => False.elim q) ?_ (fun _ _ _ q => q)
                        refine wa_aload_n (n := 0) rfl ?_
                        refine wa_iload_n (n := 1) rfl ?_
                        refine wb_pfi 237 rfl (wy_pr rfl) wt_237 wf_15_110 (n := 110) rfl ⟨(by omega), (by omega)⟩ ?_
                        refine wa_aload_n (n := 0) rfl ?_
                        refine wa_lload_n (n := 2) rfl ?_
                        refine wb_pfl 237 rfl (wy_pr rfl) wt_237 wf_15_111 (n := 111) rfl ⟨(by omega), (by omega)⟩ ?_
                        refine wa_return rfl ?_
                        show wJ _ _ _ _ _ _ _ _ _ _
                        refine wa_return rfl ?_
                        show wJ _ _ _ _ _ _ _ _ _ _
                        refine wa_fall ⟨_, rfl⟩ ?_
                        refine wa_aload_n (n := 0) rfl ?_
                        refine wb_gf4 237 rfl (wy_pr rfl) wt_237 wf_15_134 (v := 359) wl_237_134 ?_
                        refine wa_aload_n (n := 0) rfl ?_
                        refine wb_gfi 237 rfl (wy_pr rfl) wt_237 wf_15_151 (v := t) ((w_up_at (by decide)).trans ((w_up_at (by decide)).trans (mt))) (fun r19 => ?_)
                        refine wa_dup2 (by decide) (by decide) ?_
                        refine wb_iald 359 rfl (wy_pr rfl) wt_359 (n := 2) ((w_up_slot (by decide)).trans ((w_up_slot (by decide)).trans ((ml_359 hM)))) (by omega) (by omega) (v := h) ((w_up_slot (by decide)).trans ((w_up_slot (by decide)).trans (mh))) (fun r20 => ?_)
                        refine wa_iconst ?_
                        refine wa_isub ?_
                        refine wb_iast 359 rfl (wy_pr rfl) wt_359 (n := 2) ((w_up_slot (by decide)).trans ((w_up_slot (by decide)).trans ((ml_359 hM)))) (by omega) (by omega) ⟨(by omega), (by omega)⟩ ?_
                        refine wa_aload_n (n := 0) rfl ?_
                        refine wb_gf4 237 rfl (wy_pr rfl) wt_237 wf_15_138 (v := 363) wl_237_138 ?_
                        refine wa_iload_n (n := 3) rfl ?_
                        refine wa_aload_n (n := 0) rfl ?_
                        refine wb_gfi 237 rfl (wy_pr rfl) wt_237 wf_15_110 (v := 1) ((w_up_slot (by decide)).trans ((w_up_at (by decide)).trans (w_up_same _ _ _ _))) (fun r21 => ?_)
                        refine wb_iast 363 rfl (wy_pr rfl) wt_363 (n := 4200) ((w_up_slot (by decide)).trans ((w_up_slot (by decide)).trans ((w_up_slot (by decide)).trans ((ml_363 hM))))) (by omega) (by omega) ⟨(by omega), (by omega)⟩ ?_
                        refine wa_aload_n (n := 0) rfl ?_
                        refine wb_gf4 237 rfl (wy_pr rfl) wt_237 wf_15_139 (v := 364) wl_237_139 ?_
                        refine wa_iload_n (n := 3) rfl ?_
                        refine wa_aload_n (n := 0) rfl ?_
                        refine wb_gfl 237 rfl (wy_pr rfl) wt_237 wf_15_111 (v := 1) ((w_up_slot (by decide)).trans ((w_up_slot (by decide)).trans (w_up_same _ _ _ _))) (fun r22 => ?_)
                        refine wb_last 364 rfl (wy_pr rfl) wt_364 (n := 4200) ((w_up_slot (by decide)).trans ((w_up_slot (by decide)).trans ((w_up_slot (by decide)).trans ((w_up_slot (by decide)).trans ((ml_364 hM)))))) (by omega) (by omega) ⟨(by omega), (by omega)⟩ ?_
                        refine wa_fall ⟨_, rfl⟩ ?_
                        refine wa_return rfl ?_
                        refine ⟨rfl, ?_⟩
                        first
                          | (exfalso; omega)
                          | (rw [if_pos (by omega)]; rfl)
                          | (rw [if_neg (by omega)]; rfl)
                    · skip
                      exact absurd c17 (by omega)
                  · skip
                    refine wa_lload_n (n := 1) rfl ?_
                    refine wa_lload (n := 4) rfl ?_
                    refine wa_lcmp (w_rg1 (by omega) (by omega)) (w_rg1 (by omega) (by omega)) ?_
                    refine wa_ifne (by have := @wb_lcmp_cases; exact w_lcmp_rg) ⟨_, rfl⟩ (fun c23 => ?_) (fun c23 => ?_)
                    · skip
                      have c23x := @wb_lcmp_cases vx vy
                      refine wa_iconst ?_
                      refine wa_fall ⟨_, rfl⟩ ?_
                      refine wa_zreturn rfl (Or.inl rfl) ?_
                      show wJ _ _ _ _ _ _ _ _ _ _
                      refine wa_fall ⟨_, rfl⟩ ?_
                      refine wa_zreturn rfl (Or.inl rfl) ?_
                      show wJ _ _ _ _ _ _ _ _ _ _
                      refine wa_istore (n := 4) rfl ?_
                      refine wa_aload_n (n := 0) rfl ?_
                      refine wa_iconst ?_
                      refine wa_iload (n := 4) rfl ?_
                      refine wa_iload_n (n := 1) rfl ?_
                      refine wa_bipush (w_rg2 (by omega) (by omega)) ?_
                      refine wa_icmpne (w_rg0 (by omega) (by omega)) (w_rg0 (by omega) (by omega)) ⟨_, rfl⟩ (fun c24 => ?_) (fun c24 => ?_)
                      · skip
                        refine wa_iconst ?_
                        refine wa_fall ⟨_, rfl⟩ ?_
                        refine wa_icmpne (w_rg0 (by omega) (by omega)) (w_rg0 (by omega) (by omega)) ⟨_, rfl⟩ (fun c25 => ?_) (fun c25 => ?_)
                        · skip
                          exact absurd c25 (by omega)
                        · skip
                          refine wb_lconst (m := 1) rfl ?_
                          refine wa_goto ⟨_, rfl⟩ ?_
                          refine wa_cv 237 rfl (wy_pr rfl) wt_237 (M2 := fun _ => False) rfl at_M_is ⟨_, rfl⟩ rfl rfl ⟨trivial, (Or.inr ⟨wy_pr rfl, fun q => q⟩), trivial, trivial, trivial, trivial⟩ trivial (fun _ _ q => False.elim q) ?_ (fun _ _ _ q => q)
                          refine wa_aload_n (n := 0) rfl ?_
                          refine wa_iload_n (n := 1) rfl ?_
                          refine wb_pfi 237 rfl (wy_pr rfl) wt_237 wf_15_110 (n := 110) rfl ⟨(by omega), (by omega)⟩ ?_
                          refine wa_aload_n (n := 0) rfl ?_
                          refine wa_lload_n (n := 2) rfl ?_
                          refine wb_pfl 237 rfl (wy_pr rfl) wt_237 wf_15_111 (n := 111) rfl ⟨(by omega), (by omega)⟩ ?_
                          refine wa_return rfl ?_
                          show wJ _ _ _ _ _ _ _ _ _ _
                          refine wa_return rfl ?_
                          show wJ _ _ _ _ _ _ _ _ _ _
                          refine wa_fall ⟨_, rfl⟩ ?_
                          refine wa_aload_n (n := 0) rfl ?_
                          refine wb_gf4 237 rfl (wy_pr rfl) wt_237 wf_15_134 (v := 359) wl_237_134 ?_
                          refine wa_aload_n (n := 0) rfl ?_
                          refine wb_gfi 237 rfl (wy_pr rfl) wt_237 wf_15_151 (v := t) ((w_up_at (by decide)).trans ((w_up_at (by decide)).trans (mt))) (fun r26 => ?_)
                          refine wa_dup2 (by decide) (by decide) ?_
                          refine wb_iald 359 rfl (wy_pr rfl) wt_359 (n := 2) ((w_up_slot (by decide)).trans ((w_up_slot (by decide)).trans ((ml_359 hM)))) (by omega) (by omega) (v := h) ((w_up_slot (by decide)).trans ((w_up_slot (by decide)).trans (mh))) (fun r27 => ?_)
                          refine wa_iconst ?_
                          refine wa_isub ?_
                          refine wb_iast 359 rfl (wy_pr rfl) wt_359 (n := 2) ((w_up_slot (by decide)).trans ((w_up_slot (by decide)).trans ((ml_359 hM)))) (by omega) (by omega) ⟨(by omega), (by omega)⟩ ?_
                          refine wa_aload_n (n := 0) rfl ?_
                          refine wb_gf4 237 rfl (wy_pr rfl) wt_237 wf_15_138 (v := 363) wl_237_138 ?_
                          refine wa_iload_n (n := 3) rfl ?_
                          refine wa_aload_n (n := 0) rfl ?_
                          refine wb_gfi 237 rfl (wy_pr rfl) wt_237 wf_15_110 (v := 1) ((w_up_slot (by decide)).trans ((w_up_at (by decide)).trans (w_up_same _ _ _ _))) (fun r28 => ?_)
                          refine wb_iast 363 rfl (wy_pr rfl) wt_363 (n := 4200) ((w_up_slot (by decide)).trans ((w_up_slot (by decide)).trans ((w_up_slot (by decide)).trans ((ml_363 hM))))) (by omega) (by omega) ⟨(by omega), (by omega)⟩ ?_
                          refine wa_aload_n (n := 0) rfl ?_
                          refine wb_gf4 237 rfl (wy_pr rfl) wt_237 wf_15_139 (v := 364) wl_237_139 ?_
                          refine wa_iload_n (n := 3) rfl ?_
                          refine wa_aload_n (n := 0) rfl ?_
                          refine wb_gfl 237 rfl (wy_pr rfl) wt_237 wf_15_111 (v := 1) ((w_up_slot (by decide)).trans ((w_up_slot (by decide)).trans (w_up_same _ _ _ _))) (fun r29 => ?_)
                          refine wb_last 364 rfl (wy_pr rfl) wt_364 (n := 4200) ((w_up_slot (by decide)).trans ((w_up_slot (by decide)).trans ((w_up_slot (by decide)).trans ((w_up_slot (by decide)).trans ((ml_364 hM)))))) (by omega) (by omega) ⟨(by omega), (by omega)⟩ ?_
                          refine wa_fall ⟨_, rfl⟩ ?_
                          refine wa_return rfl ?_
                          refine ⟨rfl, ?_⟩
                          first
                            | (exfalso; omega)
                            | (rw [if_pos (by omega)]; rfl)
                            | (rw [if_neg (by omega)]; rfl)
                      · skip
                        exact absurd c24 (by omega)
                    · skip
                      have c23x := @wb_lcmp_cases vx vy
                      refine wa_iconst ?_
                      refine wa_goto ⟨_, rfl⟩ ?_
                      refine wa_zreturn rfl (Or.inr rfl) ?_
                      show wJ _ _ _ _ _ _ _ _ _ _
                      refine wa_fall ⟨_, rfl⟩ ?_
                      refine wa_zreturn rfl (Or.inr rfl) ?_
                      show wJ _ _ _ _ _ _ _ _ _ _
                      refine wa_istore (n := 4) rfl ?_
                      refine wa_aload_n (n := 0) rfl ?_
                      refine wa_iconst ?_
                      refine wa_iload (n := 4) rfl ?_
                      refine wa_iload_n (n := 1) rfl ?_
                      refine wa_bipush (w_rg2 (by omega) (by omega)) ?_
                      refine wa_icmpne (w_rg0 (by omega) (by omega)) (w_rg0 (by omega) (by omega)) ⟨_, rfl⟩ (fun c30 => ?_) (fun c30 => ?_)
                      · skip
                        refine wa_iconst ?_
                        refine wa_fall ⟨_, rfl⟩ ?_
                        refine wa_icmpne (w_rg0 (by omega) (by omega)) (w_rg0 (by omega) (by omega)) ⟨_, rfl⟩ (fun c31 => ?_) (fun c31 => ?_)
                        · skip
                          refine wb_lconst (m := 0) rfl ?_
                          refine wa_fall ⟨_, rfl⟩ ?_
                          refine wa_cv 237 rfl (wy_pr rfl) wt_237 (M2 := fun _ => False) rfl at_M_is ⟨_, rfl⟩ rfl rfl ⟨trivial, (Or.inr ⟨wy_pr rfl, fun q => q⟩), trivial, trivial, trivial, trivial⟩ trivial (fun _ _ q => False.elim q) ?_ (fun _ _ _ q => q)
                          refine wa_aload_n (n := 0) rfl ?_
                          refine wa_iload_n (n := 1) rfl ?_
                          refine wb_pfi 237 rfl (wy_pr rfl) wt_237 wf_15_110 (n := 110) rfl ⟨(by omega), (by omega)⟩ ?_
                          refine wa_aload_n (n := 0) rfl ?_
                          refine wa_lload_n (n := 2) rfl ?_
                          refine wb_pfl 237 rfl (wy_pr rfl) wt_237 wf_15_111 (n := 111) rfl ⟨(by omega), (by omega)⟩ ?_
                          refine wa_return rfl ?_
                          show wJ _ _ _ _ _ _ _ _ _ _
                          refine wa_return rfl ?_
                          show wJ _ _ _ _ _ _ _ _ _ _
                          refine wa_fall ⟨_, rfl⟩ ?_
                          refine wa_aload_n (n := 0) rfl ?_
                          refine wb_gf4 237 rfl (wy_pr rfl) wt_237 wf_15_134 (v := 359) wl_237_134 ?_
                          refine wa_aload_n (n := 0) rfl ?_
                          refine wb_gfi 237 rfl (wy_pr rfl) wt_237 wf_15_151 (v := t) ((w_up_at (by decide)).trans ((w_up_at (by decide)).trans (mt))) (fun r32 => ?_)
                          refine wa_dup2 (by decide) (by decide) ?_
                          refine wb_iald 359 rfl (wy_pr rfl) wt_359 (n := 2) ((w_up_slot (by decide)).trans ((w_up_slot (by decide)).trans ((ml_359 hM)))) (by omega) (by omega) (v := h) ((w_up_slot (by decide)).trans ((w_up_slot (by decide)).trans (mh))) (fun r33 => ?_)
                          refine wa_iconst ?_
                          refine wa_isub ?_
                          refine wb_iast 359 rfl (wy_pr rfl) wt_359 (n := 2) ((w_up_slot (by decide)).trans ((w_up_slot (by decide)).trans ((ml_359 hM)))) (by omega) (by omega) ⟨(by omega), (by omega)⟩ ?_
                          refine wa_aload_n (n := 0) rfl ?_
                          refine wb_gf4 237 rfl (wy_pr rfl) wt_237 wf_15_138 (v := 363) wl_237_138 ?_
                          refine wa_iload_n (n := 3) rfl ?_
                          refine wa_aload_n (n := 0) rfl ?_
                          refine wb_gfi 237 rfl (wy_pr rfl) wt_237 wf_15_110 (v := 1) ((w_up_slot (by decide)).trans ((w_up_at (by decide)).trans (w_up_same _ _ _ _))) (fun r34 => ?_)
                          refine wb_iast 363 rfl (wy_pr rfl) wt_363 (n := 4200) ((w_up_slot (by decide)).trans ((w_up_slot (by decide)).trans ((w_up_slot (by decide)).trans ((ml_363 hM))))) (by omega) (by omega) ⟨(by omega), (by omega)⟩ ?_
                          refine wa_aload_n (n := 0) rfl ?_
                          refine wb_gf4 237 rfl (wy_pr rfl) wt_237 wf_15_139 (v := 364) wl_237_139 ?_
                          refine wa_iload_n (n := 3) rfl ?_
                          refine wa_aload_n (n := 0) rfl ?_
                          refine wb_gfl 237 rfl (wy_pr rfl) wt_237 wf_15_111 (v := 0) ((w_up_slot (by decide)).trans ((w_up_slot (by decide)).trans (w_up_same _ _ _ _))) (fun r35 => ?_)
                          refine wb_last 364 rfl (wy_pr rfl) wt_364 (n := 4200) ((w_up_slot (by decide)).trans ((w_up_slot (by decide)).trans ((w_up_slot (by decide)).trans ((w_up_slot (by decide)).trans ((ml_364 hM)))))) (by omega) (by omega) ⟨(by omega), (by omega)⟩ ?_
                          refine wa_fall ⟨_, rfl⟩ ?_
                          refine wa_return rfl ?_
                          refine ⟨rfl, ?_⟩
                          first
                            | (exfalso; omega)
                            | (rw [if_pos (by omega)]; rfl)
                            | (rw [if_neg (by omega)]; rfl)
                        · skip
                          exact absurd c31 (by omega)
                      · skip
                        exact absurd c30 (by omega)
                · skip
                  refine wa_iload (n := 4) rfl ?_
                  refine wa_iconst ?_
                  refine wa_icmpne (w_rg0 (by omega) (by omega)) (w_rg0 (by omega) (by omega)) ⟨_, rfl⟩ (fun c36 => ?_) (fun c36 => ?_)
                  · skip
                    refine wa_iload_n (n := 1) rfl ?_
                    refine wa_lload_n (n := 2) rfl ?_
                    refine wa_iload (n := 4) rfl ?_
                    refine wa_lload (n := 5) rfl ?_
                    refine wa_cs (M2 := fun _ => False) rfl at_M_isSame ⟨_, rfl⟩ rfl rfl ⟨(Or.inr ⟨wy_pr rfl, fun q => q⟩), trivial, trivial, trivial, trivial, trivial⟩ trivial (fun _ _ q => False.elim q) ?_ (fun _ _ _ q => q)
                    refine wa_iload_n (n := 0) rfl ?_
                    refine wa_iload_n (n := 3) rfl ?_
                    refine wa_icmpne (w_rg0 (by omega) (by omega)) (w_rg0 (by omega) (by omega)) ⟨_, rfl⟩ (fun c37 => ?_) (fun c37 => ?_)
                    · skip
                      refine wa_iconst ?_
                      refine wa_fall ⟨_, rfl⟩ ?_
                      refine wa_zreturn rfl (Or.inl rfl) ?_
                      show wJ _ _ _ _ _ _ _ _ _ _
                      refine wa_fall ⟨_, rfl⟩ ?_
                      refine wa_zreturn rfl (Or.inl rfl) ?_
                      show wJ _ _ _ _ _ _ _ _ _ _
                      refine wa_istore (n := 4) rfl ?_
                      refine wa_aload_n (n := 0) rfl ?_
                      refine wa_iconst ?_
                      refine wa_iload (n := 4) rfl ?_
                      refine wa_iload_n (n := 1) rfl ?_
                      refine wa_bipush (w_rg2 (by omega) (by omega)) ?_
                      refine wa_icmpne (w_rg0 (by omega) (by omega)) (w_rg0 (by omega) (by omega)) ⟨_, rfl⟩ (fun c38 => ?_) (fun c38 => ?_)
                      · skip
                        refine wa_iconst ?_
                        refine wa_fall ⟨_, rfl⟩ ?_
                        refine wa_icmpne (w_rg0 (by omega) (by omega)) (w_rg0 (by omega) (by omega)) ⟨_, rfl⟩ (fun c39 => ?_) (fun c39 => ?_)
                        · skip
                          exact absurd c39 (by omega)
                        · skip
                          refine wb_lconst (m := 1) rfl ?_
                          refine wa_goto ⟨_, rfl⟩ ?_
                          refine wa_cv 237 rfl (wy_pr rfl) wt_237 (M2 := fun _ => False) rfl at_M_is ⟨_, rfl⟩ rfl rfl ⟨trivial, (Or.inr ⟨wy_pr rfl, fun q => q⟩), trivial, trivial, trivial, trivial⟩ trivial (fun _ _ q => False.elim q) ?_ (fun _ _ _ q => q)
                          refine wa_aload_n (n := 0) rfl ?_
                          refine wa_iload_n (n := 1) rfl ?_
                          refine wb_pfi 237 rfl (wy_pr rfl) wt_237 wf_15_110 (n := 110) rfl ⟨(by omega), (by omega)⟩ ?_
                          refine wa_aload_n (n := 0) rfl ?_
                          refine wa_lload_n (n := 2) rfl ?_
                          refine wb_pfl 237 rfl (wy_pr rfl) wt_237 wf_15_111 (n := 111) rfl ⟨(by omega), (by omega)⟩ ?_
                          refine wa_return rfl ?_
                          show wJ _ _ _ _ _ _ _ _ _ _
                          refine wa_return rfl ?_
                          show wJ _ _ _ _ _ _ _ _ _ _
                          refine wa_fall ⟨_, rfl⟩ ?_
                          refine wa_aload_n (n := 0) rfl ?_
                          refine wb_gf4 237 rfl (wy_pr rfl) wt_237 wf_15_134 (v := 359) wl_237_134 ?_
                          refine wa_aload_n (n := 0) rfl ?_
                          refine wb_gfi 237 rfl (wy_pr rfl) wt_237 wf_15_151 (v := t) ((w_up_at (by decide)).trans ((w_up_at (by decide)).trans (mt))) (fun r40 => ?_)
                          refine wa_dup2 (by decide) (by decide) ?_
                          refine wb_iald 359 rfl (wy_pr rfl) wt_359 (n := 2) ((w_up_slot (by decide)).trans ((w_up_slot (by decide)).trans ((ml_359 hM)))) (by omega) (by omega) (v := h) ((w_up_slot (by decide)).trans ((w_up_slot (by decide)).trans (mh))) (fun r41 => ?_)
                          refine wa_iconst ?_
                          refine wa_isub ?_
                          refine wb_iast 359 rfl (wy_pr rfl) wt_359 (n := 2) ((w_up_slot (by decide)).trans ((w_up_slot (by decide)).trans ((ml_359 hM)))) (by omega) (by omega) ⟨(by omega), (by omega)⟩ ?_
                          refine wa_aload_n (n := 0) rfl ?_
                          refine wb_gf4 237 rfl (wy_pr rfl) wt_237 wf_15_138 (v := 363) wl_237_138 ?_
                          refine wa_iload_n (n := 3) rfl ?_
                          refine wa_aload_n (n := 0) rfl ?_
                          refine wb_gfi 237 rfl (wy_pr rfl) wt_237 wf_15_110 (v := 1) ((w_up_slot (by decide)).trans ((w_up_at (by decide)).trans (w_up_same _ _ _ _))) (fun r42 => ?_)
                          refine wb_iast 363 rfl (wy_pr rfl) wt_363 (n := 4200) ((w_up_slot (by decide)).trans ((w_up_slot (by decide)).trans ((w_up_slot (by decide)).trans ((ml_363 hM))))) (by omega) (by omega) ⟨(by omega), (by omega)⟩ ?_
                          refine wa_aload_n (n := 0) rfl ?_
                          refine wb_gf4 237 rfl (wy_pr rfl) wt_237 wf_15_139 (v := 364) wl_237_139 ?_
                          refine wa_iload_n (n := 3) rfl ?_
                          refine wa_aload_n (n := 0) rfl ?_
                          refine wb_gfl 237 rfl (wy_pr rfl) wt_237 wf_15_111 (v := 1) ((w_up_slot (by decide)).trans ((w_up_slot (by decide)).trans (w_up_same _ _ _ _))) (fun r43 => ?_)
                          refine wb_last 364 rfl (wy_pr rfl) wt_364 (n := 4200) ((w_up_slot (by decide)).trans ((w_up_slot (by decide)).trans ((w_up_slot (by decide)).trans ((w_up_slot (by decide)).trans ((ml_364 hM)))))) (by omega) (by omega) ⟨(by omega), (by omega)⟩ ?_
                          refine wa_fall ⟨_, rfl⟩ ?_
                          refine wa_return rfl ?_
                          refine ⟨rfl, ?_⟩
                          first
                            | (exfalso; omega)
                            | (rw [if_pos (by omega)]; rfl)
                            | (rw [if_neg (by omega)]; rfl)
                      · skip
                        exact absurd c38 (by omega)
                    · skip
                      refine wa_lload_n (n := 1) rfl ?_
                      refine wa_lload (n := 4) rfl ?_
                      refine wa_lcmp (w_rg1 (by omega) (by omega)) (w_rg1 (by omega) (by omega)) ?_
                      refine wa_ifne (by have := @wb_lcmp_cases; exact w_lcmp_rg) ⟨_, rfl⟩ (fun c44 => ?_) (fun c44 => ?_)
                      · skip
                        have c44x := @wb_lcmp_cases vx vy
                        refine wa_iconst ?_
                        refine wa_fall ⟨_, rfl⟩ ?_
                        refine wa_zreturn rfl (Or.inl rfl) ?_
                        show wJ _ _ _ _ _ _ _ _ _ _
                        refine wa_fall ⟨_, rfl⟩ ?_
                        refine wa_zreturn rfl (Or.inl rfl) ?_
                        show wJ _ _ _ _ _ _ _ _ _ _
                        refine wa_istore (n := 4) rfl ?_
                        refine wa_aload_n (n := 0) rfl ?_
                        refine wa_iconst ?_
                        refine wa_iload (n := 4) rfl ?_
                        refine wa_iload_n (n := 1) rfl ?_
                        refine wa_bipush (w_rg2 (by omega) (by omega)) ?_
                        refine wa_icmpne (w_rg0 (by omega) (by omega)) (w_rg0 (by omega) (by omega)) ⟨_, rfl⟩ (fun c45 => ?_) (fun c45 => ?_)
                        · skip
                          refine wa_iconst ?_
                          refine wa_fall ⟨_, rfl⟩ ?_
                          refine wa_icmpne (w_rg0 (by omega) (by omega)) (w_rg0 (by omega) (by omega)) ⟨_, rfl⟩ (fun c46 => ?_) (fun c46 => ?_)
                          · skip
                            exact absurd c46 (by omega)
                          · skip
                            refine wb_lconst (m := 1) rfl ?_
                            refine wa_goto ⟨_, rfl⟩ ?_
                            refine wa_cv 237 rfl (wy_pr rfl) wt_237 (M2 := fun _ => False) rfl at_M_is ⟨_, rfl⟩ rfl rfl ⟨trivial, (Or.inr ⟨wy_pr rfl, fun q => q⟩), trivial, trivial, trivial, trivial⟩ trivial (fun _ _ q => False.elim q) ?_ (fun _ _ _ q => q)
                            refine wa_aload_n (n := 0) rfl ?_
                            refine wa_iload_n (n := 1) rfl ?_
                            refine wb_pfi 237 rfl (wy_pr rfl) wt_237 wf_15_110 (n := 110) rfl ⟨(by omega), (by omega)⟩ ?_
                            refine wa_aload_n (n := 0) rfl ?_
                            refine wa_lload_n (n := 2) rfl ?_
                            refine wb_pfl 237 rfl (wy_pr rfl) wt_237 wf_15_111 (n := 111) rfl ⟨(by omega), (by omega)⟩ ?_
                            refine wa_return rfl ?_
                            show wJ _ _ _ _ _ _ _ _ _ _
                            refine wa_return rfl ?_
                            show wJ _ _ _ _ _ _ _ _ _ _
                            refine wa_fall ⟨_, rfl⟩ ?_
                            refine wa_aload_n (n := 0) rfl ?_
                            refine wb_gf4 237 rfl (wy_pr rfl) wt_237 wf_15_134 (v := 359) wl_237_134 ?_
                            refine wa_aload_n (n := 0) rfl ?_
                            refine wb_gfi 237 rfl (wy_pr rfl) wt_237 wf_15_151 (v := t) ((w_up_at (by decide)).trans ((w_up_at (by decide)).trans (mt))) (fun r47 => ?_)
                            refine wa_dup2 (by decide) (by decide) ?_
                            refine wb_iald 359 rfl (wy_pr rfl) wt_359 (n := 2) ((w_up_slot (by decide)).trans ((w_up_slot (by decide)).trans ((ml_359 hM)))) (by omega) (by omega) (v := h) ((w_up_slot (by decide)).trans ((w_up_slot (by decide)).trans (mh))) (fun r48 => ?_)
                            refine wa_iconst ?_
                            refine wa_isub ?_
                            refine wb_iast 359 rfl (wy_pr rfl) wt_359 (n := 2) ((w_up_slot (by decide)).trans ((w_up_slot (by decide)).trans ((ml_359 hM)))) (by omega) (by omega) ⟨(by omega), (by omega)⟩ ?_
                            refine wa_aload_n (n := 0) rfl ?_
                            refine wb_gf4 237 rfl (wy_pr rfl) wt_237 wf_15_138 (v := 363) wl_237_138 ?_
                            refine wa_iload_n (n := 3) rfl ?_
                            refine wa_aload_n (n := 0) rfl ?_
                            refine wb_gfi 237 rfl (wy_pr rfl) wt_237 wf_15_110 (v := 1) ((w_up_slot (by decide)).trans ((w_up_at (by decide)).trans (w_up_same _ _ _ _))) (fun r49 => ?_)
                            refine wb_iast 363 rfl (wy_pr rfl) wt_363 (n := 4200) ((w_up_slot (by decide)).trans ((w_up_slot (by decide)).trans ((w_up_slot (by decide)).trans ((ml_363 hM))))) (by omega) (by omega) ⟨(by omega), (by omega)⟩ ?_
                            refine wa_aload_n (n := 0) rfl ?_
                            refine wb_gf4 237 rfl (wy_pr rfl) wt_237 wf_15_139 (v := 364) wl_237_139 ?_
                            refine wa_iload_n (n := 3) rfl ?_
                            refine wa_aload_n (n := 0) rfl ?_
                            refine wb_gfl 237 rfl (wy_pr rfl) wt_237 wf_15_111 (v := 1) ((w_up_slot (by decide)).trans ((w_up_slot (by decide)).trans (w_up_same _ _ _ _))) (fun r50 => ?_)
                            refine wb_last 364 rfl (wy_pr rfl) wt_364 (n := 4200) ((w_up_slot (by decide)).trans ((w_up_slot (by decide)).trans ((w_up_slot (by decide)).trans ((w_up_slot (by decide)).trans ((ml_364 hM)))))) (by omega) (by omega) ⟨(by omega), (by omega)⟩ ?_
                            refine wa_fall ⟨_, rfl⟩ ?_
                            refine wa_return rfl ?_
                            refine ⟨rfl, ?_⟩
                            first
                              | (exfalso; omega)
                              | (rw [if_pos (by omega)]; rfl)
                              | (rw [if_neg (by omega)]; rfl)
                        · skip
                          exact absurd c45 (by omega)
                      · skip
                        have c44x := @wb_lcmp_cases vx vy
                        refine wa_iconst ?_
                        refine wa_goto ⟨_, rfl⟩ ?_
                        refine wa_zreturn rfl (Or.inr rfl) ?_
                        show wJ _ _ _ _ _ _ _ _ _ _
                        refine wa_fall ⟨_, rfl⟩ ?_
                        refine wa_zreturn rfl (Or.inr rfl) ?_
                        show wJ _ _ _ _ _ _ _ _ _ _
                        refine wa_istore (n := 4) rfl ?_
                        refine wa_aload_n (n := 0) rfl ?_
                        refine wa_iconst ?_
                        refine wa_iload (n := 4) rfl ?_
                        refine wa_iload_n (n := 1) rfl ?_
                        refine wa_bipush (w_rg2 (by omega) (by omega)) ?_
                        refine wa_icmpne (w_rg0 (by omega) (by omega)) (w_rg0 (by omega) (by omega)) ⟨_, rfl⟩ (fun c51 => ?_) (fun c51 => ?_)
                        · skip
                          refine wa_iconst ?_
                          refine wa_fall ⟨_, rfl⟩ ?_
                          refine wa_icmpne (w_rg0 (by omega) (by omega)) (w_rg0 (by omega) (by omega)) ⟨_, rfl⟩ (fun c52 => ?_) (fun c52 => ?_)
                          · skip
                            refine wb_lconst (m := 0) rfl ?_
                            refine wa_fall ⟨_, rfl⟩ ?_
                            refine wa_cv 237 rfl (wy_pr rfl) wt_237 (M2 := fun _ => False) rfl at_M_is ⟨_, rfl⟩ rfl rfl ⟨trivial, (Or.inr ⟨wy_pr rfl, fun q => q⟩), trivial, trivial, trivial, trivial⟩ trivial (fun _ _ q => False.elim q) ?_ (fun _ _ _ q => q)
                            refine wa_aload_n (n := 0) rfl ?_
                            refine wa_iload_n (n := 1) rfl ?_
                            refine wb_pfi 237 rfl (wy_pr rfl) wt_237 wf_15_110 (n := 110) rfl ⟨(by omega), (by omega)⟩ ?_
                            refine wa_aload_n (n := 0) rfl ?_
                            refine wa_lload_n (n := 2) rfl ?_
                            refine wb_pfl 237 rfl (wy_pr rfl) wt_237 wf_15_111 (n := 111) rfl ⟨(by omega), (by omega)⟩ ?_
                            refine wa_return rfl ?_
                            show wJ _ _ _ _ _ _ _ _ _ _
                            refine wa_return rfl ?_
                            show wJ _ _ _ _ _ _ _ _ _ _
                            refine wa_fall ⟨_, rfl⟩ ?_
                            refine wa_aload_n (n := 0) rfl ?_
                            refine wb_gf4 237 rfl (wy_pr rfl) wt_237 wf_15_134 (v := 359) wl_237_134 ?_
                            refine wa_aload_n (n := 0) rfl ?_
                            refine wb_gfi 237 rfl (wy_pr rfl) wt_237 wf_15_151 (v := t) ((w_up_at (by decide)).trans ((w_up_at (by decide)).trans (mt))) (fun r53 => ?_)
                            refine wa_dup2 (by decide) (by decide) ?_
                            refine wb_iald 359 rfl (wy_pr rfl) wt_359 (n := 2) ((w_up_slot (by decide)).trans ((w_up_slot (by decide)).trans ((ml_359 hM)))) (by omega) (by omega) (v := h) ((w_up_slot (by decide)).trans ((w_up_slot (by decide)).trans (mh))) (fun r54 => ?_)
                            refine wa_iconst ?_
                            refine wa_isub ?_
                            refine wb_iast 359 rfl (wy_pr rfl) wt_359 (n := 2) ((w_up_slot (by decide)).trans ((w_up_slot (by decide)).trans ((ml_359 hM)))) (by omega) (by omega) ⟨(by omega), (by omega)⟩ ?_
                            refine wa_aload_n (n := 0) rfl ?_
                            refine wb_gf4 237 rfl (wy_pr rfl) wt_237 wf_15_138 (v := 363) wl_237_138 ?_
                            refine wa_iload_n (n := 3) rfl ?_
                            refine wa_aload_n (n := 0) rfl ?_
                            refine wb_gfi 237 rfl (wy_pr rfl) wt_237 wf_15_110 (v := 1) ((w_up_slot (by decide)).trans ((w_up_at (by decide)).trans (w_up_same _ _ _ _))) (fun r55 => ?_)
                            refine wb_iast 363 rfl (wy_pr rfl) wt_363 (n := 4200) ((w_up_slot (by decide)).trans ((w_up_slot (by decide)).trans ((w_up_slot (by decide)).trans ((ml_363 hM))))) (by omega) (by omega) ⟨(by omega), (by omega)⟩ ?_
                            refine wa_aload_n (n := 0) rfl ?_
                            refine wb_gf4 237 rfl (wy_pr rfl) wt_237 wf_15_139 (v := 364) wl_237_139 ?_
                            refine wa_iload_n (n := 3) rfl ?_
                            refine wa_aload_n (n := 0) rfl ?_
                            refine wb_gfl 237 rfl (wy_pr rfl) wt_237 wf_15_111 (v := 0) ((w_up_slot (by decide)).trans ((w_up_slot (by decide)).trans (w_up_same _ _ _ _))) (fun r56 => ?_)
                            refine wb_last 364 rfl (wy_pr rfl) wt_364 (n := 4200) ((w_up_slot (by decide)).trans ((w_up_slot (by decide)).trans ((w_up_slot (by decide)).trans ((w_up_slot (by decide)).trans ((ml_364 hM)))))) (by omega) (by omega) ⟨(by omega), (by omega)⟩ ?_
                            refine wa_fall ⟨_, rfl⟩ ?_
                            refine wa_return rfl ?_
                            refine ⟨rfl, ?_⟩
                            first
                              | (exfalso; omega)
                              | (rw [if_pos (by omega)]; rfl)
                              | (rw [if_neg (by omega)]; rfl)
                          · skip
                            exact absurd c52 (by omega)
                        · skip
                          exact absurd c51 (by omega)
                  · skip
                    exact absurd c36 (by omega)
          · skip
            exact absurd c8 (by omega)
        · skip
          exact absurd c7 (by omega)
      · skip
        exact absurd c6 (by omega)
    · skip
      exact absurd c5 (by omega)
  · skip
    exact absurd c4 (by omega)

theorem z14n_215 (h : stC 215 S K) (hi : cIn S K 14 a b) (hh : 2 ≤ K.1.length) (hy : ¬ ((K.1.getD (K.1.length - 2) (0, 0, [])).1 = 3 ∧ (K.1.getD (K.1.length - 1) (0, 0, [])).1 = 3)) : cSt xs d 215 S (kP K 2 (1, if (K.1.getD (K.1.length - 2) (0, 0, [])).1 = (K.1.getD (K.1.length - 1) (0, 0, [])).1 ∧ (K.1.getD (K.1.length - 2) (0, 0, [])).2.1 = (K.1.getD (K.1.length - 1) (0, 0, [])).2.1 then 1 else 0, [])) :=
  cs_o_215 (m := 2) h hi.1 hi.2.1 hi.2.2 (by first | decide | omega) (fun q => by omega) (fun x hx => hx) (by unfold mS; decide) (x14n_215 (xP_of (Or.inl rfl) h) (c_16 rfl (by first | decide | omega)) (c_16 rfl (by first | decide | omega)) (c_16 rfl (by first | decide | omega)) (c_16 rfl (by first | decide | omega)) (by omega) (by rw [(c_at h.1 (i := K.1.length - 1) (by omega) (j := (K.1.length : Int) - 1) (by omega)).1, (c_at h.1 (i := K.1.length - 2) (by omega) (j := (K.1.length : Int) - 1 - 1) (by omega)).1]; exact hy)) rfl (by omega) (cV_e (by first | decide | omega) (ite_cg (cV_eq2 (c_at h.1 (i := K.1.length - 2) (by omega) (j := (K.1.length : Int) - 1 - 1) (by omega)) (c_at h.1 (i := K.1.length - 1) (by omega) (j := (K.1.length : Int) - 1) (by omega)) hy)))

theorem z15n_215 (h : stC 215 S K) (hi : cIn S K 15 a b) (hh : 2 ≤ K.1.length) (hy : ¬ ((K.1.getD (K.1.length - 2) (0, 0, [])).1 = 3 ∧ (K.1.getD (K.1.length - 1) (0, 0, [])).1 = 3)) : cSt xs d 215 S (kP K 2 (1, if (K.1.getD (K.1.length - 2) (0, 0, [])).1 = (K.1.getD (K.1.length - 1) (0, 0, [])).1 ∧ (K.1.getD (K.1.length - 2) (0, 0, [])).2.1 = (K.1.getD (K.1.length - 1) (0, 0, [])).2.1 then 0 else 1, [])) :=
  cs_o_215 (m := 2) h hi.1 hi.2.1 hi.2.2 (by first | decide | omega) (fun q => by omega) (fun x hx => hx) (by unfold mS; decide) (x15n_215 (xP_of (Or.inl rfl) h) (c_16 rfl (by first | decide | omega)) (c_16 rfl (by first | decide | omega)) (c_16 rfl (by first | decide | omega)) (c_16 rfl (by first | decide | omega)) (by omega) (by rw [(c_at h.1 (i := K.1.length - 1) (by omega) (j := (K.1.length : Int) - 1) (by omega)).1, (c_at h.1 (i := K.1.length - 2) (by omega) (j := (K.1.length : Int) - 1 - 1) (by omega)).1]; exact hy)) rfl (by omega) (cV_e (by first | decide | omega) (ite_cg (cV_eq2 (c_at h.1 (i := K.1.length - 2) (by omega) (j := (K.1.length : Int) - 1 - 1) (by omega)) (c_at h.1 (i := K.1.length - 1) (by omega) (j := (K.1.length : Int) - 1) (by omega)) hy)))

theorem z14n_226 (h : stC 226 S K) (hi : cIn S K 14 a b) (hh : 2 ≤ K.1.length) (hy : ¬ ((K.1.getD (K.1.length - 2) (0, 0, [])).1 = 3 ∧ (K.1.getD (K.1.length - 1) (0, 0, [])).1 = 3)) : cSt xs d 226 S (kP K 2 (1, if (K.1.getD (K.1.length - 2) (0, 0, [])).1 = (K.1.getD (K.1.length - 1) (0, 0, [])).1 ∧ (K.1.getD (K.1.length - 2) (0, 0, [])).2.1 = (K.1.getD (K.1.length - 1) (0, 0, [])).2.1 then 1 else 0, [])) :=
  cs_o_226 (m := 2) h hi.1 hi.2.1 hi.2.2 (by first | decide | omega) (fun q => by omega) (fun x hx => hx) (by unfold mS; decide) (x14n_226 (xP_of (Or.inr rfl) h) (c_16 rfl (by first | decide | omega)) (c_16 rfl (by first | decide | omega)) (c_16 rfl (by first | decide | omega)) (c_16 rfl (by first | decide | omega)) (by omega) (by rw [(c_at h.1 (i := K.1.length - 1) (by omega) (j := (K.1.length : Int) - 1) (by omega)).1, (c_at h.1 (i := K.1.length - 2) (by omega) (j := (K.1.length : Int) - 1 - 1) (by omega)).1]; exact hy)) rfl (by omega) (cV_e (by first | decide | omega) (ite_cg (cV_eq2 (c_at h.1 (i := K.1.length - 2) (by omega) (j := (K.1.length : Int) - 1 - 1) (by omega)) (c_at h.1 (i := K.1.length - 1) (by omega) (j := (K.1.length : Int) - 1) (by omega)) hy)))

theorem z15n_226 (h : stC 226 S K) (hi : cIn S K 15 a b) (hh : 2 ≤ K.1.length) (hy : ¬ ((K.1.getD (K.1.length - 2) (0, 0, [])).1 = 3 ∧ (K.1.getD (K.1.length - 1) (0, 0, [])).1 = 3)) : cSt xs d 226 S (kP K 2 (1, if (K.1.getD (K.1.length - 2) (0, 0, [])).1 = (K.1.getD (K.1.length - 1) (0, 0, [])).1 ∧ (K.1.getD (K.1.length - 2) (0, 0, [])).2.1 = (K.1.getD (K.1.length - 1) (0, 0, [])).2.1 then 0 else 1, [])) :=
  cs_o_226 (m := 2) h hi.1 hi.2.1 hi.2.2 (by first | decide | omega) (fun q => by omega) (fun x hx => hx) (by unfold mS; decide) (x15n_226 (xP_of (Or.inr rfl) h) (c_16 rfl (by first | decide | omega)) (c_16 rfl (by first | decide | omega)) (c_16 rfl (by first | decide | omega)) (c_16 rfl (by first | decide | omega)) (by omega) (by rw [(c_at h.1 (i := K.1.length - 1) (by omega) (j := (K.1.length : Int) - 1) (by omega)).1, (c_at h.1 (i := K.1.length - 2) (by omega) (j := (K.1.length : Int) - 1 - 1) (by omega)).1]; exact hy)) rfl (by omega) (cV_e (by first | decide | omega) (ite_cg (cV_eq2 (c_at h.1 (i := K.1.length - 2) (by omega) (j := (K.1.length : Int) - 1 - 1) (by omega)) (c_at h.1 (i := K.1.length - 1) (by omega) (j := (K.1.length : Int) - 1) (by omega)) hy)))

theorem rn14n (h : stR t S K) (hs : S 357 t = 1) (hi : rIn S K 14 a b) (hh : 2 ≤ K.1.length) (hy : ¬ ((K.1.getD (K.1.length - 2) (0, 0, [])).1 = 3 ∧ (K.1.getD (K.1.length - 1) (0, 0, [])).1 = 3)) : rSt xs d t S (kP K 2 (1, if (K.1.getD (K.1.length - 2) (0, 0, [])).1 = (K.1.getD (K.1.length - 1) (0, 0, [])).1 ∧ (K.1.getD (K.1.length - 2) (0, 0, [])).2.1 = (K.1.getD (K.1.length - 1) (0, 0, [])).2.1 then 1 else 0, [])) :=
  rg_p h hs hi.1 hi.2.1 hi.2.2 (by first | decide | omega) (y14n (mP_of h) (r_16 rfl (by first | decide | omega)) (r_16 rfl (by first | decide | omega)) (r_16 rfl (by first | decide | omega)) (r_16 rfl (by first | decide | omega)) (by omega) (by rw [(r_at h.1 (i := K.1.length - 1) (by omega) (j := 2100 * t + (K.1.length : Int) - 1) (by omega)).1, (r_at h.1 (i := K.1.length - 2) (by omega) (j := 2100 * t + (K.1.length : Int) - 1 - 1) (by omega)).1]; exact hy)) (fun Z hz => by subst hz; exact rp_X h hh (rV_e (by first | decide | omega) (ite_cg (rV_eq2 (r_at h.1 (i := K.1.length - 2) (by omega) (j := 2100 * t + (K.1.length : Int) - 1 - 1) (by omega)) (r_at h.1 (i := K.1.length - 1) (by omega) (j := 2100 * t + (K.1.length : Int) - 1) (by omega)) hy))))

theorem rn15n (h : stR t S K) (hs : S 357 t = 1) (hi : rIn S K 15 a b) (hh : 2 ≤ K.1.length) (hy : ¬ ((K.1.getD (K.1.length - 2) (0, 0, [])).1 = 3 ∧ (K.1.getD (K.1.length - 1) (0, 0, [])).1 = 3)) : rSt xs d t S (kP K 2 (1, if (K.1.getD (K.1.length - 2) (0, 0, [])).1 = (K.1.getD (K.1.length - 1) (0, 0, [])).1 ∧ (K.1.getD (K.1.length - 2) (0, 0, [])).2.1 = (K.1.getD (K.1.length - 1) (0, 0, [])).2.1 then 0 else 1, [])) :=
  rg_p h hs hi.1 hi.2.1 hi.2.2 (by first | decide | omega) (y15n (mP_of h) (r_16 rfl (by first | decide | omega)) (r_16 rfl (by first | decide | omega)) (r_16 rfl (by first | decide | omega)) (r_16 rfl (by first | decide | omega)) (by omega) (by rw [(r_at h.1 (i := K.1.length - 1) (by omega) (j := 2100 * t + (K.1.length : Int) - 1) (by omega)).1, (r_at h.1 (i := K.1.length - 2) (by omega) (j := 2100 * t + (K.1.length : Int) - 1 - 1) (by omega)).1]; exact hy)) (fun Z hz => by subst hz; exact rp_X h hh (rV_e (by first | decide | omega) (ite_cg (rV_eq2 (r_at h.1 (i := K.1.length - 2) (by omega) (j := 2100 * t + (K.1.length : Int) - 1 - 1) (by omega)) (r_at h.1 (i := K.1.length - 1) (by omega) (j := 2100 * t + (K.1.length : Int) - 1) (by omega)) hy))))

end Wka
