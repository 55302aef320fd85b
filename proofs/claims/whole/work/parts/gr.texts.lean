/-! PART gr: act of the class's linker on texts. -/
section Wgr
variable {xs : List (Nat × List Int32)} {M : Nat → Prop} {d : Nat} {S Z A : wS}
theorem w64_1 {v : Int} (h : -9223372036854775808 ≤ v ∧ v ≤ 9223372036854775807) : (v = 9223372036854775807 ∧ w64 (v + 1) = -9223372036854775808) ∨ (v < 9223372036854775807 ∧ w64 (v + 1) = v + 1) := by
  by_cases c : v = 9223372036854775807
  · exact Or.inl ⟨c, by rw [c]; decide⟩
  · exact Or.inr ⟨by omega, w64_id ⟨by omega, by omega⟩⟩
set_option maxHeartbeats 4000000 in
theorem xtsz_215 {c p h kd ba gk gb x s0 ln  : Int} (hP : xP 215 c p h S) (hl : cSl S) (l4 : S 158 4 = 215) (l5 : S 158 5 = 216) (l7 : S 158 7 = kd) (l8 : S 158 8 = ba) (l9 : S 158 9 = gk) (l10 : S 158 10 = gb) (hx : 0 ≤ x ∧ x < S 48 (-1)) (hba : 0 ≤ ba ∧ ba < h) (hx1 : pe_at (pe_GA xs).xs 1 = some (1, tx_1)) (e48 : S 48 x = 3) (hgk : gk = 3) (hgb : gb = s0 * 4294967296 + ln) (hs0 : 0 ≤ s0 ∧ 0 ≤ ln ∧ s0 + ln ≤ 10000000) (hkd : kd = 0) : wJ (pe_GA xs) wY0 (mS [217, 218]) (d + 8) t_XL_act ((pe_at t_XL_act.bl 0).getD (0, [])).2 [(0, (2, 158)), (1, (0, x))] [] S (fun o Z => o = .inl none ∧ sO 215 h c p (h - ba) 2 ln S Z) := by
  obtain ⟨⟨hC, hI⟩, ⟨bc, bc0, bc1⟩, ⟨bp, bp0, bp1⟩, ⟨bh, bh0, bh1, bh2⟩, bl1, bl2, bl3⟩ := hP
  replace bp : S 220 (c - 1) = p := bp
  replace bh : S 216 2 = h := bh
  replace bh2 : h ≤ S 217 (-1) := bh2
  replace bl1 : S 218 (-1) = S 217 (-1) := bl1
  replace bl2 : 64 ≤ S 217 (-1) := bl2
  replace bl3 : S 217 (-1) ≤ 4095 := bl3
  have h35 := hl.2.1
  have h48 := hl.2.2.2
  refine wa_aload_n (n := 0) rfl ?_
  refine wb_gf4 158 rfl (wy_pr rfl) wt_158 wf_5_3 (v := 47) wl_158_3 ?_
  refine wa_iconst ?_
  refine wb_aald5 47 3 rfl rfl (wy_pr rfl) wt_47 (by rw [show _ = _ from ((cl_47 hC))]; omega) wl_47_3 ?_
  refine wa_iload_n (n := 1) rfl ?_
  refine wb_iald 51 rfl (wy_pr rfl) wt_51 (n := (S 48 (-1))) ((hl.2.2.1 3 (by decide))) (by omega) (by omega) (v := (S 51 x)) rfl (fun r1 => ?_)
  refine wa_istore_n (n := 2) rfl ?_
  refine wa_aload_n (n := 0) rfl ?_
  refine wb_gf4 158 rfl (wy_pr rfl) wt_158 wf_5_3 (v := 47) wl_158_3 ?_
  refine wa_iconst ?_
  refine wb_aald5 47 0 rfl rfl (wy_pr rfl) wt_47 (by rw [show _ = _ from ((cl_47 hC))]; omega) wl_47_0 ?_
  refine wa_iload_n (n := 1) rfl ?_
  refine wb_iald 48 rfl (wy_pr rfl) wt_48 (n := (S 48 (-1))) (rfl) (by omega) (by omega) (v := 3) (e48) (fun r2 => ?_)
  refine wa_lw (tb := 0) (w_rg0 (by omega) (by omega)) (q := (61, 3)) (by first | rfl | decide) ⟨_, rfl⟩ ?_
  refine wa_aload_n (n := 0) rfl ?_
  refine wb_gfi 158 rfl (wy_pr rfl) wt_158 wf_5_9 (v := gk) (l9) (fun r3 => ?_)
  refine wa_iconst ?_
  refine wa_icmpne (w_rg0 (by omega) (by omega)) (w_rg0 (by omega) (by omega)) ⟨_, rfl⟩ (fun c4 => ?_) (fun c4 => ?_)
  · skip
    exact absurd c4 (by omega)
  · skip
    refine wa_aload_n (n := 0) rfl ?_
    refine wa_cv 158 rfl (wy_pr rfl) wt_158 (M2 := mS [217, 218]) rfl at_XL_actOnText ⟨_, rfl⟩ rfl rfl ⟨trivial, (Or.inr ⟨wy_pr rfl, mS_no rfl⟩), trivial, trivial⟩ trivial (fun _ _ q => q) ?_ (fun _ _ _ q => q)
    refine wa_aload_n (n := 0) rfl ?_
    refine wb_gfl 158 rfl (wy_pr rfl) wt_158 wf_5_10 (v := gb) (l10) (fun r5 => ?_)
    refine wa_cs (M2 := mS [217, 218]) rfl at_X_sliceSize ⟨_, rfl⟩ rfl rfl ⟨(Or.inr ⟨wy_pr rfl, mS_no rfl⟩), trivial⟩ trivial (fun _ _ q => q) ?_ (fun _ _ _ q => q)
    refine wa_lload_n (n := 0) rfl ?_
    refine wb_l2i_r (y := ln) (by rw [hgb]; exact sl_z ⟨by omega, by omega⟩ ⟨by omega, by omega⟩) ?_
    refine wa_ireturn rfl ?_
    show wJ _ _ _ _ _ _ _ _ _ _
    refine wa_istore_n (n := 1) rfl ?_
    refine wa_aload_n (n := 0) rfl ?_
    refine wb_gfi 158 rfl (wy_pr rfl) wt_158 wf_5_7 (v := kd) (l7) (fun r6 => ?_)
    refine wa_ifne (w_rg0 (by omega) (by omega)) ⟨_, rfl⟩ (fun c7 => ?_) (fun c7 => ?_)
    · skip
      exact absurd c7 (by omega)
    · skip
      refine wa_aload_n (n := 0) rfl ?_
      refine wa_iconst ?_
      refine wa_iload_n (n := 1) rfl ?_
      refine wa_i2l (w_rg0 (by omega) (by omega)) ?_
      refine wa_cv 158 rfl (wy_pr rfl) wt_158 (M2 := mS [217, 218]) rfl at_XL_giveValue ⟨_, rfl⟩ rfl rfl ⟨trivial, (Or.inr ⟨wy_pr rfl, mS_no rfl⟩), trivial⟩ trivial (fun _ _ q => mS_sub (by decide) q) (glx_215 (S := S) (k := 2) (v := ln) (h := h) (c := c) (p := p) (ba := ba) hC hI (l4) (l5) (l8) (bc) (bp) (((bl1)).trans ((rfl)).symm) (by have e : S 217 (-1) = S 217 (-1) := (rfl); rw [e]; exact ⟨bl2, bl3⟩) (by have e : S 217 (-1) = S 217 (-1) := (rfl); omega) ⟨by omega, by omega⟩ ⟨by omega, by omega⟩ ⟨by omega, by omega⟩ ⟨by omega, by omega⟩) (fun oq8 Sq8 hp9 q8 => ?_)
      rcases q8 with ⟨rfl, hgv8⟩
      show wJ _ _ _ _ _ _ _ _ _ _
      refine wa_return rfl ?_
      show wJ _ _ _ _ _ _ _ _ _ _
      refine wa_goto ⟨_, rfl⟩ ?_
      refine wa_return rfl ?_
      exact ⟨rfl, hgv8⟩
set_option maxHeartbeats 4000000 in
theorem xtsb_215 {c p h kd ba gk gb x s0 ln k1 v1 kl vl u2 u3 : Int} (hP : xP 215 c p h S) (hl : cSl S) (l4 : S 158 4 = 215) (l5 : S 158 5 = 216) (l7 : S 158 7 = kd) (l8 : S 158 8 = ba) (l9 : S 158 9 = gk) (l10 : S 158 10 = gb) (hx : 0 ≤ x ∧ x < S 48 (-1)) (hba : 0 ≤ ba ∧ ba < h) (hx1 : pe_at (pe_GA xs).xs 1 = some (1, tx_1)) (e48 : S 48 x = 3) (hgk : gk = 3) (hgb : gb = s0 * 4294967296 + ln) (hs0 : 0 ≤ s0 ∧ 0 ≤ ln ∧ s0 + ln ≤ 10000000) (hk1 : S 217 (ba + 1) = k1) (hv1 : S 218 (ba + 1) = v1) (hb1 : ba + 1 < h) (hkl : S 217 (h - 1) = kl) (hvl : S 218 (h - 1) = vl) (hu2 : S 150 2 = u2) (hu3 : S 150 3 = u3) (hu2r : 0 ≤ u2 ∧ u2 ≤ 12000) (hu3r : 0 ≤ u3 ∧ u3 ≤ 200000) (hkd : kd = 5) : wJ (pe_GA xs) wY0 (mS [217, 218]) (d + 8) t_XL_act ((pe_at t_XL_act.bl 0).getD (0, [])).2 [(0, (2, 158)), (1, (0, x))] [] S (fun o Z => o = .inl none ∧ ((¬ (k1 = 2 ∧ kl = 2 ∧ 0 ≤ v1 ∧ v1 ≤ vl ∧ vl ≤ ln) ∧ w_up S 215 16 6 = Z) ∨ ((k1 = 2 ∧ kl = 2 ∧ 0 ≤ v1 ∧ v1 ≤ vl ∧ vl ≤ ln) ∧ (12000 ≤ u2 ∨ 200000 < u3 + (vl - v1)) ∧ w_up S 215 16 99 = Z) ∨ ((k1 = 2 ∧ kl = 2 ∧ 0 ≤ v1 ∧ v1 ≤ vl ∧ vl ≤ ln) ∧ u2 < 12000 ∧ u3 + (vl - v1) ≤ 200000 ∧ sO 215 h c p (h - ba) 3 ((s0 + v1) * 4294967296 + (vl - v1)) (w_up (w_up S 150 2 (u2 + 1)) 150 3 (u3 + (vl - v1))) Z))) := by
  obtain ⟨⟨hC, hI⟩, ⟨bc, bc0, bc1⟩, ⟨bp, bp0, bp1⟩, ⟨bh, bh0, bh1, bh2⟩, bl1, bl2, bl3⟩ := hP
  replace bp : S 220 (c - 1) = p := bp
  replace bh : S 216 2 = h := bh
  replace bh2 : h ≤ S 217 (-1) := bh2
  replace bl1 : S 218 (-1) = S 217 (-1) := bl1
  replace bl2 : 64 ≤ S 217 (-1) := bl2
  replace bl3 : S 217 (-1) ≤ 4095 := bl3
  have h35 := hl.2.1
  have h48 := hl.2.2.2
  refine wa_aload_n (n := 0) rfl ?_
  refine wb_gf4 158 rfl (wy_pr rfl) wt_158 wf_5_3 (v := 47) wl_158_3 ?_
  refine wa_iconst ?_
  refine wb_aald5 47 3 rfl rfl (wy_pr rfl) wt_47 (by rw [show _ = _ from ((cl_47 hC))]; omega) wl_47_3 ?_
  refine wa_iload_n (n := 1) rfl ?_
  refine wb_iald 51 rfl (wy_pr rfl) wt_51 (n := (S 48 (-1))) ((hl.2.2.1 3 (by decide))) (by omega) (by omega) (v := (S 51 x)) rfl (fun r1 => ?_)
  refine wa_istore_n (n := 2) rfl ?_
  refine wa_aload_n (n := 0) rfl ?_
  refine wb_gf4 158 rfl (wy_pr rfl) wt_158 wf_5_3 (v := 47) wl_158_3 ?_
  refine wa_iconst ?_
  refine wb_aald5 47 0 rfl rfl (wy_pr rfl) wt_47 (by rw [show _ = _ from ((cl_47 hC))]; omega) wl_47_0 ?_
  refine wa_iload_n (n := 1) rfl ?_
  refine wb_iald 48 rfl (wy_pr rfl) wt_48 (n := (S 48 (-1))) (rfl) (by omega) (by omega) (v := 3) (e48) (fun r2 => ?_)
  refine wa_lw (tb := 0) (w_rg0 (by omega) (by omega)) (q := (61, 3)) (by first | rfl | decide) ⟨_, rfl⟩ ?_
  refine wa_aload_n (n := 0) rfl ?_
  refine wb_gfi 158 rfl (wy_pr rfl) wt_158 wf_5_9 (v := gk) (l9) (fun r3 => ?_)
  refine wa_iconst ?_
  refine wa_icmpne (w_rg0 (by omega) (by omega)) (w_rg0 (by omega) (by omega)) ⟨_, rfl⟩ (fun c4 => ?_) (fun c4 => ?_)
  · skip
    exact absurd c4 (by omega)
  · skip
    refine wa_aload_n (n := 0) rfl ?_
    refine wa_cv 158 rfl (wy_pr rfl) wt_158 (M2 := mS [217, 218]) rfl at_XL_actOnText ⟨_, rfl⟩ rfl rfl ⟨trivial, (Or.inr ⟨wy_pr rfl, mS_no rfl⟩), trivial, trivial⟩ trivial (fun _ _ q => q) ?_ (fun _ _ _ q => q)
    refine wa_aload_n (n := 0) rfl ?_
    refine wb_gfl 158 rfl (wy_pr rfl) wt_158 wf_5_10 (v := gb) (l10) (fun r5 => ?_)
    refine wa_cs (M2 := mS [217, 218]) rfl at_X_sliceSize ⟨_, rfl⟩ rfl rfl ⟨(Or.inr ⟨wy_pr rfl, mS_no rfl⟩), trivial⟩ trivial (fun _ _ q => q) ?_ (fun _ _ _ q => q)
    refine wa_lload_n (n := 0) rfl ?_
    refine wb_l2i_r (y := ln) (by rw [hgb]; exact sl_z ⟨by omega, by omega⟩ ⟨by omega, by omega⟩) ?_
    refine wa_ireturn rfl ?_
    show wJ _ _ _ _ _ _ _ _ _ _
    refine wa_istore_n (n := 1) rfl ?_
    refine wa_aload_n (n := 0) rfl ?_
    refine wb_gfi 158 rfl (wy_pr rfl) wt_158 wf_5_7 (v := kd) (l7) (fun r6 => ?_)
    refine wa_ifne (w_rg0 (by omega) (by omega)) ⟨_, rfl⟩ (fun c7 => ?_) (fun c7 => ?_)
    · skip
      refine wa_aload_n (n := 0) rfl ?_
      refine wb_gf5 158 rfl (wy_pr rfl) wt_158 wf_5_5 (v := 216) (l5) (fun r8 => ?_)
      refine wb_gfi 216 rfl (wy_pr rfl) wt_216 wf_7_2 (v := h) (bh) (fun r9 => ?_)
      refine wa_iconst ?_
      refine wa_isub ?_
      refine wa_istore_n (n := 2) rfl ?_
      refine wa_aload_n (n := 0) rfl ?_
      refine wb_gf5 158 rfl (wy_pr rfl) wt_158 wf_5_5 (v := 216) (l5) (fun r10 => ?_)
      refine wb_gf4 216 rfl (wy_pr rfl) wt_216 wf_7_1 (v := 218) wl_216_1 ?_
      refine wa_aload_n (n := 0) rfl ?_
      refine wb_gfi 158 rfl (wy_pr rfl) wt_158 wf_5_8 (v := ba) (l8) (fun r11 => ?_)
      refine wa_iconst ?_
      refine wa_iadd ?_
      refine wb_lald 218 rfl (wy_pr rfl) wt_218 (n := (S 217 (-1))) (bl1) (by omega) (by omega) (v := v1) (hv1) (fun r12 => ?_)
      refine wa_lstore_n (n := 3) rfl ?_
      refine wa_aload_n (n := 0) rfl ?_
      refine wb_gfi 158 rfl (wy_pr rfl) wt_158 wf_5_7 (v := kd) (l7) (fun r13 => ?_)
      refine wa_iconst ?_
      refine wa_icmpne (w_rg0 (by omega) (by omega)) (w_rg0 (by omega) (by omega)) ⟨_, rfl⟩ (fun c14 => ?_) (fun c14 => ?_)
      · skip
        exact absurd c14 (by omega)
      · skip
        refine wa_aload_n (n := 0) rfl ?_
        refine wb_gf5 158 rfl (wy_pr rfl) wt_158 wf_5_5 (v := 216) (l5) (fun r15 => ?_)
        refine wb_gf4 216 rfl (wy_pr rfl) wt_216 wf_7_1 (v := 218) wl_216_1 ?_
        refine wa_iload_n (n := 2) rfl ?_
        refine wb_lald 218 rfl (wy_pr rfl) wt_218 (n := (S 217 (-1))) (bl1) (by omega) (by omega) (v := vl) (hvl) (fun r16 => ?_)
        refine wa_goto ⟨_, rfl⟩ ?_
        refine wa_lstore (n := 5) rfl ?_
        refine wa_aload_n (n := 0) rfl ?_
        refine wb_gf5 158 rfl (wy_pr rfl) wt_158 wf_5_5 (v := 216) (l5) (fun r17 => ?_)
        refine wb_gf4 216 rfl (wy_pr rfl) wt_216 wf_7_0 (v := 217) wl_216_0 ?_
        refine wa_aload_n (n := 0) rfl ?_
        refine wb_gfi 158 rfl (wy_pr rfl) wt_158 wf_5_8 (v := ba) (l8) (fun r18 => ?_)
        refine wa_iconst ?_
        refine wa_iadd ?_
        refine wb_bald 217 rfl (wy_pr rfl) wt_217 (n := (S 217 (-1))) (rfl) (by omega) (by omega) (v := k1) (hk1) (fun r19 => ?_)
        refine wa_iconst ?_
        refine wa_icmpne (w_rg0 (by omega) (by omega)) (w_rg0 (by omega) (by omega)) ⟨_, rfl⟩ (fun c20 => ?_) (fun c20 => ?_)
        · skip
          refine wa_aload_n (n := 0) rfl ?_
          refine wb_gf5 158 rfl (wy_pr rfl) wt_158 wf_5_4 (v := 215) (l4) (fun r21 => ?_)
          refine wa_bipush (w_rg2 (by omega) (by omega)) ?_
          refine wb_pfi 215 rfl (wy_pr rfl) wt_215 wf_8_16 (n := 16) rfl ⟨(by omega), (by omega)⟩ ?_
          refine wa_return rfl ?_
          show wJ _ _ _ _ _ _ _ _ _ _
          refine wa_goto ⟨_, rfl⟩ ?_
          refine wa_return rfl ?_
          exact ⟨rfl, Or.inl ⟨by omega, rfl⟩⟩
        · skip
          refine wa_aload_n (n := 0) rfl ?_
          refine wb_gf5 158 rfl (wy_pr rfl) wt_158 wf_5_5 (v := 216) (l5) (fun r22 => ?_)
          refine wb_gf4 216 rfl (wy_pr rfl) wt_216 wf_7_0 (v := 217) wl_216_0 ?_
          refine wa_iload_n (n := 2) rfl ?_
          refine wb_bald 217 rfl (wy_pr rfl) wt_217 (n := (S 217 (-1))) (rfl) (by omega) (by omega) (v := kl) (hkl) (fun r23 => ?_)
          refine wa_iconst ?_
          refine wa_icmpne (w_rg0 (by omega) (by omega)) (w_rg0 (by omega) (by omega)) ⟨_, rfl⟩ (fun c24 => ?_) (fun c24 => ?_)
          · skip
            refine wa_aload_n (n := 0) rfl ?_
            refine wb_gf5 158 rfl (wy_pr rfl) wt_158 wf_5_4 (v := 215) (l4) (fun r25 => ?_)
            refine wa_bipush (w_rg2 (by omega) (by omega)) ?_
            refine wb_pfi 215 rfl (wy_pr rfl) wt_215 wf_8_16 (n := 16) rfl ⟨(by omega), (by omega)⟩ ?_
            refine wa_return rfl ?_
            show wJ _ _ _ _ _ _ _ _ _ _
            refine wa_goto ⟨_, rfl⟩ ?_
            refine wa_return rfl ?_
            exact ⟨rfl, Or.inl ⟨by omega, rfl⟩⟩
          · skip
            refine wa_lload_n (n := 3) rfl ?_
            refine wb_lconst (m := 0) rfl ?_
            refine wa_lcmp (w_rg1 (by omega) (by omega)) (w_rg1 (by omega) (by omega)) ?_
            refine wa_iflt (by have := @wb_lcmp_cases; exact w_lcmp_rg) ⟨_, rfl⟩ (fun c26 => ?_) (fun c26 => ?_)
            · skip
              have c26x := @wb_lcmp_cases v1 0
              refine wa_aload_n (n := 0) rfl ?_
              refine wb_gf5 158 rfl (wy_pr rfl) wt_158 wf_5_4 (v := 215) (l4) (fun r27 => ?_)
              refine wa_bipush (w_rg2 (by omega) (by omega)) ?_
              refine wb_pfi 215 rfl (wy_pr rfl) wt_215 wf_8_16 (n := 16) rfl ⟨(by omega), (by omega)⟩ ?_
              refine wa_return rfl ?_
              show wJ _ _ _ _ _ _ _ _ _ _
              refine wa_goto ⟨_, rfl⟩ ?_
              refine wa_return rfl ?_
              exact ⟨rfl, Or.inl ⟨by omega, rfl⟩⟩
            · skip
              have c26x := @wb_lcmp_cases v1 0
              refine wa_lload_n (n := 3) rfl ?_
              refine wa_lload (n := 5) rfl ?_
              refine wa_lcmp (w_rg1 (by omega) (by omega)) (w_rg1 (by omega) (by omega)) ?_
              refine wa_ifgt (by have := @wb_lcmp_cases; exact w_lcmp_rg) ⟨_, rfl⟩ (fun c28 => ?_) (fun c28 => ?_)
              · skip
                have c28x := @wb_lcmp_cases v1 vl
                refine wa_aload_n (n := 0) rfl ?_
                refine wb_gf5 158 rfl (wy_pr rfl) wt_158 wf_5_4 (v := 215) (l4) (fun r29 => ?_)
                refine wa_bipush (w_rg2 (by omega) (by omega)) ?_
                refine wb_pfi 215 rfl (wy_pr rfl) wt_215 wf_8_16 (n := 16) rfl ⟨(by omega), (by omega)⟩ ?_
                refine wa_return rfl ?_
                show wJ _ _ _ _ _ _ _ _ _ _
                refine wa_goto ⟨_, rfl⟩ ?_
                refine wa_return rfl ?_
                exact ⟨rfl, Or.inl ⟨by omega, rfl⟩⟩
              · skip
                have c28x := @wb_lcmp_cases v1 vl
                refine wa_lload (n := 5) rfl ?_
                refine wa_iload_n (n := 1) rfl ?_
                refine wa_i2l (w_rg0 (by omega) (by omega)) ?_
                refine wa_lcmp (w_rg1 (by omega) (by omega)) (w_rg1 (by omega) (by omega)) ?_
                refine wa_ifle (by have := @wb_lcmp_cases; exact w_lcmp_rg) ⟨_, rfl⟩ (fun c30 => ?_) (fun c30 => ?_)
                · skip
                  have c30x := @wb_lcmp_cases vl ln
                  refine wa_lload (n := 5) rfl ?_
                  refine wa_lload_n (n := 3) rfl ?_
                  refine wa_lsub ?_
                  refine wb_l2i_r (wb_l2i_id ⟨(by omega), (by omega)⟩) ?_
                  refine wa_istore (n := 7) rfl ?_
                  refine wa_aload_n (n := 0) rfl ?_
                  refine wb_gf4 158 rfl (wy_pr rfl) wt_158 wf_5_0 (v := 72) wl_158_0 ?_
                  refine wa_iload (n := 7) rfl ?_
                  refine wa_cv 72 rfl (wy_pr rfl) wt_72 (M2 := mS [217, 218]) rfl at_XH_hasTextRoom ⟨_, rfl⟩ rfl rfl ⟨trivial, trivial, trivial, trivial, trivial, (Or.inr ⟨wy_pr rfl, mS_no rfl⟩), trivial⟩ trivial (fun _ _ q => q) ?_ (fun _ _ _ q => q)
                  refine wa_aload_n (n := 0) rfl ?_
                  refine wa_iconst ?_
                  refine wa_iconst ?_
                  refine wa_cv 72 rfl (wy_pr rfl) wt_72 (M2 := mS [217, 218]) rfl at_XH_hasRoom ⟨_, rfl⟩ rfl rfl ⟨(Or.inr ⟨wy_pr rfl, mS_no rfl⟩), trivial, trivial⟩ trivial (fun _ _ q => q) ?_ (fun _ _ _ q => q)
                  refine wa_aload_n (n := 0) rfl ?_
                  refine wb_gf4 72 rfl (wy_pr rfl) wt_72 wf_2_10 (v := 150) wl_72_10 ?_
                  refine wa_iload_n (n := 1) rfl ?_
                  refine wb_iald 150 rfl (wy_pr rfl) wt_150 (n := 6) ((cl_150 hC)) (by omega) (by omega) (v := u2) (hu2) (fun r31 => ?_)
                  refine wa_iload_n (n := 2) rfl ?_
                  refine wa_iadd ?_
                  refine wa_gs ?_
                  refine wa_iload_n (n := 1) rfl ?_
                  refine wb_xald 1 rfl hx1 (by decide) (by omega) (by decide) (v := 12000) (by decide) (fun r32 => ?_)
                  refine wa_icmpgt (w_rg0 (by omega) (by omega)) (w_rg0 (by omega) (by omega)) ⟨_, rfl⟩ (fun c33 => ?_) (fun c33 => ?_)
                  · skip
                    refine wa_iconst ?_
                    refine wa_fall ⟨_, rfl⟩ ?_
                    refine wa_zreturn rfl (Or.inl rfl) ?_
                    show wJ _ _ _ _ _ _ _ _ _ _
                    refine wa_ifeq (w_rg0 (by omega) (by omega)) ⟨_, rfl⟩ (fun c34 => ?_) (fun c34 => ?_)
                    · skip
                      refine wa_iconst ?_
                      refine wa_fall ⟨_, rfl⟩ ?_
                      refine wa_zreturn rfl (Or.inl rfl) ?_
                      show wJ _ _ _ _ _ _ _ _ _ _
                      refine wa_ifne (w_rg0 (by omega) (by omega)) ⟨_, rfl⟩ (fun c35 => ?_) (fun c35 => ?_)
                      · skip
                        exact absurd c35 (by omega)
                      · skip
                        refine wa_aload_n (n := 0) rfl ?_
                        refine wb_gf5 158 rfl (wy_pr rfl) wt_158 wf_5_4 (v := 215) (l4) (fun r36 => ?_)
                        refine wa_bipush (w_rg2 (by omega) (by omega)) ?_
                        refine wb_pfi 215 rfl (wy_pr rfl) wt_215 wf_8_16 (n := 16) rfl ⟨(by omega), (by omega)⟩ ?_
                        refine wa_return rfl ?_
                        show wJ _ _ _ _ _ _ _ _ _ _
                        refine wa_goto ⟨_, rfl⟩ ?_
                        refine wa_return rfl ?_
                        exact ⟨rfl, Or.inr (Or.inl ⟨by omega, by omega, rfl⟩)⟩
                    · skip
                      exact absurd c34 (by omega)
                  · skip
                    refine wa_iconst ?_
                    refine wa_goto ⟨_, rfl⟩ ?_
                    refine wa_zreturn rfl (Or.inr rfl) ?_
                    show wJ _ _ _ _ _ _ _ _ _ _
                    refine wa_ifeq (w_rg0 (by omega) (by omega)) ⟨_, rfl⟩ (fun c37 => ?_) (fun c37 => ?_)
                    · skip
                      exact absurd c37 (by omega)
                    · skip
                      refine wa_aload_n (n := 0) rfl ?_
                      refine wa_iconst ?_
                      refine wa_iload_n (n := 1) rfl ?_
                      refine wa_cv 72 rfl (wy_pr rfl) wt_72 (M2 := mS [217, 218]) rfl at_XH_hasRoom ⟨_, rfl⟩ rfl rfl ⟨(Or.inr ⟨wy_pr rfl, mS_no rfl⟩), trivial, trivial⟩ trivial (fun _ _ q => q) ?_ (fun _ _ _ q => q)
                      refine wa_aload_n (n := 0) rfl ?_
                      refine wb_gf4 72 rfl (wy_pr rfl) wt_72 wf_2_10 (v := 150) wl_72_10 ?_
                      refine wa_iload_n (n := 1) rfl ?_
                      refine wb_iald 150 rfl (wy_pr rfl) wt_150 (n := 6) ((cl_150 hC)) (by omega) (by omega) (v := u3) (hu3) (fun r38 => ?_)
                      refine wa_iload_n (n := 2) rfl ?_
                      refine wa_iadd ?_
                      refine wa_gs ?_
                      refine wa_iload_n (n := 1) rfl ?_
                      refine wb_xald 1 rfl hx1 (by decide) (by omega) (by decide) (v := 200000) (by decide) (fun r39 => ?_)
                      refine wa_icmpgt (w_rg0 (by omega) (by omega)) (w_rg0 (by omega) (by omega)) ⟨_, rfl⟩ (fun c40 => ?_) (fun c40 => ?_)
                      · skip
                        refine wa_iconst ?_
                        refine wa_fall ⟨_, rfl⟩ ?_
                        refine wa_zreturn rfl (Or.inl rfl) ?_
                        show wJ _ _ _ _ _ _ _ _ _ _
                        refine wa_ifeq (w_rg0 (by omega) (by omega)) ⟨_, rfl⟩ (fun c41 => ?_) (fun c41 => ?_)
                        · skip
                          refine wa_iconst ?_
                          refine wa_fall ⟨_, rfl⟩ ?_
                          refine wa_zreturn rfl (Or.inl rfl) ?_
                          show wJ _ _ _ _ _ _ _ _ _ _
                          refine wa_ifne (w_rg0 (by omega) (by omega)) ⟨_, rfl⟩ (fun c42 => ?_) (fun c42 => ?_)
                          · skip
                            exact absurd c42 (by omega)
                          · skip
                            refine wa_aload_n (n := 0) rfl ?_
                            refine wb_gf5 158 rfl (wy_pr rfl) wt_158 wf_5_4 (v := 215) (l4) (fun r43 => ?_)
                            refine wa_bipush (w_rg2 (by omega) (by omega)) ?_
                            refine wb_pfi 215 rfl (wy_pr rfl) wt_215 wf_8_16 (n := 16) rfl ⟨(by omega), (by omega)⟩ ?_
                            refine wa_return rfl ?_
                            show wJ _ _ _ _ _ _ _ _ _ _
                            refine wa_goto ⟨_, rfl⟩ ?_
                            refine wa_return rfl ?_
                            exact ⟨rfl, Or.inr (Or.inl ⟨by omega, by omega, rfl⟩)⟩
                        · skip
                          exact absurd c41 (by omega)
                      · skip
                        refine wa_iconst ?_
                        refine wa_goto ⟨_, rfl⟩ ?_
                        refine wa_zreturn rfl (Or.inr rfl) ?_
                        show wJ _ _ _ _ _ _ _ _ _ _
                        refine wa_ifeq (w_rg0 (by omega) (by omega)) ⟨_, rfl⟩ (fun c44 => ?_) (fun c44 => ?_)
                        · skip
                          exact absurd c44 (by omega)
                        · skip
                          refine wa_iconst ?_
                          refine wa_goto ⟨_, rfl⟩ ?_
                          refine wa_zreturn rfl (Or.inr rfl) ?_
                          show wJ _ _ _ _ _ _ _ _ _ _
                          refine wa_ifne (w_rg0 (by omega) (by omega)) ⟨_, rfl⟩ (fun c45 => ?_) (fun c45 => ?_)
                          · skip
                            refine wa_aload_n (n := 0) rfl ?_
                            refine wb_gf4 158 rfl (wy_pr rfl) wt_158 wf_5_0 (v := 72) wl_158_0 ?_
                            refine wa_iload (n := 7) rfl ?_
                            refine wa_cv 72 rfl (wy_pr rfl) wt_72 (M2 := mS [217, 218]) rfl at_XH_useText ⟨_, rfl⟩ rfl rfl ⟨trivial, trivial, trivial, trivial, trivial, (Or.inr ⟨wy_pr rfl, mS_no rfl⟩), trivial⟩ trivial (fun _ _ q => q) ?_ (fun _ _ _ q => q)
                            refine wa_aload_n (n := 0) rfl ?_
                            refine wb_gf4 72 rfl (wy_pr rfl) wt_72 wf_2_10 (v := 150) wl_72_10 ?_
                            refine wa_iconst ?_
                            refine wa_dup2 (by decide) (by decide) ?_
                            refine wb_iald 150 rfl (wy_pr rfl) wt_150 (n := 6) ((cl_150 hC)) (by omega) (by omega) (v := u2) (hu2) (fun r46 => ?_)
                            refine wa_iconst ?_
                            refine wa_iadd ?_
                            refine wb_iast 150 rfl (wy_pr rfl) wt_150 (n := 6) ((cl_150 hC)) (by omega) (by omega) ⟨(by omega), (by omega)⟩ ?_
                            refine wa_aload_n (n := 0) rfl ?_
                            refine wb_gf4 72 rfl (wy_pr rfl) wt_72 wf_2_10 (v := 150) wl_72_10 ?_
                            refine wa_iconst ?_
                            refine wa_dup2 (by decide) (by decide) ?_
                            refine wb_iald 150 rfl (wy_pr rfl) wt_150 (n := 6) ((w_up_at (by decide)).trans ((cl_150 hC))) (by omega) (by omega) (v := u3) ((w_up_at (by decide)).trans (hu3)) (fun r47 => ?_)
                            refine wa_iload_n (n := 1) rfl ?_
                            refine wa_iadd ?_
                            refine wb_iast 150 rfl (wy_pr rfl) wt_150 (n := 6) ((w_up_at (by decide)).trans ((cl_150 hC))) (by omega) (by omega) ⟨(by omega), (by omega)⟩ ?_
                            refine wa_return rfl ?_
                            show wJ _ _ _ _ _ _ _ _ _ _
                            refine wa_aload_n (n := 0) rfl ?_
                            refine wa_iconst ?_
                            refine wa_aload_n (n := 0) rfl ?_
                            refine wb_gfl 158 rfl (wy_pr rfl) wt_158 wf_5_10 (v := gb) ((w_up_slot (by decide)).trans ((w_up_slot (by decide)).trans (l10))) (fun r48 => ?_)
                            refine wa_cs (M2 := mS [217, 218]) rfl at_X_sliceStart ⟨_, rfl⟩ rfl rfl ⟨trivial, trivial, trivial, trivial, trivial, (Or.inr ⟨wy_pr rfl, mS_no rfl⟩), trivial⟩ ⟨trivial, (Or.inr ⟨wy_pr rfl, mS_no rfl⟩), trivial⟩ (fun _ _ q => q) ?_ (fun _ _ _ q => q)
                            refine wa_lload_n (n := 0) rfl ?_
                            refine wa_bipush (w_rg2 (by omega) (by omega)) ?_
                            refine wa_lushr ?_
                            refine wb_l2i_r (y := s0) (by rw [hgb]; exact sl_s ⟨by omega, by omega⟩ ⟨by omega, by omega⟩) ?_
                            refine wa_ireturn rfl ?_
                            show wJ _ _ _ _ _ _ _ _ _ _
                            refine wa_lload_n (n := 3) rfl ?_
                            refine wb_l2i_r (wb_l2i_id ⟨(by omega), (by omega)⟩) ?_
                            refine wa_iadd ?_
                            refine wa_iload (n := 7) rfl ?_
                            refine wa_cs (M2 := mS [217, 218]) rfl at_X_slice ⟨_, rfl⟩ rfl rfl ⟨trivial, trivial, trivial, trivial, trivial, (Or.inr ⟨wy_pr rfl, mS_no rfl⟩), trivial⟩ ⟨trivial, (Or.inr ⟨wy_pr rfl, mS_no rfl⟩), trivial⟩ (fun _ _ q => q) ?_ (fun _ _ _ q => q)
                            refine wa_iload_n (n := 0) rfl ?_
                            refine wa_i2l (w_rg0 (by omega) (by omega)) ?_
                            refine wa_bipush (w_rg2 (by omega) (by omega)) ?_
                            refine wa_lshl ?_
                            refine wa_iload_n (n := 1) rfl ?_
                            refine wa_i2l (w_rg0 (by omega) (by omega)) ?_
                            refine wa_lor ?_
                            refine wa_lreturn rfl ?_
                            show wJ _ _ _ _ _ _ _ _ _ _
                            rw [sl_mk ⟨by omega, by omega⟩ ⟨by omega, by omega⟩]
                            refine wa_cv 158 rfl (wy_pr rfl) wt_158 (M2 := mS [217, 218]) rfl at_XL_giveValue ⟨_, rfl⟩ rfl rfl ⟨trivial, trivial, trivial, trivial, trivial, (Or.inr ⟨wy_pr rfl, mS_no rfl⟩), trivial⟩ trivial (fun _ _ q => mS_sub (by decide) q) (glx_215 (S := (w_up (w_up S 150 2 (u2 + 1)) 150 3 (u3 + (vl - v1)))) (k := 3) (v := ((s0 + v1) * 4294967296 + (vl - v1))) (h := h) (c := c) (p := p) (ba := ba) (w_CL_up (w_CL_up hC (by omega)) (by omega)) (gI_up (gI_up hI (by omega) (by omega) (by omega)) (by omega) (by omega) (by omega)) ((w_up_slot (by decide)).trans ((w_up_slot (by decide)).trans (l4))) ((w_up_slot (by decide)).trans ((w_up_slot (by decide)).trans (l5))) ((w_up_slot (by decide)).trans ((w_up_slot (by decide)).trans (l8))) ((w_up_slot (by decide)).trans ((w_up_slot (by decide)).trans (bc))) ((w_up_slot (by decide)).trans ((w_up_slot (by decide)).trans (bp))) ((((w_up_slot (by decide)).trans ((w_up_slot (by decide)).trans (bl1)))).trans (((w_up_slot (by decide)).trans ((w_up_slot (by decide)).trans (rfl)))).symm) (by have e : (w_up (w_up S 150 2 (u2 + 1)) 150 3 (u3 + (vl - v1))) 217 (-1) = S 217 (-1) := ((w_up_slot (by decide)).trans ((w_up_slot (by decide)).trans (rfl))); rw [e]; exact ⟨bl2, bl3⟩) (by have e : (w_up (w_up S 150 2 (u2 + 1)) 150 3 (u3 + (vl - v1))) 217 (-1) = S 217 (-1) := ((w_up_slot (by decide)).trans ((w_up_slot (by decide)).trans (rfl))); omega) ⟨by omega, by omega⟩ ⟨by omega, by omega⟩ ⟨by omega, by omega⟩ ⟨by omega, by omega⟩) (fun oq49 Sq49 hp50 q49 => ?_)
                            rcases q49 with ⟨rfl, hgv49⟩
                            show wJ _ _ _ _ _ _ _ _ _ _
                            refine wa_return rfl ?_
                            show wJ _ _ _ _ _ _ _ _ _ _
                            refine wa_goto ⟨_, rfl⟩ ?_
                            refine wa_return rfl ?_
                            exact ⟨rfl, Or.inr (Or.inr ⟨by omega, by omega, by omega, hgv49⟩)⟩
                          · skip
                            exact absurd c45 (by omega)
                · skip
                  have c30x := @wb_lcmp_cases vl ln
                  refine wa_fall ⟨_, rfl⟩ ?_
                  refine wa_aload_n (n := 0) rfl ?_
                  refine wb_gf5 158 rfl (wy_pr rfl) wt_158 wf_5_4 (v := 215) (l4) (fun r51 => ?_)
                  refine wa_bipush (w_rg2 (by omega) (by omega)) ?_
                  refine wb_pfi 215 rfl (wy_pr rfl) wt_215 wf_8_16 (n := 16) rfl ⟨(by omega), (by omega)⟩ ?_
                  refine wa_return rfl ?_
                  show wJ _ _ _ _ _ _ _ _ _ _
                  refine wa_goto ⟨_, rfl⟩ ?_
                  refine wa_return rfl ?_
                  exact ⟨rfl, Or.inl ⟨by omega, rfl⟩⟩
    · skip
      exact absurd c7 (by omega)
set_option maxHeartbeats 4000000 in
theorem xtge_215 {c p h kd ba gk gb x s0 ln k1 v1 to u2 u3 : Int} (hP : xP 215 c p h S) (hl : cSl S) (l4 : S 158 4 = 215) (l5 : S 158 5 = 216) (l7 : S 158 7 = kd) (l8 : S 158 8 = ba) (l9 : S 158 9 = gk) (l10 : S 158 10 = gb) (hx : 0 ≤ x ∧ x < S 48 (-1)) (hba : 0 ≤ ba ∧ ba < h) (hx1 : pe_at (pe_GA xs).xs 1 = some (1, tx_1)) (e48 : S 48 x = 3) (hgk : gk = 3) (hgb : gb = s0 * 4294967296 + ln) (hs0 : 0 ≤ s0 ∧ 0 ≤ ln ∧ s0 + ln ≤ 10000000) (hk1 : S 217 (ba + 1) = k1) (hv1 : S 218 (ba + 1) = v1) (hb1 : ba + 1 < h) (hbh : ba + 1 = h - 1) (hto : w64 (v1 + 1) = to) (hu2 : S 150 2 = u2) (hu3 : S 150 3 = u3) (hu2r : 0 ≤ u2 ∧ u2 ≤ 12000) (hu3r : 0 ≤ u3 ∧ u3 ≤ 200000) (hkd : kd = 2) : wJ (pe_GA xs) wY0 (mS [217, 218]) (d + 8) t_XL_act ((pe_at t_XL_act.bl 0).getD (0, [])).2 [(0, (2, 158)), (1, (0, x))] [] S (fun o Z => o = .inl none ∧ ((¬ (k1 = 2 ∧ k1 = 2 ∧ 0 ≤ v1 ∧ v1 ≤ to ∧ to ≤ ln) ∧ w_up S 215 16 6 = Z) ∨ ((k1 = 2 ∧ k1 = 2 ∧ 0 ≤ v1 ∧ v1 ≤ to ∧ to ≤ ln) ∧ (12000 ≤ u2 ∨ 200000 < u3 + (to - v1)) ∧ w_up S 215 16 99 = Z) ∨ ((k1 = 2 ∧ k1 = 2 ∧ 0 ≤ v1 ∧ v1 ≤ to ∧ to ≤ ln) ∧ u2 < 12000 ∧ u3 + (to - v1) ≤ 200000 ∧ sO 215 h c p (h - ba) 3 ((s0 + v1) * 4294967296 + (to - v1)) (w_up (w_up S 150 2 (u2 + 1)) 150 3 (u3 + (to - v1))) Z))) := by
  obtain ⟨⟨hC, hI⟩, ⟨bc, bc0, bc1⟩, ⟨bp, bp0, bp1⟩, ⟨bh, bh0, bh1, bh2⟩, bl1, bl2, bl3⟩ := hP
  replace bp : S 220 (c - 1) = p := bp
  replace bh : S 216 2 = h := bh
  replace bh2 : h ≤ S 217 (-1) := bh2
  replace bl1 : S 218 (-1) = S 217 (-1) := bl1
  replace bl2 : 64 ≤ S 217 (-1) := bl2
  replace bl3 : S 217 (-1) ≤ 4095 := bl3
  have h35 := hl.2.1
  have h48 := hl.2.2.2
  have hk1b : S 217 (h - 1) = k1 := by rw [← hbh]; exact hk1
  have hv1b : S 218 (h - 1) = v1 := by rw [← hbh]; exact hv1
  refine wa_aload_n (n := 0) rfl ?_
  refine wb_gf4 158 rfl (wy_pr rfl) wt_158 wf_5_3 (v := 47) wl_158_3 ?_
  refine wa_iconst ?_
  refine wb_aald5 47 3 rfl rfl (wy_pr rfl) wt_47 (by rw [show _ = _ from ((cl_47 hC))]; omega) wl_47_3 ?_
  refine wa_iload_n (n := 1) rfl ?_
  refine wb_iald 51 rfl (wy_pr rfl) wt_51 (n := (S 48 (-1))) ((hl.2.2.1 3 (by decide))) (by omega) (by omega) (v := (S 51 x)) rfl (fun r1 => ?_)
  refine wa_istore_n (n := 2) rfl ?_
  refine wa_aload_n (n := 0) rfl ?_
  refine wb_gf4 158 rfl (wy_pr rfl) wt_158 wf_5_3 (v := 47) wl_158_3 ?_
  refine wa_iconst ?_
  refine wb_aald5 47 0 rfl rfl (wy_pr rfl) wt_47 (by rw [show _ = _ from ((cl_47 hC))]; omega) wl_47_0 ?_
  refine wa_iload_n (n := 1) rfl ?_
  refine wb_iald 48 rfl (wy_pr rfl) wt_48 (n := (S 48 (-1))) (rfl) (by omega) (by omega) (v := 3) (e48) (fun r2 => ?_)
  refine wa_lw (tb := 0) (w_rg0 (by omega) (by omega)) (q := (61, 3)) (by first | rfl | decide) ⟨_, rfl⟩ ?_
  refine wa_aload_n (n := 0) rfl ?_
  refine wb_gfi 158 rfl (wy_pr rfl) wt_158 wf_5_9 (v := gk) (l9) (fun r3 => ?_)
  refine wa_iconst ?_
  refine wa_icmpne (w_rg0 (by omega) (by omega)) (w_rg0 (by omega) (by omega)) ⟨_, rfl⟩ (fun c4 => ?_) (fun c4 => ?_)
  · skip
    exact absurd c4 (by omega)
  · skip
    refine wa_aload_n (n := 0) rfl ?_
    refine wa_cv 158 rfl (wy_pr rfl) wt_158 (M2 := mS [217, 218]) rfl at_XL_actOnText ⟨_, rfl⟩ rfl rfl ⟨trivial, (Or.inr ⟨wy_pr rfl, mS_no rfl⟩), trivial, trivial⟩ trivial (fun _ _ q => q) ?_ (fun _ _ _ q => q)
    refine wa_aload_n (n := 0) rfl ?_
    refine wb_gfl 158 rfl (wy_pr rfl) wt_158 wf_5_10 (v := gb) (l10) (fun r5 => ?_)
    refine wa_cs (M2 := mS [217, 218]) rfl at_X_sliceSize ⟨_, rfl⟩ rfl rfl ⟨(Or.inr ⟨wy_pr rfl, mS_no rfl⟩), trivial⟩ trivial (fun _ _ q => q) ?_ (fun _ _ _ q => q)
    refine wa_lload_n (n := 0) rfl ?_
    refine wb_l2i_r (y := ln) (by rw [hgb]; exact sl_z ⟨by omega, by omega⟩ ⟨by omega, by omega⟩) ?_
    refine wa_ireturn rfl ?_
    show wJ _ _ _ _ _ _ _ _ _ _
    refine wa_istore_n (n := 1) rfl ?_
    refine wa_aload_n (n := 0) rfl ?_
    refine wb_gfi 158 rfl (wy_pr rfl) wt_158 wf_5_7 (v := kd) (l7) (fun r6 => ?_)
    refine wa_ifne (w_rg0 (by omega) (by omega)) ⟨_, rfl⟩ (fun c7 => ?_) (fun c7 => ?_)
    · skip
      refine wa_aload_n (n := 0) rfl ?_
      refine wb_gf5 158 rfl (wy_pr rfl) wt_158 wf_5_5 (v := 216) (l5) (fun r8 => ?_)
      refine wb_gfi 216 rfl (wy_pr rfl) wt_216 wf_7_2 (v := h) (bh) (fun r9 => ?_)
      refine wa_iconst ?_
      refine wa_isub ?_
      refine wa_istore_n (n := 2) rfl ?_
      refine wa_aload_n (n := 0) rfl ?_
      refine wb_gf5 158 rfl (wy_pr rfl) wt_158 wf_5_5 (v := 216) (l5) (fun r10 => ?_)
      refine wb_gf4 216 rfl (wy_pr rfl) wt_216 wf_7_1 (v := 218) wl_216_1 ?_
      refine wa_aload_n (n := 0) rfl ?_
      refine wb_gfi 158 rfl (wy_pr rfl) wt_158 wf_5_8 (v := ba) (l8) (fun r11 => ?_)
      refine wa_iconst ?_
      refine wa_iadd ?_
      refine wb_lald 218 rfl (wy_pr rfl) wt_218 (n := (S 217 (-1))) (bl1) (by omega) (by omega) (v := v1) (hv1) (fun r12 => ?_)
      refine wa_lstore_n (n := 3) rfl ?_
      refine wa_aload_n (n := 0) rfl ?_
      refine wb_gfi 158 rfl (wy_pr rfl) wt_158 wf_5_7 (v := kd) (l7) (fun r13 => ?_)
      refine wa_iconst ?_
      refine wa_icmpne (w_rg0 (by omega) (by omega)) (w_rg0 (by omega) (by omega)) ⟨_, rfl⟩ (fun c14 => ?_) (fun c14 => ?_)
      · skip
        refine wa_lload_n (n := 3) rfl ?_
        refine wb_lconst (m := 1) rfl ?_
        refine wa_ladd ?_
        refine wa_fall ⟨_, rfl⟩ ?_
        refine wJ_n1 (w64_o _) ?_
        rw [hto]
        have hw1 := w64_1 (v := v1) ⟨by omega, by omega⟩
        rw [hto] at hw1
        refine wa_lstore (n := 5) rfl ?_
        refine wa_aload_n (n := 0) rfl ?_
        refine wb_gf5 158 rfl (wy_pr rfl) wt_158 wf_5_5 (v := 216) (l5) (fun r15 => ?_)
        refine wb_gf4 216 rfl (wy_pr rfl) wt_216 wf_7_0 (v := 217) wl_216_0 ?_
        refine wa_aload_n (n := 0) rfl ?_
        refine wb_gfi 158 rfl (wy_pr rfl) wt_158 wf_5_8 (v := ba) (l8) (fun r16 => ?_)
        refine wa_iconst ?_
        refine wa_iadd ?_
        refine wb_bald 217 rfl (wy_pr rfl) wt_217 (n := (S 217 (-1))) (rfl) (by omega) (by omega) (v := k1) (hk1) (fun r17 => ?_)
        refine wa_iconst ?_
        refine wa_icmpne (w_rg0 (by omega) (by omega)) (w_rg0 (by omega) (by omega)) ⟨_, rfl⟩ (fun c18 => ?_) (fun c18 => ?_)
        · skip
          refine wa_aload_n (n := 0) rfl ?_
          refine wb_gf5 158 rfl (wy_pr rfl) wt_158 wf_5_4 (v := 215) (l4) (fun r19 => ?_)
          refine wa_bipush (w_rg2 (by omega) (by omega)) ?_
          refine wb_pfi 215 rfl (wy_pr rfl) wt_215 wf_8_16 (n := 16) rfl ⟨(by omega), (by omega)⟩ ?_
          refine wa_return rfl ?_
          show wJ _ _ _ _ _ _ _ _ _ _
          refine wa_goto ⟨_, rfl⟩ ?_
          refine wa_return rfl ?_
          exact ⟨rfl, Or.inl ⟨by omega, rfl⟩⟩
        · skip
          refine wa_aload_n (n := 0) rfl ?_
          refine wb_gf5 158 rfl (wy_pr rfl) wt_158 wf_5_5 (v := 216) (l5) (fun r20 => ?_)
          refine wb_gf4 216 rfl (wy_pr rfl) wt_216 wf_7_0 (v := 217) wl_216_0 ?_
          refine wa_iload_n (n := 2) rfl ?_
          refine wb_bald 217 rfl (wy_pr rfl) wt_217 (n := (S 217 (-1))) (rfl) (by omega) (by omega) (v := k1) (hk1b) (fun r21 => ?_)
          refine wa_iconst ?_
          refine wa_icmpne (w_rg0 (by omega) (by omega)) (w_rg0 (by omega) (by omega)) ⟨_, rfl⟩ (fun c22 => ?_) (fun c22 => ?_)
          · skip
            exact absurd c22 (by omega)
          · skip
            refine wa_lload_n (n := 3) rfl ?_
            refine wb_lconst (m := 0) rfl ?_
            refine wa_lcmp (w_rg1 (by omega) (by omega)) (w_rg1 (by omega) (by omega)) ?_
            refine wa_iflt (by have := @wb_lcmp_cases; exact w_lcmp_rg) ⟨_, rfl⟩ (fun c23 => ?_) (fun c23 => ?_)
            · skip
              have c23x := @wb_lcmp_cases v1 0
              refine wa_aload_n (n := 0) rfl ?_
              refine wb_gf5 158 rfl (wy_pr rfl) wt_158 wf_5_4 (v := 215) (l4) (fun r24 => ?_)
              refine wa_bipush (w_rg2 (by omega) (by omega)) ?_
              refine wb_pfi 215 rfl (wy_pr rfl) wt_215 wf_8_16 (n := 16) rfl ⟨(by omega), (by omega)⟩ ?_
              refine wa_return rfl ?_
              show wJ _ _ _ _ _ _ _ _ _ _
              refine wa_goto ⟨_, rfl⟩ ?_
              refine wa_return rfl ?_
              exact ⟨rfl, Or.inl ⟨by omega, rfl⟩⟩
            · skip
              have c23x := @wb_lcmp_cases v1 0
              refine wa_lload_n (n := 3) rfl ?_
              refine wa_lload (n := 5) rfl ?_
              refine wa_lcmp (w_rg1 (by omega) (by omega)) (w_rg1 (by omega) (by omega)) ?_
              refine wa_ifgt (by have := @wb_lcmp_cases; exact w_lcmp_rg) ⟨_, rfl⟩ (fun c25 => ?_) (fun c25 => ?_)
              · skip
                have c25x := @wb_lcmp_cases v1 to
                refine wa_aload_n (n := 0) rfl ?_
                refine wb_gf5 158 rfl (wy_pr rfl) wt_158 wf_5_4 (v := 215) (l4) (fun r26 => ?_)
                refine wa_bipush (w_rg2 (by omega) (by omega)) ?_
                refine wb_pfi 215 rfl (wy_pr rfl) wt_215 wf_8_16 (n := 16) rfl ⟨(by omega), (by omega)⟩ ?_
                refine wa_return rfl ?_
                show wJ _ _ _ _ _ _ _ _ _ _
                refine wa_goto ⟨_, rfl⟩ ?_
                refine wa_return rfl ?_
                exact ⟨rfl, Or.inl ⟨by omega, rfl⟩⟩
              · skip
                have c25x := @wb_lcmp_cases v1 to
                refine wa_lload (n := 5) rfl ?_
                refine wa_iload_n (n := 1) rfl ?_
                refine wa_i2l (w_rg0 (by omega) (by omega)) ?_
                refine wa_lcmp (w_rg1 (by omega) (by omega)) (w_rg1 (by omega) (by omega)) ?_
                refine wa_ifle (by have := @wb_lcmp_cases; exact w_lcmp_rg) ⟨_, rfl⟩ (fun c27 => ?_) (fun c27 => ?_)
                · skip
                  have c27x := @wb_lcmp_cases to ln
                  refine wa_lload (n := 5) rfl ?_
                  refine wa_lload_n (n := 3) rfl ?_
                  refine wa_lsub ?_
                  refine wb_l2i_r (wb_l2i_id ⟨(by omega), (by omega)⟩) ?_
                  refine wa_istore (n := 7) rfl ?_
                  refine wa_aload_n (n := 0) rfl ?_
                  refine wb_gf4 158 rfl (wy_pr rfl) wt_158 wf_5_0 (v := 72) wl_158_0 ?_
                  refine wa_iload (n := 7) rfl ?_
                  refine wa_cv 72 rfl (wy_pr rfl) wt_72 (M2 := mS [217, 218]) rfl at_XH_hasTextRoom ⟨_, rfl⟩ rfl rfl ⟨trivial, trivial, trivial, trivial, trivial, (Or.inr ⟨wy_pr rfl, mS_no rfl⟩), trivial⟩ trivial (fun _ _ q => q) ?_ (fun _ _ _ q => q)
                  refine wa_aload_n (n := 0) rfl ?_
                  refine wa_iconst ?_
                  refine wa_iconst ?_
                  refine wa_cv 72 rfl (wy_pr rfl) wt_72 (M2 := mS [217, 218]) rfl at_XH_hasRoom ⟨_, rfl⟩ rfl rfl ⟨(Or.inr ⟨wy_pr rfl, mS_no rfl⟩), trivial, trivial⟩ trivial (fun _ _ q => q) ?_ (fun _ _ _ q => q)
                  refine wa_aload_n (n := 0) rfl ?_
                  refine wb_gf4 72 rfl (wy_pr rfl) wt_72 wf_2_10 (v := 150) wl_72_10 ?_
                  refine wa_iload_n (n := 1) rfl ?_
                  refine wb_iald 150 rfl (wy_pr rfl) wt_150 (n := 6) ((cl_150 hC)) (by omega) (by omega) (v := u2) (hu2) (fun r28 => ?_)
                  refine wa_iload_n (n := 2) rfl ?_
                  refine wa_iadd ?_
                  refine wa_gs ?_
                  refine wa_iload_n (n := 1) rfl ?_
                  refine wb_xald 1 rfl hx1 (by decide) (by omega) (by decide) (v := 12000) (by decide) (fun r29 => ?_)
                  refine wa_icmpgt (w_rg0 (by omega) (by omega)) (w_rg0 (by omega) (by omega)) ⟨_, rfl⟩ (fun c30 => ?_) (fun c30 => ?_)
                  · skip
                    refine wa_iconst ?_
                    refine wa_fall ⟨_, rfl⟩ ?_
                    refine wa_zreturn rfl (Or.inl rfl) ?_
                    show wJ _ _ _ _ _ _ _ _ _ _
                    refine wa_ifeq (w_rg0 (by omega) (by omega)) ⟨_, rfl⟩ (fun c31 => ?_) (fun c31 => ?_)
                    · skip
                      refine wa_iconst ?_
                      refine wa_fall ⟨_, rfl⟩ ?_
                      refine wa_zreturn rfl (Or.inl rfl) ?_
                      show wJ _ _ _ _ _ _ _ _ _ _
                      refine wa_ifne (w_rg0 (by omega) (by omega)) ⟨_, rfl⟩ (fun c32 => ?_) (fun c32 => ?_)
                      · skip
                        exact absurd c32 (by omega)
                      · skip
                        refine wa_aload_n (n := 0) rfl ?_
                        refine wb_gf5 158 rfl (wy_pr rfl) wt_158 wf_5_4 (v := 215) (l4) (fun r33 => ?_)
                        refine wa_bipush (w_rg2 (by omega) (by omega)) ?_
                        refine wb_pfi 215 rfl (wy_pr rfl) wt_215 wf_8_16 (n := 16) rfl ⟨(by omega), (by omega)⟩ ?_
                        refine wa_return rfl ?_
                        show wJ _ _ _ _ _ _ _ _ _ _
                        refine wa_goto ⟨_, rfl⟩ ?_
                        refine wa_return rfl ?_
                        exact ⟨rfl, Or.inr (Or.inl ⟨by omega, by omega, rfl⟩)⟩
                    · skip
                      exact absurd c31 (by omega)
                  · skip
                    refine wa_iconst ?_
                    refine wa_goto ⟨_, rfl⟩ ?_
                    refine wa_zreturn rfl (Or.inr rfl) ?_
                    show wJ _ _ _ _ _ _ _ _ _ _
                    refine wa_ifeq (w_rg0 (by omega) (by omega)) ⟨_, rfl⟩ (fun c34 => ?_) (fun c34 => ?_)
                    · skip
                      exact absurd c34 (by omega)
                    · skip
                      refine wa_aload_n (n := 0) rfl ?_
                      refine wa_iconst ?_
                      refine wa_iload_n (n := 1) rfl ?_
                      refine wa_cv 72 rfl (wy_pr rfl) wt_72 (M2 := mS [217, 218]) rfl at_XH_hasRoom ⟨_, rfl⟩ rfl rfl ⟨(Or.inr ⟨wy_pr rfl, mS_no rfl⟩), trivial, trivial⟩ trivial (fun _ _ q => q) ?_ (fun _ _ _ q => q)
                      refine wa_aload_n (n := 0) rfl ?_
                      refine wb_gf4 72 rfl (wy_pr rfl) wt_72 wf_2_10 (v := 150) wl_72_10 ?_
                      refine wa_iload_n (n := 1) rfl ?_
                      refine wb_iald 150 rfl (wy_pr rfl) wt_150 (n := 6) ((cl_150 hC)) (by omega) (by omega) (v := u3) (hu3) (fun r35 => ?_)
                      refine wa_iload_n (n := 2) rfl ?_
                      refine wa_iadd ?_
                      refine wa_gs ?_
                      refine wa_iload_n (n := 1) rfl ?_
                      refine wb_xald 1 rfl hx1 (by decide) (by omega) (by decide) (v := 200000) (by decide) (fun r36 => ?_)
                      refine wa_icmpgt (w_rg0 (by omega) (by omega)) (w_rg0 (by omega) (by omega)) ⟨_, rfl⟩ (fun c37 => ?_) (fun c37 => ?_)
                      · skip
                        refine wa_iconst ?_
                        refine wa_fall ⟨_, rfl⟩ ?_
                        refine wa_zreturn rfl (Or.inl rfl) ?_
                        show wJ _ _ _ _ _ _ _ _ _ _
                        refine wa_ifeq (w_rg0 (by omega) (by omega)) ⟨_, rfl⟩ (fun c38 => ?_) (fun c38 => ?_)
                        · skip
                          refine wa_iconst ?_
                          refine wa_fall ⟨_, rfl⟩ ?_
                          refine wa_zreturn rfl (Or.inl rfl) ?_
                          show wJ _ _ _ _ _ _ _ _ _ _
                          refine wa_ifne (w_rg0 (by omega) (by omega)) ⟨_, rfl⟩ (fun c39 => ?_) (fun c39 => ?_)
                          · skip
                            exact absurd c39 (by omega)
                          · skip
                            refine wa_aload_n (n := 0) rfl ?_
                            refine wb_gf5 158 rfl (wy_pr rfl) wt_158 wf_5_4 (v := 215) (l4) (fun r40 => ?_)
                            refine wa_bipush (w_rg2 (by omega) (by omega)) ?_
                            refine wb_pfi 215 rfl (wy_pr rfl) wt_215 wf_8_16 (n := 16) rfl ⟨(by omega), (by omega)⟩ ?_
                            refine wa_return rfl ?_
                            show wJ _ _ _ _ _ _ _ _ _ _
                            refine wa_goto ⟨_, rfl⟩ ?_
                            refine wa_return rfl ?_
                            exact ⟨rfl, Or.inr (Or.inl ⟨by omega, by omega, rfl⟩)⟩
                        · skip
                          exact absurd c38 (by omega)
                      · skip
                        refine wa_iconst ?_
                        refine wa_goto ⟨_, rfl⟩ ?_
                        refine wa_zreturn rfl (Or.inr rfl) ?_
                        show wJ _ _ _ _ _ _ _ _ _ _
                        refine wa_ifeq (w_rg0 (by omega) (by omega)) ⟨_, rfl⟩ (fun c41 => ?_) (fun c41 => ?_)
                        · skip
                          exact absurd c41 (by omega)
                        · skip
                          refine wa_iconst ?_
                          refine wa_goto ⟨_, rfl⟩ ?_
                          refine wa_zreturn rfl (Or.inr rfl) ?_
                          show wJ _ _ _ _ _ _ _ _ _ _
                          refine wa_ifne (w_rg0 (by omega) (by omega)) ⟨_, rfl⟩ (fun c42 => ?_) (fun c42 => ?_)
                          · skip
                            refine wa_aload_n (n := 0) rfl ?_
                            refine wb_gf4 158 rfl (wy_pr rfl) wt_158 wf_5_0 (v := 72) wl_158_0 ?_
                            refine wa_iload (n := 7) rfl ?_
                            refine wa_cv 72 rfl (wy_pr rfl) wt_72 (M2 := mS [217, 218]) rfl at_XH_useText ⟨_, rfl⟩ rfl rfl ⟨trivial, trivial, trivial, trivial, trivial, (Or.inr ⟨wy_pr rfl, mS_no rfl⟩), trivial⟩ trivial (fun _ _ q => q) ?_ (fun _ _ _ q => q)
                            refine wa_aload_n (n := 0) rfl ?_
                            refine wb_gf4 72 rfl (wy_pr rfl) wt_72 wf_2_10 (v := 150) wl_72_10 ?_
                            refine wa_iconst ?_
                            refine wa_dup2 (by decide) (by decide) ?_
                            refine wb_iald 150 rfl (wy_pr rfl) wt_150 (n := 6) ((cl_150 hC)) (by omega) (by omega) (v := u2) (hu2) (fun r43 => ?_)
                            refine wa_iconst ?_
                            refine wa_iadd ?_
                            refine wb_iast 150 rfl (wy_pr rfl) wt_150 (n := 6) ((cl_150 hC)) (by omega) (by omega) ⟨(by omega), (by omega)⟩ ?_
                            refine wa_aload_n (n := 0) rfl ?_
                            refine wb_gf4 72 rfl (wy_pr rfl) wt_72 wf_2_10 (v := 150) wl_72_10 ?_
                            refine wa_iconst ?_
                            refine wa_dup2 (by decide) (by decide) ?_
                            refine wb_iald 150 rfl (wy_pr rfl) wt_150 (n := 6) ((w_up_at (by decide)).trans ((cl_150 hC))) (by omega) (by omega) (v := u3) ((w_up_at (by decide)).trans (hu3)) (fun r44 => ?_)
                            refine wa_iload_n (n := 1) rfl ?_
                            refine wa_iadd ?_
                            refine wb_iast 150 rfl (wy_pr rfl) wt_150 (n := 6) ((w_up_at (by decide)).trans ((cl_150 hC))) (by omega) (by omega) ⟨(by omega), (by omega)⟩ ?_
                            refine wa_return rfl ?_
                            show wJ _ _ _ _ _ _ _ _ _ _
                            refine wa_aload_n (n := 0) rfl ?_
                            refine wa_iconst ?_
                            refine wa_aload_n (n := 0) rfl ?_
                            refine wb_gfl 158 rfl (wy_pr rfl) wt_158 wf_5_10 (v := gb) ((w_up_slot (by decide)).trans ((w_up_slot (by decide)).trans (l10))) (fun r45 => ?_)
                            refine wa_cs (M2 := mS [217, 218]) rfl at_X_sliceStart ⟨_, rfl⟩ rfl rfl ⟨trivial, trivial, trivial, trivial, trivial, (Or.inr ⟨wy_pr rfl, mS_no rfl⟩), trivial⟩ ⟨trivial, (Or.inr ⟨wy_pr rfl, mS_no rfl⟩), trivial⟩ (fun _ _ q => q) ?_ (fun _ _ _ q => q)
                            refine wa_lload_n (n := 0) rfl ?_
                            refine wa_bipush (w_rg2 (by omega) (by omega)) ?_
                            refine wa_lushr ?_
                            refine wb_l2i_r (y := s0) (by rw [hgb]; exact sl_s ⟨by omega, by omega⟩ ⟨by omega, by omega⟩) ?_
                            refine wa_ireturn rfl ?_
                            show wJ _ _ _ _ _ _ _ _ _ _
                            refine wa_lload_n (n := 3) rfl ?_
                            refine wb_l2i_r (wb_l2i_id ⟨(by omega), (by omega)⟩) ?_
                            refine wa_iadd ?_
                            refine wa_iload (n := 7) rfl ?_
                            refine wa_cs (M2 := mS [217, 218]) rfl at_X_slice ⟨_, rfl⟩ rfl rfl ⟨trivial, trivial, trivial, trivial, trivial, (Or.inr ⟨wy_pr rfl, mS_no rfl⟩), trivial⟩ ⟨trivial, (Or.inr ⟨wy_pr rfl, mS_no rfl⟩), trivial⟩ (fun _ _ q => q) ?_ (fun _ _ _ q => q)
                            refine wa_iload_n (n := 0) rfl ?_
                            refine wa_i2l (w_rg0 (by omega) (by omega)) ?_
                            refine wa_bipush (w_rg2 (by omega) (by omega)) ?_
                            refine wa_lshl ?_
                            refine wa_iload_n (n := 1) rfl ?_
                            refine wa_i2l (w_rg0 (by omega) (by omega)) ?_
                            refine wa_lor ?_
                            refine wa_lreturn rfl ?_
                            show wJ _ _ _ _ _ _ _ _ _ _
                            rw [sl_mk ⟨by omega, by omega⟩ ⟨by omega, by omega⟩]
                            refine wa_cv 158 rfl (wy_pr rfl) wt_158 (M2 := mS [217, 218]) rfl at_XL_giveValue ⟨_, rfl⟩ rfl rfl ⟨trivial, trivial, trivial, trivial, trivial, (Or.inr ⟨wy_pr rfl, mS_no rfl⟩), trivial⟩ trivial (fun _ _ q => mS_sub (by decide) q) (glx_215 (S := (w_up (w_up S 150 2 (u2 + 1)) 150 3 (u3 + (to - v1)))) (k := 3) (v := ((s0 + v1) * 4294967296 + (to - v1))) (h := h) (c := c) (p := p) (ba := ba) (w_CL_up (w_CL_up hC (by omega)) (by omega)) (gI_up (gI_up hI (by omega) (by omega) (by omega)) (by omega) (by omega) (by omega)) ((w_up_slot (by decide)).trans ((w_up_slot (by decide)).trans (l4))) ((w_up_slot (by decide)).trans ((w_up_slot (by decide)).trans (l5))) ((w_up_slot (by decide)).trans ((w_up_slot (by decide)).trans (l8))) ((w_up_slot (by decide)).trans ((w_up_slot (by decide)).trans (bc))) ((w_up_slot (by decide)).trans ((w_up_slot (by decide)).trans (bp))) ((((w_up_slot (by decide)).trans ((w_up_slot (by decide)).trans (bl1)))).trans (((w_up_slot (by decide)).trans ((w_up_slot (by decide)).trans (rfl)))).symm) (by have e : (w_up (w_up S 150 2 (u2 + 1)) 150 3 (u3 + (to - v1))) 217 (-1) = S 217 (-1) := ((w_up_slot (by decide)).trans ((w_up_slot (by decide)).trans (rfl))); rw [e]; exact ⟨bl2, bl3⟩) (by have e : (w_up (w_up S 150 2 (u2 + 1)) 150 3 (u3 + (to - v1))) 217 (-1) = S 217 (-1) := ((w_up_slot (by decide)).trans ((w_up_slot (by decide)).trans (rfl))); omega) ⟨by omega, by omega⟩ ⟨by omega, by omega⟩ ⟨by omega, by omega⟩ ⟨by omega, by omega⟩) (fun oq46 Sq46 hp47 q46 => ?_)
                            rcases q46 with ⟨rfl, hgv46⟩
                            show wJ _ _ _ _ _ _ _ _ _ _
                            refine wa_return rfl ?_
                            show wJ _ _ _ _ _ _ _ _ _ _
                            refine wa_goto ⟨_, rfl⟩ ?_
                            refine wa_return rfl ?_
                            exact ⟨rfl, Or.inr (Or.inr ⟨by omega, by omega, by omega, hgv46⟩)⟩
                          · skip
                            exact absurd c42 (by omega)
                · skip
                  have c27x := @wb_lcmp_cases to ln
                  refine wa_fall ⟨_, rfl⟩ ?_
                  refine wa_aload_n (n := 0) rfl ?_
                  refine wb_gf5 158 rfl (wy_pr rfl) wt_158 wf_5_4 (v := 215) (l4) (fun r48 => ?_)
                  refine wa_bipush (w_rg2 (by omega) (by omega)) ?_
                  refine wb_pfi 215 rfl (wy_pr rfl) wt_215 wf_8_16 (n := 16) rfl ⟨(by omega), (by omega)⟩ ?_
                  refine wa_return rfl ?_
                  show wJ _ _ _ _ _ _ _ _ _ _
                  refine wa_goto ⟨_, rfl⟩ ?_
                  refine wa_return rfl ?_
                  exact ⟨rfl, Or.inl ⟨by omega, rfl⟩⟩
      · skip
        exact absurd c14 (by omega)
    · skip
      exact absurd c7 (by omega)
set_option maxHeartbeats 4000000 in
theorem xtsz_226 {c p h kd ba gk gb x s0 ln  : Int} (hP : xP 226 c p h S) (hl : cSl S) (l4 : S 158 4 = 226) (l5 : S 158 5 = 227) (l7 : S 158 7 = kd) (l8 : S 158 8 = ba) (l9 : S 158 9 = gk) (l10 : S 158 10 = gb) (hx : 0 ≤ x ∧ x < S 48 (-1)) (hba : 0 ≤ ba ∧ ba < h) (hx1 : pe_at (pe_GA xs).xs 1 = some (1, tx_1)) (e48 : S 48 x = 3) (hgk : gk = 3) (hgb : gb = s0 * 4294967296 + ln) (hs0 : 0 ≤ s0 ∧ 0 ≤ ln ∧ s0 + ln ≤ 10000000) (hkd : kd = 0) : wJ (pe_GA xs) wY0 (mS [228, 229]) (d + 8) t_XL_act ((pe_at t_XL_act.bl 0).getD (0, [])).2 [(0, (2, 158)), (1, (0, x))] [] S (fun o Z => o = .inl none ∧ sO 226 h c p (h - ba) 2 ln S Z) := by
  obtain ⟨⟨hC, hI⟩, ⟨bc, bc0, bc1⟩, ⟨bp, bp0, bp1⟩, ⟨bh, bh0, bh1, bh2⟩, bl1, bl2, bl3⟩ := hP
  replace bp : S 231 (c - 1) = p := bp
  replace bh : S 227 2 = h := bh
  replace bh2 : h ≤ S 228 (-1) := bh2
  replace bl1 : S 229 (-1) = S 228 (-1) := bl1
  replace bl2 : 64 ≤ S 228 (-1) := bl2
  replace bl3 : S 228 (-1) ≤ 4095 := bl3
  have h35 := hl.2.1
  have h48 := hl.2.2.2
  refine wa_aload_n (n := 0) rfl ?_
  refine wb_gf4 158 rfl (wy_pr rfl) wt_158 wf_5_3 (v := 47) wl_158_3 ?_
  refine wa_iconst ?_
  refine wb_aald5 47 3 rfl rfl (wy_pr rfl) wt_47 (by rw [show _ = _ from ((cl_47 hC))]; omega) wl_47_3 ?_
  refine wa_iload_n (n := 1) rfl ?_
  refine wb_iald 51 rfl (wy_pr rfl) wt_51 (n := (S 48 (-1))) ((hl.2.2.1 3 (by decide))) (by omega) (by omega) (v := (S 51 x)) rfl (fun r1 => ?_)
  refine wa_istore_n (n := 2) rfl ?_
  refine wa_aload_n (n := 0) rfl ?_
  refine wb_gf4 158 rfl (wy_pr rfl) wt_158 wf_5_3 (v := 47) wl_158_3 ?_
  refine wa_iconst ?_
  refine wb_aald5 47 0 rfl rfl (wy_pr rfl) wt_47 (by rw [show _ = _ from ((cl_47 hC))]; omega) wl_47_0 ?_
  refine wa_iload_n (n := 1) rfl ?_
  refine wb_iald 48 rfl (wy_pr rfl) wt_48 (n := (S 48 (-1))) (rfl) (by omega) (by omega) (v := 3) (e48) (fun r2 => ?_)
  refine wa_lw (tb := 0) (w_rg0 (by omega) (by omega)) (q := (61, 3)) (by first | rfl | decide) ⟨_, rfl⟩ ?_
  refine wa_aload_n (n := 0) rfl ?_
  refine wb_gfi 158 rfl (wy_pr rfl) wt_158 wf_5_9 (v := gk) (l9) (fun r3 => ?_)
  refine wa_iconst ?_
  refine wa_icmpne (w_rg0 (by omega) (by omega)) (w_rg0 (by omega) (by omega)) ⟨_, rfl⟩ (fun c4 => ?_) (fun c4 => ?_)
  · skip
    exact absurd c4 (by omega)
  · skip
    refine wa_aload_n (n := 0) rfl ?_
    refine wa_cv 158 rfl (wy_pr rfl) wt_158 (M2 := mS [228, 229]) rfl at_XL_actOnText ⟨_, rfl⟩ rfl rfl ⟨trivial, (Or.inr ⟨wy_pr rfl, mS_no rfl⟩), trivial, trivial⟩ trivial (fun _ _ q => q) ?_ (fun _ _ _ q => q)
    refine wa_aload_n (n := 0) rfl ?_
    refine wb_gfl 158 rfl (wy_pr rfl) wt_158 wf_5_10 (v := gb) (l10) (fun r5 => ?_)
    refine wa_cs (M2 := mS [228, 229]) rfl at_X_sliceSize ⟨_, rfl⟩ rfl rfl ⟨(Or.inr ⟨wy_pr rfl, mS_no rfl⟩), trivial⟩ trivial (fun _ _ q => q) ?_ (fun _ _ _ q => q)
    refine wa_lload_n (n := 0) rfl ?_
    refine wb_l2i_r (y := ln) (by rw [hgb]; exact sl_z ⟨by omega, by omega⟩ ⟨by omega, by omega⟩) ?_
    refine wa_ireturn rfl ?_
    show wJ _ _ _ _ _ _ _ _ _ _
    refine wa_istore_n (n := 1) rfl ?_
    refine wa_aload_n (n := 0) rfl ?_
    refine wb_gfi 158 rfl (wy_pr rfl) wt_158 wf_5_7 (v := kd) (l7) (fun r6 => ?_)
    refine wa_ifne (w_rg0 (by omega) (by omega)) ⟨_, rfl⟩ (fun c7 => ?_) (fun c7 => ?_)
    · skip
      exact absurd c7 (by omega)
    · skip
      refine wa_aload_n (n := 0) rfl ?_
      refine wa_iconst ?_
      refine wa_iload_n (n := 1) rfl ?_
      refine wa_i2l (w_rg0 (by omega) (by omega)) ?_
      refine wa_cv 158 rfl (wy_pr rfl) wt_158 (M2 := mS [228, 229]) rfl at_XL_giveValue ⟨_, rfl⟩ rfl rfl ⟨trivial, (Or.inr ⟨wy_pr rfl, mS_no rfl⟩), trivial⟩ trivial (fun _ _ q => mS_sub (by decide) q) (glx_226 (S := S) (k := 2) (v := ln) (h := h) (c := c) (p := p) (ba := ba) hC hI (l4) (l5) (l8) (bc) (bp) (((bl1)).trans ((rfl)).symm) (by have e : S 228 (-1) = S 228 (-1) := (rfl); rw [e]; exact ⟨bl2, bl3⟩) (by have e : S 228 (-1) = S 228 (-1) := (rfl); omega) ⟨by omega, by omega⟩ ⟨by omega, by omega⟩ ⟨by omega, by omega⟩ ⟨by omega, by omega⟩) (fun oq8 Sq8 hp9 q8 => ?_)
      rcases q8 with ⟨rfl, hgv8⟩
      show wJ _ _ _ _ _ _ _ _ _ _
      refine wa_return rfl ?_
      show wJ _ _ _ _ _ _ _ _ _ _
      refine wa_goto ⟨_, rfl⟩ ?_
      refine wa_return rfl ?_
      exact ⟨rfl, hgv8⟩
set_option maxHeartbeats 4000000 in
theorem xtsb_226 {c p h kd ba gk gb x s0 ln k1 v1 kl vl u2 u3 : Int} (hP : xP 226 c p h S) (hl : cSl S) (l4 : S 158 4 = 226) (l5 : S 158 5 = 227) (l7 : S 158 7 = kd) (l8 : S 158 8 = ba) (l9 : S 158 9 = gk) (l10 : S 158 10 = gb) (hx : 0 ≤ x ∧ x < S 48 (-1)) (hba : 0 ≤ ba ∧ ba < h) (hx1 : pe_at (pe_GA xs).xs 1 = some (1, tx_1)) (e48 : S 48 x = 3) (hgk : gk = 3) (hgb : gb = s0 * 4294967296 + ln) (hs0 : 0 ≤ s0 ∧ 0 ≤ ln ∧ s0 + ln ≤ 10000000) (hk1 : S 228 (ba + 1) = k1) (hv1 : S 229 (ba + 1) = v1) (hb1 : ba + 1 < h) (hkl : S 228 (h - 1) = kl) (hvl : S 229 (h - 1) = vl) (hu2 : S 150 2 = u2) (hu3 : S 150 3 = u3) (hu2r : 0 ≤ u2 ∧ u2 ≤ 12000) (hu3r : 0 ≤ u3 ∧ u3 ≤ 200000) (hkd : kd = 5) : wJ (pe_GA xs) wY0 (mS [228, 229]) (d + 8) t_XL_act ((pe_at t_XL_act.bl 0).getD (0, [])).2 [(0, (2, 158)), (1, (0, x))] [] S (fun o Z => o = .inl none ∧ ((¬ (k1 = 2 ∧ kl = 2 ∧ 0 ≤ v1 ∧ v1 ≤ vl ∧ vl ≤ ln) ∧ w_up S 226 16 6 = Z) ∨ ((k1 = 2 ∧ kl = 2 ∧ 0 ≤ v1 ∧ v1 ≤ vl ∧ vl ≤ ln) ∧ (12000 ≤ u2 ∨ 200000 < u3 + (vl - v1)) ∧ w_up S 226 16 99 = Z) ∨ ((k1 = 2 ∧ kl = 2 ∧ 0 ≤ v1 ∧ v1 ≤ vl ∧ vl ≤ ln) ∧ u2 < 12000 ∧ u3 + (vl - v1) ≤ 200000 ∧ sO 226 h c p (h - ba) 3 ((s0 + v1) * 4294967296 + (vl - v1)) (w_up (w_up S 150 2 (u2 + 1)) 150 3 (u3 + (vl - v1))) Z))) := by
  obtain ⟨⟨hC, hI⟩, ⟨bc, bc0, bc1⟩, ⟨bp, bp0, bp1⟩, ⟨bh, bh0, bh1, bh2⟩, bl1, bl2, bl3⟩ := hP
  replace bp : S 231 (c - 1) = p := bp
  replace bh : S 227 2 = h := bh
  replace bh2 : h ≤ S 228 (-1) := bh2
  replace bl1 : S 229 (-1) = S 228 (-1) := bl1
  replace bl2 : 64 ≤ S 228 (-1) := bl2
  replace bl3 : S 228 (-1) ≤ 4095 := bl3
  have h35 := hl.2.1
  have h48 := hl.2.2.2
  refine wa_aload_n (n := 0) rfl ?_
  refine wb_gf4 158 rfl (wy_pr rfl) wt_158 wf_5_3 (v := 47) wl_158_3 ?_
  refine wa_iconst ?_
  refine wb_aald5 47 3 rfl rfl (wy_pr rfl) wt_47 (by rw [show _ = _ from ((cl_47 hC))]; omega) wl_47_3 ?_
  refine wa_iload_n (n := 1) rfl ?_
  refine wb_iald 51 rfl (wy_pr rfl) wt_51 (n := (S 48 (-1))) ((hl.2.2.1 3 (by decide))) (by omega) (by omega) (v := (S 51 x)) rfl (fun r1 => ?_)
  refine wa_istore_n (n := 2) rfl ?_
  refine wa_aload_n (n := 0) rfl ?_
  refine wb_gf4 158 rfl (wy_pr rfl) wt_158 wf_5_3 (v := 47) wl_158_3 ?_
  refine wa_iconst ?_
  refine wb_aald5 47 0 rfl rfl (wy_pr rfl) wt_47 (by rw [show _ = _ from ((cl_47 hC))]; omega) wl_47_0 ?_
  refine wa_iload_n (n := 1) rfl ?_
  refine wb_iald 48 rfl (wy_pr rfl) wt_48 (n := (S 48 (-1))) (rfl) (by omega) (by omega) (v := 3) (e48) (fun r2 => ?_)
  refine wa_lw (tb := 0) (w_rg0 (by omega) (by omega)) (q := (61, 3)) (by first | rfl | decide) ⟨_, rfl⟩ ?_
  refine wa_aload_n (n := 0) rfl ?_
  refine wb_gfi 158 rfl (wy_pr rfl) wt_158 wf_5_9 (v := gk) (l9) (fun r3 => ?_)
  refine wa_iconst ?_
  refine wa_icmpne (w_rg0 (by omega) (by omega)) (w_rg0 (by omega) (by omega)) ⟨_, rfl⟩ (fun c4 => ?_) (fun c4 => ?_)
  · skip
    exact absurd c4 (by omega)
  · skip
    refine wa_aload_n (n := 0) rfl ?_
    refine wa_cv 158 rfl (wy_pr rfl) wt_158 (M2 := mS [228, 229]) rfl at_XL_actOnText ⟨_, rfl⟩ rfl rfl ⟨trivial, (Or.inr ⟨wy_pr rfl, mS_no rfl⟩), trivial, trivial⟩ trivial (fun _ _ q => q) ?_ (fun _ _ _ q => q)
    refine wa_aload_n (n := 0) rfl ?_
    refine wb_gfl 158 rfl (wy_pr rfl) wt_158 wf_5_10 (v := gb) (l10) (fun r5 => ?_)
    refine wa_cs (M2 := mS [228, 229]) rfl at_X_sliceSize ⟨_, rfl⟩ rfl rfl ⟨(Or.inr ⟨wy_pr rfl, mS_no rfl⟩), trivial⟩ trivial (fun _ _ q => q) ?_ (fun _ _ _ q => q)
    refine wa_lload_n (n := 0) rfl ?_
    refine wb_l2i_r (y := ln) (by rw [hgb]; exact sl_z ⟨by omega, by omega⟩ ⟨by omega, by omega⟩) ?_
    refine wa_ireturn rfl ?_
    show wJ _ _ _ _ _ _ _ _ _ _
    refine wa_istore_n (n := 1) rfl ?_
    refine wa_aload_n (n := 0) rfl ?_
    refine wb_gfi 158 rfl (wy_pr rfl) wt_158 wf_5_7 (v := kd) (l7) (fun r6 => ?_)
    refine wa_ifne (w_rg0 (by omega) (by omega)) ⟨_, rfl⟩ (fun c7 => ?_) (fun c7 => ?_)
    · skip
      refine wa_aload_n (n := 0) rfl ?_
      refine wb_gf5 158 rfl (wy_pr rfl) wt_158 wf_5_5 (v := 227) (l5) (fun r8 => ?_)
      refine wb_gfi 227 rfl (wy_pr rfl) wt_227 wf_7_2 (v := h) (bh) (fun r9 => ?_)
      refine wa_iconst ?_
      refine wa_isub ?_
      refine wa_istore_n (n := 2) rfl ?_
      refine wa_aload_n (n := 0) rfl ?_
      refine wb_gf5 158 rfl (wy_pr rfl) wt_158 wf_5_5 (v := 227) (l5) (fun r10 => ?_)
      refine wb_gf4 227 rfl (wy_pr rfl) wt_227 wf_7_1 (v := 229) wl_227_1 ?_
      refine wa_aload_n (n := 0) rfl ?_
      refine wb_gfi 158 rfl (wy_pr rfl) wt_158 wf_5_8 (v := ba) (l8) (fun r11 => ?_)
      refine wa_iconst ?_
      refine wa_iadd ?_
      refine wb_lald 229 rfl (wy_pr rfl) wt_229 (n := (S 228 (-1))) (bl1) (by omega) (by omega) (v := v1) (hv1) (fun r12 => ?_)
      refine wa_lstore_n (n := 3) rfl ?_
      refine wa_aload_n (n := 0) rfl ?_
      refine wb_gfi 158 rfl (wy_pr rfl) wt_158 wf_5_7 (v := kd) (l7) (fun r13 => ?_)
      refine wa_iconst ?_
      refine wa_icmpne (w_rg0 (by omega) (by omega)) (w_rg0 (by omega) (by omega)) ⟨_, rfl⟩ (fun c14 => ?_) (fun c14 => ?_)
      · skip
        exact absurd c14 (by omega)
      · skip
        refine wa_aload_n (n := 0) rfl ?_
        refine wb_gf5 158 rfl (wy_pr rfl) wt_158 wf_5_5 (v := 227) (l5) (fun r15 => ?_)
        refine wb_gf4 227 rfl (wy_pr rfl) wt_227 wf_7_1 (v := 229) wl_227_1 ?_
        refine wa_iload_n (n := 2) rfl ?_
        refine wb_lald 229 rfl (wy_pr rfl) wt_229 (n := (S 228 (-1))) (bl1) (by omega) (by omega) (v := vl) (hvl) (fun r16 => ?_)
        refine wa_goto ⟨_, rfl⟩ ?_
        refine wa_lstore (n := 5) rfl ?_
        refine wa_aload_n (n := 0) rfl ?_
        refine wb_gf5 158 rfl (wy_pr rfl) wt_158 wf_5_5 (v := 227) (l5) (fun r17 => ?_)
        refine wb_gf4 227 rfl (wy_pr rfl) wt_227 wf_7_0 (v := 228) wl_227_0 ?_
        refine wa_aload_n (n := 0) rfl ?_
        refine wb_gfi 158 rfl (wy_pr rfl) wt_158 wf_5_8 (v := ba) (l8) (fun r18 => ?_)
        refine wa_iconst ?_
        refine wa_iadd ?_
        refine wb_bald 228 rfl (wy_pr rfl) wt_228 (n := (S 228 (-1))) (rfl) (by omega) (by omega) (v := k1) (hk1) (fun r19 => ?_)
        refine wa_iconst ?_
        refine wa_icmpne (w_rg0 (by omega) (by omega)) (w_rg0 (by omega) (by omega)) ⟨_, rfl⟩ (fun c20 => ?_) (fun c20 => ?_)
        · skip
          refine wa_aload_n (n := 0) rfl ?_
          refine wb_gf5 158 rfl (wy_pr rfl) wt_158 wf_5_4 (v := 226) (l4) (fun r21 => ?_)
          refine wa_bipush (w_rg2 (by omega) (by omega)) ?_
          refine wb_pfi 226 rfl (wy_pr rfl) wt_226 wf_8_16 (n := 16) rfl ⟨(by omega), (by omega)⟩ ?_
          refine wa_return rfl ?_
          show wJ _ _ _ _ _ _ _ _ _ _
          refine wa_goto ⟨_, rfl⟩ ?_
          refine wa_return rfl ?_
          exact ⟨rfl, Or.inl ⟨by omega, rfl⟩⟩
        · skip
          refine wa_aload_n (n := 0) rfl ?_
          refine wb_gf5 158 rfl (wy_pr rfl) wt_158 wf_5_5 (v := 227) (l5) (fun r22 => ?_)
          refine wb_gf4 227 rfl (wy_pr rfl) wt_227 wf_7_0 (v := 228) wl_227_0 ?_
          refine wa_iload_n (n := 2) rfl ?_
          refine wb_bald 228 rfl (wy_pr rfl) wt_228 (n := (S 228 (-1))) (rfl) (by omega) (by omega) (v := kl) (hkl) (fun r23 => ?_)
          refine wa_iconst ?_
          refine wa_icmpne (w_rg0 (by omega) (by omega)) (w_rg0 (by omega) (by omega)) ⟨_, rfl⟩ (fun c24 => ?_) (fun c24 => ?_)
          · skip
            refine wa_aload_n (n := 0) rfl ?_
            refine wb_gf5 158 rfl (wy_pr rfl) wt_158 wf_5_4 (v := 226) (l4) (fun r25 => ?_)
            refine wa_bipush (w_rg2 (by omega) (by omega)) ?_
            refine wb_pfi 226 rfl (wy_pr rfl) wt_226 wf_8_16 (n := 16) rfl ⟨(by omega), (by omega)⟩ ?_
            refine wa_return rfl ?_
            show wJ _ _ _ _ _ _ _ _ _ _
            refine wa_goto ⟨_, rfl⟩ ?_
            refine wa_return rfl ?_
            exact ⟨rfl, Or.inl ⟨by omega, rfl⟩⟩
          · skip
            refine wa_lload_n (n := 3) rfl ?_
            refine wb_lconst (m := 0) rfl ?_
            refine wa_lcmp (w_rg1 (by omega) (by omega)) (w_rg1 (by omega) (by omega)) ?_
            refine wa_iflt (by have := @wb_lcmp_cases; exact w_lcmp_rg) ⟨_, rfl⟩ (fun c26 => ?_) (fun c26 => ?_)
            · skip
              have c26x := @wb_lcmp_cases v1 0
              refine wa_aload_n (n := 0) rfl ?_
              refine wb_gf5 158 rfl (wy_pr rfl) wt_158 wf_5_4 (v := 226) (l4) (fun r27 => ?_)
              refine wa_bipush (w_rg2 (by omega) (by omega)) ?_
              refine wb_pfi 226 rfl (wy_pr rfl) wt_226 wf_8_16 (n := 16) rfl ⟨(by omega), (by omega)⟩ ?_
              refine wa_return rfl ?_
              show wJ _ _ _ _ _ _ _ _ _ _
              refine wa_goto ⟨_, rfl⟩ ?_
              refine wa_return rfl ?_
              exact ⟨rfl, Or.inl ⟨by omega, rfl⟩⟩
            · skip
              have c26x := @wb_lcmp_cases v1 0
              refine wa_lload_n (n := 3) rfl ?_
              refine wa_lload (n := 5) rfl ?_
              refine wa_lcmp (w_rg1 (by omega) (by omega)) (w_rg1 (by omega) (by omega)) ?_
              refine wa_ifgt (by have := @wb_lcmp_cases; exact w_lcmp_rg) ⟨_, rfl⟩ (fun c28 => ?_) (fun c28 => ?_)
              · skip
                have c28x := @wb_lcmp_cases v1 vl
                refine wa_aload_n (n := 0) rfl ?_
                refine wb_gf5 158 rfl (wy_pr rfl) wt_158 wf_5_4 (v := 226) (l4) (fun r29 => ?_)
                refine wa_bipush (w_rg2 (by omega) (by omega)) ?_
                refine wb_pfi 226 rfl (wy_pr rfl) wt_226 wf_8_16 (n := 16) rfl ⟨(by omega), (by omega)⟩ ?_
                refine wa_return rfl ?_
                show wJ _ _ _ _ _ _ _ _ _ _
                refine wa_goto ⟨_, rfl⟩ ?_
                refine wa_return rfl ?_
                exact ⟨rfl, Or.inl ⟨by omega, rfl⟩⟩
              · skip
                have c28x := @wb_lcmp_cases v1 vl
                refine wa_lload (n := 5) rfl ?_
                refine wa_iload_n (n := 1) rfl ?_
                refine wa_i2l (w_rg0 (by omega) (by omega)) ?_
                refine wa_lcmp (w_rg1 (by omega) (by omega)) (w_rg1 (by omega) (by omega)) ?_
                refine wa_ifle (by have := @wb_lcmp_cases; exact w_lcmp_rg) ⟨_, rfl⟩ (fun c30 => ?_) (fun c30 => ?_)
                · skip
                  have c30x := @wb_lcmp_cases vl ln
                  refine wa_lload (n := 5) rfl ?_
                  refine wa_lload_n (n := 3) rfl ?_
                  refine wa_lsub ?_
                  refine wb_l2i_r (wb_l2i_id ⟨(by omega), (by omega)⟩) ?_
                  refine wa_istore (n := 7) rfl ?_
                  refine wa_aload_n (n := 0) rfl ?_
                  refine wb_gf4 158 rfl (wy_pr rfl) wt_158 wf_5_0 (v := 72) wl_158_0 ?_
                  refine wa_iload (n := 7) rfl ?_
                  refine wa_cv 72 rfl (wy_pr rfl) wt_72 (M2 := mS [228, 229]) rfl at_XH_hasTextRoom ⟨_, rfl⟩ rfl rfl ⟨trivial, trivial, trivial, trivial, trivial, (Or.inr ⟨wy_pr rfl, mS_no rfl⟩), trivial⟩ trivial (fun _ _ q => q) ?_ (fun _ _ _ q => q)
                  refine wa_aload_n (n := 0) rfl ?_
                  refine wa_iconst ?_
                  refine wa_iconst ?_
                  refine wa_cv 72 rfl (wy_pr rfl) wt_72 (M2 := mS [228, 229]) rfl at_XH_hasRoom ⟨_, rfl⟩ rfl rfl ⟨(Or.inr ⟨wy_pr rfl, mS_no rfl⟩), trivial, trivial⟩ trivial (fun _ _ q => q) ?_ (fun _ _ _ q => q)
                  refine wa_aload_n (n := 0) rfl ?_
                  refine wb_gf4 72 rfl (wy_pr rfl) wt_72 wf_2_10 (v := 150) wl_72_10 ?_
                  refine wa_iload_n (n := 1) rfl ?_
                  refine wb_iald 150 rfl (wy_pr rfl) wt_150 (n := 6) ((cl_150 hC)) (by omega) (by omega) (v := u2) (hu2) (fun r31 => ?_)
                  refine wa_iload_n (n := 2) rfl ?_
                  refine wa_iadd ?_
                  refine wa_gs ?_
                  refine wa_iload_n (n := 1) rfl ?_
                  refine wb_xald 1 rfl hx1 (by decide) (by omega) (by decide) (v := 12000) (by decide) (fun r32 => ?_)
                  refine wa_icmpgt (w_rg0 (by omega) (by omega)) (w_rg0 (by omega) (by omega)) ⟨_, rfl⟩ (fun c33 => ?_) (fun c33 => ?_)
                  · skip
                    refine wa_iconst ?_
                    refine wa_fall ⟨_, rfl⟩ ?_
                    refine wa_zreturn rfl (Or.inl rfl) ?_
                    show wJ _ _ _ _ _ _ _ _ _ _
                    refine wa_ifeq (w_rg0 (by omega) (by omega)) ⟨_, rfl⟩ (fun c34 => ?_) (fun c34 => ?_)
                    · skip
                      refine wa_iconst ?_
                      refine wa_fall ⟨_, rfl⟩ ?_
                      refine wa_zreturn rfl (Or.inl rfl) ?_
                      show wJ _ _ _ _ _ _ _ _ _ _
                      refine wa_ifne (w_rg0 (by omega) (by omega)) ⟨_, rfl⟩ (fun c35 => ?_) (fun c35 => ?_)
                      · skip
                        exact absurd c35 (by omega)
                      · skip
                        refine wa_aload_n (n := 0) rfl ?_
                        refine wb_gf5 158 rfl (wy_pr rfl) wt_158 wf_5_4 (v := 226) (l4) (fun r36 => ?_)
                        refine wa_bipush (w_rg2 (by omega) (by omega)) ?_
                        refine wb_pfi 226 rfl (wy_pr rfl) wt_226 wf_8_16 (n := 16) rfl ⟨(by omega), (by omega)⟩ ?_
                        refine wa_return rfl ?_
                        show wJ _ _ _ _ _ _ _ _ _ _
                        refine wa_goto ⟨_, rfl⟩ ?_
                        refine wa_return rfl ?_
                        exact ⟨rfl, Or.inr (Or.inl ⟨by omega, by omega, rfl⟩)⟩
                    · skip
                      exact absurd c34 (by omega)
                  · skip
                    refine wa_iconst ?_
                    refine wa_goto ⟨_, rfl⟩ ?_
                    refine wa_zreturn rfl (Or.inr rfl) ?_
                    show wJ _ _ _ _ _ _ _ _ _ _
                    refine wa_ifeq (w_rg0 (by omega) (by omega)) ⟨_, rfl⟩ (fun c37 => ?_) (fun c37 => ?_)
                    · skip
                      exact absurd c37 (by omega)
                    · skip
                      refine wa_aload_n (n := 0) rfl ?_
                      refine wa_iconst ?_
                      refine wa_iload_n (n := 1) rfl ?_
                      refine wa_cv 72 rfl (wy_pr rfl) wt_72 (M2 := mS [228, 229]) rfl at_XH_hasRoom ⟨_, rfl⟩ rfl rfl ⟨(Or.inr ⟨wy_pr rfl, mS_no rfl⟩), trivial, trivial⟩ trivial (fun _ _ q => q) ?_ (fun _ _ _ q => q)
                      refine wa_aload_n (n := 0) rfl ?_
                      refine wb_gf4 72 rfl (wy_pr rfl) wt_72 wf_2_10 (v := 150) wl_72_10 ?_
                      refine wa_iload_n (n := 1) rfl ?_
                      refine wb_iald 150 rfl (wy_pr rfl) wt_150 (n := 6) ((cl_150 hC)) (by omega) (by omega) (v := u3) (hu3) (fun r38 => ?_)
                      refine wa_iload_n (n := 2) rfl ?_
                      refine wa_iadd ?_
                      refine wa_gs ?_
                      refine wa_iload_n (n := 1) rfl ?_
                      refine wb_xald 1 rfl hx1 (by decide) (by omega) (by decide) (v := 200000) (by decide) (fun r39 => ?_)
                      refine wa_icmpgt (w_rg0 (by omega) (by omega)) (w_rg0 (by omega) (by omega)) ⟨_, rfl⟩ (fun c40 => ?_) (fun c40 => ?_)
                      · skip
                        refine wa_iconst ?_
                        refine wa_fall ⟨_, rfl⟩ ?_
                        refine wa_zreturn rfl (Or.inl rfl) ?_
                        show wJ _ _ _ _ _ _ _ _ _ _
                        refine wa_ifeq (w_rg0 (by omega) (by omega)) ⟨_, rfl⟩ (fun c41 => ?_) (fun c41 => ?_)
                        · skip
                          refine wa_iconst ?_
                          refine wa_fall ⟨_, rfl⟩ ?_
                          refine wa_zreturn rfl (Or.inl rfl) ?_
                          show wJ _ _ _ _ _ _ _ _ _ _
                          refine wa_ifne (w_rg0 (by omega) (by omega)) ⟨_, rfl⟩ (fun c42 => ?_) (fun c42 => ?_)
                          · skip
                            exact absurd c42 (by omega)
                          · skip
                            refine wa_aload_n (n := 0) rfl ?_
                            refine wb_gf5 158 rfl (wy_pr rfl) wt_158 wf_5_4 (v := 226) (l4) (fun r43 => ?_)
                            refine wa_bipush (w_rg2 (by omega) (by omega)) ?_
                            refine wb_pfi 226 rfl (wy_pr rfl) wt_226 wf_8_16 (n := 16) rfl ⟨(by omega), (by omega)⟩ ?_
                            refine wa_return rfl ?_
                            show wJ _ _ _ _ _ _ _ _ _ _
                            refine wa_goto ⟨_, rfl⟩ ?_
                            refine wa_return rfl ?_
                            exact ⟨rfl, Or.inr (Or.inl ⟨by omega, by omega, rfl⟩)⟩
                        · skip
                          exact absurd c41 (by omega)
                      · skip
                        refine wa_iconst ?_
                        refine wa_goto ⟨_, rfl⟩ ?_
                        refine wa_zreturn rfl (Or.inr rfl) ?_
                        show wJ _ _ _ _ _ _ _ _ _ _
                        refine wa_ifeq (w_rg0 (by omega) (by omega)) ⟨_, rfl⟩ (fun c44 => ?_) (fun c44 => ?_)
                        · skip
                          exact absurd c44 (by omega)
                        · skip
                          refine wa_iconst ?_
                          refine wa_goto ⟨_, rfl⟩ ?_
                          refine wa_zreturn rfl (Or.inr rfl) ?_
                          show wJ _ _ _ _ _ _ _ _ _ _
                          refine wa_ifne (w_rg0 (by omega) (by omega)) ⟨_, rfl⟩ (fun c45 => ?_) (fun c45 => ?_)
                          · skip
                            refine wa_aload_n (n := 0) rfl ?_
                            refine wb_gf4 158 rfl (wy_pr rfl) wt_158 wf_5_0 (v := 72) wl_158_0 ?_
                            refine wa_iload (n := 7) rfl ?_
                            refine wa_cv 72 rfl (wy_pr rfl) wt_72 (M2 := mS [228, 229]) rfl at_XH_useText ⟨_, rfl⟩ rfl rfl ⟨trivial, trivial, trivial, trivial, trivial, (Or.inr ⟨wy_pr rfl, mS_no rfl⟩), trivial⟩ trivial (fun _ _ q => q) ?_ (fun _ _ _ q => q)
                            refine wa_aload_n (n := 0) rfl ?_
                            refine wb_gf4 72 rfl (wy_pr rfl) wt_72 wf_2_10 (v := 150) wl_72_10 ?_
                            refine wa_iconst ?_
                            refine wa_dup2 (by decide) (by decide) ?_
                            refine wb_iald 150 rfl (wy_pr rfl) wt_150 (n := 6) ((cl_150 hC)) (by omega) (by omega) (v := u2) (hu2) (fun r46 => ?_)
                            refine wa_iconst ?_
                            refine wa_iadd ?_
                            refine wb_iast 150 rfl (wy_pr rfl) wt_150 (n := 6) ((cl_150 hC)) (by omega) (by omega) ⟨(by omega), (by omega)⟩ ?_
                            refine wa_aload_n (n := 0) rfl ?_
                            refine wb_gf4 72 rfl (wy_pr rfl) wt_72 wf_2_10 (v := 150) wl_72_10 ?_
                            refine wa_iconst ?_
                            refine wa_dup2 (by decide) (by decide) ?_
                            refine wb_iald 150 rfl (wy_pr rfl) wt_150 (n := 6) ((w_up_at (by decide)).trans ((cl_150 hC))) (by omega) (by omega) (v := u3) ((w_up_at (by decide)).trans (hu3)) (fun r47 => ?_)
                            refine wa_iload_n (n := 1) rfl ?_
                            refine wa_iadd ?_
                            refine wb_iast 150 rfl (wy_pr rfl) wt_150 (n := 6) ((w_up_at (by decide)).trans ((cl_150 hC))) (by omega) (by omega) ⟨(by omega), (by omega)⟩ ?_
                            refine wa_return rfl ?_
                            show wJ _ _ _ _ _ _ _ _ _ _
                            refine wa_aload_n (n := 0) rfl ?_
                            refine wa_iconst ?_
                            refine wa_aload_n (n := 0) rfl ?_
                            refine wb_gfl 158 rfl (wy_pr rfl) wt_158 wf_5_10 (v := gb) ((w_up_slot (by decide)).trans ((w_up_slot (by decide)).trans (l10))) (fun r48 => ?_)
                            refine wa_cs (M2 := mS [228, 229]) rfl at_X_sliceStart ⟨_, rfl⟩ rfl rfl ⟨trivial, trivial, trivial, trivial, trivial, (Or.inr ⟨wy_pr rfl, mS_no rfl⟩), trivial⟩ ⟨trivial, (Or.inr ⟨wy_pr rfl, mS_no rfl⟩), trivial⟩ (fun _ _ q => q) ?_ (fun _ _ _ q => q)
                            refine wa_lload_n (n := 0) rfl ?_
                            refine wa_bipush (w_rg2 (by omega) (by omega)) ?_
                            refine wa_lushr ?_
                            refine wb_l2i_r (y := s0) (by rw [hgb]; exact sl_s ⟨by omega, by omega⟩ ⟨by omega, by omega⟩) ?_
                            refine wa_ireturn rfl ?_
                            show wJ _ _ _ _ _ _ _ _ _ _
                            refine wa_lload_n (n := 3) rfl ?_
                            refine wb_l2i_r (wb_l2i_id ⟨(by omega), (by omega)⟩) ?_
                            refine wa_iadd ?_
                            refine wa_iload (n := 7) rfl ?_
                            refine wa_cs (M2 := mS [228, 229]) rfl at_X_slice ⟨_, rfl⟩ rfl rfl ⟨trivial, trivial, trivial, trivial, trivial, (Or.inr ⟨wy_pr rfl, mS_no rfl⟩), trivial⟩ ⟨trivial, (Or.inr ⟨wy_pr rfl, mS_no rfl⟩), trivial⟩ (fun _ _ q => q) ?_ (fun _ _ _ q => q)
                            refine wa_iload_n (n := 0) rfl ?_
                            refine wa_i2l (w_rg0 (by omega) (by omega)) ?_
                            refine wa_bipush (w_rg2 (by omega) (by omega)) ?_
                            refine wa_lshl ?_
                            refine wa_iload_n (n := 1) rfl ?_
                            refine wa_i2l (w_rg0 (by omega) (by omega)) ?_
                            refine wa_lor ?_
                            refine wa_lreturn rfl ?_
                            show wJ _ _ _ _ _ _ _ _ _ _
                            rw [sl_mk ⟨by omega, by omega⟩ ⟨by omega, by omega⟩]
                            refine wa_cv 158 rfl (wy_pr rfl) wt_158 (M2 := mS [228, 229]) rfl at_XL_giveValue ⟨_, rfl⟩ rfl rfl ⟨trivial, trivial, trivial, trivial, trivial, (Or.inr ⟨wy_pr rfl, mS_no rfl⟩), trivial⟩ trivial (fun _ _ q => mS_sub (by decide) q) (glx_226 (S := (w_up (w_up S 150 2 (u2 + 1)) 150 3 (u3 + (vl - v1)))) (k := 3) (v := ((s0 + v1) * 4294967296 + (vl - v1))) (h := h) (c := c) (p := p) (ba := ba) (w_CL_up (w_CL_up hC (by omega)) (by omega)) (gI_up (gI_up hI (by omega) (by omega) (by omega)) (by omega) (by omega) (by omega)) ((w_up_slot (by decide)).trans ((w_up_slot (by decide)).trans (l4))) ((w_up_slot (by decide)).trans ((w_up_slot (by decide)).trans (l5))) ((w_up_slot (by decide)).trans ((w_up_slot (by decide)).trans (l8))) ((w_up_slot (by decide)).trans ((w_up_slot (by decide)).trans (bc))) ((w_up_slot (by decide)).trans ((w_up_slot (by decide)).trans (bp))) ((((w_up_slot (by decide)).trans ((w_up_slot (by decide)).trans (bl1)))).trans (((w_up_slot (by decide)).trans ((w_up_slot (by decide)).trans (rfl)))).symm) (by have e : (w_up (w_up S 150 2 (u2 + 1)) 150 3 (u3 + (vl - v1))) 228 (-1) = S 228 (-1) := ((w_up_slot (by decide)).trans ((w_up_slot (by decide)).trans (rfl))); rw [e]; exact ⟨bl2, bl3⟩) (by have e : (w_up (w_up S 150 2 (u2 + 1)) 150 3 (u3 + (vl - v1))) 228 (-1) = S 228 (-1) := ((w_up_slot (by decide)).trans ((w_up_slot (by decide)).trans (rfl))); omega) ⟨by omega, by omega⟩ ⟨by omega, by omega⟩ ⟨by omega, by omega⟩ ⟨by omega, by omega⟩) (fun oq49 Sq49 hp50 q49 => ?_)
                            rcases q49 with ⟨rfl, hgv49⟩
                            show wJ _ _ _ _ _ _ _ _ _ _
                            refine wa_return rfl ?_
                            show wJ _ _ _ _ _ _ _ _ _ _
                            refine wa_goto ⟨_, rfl⟩ ?_
                            refine wa_return rfl ?_
                            exact ⟨rfl, Or.inr (Or.inr ⟨by omega, by omega, by omega, hgv49⟩)⟩
                          · skip
                            exact absurd c45 (by omega)
                · skip
                  have c30x := @wb_lcmp_cases vl ln
                  refine wa_fall ⟨_, rfl⟩ ?_
                  refine wa_aload_n (n := 0) rfl ?_
                  refine wb_gf5 158 rfl (wy_pr rfl) wt_158 wf_5_4 (v := 226) (l4) (fun r51 => ?_)
                  refine wa_bipush (w_rg2 (by omega) (by omega)) ?_
                  refine wb_pfi 226 rfl (wy_pr rfl) wt_226 wf_8_16 (n := 16) rfl ⟨(by omega), (by omega)⟩ ?_
                  refine wa_return rfl ?_
                  show wJ _ _ _ _ _ _ _ _ _ _
                  refine wa_goto ⟨_, rfl⟩ ?_
                  refine wa_return rfl ?_
                  exact ⟨rfl, Or.inl ⟨by omega, rfl⟩⟩
    · skip
      exact absurd c7 (by omega)
set_option maxHeartbeats 4000000 in
theorem xtge_226 {c p h kd ba gk gb x s0 ln k1 v1 to u2 u3 : Int} (hP : xP 226 c p h S) (hl : cSl S) (l4 : S 158 4 = 226) (l5 : S 158 5 = 227) (l7 : S 158 7 = kd) (l8 : S 158 8 = ba) (l9 : S 158 9 = gk) (l10 : S 158 10 = gb) (hx : 0 ≤ x ∧ x < S 48 (-1)) (hba : 0 ≤ ba ∧ ba < h) (hx1 : pe_at (pe_GA xs).xs 1 = some (1, tx_1)) (e48 : S 48 x = 3) (hgk : gk = 3) (hgb : gb = s0 * 4294967296 + ln) (hs0 : 0 ≤ s0 ∧ 0 ≤ ln ∧ s0 + ln ≤ 10000000) (hk1 : S 228 (ba + 1) = k1) (hv1 : S 229 (ba + 1) = v1) (hb1 : ba + 1 < h) (hbh : ba + 1 = h - 1) (hto : w64 (v1 + 1) = to) (hu2 : S 150 2 = u2) (hu3 : S 150 3 = u3) (hu2r : 0 ≤ u2 ∧ u2 ≤ 12000) (hu3r : 0 ≤ u3 ∧ u3 ≤ 200000) (hkd : kd = 2) : wJ (pe_GA xs) wY0 (mS [228, 229]) (d + 8) t_XL_act ((pe_at t_XL_act.bl 0).getD (0, [])).2 [(0, (2, 158)), (1, (0, x))] [] S (fun o Z => o = .inl none ∧ ((¬ (k1 = 2 ∧ k1 = 2 ∧ 0 ≤ v1 ∧ v1 ≤ to ∧ to ≤ ln) ∧ w_up S 226 16 6 = Z) ∨ ((k1 = 2 ∧ k1 = 2 ∧ 0 ≤ v1 ∧ v1 ≤ to ∧ to ≤ ln) ∧ (12000 ≤ u2 ∨ 200000 < u3 + (to - v1)) ∧ w_up S 226 16 99 = Z) ∨ ((k1 = 2 ∧ k1 = 2 ∧ 0 ≤ v1 ∧ v1 ≤ to ∧ to ≤ ln) ∧ u2 < 12000 ∧ u3 + (to - v1) ≤ 200000 ∧ sO 226 h c p (h - ba) 3 ((s0 + v1) * 4294967296 + (to - v1)) (w_up (w_up S 150 2 (u2 + 1)) 150 3 (u3 + (to - v1))) Z))) := by
  obtain ⟨⟨hC, hI⟩, ⟨bc, bc0, bc1⟩, ⟨bp, bp0, bp1⟩, ⟨bh, bh0, bh1, bh2⟩, bl1, bl2, bl3⟩ := hP
  replace bp : S 231 (c - 1) = p := bp
  replace bh : S 227 2 = h := bh
  replace bh2 : h ≤ S 228 (-1) := bh2
  replace bl1 : S 229 (-1) = S 228 (-1) := bl1
  replace bl2 : 64 ≤ S 228 (-1) := bl2
  replace bl3 : S 228 (-1) ≤ 4095 := bl3
  have h35 := hl.2.1
  have h48 := hl.2.2.2
  have hk1b : S 228 (h - 1) = k1 := by rw [← hbh]; exact hk1
  have hv1b : S 229 (h - 1) = v1 := by rw [← hbh]; exact hv1
  refine wa_aload_n (n := 0) rfl ?_
  refine wb_gf4 158 rfl (wy_pr rfl) wt_158 wf_5_3 (v := 47) wl_158_3 ?_
  refine wa_iconst ?_
  refine wb_aald5 47 3 rfl rfl (wy_pr rfl) wt_47 (by rw [show _ = _ from ((cl_47 hC))]; omega) wl_47_3 ?_
  refine wa_iload_n (n := 1) rfl ?_
  refine wb_iald 51 rfl (wy_pr rfl) wt_51 (n := (S 48 (-1))) ((hl.2.2.1 3 (by decide))) (by omega) (by omega) (v := (S 51 x)) rfl (fun r1 => ?_)
  refine wa_istore_n (n := 2) rfl ?_
  refine wa_aload_n (n := 0) rfl ?_
  refine wb_gf4 158 rfl (wy_pr rfl) wt_158 wf_5_3 (v := 47) wl_158_3 ?_
  refine wa_iconst ?_
  refine wb_aald5 47 0 rfl rfl (wy_pr rfl) wt_47 (by rw [show _ = _ from ((cl_47 hC))]; omega) wl_47_0 ?_
  refine wa_iload_n (n := 1) rfl ?_
  refine wb_iald 48 rfl (wy_pr rfl) wt_48 (n := (S 48 (-1))) (rfl) (by omega) (by omega) (v := 3) (e48) (fun r2 => ?_)
  refine wa_lw (tb := 0) (w_rg0 (by omega) (by omega)) (q := (61, 3)) (by first | rfl | decide) ⟨_, rfl⟩ ?_
  refine wa_aload_n (n := 0) rfl ?_
  refine wb_gfi 158 rfl (wy_pr rfl) wt_158 wf_5_9 (v := gk) (l9) (fun r3 => ?_)
  refine wa_iconst ?_
  refine wa_icmpne (w_rg0 (by omega) (by omega)) (w_rg0 (by omega) (by omega)) ⟨_, rfl⟩ (fun c4 => ?_) (fun c4 => ?_)
  · skip
    exact absurd c4 (by omega)
  · skip
    refine wa_aload_n (n := 0) rfl ?_
    refine wa_cv 158 rfl (wy_pr rfl) wt_158 (M2 := mS [228, 229]) rfl at_XL_actOnText ⟨_, rfl⟩ rfl rfl ⟨trivial, (Or.inr ⟨wy_pr rfl, mS_no rfl⟩), trivial, trivial⟩ trivial (fun _ _ q => q) ?_ (fun _ _ _ q => q)
    refine wa_aload_n (n := 0) rfl ?_
    refine wb_gfl 158 rfl (wy_pr rfl) wt_158 wf_5_10 (v := gb) (l10) (fun r5 => ?_)
    refine wa_cs (M2 := mS [228, 229]) rfl at_X_sliceSize ⟨_, rfl⟩ rfl rfl ⟨(Or.inr ⟨wy_pr rfl, mS_no rfl⟩), trivial⟩ trivial (fun _ _ q => q) ?_ (fun _ _ _ q => q)
    refine wa_lload_n (n := 0) rfl ?_
    refine wb_l2i_r (y := ln) (by rw [hgb]; exact sl_z ⟨by omega, by omega⟩ ⟨by omega, by omega⟩) ?_
    refine wa_ireturn rfl ?_
    show wJ _ _ _ _ _ _ _ _ _ _
    refine wa_istore_n (n := 1) rfl ?_
    refine wa_aload_n (n := 0) rfl ?_
    refine wb_gfi 158 rfl (wy_pr rfl) wt_158 wf_5_7 (v := kd) (l7) (fun r6 => ?_)
    refine wa_ifne (w_rg0 (by omega) (by omega)) ⟨_, rfl⟩ (fun c7 => ?_) (fun c7 => ?_)
    · skip
      refine wa_aload_n (n := 0) rfl ?_
      refine wb_gf5 158 rfl (wy_pr rfl) wt_158 wf_5_5 (v := 227) (l5) (fun r8 => ?_)
      refine wb_gfi 227 rfl (wy_pr rfl) wt_227 wf_7_2 (v := h) (bh) (fun r9 => ?_)
      refine wa_iconst ?_
      refine wa_isub ?_
      refine wa_istore_n (n := 2) rfl ?_
      refine wa_aload_n (n := 0) rfl ?_
      refine wb_gf5 158 rfl (wy_pr rfl) wt_158 wf_5_5 (v := 227) (l5) (fun r10 => ?_)
      refine wb_gf4 227 rfl (wy_pr rfl) wt_227 wf_7_1 (v := 229) wl_227_1 ?_
      refine wa_aload_n (n := 0) rfl ?_
      refine wb_gfi 158 rfl (wy_pr rfl) wt_158 wf_5_8 (v := ba) (l8) (fun r11 => ?_)
      refine wa_iconst ?_
      refine wa_iadd ?_
      refine wb_lald 229 rfl (wy_pr rfl) wt_229 (n := (S 228 (-1))) (bl1) (by omega) (by omega) (v := v1) (hv1) (fun r12 => ?_)
      refine wa_lstore_n (n := 3) rfl ?_
      refine wa_aload_n (n := 0) rfl ?_
      refine wb_gfi 158 rfl (wy_pr rfl) wt_158 wf_5_7 (v := kd) (l7) (fun r13 => ?_)
      refine wa_iconst ?_
      refine wa_icmpne (w_rg0 (by omega) (by omega)) (w_rg0 (by omega) (by omega)) ⟨_, rfl⟩ (fun c14 => ?_) (fun c14 => ?_)
      · skip
        refine wa_lload_n (n := 3) rfl ?_
        refine wb_lconst (m := 1) rfl ?_
        refine wa_ladd ?_
        refine wa_fall ⟨_, rfl⟩ ?_
        refine wJ_n1 (w64_o _) ?_
        rw [hto]
        have hw1 := w64_1 (v := v1) ⟨by omega, by omega⟩
        rw [hto] at hw1
        refine wa_lstore (n := 5) rfl ?_
        refine wa_aload_n (n := 0) rfl ?_
        refine wb_gf5 158 rfl (wy_pr rfl) wt_158 wf_5_5 (v := 227) (l5) (fun r15 => ?_)
        refine wb_gf4 227 rfl (wy_pr rfl) wt_227 wf_7_0 (v := 228) wl_227_0 ?_
        refine wa_aload_n (n := 0) rfl ?_
        refine wb_gfi 158 rfl (wy_pr rfl) wt_158 wf_5_8 (v := ba) (l8) (fun r16 => ?_)
        refine wa_iconst ?_
        refine wa_iadd ?_
        refine wb_bald 228 rfl (wy_pr rfl) wt_228 (n := (S 228 (-1))) (rfl) (by omega) (by omega) (v := k1) (hk1) (fun r17 => ?_)
        refine wa_iconst ?_
        refine wa_icmpne (w_rg0 (by omega) (by omega)) (w_rg0 (by omega) (by omega)) ⟨_, rfl⟩ (fun c18 => ?_) (fun c18 => ?_)
        · skip
          refine wa_aload_n (n := 0) rfl ?_
          refine wb_gf5 158 rfl (wy_pr rfl) wt_158 wf_5_4 (v := 226) (l4) (fun r19 => ?_)
          refine wa_bipush (w_rg2 (by omega) (by omega)) ?_
          refine wb_pfi 226 rfl (wy_pr rfl) wt_226 wf_8_16 (n := 16) rfl ⟨(by omega), (by omega)⟩ ?_
          refine wa_return rfl ?_
          show wJ _ _ _ _ _ _ _ _ _ _
          refine wa_goto ⟨_, rfl⟩ ?_
          refine wa_return rfl ?_
          exact ⟨rfl, Or.inl ⟨by omega, rfl⟩⟩
        · skip
          refine wa_aload_n (n := 0) rfl ?_
          refine wb_gf5 158 rfl (wy_pr rfl) wt_158 wf_5_5 (v := 227) (l5) (fun r20 => ?_)
          refine wb_gf4 227 rfl (wy_pr rfl) wt_227 wf_7_0 (v := 228) wl_227_0 ?_
          refine wa_iload_n (n := 2) rfl ?_
          refine wb_bald 228 rfl (wy_pr rfl) wt_228 (n := (S 228 (-1))) (rfl) (by omega) (by omega) (v := k1) (hk1b) (fun r21 => ?_)
          refine wa_iconst ?_
          refine wa_icmpne (w_rg0 (by omega) (by omega)) (w_rg0 (by omega) (by omega)) ⟨_, rfl⟩ (fun c22 => ?_) (fun c22 => ?_)
          · skip
            exact absurd c22 (by omega)
          · skip
            refine wa_lload_n (n := 3) rfl ?_
            refine wb_lconst (m := 0) rfl ?_
            refine wa_lcmp (w_rg1 (by omega) (by omega)) (w_rg1 (by omega) (by omega)) ?_
            refine wa_iflt (by have := @wb_lcmp_cases; exact w_lcmp_rg) ⟨_, rfl⟩ (fun c23 => ?_) (fun c23 => ?_)
            · skip
              have c23x := @wb_lcmp_cases v1 0
              refine wa_aload_n (n := 0) rfl ?_
              refine wb_gf5 158 rfl (wy_pr rfl) wt_158 wf_5_4 (v := 226) (l4) (fun r24 => ?_)
              refine wa_bipush (w_rg2 (by omega) (by omega)) ?_
              refine wb_pfi 226 rfl (wy_pr rfl) wt_226 wf_8_16 (n := 16) rfl ⟨(by omega), (by omega)⟩ ?_
              refine wa_return rfl ?_
              show wJ _ _ _ _ _ _ _ _ _ _
              refine wa_goto ⟨_, rfl⟩ ?_
              refine wa_return rfl ?_
              exact ⟨rfl, Or.inl ⟨by omega, rfl⟩⟩
            · skip
              have c23x := @wb_lcmp_cases v1 0
              refine wa_lload_n (n := 3) rfl ?_
              refine wa_lload (n := 5) rfl ?_
              refine wa_lcmp (w_rg1 (by omega) (by omega)) (w_rg1 (by omega) (by omega)) ?_
              refine wa_ifgt (by have := @wb_lcmp_cases; exact w_lcmp_rg) ⟨_, rfl⟩ (fun c25 => ?_) (fun c25 => ?_)
              · skip
                have c25x := @wb_lcmp_cases v1 to
                refine wa_aload_n (n := 0) rfl ?_
                refine wb_gf5 158 rfl (wy_pr rfl) wt_158 wf_5_4 (v := 226) (l4) (fun r26 => ?_)
                refine wa_bipush (w_rg2 (by omega) (by omega)) ?_
                refine wb_pfi 226 rfl (wy_pr rfl) wt_226 wf_8_16 (n := 16) rfl ⟨(by omega), (by omega)⟩ ?_
                refine wa_return rfl ?_
                show wJ _ _ _ _ _ _ _ _ _ _
                refine wa_goto ⟨_, rfl⟩ ?_
                refine wa_return rfl ?_
                exact ⟨rfl, Or.inl ⟨by omega, rfl⟩⟩
              · skip
                have c25x := @wb_lcmp_cases v1 to
                refine wa_lload (n := 5) rfl ?_
                refine wa_iload_n (n := 1) rfl ?_
                refine wa_i2l (w_rg0 (by omega) (by omega)) ?_
                refine wa_lcmp (w_rg1 (by omega) (by omega)) (w_rg1 (by omega) (by omega)) ?_
                refine wa_ifle (by have := @wb_lcmp_cases; exact w_lcmp_rg) ⟨_, rfl⟩ (fun c27 => ?_) (fun c27 => ?_)
                · skip
                  have c27x := @wb_lcmp_cases to ln
                  refine wa_lload (n := 5) rfl ?_
                  refine wa_lload_n (n := 3) rfl ?_
                  refine wa_lsub ?_
                  refine wb_l2i_r (wb_l2i_id ⟨(by omega), (by omega)⟩) ?_
                  refine wa_istore (n := 7) rfl ?_
                  refine wa_aload_n (n := 0) rfl ?_
                  refine wb_gf4 158 rfl (wy_pr rfl) wt_158 wf_5_0 (v := 72) wl_158_0 ?_
                  refine wa_iload (n := 7) rfl ?_
                  refine wa_cv 72 rfl (wy_pr rfl) wt_72 (M2 := mS [228, 229]) rfl at_XH_hasTextRoom ⟨_, rfl⟩ rfl rfl ⟨trivial, trivial, trivial, trivial, trivial, (Or.inr ⟨wy_pr rfl, mS_no rfl⟩), trivial⟩ trivial (fun _ _ q => q) ?_ (fun _ _ _ q => q)
                  refine wa_aload_n (n := 0) rfl ?_
                  refine wa_iconst ?_
                  refine wa_iconst ?_
                  refine wa_cv 72 rfl (wy_pr rfl) wt_72 (M2 := mS [228, 229]) rfl at_XH_hasRoom ⟨_, rfl⟩ rfl rfl ⟨(Or.inr ⟨wy_pr rfl, mS_no rfl⟩), trivial, trivial⟩ trivial (fun _ _ q => q) ?_ (fun _ _ _ q => q)
                  refine wa_aload_n (n := 0) rfl ?_
                  refine wb_gf4 72 rfl (wy_pr rfl) wt_72 wf_2_10 (v := 150) wl_72_10 ?_
                  refine wa_iload_n (n := 1) rfl ?_
                  refine wb_iald 150 rfl (wy_pr rfl) wt_150 (n := 6) ((cl_150 hC)) (by omega) (by omega) (v := u2) (hu2) (fun r28 => ?_)
                  refine wa_iload_n (n := 2) rfl ?_
                  refine wa_iadd ?_
                  refine wa_gs ?_
                  refine wa_iload_n (n := 1) rfl ?_
                  refine wb_xald 1 rfl hx1 (by decide) (by omega) (by decide) (v := 12000) (by decide) (fun r29 => ?_)
                  refine wa_icmpgt (w_rg0 (by omega) (by omega)) (w_rg0 (by omega) (by omega)) ⟨_, rfl⟩ (fun c30 => ?_) (fun c30 => ?_)
                  · skip
                    refine wa_iconst ?_
                    refine wa_fall ⟨_, rfl⟩ ?_
                    refine wa_zreturn rfl (Or.inl rfl) ?_
                    show wJ _ _ _ _ _ _ _ _ _ _
                    refine wa_ifeq (w_rg0 (by omega) (by omega)) ⟨_, rfl⟩ (fun c31 => ?_) (fun c31 => ?_)
                    · skip
                      refine wa_iconst ?_
                      refine wa_fall ⟨_, rfl⟩ ?_
                      refine wa_zreturn rfl (Or.inl rfl) ?_
                      show wJ _ _ _ _ _ _ _ _ _ _
                      refine wa_ifne (w_rg0 (by omega) (by omega)) ⟨_, rfl⟩ (fun c32 => ?_) (fun c32 => ?_)
                      · skip
                        exact absurd c32 (by omega)
                      · skip
                        refine wa_aload_n (n := 0) rfl ?_
                        refine wb_gf5 158 rfl (wy_pr rfl) wt_158 wf_5_4 (v := 226) (l4) (fun r33 => ?_)
                        refine wa_bipush (w_rg2 (by omega) (by omega)) ?_
                        refine wb_pfi 226 rfl (wy_pr rfl) wt_226 wf_8_16 (n := 16) rfl ⟨(by omega), (by omega)⟩ ?_
                        refine wa_return rfl ?_
                        show wJ _ _ _ _ _ _ _ _ _ _
                        refine wa_goto ⟨_, rfl⟩ ?_
                        refine wa_return rfl ?_
                        exact ⟨rfl, Or.inr (Or.inl ⟨by omega, by omega, rfl⟩)⟩
                    · skip
                      exact absurd c31 (by omega)
                  · skip
                    refine wa_iconst ?_
                    refine wa_goto ⟨_, rfl⟩ ?_
                    refine wa_zreturn rfl (Or.inr rfl) ?_
                    show wJ _ _ _ _ _ _ _ _ _ _
                    refine wa_ifeq (w_rg0 (by omega) (by omega)) ⟨_, rfl⟩ (fun c34 => ?_) (fun c34 => ?_)
                    · skip
                      exact absurd c34 (by omega)
                    · skip
                      refine wa_aload_n (n := 0) rfl ?_
                      refine wa_iconst ?_
                      refine wa_iload_n (n := 1) rfl ?_
                      refine wa_cv 72 rfl (wy_pr rfl) wt_72 (M2 := mS [228, 229]) rfl at_XH_hasRoom ⟨_, rfl⟩ rfl rfl ⟨(Or.inr ⟨wy_pr rfl, mS_no rfl⟩), trivial, trivial⟩ trivial (fun _ _ q => q) ?_ (fun _ _ _ q => q)
                      refine wa_aload_n (n := 0) rfl ?_
                      refine wb_gf4 72 rfl (wy_pr rfl) wt_72 wf_2_10 (v := 150) wl_72_10 ?_
                      refine wa_iload_n (n := 1) rfl ?_
                      refine wb_iald 150 rfl (wy_pr rfl) wt_150 (n := 6) ((cl_150 hC)) (by omega) (by omega) (v := u3) (hu3) (fun r35 => ?_)
                      refine wa_iload_n (n := 2) rfl ?_
                      refine wa_iadd ?_
                      refine wa_gs ?_
                      refine wa_iload_n (n := 1) rfl ?_
                      refine wb_xald 1 rfl hx1 (by decide) (by omega) (by decide) (v := 200000) (by decide) (fun r36 => ?_)
                      refine wa_icmpgt (w_rg0 (by omega) (by omega)) (w_rg0 (by omega) (by omega)) ⟨_, rfl⟩ (fun c37 => ?_) (fun c37 => ?_)
                      · skip
                        refine wa_iconst ?_
                        refine wa_fall ⟨_, rfl⟩ ?_
                        refine wa_zreturn rfl (Or.inl rfl) ?_
                        show wJ _ _ _ _ _ _ _ _ _ _
                        refine wa_ifeq (w_rg0 (by omega) (by omega)) ⟨_, rfl⟩ (fun c38 => ?_) (fun c38 => ?_)
                        · skip
                          refine wa_iconst ?_
                          refine wa_fall ⟨_, rfl⟩ ?_
                          refine wa_zreturn rfl (Or.inl rfl) ?_
                          show wJ _ _ _ _ _ _ _ _ _ _
                          refine wa_ifne (w_rg0 (by omega) (by omega)) ⟨_, rfl⟩ (fun c39 => ?_) (fun c39 => ?_)
                          · skip
                            exact absurd c39 (by omega)
                          · skip
                            refine wa_aload_n (n := 0) rfl ?_
                            refine wb_gf5 158 rfl (wy_pr rfl) wt_158 wf_5_4 (v := 226) (l4) (fun r40 => ?_)
                            refine wa_bipush (w_rg2 (by omega) (by omega)) ?_
                            refine wb_pfi 226 rfl (wy_pr rfl) wt_226 wf_8_16 (n := 16) rfl ⟨(by omega), (by omega)⟩ ?_
                            refine wa_return rfl ?_
                            show wJ _ _ _ _ _ _ _ _ _ _
                            refine wa_goto ⟨_, rfl⟩ ?_
                            refine wa_return rfl ?_
                            exact ⟨rfl, Or.inr (Or.inl ⟨by omega, by omega, rfl⟩)⟩
                        · skip
                          exact absurd c38 (by omega)
                      · skip
                        refine wa_iconst ?_
                        refine wa_goto ⟨_, rfl⟩ ?_
                        refine wa_zreturn rfl (Or.inr rfl) ?_
                        show wJ _ _ _ _ _ _ _ _ _ _
                        refine wa_ifeq (w_rg0 (by omega) (by omega)) ⟨_, rfl⟩ (fun c41 => ?_) (fun c41 => ?_)
                        · skip
                          exact absurd c41 (by omega)
                        · skip
                          refine wa_iconst ?_
                          refine wa_goto ⟨_, rfl⟩ ?_
                          refine wa_zreturn rfl (Or.inr rfl) ?_
                          show wJ _ _ _ _ _ _ _ _ _ _
                          refine wa_ifne (w_rg0 (by omega) (by omega)) ⟨_, rfl⟩ (fun c42 => ?_) (fun c42 => ?_)
                          · skip
                            refine wa_aload_n (n := 0) rfl ?_
                            refine wb_gf4 158 rfl (wy_pr rfl) wt_158 wf_5_0 (v := 72) wl_158_0 ?_
                            refine wa_iload (n := 7) rfl ?_
                            refine wa_cv 72 rfl (wy_pr rfl) wt_72 (M2 := mS [228, 229]) rfl at_XH_useText ⟨_, rfl⟩ rfl rfl ⟨trivial, trivial, trivial, trivial, trivial, (Or.inr ⟨wy_pr rfl, mS_no rfl⟩), trivial⟩ trivial (fun _ _ q => q) ?_ (fun _ _ _ q => q)
                            refine wa_aload_n (n := 0) rfl ?_
                            refine wb_gf4 72 rfl (wy_pr rfl) wt_72 wf_2_10 (v := 150) wl_72_10 ?_
                            refine wa_iconst ?_
                            refine wa_dup2 (by decide) (by decide) ?_
                            refine wb_iald 150 rfl (wy_pr rfl) wt_150 (n := 6) ((cl_150 hC)) (by omega) (by omega) (v := u2) (hu2) (fun r43 => ?_)
                            refine wa_iconst ?_
                            refine wa_iadd ?_
                            refine wb_iast 150 rfl (wy_pr rfl) wt_150 (n := 6) ((cl_150 hC)) (by omega) (by omega) ⟨(by omega), (by omega)⟩ ?_
                            refine wa_aload_n (n := 0) rfl ?_
                            refine wb_gf4 72 rfl (wy_pr rfl) wt_72 wf_2_10 (v := 150) wl_72_10 ?_
                            refine wa_iconst ?_
                            refine wa_dup2 (by decide) (by decide) ?_
                            refine wb_iald 150 rfl (wy_pr rfl) wt_150 (n := 6) ((w_up_at (by decide)).trans ((cl_150 hC))) (by omega) (by omega) (v := u3) ((w_up_at (by decide)).trans (hu3)) (fun r44 => ?_)
                            refine wa_iload_n (n := 1) rfl ?_
                            refine wa_iadd ?_
                            refine wb_iast 150 rfl (wy_pr rfl) wt_150 (n := 6) ((w_up_at (by decide)).trans ((cl_150 hC))) (by omega) (by omega) ⟨(by omega), (by omega)⟩ ?_
                            refine wa_return rfl ?_
                            show wJ _ _ _ _ _ _ _ _ _ _
                            refine wa_aload_n (n := 0) rfl ?_
                            refine wa_iconst ?_
                            refine wa_aload_n (n := 0) rfl ?_
                            refine wb_gfl 158 rfl (wy_pr rfl) wt_158 wf_5_10 (v := gb) ((w_up_slot (by decide)).trans ((w_up_slot (by decide)).trans (l10))) (fun r45 => ?_)
                            refine wa_cs (M2 := mS [228, 229]) rfl at_X_sliceStart ⟨_, rfl⟩ rfl rfl ⟨trivial, trivial, trivial, trivial, trivial, (Or.inr ⟨wy_pr rfl, mS_no rfl⟩), trivial⟩ ⟨trivial, (Or.inr ⟨wy_pr rfl, mS_no rfl⟩), trivial⟩ (fun _ _ q => q) ?_ (fun _ _ _ q => q)
                            refine wa_lload_n (n := 0) rfl ?_
                            refine wa_bipush (w_rg2 (by omega) (by omega)) ?_
                            refine wa_lushr ?_
                            refine wb_l2i_r (y := s0) (by rw [hgb]; exact sl_s ⟨by omega, by omega⟩ ⟨by omega, by omega⟩) ?_
                            refine wa_ireturn rfl ?_
                            show wJ _ _ _ _ _ _ _ _ _ _
                            refine wa_lload_n (n := 3) rfl ?_
                            refine wb_l2i_r (wb_l2i_id ⟨(by omega), (by omega)⟩) ?_
                            refine wa_iadd ?_
                            refine wa_iload (n := 7) rfl ?_
                            refine wa_cs (M2 := mS [228, 229]) rfl at_X_slice ⟨_, rfl⟩ rfl rfl ⟨trivial, trivial, trivial, trivial, trivial, (Or.inr ⟨wy_pr rfl, mS_no rfl⟩), trivial⟩ ⟨trivial, (Or.inr ⟨wy_pr rfl, mS_no rfl⟩), trivial⟩ (fun _ _ q => q) ?_ (fun _ _ _ q => q)
                            refine wa_iload_n (n := 0) rfl ?_
                            refine wa_i2l (w_rg0 (by omega) (by omega)) ?_
                            refine wa_bipush (w_rg2 (by omega) (by omega)) ?_
                            refine wa_lshl ?_
                            refine wa_iload_n (n := 1) rfl ?_
                            refine wa_i2l (w_rg0 (by omega) (by omega)) ?_
                            refine wa_lor ?_
                            refine wa_lreturn rfl ?_
                            show wJ _ _ _ _ _ _ _ _ _ _
                            rw [sl_mk ⟨by omega, by omega⟩ ⟨by omega, by omega⟩]
                            refine wa_cv 158 rfl (wy_pr rfl) wt_158 (M2 := mS [228, 229]) rfl at_XL_giveValue ⟨_, rfl⟩ rfl rfl ⟨trivial, trivial, trivial, trivial, trivial, (Or.inr ⟨wy_pr rfl, mS_no rfl⟩), trivial⟩ trivial (fun _ _ q => mS_sub (by decide) q) (glx_226 (S := (w_up (w_up S 150 2 (u2 + 1)) 150 3 (u3 + (to - v1)))) (k := 3) (v := ((s0 + v1) * 4294967296 + (to - v1))) (h := h) (c := c) (p := p) (ba := ba) (w_CL_up (w_CL_up hC (by omega)) (by omega)) (gI_up (gI_up hI (by omega) (by omega) (by omega)) (by omega) (by omega) (by omega)) ((w_up_slot (by decide)).trans ((w_up_slot (by decide)).trans (l4))) ((w_up_slot (by decide)).trans ((w_up_slot (by decide)).trans (l5))) ((w_up_slot (by decide)).trans ((w_up_slot (by decide)).trans (l8))) ((w_up_slot (by decide)).trans ((w_up_slot (by decide)).trans (bc))) ((w_up_slot (by decide)).trans ((w_up_slot (by decide)).trans (bp))) ((((w_up_slot (by decide)).trans ((w_up_slot (by decide)).trans (bl1)))).trans (((w_up_slot (by decide)).trans ((w_up_slot (by decide)).trans (rfl)))).symm) (by have e : (w_up (w_up S 150 2 (u2 + 1)) 150 3 (u3 + (to - v1))) 228 (-1) = S 228 (-1) := ((w_up_slot (by decide)).trans ((w_up_slot (by decide)).trans (rfl))); rw [e]; exact ⟨bl2, bl3⟩) (by have e : (w_up (w_up S 150 2 (u2 + 1)) 150 3 (u3 + (to - v1))) 228 (-1) = S 228 (-1) := ((w_up_slot (by decide)).trans ((w_up_slot (by decide)).trans (rfl))); omega) ⟨by omega, by omega⟩ ⟨by omega, by omega⟩ ⟨by omega, by omega⟩ ⟨by omega, by omega⟩) (fun oq46 Sq46 hp47 q46 => ?_)
                            rcases q46 with ⟨rfl, hgv46⟩
                            show wJ _ _ _ _ _ _ _ _ _ _
                            refine wa_return rfl ?_
                            show wJ _ _ _ _ _ _ _ _ _ _
                            refine wa_goto ⟨_, rfl⟩ ?_
                            refine wa_return rfl ?_
                            exact ⟨rfl, Or.inr (Or.inr ⟨by omega, by omega, by omega, hgv46⟩)⟩
                          · skip
                            exact absurd c42 (by omega)
                · skip
                  have c27x := @wb_lcmp_cases to ln
                  refine wa_fall ⟨_, rfl⟩ ?_
                  refine wa_aload_n (n := 0) rfl ?_
                  refine wb_gf5 158 rfl (wy_pr rfl) wt_158 wf_5_4 (v := 226) (l4) (fun r48 => ?_)
                  refine wa_bipush (w_rg2 (by omega) (by omega)) ?_
                  refine wb_pfi 226 rfl (wy_pr rfl) wt_226 wf_8_16 (n := 16) rfl ⟨(by omega), (by omega)⟩ ?_
                  refine wa_return rfl ?_
                  show wJ _ _ _ _ _ _ _ _ _ _
                  refine wa_goto ⟨_, rfl⟩ ?_
                  refine wa_return rfl ?_
                  exact ⟨rfl, Or.inl ⟨by omega, rfl⟩⟩
      · skip
        exact absurd c14 (by omega)
    · skip
      exact absurd c7 (by omega)
end Wgr
