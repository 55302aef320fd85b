/-! PART gn: act of the class's linker on objects and funs: SET. -/
section Wgn
variable {xs : List (Nat × List Int32)} {M : Nat → Prop} {d : Nat} {S Z A : wS}
theorem avH_cl {k kd bt : Int} (hC : w_CL S) (h : avH_ag k kd bt S Z) (hk : 0 ≤ k) : w_CL Z := fun q hq => by
  have hg : wG = 1000000 := rfl
  have h1 : ∀ q ∈ wz_n, q.1 < 237 ∧ q.1 ≠ 141 ∧ q.1 ≠ 142 := by decide
  obtain ⟨a1, a2, a3⟩ := h1 q hq
  exact (h.2.2.2.2.2.2.1 q.1 (-1) (by omega) (by omega) a2 a3 (Or.inr (by omega)) (Or.inr (by first | decide | omega)) (Or.inr (by first | decide | omega))).trans (hC q hq)
set_option maxHeartbeats 4000000 in
theorem xset_215 {c p h kd ba gk gb x ky vy st wh : Int} (hP : xP 215 c p h S) (hl : cSl S) (l4 : S 158 4 = 215) (l5 : S 158 5 = 216) (l7 : S 158 7 = kd) (l8 : S 158 8 = ba) (l9 : S 158 9 = gk) (l10 : S 158 10 = gb) (hx : 0 ≤ x ∧ x < S 48 (-1)) (hba : 0 ≤ ba ∧ ba < h) (hth : ∀ x : Nat, x < 10 → S (127 + x) (-1) = S 127 (-1)) (hn2 : S 127 (-1) ≤ 16383) (hl14 : S 142 (-1) = S 141 (-1)) (hz14 : 16 ≤ S 141 (-1) ∧ S 141 (-1) ≤ 480400) (e48 : S 48 x = 0) (hky : S 217 (h - 1) = ky) (hvy : S 218 (h - 1) = vy) (hkr : -128 ≤ ky ∧ ky ≤ 127) (hvr : -9223372036854775808 ≤ vy ∧ vy ≤ 9223372036854775807) (hkd : kd = 1 ∨ kd = 3) (he51 : S 51 x = wh) (hgb : 0 ≤ gb ∧ gb < S 127 (-1)) (hst : S 133 gb = st) (hwh : 0 ≤ wh ∧ wh ≤ 100000 ∧ 0 ≤ st ∧ st + wh < S 141 (-1)) : wJ (pe_GA xs) wY0 (mS [217, 218]) (d + 8) t_XL_act ((pe_at t_XL_act.bl 0).getD (0, [])).2 [(0, (2, 158)), (1, (0, x))] [] S (fun o Z => o = .inl none ∧ sO 215 h c p (h - ba) ky vy (w_up (w_up S 141 (st + wh) ky) 142 (st + wh) vy) Z) := by
  obtain ⟨⟨hC, hI⟩, ⟨bc, bc0, bc1⟩, ⟨bp, bp0, bp1⟩, ⟨bh, bh0, bh1, bh2⟩, bl1, bl2, bl3⟩ := hP
  replace bp : S 220 (c - 1) = p := bp
  replace bh : S 216 2 = h := bh
  replace bh2 : h ≤ S 217 (-1) := bh2
  replace bl1 : S 218 (-1) = S 217 (-1) := bl1
  replace bl2 : 64 ≤ S 217 (-1) := bl2
  replace bl3 : S 217 (-1) ≤ 4095 := bl3
  have h35 := hl.2.1
  have h48 := hl.2.2.2
  refine wa_aload_n (n := 0) rfl ?_
  refine wb_gf4 158 rfl (wy_pr rfl) wt_158 wf_5_3 (v := 47) wl_158_3 ?_
  refine wa_iconst ?_
  refine wb_aald5 47 3 rfl rfl (wy_pr rfl) wt_47 (by rw [show _ = _ from ((cl_47 hC))]; omega) wl_47_3 ?_
  refine wa_iload_n (n := 1) rfl ?_
  refine wb_iald 51 rfl (wy_pr rfl) wt_51 (n := (S 48 (-1))) ((hl.2.2.1 3 (by decide))) (by omega) (by omega) (v := wh) (he51) (fun r1 => ?_)
  refine wa_istore_n (n := 2) rfl ?_
  refine wa_aload_n (n := 0) rfl ?_
  refine wb_gf4 158 rfl (wy_pr rfl) wt_158 wf_5_3 (v := 47) wl_158_3 ?_
  refine wa_iconst ?_
  refine wb_aald5 47 0 rfl rfl (wy_pr rfl) wt_47 (by rw [show _ = _ from ((cl_47 hC))]; omega) wl_47_0 ?_
  refine wa_iload_n (n := 1) rfl ?_
  refine wb_iald 48 rfl (wy_pr rfl) wt_48 (n := (S 48 (-1))) (rfl) (by omega) (by omega) (v := 0) (e48) (fun r2 => ?_)
  refine wa_lw (tb := 0) (w_rg0 (by omega) (by omega)) (q := (27, 1)) (by first | rfl | decide) ⟨_, rfl⟩ ?_
  refine wa_aload_n (n := 0) rfl ?_
  refine wb_gfi 158 rfl (wy_pr rfl) wt_158 wf_5_7 (v := kd) (l7) (fun r3 => ?_)
  refine wa_bipush (w_rg2 (by omega) (by omega)) ?_
  refine wa_icmpne (w_rg0 (by omega) (by omega)) (w_rg0 (by omega) (by omega)) ⟨_, rfl⟩ (fun c4 => ?_) (fun c4 => ?_)
  · skip
    refine wa_aload_n (n := 0) rfl ?_
    refine wa_iload_n (n := 1) rfl ?_
    refine wa_aload_n (n := 0) rfl ?_
    refine wb_gfl 158 rfl (wy_pr rfl) wt_158 wf_5_10 (v := gb) (l10) (fun r5 => ?_)
    refine wb_l2i_r (wb_l2i_id ⟨(by omega), (by omega)⟩) ?_
    refine wa_cv 158 rfl (wy_pr rfl) wt_158 (M2 := mS [217, 218]) rfl at_XL_actOnThing ⟨_, rfl⟩ rfl rfl ⟨trivial, (Or.inr ⟨wy_pr rfl, mS_no rfl⟩), trivial, trivial⟩ trivial (fun _ _ q => q) ?_ (fun _ _ _ q => q)
    refine wa_aload_n (n := 0) rfl ?_
    refine wb_gfi 158 rfl (wy_pr rfl) wt_158 wf_5_7 (v := kd) (l7) (fun r6 => ?_)
    refine wa_iconst ?_
    refine wa_icmpne (w_rg0 (by omega) (by omega)) (w_rg0 (by omega) (by omega)) ⟨_, rfl⟩ (fun c7 => ?_) (fun c7 => ?_)
    · skip
      refine wa_aload_n (n := 0) rfl ?_
      refine wb_gfi 158 rfl (wy_pr rfl) wt_158 wf_5_7 (v := kd) (l7) (fun r8 => ?_)
      refine wa_iconst ?_
      refine wa_icmpeq (w_rg0 (by omega) (by omega)) (w_rg0 (by omega) (by omega)) ⟨_, rfl⟩ (fun c9 => ?_) (fun c9 => ?_)
      · skip
        refine wa_aload_n (n := 0) rfl ?_
        refine wa_iload_n (n := 1) rfl ?_
        refine wa_iload_n (n := 2) rfl ?_
        refine wa_cv 158 rfl (wy_pr rfl) wt_158 (M2 := mS [217, 218]) rfl at_XL_setProperty ⟨_, rfl⟩ rfl rfl ⟨(Or.inr ⟨wy_pr rfl, mS_no rfl⟩), trivial, trivial, trivial⟩ trivial (fun _ _ q => q) ?_ (fun _ _ _ q => q)
        refine wa_aload_n (n := 0) rfl ?_
        refine wb_gf5 158 rfl (wy_pr rfl) wt_158 wf_5_5 (v := 216) (l5) (fun r10 => ?_)
        refine wb_gfi 216 rfl (wy_pr rfl) wt_216 wf_7_2 (v := h) (bh) (fun r11 => ?_)
        refine wa_iconst ?_
        refine wa_isub ?_
        refine wa_istore_n (n := 3) rfl ?_
        refine wa_aload_n (n := 0) rfl ?_
        refine wb_gf4 158 rfl (wy_pr rfl) wt_158 wf_5_3 (v := 47) wl_158_3 ?_
        refine wa_iconst ?_
        refine wb_aald5 47 3 rfl rfl (wy_pr rfl) wt_47 (by rw [show _ = _ from ((cl_47 hC))]; omega) wl_47_3 ?_
        refine wa_iload_n (n := 1) rfl ?_
        refine wb_iald 51 rfl (wy_pr rfl) wt_51 (n := (S 48 (-1))) ((hl.2.2.1 3 (by decide))) (by omega) (by omega) (v := wh) (he51) (fun r12 => ?_)
        refine wa_istore (n := 4) rfl ?_
        refine wa_iload (n := 4) rfl ?_
        refine wa_iconst ?_
        refine wa_icmpeq (w_rg0 (by omega) (by omega)) (w_rg0 (by omega) (by omega)) ⟨_, rfl⟩ (fun c13 => ?_) (fun c13 => ?_)
        · skip
          exact absurd c13 (by omega)
        · skip
          refine wa_aload_n (n := 0) rfl ?_
          refine wb_gf4 158 rfl (wy_pr rfl) wt_158 wf_5_0 (v := 72) wl_158_0 ?_
          refine wb_gf4 72 rfl (wy_pr rfl) wt_72 wf_2_6 (v := 140) wl_72_6 ?_
          refine wa_aload_n (n := 0) rfl ?_
          refine wb_gf4 158 rfl (wy_pr rfl) wt_158 wf_5_0 (v := 72) wl_158_0 ?_
          refine wb_gf4 72 rfl (wy_pr rfl) wt_72 wf_2_2 (v := 126) wl_72_2 ?_
          refine wa_bipush (w_rg2 (by omega) (by omega)) ?_
          refine wb_aald5 126 6 rfl rfl (wy_pr rfl) wt_126 (by rw [show _ = _ from ((cl_126 hC))]; omega) wl_126_6 ?_
          refine wa_iload_n (n := 2) rfl ?_
          refine wb_iald 133 rfl (wy_pr rfl) wt_133 (n := (S 127 (-1))) ((hth 6 (by decide))) (by omega) (by omega) (v := st) (hst) (fun r14 => ?_)
          refine wa_iload (n := 4) rfl ?_
          refine wa_iadd ?_
          refine wa_aload_n (n := 0) rfl ?_
          refine wb_gf5 158 rfl (wy_pr rfl) wt_158 wf_5_5 (v := 216) (l5) (fun r15 => ?_)
          refine wb_gf4 216 rfl (wy_pr rfl) wt_216 wf_7_0 (v := 217) wl_216_0 ?_
          refine wa_iload_n (n := 3) rfl ?_
          refine wb_bald 217 rfl (wy_pr rfl) wt_217 (n := (S 217 (-1))) (rfl) (by omega) (by omega) (v := ky) (hky) (fun r16 => ?_)
          refine wa_aload_n (n := 0) rfl ?_
          refine wb_gf5 158 rfl (wy_pr rfl) wt_158 wf_5_5 (v := 216) (l5) (fun r17 => ?_)
          refine wb_gf4 216 rfl (wy_pr rfl) wt_216 wf_7_1 (v := 218) wl_216_1 ?_
          refine wa_iload_n (n := 3) rfl ?_
          refine wb_lald 218 rfl (wy_pr rfl) wt_218 (n := (S 217 (-1))) (bl1) (by omega) (by omega) (v := vy) (hvy) (fun r18 => ?_)
          refine wa_cv 140 rfl (wy_pr rfl) wt_140 (M2 := mS [217, 218]) rfl at_XV_put ⟨_, rfl⟩ rfl rfl ⟨trivial, trivial, (Or.inr ⟨wy_pr rfl, mS_no rfl⟩), trivial, trivial, trivial⟩ trivial (fun _ _ q => q) ?_ (fun _ _ _ q => q)
          refine wa_aload_n (n := 0) rfl ?_
          refine wb_gf4 140 rfl (wy_pr rfl) wt_140 wf_7_0 (v := 141) wl_140_0 ?_
          refine wa_iload_n (n := 1) rfl ?_
          refine wa_iload_n (n := 2) rfl ?_
          refine wb_i2b_r (wb_i2b_id ⟨(by omega), (by omega)⟩) ?_
          refine wb_bast 141 rfl (wy_pr rfl) wt_141 (n := (S 141 (-1))) (rfl) (by omega) (by omega) ⟨(by omega), (by omega)⟩ ?_
          refine wa_aload_n (n := 0) rfl ?_
          refine wb_gf4 140 rfl (wy_pr rfl) wt_140 wf_7_1 (v := 142) wl_140_1 ?_
          refine wa_iload_n (n := 1) rfl ?_
          refine wa_lload_n (n := 3) rfl ?_
          refine wb_last 142 rfl (wy_pr rfl) wt_142 (n := (S 141 (-1))) ((w_up_slot (by decide)).trans (hl14)) (by omega) (by omega) ⟨(by omega), (by omega)⟩ ?_
          refine wa_return rfl ?_
          show wJ _ _ _ _ _ _ _ _ _ _
          refine wa_goto ⟨_, rfl⟩ ?_
          refine wa_aload_n (n := 0) rfl ?_
          refine wa_aload_n (n := 0) rfl ?_
          refine wb_gf5 158 rfl (wy_pr rfl) wt_158 wf_5_5 (v := 216) ((w_up_slot (by decide)).trans ((w_up_slot (by decide)).trans (l5))) (fun r19 => ?_)
          refine wb_gf4 216 rfl (wy_pr rfl) wt_216 wf_7_0 (v := 217) wl_216_0 ?_
          refine wa_iload_n (n := 3) rfl ?_
          refine wb_bald 217 rfl (wy_pr rfl) wt_217 (n := (S 217 (-1))) ((w_up_slot (by decide)).trans ((w_up_slot (by decide)).trans (rfl))) (by omega) (by omega) (v := ky) ((w_up_slot (by decide)).trans ((w_up_slot (by decide)).trans (hky))) (fun r20 => ?_)
          refine wa_aload_n (n := 0) rfl ?_
          refine wb_gf5 158 rfl (wy_pr rfl) wt_158 wf_5_5 (v := 216) ((w_up_slot (by decide)).trans ((w_up_slot (by decide)).trans (l5))) (fun r21 => ?_)
          refine wb_gf4 216 rfl (wy_pr rfl) wt_216 wf_7_1 (v := 218) wl_216_1 ?_
          refine wa_iload_n (n := 3) rfl ?_
          refine wb_lald 218 rfl (wy_pr rfl) wt_218 (n := (S 217 (-1))) ((w_up_slot (by decide)).trans ((w_up_slot (by decide)).trans (bl1))) (by omega) (by omega) (v := vy) ((w_up_slot (by decide)).trans ((w_up_slot (by decide)).trans (hvy))) (fun r22 => ?_)
          refine wa_cv 158 rfl (wy_pr rfl) wt_158 (M2 := mS [217, 218]) rfl at_XL_giveValue ⟨_, rfl⟩ rfl rfl ⟨trivial, trivial, (Or.inr ⟨wy_pr rfl, mS_no rfl⟩), trivial, trivial, trivial⟩ trivial (fun _ _ q => mS_sub (by decide) q) (glx_215 (S := (w_up (w_up S 141 (st + wh) ky) 142 (st + wh) vy)) (k := ky) (v := vy) (h := h) (c := c) (p := p) (ba := ba) (w_CL_up (w_CL_up hC (by omega)) (by omega)) (gI_up (gI_up hI (by omega) (by omega) (by omega)) (by omega) (by omega) (by omega)) ((w_up_slot (by decide)).trans ((w_up_slot (by decide)).trans (l4))) ((w_up_slot (by decide)).trans ((w_up_slot (by decide)).trans (l5))) ((w_up_slot (by decide)).trans ((w_up_slot (by decide)).trans (l8))) ((w_up_slot (by decide)).trans ((w_up_slot (by decide)).trans (bc))) ((w_up_slot (by decide)).trans ((w_up_slot (by decide)).trans (bp))) (by rw [show _ = _ from ((w_up_slot (by decide)).trans ((w_up_slot (by decide)).trans (bl1))), show _ = _ from ((w_up_slot (by decide)).trans ((w_up_slot (by decide)).trans (rfl)))]) (by rw [show _ = _ from ((w_up_slot (by decide)).trans ((w_up_slot (by decide)).trans (rfl)))]; exact ⟨bl2, bl3⟩) (by rw [show _ = _ from ((w_up_slot (by decide)).trans ((w_up_slot (by decide)).trans (rfl)))]; omega) ⟨by omega, by omega⟩ ⟨by omega, by omega⟩ ⟨by omega, by omega⟩ ⟨by omega, by omega⟩) (fun oq23 Sq23 hp24 q23 => ?_)
          rcases q23 with ⟨rfl, hgv23⟩
          show wJ _ _ _ _ _ _ _ _ _ _
          refine wa_return rfl ?_
          show wJ _ _ _ _ _ _ _ _ _ _
          refine wa_goto ⟨_, rfl⟩ ?_
          refine wa_return rfl ?_
          show wJ _ _ _ _ _ _ _ _ _ _
          refine wa_goto ⟨_, rfl⟩ ?_
          refine wa_return rfl ?_
          exact ⟨rfl, hgv23⟩
      · skip
        refine wa_aload_n (n := 0) rfl ?_
        refine wb_gfi 158 rfl (wy_pr rfl) wt_158 wf_5_7 (v := kd) (l7) (fun r25 => ?_)
        refine wa_iconst ?_
        refine wa_icmpne (w_rg0 (by omega) (by omega)) (w_rg0 (by omega) (by omega)) ⟨_, rfl⟩ (fun c26 => ?_) (fun c26 => ?_)
        · skip
          exact absurd c26 (by omega)
        · skip
          refine wa_fall ⟨_, rfl⟩ ?_
          refine wa_aload_n (n := 0) rfl ?_
          refine wa_iload_n (n := 1) rfl ?_
          refine wa_iload_n (n := 2) rfl ?_
          refine wa_cv 158 rfl (wy_pr rfl) wt_158 (M2 := mS [217, 218]) rfl at_XL_setProperty ⟨_, rfl⟩ rfl rfl ⟨(Or.inr ⟨wy_pr rfl, mS_no rfl⟩), trivial, trivial, trivial⟩ trivial (fun _ _ q => q) ?_ (fun _ _ _ q => q)
          refine wa_aload_n (n := 0) rfl ?_
          refine wb_gf5 158 rfl (wy_pr rfl) wt_158 wf_5_5 (v := 216) (l5) (fun r27 => ?_)
          refine wb_gfi 216 rfl (wy_pr rfl) wt_216 wf_7_2 (v := h) (bh) (fun r28 => ?_)
          refine wa_iconst ?_
          refine wa_isub ?_
          refine wa_istore_n (n := 3) rfl ?_
          refine wa_aload_n (n := 0) rfl ?_
          refine wb_gf4 158 rfl (wy_pr rfl) wt_158 wf_5_3 (v := 47) wl_158_3 ?_
          refine wa_iconst ?_
          refine wb_aald5 47 3 rfl rfl (wy_pr rfl) wt_47 (by rw [show _ = _ from ((cl_47 hC))]; omega) wl_47_3 ?_
          refine wa_iload_n (n := 1) rfl ?_
          refine wb_iald 51 rfl (wy_pr rfl) wt_51 (n := (S 48 (-1))) ((hl.2.2.1 3 (by decide))) (by omega) (by omega) (v := wh) (he51) (fun r29 => ?_)
          refine wa_istore (n := 4) rfl ?_
          refine wa_iload (n := 4) rfl ?_
          refine wa_iconst ?_
          refine wa_icmpeq (w_rg0 (by omega) (by omega)) (w_rg0 (by omega) (by omega)) ⟨_, rfl⟩ (fun c30 => ?_) (fun c30 => ?_)
          · skip
            exact absurd c30 (by omega)
          · skip
            refine wa_aload_n (n := 0) rfl ?_
            refine wb_gf4 158 rfl (wy_pr rfl) wt_158 wf_5_0 (v := 72) wl_158_0 ?_
            refine wb_gf4 72 rfl (wy_pr rfl) wt_72 wf_2_6 (v := 140) wl_72_6 ?_
            refine wa_aload_n (n := 0) rfl ?_
            refine wb_gf4 158 rfl (wy_pr rfl) wt_158 wf_5_0 (v := 72) wl_158_0 ?_
            refine wb_gf4 72 rfl (wy_pr rfl) wt_72 wf_2_2 (v := 126) wl_72_2 ?_
            refine wa_bipush (w_rg2 (by omega) (by omega)) ?_
            refine wb_aald5 126 6 rfl rfl (wy_pr rfl) wt_126 (by rw [show _ = _ from ((cl_126 hC))]; omega) wl_126_6 ?_
            refine wa_iload_n (n := 2) rfl ?_
            refine wb_iald 133 rfl (wy_pr rfl) wt_133 (n := (S 127 (-1))) ((hth 6 (by decide))) (by omega) (by omega) (v := st) (hst) (fun r31 => ?_)
            refine wa_iload (n := 4) rfl ?_
            refine wa_iadd ?_
            refine wa_aload_n (n := 0) rfl ?_
            refine wb_gf5 158 rfl (wy_pr rfl) wt_158 wf_5_5 (v := 216) (l5) (fun r32 => ?_)
            refine wb_gf4 216 rfl (wy_pr rfl) wt_216 wf_7_0 (v := 217) wl_216_0 ?_
            refine wa_iload_n (n := 3) rfl ?_
            refine wb_bald 217 rfl (wy_pr rfl) wt_217 (n := (S 217 (-1))) (rfl) (by omega) (by omega) (v := ky) (hky) (fun r33 => ?_)
            refine wa_aload_n (n := 0) rfl ?_
            refine wb_gf5 158 rfl (wy_pr rfl) wt_158 wf_5_5 (v := 216) (l5) (fun r34 => ?_)
            refine wb_gf4 216 rfl (wy_pr rfl) wt_216 wf_7_1 (v := 218) wl_216_1 ?_
            refine wa_iload_n (n := 3) rfl ?_
            refine wb_lald 218 rfl (wy_pr rfl) wt_218 (n := (S 217 (-1))) (bl1) (by omega) (by omega) (v := vy) (hvy) (fun r35 => ?_)
            refine wa_cv 140 rfl (wy_pr rfl) wt_140 (M2 := mS [217, 218]) rfl at_XV_put ⟨_, rfl⟩ rfl rfl ⟨trivial, trivial, (Or.inr ⟨wy_pr rfl, mS_no rfl⟩), trivial, trivial, trivial⟩ trivial (fun _ _ q => q) ?_ (fun _ _ _ q => q)
            refine wa_aload_n (n := 0) rfl ?_
            refine wb_gf4 140 rfl (wy_pr rfl) wt_140 wf_7_0 (v := 141) wl_140_0 ?_
            refine wa_iload_n (n := 1) rfl ?_
            refine wa_iload_n (n := 2) rfl ?_
            refine wb_i2b_r (wb_i2b_id ⟨(by omega), (by omega)⟩) ?_
            refine wb_bast 141 rfl (wy_pr rfl) wt_141 (n := (S 141 (-1))) (rfl) (by omega) (by omega) ⟨(by omega), (by omega)⟩ ?_
            refine wa_aload_n (n := 0) rfl ?_
            refine wb_gf4 140 rfl (wy_pr rfl) wt_140 wf_7_1 (v := 142) wl_140_1 ?_
            refine wa_iload_n (n := 1) rfl ?_
            refine wa_lload_n (n := 3) rfl ?_
            refine wb_last 142 rfl (wy_pr rfl) wt_142 (n := (S 141 (-1))) ((w_up_slot (by decide)).trans (hl14)) (by omega) (by omega) ⟨(by omega), (by omega)⟩ ?_
            refine wa_return rfl ?_
            show wJ _ _ _ _ _ _ _ _ _ _
            refine wa_goto ⟨_, rfl⟩ ?_
            refine wa_aload_n (n := 0) rfl ?_
            refine wa_aload_n (n := 0) rfl ?_
            refine wb_gf5 158 rfl (wy_pr rfl) wt_158 wf_5_5 (v := 216) ((w_up_slot (by decide)).trans ((w_up_slot (by decide)).trans (l5))) (fun r36 => ?_)
            refine wb_gf4 216 rfl (wy_pr rfl) wt_216 wf_7_0 (v := 217) wl_216_0 ?_
            refine wa_iload_n (n := 3) rfl ?_
            refine wb_bald 217 rfl (wy_pr rfl) wt_217 (n := (S 217 (-1))) ((w_up_slot (by decide)).trans ((w_up_slot (by decide)).trans (rfl))) (by omega) (by omega) (v := ky) ((w_up_slot (by decide)).trans ((w_up_slot (by decide)).trans (hky))) (fun r37 => ?_)
            refine wa_aload_n (n := 0) rfl ?_
            refine wb_gf5 158 rfl (wy_pr rfl) wt_158 wf_5_5 (v := 216) ((w_up_slot (by decide)).trans ((w_up_slot (by decide)).trans (l5))) (fun r38 => ?_)
            refine wb_gf4 216 rfl (wy_pr rfl) wt_216 wf_7_1 (v := 218) wl_216_1 ?_
            refine wa_iload_n (n := 3) rfl ?_
            refine wb_lald 218 rfl (wy_pr rfl) wt_218 (n := (S 217 (-1))) ((w_up_slot (by decide)).trans ((w_up_slot (by decide)).trans (bl1))) (by omega) (by omega) (v := vy) ((w_up_slot (by decide)).trans ((w_up_slot (by decide)).trans (hvy))) (fun r39 => ?_)
            refine wa_cv 158 rfl (wy_pr rfl) wt_158 (M2 := mS [217, 218]) rfl at_XL_giveValue ⟨_, rfl⟩ rfl rfl ⟨trivial, trivial, (Or.inr ⟨wy_pr rfl, mS_no rfl⟩), trivial, trivial, trivial⟩ trivial (fun _ _ q => mS_sub (by decide) q) (glx_215 (S := (w_up (w_up S 141 (st + wh) ky) 142 (st + wh) vy)) (k := ky) (v := vy) (h := h) (c := c) (p := p) (ba := ba) (w_CL_up (w_CL_up hC (by omega)) (by omega)) (gI_up (gI_up hI (by omega) (by omega) (by omega)) (by omega) (by omega) (by omega)) ((w_up_slot (by decide)).trans ((w_up_slot (by decide)).trans (l4))) ((w_up_slot (by decide)).trans ((w_up_slot (by decide)).trans (l5))) ((w_up_slot (by decide)).trans ((w_up_slot (by decide)).trans (l8))) ((w_up_slot (by decide)).trans ((w_up_slot (by decide)).trans (bc))) ((w_up_slot (by decide)).trans ((w_up_slot (by decide)).trans (bp))) (by rw [show _ = _ from ((w_up_slot (by decide)).trans ((w_up_slot (by decide)).trans (bl1))), show _ = _ from ((w_up_slot (by decide)).trans ((w_up_slot (by decide)).trans (rfl)))]) (by rw [show _ = _ from ((w_up_slot (by decide)).trans ((w_up_slot (by decide)).trans (rfl)))]; exact ⟨bl2, bl3⟩) (by rw [show _ = _ from ((w_up_slot (by decide)).trans ((w_up_slot (by decide)).trans (rfl)))]; omega) ⟨by omega, by omega⟩ ⟨by omega, by omega⟩ ⟨by omega, by omega⟩ ⟨by omega, by omega⟩) (fun oq40 Sq40 hp41 q40 => ?_)
            rcases q40 with ⟨rfl, hgv40⟩
            show wJ _ _ _ _ _ _ _ _ _ _
            refine wa_return rfl ?_
            show wJ _ _ _ _ _ _ _ _ _ _
            refine wa_goto ⟨_, rfl⟩ ?_
            refine wa_return rfl ?_
            show wJ _ _ _ _ _ _ _ _ _ _
            refine wa_goto ⟨_, rfl⟩ ?_
            refine wa_return rfl ?_
            exact ⟨rfl, hgv40⟩
    · skip
      exact absurd c7 (by omega)
  · skip
    exact absurd c4 (by omega)
set_option maxHeartbeats 4000000 in
theorem xsen_215 {c p h kd ba gk gb x ky vy st sz rm cs v0 r ep ch : Int} (hP : xP 215 c p h S) (hl : cSl S) (l4 : S 158 4 = 215) (l5 : S 158 5 = 216) (l7 : S 158 7 = kd) (l8 : S 158 8 = ba) (l9 : S 158 9 = gk) (l10 : S 158 10 = gb) (hx : 0 ≤ x ∧ x < S 48 (-1)) (hba : 0 ≤ ba ∧ ba < h) (hx1 : pe_at (pe_GA xs).xs 1 = some (1, tx_1)) (hth : ∀ x : Nat, x < 10 → S (127 + x) (-1) = S 127 (-1)) (hn2 : S 127 (-1) ≤ 16383) (hl14 : S 142 (-1) = S 141 (-1)) (hz14 : 16 ≤ S 141 (-1) ∧ S 141 (-1) ≤ 480400) (e48 : S 48 x = 0) (hky : S 217 (h - 1) = ky) (hvy : S 218 (h - 1) = vy) (hkr : -128 ≤ ky ∧ ky ≤ 127) (hvr : -9223372036854775808 ≤ vy ∧ vy ≤ 9223372036854775807) (hkd : kd = 1 ∨ kd = 3) (he51 : S 51 x = -1) (he52 : S 52 x = r) (hgb : 0 ≤ gb ∧ gb < S 127 (-1)) (h2 : S 140 2 = cs) (hcs : 0 ≤ cs ∧ cs ≤ S 141 (-1)) (hst : S 133 gb = st) (hsz : S 134 gb = sz) (hrm : S 135 gb = rm) (hs1 : 0 ≤ st ∧ 0 ≤ sz ∧ sz ≤ rm ∧ st + rm ≤ cs) (hv0 : S 150 1 = v0) (hv1 : 0 ≤ v0 ∧ v0 ≤ 60000) (hszb : sz ≤ 100000) (hep : S 130 gb = ep) (hep1 : -1 ≤ ep ∧ ep ≤ 10000000) (hch : S 72 11 = ch) (hch1 : 0 ≤ ch ∧ ch ≤ 10000000) : wJ (pe_GA xs) wY0 (mS [217, 218, 141, 142]) (d + 8) t_XL_act ((pe_at t_XL_act.bl 0).getD (0, [])).2 [(0, (2, 158)), (1, (0, x))] [] S (fun o Z => o = .inl none ∧ (((64 ≤ sz ∨ 60000 ≤ v0) ∧ w_up S 215 16 99 = Z) ∨ (sz < 64 ∧ v0 < 60000 ∧ ∃ A : wS, avH_ag gb ky vy S A ∧ sO 215 h c p (h - ba) ky vy (ncZ gb r ep ch A) Z))) := by
  obtain ⟨⟨hC, hI⟩, ⟨bc, bc0, bc1⟩, ⟨bp, bp0, bp1⟩, ⟨bh, bh0, bh1, bh2⟩, bl1, bl2, bl3⟩ := hP
  replace bp : S 220 (c - 1) = p := bp
  replace bh : S 216 2 = h := bh
  replace bh2 : h ≤ S 217 (-1) := bh2
  replace bl1 : S 218 (-1) = S 217 (-1) := bl1
  replace bl2 : 64 ≤ S 217 (-1) := bl2
  replace bl3 : S 217 (-1) ≤ 4095 := bl3
  have h35 := hl.2.1
  have h48 := hl.2.2.2
  refine wa_aload_n (n := 0) rfl ?_
  refine wb_gf4 158 rfl (wy_pr rfl) wt_158 wf_5_3 (v := 47) wl_158_3 ?_
  refine wa_iconst ?_
  refine wb_aald5 47 3 rfl rfl (wy_pr rfl) wt_47 (by rw [show _ = _ from ((cl_47 hC))]; omega) wl_47_3 ?_
  refine wa_iload_n (n := 1) rfl ?_
  refine wb_iald 51 rfl (wy_pr rfl) wt_51 (n := (S 48 (-1))) ((hl.2.2.1 3 (by decide))) (by omega) (by omega) (v := (-1)) (he51) (fun r1 => ?_)
  refine wa_istore_n (n := 2) rfl ?_
  refine wa_aload_n (n := 0) rfl ?_
  refine wb_gf4 158 rfl (wy_pr rfl) wt_158 wf_5_3 (v := 47) wl_158_3 ?_
  refine wa_iconst ?_
  refine wb_aald5 47 0 rfl rfl (wy_pr rfl) wt_47 (by rw [show _ = _ from ((cl_47 hC))]; omega) wl_47_0 ?_
  refine wa_iload_n (n := 1) rfl ?_
  refine wb_iald 48 rfl (wy_pr rfl) wt_48 (n := (S 48 (-1))) (rfl) (by omega) (by omega) (v := 0) (e48) (fun r2 => ?_)
  refine wa_lw (tb := 0) (w_rg0 (by omega) (by omega)) (q := (27, 1)) (by first | rfl | decide) ⟨_, rfl⟩ ?_
  refine wa_aload_n (n := 0) rfl ?_
  refine wb_gfi 158 rfl (wy_pr rfl) wt_158 wf_5_7 (v := kd) (l7) (fun r3 => ?_)
  refine wa_bipush (w_rg2 (by omega) (by omega)) ?_
  refine wa_icmpne (w_rg0 (by omega) (by omega)) (w_rg0 (by omega) (by omega)) ⟨_, rfl⟩ (fun c4 => ?_) (fun c4 => ?_)
  · skip
    refine wa_aload_n (n := 0) rfl ?_
    refine wa_iload_n (n := 1) rfl ?_
    refine wa_aload_n (n := 0) rfl ?_
    refine wb_gfl 158 rfl (wy_pr rfl) wt_158 wf_5_10 (v := gb) (l10) (fun r5 => ?_)
    refine wb_l2i_r (wb_l2i_id ⟨(by omega), (by omega)⟩) ?_
    refine wa_cv 158 rfl (wy_pr rfl) wt_158 (M2 := mS [217, 218, 141, 142]) rfl at_XL_actOnThing ⟨_, rfl⟩ rfl rfl ⟨trivial, (Or.inr ⟨wy_pr rfl, mS_no rfl⟩), trivial, trivial⟩ trivial (fun _ _ q => q) ?_ (fun _ _ _ q => q)
    refine wa_aload_n (n := 0) rfl ?_
    refine wb_gfi 158 rfl (wy_pr rfl) wt_158 wf_5_7 (v := kd) (l7) (fun r6 => ?_)
    refine wa_iconst ?_
    refine wa_icmpne (w_rg0 (by omega) (by omega)) (w_rg0 (by omega) (by omega)) ⟨_, rfl⟩ (fun c7 => ?_) (fun c7 => ?_)
    · skip
      refine wa_aload_n (n := 0) rfl ?_
      refine wb_gfi 158 rfl (wy_pr rfl) wt_158 wf_5_7 (v := kd) (l7) (fun r8 => ?_)
      refine wa_iconst ?_
      refine wa_icmpeq (w_rg0 (by omega) (by omega)) (w_rg0 (by omega) (by omega)) ⟨_, rfl⟩ (fun c9 => ?_) (fun c9 => ?_)
      · skip
        refine wa_aload_n (n := 0) rfl ?_
        refine wa_iload_n (n := 1) rfl ?_
        refine wa_iload_n (n := 2) rfl ?_
        refine wa_cv 158 rfl (wy_pr rfl) wt_158 (M2 := mS [217, 218, 141, 142]) rfl at_XL_setProperty ⟨_, rfl⟩ rfl rfl ⟨(Or.inr ⟨wy_pr rfl, mS_no rfl⟩), trivial, trivial, trivial⟩ trivial (fun _ _ q => q) ?_ (fun _ _ _ q => q)
        refine wa_aload_n (n := 0) rfl ?_
        refine wb_gf5 158 rfl (wy_pr rfl) wt_158 wf_5_5 (v := 216) (l5) (fun r10 => ?_)
        refine wb_gfi 216 rfl (wy_pr rfl) wt_216 wf_7_2 (v := h) (bh) (fun r11 => ?_)
        refine wa_iconst ?_
        refine wa_isub ?_
        refine wa_istore_n (n := 3) rfl ?_
        refine wa_aload_n (n := 0) rfl ?_
        refine wb_gf4 158 rfl (wy_pr rfl) wt_158 wf_5_3 (v := 47) wl_158_3 ?_
        refine wa_iconst ?_
        refine wb_aald5 47 3 rfl rfl (wy_pr rfl) wt_47 (by rw [show _ = _ from ((cl_47 hC))]; omega) wl_47_3 ?_
        refine wa_iload_n (n := 1) rfl ?_
        refine wb_iald 51 rfl (wy_pr rfl) wt_51 (n := (S 48 (-1))) ((hl.2.2.1 3 (by decide))) (by omega) (by omega) (v := (-1)) (he51) (fun r12 => ?_)
        refine wa_istore (n := 4) rfl ?_
        refine wa_iload (n := 4) rfl ?_
        refine wa_iconst ?_
        refine wa_icmpeq (w_rg0 (by omega) (by omega)) (w_rg0 (by omega) (by omega)) ⟨_, rfl⟩ (fun c13 => ?_) (fun c13 => ?_)
        · skip
          refine wa_aload_n (n := 0) rfl ?_
          refine wb_gf4 158 rfl (wy_pr rfl) wt_158 wf_5_0 (v := 72) wl_158_0 ?_
          refine wb_gf4 72 rfl (wy_pr rfl) wt_72 wf_2_2 (v := 126) wl_72_2 ?_
          refine wa_bipush (w_rg2 (by omega) (by omega)) ?_
          refine wb_aald5 126 7 rfl rfl (wy_pr rfl) wt_126 (by rw [show _ = _ from ((cl_126 hC))]; omega) wl_126_7 ?_
          refine wa_iload_n (n := 2) rfl ?_
          refine wb_iald 134 rfl (wy_pr rfl) wt_134 (n := (S 127 (-1))) ((hth 7 (by decide))) (by omega) (by omega) (v := sz) (hsz) (fun r14 => ?_)
          refine wa_bipush (w_rg2 (by omega) (by omega)) ?_
          refine wa_icmpge (w_rg0 (by omega) (by omega)) (w_rg0 (by omega) (by omega)) ⟨_, rfl⟩ (fun c15 => ?_) (fun c15 => ?_)
          · skip
            refine wa_aload_n (n := 0) rfl ?_
            refine wb_gf5 158 rfl (wy_pr rfl) wt_158 wf_5_4 (v := 215) (l4) (fun r16 => ?_)
            refine wa_bipush (w_rg2 (by omega) (by omega)) ?_
            refine wb_pfi 215 rfl (wy_pr rfl) wt_215 wf_8_16 (n := 16) rfl ⟨(by omega), (by omega)⟩ ?_
            refine wa_return rfl ?_
            show wJ _ _ _ _ _ _ _ _ _ _
            refine wa_goto ⟨_, rfl⟩ ?_
            refine wa_return rfl ?_
            show wJ _ _ _ _ _ _ _ _ _ _
            refine wa_goto ⟨_, rfl⟩ ?_
            refine wa_return rfl ?_
            exact ⟨rfl, Or.inl ⟨by omega, rfl⟩⟩
          · skip
            refine wa_aload_n (n := 0) rfl ?_
            refine wb_gf4 158 rfl (wy_pr rfl) wt_158 wf_5_0 (v := 72) wl_158_0 ?_
            refine wa_iconst ?_
            refine wa_iconst ?_
            refine wa_cv 72 rfl (wy_pr rfl) wt_72 (M2 := mS [217, 218, 141, 142]) rfl at_XH_hasRoom ⟨_, rfl⟩ rfl rfl ⟨trivial, trivial, (Or.inr ⟨wy_pr rfl, mS_no rfl⟩), trivial, trivial, trivial⟩ trivial (fun _ _ q => q) ?_ (fun _ _ _ q => q)
            refine wa_aload_n (n := 0) rfl ?_
            refine wb_gf4 72 rfl (wy_pr rfl) wt_72 wf_2_10 (v := 150) wl_72_10 ?_
            refine wa_iload_n (n := 1) rfl ?_
            refine wb_iald 150 rfl (wy_pr rfl) wt_150 (n := 6) ((cl_150 hC)) (by omega) (by omega) (v := v0) (hv0) (fun r17 => ?_)
            refine wa_iload_n (n := 2) rfl ?_
            refine wa_iadd ?_
            refine wa_gs ?_
            refine wa_iload_n (n := 1) rfl ?_
            refine wb_xald 1 rfl hx1 (by decide) (by omega) (by decide) (v := 60000) (by decide) (fun r18 => ?_)
            refine wa_icmpgt (w_rg0 (by omega) (by omega)) (w_rg0 (by omega) (by omega)) ⟨_, rfl⟩ (fun c19 => ?_) (fun c19 => ?_)
            · skip
              refine wa_iconst ?_
              refine wa_fall ⟨_, rfl⟩ ?_
              refine wa_zreturn rfl (Or.inl rfl) ?_
              show wJ _ _ _ _ _ _ _ _ _ _
              refine wa_ifne (w_rg0 (by omega) (by omega)) ⟨_, rfl⟩ (fun c20 => ?_) (fun c20 => ?_)
              · skip
                exact absurd c20 (by omega)
              · skip
                refine wa_fall ⟨_, rfl⟩ ?_
                refine wa_aload_n (n := 0) rfl ?_
                refine wb_gf5 158 rfl (wy_pr rfl) wt_158 wf_5_4 (v := 215) (l4) (fun r21 => ?_)
                refine wa_bipush (w_rg2 (by omega) (by omega)) ?_
                refine wb_pfi 215 rfl (wy_pr rfl) wt_215 wf_8_16 (n := 16) rfl ⟨(by omega), (by omega)⟩ ?_
                refine wa_return rfl ?_
                show wJ _ _ _ _ _ _ _ _ _ _
                refine wa_goto ⟨_, rfl⟩ ?_
                refine wa_return rfl ?_
                show wJ _ _ _ _ _ _ _ _ _ _
                refine wa_goto ⟨_, rfl⟩ ?_
                refine wa_return rfl ?_
                exact ⟨rfl, Or.inl ⟨by omega, rfl⟩⟩
            · skip
              refine wa_iconst ?_
              refine wa_goto ⟨_, rfl⟩ ?_
              refine wa_zreturn rfl (Or.inr rfl) ?_
              show wJ _ _ _ _ _ _ _ _ _ _
              refine wa_ifne (w_rg0 (by omega) (by omega)) ⟨_, rfl⟩ (fun c22 => ?_) (fun c22 => ?_)
              · skip
                refine wa_aload_n (n := 0) rfl ?_
                refine wb_gf4 158 rfl (wy_pr rfl) wt_158 wf_5_0 (v := 72) wl_158_0 ?_
                refine wa_iload_n (n := 2) rfl ?_
                refine wa_aload_n (n := 0) rfl ?_
                refine wb_gf5 158 rfl (wy_pr rfl) wt_158 wf_5_5 (v := 216) (l5) (fun r23 => ?_)
                refine wb_gf4 216 rfl (wy_pr rfl) wt_216 wf_7_0 (v := 217) wl_216_0 ?_
                refine wa_iload_n (n := 3) rfl ?_
                refine wb_bald 217 rfl (wy_pr rfl) wt_217 (n := (S 217 (-1))) (rfl) (by omega) (by omega) (v := ky) (hky) (fun r24 => ?_)
                refine wa_aload_n (n := 0) rfl ?_
                refine wb_gf5 158 rfl (wy_pr rfl) wt_158 wf_5_5 (v := 216) (l5) (fun r25 => ?_)
                refine wb_gf4 216 rfl (wy_pr rfl) wt_216 wf_7_1 (v := 218) wl_216_1 ?_
                refine wa_iload_n (n := 3) rfl ?_
                refine wb_lald 218 rfl (wy_pr rfl) wt_218 (n := (S 217 (-1))) (bl1) (by omega) (by omega) (v := vy) (hvy) (fun r26 => ?_)
                refine wa_cv 72 rfl (wy_pr rfl) wt_72 (M2 := mS [141, 142]) rfl at_XH_addValue ⟨_, rfl⟩ rfl rfl ⟨trivial, trivial, (Or.inr ⟨wy_pr rfl, mS_no rfl⟩), trivial, trivial, trivial⟩ trivial (fun _ _ q => mS_sub (by decide) q) (avH_ok (S := S) (k := gb) (kd := ky) (bt := vy) (st := st) (sz := sz) (rm := rm) (cs := cs) (v0 := v0) hC hI h2 hcs hl14 hz14 hth hgb hn2 hst hsz hrm hs1 hv0 hv1 (by omega) hkr hvr) (fun oq27 Sq27 hp28 q27 => ?_)
                rcases q27 with ⟨rfl, hav⟩
                show wJ _ _ _ _ _ _ _ _ _ _
                have fA : ∀ (j : Nat) (x : Int), j < 237 → j ≠ 141 → j ≠ 142 → (j < 133 ∨ 135 < j) → j ≠ 140 → j ≠ 150 → Sq27 j x = S j x := fun j x j0 j1 j2 j3 j4 j5 => hav.2.2.2.2.2.2.1 j x (by omega) (by have hg : wG = 1000000 := rfl; omega) j1 j2 (Or.inl (by omega)) (Or.inl j4) (Or.inl j5)
                refine wa_aload_n (n := 0) rfl ?_
                refine wb_gf4 158 rfl (wy_pr rfl) wt_158 wf_5_0 (v := 72) wl_158_0 ?_
                refine wb_gf4 72 rfl (wy_pr rfl) wt_72 wf_2_2 (v := 126) wl_72_2 ?_
                refine wa_iconst ?_
                refine wb_aald5 126 1 rfl rfl (wy_pr rfl) wt_126 (by rw [show _ = _ from (((hav.2.2.2.2.2.2.1 126 (-1) (by decide) (by decide) (by decide) (by decide) (Or.inl (by decide)) (by omega) (by omega)).trans ((cl_126 hC))))]; omega) wl_126_1 ?_
                refine wa_iload_n (n := 2) rfl ?_
                refine wa_aload_n (n := 0) rfl ?_
                refine wb_gf4 158 rfl (wy_pr rfl) wt_158 wf_5_3 (v := 47) wl_158_3 ?_
                refine wa_iconst ?_
                refine wb_aald5 47 4 rfl rfl (wy_pr rfl) wt_47 (by rw [show _ = _ from (((hav.2.2.2.2.2.2.1 47 (-1) (by decide) (by decide) (by decide) (by decide) (Or.inl (by decide)) (by omega) (by omega)).trans ((cl_47 hC))))]; omega) wl_47_4 ?_
                refine wa_iload_n (n := 1) rfl ?_
                refine wb_iald 52 rfl (wy_pr rfl) wt_52 (n := (S 48 (-1))) (((hav.2.2.2.2.2.2.1 52 (-1) (by decide) (by decide) (by decide) (by decide) (Or.inl (by decide)) (by omega) (by omega)).trans ((hl.2.2.1 4 (by decide))))) (by omega) (by omega) (v := r) (((hav.2.2.2.2.2.2.1 52 x (by decide) (by decide) (by decide) (by decide) (Or.inl (by decide)) (by omega) (by omega)).trans (he52))) (fun r29 => ?_)
                refine wb_iast 128 rfl (wy_pr rfl) wt_128 (n := (S 127 (-1))) (((hav.2.2.2.2.2.2.1 128 (-1) (by decide) (by decide) (by decide) (by decide) (Or.inl (by decide)) (by omega) (by omega)).trans ((hth 1 (by decide))))) (by omega) (by omega) ⟨(by omega), (by omega)⟩ ?_
                refine wa_aload_n (n := 0) rfl ?_
                refine wb_gf4 158 rfl (wy_pr rfl) wt_158 wf_5_0 (v := 72) wl_158_0 ?_
                refine wa_iload_n (n := 2) rfl ?_
                have eL : ∀ x : Nat, x < 10 → (w_up Sq27 128 gb r) (127 + x) (-1) = (w_up Sq27 128 gb r) 127 (-1) := fun x hx2 => by
                  have z1 : ∀ y : Nat, y < 10 → Sq27 (127 + y) (-1) = S (127 + y) (-1) := fun y hy => hav.2.2.2.2.2.2.1 (127 + y) (-1) (by omega) (by have hg : wG = 1000000 := rfl; omega) (by omega) (by omega) (Or.inr (by omega)) (Or.inl (by omega)) (Or.inl (by omega))
                  rw [w_up_at (by omega), w_up_at (by omega), z1 x hx2, show Sq27 127 (-1) = S 127 (-1) from z1 0 (by first | decide | omega)]
                  exact hth x hx2
                have e127 : (w_up Sq27 128 gb r) 127 (-1) = S 127 (-1) := (w_up_slot (by first | decide | omega)).trans (fA 127 (-1) (by first | decide | omega) (by first | decide | omega) (by first | decide | omega) (by first | decide | omega) (by first | decide | omega) (by first | decide | omega))
                have e130 : (w_up Sq27 128 gb r) 130 gb = ep := (w_up_slot (by first | decide | omega)).trans ((fA 130 gb (by first | decide | omega) (by first | decide | omega) (by first | decide | omega) (by first | decide | omega) (by first | decide | omega) (by first | decide | omega)).trans hep)
                have e72 : (w_up Sq27 128 gb r) 72 11 = ch := (w_up_slot (by first | decide | omega)).trans ((fA 72 11 (by first | decide | omega) (by first | decide | omega) (by first | decide | omega) (by first | decide | omega) (by first | decide | omega) (by first | decide | omega)).trans hch)
                refine wa_cv 72 rfl (wy_pr rfl) wt_72 (M2 := mS []) rfl at_XH_noteChange ⟨_, rfl⟩ rfl rfl ⟨trivial, trivial, (Or.inr ⟨wy_pr rfl, mS_no rfl⟩), trivial, trivial, trivial⟩ trivial (fun _ _ q => mS_sub (by decide) q) (wJ_mono (nc_ok (S := (w_up Sq27 128 gb r)) (k := gb) (ep := ep) (ch := ch) eL ⟨by omega, by omega⟩ (by omega) e130 hep1 e72 hch1 (w_CL_up (avH_cl hC hav hgb.1) hgb.1)) (fun o Z hz => (⟨hz.1, hz.2⟩ : o = .inl none ∧ ncZ gb r ep ch Sq27 = Z))) (fun oq30 Sq30 hp31 q30 => ?_)
                rcases q30 with ⟨rfl, rfl⟩
                show wJ _ _ _ _ _ _ _ _ _ _
                refine wa_fall ⟨_, rfl⟩ ?_
                refine wa_aload_n (n := 0) rfl ?_
                refine wa_aload_n (n := 0) rfl ?_
                refine wb_gf5 158 rfl (wy_pr rfl) wt_158 wf_5_5 (v := 216) (((ncZ_e 158 5 (by decide) (by omega)).trans (((hav.2.2.2.2.2.2.1 158 5 (by decide) (by decide) (by decide) (by decide) (Or.inl (by decide)) (by omega) (by omega)).trans (l5))))) (fun r32 => ?_)
                refine wb_gf4 216 rfl (wy_pr rfl) wt_216 wf_7_0 (v := 217) wl_216_0 ?_
                refine wa_iload_n (n := 3) rfl ?_
                refine wb_bald 217 rfl (wy_pr rfl) wt_217 (n := (S 217 (-1))) (((ncZ_e 217 (-1) (by decide) (by omega)).trans (((hav.2.2.2.2.2.2.1 217 (-1) (by decide) (by decide) (by decide) (by decide) (Or.inl (by decide)) (by omega) (by omega)).trans (rfl))))) (by omega) (by omega) (v := ky) (((ncZ_e 217 (h - 1) (by decide) (by omega)).trans (((hav.2.2.2.2.2.2.1 217 (h - 1) (by decide) (by decide) (by decide) (by decide) (Or.inl (by decide)) (by omega) (by omega)).trans (hky))))) (fun r33 => ?_)
                refine wa_aload_n (n := 0) rfl ?_
                refine wb_gf5 158 rfl (wy_pr rfl) wt_158 wf_5_5 (v := 216) (((ncZ_e 158 5 (by decide) (by omega)).trans (((hav.2.2.2.2.2.2.1 158 5 (by decide) (by decide) (by decide) (by decide) (Or.inl (by decide)) (by omega) (by omega)).trans (l5))))) (fun r34 => ?_)
                refine wb_gf4 216 rfl (wy_pr rfl) wt_216 wf_7_1 (v := 218) wl_216_1 ?_
                refine wa_iload_n (n := 3) rfl ?_
                refine wb_lald 218 rfl (wy_pr rfl) wt_218 (n := (S 217 (-1))) (((ncZ_e 218 (-1) (by decide) (by omega)).trans (((hav.2.2.2.2.2.2.1 218 (-1) (by decide) (by decide) (by decide) (by decide) (Or.inl (by decide)) (by omega) (by omega)).trans (bl1))))) (by omega) (by omega) (v := vy) (((ncZ_e 218 (h - 1) (by decide) (by omega)).trans (((hav.2.2.2.2.2.2.1 218 (h - 1) (by decide) (by decide) (by decide) (by decide) (Or.inl (by decide)) (by omega) (by omega)).trans (hvy))))) (fun r35 => ?_)
                refine wa_cv 158 rfl (wy_pr rfl) wt_158 (M2 := mS [217, 218]) rfl at_XL_giveValue ⟨_, rfl⟩ rfl rfl ⟨trivial, trivial, (Or.inr ⟨wy_pr rfl, mS_no rfl⟩), trivial, trivial, trivial⟩ trivial (fun _ _ q => mS_sub (by decide) q) (glx_215 (S := (ncZ gb r ep ch Sq27)) (k := ky) (v := vy) (h := h) (c := c) (p := p) (ba := ba) (ncZ_c (avH_cl hC hav hgb.1) hgb.1) (ncZ_g hav.2.2.2.2.2.2.2.1 hgb.1) (((ncZ_e 158 4 (by decide) (by omega)).trans (((hav.2.2.2.2.2.2.1 158 4 (by decide) (by decide) (by decide) (by decide) (Or.inl (by decide)) (by omega) (by omega)).trans (l4))))) (((ncZ_e 158 5 (by decide) (by omega)).trans (((hav.2.2.2.2.2.2.1 158 5 (by decide) (by decide) (by decide) (by decide) (Or.inl (by decide)) (by omega) (by omega)).trans (l5))))) (((ncZ_e 158 8 (by decide) (by omega)).trans (((hav.2.2.2.2.2.2.1 158 8 (by decide) (by decide) (by decide) (by decide) (Or.inl (by decide)) (by omega) (by omega)).trans (l8))))) (((ncZ_e 215 4 (by decide) (by omega)).trans (((hav.2.2.2.2.2.2.1 215 4 (by decide) (by decide) (by decide) (by decide) (Or.inl (by decide)) (by omega) (by omega)).trans (bc))))) (((ncZ_e 220 (c - 1) (by decide) (by omega)).trans (((hav.2.2.2.2.2.2.1 220 (c - 1) (by decide) (by decide) (by decide) (by decide) (Or.inl (by decide)) (by omega) (by omega)).trans (bp))))) (by rw [show _ = _ from (((ncZ_e 218 (-1) (by decide) (by omega)).trans (((hav.2.2.2.2.2.2.1 218 (-1) (by decide) (by decide) (by decide) (by decide) (Or.inl (by decide)) (by omega) (by omega)).trans (bl1))))), show _ = _ from (((ncZ_e 217 (-1) (by decide) (by omega)).trans (((hav.2.2.2.2.2.2.1 217 (-1) (by decide) (by decide) (by decide) (by decide) (Or.inl (by decide)) (by omega) (by omega)).trans (rfl)))))]) (by rw [show _ = _ from (((ncZ_e 217 (-1) (by decide) (by omega)).trans (((hav.2.2.2.2.2.2.1 217 (-1) (by decide) (by decide) (by decide) (by decide) (Or.inl (by decide)) (by omega) (by omega)).trans (rfl)))))]; exact ⟨bl2, bl3⟩) (by rw [show _ = _ from (((ncZ_e 217 (-1) (by decide) (by omega)).trans (((hav.2.2.2.2.2.2.1 217 (-1) (by decide) (by decide) (by decide) (by decide) (Or.inl (by decide)) (by omega) (by omega)).trans (rfl)))))]; omega) ⟨by omega, by omega⟩ ⟨by omega, by omega⟩ ⟨by omega, by omega⟩ ⟨by omega, by omega⟩) (fun oq36 Sq36 hp37 q36 => ?_)
                rcases q36 with ⟨rfl, hgv36⟩
                show wJ _ _ _ _ _ _ _ _ _ _
                refine wa_return rfl ?_
                show wJ _ _ _ _ _ _ _ _ _ _
                refine wa_goto ⟨_, rfl⟩ ?_
                refine wa_return rfl ?_
                show wJ _ _ _ _ _ _ _ _ _ _
                refine wa_goto ⟨_, rfl⟩ ?_
                refine wa_return rfl ?_
                exact ⟨rfl, Or.inr ⟨by omega, by omega, Sq27, hav, hgv36⟩⟩
              · skip
                exact absurd c22 (by omega)
        · skip
          exact absurd c13 (by omega)
      · skip
        refine wa_aload_n (n := 0) rfl ?_
        refine wb_gfi 158 rfl (wy_pr rfl) wt_158 wf_5_7 (v := kd) (l7) (fun r38 => ?_)
        refine wa_iconst ?_
        refine wa_icmpne (w_rg0 (by omega) (by omega)) (w_rg0 (by omega) (by omega)) ⟨_, rfl⟩ (fun c39 => ?_) (fun c39 => ?_)
        · skip
          exact absurd c39 (by omega)
        · skip
          refine wa_fall ⟨_, rfl⟩ ?_
          refine wa_aload_n (n := 0) rfl ?_
          refine wa_iload_n (n := 1) rfl ?_
          refine wa_iload_n (n := 2) rfl ?_
          refine wa_cv 158 rfl (wy_pr rfl) wt_158 (M2 := mS [217, 218, 141, 142]) rfl at_XL_setProperty ⟨_, rfl⟩ rfl rfl ⟨(Or.inr ⟨wy_pr rfl, mS_no rfl⟩), trivial, trivial, trivial⟩ trivial (fun _ _ q => q) ?_ (fun _ _ _ q => q)
          refine wa_aload_n (n := 0) rfl ?_
          refine wb_gf5 158 rfl (wy_pr rfl) wt_158 wf_5_5 (v := 216) (l5) (fun r40 => ?_)
          refine wb_gfi 216 rfl (wy_pr rfl) wt_216 wf_7_2 (v := h) (bh) (fun r41 => ?_)
          refine wa_iconst ?_
          refine wa_isub ?_
          refine wa_istore_n (n := 3) rfl ?_
          refine wa_aload_n (n := 0) rfl ?_
          refine wb_gf4 158 rfl (wy_pr rfl) wt_158 wf_5_3 (v := 47) wl_158_3 ?_
          refine wa_iconst ?_
          refine wb_aald5 47 3 rfl rfl (wy_pr rfl) wt_47 (by rw [show _ = _ from ((cl_47 hC))]; omega) wl_47_3 ?_
          refine wa_iload_n (n := 1) rfl ?_
          refine wb_iald 51 rfl (wy_pr rfl) wt_51 (n := (S 48 (-1))) ((hl.2.2.1 3 (by decide))) (by omega) (by omega) (v := (-1)) (he51) (fun r42 => ?_)
          refine wa_istore (n := 4) rfl ?_
          refine wa_iload (n := 4) rfl ?_
          refine wa_iconst ?_
          refine wa_icmpeq (w_rg0 (by omega) (by omega)) (w_rg0 (by omega) (by omega)) ⟨_, rfl⟩ (fun c43 => ?_) (fun c43 => ?_)
          · skip
            refine wa_aload_n (n := 0) rfl ?_
            refine wb_gf4 158 rfl (wy_pr rfl) wt_158 wf_5_0 (v := 72) wl_158_0 ?_
            refine wb_gf4 72 rfl (wy_pr rfl) wt_72 wf_2_2 (v := 126) wl_72_2 ?_
            refine wa_bipush (w_rg2 (by omega) (by omega)) ?_
            refine wb_aald5 126 7 rfl rfl (wy_pr rfl) wt_126 (by rw [show _ = _ from ((cl_126 hC))]; omega) wl_126_7 ?_
            refine wa_iload_n (n := 2) rfl ?_
            refine wb_iald 134 rfl (wy_pr rfl) wt_134 (n := (S 127 (-1))) ((hth 7 (by decide))) (by omega) (by omega) (v := sz) (hsz) (fun r44 => ?_)
            refine wa_bipush (w_rg2 (by omega) (by omega)) ?_
            refine wa_icmpge (w_rg0 (by omega) (by omega)) (w_rg0 (by omega) (by omega)) ⟨_, rfl⟩ (fun c45 => ?_) (fun c45 => ?_)
            · skip
              refine wa_aload_n (n := 0) rfl ?_
              refine wb_gf5 158 rfl (wy_pr rfl) wt_158 wf_5_4 (v := 215) (l4) (fun r46 => ?_)
              refine wa_bipush (w_rg2 (by omega) (by omega)) ?_
              refine wb_pfi 215 rfl (wy_pr rfl) wt_215 wf_8_16 (n := 16) rfl ⟨(by omega), (by omega)⟩ ?_
              refine wa_return rfl ?_
              show wJ _ _ _ _ _ _ _ _ _ _
              refine wa_goto ⟨_, rfl⟩ ?_
              refine wa_return rfl ?_
              show wJ _ _ _ _ _ _ _ _ _ _
              refine wa_goto ⟨_, rfl⟩ ?_
              refine wa_return rfl ?_
              exact ⟨rfl, Or.inl ⟨by omega, rfl⟩⟩
            · skip
              refine wa_aload_n (n := 0) rfl ?_
              refine wb_gf4 158 rfl (wy_pr rfl) wt_158 wf_5_0 (v := 72) wl_158_0 ?_
              refine wa_iconst ?_
              refine wa_iconst ?_
              refine wa_cv 72 rfl (wy_pr rfl) wt_72 (M2 := mS [217, 218, 141, 142]) rfl at_XH_hasRoom ⟨_, rfl⟩ rfl rfl ⟨trivial, trivial, (Or.inr ⟨wy_pr rfl, mS_no rfl⟩), trivial, trivial, trivial⟩ trivial (fun _ _ q => q) ?_ (fun _ _ _ q => q)
              refine wa_aload_n (n := 0) rfl ?_
              refine wb_gf4 72 rfl (wy_pr rfl) wt_72 wf_2_10 (v := 150) wl_72_10 ?_
              refine wa_iload_n (n := 1) rfl ?_
              refine wb_iald 150 rfl (wy_pr rfl) wt_150 (n := 6) ((cl_150 hC)) (by omega) (by omega) (v := v0) (hv0) (fun r47 => ?_)
              refine wa_iload_n (n := 2) rfl ?_
              refine wa_iadd ?_
              refine wa_gs ?_
              refine wa_iload_n (n := 1) rfl ?_
              refine wb_xald 1 rfl hx1 (by decide) (by omega) (by decide) (v := 60000) (by decide) (fun r48 => ?_)
              refine wa_icmpgt (w_rg0 (by omega) (by omega)) (w_rg0 (by omega) (by omega)) ⟨_, rfl⟩ (fun c49 => ?_) (fun c49 => ?_)
              · skip
                refine wa_iconst ?_
                refine wa_fall ⟨_, rfl⟩ ?_
                refine wa_zreturn rfl (Or.inl rfl) ?_
                show wJ _ _ _ _ _ _ _ _ _ _
                refine wa_ifne (w_rg0 (by omega) (by omega)) ⟨_, rfl⟩ (fun c50 => ?_) (fun c50 => ?_)
                · skip
                  exact absurd c50 (by omega)
                · skip
                  refine wa_fall ⟨_, rfl⟩ ?_
                  refine wa_aload_n (n := 0) rfl ?_
                  refine wb_gf5 158 rfl (wy_pr rfl) wt_158 wf_5_4 (v := 215) (l4) (fun r51 => ?_)
                  refine wa_bipush (w_rg2 (by omega) (by omega)) ?_
                  refine wb_pfi 215 rfl (wy_pr rfl) wt_215 wf_8_16 (n := 16) rfl ⟨(by omega), (by omega)⟩ ?_
                  refine wa_return rfl ?_
                  show wJ _ _ _ _ _ _ _ _ _ _
                  refine wa_goto ⟨_, rfl⟩ ?_
                  refine wa_return rfl ?_
                  show wJ _ _ _ _ _ _ _ _ _ _
                  refine wa_goto ⟨_, rfl⟩ ?_
                  refine wa_return rfl ?_
                  exact ⟨rfl, Or.inl ⟨by omega, rfl⟩⟩
              · skip
                refine wa_iconst ?_
                refine wa_goto ⟨_, rfl⟩ ?_
                refine wa_zreturn rfl (Or.inr rfl) ?_
                show wJ _ _ _ _ _ _ _ _ _ _
                refine wa_ifne (w_rg0 (by omega) (by omega)) ⟨_, rfl⟩ (fun c52 => ?_) (fun c52 => ?_)
                · skip
                  refine wa_aload_n (n := 0) rfl ?_
                  refine wb_gf4 158 rfl (wy_pr rfl) wt_158 wf_5_0 (v := 72) wl_158_0 ?_
                  refine wa_iload_n (n := 2) rfl ?_
                  refine wa_aload_n (n := 0) rfl ?_
                  refine wb_gf5 158 rfl (wy_pr rfl) wt_158 wf_5_5 (v := 216) (l5) (fun r53 => ?_)
                  refine wb_gf4 216 rfl (wy_pr rfl) wt_216 wf_7_0 (v := 217) wl_216_0 ?_
                  refine wa_iload_n (n := 3) rfl ?_
                  refine wb_bald 217 rfl (wy_pr rfl) wt_217 (n := (S 217 (-1))) (rfl) (by omega) (by omega) (v := ky) (hky) (fun r54 => ?_)
                  refine wa_aload_n (n := 0) rfl ?_
                  refine wb_gf5 158 rfl (wy_pr rfl) wt_158 wf_5_5 (v := 216) (l5) (fun r55 => ?_)
                  refine wb_gf4 216 rfl (wy_pr rfl) wt_216 wf_7_1 (v := 218) wl_216_1 ?_
                  refine wa_iload_n (n := 3) rfl ?_
                  refine wb_lald 218 rfl (wy_pr rfl) wt_218 (n := (S 217 (-1))) (bl1) (by omega) (by omega) (v := vy) (hvy) (fun r56 => ?_)
                  refine wa_cv 72 rfl (wy_pr rfl) wt_72 (M2 := mS [141, 142]) rfl at_XH_addValue ⟨_, rfl⟩ rfl rfl ⟨trivial, trivial, (Or.inr ⟨wy_pr rfl, mS_no rfl⟩), trivial, trivial, trivial⟩ trivial (fun _ _ q => mS_sub (by decide) q) (avH_ok (S := S) (k := gb) (kd := ky) (bt := vy) (st := st) (sz := sz) (rm := rm) (cs := cs) (v0 := v0) hC hI h2 hcs hl14 hz14 hth hgb hn2 hst hsz hrm hs1 hv0 hv1 (by omega) hkr hvr) (fun oq57 Sq57 hp58 q57 => ?_)
                  rcases q57 with ⟨rfl, hav⟩
                  show wJ _ _ _ _ _ _ _ _ _ _
                  have fA : ∀ (j : Nat) (x : Int), j < 237 → j ≠ 141 → j ≠ 142 → (j < 133 ∨ 135 < j) → j ≠ 140 → j ≠ 150 → Sq57 j x = S j x := fun j x j0 j1 j2 j3 j4 j5 => hav.2.2.2.2.2.2.1 j x (by omega) (by have hg : wG = 1000000 := rfl; omega) j1 j2 (Or.inl (by omega)) (Or.inl j4) (Or.inl j5)
                  refine wa_aload_n (n := 0) rfl ?_
                  refine wb_gf4 158 rfl (wy_pr rfl) wt_158 wf_5_0 (v := 72) wl_158_0 ?_
                  refine wb_gf4 72 rfl (wy_pr rfl) wt_72 wf_2_2 (v := 126) wl_72_2 ?_
                  refine wa_iconst ?_
                  refine wb_aald5 126 1 rfl rfl (wy_pr rfl) wt_126 (by rw [show _ = _ from (((hav.2.2.2.2.2.2.1 126 (-1) (by decide) (by decide) (by decide) (by decide) (Or.inl (by decide)) (by omega) (by omega)).trans ((cl_126 hC))))]; omega) wl_126_1 ?_
                  refine wa_iload_n (n := 2) rfl ?_
                  refine wa_aload_n (n := 0) rfl ?_
                  refine wb_gf4 158 rfl (wy_pr rfl) wt_158 wf_5_3 (v := 47) wl_158_3 ?_
                  refine wa_iconst ?_
                  refine wb_aald5 47 4 rfl rfl (wy_pr rfl) wt_47 (by rw [show _ = _ from (((hav.2.2.2.2.2.2.1 47 (-1) (by decide) (by decide) (by decide) (by decide) (Or.inl (by decide)) (by omega) (by omega)).trans ((cl_47 hC))))]; omega) wl_47_4 ?_
                  refine wa_iload_n (n := 1) rfl ?_
                  refine wb_iald 52 rfl (wy_pr rfl) wt_52 (n := (S 48 (-1))) (((hav.2.2.2.2.2.2.1 52 (-1) (by decide) (by decide) (by decide) (by decide) (Or.inl (by decide)) (by omega) (by omega)).trans ((hl.2.2.1 4 (by decide))))) (by omega) (by omega) (v := r) (((hav.2.2.2.2.2.2.1 52 x (by decide) (by decide) (by decide) (by decide) (Or.inl (by decide)) (by omega) (by omega)).trans (he52))) (fun r59 => ?_)
                  refine wb_iast 128 rfl (wy_pr rfl) wt_128 (n := (S 127 (-1))) (((hav.2.2.2.2.2.2.1 128 (-1) (by decide) (by decide) (by decide) (by decide) (Or.inl (by decide)) (by omega) (by omega)).trans ((hth 1 (by decide))))) (by omega) (by omega) ⟨(by omega), (by omega)⟩ ?_
                  refine wa_aload_n (n := 0) rfl ?_
                  refine wb_gf4 158 rfl (wy_pr rfl) wt_158 wf_5_0 (v := 72) wl_158_0 ?_
                  refine wa_iload_n (n := 2) rfl ?_
                  have eL : ∀ x : Nat, x < 10 → (w_up Sq57 128 gb r) (127 + x) (-1) = (w_up Sq57 128 gb r) 127 (-1) := fun x hx2 => by
                    have z1 : ∀ y : Nat, y < 10 → Sq57 (127 + y) (-1) = S (127 + y) (-1) := fun y hy => hav.2.2.2.2.2.2.1 (127 + y) (-1) (by omega) (by have hg : wG = 1000000 := rfl; omega) (by omega) (by omega) (Or.inr (by omega)) (Or.inl (by omega)) (Or.inl (by omega))
                    rw [w_up_at (by omega), w_up_at (by omega), z1 x hx2, show Sq57 127 (-1) = S 127 (-1) from z1 0 (by first | decide | omega)]
                    exact hth x hx2
                  have e127 : (w_up Sq57 128 gb r) 127 (-1) = S 127 (-1) := (w_up_slot (by first | decide | omega)).trans (fA 127 (-1) (by first | decide | omega) (by first | decide | omega) (by first | decide | omega) (by first | decide | omega) (by first | decide | omega) (by first | decide | omega))
                  have e130 : (w_up Sq57 128 gb r) 130 gb = ep := (w_up_slot (by first | decide | omega)).trans ((fA 130 gb (by first | decide | omega) (by first | decide | omega) (by first | decide | omega) (by first | decide | omega) (by first | decide | omega) (by first | decide | omega)).trans hep)
                  have e72 : (w_up Sq57 128 gb r) 72 11 = ch := (w_up_slot (by first | decide | omega)).trans ((fA 72 11 (by first | decide | omega) (by first | decide | omega) (by first | decide | omega) (by first | decide | omega) (by first | decide | omega) (by first | decide | omega)).trans hch)
                  refine wa_cv 72 rfl (wy_pr rfl) wt_72 (M2 := mS []) rfl at_XH_noteChange ⟨_, rfl⟩ rfl rfl ⟨trivial, trivial, (Or.inr ⟨wy_pr rfl, mS_no rfl⟩), trivial, trivial, trivial⟩ trivial (fun _ _ q => mS_sub (by decide) q) (wJ_mono (nc_ok (S := (w_up Sq57 128 gb r)) (k := gb) (ep := ep) (ch := ch) eL ⟨by omega, by omega⟩ (by omega) e130 hep1 e72 hch1 (w_CL_up (avH_cl hC hav hgb.1) hgb.1)) (fun o Z hz => (⟨hz.1, hz.2⟩ : o = .inl none ∧ ncZ gb r ep ch Sq57 = Z))) (fun oq60 Sq60 hp61 q60 => ?_)
                  rcases q60 with ⟨rfl, rfl⟩
                  show wJ _ _ _ _ _ _ _ _ _ _
                  refine wa_fall ⟨_, rfl⟩ ?_
                  refine wa_aload_n (n := 0) rfl ?_
                  refine wa_aload_n (n := 0) rfl ?_
                  refine wb_gf5 158 rfl (wy_pr rfl) wt_158 wf_5_5 (v := 216) (((ncZ_e 158 5 (by decide) (by omega)).trans (((hav.2.2.2.2.2.2.1 158 5 (by decide) (by decide) (by decide) (by decide) (Or.inl (by decide)) (by omega) (by omega)).trans (l5))))) (fun r62 => ?_)
                  refine wb_gf4 216 rfl (wy_pr rfl) wt_216 wf_7_0 (v := 217) wl_216_0 ?_
                  refine wa_iload_n (n := 3) rfl ?_
                  refine wb_bald 217 rfl (wy_pr rfl) wt_217 (n := (S 217 (-1))) (((ncZ_e 217 (-1) (by decide) (by omega)).trans (((hav.2.2.2.2.2.2.1 217 (-1) (by decide) (by decide) (by decide) (by decide) (Or.inl (by decide)) (by omega) (by omega)).trans (rfl))))) (by omega) (by omega) (v := ky) (((ncZ_e 217 (h - 1) (by decide) (by omega)).trans (((hav.2.2.2.2.2.2.1 217 (h - 1) (by decide) (by decide) (by decide) (by decide) (Or.inl (by decide)) (by omega) (by omega)).trans (hky))))) (fun r63 => ?_)
                  refine wa_aload_n (n := 0) rfl ?_
                  refine wb_gf5 158 rfl (wy_pr rfl) wt_158 wf_5_5 (v := 216) (((ncZ_e 158 5 (by decide) (by omega)).trans (((hav.2.2.2.2.2.2.1 158 5 (by decide) (by decide) (by decide) (by decide) (Or.inl (by decide)) (by omega) (by omega)).trans (l5))))) (fun r64 => ?_)
                  refine wb_gf4 216 rfl (wy_pr rfl) wt_216 wf_7_1 (v := 218) wl_216_1 ?_
                  refine wa_iload_n (n := 3) rfl ?_
                  refine wb_lald 218 rfl (wy_pr rfl) wt_218 (n := (S 217 (-1))) (((ncZ_e 218 (-1) (by decide) (by omega)).trans (((hav.2.2.2.2.2.2.1 218 (-1) (by decide) (by decide) (by decide) (by decide) (Or.inl (by decide)) (by omega) (by omega)).trans (bl1))))) (by omega) (by omega) (v := vy) (((ncZ_e 218 (h - 1) (by decide) (by omega)).trans (((hav.2.2.2.2.2.2.1 218 (h - 1) (by decide) (by decide) (by decide) (by decide) (Or.inl (by decide)) (by omega) (by omega)).trans (hvy))))) (fun r65 => ?_)
                  refine wa_cv 158 rfl (wy_pr rfl) wt_158 (M2 := mS [217, 218]) rfl at_XL_giveValue ⟨_, rfl⟩ rfl rfl ⟨trivial, trivial, (Or.inr ⟨wy_pr rfl, mS_no rfl⟩), trivial, trivial, trivial⟩ trivial (fun _ _ q => mS_sub (by decide) q) (glx_215 (S := (ncZ gb r ep ch Sq57)) (k := ky) (v := vy) (h := h) (c := c) (p := p) (ba := ba) (ncZ_c (avH_cl hC hav hgb.1) hgb.1) (ncZ_g hav.2.2.2.2.2.2.2.1 hgb.1) (((ncZ_e 158 4 (by decide) (by omega)).trans (((hav.2.2.2.2.2.2.1 158 4 (by decide) (by decide) (by decide) (by decide) (Or.inl (by decide)) (by omega) (by omega)).trans (l4))))) (((ncZ_e 158 5 (by decide) (by omega)).trans (((hav.2.2.2.2.2.2.1 158 5 (by decide) (by decide) (by decide) (by decide) (Or.inl (by decide)) (by omega) (by omega)).trans (l5))))) (((ncZ_e 158 8 (by decide) (by omega)).trans (((hav.2.2.2.2.2.2.1 158 8 (by decide) (by decide) (by decide) (by decide) (Or.inl (by decide)) (by omega) (by omega)).trans (l8))))) (((ncZ_e 215 4 (by decide) (by omega)).trans (((hav.2.2.2.2.2.2.1 215 4 (by decide) (by decide) (by decide) (by decide) (Or.inl (by decide)) (by omega) (by omega)).trans (bc))))) (((ncZ_e 220 (c - 1) (by decide) (by omega)).trans (((hav.2.2.2.2.2.2.1 220 (c - 1) (by decide) (by decide) (by decide) (by decide) (Or.inl (by decide)) (by omega) (by omega)).trans (bp))))) (by rw [show _ = _ from (((ncZ_e 218 (-1) (by decide) (by omega)).trans (((hav.2.2.2.2.2.2.1 218 (-1) (by decide) (by decide) (by decide) (by decide) (Or.inl (by decide)) (by omega) (by omega)).trans (bl1))))), show _ = _ from (((ncZ_e 217 (-1) (by decide) (by omega)).trans (((hav.2.2.2.2.2.2.1 217 (-1) (by decide) (by decide) (by decide) (by decide) (Or.inl (by decide)) (by omega) (by omega)).trans (rfl)))))]) (by rw [show _ = _ from (((ncZ_e 217 (-1) (by decide) (by omega)).trans (((hav.2.2.2.2.2.2.1 217 (-1) (by decide) (by decide) (by decide) (by decide) (Or.inl (by decide)) (by omega) (by omega)).trans (rfl)))))]; exact ⟨bl2, bl3⟩) (by rw [show _ = _ from (((ncZ_e 217 (-1) (by decide) (by omega)).trans (((hav.2.2.2.2.2.2.1 217 (-1) (by decide) (by decide) (by decide) (by decide) (Or.inl (by decide)) (by omega) (by omega)).trans (rfl)))))]; omega) ⟨by omega, by omega⟩ ⟨by omega, by omega⟩ ⟨by omega, by omega⟩ ⟨by omega, by omega⟩) (fun oq66 Sq66 hp67 q66 => ?_)
                  rcases q66 with ⟨rfl, hgv66⟩
                  show wJ _ _ _ _ _ _ _ _ _ _
                  refine wa_return rfl ?_
                  show wJ _ _ _ _ _ _ _ _ _ _
                  refine wa_goto ⟨_, rfl⟩ ?_
                  refine wa_return rfl ?_
                  show wJ _ _ _ _ _ _ _ _ _ _
                  refine wa_goto ⟨_, rfl⟩ ?_
                  refine wa_return rfl ?_
                  exact ⟨rfl, Or.inr ⟨by omega, by omega, Sq57, hav, hgv66⟩⟩
                · skip
                  exact absurd c52 (by omega)
          · skip
            exact absurd c43 (by omega)
    · skip
      exact absurd c7 (by omega)
  · skip
    exact absurd c4 (by omega)
set_option maxHeartbeats 4000000 in
theorem xset_226 {c p h kd ba gk gb x ky vy st wh : Int} (hP : xP 226 c p h S) (hl : cSl S) (l4 : S 158 4 = 226) (l5 : S 158 5 = 227) (l7 : S 158 7 = kd) (l8 : S 158 8 = ba) (l9 : S 158 9 = gk) (l10 : S 158 10 = gb) (hx : 0 ≤ x ∧ x < S 48 (-1)) (hba : 0 ≤ ba ∧ ba < h) (hth : ∀ x : Nat, x < 10 → S (127 + x) (-1) = S 127 (-1)) (hn2 : S 127 (-1) ≤ 16383) (hl14 : S 142 (-1) = S 141 (-1)) (hz14 : 16 ≤ S 141 (-1) ∧ S 141 (-1) ≤ 480400) (e48 : S 48 x = 0) (hky : S 228 (h - 1) = ky) (hvy : S 229 (h - 1) = vy) (hkr : -128 ≤ ky ∧ ky ≤ 127) (hvr : -9223372036854775808 ≤ vy ∧ vy ≤ 9223372036854775807) (hkd : kd = 1 ∨ kd = 3) (he51 : S 51 x = wh) (hgb : 0 ≤ gb ∧ gb < S 127 (-1)) (hst : S 133 gb = st) (hwh : 0 ≤ wh ∧ wh ≤ 100000 ∧ 0 ≤ st ∧ st + wh < S 141 (-1)) : wJ (pe_GA xs) wY0 (mS [228, 229]) (d + 8) t_XL_act ((pe_at t_XL_act.bl 0).getD (0, [])).2 [(0, (2, 158)), (1, (0, x))] [] S (fun o Z => o = .inl none ∧ sO 226 h c p (h - ba) ky vy (w_up (w_up S 141 (st + wh) ky) 142 (st + wh) vy) Z) := by
  obtain ⟨⟨hC, hI⟩, ⟨bc, bc0, bc1⟩, ⟨bp, bp0, bp1⟩, ⟨bh, bh0, bh1, bh2⟩, bl1, bl2, bl3⟩ := hP
  replace bp : S 231 (c - 1) = p := bp
  replace bh : S 227 2 = h := bh
  replace bh2 : h ≤ S 228 (-1) := bh2
  replace bl1 : S 229 (-1) = S 228 (-1) := bl1
  replace bl2 : 64 ≤ S 228 (-1) := bl2
  replace bl3 : S 228 (-1) ≤ 4095 := bl3
  have h35 := hl.2.1
  have h48 := hl.2.2.2
  refine wa_aload_n (n := 0) rfl ?_
  refine wb_gf4 158 rfl (wy_pr rfl) wt_158 wf_5_3 (v := 47) wl_158_3 ?_
  refine wa_iconst ?_
  refine wb_aald5 47 3 rfl rfl (wy_pr rfl) wt_47 (by rw [show _ = _ from ((cl_47 hC))]; omega) wl_47_3 ?_
  refine wa_iload_n (n := 1) rfl ?_
  refine wb_iald 51 rfl (wy_pr rfl) wt_51 (n := (S 48 (-1))) ((hl.2.2.1 3 (by decide))) (by omega) (by omega) (v := wh) (he51) (fun r1 => ?_)
  refine wa_istore_n (n := 2) rfl ?_
  refine wa_aload_n (n := 0) rfl ?_
  refine wb_gf4 158 rfl (wy_pr rfl) wt_158 wf_5_3 (v := 47) wl_158_3 ?_
  refine wa_iconst ?_
  refine wb_aald5 47 0 rfl rfl (wy_pr rfl) wt_47 (by rw [show _ = _ from ((cl_47 hC))]; omega) wl_47_0 ?_
  refine wa_iload_n (n := 1) rfl ?_
  refine wb_iald 48 rfl (wy_pr rfl) wt_48 (n := (S 48 (-1))) (rfl) (by omega) (by omega) (v := 0) (e48) (fun r2 => ?_)
  refine wa_lw (tb := 0) (w_rg0 (by omega) (by omega)) (q := (27, 1)) (by first | rfl | decide) ⟨_, rfl⟩ ?_
  refine wa_aload_n (n := 0) rfl ?_
  refine wb_gfi 158 rfl (wy_pr rfl) wt_158 wf_5_7 (v := kd) (l7) (fun r3 => ?_)
  refine wa_bipush (w_rg2 (by omega) (by omega)) ?_
  refine wa_icmpne (w_rg0 (by omega) (by omega)) (w_rg0 (by omega) (by omega)) ⟨_, rfl⟩ (fun c4 => ?_) (fun c4 => ?_)
  · skip
    refine wa_aload_n (n := 0) rfl ?_
    refine wa_iload_n (n := 1) rfl ?_
    refine wa_aload_n (n := 0) rfl ?_
    refine wb_gfl 158 rfl (wy_pr rfl) wt_158 wf_5_10 (v := gb) (l10) (fun r5 => ?_)
    refine wb_l2i_r (wb_l2i_id ⟨(by omega), (by omega)⟩) ?_
    refine wa_cv 158 rfl (wy_pr rfl) wt_158 (M2 := mS [228, 229]) rfl at_XL_actOnThing ⟨_, rfl⟩ rfl rfl ⟨trivial, (Or.inr ⟨wy_pr rfl, mS_no rfl⟩), trivial, trivial⟩ trivial (fun _ _ q => q) ?_ (fun _ _ _ q => q)
    refine wa_aload_n (n := 0) rfl ?_
    refine wb_gfi 158 rfl (wy_pr rfl) wt_158 wf_5_7 (v := kd) (l7) (fun r6 => ?_)
    refine wa_iconst ?_
    refine wa_icmpne (w_rg0 (by omega) (by omega)) (w_rg0 (by omega) (by omega)) ⟨_, rfl⟩ (fun c7 => ?_) (fun c7 => ?_)
    · skip
      refine wa_aload_n (n := 0) rfl ?_
      refine wb_gfi 158 rfl (wy_pr rfl) wt_158 wf_5_7 (v := kd) (l7) (fun r8 => ?_)
      refine wa_iconst ?_
      refine wa_icmpeq (w_rg0 (by omega) (by omega)) (w_rg0 (by omega) (by omega)) ⟨_, rfl⟩ (fun c9 => ?_) (fun c9 => ?_)
      · skip
        refine wa_aload_n (n := 0) rfl ?_
        refine wa_iload_n (n := 1) rfl ?_
        refine wa_iload_n (n := 2) rfl ?_
        refine wa_cv 158 rfl (wy_pr rfl) wt_158 (M2 := mS [228, 229]) rfl at_XL_setProperty ⟨_, rfl⟩ rfl rfl ⟨(Or.inr ⟨wy_pr rfl, mS_no rfl⟩), trivial, trivial, trivial⟩ trivial (fun _ _ q => q) ?_ (fun _ _ _ q => q)
        refine wa_aload_n (n := 0) rfl ?_
        refine wb_gf5 158 rfl (wy_pr rfl) wt_158 wf_5_5 (v := 227) (l5) (fun r10 => ?_)
        refine wb_gfi 227 rfl (wy_pr rfl) wt_227 wf_7_2 (v := h) (bh) (fun r11 => ?_)
        refine wa_iconst ?_
        refine wa_isub ?_
        refine wa_istore_n (n := 3) rfl ?_
        refine wa_aload_n (n := 0) rfl ?_
        refine wb_gf4 158 rfl (wy_pr rfl) wt_158 wf_5_3 (v := 47) wl_158_3 ?_
        refine wa_iconst ?_
        refine wb_aald5 47 3 rfl rfl (wy_pr rfl) wt_47 (by rw [show _ = _ from ((cl_47 hC))]; omega) wl_47_3 ?_
        refine wa_iload_n (n := 1) rfl ?_
        refine wb_iald 51 rfl (wy_pr rfl) wt_51 (n := (S 48 (-1))) ((hl.2.2.1 3 (by decide))) (by omega) (by omega) (v := wh) (he51) (fun r12 => ?_)
        refine wa_istore (n := 4) rfl ?_
        refine wa_iload (n := 4) rfl ?_
        refine wa_iconst ?_
        refine wa_icmpeq (w_rg0 (by omega) (by omega)) (w_rg0 (by omega) (by omega)) ⟨_, rfl⟩ (fun c13 => ?_) (fun c13 => ?_)
        · skip
          exact absurd c13 (by omega)
        · skip
          refine wa_aload_n (n := 0) rfl ?_
          refine wb_gf4 158 rfl (wy_pr rfl) wt_158 wf_5_0 (v := 72) wl_158_0 ?_
          refine wb_gf4 72 rfl (wy_pr rfl) wt_72 wf_2_6 (v := 140) wl_72_6 ?_
          refine wa_aload_n (n := 0) rfl ?_
          refine wb_gf4 158 rfl (wy_pr rfl) wt_158 wf_5_0 (v := 72) wl_158_0 ?_
          refine wb_gf4 72 rfl (wy_pr rfl) wt_72 wf_2_2 (v := 126) wl_72_2 ?_
          refine wa_bipush (w_rg2 (by omega) (by omega)) ?_
          refine wb_aald5 126 6 rfl rfl (wy_pr rfl) wt_126 (by rw [show _ = _ from ((cl_126 hC))]; omega) wl_126_6 ?_
          refine wa_iload_n (n := 2) rfl ?_
          refine wb_iald 133 rfl (wy_pr rfl) wt_133 (n := (S 127 (-1))) ((hth 6 (by decide))) (by omega) (by omega) (v := st) (hst) (fun r14 => ?_)
          refine wa_iload (n := 4) rfl ?_
          refine wa_iadd ?_
          refine wa_aload_n (n := 0) rfl ?_
          refine wb_gf5 158 rfl (wy_pr rfl) wt_158 wf_5_5 (v := 227) (l5) (fun r15 => ?_)
          refine wb_gf4 227 rfl (wy_pr rfl) wt_227 wf_7_0 (v := 228) wl_227_0 ?_
          refine wa_iload_n (n := 3) rfl ?_
          refine wb_bald 228 rfl (wy_pr rfl) wt_228 (n := (S 228 (-1))) (rfl) (by omega) (by omega) (v := ky) (hky) (fun r16 => ?_)
          refine wa_aload_n (n := 0) rfl ?_
          refine wb_gf5 158 rfl (wy_pr rfl) wt_158 wf_5_5 (v := 227) (l5) (fun r17 => ?_)
          refine wb_gf4 227 rfl (wy_pr rfl) wt_227 wf_7_1 (v := 229) wl_227_1 ?_
          refine wa_iload_n (n := 3) rfl ?_
          refine wb_lald 229 rfl (wy_pr rfl) wt_229 (n := (S 228 (-1))) (bl1) (by omega) (by omega) (v := vy) (hvy) (fun r18 => ?_)
          refine wa_cv 140 rfl (wy_pr rfl) wt_140 (M2 := mS [228, 229]) rfl at_XV_put ⟨_, rfl⟩ rfl rfl ⟨trivial, trivial, (Or.inr ⟨wy_pr rfl, mS_no rfl⟩), trivial, trivial, trivial⟩ trivial (fun _ _ q => q) ?_ (fun _ _ _ q => q)
          refine wa_aload_n (n := 0) rfl ?_
          refine wb_gf4 140 rfl (wy_pr rfl) wt_140 wf_7_0 (v := 141) wl_140_0 ?_
          refine wa_iload_n (n := 1) rfl ?_
          refine wa_iload_n (n := 2) rfl ?_
          refine wb_i2b_r (wb_i2b_id ⟨(by omega), (by omega)⟩) ?_
          refine wb_bast 141 rfl (wy_pr rfl) wt_141 (n := (S 141 (-1))) (rfl) (by omega) (by omega) ⟨(by omega), (by omega)⟩ ?_
          refine wa_aload_n (n := 0) rfl ?_
          refine wb_gf4 140 rfl (wy_pr rfl) wt_140 wf_7_1 (v := 142) wl_140_1 ?_
          refine wa_iload_n (n := 1) rfl ?_
          refine wa_lload_n (n := 3) rfl ?_
          refine wb_last 142 rfl (wy_pr rfl) wt_142 (n := (S 141 (-1))) ((w_up_slot (by decide)).trans (hl14)) (by omega) (by omega) ⟨(by omega), (by omega)⟩ ?_
          refine wa_return rfl ?_
          show wJ _ _ _ _ _ _ _ _ _ _
          refine wa_goto ⟨_, rfl⟩ ?_
          refine wa_aload_n (n := 0) rfl ?_
          refine wa_aload_n (n := 0) rfl ?_
          refine wb_gf5 158 rfl (wy_pr rfl) wt_158 wf_5_5 (v := 227) ((w_up_slot (by decide)).trans ((w_up_slot (by decide)).trans (l5))) (fun r19 => ?_)
          refine wb_gf4 227 rfl (wy_pr rfl) wt_227 wf_7_0 (v := 228) wl_227_0 ?_
          refine wa_iload_n (n := 3) rfl ?_
          refine wb_bald 228 rfl (wy_pr rfl) wt_228 (n := (S 228 (-1))) ((w_up_slot (by decide)).trans ((w_up_slot (by decide)).trans (rfl))) (by omega) (by omega) (v := ky) ((w_up_slot (by decide)).trans ((w_up_slot (by decide)).trans (hky))) (fun r20 => ?_)
          refine wa_aload_n (n := 0) rfl ?_
          refine wb_gf5 158 rfl (wy_pr rfl) wt_158 wf_5_5 (v := 227) ((w_up_slot (by decide)).trans ((w_up_slot (by decide)).trans (l5))) (fun r21 => ?_)
          refine wb_gf4 227 rfl (wy_pr rfl) wt_227 wf_7_1 (v := 229) wl_227_1 ?_
          refine wa_iload_n (n := 3) rfl ?_
          refine wb_lald 229 rfl (wy_pr rfl) wt_229 (n := (S 228 (-1))) ((w_up_slot (by decide)).trans ((w_up_slot (by decide)).trans (bl1))) (by omega) (by omega) (v := vy) ((w_up_slot (by decide)).trans ((w_up_slot (by decide)).trans (hvy))) (fun r22 => ?_)
          refine wa_cv 158 rfl (wy_pr rfl) wt_158 (M2 := mS [228, 229]) rfl at_XL_giveValue ⟨_, rfl⟩ rfl rfl ⟨trivial, trivial, (Or.inr ⟨wy_pr rfl, mS_no rfl⟩), trivial, trivial, trivial⟩ trivial (fun _ _ q => mS_sub (by decide) q) (glx_226 (S := (w_up (w_up S 141 (st + wh) ky) 142 (st + wh) vy)) (k := ky) (v := vy) (h := h) (c := c) (p := p) (ba := ba) (w_CL_up (w_CL_up hC (by omega)) (by omega)) (gI_up (gI_up hI (by omega) (by omega) (by omega)) (by omega) (by omega) (by omega)) ((w_up_slot (by decide)).trans ((w_up_slot (by decide)).trans (l4))) ((w_up_slot (by decide)).trans ((w_up_slot (by decide)).trans (l5))) ((w_up_slot (by decide)).trans ((w_up_slot (by decide)).trans (l8))) ((w_up_slot (by decide)).trans ((w_up_slot (by decide)).trans (bc))) ((w_up_slot (by decide)).trans ((w_up_slot (by decide)).trans (bp))) (by rw [show _ = _ from ((w_up_slot (by decide)).trans ((w_up_slot (by decide)).trans (bl1))), show _ = _ from ((w_up_slot (by decide)).trans ((w_up_slot (by decide)).trans (rfl)))]) (by rw [show _ = _ from ((w_up_slot (by decide)).trans ((w_up_slot (by decide)).trans (rfl)))]; exact ⟨bl2, bl3⟩) (by rw [show _ = _ from ((w_up_slot (by decide)).trans ((w_up_slot (by decide)).trans (rfl)))]; omega) ⟨by omega, by omega⟩ ⟨by omega, by omega⟩ ⟨by omega, by omega⟩ ⟨by omega, by omega⟩) (fun oq23 Sq23 hp24 q23 => ?_)
          rcases q23 with ⟨rfl, hgv23⟩
          show wJ _ _ _ _ _ _ _ _ _ _
          refine wa_return rfl ?_
          show wJ _ _ _ _ _ _ _ _ _ _
          refine wa_goto ⟨_, rfl⟩ ?_
          refine wa_return rfl ?_
          show wJ _ _ _ _ _ _ _ _ _ _
          refine wa_goto ⟨_, rfl⟩ ?_
          refine wa_return rfl ?_
          exact ⟨rfl, hgv23⟩
      · skip
        refine wa_aload_n (n := 0) rfl ?_
        refine wb_gfi 158 rfl (wy_pr rfl) wt_158 wf_5_7 (v := kd) (l7) (fun r25 => ?_)
        refine wa_iconst ?_
        refine wa_icmpne (w_rg0 (by omega) (by omega)) (w_rg0 (by omega) (by omega)) ⟨_, rfl⟩ (fun c26 => ?_) (fun c26 => ?_)
        · skip
          exact absurd c26 (by omega)
        · skip
          refine wa_fall ⟨_, rfl⟩ ?_
          refine wa_aload_n (n := 0) rfl ?_
          refine wa_iload_n (n := 1) rfl ?_
          refine wa_iload_n (n := 2) rfl ?_
          refine wa_cv 158 rfl (wy_pr rfl) wt_158 (M2 := mS [228, 229]) rfl at_XL_setProperty ⟨_, rfl⟩ rfl rfl ⟨(Or.inr ⟨wy_pr rfl, mS_no rfl⟩), trivial, trivial, trivial⟩ trivial (fun _ _ q => q) ?_ (fun _ _ _ q => q)
          refine wa_aload_n (n := 0) rfl ?_
          refine wb_gf5 158 rfl (wy_pr rfl) wt_158 wf_5_5 (v := 227) (l5) (fun r27 => ?_)
          refine wb_gfi 227 rfl (wy_pr rfl) wt_227 wf_7_2 (v := h) (bh) (fun r28 => ?_)
          refine wa_iconst ?_
          refine wa_isub ?_
          refine wa_istore_n (n := 3) rfl ?_
          refine wa_aload_n (n := 0) rfl ?_
          refine wb_gf4 158 rfl (wy_pr rfl) wt_158 wf_5_3 (v := 47) wl_158_3 ?_
          refine wa_iconst ?_
          refine wb_aald5 47 3 rfl rfl (wy_pr rfl) wt_47 (by rw [show _ = _ from ((cl_47 hC))]; omega) wl_47_3 ?_
          refine wa_iload_n (n := 1) rfl ?_
          refine wb_iald 51 rfl (wy_pr rfl) wt_51 (n := (S 48 (-1))) ((hl.2.2.1 3 (by decide))) (by omega) (by omega) (v := wh) (he51) (fun r29 => ?_)
          refine wa_istore (n := 4) rfl ?_
          refine wa_iload (n := 4) rfl ?_
          refine wa_iconst ?_
          refine wa_icmpeq (w_rg0 (by omega) (by omega)) (w_rg0 (by omega) (by omega)) ⟨_, rfl⟩ (fun c30 => ?_) (fun c30 => ?_)
          · skip
            exact absurd c30 (by omega)
          · skip
            refine wa_aload_n (n := 0) rfl ?_
            refine wb_gf4 158 rfl (wy_pr rfl) wt_158 wf_5_0 (v := 72) wl_158_0 ?_
            refine wb_gf4 72 rfl (wy_pr rfl) wt_72 wf_2_6 (v := 140) wl_72_6 ?_
            refine wa_aload_n (n := 0) rfl ?_
            refine wb_gf4 158 rfl (wy_pr rfl) wt_158 wf_5_0 (v := 72) wl_158_0 ?_
            refine wb_gf4 72 rfl (wy_pr rfl) wt_72 wf_2_2 (v := 126) wl_72_2 ?_
            refine wa_bipush (w_rg2 (by omega) (by omega)) ?_
            refine wb_aald5 126 6 rfl rfl (wy_pr rfl) wt_126 (by rw [show _ = _ from ((cl_126 hC))]; omega) wl_126_6 ?_
            refine wa_iload_n (n := 2) rfl ?_
            refine wb_iald 133 rfl (wy_pr rfl) wt_133 (n := (S 127 (-1))) ((hth 6 (by decide))) (by omega) (by omega) (v := st) (hst) (fun r31 => ?_)
            refine wa_iload (n := 4) rfl ?_
            refine wa_iadd ?_
            refine wa_aload_n (n := 0) rfl ?_
            refine wb_gf5 158 rfl (wy_pr rfl) wt_158 wf_5_5 (v := 227) (l5) (fun r32 => ?_)
            refine wb_gf4 227 rfl (wy_pr rfl) wt_227 wf_7_0 (v := 228) wl_227_0 ?_
            refine wa_iload_n (n := 3) rfl ?_
            refine wb_bald 228 rfl (wy_pr rfl) wt_228 (n := (S 228 (-1))) (rfl) (by omega) (by omega) (v := ky) (hky) (fun r33 => ?_)
            refine wa_aload_n (n := 0) rfl ?_
            refine wb_gf5 158 rfl (wy_pr rfl) wt_158 wf_5_5 (v := 227) (l5) (fun r34 => ?_)
            refine wb_gf4 227 rfl (wy_pr rfl) wt_227 wf_7_1 (v := 229) wl_227_1 ?_
            refine wa_iload_n (n := 3) rfl ?_
            refine wb_lald 229 rfl (wy_pr rfl) wt_229 (n := (S 228 (-1))) (bl1) (by omega) (by omega) (v := vy) (hvy) (fun r35 => ?_)
            refine wa_cv 140 rfl (wy_pr rfl) wt_140 (M2 := mS [228, 229]) rfl at_XV_put ⟨_, rfl⟩ rfl rfl ⟨trivial, trivial, (Or.inr ⟨wy_pr rfl, mS_no rfl⟩), trivial, trivial, trivial⟩ trivial (fun _ _ q => q) ?_ (fun _ _ _ q => q)
            refine wa_aload_n (n := 0) rfl ?_
            refine wb_gf4 140 rfl (wy_pr rfl) wt_140 wf_7_0 (v := 141) wl_140_0 ?_
            refine wa_iload_n (n := 1) rfl ?_
            refine wa_iload_n (n := 2) rfl ?_
            refine wb_i2b_r (wb_i2b_id ⟨(by omega), (by omega)⟩) ?_
            refine wb_bast 141 rfl (wy_pr rfl) wt_141 (n := (S 141 (-1))) (rfl) (by omega) (by omega) ⟨(by omega), (by omega)⟩ ?_
            refine wa_aload_n (n := 0) rfl ?_
            refine wb_gf4 140 rfl (wy_pr rfl) wt_140 wf_7_1 (v := 142) wl_140_1 ?_
            refine wa_iload_n (n := 1) rfl ?_
            refine wa_lload_n (n := 3) rfl ?_
            refine wb_last 142 rfl (wy_pr rfl) wt_142 (n := (S 141 (-1))) ((w_up_slot (by decide)).trans (hl14)) (by omega) (by omega) ⟨(by omega), (by omega)⟩ ?_
            refine wa_return rfl ?_
            show wJ _ _ _ _ _ _ _ _ _ _
            refine wa_goto ⟨_, rfl⟩ ?_
            refine wa_aload_n (n := 0) rfl ?_
            refine wa_aload_n (n := 0) rfl ?_
            refine wb_gf5 158 rfl (wy_pr rfl) wt_158 wf_5_5 (v := 227) ((w_up_slot (by decide)).trans ((w_up_slot (by decide)).trans (l5))) (fun r36 => ?_)
            refine wb_gf4 227 rfl (wy_pr rfl) wt_227 wf_7_0 (v := 228) wl_227_0 ?_
            refine wa_iload_n (n := 3) rfl ?_
            refine wb_bald 228 rfl (wy_pr rfl) wt_228 (n := (S 228 (-1))) ((w_up_slot (by decide)).trans ((w_up_slot (by decide)).trans (rfl))) (by omega) (by omega) (v := ky) ((w_up_slot (by decide)).trans ((w_up_slot (by decide)).trans (hky))) (fun r37 => ?_)
            refine wa_aload_n (n := 0) rfl ?_
            refine wb_gf5 158 rfl (wy_pr rfl) wt_158 wf_5_5 (v := 227) ((w_up_slot (by decide)).trans ((w_up_slot (by decide)).trans (l5))) (fun r38 => ?_)
            refine wb_gf4 227 rfl (wy_pr rfl) wt_227 wf_7_1 (v := 229) wl_227_1 ?_
            refine wa_iload_n (n := 3) rfl ?_
            refine wb_lald 229 rfl (wy_pr rfl) wt_229 (n := (S 228 (-1))) ((w_up_slot (by decide)).trans ((w_up_slot (by decide)).trans (bl1))) (by omega) (by omega) (v := vy) ((w_up_slot (by decide)).trans ((w_up_slot (by decide)).trans (hvy))) (fun r39 => ?_)
            refine wa_cv 158 rfl (wy_pr rfl) wt_158 (M2 := mS [228, 229]) rfl at_XL_giveValue ⟨_, rfl⟩ rfl rfl ⟨trivial, trivial, (Or.inr ⟨wy_pr rfl, mS_no rfl⟩), trivial, trivial, trivial⟩ trivial (fun _ _ q => mS_sub (by decide) q) (glx_226 (S := (w_up (w_up S 141 (st + wh) ky) 142 (st + wh) vy)) (k := ky) (v := vy) (h := h) (c := c) (p := p) (ba := ba) (w_CL_up (w_CL_up hC (by omega)) (by omega)) (gI_up (gI_up hI (by omega) (by omega) (by omega)) (by omega) (by omega) (by omega)) ((w_up_slot (by decide)).trans ((w_up_slot (by decide)).trans (l4))) ((w_up_slot (by decide)).trans ((w_up_slot (by decide)).trans (l5))) ((w_up_slot (by decide)).trans ((w_up_slot (by decide)).trans (l8))) ((w_up_slot (by decide)).trans ((w_up_slot (by decide)).trans (bc))) ((w_up_slot (by decide)).trans ((w_up_slot (by decide)).trans (bp))) (by rw [show _ = _ from ((w_up_slot (by decide)).trans ((w_up_slot (by decide)).trans (bl1))), show _ = _ from ((w_up_slot (by decide)).trans ((w_up_slot (by decide)).trans (rfl)))]) (by rw [show _ = _ from ((w_up_slot (by decide)).trans ((w_up_slot (by decide)).trans (rfl)))]; exact ⟨bl2, bl3⟩) (by rw [show _ = _ from ((w_up_slot (by decide)).trans ((w_up_slot (by decide)).trans (rfl)))]; omega) ⟨by omega, by omega⟩ ⟨by omega, by omega⟩ ⟨by omega, by omega⟩ ⟨by omega, by omega⟩) (fun oq40 Sq40 hp41 q40 => ?_)
            rcases q40 with ⟨rfl, hgv40⟩
            show wJ _ _ _ _ _ _ _ _ _ _
            refine wa_return rfl ?_
            show wJ _ _ _ _ _ _ _ _ _ _
            refine wa_goto ⟨_, rfl⟩ ?_
            refine wa_return rfl ?_
            show wJ _ _ _ _ _ _ _ _ _ _
            refine wa_goto ⟨_, rfl⟩ ?_
            refine wa_return rfl ?_
            exact ⟨rfl, hgv40⟩
    · skip
      exact absurd c7 (by omega)
  · skip
    exact absurd c4 (by omega)
set_option maxHeartbeats 4000000 in
theorem xsen_226 {c p h kd ba gk gb x ky vy st sz rm cs v0 r ep ch : Int} (hP : xP 226 c p h S) (hl : cSl S) (l4 : S 158 4 = 226) (l5 : S 158 5 = 227) (l7 : S 158 7 = kd) (l8 : S 158 8 = ba) (l9 : S 158 9 = gk) (l10 : S 158 10 = gb) (hx : 0 ≤ x ∧ x < S 48 (-1)) (hba : 0 ≤ ba ∧ ba < h) (hx1 : pe_at (pe_GA xs).xs 1 = some (1, tx_1)) (hth : ∀ x : Nat, x < 10 → S (127 + x) (-1) = S 127 (-1)) (hn2 : S 127 (-1) ≤ 16383) (hl14 : S 142 (-1) = S 141 (-1)) (hz14 : 16 ≤ S 141 (-1) ∧ S 141 (-1) ≤ 480400) (e48 : S 48 x = 0) (hky : S 228 (h - 1) = ky) (hvy : S 229 (h - 1) = vy) (hkr : -128 ≤ ky ∧ ky ≤ 127) (hvr : -9223372036854775808 ≤ vy ∧ vy ≤ 9223372036854775807) (hkd : kd = 1 ∨ kd = 3) (he51 : S 51 x = -1) (he52 : S 52 x = r) (hgb : 0 ≤ gb ∧ gb < S 127 (-1)) (h2 : S 140 2 = cs) (hcs : 0 ≤ cs ∧ cs ≤ S 141 (-1)) (hst : S 133 gb = st) (hsz : S 134 gb = sz) (hrm : S 135 gb = rm) (hs1 : 0 ≤ st ∧ 0 ≤ sz ∧ sz ≤ rm ∧ st + rm ≤ cs) (hv0 : S 150 1 = v0) (hv1 : 0 ≤ v0 ∧ v0 ≤ 60000) (hszb : sz ≤ 100000) (hep : S 130 gb = ep) (hep1 : -1 ≤ ep ∧ ep ≤ 10000000) (hch : S 72 11 = ch) (hch1 : 0 ≤ ch ∧ ch ≤ 10000000) : wJ (pe_GA xs) wY0 (mS [228, 229, 141, 142]) (d + 8) t_XL_act ((pe_at t_XL_act.bl 0).getD (0, [])).2 [(0, (2, 158)), (1, (0, x))] [] S (fun o Z => o = .inl none ∧ (((64 ≤ sz ∨ 60000 ≤ v0) ∧ w_up S 226 16 99 = Z) ∨ (sz < 64 ∧ v0 < 60000 ∧ ∃ A : wS, avH_ag gb ky vy S A ∧ sO 226 h c p (h - ba) ky vy (ncZ gb r ep ch A) Z))) := by
  obtain ⟨⟨hC, hI⟩, ⟨bc, bc0, bc1⟩, ⟨bp, bp0, bp1⟩, ⟨bh, bh0, bh1, bh2⟩, bl1, bl2, bl3⟩ := hP
  replace bp : S 231 (c - 1) = p := bp
  replace bh : S 227 2 = h := bh
  replace bh2 : h ≤ S 228 (-1) := bh2
  replace bl1 : S 229 (-1) = S 228 (-1) := bl1
  replace bl2 : 64 ≤ S 228 (-1) := bl2
  replace bl3 : S 228 (-1) ≤ 4095 := bl3
  have h35 := hl.2.1
  have h48 := hl.2.2.2
  refine wa_aload_n (n := 0) rfl ?_
  refine wb_gf4 158 rfl (wy_pr rfl) wt_158 wf_5_3 (v := 47) wl_158_3 ?_
  refine wa_iconst ?_
  refine wb_aald5 47 3 rfl rfl (wy_pr rfl) wt_47 (by rw [show _ = _ from ((cl_47 hC))]; omega) wl_47_3 ?_
  refine wa_iload_n (n := 1) rfl ?_
  refine wb_iald 51 rfl (wy_pr rfl) wt_51 (n := (S 48 (-1))) ((hl.2.2.1 3 (by decide))) (by omega) (by omega) (v := (-1)) (he51) (fun r1 => ?_)
  refine wa_istore_n (n := 2) rfl ?_
  refine wa_aload_n (n := 0) rfl ?_
  refine wb_gf4 158 rfl (wy_pr rfl) wt_158 wf_5_3 (v := 47) wl_158_3 ?_
  refine wa_iconst ?_
  refine wb_aald5 47 0 rfl rfl (wy_pr rfl) wt_47 (by rw [show _ = _ from ((cl_47 hC))]; omega) wl_47_0 ?_
  refine wa_iload_n (n := 1) rfl ?_
  refine wb_iald 48 rfl (wy_pr rfl) wt_48 (n := (S 48 (-1))) (rfl) (by omega) (by omega) (v := 0) (e48) (fun r2 => ?_)
  refine wa_lw (tb := 0) (w_rg0 (by omega) (by omega)) (q := (27, 1)) (by first | rfl | decide) ⟨_, rfl⟩ ?_
  refine wa_aload_n (n := 0) rfl ?_
  refine wb_gfi 158 rfl (wy_pr rfl) wt_158 wf_5_7 (v := kd) (l7) (fun r3 => ?_)
  refine wa_bipush (w_rg2 (by omega) (by omega)) ?_
  refine wa_icmpne (w_rg0 (by omega) (by omega)) (w_rg0 (by omega) (by omega)) ⟨_, rfl⟩ (fun c4 => ?_) (fun c4 => ?_)
  · skip
    refine wa_aload_n (n := 0) rfl ?_
    refine wa_iload_n (n := 1) rfl ?_
    refine wa_aload_n (n := 0) rfl ?_
    refine wb_gfl 158 rfl (wy_pr rfl) wt_158 wf_5_10 (v := gb) (l10) (fun r5 => ?_)
    refine wb_l2i_r (wb_l2i_id ⟨(by omega), (by omega)⟩) ?_
    refine wa_cv 158 rfl (wy_pr rfl) wt_158 (M2 := mS [228, 229, 141, 142]) rfl at_XL_actOnThing ⟨_, rfl⟩ rfl rfl ⟨trivial, (Or.inr ⟨wy_pr rfl, mS_no rfl⟩), trivial, trivial⟩ trivial (fun _ _ q => q) ?_ (fun _ _ _ q => q)
    refine wa_aload_n (n := 0) rfl ?_
    refine wb_gfi 158 rfl (wy_pr rfl) wt_158 wf_5_7 (v := kd) (l7) (fun r6 => ?_)
    refine wa_iconst ?_
    refine wa_icmpne (w_rg0 (by omega) (by omega)) (w_rg0 (by omega) (by omega)) ⟨_, rfl⟩ (fun c7 => ?_) (fun c7 => ?_)
    · skip
      refine wa_aload_n (n := 0) rfl ?_
      refine wb_gfi 158 rfl (wy_pr rfl) wt_158 wf_5_7 (v := kd) (l7) (fun r8 => ?_)
      refine wa_iconst ?_
      refine wa_icmpeq (w_rg0 (by omega) (by omega)) (w_rg0 (by omega) (by omega)) ⟨_, rfl⟩ (fun c9 => ?_) (fun c9 => ?_)
      · skip
        refine wa_aload_n (n := 0) rfl ?_
        refine wa_iload_n (n := 1) rfl ?_
        refine wa_iload_n (n := 2) rfl ?_
        refine wa_cv 158 rfl (wy_pr rfl) wt_158 (M2 := mS [228, 229, 141, 142]) rfl at_XL_setProperty ⟨_, rfl⟩ rfl rfl ⟨(Or.inr ⟨wy_pr rfl, mS_no rfl⟩), trivial, trivial, trivial⟩ trivial (fun _ _ q => q) ?_ (fun _ _ _ q => q)
        refine wa_aload_n (n := 0) rfl ?_
        refine wb_gf5 158 rfl (wy_pr rfl) wt_158 wf_5_5 (v := 227) (l5) (fun r10 => ?_)
        refine wb_gfi 227 rfl (wy_pr rfl) wt_227 wf_7_2 (v := h) (bh) (fun r11 => ?_)
        refine wa_iconst ?_
        refine wa_isub ?_
        refine wa_istore_n (n := 3) rfl ?_
        refine wa_aload_n (n := 0) rfl ?_
        refine wb_gf4 158 rfl (wy_pr rfl) wt_158 wf_5_3 (v := 47) wl_158_3 ?_
        refine wa_iconst ?_
        refine wb_aald5 47 3 rfl rfl (wy_pr rfl) wt_47 (by rw [show _ = _ from ((cl_47 hC))]; omega) wl_47_3 ?_
        refine wa_iload_n (n := 1) rfl ?_
        refine wb_iald 51 rfl (wy_pr rfl) wt_51 (n := (S 48 (-1))) ((hl.2.2.1 3 (by decide))) (by omega) (by omega) (v := (-1)) (he51) (fun r12 => ?_)
        refine wa_istore (n := 4) rfl ?_
        refine wa_iload (n := 4) rfl ?_
        refine wa_iconst ?_
        refine wa_icmpeq (w_rg0 (by omega) (by omega)) (w_rg0 (by omega) (by omega)) ⟨_, rfl⟩ (fun c13 => ?_) (fun c13 => ?_)
        · skip
          refine wa_aload_n (n := 0) rfl ?_
          refine wb_gf4 158 rfl (wy_pr rfl) wt_158 wf_5_0 (v := 72) wl_158_0 ?_
          refine wb_gf4 72 rfl (wy_pr rfl) wt_72 wf_2_2 (v := 126) wl_72_2 ?_
          refine wa_bipush (w_rg2 (by omega) (by omega)) ?_
          refine wb_aald5 126 7 rfl rfl (wy_pr rfl) wt_126 (by rw [show _ = _ from ((cl_126 hC))]; omega) wl_126_7 ?_
          refine wa_iload_n (n := 2) rfl ?_
          refine wb_iald 134 rfl (wy_pr rfl) wt_134 (n := (S 127 (-1))) ((hth 7 (by decide))) (by omega) (by omega) (v := sz) (hsz) (fun r14 => ?_)
          refine wa_bipush (w_rg2 (by omega) (by omega)) ?_
          refine wa_icmpge (w_rg0 (by omega) (by omega)) (w_rg0 (by omega) (by omega)) ⟨_, rfl⟩ (fun c15 => ?_) (fun c15 => ?_)
          · skip
            refine wa_aload_n (n := 0) rfl ?_
            refine wb_gf5 158 rfl (wy_pr rfl) wt_158 wf_5_4 (v := 226) (l4) (fun r16 => ?_)
            refine wa_bipush (w_rg2 (by omega) (by omega)) ?_
            refine wb_pfi 226 rfl (wy_pr rfl) wt_226 wf_8_16 (n := 16) rfl ⟨(by omega), (by omega)⟩ ?_
            refine wa_return rfl ?_
            show wJ _ _ _ _ _ _ _ _ _ _
            refine wa_goto ⟨_, rfl⟩ ?_
            refine wa_return rfl ?_
            show wJ _ _ _ _ _ _ _ _ _ _
            refine wa_goto ⟨_, rfl⟩ ?_
            refine wa_return rfl ?_
            exact ⟨rfl, Or.inl ⟨by omega, rfl⟩⟩
          · skip
            refine wa_aload_n (n := 0) rfl ?_
            refine wb_gf4 158 rfl (wy_pr rfl) wt_158 wf_5_0 (v := 72) wl_158_0 ?_
            refine wa_iconst ?_
            refine wa_iconst ?_
            refine wa_cv 72 rfl (wy_pr rfl) wt_72 (M2 := mS [228, 229, 141, 142]) rfl at_XH_hasRoom ⟨_, rfl⟩ rfl rfl ⟨trivial, trivial, (Or.inr ⟨wy_pr rfl, mS_no rfl⟩), trivial, trivial, trivial⟩ trivial (fun _ _ q => q) ?_ (fun _ _ _ q => q)
            refine wa_aload_n (n := 0) rfl ?_
            refine wb_gf4 72 rfl (wy_pr rfl) wt_72 wf_2_10 (v := 150) wl_72_10 ?_
            refine wa_iload_n (n := 1) rfl ?_
            refine wb_iald 150 rfl (wy_pr rfl) wt_150 (n := 6) ((cl_150 hC)) (by omega) (by omega) (v := v0) (hv0) (fun r17 => ?_)
            refine wa_iload_n (n := 2) rfl ?_
            refine wa_iadd ?_
            refine wa_gs ?_
            refine wa_iload_n (n := 1) rfl ?_
            refine wb_xald 1 rfl hx1 (by decide) (by omega) (by decide) (v := 60000) (by decide) (fun r18 => ?_)
            refine wa_icmpgt (w_rg0 (by omega) (by omega)) (w_rg0 (by omega) (by omega)) ⟨_, rfl⟩ (fun c19 => ?_) (fun c19 => ?_)
            · skip
              refine wa_iconst ?_
              refine wa_fall ⟨_, rfl⟩ ?_
              refine wa_zreturn rfl (Or.inl rfl) ?_
              show wJ _ _ _ _ _ _ _ _ _ _
              refine wa_ifne (w_rg0 (by omega) (by omega)) ⟨_, rfl⟩ (fun c20 => ?_) (fun c20 => ?_)
              · skip
                exact absurd c20 (by omega)
              · skip
                refine wa_fall ⟨_, rfl⟩ ?_
                refine wa_aload_n (n := 0) rfl ?_
                refine wb_gf5 158 rfl (wy_pr rfl) wt_158 wf_5_4 (v := 226) (l4) (fun r21 => ?_)
                refine wa_bipush (w_rg2 (by omega) (by omega)) ?_
                refine wb_pfi 226 rfl (wy_pr rfl) wt_226 wf_8_16 (n := 16) rfl ⟨(by omega), (by omega)⟩ ?_
                refine wa_return rfl ?_
                show wJ _ _ _ _ _ _ _ _ _ _
                refine wa_goto ⟨_, rfl⟩ ?_
                refine wa_return rfl ?_
                show wJ _ _ _ _ _ _ _ _ _ _
                refine wa_goto ⟨_, rfl⟩ ?_
                refine wa_return rfl ?_
                exact ⟨rfl, Or.inl ⟨by omega, rfl⟩⟩
            · skip
              refine wa_iconst ?_
              refine wa_goto ⟨_, rfl⟩ ?_
              refine wa_zreturn rfl (Or.inr rfl) ?_
              show wJ _ _ _ _ _ _ _ _ _ _
              refine wa_ifne (w_rg0 (by omega) (by omega)) ⟨_, rfl⟩ (fun c22 => ?_) (fun c22 => ?_)
              · skip
                refine wa_aload_n (n := 0) rfl ?_
                refine wb_gf4 158 rfl (wy_pr rfl) wt_158 wf_5_0 (v := 72) wl_158_0 ?_
                refine wa_iload_n (n := 2) rfl ?_
                refine wa_aload_n (n := 0) rfl ?_
                refine wb_gf5 158 rfl (wy_pr rfl) wt_158 wf_5_5 (v := 227) (l5) (fun r23 => ?_)
                refine wb_gf4 227 rfl (wy_pr rfl) wt_227 wf_7_0 (v := 228) wl_227_0 ?_
                refine wa_iload_n (n := 3) rfl ?_
                refine wb_bald 228 rfl (wy_pr rfl) wt_228 (n := (S 228 (-1))) (rfl) (by omega) (by omega) (v := ky) (hky) (fun r24 => ?_)
                refine wa_aload_n (n := 0) rfl ?_
                refine wb_gf5 158 rfl (wy_pr rfl) wt_158 wf_5_5 (v := 227) (l5) (fun r25 => ?_)
                refine wb_gf4 227 rfl (wy_pr rfl) wt_227 wf_7_1 (v := 229) wl_227_1 ?_
                refine wa_iload_n (n := 3) rfl ?_
                refine wb_lald 229 rfl (wy_pr rfl) wt_229 (n := (S 228 (-1))) (bl1) (by omega) (by omega) (v := vy) (hvy) (fun r26 => ?_)
                refine wa_cv 72 rfl (wy_pr rfl) wt_72 (M2 := mS [141, 142]) rfl at_XH_addValue ⟨_, rfl⟩ rfl rfl ⟨trivial, trivial, (Or.inr ⟨wy_pr rfl, mS_no rfl⟩), trivial, trivial, trivial⟩ trivial (fun _ _ q => mS_sub (by decide) q) (avH_ok (S := S) (k := gb) (kd := ky) (bt := vy) (st := st) (sz := sz) (rm := rm) (cs := cs) (v0 := v0) hC hI h2 hcs hl14 hz14 hth hgb hn2 hst hsz hrm hs1 hv0 hv1 (by omega) hkr hvr) (fun oq27 Sq27 hp28 q27 => ?_)
                rcases q27 with ⟨rfl, hav⟩
                show wJ _ _ _ _ _ _ _ _ _ _
                have fA : ∀ (j : Nat) (x : Int), j < 237 → j ≠ 141 → j ≠ 142 → (j < 133 ∨ 135 < j) → j ≠ 140 → j ≠ 150 → Sq27 j x = S j x := fun j x j0 j1 j2 j3 j4 j5 => hav.2.2.2.2.2.2.1 j x (by omega) (by have hg : wG = 1000000 := rfl; omega) j1 j2 (Or.inl (by omega)) (Or.inl j4) (Or.inl j5)
                refine wa_aload_n (n := 0) rfl ?_
                refine wb_gf4 158 rfl (wy_pr rfl) wt_158 wf_5_0 (v := 72) wl_158_0 ?_
                refine wb_gf4 72 rfl (wy_pr rfl) wt_72 wf_2_2 (v := 126) wl_72_2 ?_
                refine wa_iconst ?_
                refine wb_aald5 126 1 rfl rfl (wy_pr rfl) wt_126 (by rw [show _ = _ from (((hav.2.2.2.2.2.2.1 126 (-1) (by decide) (by decide) (by decide) (by decide) (Or.inl (by decide)) (by omega) (by omega)).trans ((cl_126 hC))))]; omega) wl_126_1 ?_
                refine wa_iload_n (n := 2) rfl ?_
                refine wa_aload_n (n := 0) rfl ?_
                refine wb_gf4 158 rfl (wy_pr rfl) wt_158 wf_5_3 (v := 47) wl_158_3 ?_
                refine wa_iconst ?_
                refine wb_aald5 47 4 rfl rfl (wy_pr rfl) wt_47 (by rw [show _ = _ from (((hav.2.2.2.2.2.2.1 47 (-1) (by decide) (by decide) (by decide) (by decide) (Or.inl (by decide)) (by omega) (by omega)).trans ((cl_47 hC))))]; omega) wl_47_4 ?_
                refine wa_iload_n (n := 1) rfl ?_
                refine wb_iald 52 rfl (wy_pr rfl) wt_52 (n := (S 48 (-1))) (((hav.2.2.2.2.2.2.1 52 (-1) (by decide) (by decide) (by decide) (by decide) (Or.inl (by decide)) (by omega) (by omega)).trans ((hl.2.2.1 4 (by decide))))) (by omega) (by omega) (v := r) (((hav.2.2.2.2.2.2.1 52 x (by decide) (by decide) (by decide) (by decide) (Or.inl (by decide)) (by omega) (by omega)).trans (he52))) (fun r29 => ?_)
                refine wb_iast 128 rfl (wy_pr rfl) wt_128 (n := (S 127 (-1))) (((hav.2.2.2.2.2.2.1 128 (-1) (by decide) (by decide) (by decide) (by decide) (Or.inl (by decide)) (by omega) (by omega)).trans ((hth 1 (by decide))))) (by omega) (by omega) ⟨(by omega), (by omega)⟩ ?_
                refine wa_aload_n (n := 0) rfl ?_
                refine wb_gf4 158 rfl (wy_pr rfl) wt_158 wf_5_0 (v := 72) wl_158_0 ?_
                refine wa_iload_n (n := 2) rfl ?_
                have eL : ∀ x : Nat, x < 10 → (w_up Sq27 128 gb r) (127 + x) (-1) = (w_up Sq27 128 gb r) 127 (-1) := fun x hx2 => by
                  have z1 : ∀ y : Nat, y < 10 → Sq27 (127 + y) (-1) = S (127 + y) (-1) := fun y hy => hav.2.2.2.2.2.2.1 (127 + y) (-1) (by omega) (by have hg : wG = 1000000 := rfl; omega) (by omega) (by omega) (Or.inr (by omega)) (Or.inl (by omega)) (Or.inl (by omega))
                  rw [w_up_at (by omega), w_up_at (by omega), z1 x hx2, show Sq27 127 (-1) = S 127 (-1) from z1 0 (by first | decide | omega)]
                  exact hth x hx2
                have e127 : (w_up Sq27 128 gb r) 127 (-1) = S 127 (-1) := (w_up_slot (by first | decide | omega)).trans (fA 127 (-1) (by first | decide | omega) (by first | decide | omega) (by first | decide | omega) (by first | decide | omega) (by first | decide | omega) (by first | decide | omega))
                have e130 : (w_up Sq27 128 gb r) 130 gb = ep := (w_up_slot (by first | decide | omega)).trans ((fA 130 gb (by first | decide | omega) (by first | decide | omega) (by first | decide | omega) (by first | decide | omega) (by first | decide | omega) (by first | decide | omega)).trans hep)
                have e72 : (w_up Sq27 128 gb r) 72 11 = ch := (w_up_slot (by first | decide | omega)).trans ((fA 72 11 (by first | decide | omega) (by first | decide | omega) (by first | decide | omega) (by first | decide | omega) (by first | decide | omega) (by first | decide | omega)).trans hch)
                refine wa_cv 72 rfl (wy_pr rfl) wt_72 (M2 := mS []) rfl at_XH_noteChange ⟨_, rfl⟩ rfl rfl ⟨trivial, trivial, (Or.inr ⟨wy_pr rfl, mS_no rfl⟩), trivial, trivial, trivial⟩ trivial (fun _ _ q => mS_sub (by decide) q) (wJ_mono (nc_ok (S := (w_up Sq27 128 gb r)) (k := gb) (ep := ep) (ch := ch) eL ⟨by omega, by omega⟩ (by omega) e130 hep1 e72 hch1 (w_CL_up (avH_cl hC hav hgb.1) hgb.1)) (fun o Z hz => (⟨hz.1, hz.2⟩ : o = .inl none ∧ ncZ gb r ep ch Sq27 = Z))) (fun oq30 Sq30 hp31 q30 => ?_)
                rcases q30 with ⟨rfl, rfl⟩
                show wJ _ _ _ _ _ _ _ _ _ _
                refine wa_fall ⟨_, rfl⟩ ?_
                refine wa_aload_n (n := 0) rfl ?_
                refine wa_aload_n (n := 0) rfl ?_
                refine wb_gf5 158 rfl (wy_pr rfl) wt_158 wf_5_5 (v := 227) (((ncZ_e 158 5 (by decide) (by omega)).trans (((hav.2.2.2.2.2.2.1 158 5 (by decide) (by decide) (by decide) (by decide) (Or.inl (by decide)) (by omega) (by omega)).trans (l5))))) (fun r32 => ?_)
                refine wb_gf4 227 rfl (wy_pr rfl) wt_227 wf_7_0 (v := 228) wl_227_0 ?_
                refine wa_iload_n (n := 3) rfl ?_
                refine wb_bald 228 rfl (wy_pr rfl) wt_228 (n := (S 228 (-1))) (((ncZ_e 228 (-1) (by decide) (by omega)).trans (((hav.2.2.2.2.2.2.1 228 (-1) (by decide) (by decide) (by decide) (by decide) (Or.inl (by decide)) (by omega) (by omega)).trans (rfl))))) (by omega) (by omega) (v := ky) (((ncZ_e 228 (h - 1) (by decide) (by omega)).trans (((hav.2.2.2.2.2.2.1 228 (h - 1) (by decide) (by decide) (by decide) (by decide) (Or.inl (by decide)) (by omega) (by omega)).trans (hky))))) (fun r33 => ?_)
                refine wa_aload_n (n := 0) rfl ?_
                refine wb_gf5 158 rfl (wy_pr rfl) wt_158 wf_5_5 (v := 227) (((ncZ_e 158 5 (by decide) (by omega)).trans (((hav.2.2.2.2.2.2.1 158 5 (by decide) (by decide) (by decide) (by decide) (Or.inl (by decide)) (by omega) (by omega)).trans (l5))))) (fun r34 => ?_)
                refine wb_gf4 227 rfl (wy_pr rfl) wt_227 wf_7_1 (v := 229) wl_227_1 ?_
                refine wa_iload_n (n := 3) rfl ?_
                refine wb_lald 229 rfl (wy_pr rfl) wt_229 (n := (S 228 (-1))) (((ncZ_e 229 (-1) (by decide) (by omega)).trans (((hav.2.2.2.2.2.2.1 229 (-1) (by decide) (by decide) (by decide) (by decide) (Or.inl (by decide)) (by omega) (by omega)).trans (bl1))))) (by omega) (by omega) (v := vy) (((ncZ_e 229 (h - 1) (by decide) (by omega)).trans (((hav.2.2.2.2.2.2.1 229 (h - 1) (by decide) (by decide) (by decide) (by decide) (Or.inl (by decide)) (by omega) (by omega)).trans (hvy))))) (fun r35 => ?_)
                refine wa_cv 158 rfl (wy_pr rfl) wt_158 (M2 := mS [228, 229]) rfl at_XL_giveValue ⟨_, rfl⟩ rfl rfl ⟨trivial, trivial, (Or.inr ⟨wy_pr rfl, mS_no rfl⟩), trivial, trivial, trivial⟩ trivial (fun _ _ q => mS_sub (by decide) q) (glx_226 (S := (ncZ gb r ep ch Sq27)) (k := ky) (v := vy) (h := h) (c := c) (p := p) (ba := ba) (ncZ_c (avH_cl hC hav hgb.1) hgb.1) (ncZ_g hav.2.2.2.2.2.2.2.1 hgb.1) (((ncZ_e 158 4 (by decide) (by omega)).trans (((hav.2.2.2.2.2.2.1 158 4 (by decide) (by decide) (by decide) (by decide) (Or.inl (by decide)) (by omega) (by omega)).trans (l4))))) (((ncZ_e 158 5 (by decide) (by omega)).trans (((hav.2.2.2.2.2.2.1 158 5 (by decide) (by decide) (by decide) (by decide) (Or.inl (by decide)) (by omega) (by omega)).trans (l5))))) (((ncZ_e 158 8 (by decide) (by omega)).trans (((hav.2.2.2.2.2.2.1 158 8 (by decide) (by decide) (by decide) (by decide) (Or.inl (by decide)) (by omega) (by omega)).trans (l8))))) (((ncZ_e 226 4 (by decide) (by omega)).trans (((hav.2.2.2.2.2.2.1 226 4 (by decide) (by decide) (by decide) (by decide) (Or.inl (by decide)) (by omega) (by omega)).trans (bc))))) (((ncZ_e 231 (c - 1) (by decide) (by omega)).trans (((hav.2.2.2.2.2.2.1 231 (c - 1) (by decide) (by decide) (by decide) (by decide) (Or.inl (by decide)) (by omega) (by omega)).trans (bp))))) (by rw [show _ = _ from (((ncZ_e 229 (-1) (by decide) (by omega)).trans (((hav.2.2.2.2.2.2.1 229 (-1) (by decide) (by decide) (by decide) (by decide) (Or.inl (by decide)) (by omega) (by omega)).trans (bl1))))), show _ = _ from (((ncZ_e 228 (-1) (by decide) (by omega)).trans (((hav.2.2.2.2.2.2.1 228 (-1) (by decide) (by decide) (by decide) (by decide) (Or.inl (by decide)) (by omega) (by omega)).trans (rfl)))))]) (by rw [show _ = _ from (((ncZ_e 228 (-1) (by decide) (by omega)).trans (((hav.2.2.2.2.2.2.1 228 (-1) (by decide) (by decide) (by decide) (by decide) (Or.inl (by decide)) (by omega) (by omega)).trans (rfl)))))]; exact ⟨bl2, bl3⟩) (by rw [show _ = _ from (((ncZ_e 228 (-1) (by decide) (by omega)).trans (((hav.2.2.2.2.2.2.1 228 (-1) (by decide) (by decide) (by decide) (by decide) (Or.inl (by decide)) (by omega) (by omega)).trans (rfl)))))]; omega) ⟨by omega, by omega⟩ ⟨by omega, by omega⟩ ⟨by omega, by omega⟩ ⟨by omega, by omega⟩) (fun oq36 Sq36 hp37 q36 => ?_)
                rcases q36 with ⟨rfl, hgv36⟩
                show wJ _ _ _ _ _ _ _ _ _ _
                refine wa_return rfl ?_
                show wJ _ _ _ _ _ _ _ _ _ _
                refine wa_goto ⟨_, rfl⟩ ?_
                refine wa_return rfl ?_
                show wJ _ _ _ _ _ _ _ _ _ _
                refine wa_goto ⟨_, rfl⟩ ?_
                refine wa_return rfl ?_
                exact ⟨rfl, Or.inr ⟨by omega, by omega, Sq27, hav, hgv36⟩⟩
              · skip
                exact absurd c22 (by omega)
        · skip
          exact absurd c13 (by omega)
      · skip
        refine wa_aload_n (n := 0) rfl ?_
        refine wb_gfi 158 rfl (wy_pr rfl) wt_158 wf_5_7 (v := kd) (l7) (fun r38 => ?_)
        refine wa_iconst ?_
        refine wa_icmpne (w_rg0 (by omega) (by omega)) (w_rg0 (by omega) (by omega)) ⟨_, rfl⟩ (fun c39 => ?_) (fun c39 => ?_)
        · skip
          exact absurd c39 (by omega)
        · skip
          refine wa_fall ⟨_, rfl⟩ ?_
          refine wa_aload_n (n := 0) rfl ?_
          refine wa_iload_n (n := 1) rfl ?_
          refine wa_iload_n (n := 2) rfl ?_
          refine wa_cv 158 rfl (wy_pr rfl) wt_158 (M2 := mS [228, 229, 141, 142]) rfl at_XL_setProperty ⟨_, rfl⟩ rfl rfl ⟨(Or.inr ⟨wy_pr rfl, mS_no rfl⟩), trivial, trivial, trivial⟩ trivial (fun _ _ q => q) ?_ (fun _ _ _ q => q)
          refine wa_aload_n (n := 0) rfl ?_
          refine wb_gf5 158 rfl (wy_pr rfl) wt_158 wf_5_5 (v := 227) (l5) (fun r40 => ?_)
          refine wb_gfi 227 rfl (wy_pr rfl) wt_227 wf_7_2 (v := h) (bh) (fun r41 => ?_)
          refine wa_iconst ?_
          refine wa_isub ?_
          refine wa_istore_n (n := 3) rfl ?_
          refine wa_aload_n (n := 0) rfl ?_
          refine wb_gf4 158 rfl (wy_pr rfl) wt_158 wf_5_3 (v := 47) wl_158_3 ?_
          refine wa_iconst ?_
          refine wb_aald5 47 3 rfl rfl (wy_pr rfl) wt_47 (by rw [show _ = _ from ((cl_47 hC))]; omega) wl_47_3 ?_
          refine wa_iload_n (n := 1) rfl ?_
          refine wb_iald 51 rfl (wy_pr rfl) wt_51 (n := (S 48 (-1))) ((hl.2.2.1 3 (by decide))) (by omega) (by omega) (v := (-1)) (he51) (fun r42 => ?_)
          refine wa_istore (n := 4) rfl ?_
          refine wa_iload (n := 4) rfl ?_
          refine wa_iconst ?_
          refine wa_icmpeq (w_rg0 (by omega) (by omega)) (w_rg0 (by omega) (by omega)) ⟨_, rfl⟩ (fun c43 => ?_) (fun c43 => ?_)
          · skip
            refine wa_aload_n (n := 0) rfl ?_
            refine wb_gf4 158 rfl (wy_pr rfl) wt_158 wf_5_0 (v := 72) wl_158_0 ?_
            refine wb_gf4 72 rfl (wy_pr rfl) wt_72 wf_2_2 (v := 126) wl_72_2 ?_
            refine wa_bipush (w_rg2 (by omega) (by omega)) ?_
            refine wb_aald5 126 7 rfl rfl (wy_pr rfl) wt_126 (by rw [show _ = _ from ((cl_126 hC))]; omega) wl_126_7 ?_
            refine wa_iload_n (n := 2) rfl ?_
            refine wb_iald 134 rfl (wy_pr rfl) wt_134 (n := (S 127 (-1))) ((hth 7 (by decide))) (by omega) (by omega) (v := sz) (hsz) (fun r44 => ?_)
            refine wa_bipush (w_rg2 (by omega) (by omega)) ?_
            refine wa_icmpge (w_rg0 (by omega) (by omega)) (w_rg0 (by omega) (by omega)) ⟨_, rfl⟩ (fun c45 => ?_) (fun c45 => ?_)
            · skip
              refine wa_aload_n (n := 0) rfl ?_
              refine wb_gf5 158 rfl (wy_pr rfl) wt_158 wf_5_4 (v := 226) (l4) (fun r46 => ?_)
              refine wa_bipush (w_rg2 (by omega) (by omega)) ?_
              refine wb_pfi 226 rfl (wy_pr rfl) wt_226 wf_8_16 (n := 16) rfl ⟨(by omega), (by omega)⟩ ?_
              refine wa_return rfl ?_
              show wJ _ _ _ _ _ _ _ _ _ _
              refine wa_goto ⟨_, rfl⟩ ?_
              refine wa_return rfl ?_
              show wJ _ _ _ _ _ _ _ _ _ _
              refine wa_goto ⟨_, rfl⟩ ?_
              refine wa_return rfl ?_
              exact ⟨rfl, Or.inl ⟨by omega, rfl⟩⟩
            · skip
              refine wa_aload_n (n := 0) rfl ?_
              refine wb_gf4 158 rfl (wy_pr rfl) wt_158 wf_5_0 (v := 72) wl_158_0 ?_
              refine wa_iconst ?_
              refine wa_iconst ?_
              refine wa_cv 72 rfl (wy_pr rfl) wt_72 (M2 := mS [228, 229, 141, 142]) rfl at_XH_hasRoom ⟨_, rfl⟩ rfl rfl ⟨trivial, trivial, (Or.inr ⟨wy_pr rfl, mS_no rfl⟩), trivial, trivial, trivial⟩ trivial (fun _ _ q => q) ?_ (fun _ _ _ q => q)
              refine wa_aload_n (n := 0) rfl ?_
              refine wb_gf4 72 rfl (wy_pr rfl) wt_72 wf_2_10 (v := 150) wl_72_10 ?_
              refine wa_iload_n (n := 1) rfl ?_
              refine wb_iald 150 rfl (wy_pr rfl) wt_150 (n := 6) ((cl_150 hC)) (by omega) (by omega) (v := v0) (hv0) (fun r47 => ?_)
              refine wa_iload_n (n := 2) rfl ?_
              refine wa_iadd ?_
              refine wa_gs ?_
              refine wa_iload_n (n := 1) rfl ?_
              refine wb_xald 1 rfl hx1 (by decide) (by omega) (by decide) (v := 60000) (by decide) (fun r48 => ?_)
              refine wa_icmpgt (w_rg0 (by omega) (by omega)) (w_rg0 (by omega) (by omega)) ⟨_, rfl⟩ (fun c49 => ?_) (fun c49 => ?_)
              · skip
                refine wa_iconst ?_
                refine wa_fall ⟨_, rfl⟩ ?_
                refine wa_zreturn rfl (Or.inl rfl) ?_
                show wJ _ _ _ _ _ _ _ _ _ _
                refine wa_ifne (w_rg0 (by omega) (by omega)) ⟨_, rfl⟩ (fun c50 => ?_) (fun c50 => ?_)
                · skip
                  exact absurd c50 (by omega)
                · skip
                  refine wa_fall ⟨_, rfl⟩ ?_
                  refine wa_aload_n (n := 0) rfl ?_
                  refine wb_gf5 158 rfl (wy_pr rfl) wt_158 wf_5_4 (v := 226) (l4) (fun r51 => ?_)
                  refine wa_bipush (w_rg2 (by omega) (by omega)) ?_
                  refine wb_pfi 226 rfl (wy_pr rfl) wt_226 wf_8_16 (n := 16) rfl ⟨(by omega), (by omega)⟩ ?_
                  refine wa_return rfl ?_
                  show wJ _ _ _ _ _ _ _ _ _ _
                  refine wa_goto ⟨_, rfl⟩ ?_
                  refine wa_return rfl ?_
                  show wJ _ _ _ _ _ _ _ _ _ _
                  refine wa_goto ⟨_, rfl⟩ ?_
                  refine wa_return rfl ?_
                  exact ⟨rfl, Or.inl ⟨by omega, rfl⟩⟩
              · skip
                refine wa_iconst ?_
                refine wa_goto ⟨_, rfl⟩ ?_
                refine wa_zreturn rfl (Or.inr rfl) ?_
                show wJ _ _ _ _ _ _ _ _ _ _
                refine wa_ifne (w_rg0 (by omega) (by omega)) ⟨_, rfl⟩ (fun c52 => ?_) (fun c52 => ?_)
                · skip
                  refine wa_aload_n (n := 0) rfl ?_
                  refine wb_gf4 158 rfl (wy_pr rfl) wt_158 wf_5_0 (v := 72) wl_158_0 ?_
                  refine wa_iload_n (n := 2) rfl ?_
                  refine wa_aload_n (n := 0) rfl ?_
                  refine wb_gf5 158 rfl (wy_pr rfl) wt_158 wf_5_5 (v := 227) (l5) (fun r53 => ?_)
                  refine wb_gf4 227 rfl (wy_pr rfl) wt_227 wf_7_0 (v := 228) wl_227_0 ?_
                  refine wa_iload_n (n := 3) rfl ?_
                  refine wb_bald 228 rfl (wy_pr rfl) wt_228 (n := (S 228 (-1))) (rfl) (by omega) (by omega) (v := ky) (hky) (fun r54 => ?_)
                  refine wa_aload_n (n := 0) rfl ?_
                  refine wb_gf5 158 rfl (wy_pr rfl) wt_158 wf_5_5 (v := 227) (l5) (fun r55 => ?_)
                  refine wb_gf4 227 rfl (wy_pr rfl) wt_227 wf_7_1 (v := 229) wl_227_1 ?_
                  refine wa_iload_n (n := 3) rfl ?_
                  refine wb_lald 229 rfl (wy_pr rfl) wt_229 (n := (S 228 (-1))) (bl1) (by omega) (by omega) (v := vy) (hvy) (fun r56 => ?_)
                  refine wa_cv 72 rfl (wy_pr rfl) wt_72 (M2 := mS [141, 142]) rfl at_XH_addValue ⟨_, rfl⟩ rfl rfl ⟨trivial, trivial, (Or.inr ⟨wy_pr rfl, mS_no rfl⟩), trivial, trivial, trivial⟩ trivial (fun _ _ q => mS_sub (by decide) q) (avH_ok (S := S) (k := gb) (kd := ky) (bt := vy) (st := st) (sz := sz) (rm := rm) (cs := cs) (v0 := v0) hC hI h2 hcs hl14 hz14 hth hgb hn2 hst hsz hrm hs1 hv0 hv1 (by omega) hkr hvr) (fun oq57 Sq57 hp58 q57 => ?_)
                  rcases q57 with ⟨rfl, hav⟩
                  show wJ _ _ _ _ _ _ _ _ _ _
                  have fA : ∀ (j : Nat) (x : Int), j < 237 → j ≠ 141 → j ≠ 142 → (j < 133 ∨ 135 < j) → j ≠ 140 → j ≠ 150 → Sq57 j x = S j x := fun j x j0 j1 j2 j3 j4 j5 => hav.2.2.2.2.2.2.1 j x (by omega) (by have hg : wG = 1000000 := rfl; omega) j1 j2 (Or.inl (by omega)) (Or.inl j4) (Or.inl j5)
                  refine wa_aload_n (n := 0) rfl ?_
                  refine wb_gf4 158 rfl (wy_pr rfl) wt_158 wf_5_0 (v := 72) wl_158_0 ?_
                  refine wb_gf4 72 rfl (wy_pr rfl) wt_72 wf_2_2 (v := 126) wl_72_2 ?_
                  refine wa_iconst ?_
                  refine wb_aald5 126 1 rfl rfl (wy_pr rfl) wt_126 (by rw [show _ = _ from (((hav.2.2.2.2.2.2.1 126 (-1) (by decide) (by decide) (by decide) (by decide) (Or.inl (by decide)) (by omega) (by omega)).trans ((cl_126 hC))))]; omega) wl_126_1 ?_
                  refine wa_iload_n (n := 2) rfl ?_
                  refine wa_aload_n (n := 0) rfl ?_
                  refine wb_gf4 158 rfl (wy_pr rfl) wt_158 wf_5_3 (v := 47) wl_158_3 ?_
                  refine wa_iconst ?_
                  refine wb_aald5 47 4 rfl rfl (wy_pr rfl) wt_47 (by rw [show _ = _ from (((hav.2.2.2.2.2.2.1 47 (-1) (by decide) (by decide) (by decide) (by decide) (Or.inl (by decide)) (by omega) (by omega)).trans ((cl_47 hC))))]; omega) wl_47_4 ?_
                  refine wa_iload_n (n := 1) rfl ?_
                  refine wb_iald 52 rfl (wy_pr rfl) wt_52 (n := (S 48 (-1))) (((hav.2.2.2.2.2.2.1 52 (-1) (by decide) (by decide) (by decide) (by decide) (Or.inl (by decide)) (by omega) (by omega)).trans ((hl.2.2.1 4 (by decide))))) (by omega) (by omega) (v := r) (((hav.2.2.2.2.2.2.1 52 x (by decide) (by decide) (by decide) (by decide) (Or.inl (by decide)) (by omega) (by omega)).trans (he52))) (fun r59 => ?_)
                  refine wb_iast 128 rfl (wy_pr rfl) wt_128 (n := (S 127 (-1))) (((hav.2.2.2.2.2.2.1 128 (-1) (by decide) (by decide) (by decide) (by decide) (Or.inl (by decide)) (by omega) (by omega)).trans ((hth 1 (by decide))))) (by omega) (by omega) ⟨(by omega), (by omega)⟩ ?_
                  refine wa_aload_n (n := 0) rfl ?_
                  refine wb_gf4 158 rfl (wy_pr rfl) wt_158 wf_5_0 (v := 72) wl_158_0 ?_
                  refine wa_iload_n (n := 2) rfl ?_
                  have eL : ∀ x : Nat, x < 10 → (w_up Sq57 128 gb r) (127 + x) (-1) = (w_up Sq57 128 gb r) 127 (-1) := fun x hx2 => by
                    have z1 : ∀ y : Nat, y < 10 → Sq57 (127 + y) (-1) = S (127 + y) (-1) := fun y hy => hav.2.2.2.2.2.2.1 (127 + y) (-1) (by omega) (by have hg : wG = 1000000 := rfl; omega) (by omega) (by omega) (Or.inr (by omega)) (Or.inl (by omega)) (Or.inl (by omega))
                    rw [w_up_at (by omega), w_up_at (by omega), z1 x hx2, show Sq57 127 (-1) = S 127 (-1) from z1 0 (by first | decide | omega)]
                    exact hth x hx2
                  have e127 : (w_up Sq57 128 gb r) 127 (-1) = S 127 (-1) := (w_up_slot (by first | decide | omega)).trans (fA 127 (-1) (by first | decide | omega) (by first | decide | omega) (by first | decide | omega) (by first | decide | omega) (by first | decide | omega) (by first | decide | omega))
                  have e130 : (w_up Sq57 128 gb r) 130 gb = ep := (w_up_slot (by first | decide | omega)).trans ((fA 130 gb (by first | decide | omega) (by first | decide | omega) (by first | decide | omega) (by first | decide | omega) (by first | decide | omega) (by first | decide | omega)).trans hep)
                  have e72 : (w_up Sq57 128 gb r) 72 11 = ch := (w_up_slot (by first | decide | omega)).trans ((fA 72 11 (by first | decide | omega) (by first | decide | omega) (by first | decide | omega) (by first | decide | omega) (by first | decide | omega) (by first | decide | omega)).trans hch)
                  refine wa_cv 72 rfl (wy_pr rfl) wt_72 (M2 := mS []) rfl at_XH_noteChange ⟨_, rfl⟩ rfl rfl ⟨trivial, trivial, (Or.inr ⟨wy_pr rfl, mS_no rfl⟩), trivial, trivial, trivial⟩ trivial (fun _ _ q => mS_sub (by decide) q) (wJ_mono (nc_ok (S := (w_up Sq57 128 gb r)) (k := gb) (ep := ep) (ch := ch) eL ⟨by omega, by omega⟩ (by omega) e130 hep1 e72 hch1 (w_CL_up (avH_cl hC hav hgb.1) hgb.1)) (fun o Z hz => (⟨hz.1, hz.2⟩ : o = .inl none ∧ ncZ gb r ep ch Sq57 = Z))) (fun oq60 Sq60 hp61 q60 => ?_)
                  rcases q60 with ⟨rfl, rfl⟩
                  show wJ _ _ _ _ _ _ _ _ _ _
                  refine wa_fall ⟨_, rfl⟩ ?_
                  refine wa_aload_n (n := 0) rfl ?_
                  refine wa_aload_n (n := 0) rfl ?_
                  refine wb_gf5 158 rfl (wy_pr rfl) wt_158 wf_5_5 (v := 227) (((ncZ_e 158 5 (by decide) (by omega)).trans (((hav.2.2.2.2.2.2.1 158 5 (by decide) (by decide) (by decide) (by decide) (Or.inl (by decide)) (by omega) (by omega)).trans (l5))))) (fun r62 => ?_)
                  refine wb_gf4 227 rfl (wy_pr rfl) wt_227 wf_7_0 (v := 228) wl_227_0 ?_
                  refine wa_iload_n (n := 3) rfl ?_
                  refine wb_bald 228 rfl (wy_pr rfl) wt_228 (n := (S 228 (-1))) (((ncZ_e 228 (-1) (by decide) (by omega)).trans (((hav.2.2.2.2.2.2.1 228 (-1) (by decide) (by decide) (by decide) (by decide) (Or.inl (by decide)) (by omega) (by omega)).trans (rfl))))) (by omega) (by omega) (v := ky) (((ncZ_e 228 (h - 1) (by decide) (by omega)).trans (((hav.2.2.2.2.2.2.1 228 (h - 1) (by decide) (by decide) (by decide) (by decide) (Or.inl (by decide)) (by omega) (by omega)).trans (hky))))) (fun r63 => ?_)
                  refine wa_aload_n (n := 0) rfl ?_
                  refine wb_gf5 158 rfl (wy_pr rfl) wt_158 wf_5_5 (v := 227) (((ncZ_e 158 5 (by decide) (by omega)).trans (((hav.2.2.2.2.2.2.1 158 5 (by decide) (by decide) (by decide) (by decide) (Or.inl (by decide)) (by omega) (by omega)).trans (l5))))) (fun r64 => ?_)
                  refine wb_gf4 227 rfl (wy_pr rfl) wt_227 wf_7_1 (v := 229) wl_227_1 ?_
                  refine wa_iload_n (n := 3) rfl ?_
                  refine wb_lald 229 rfl (wy_pr rfl) wt_229 (n := (S 228 (-1))) (((ncZ_e 229 (-1) (by decide) (by omega)).trans (((hav.2.2.2.2.2.2.1 229 (-1) (by decide) (by decide) (by decide) (by decide) (Or.inl (by decide)) (by omega) (by omega)).trans (bl1))))) (by omega) (by omega) (v := vy) (((ncZ_e 229 (h - 1) (by decide) (by omega)).trans (((hav.2.2.2.2.2.2.1 229 (h - 1) (by decide) (by decide) (by decide) (by decide) (Or.inl (by decide)) (by omega) (by omega)).trans (hvy))))) (fun r65 => ?_)
                  refine wa_cv 158 rfl (wy_pr rfl) wt_158 (M2 := mS [228, 229]) rfl at_XL_giveValue ⟨_, rfl⟩ rfl rfl ⟨trivial, trivial, (Or.inr ⟨wy_pr rfl, mS_no rfl⟩), trivial, trivial, trivial⟩ trivial (fun _ _ q => mS_sub (by decide) q) (glx_226 (S := (ncZ gb r ep ch Sq57)) (k := ky) (v := vy) (h := h) (c := c) (p := p) (ba := ba) (ncZ_c (avH_cl hC hav hgb.1) hgb.1) (ncZ_g hav.2.2.2.2.2.2.2.1 hgb.1) (((ncZ_e 158 4 (by decide) (by omega)).trans (((hav.2.2.2.2.2.2.1 158 4 (by decide) (by decide) (by decide) (by decide) (Or.inl (by decide)) (by omega) (by omega)).trans (l4))))) (((ncZ_e 158 5 (by decide) (by omega)).trans (((hav.2.2.2.2.2.2.1 158 5 (by decide) (by decide) (by decide) (by decide) (Or.inl (by decide)) (by omega) (by omega)).trans (l5))))) (((ncZ_e 158 8 (by decide) (by omega)).trans (((hav.2.2.2.2.2.2.1 158 8 (by decide) (by decide) (by decide) (by decide) (Or.inl (by decide)) (by omega) (by omega)).trans (l8))))) (((ncZ_e 226 4 (by decide) (by omega)).trans (((hav.2.2.2.2.2.2.1 226 4 (by decide) (by decide) (by decide) (by decide) (Or.inl (by decide)) (by omega) (by omega)).trans (bc))))) (((ncZ_e 231 (c - 1) (by decide) (by omega)).trans (((hav.2.2.2.2.2.2.1 231 (c - 1) (by decide) (by decide) (by decide) (by decide) (Or.inl (by decide)) (by omega) (by omega)).trans (bp))))) (by rw [show _ = _ from (((ncZ_e 229 (-1) (by decide) (by omega)).trans (((hav.2.2.2.2.2.2.1 229 (-1) (by decide) (by decide) (by decide) (by decide) (Or.inl (by decide)) (by omega) (by omega)).trans (bl1))))), show _ = _ from (((ncZ_e 228 (-1) (by decide) (by omega)).trans (((hav.2.2.2.2.2.2.1 228 (-1) (by decide) (by decide) (by decide) (by decide) (Or.inl (by decide)) (by omega) (by omega)).trans (rfl)))))]) (by rw [show _ = _ from (((ncZ_e 228 (-1) (by decide) (by omega)).trans (((hav.2.2.2.2.2.2.1 228 (-1) (by decide) (by decide) (by decide) (by decide) (Or.inl (by decide)) (by omega) (by omega)).trans (rfl)))))]; exact ⟨bl2, bl3⟩) (by rw [show _ = _ from (((ncZ_e 228 (-1) (by decide) (by omega)).trans (((hav.2.2.2.2.2.2.1 228 (-1) (by decide) (by decide) (by decide) (by decide) (Or.inl (by decide)) (by omega) (by omega)).trans (rfl)))))]; omega) ⟨by omega, by omega⟩ ⟨by omega, by omega⟩ ⟨by omega, by omega⟩ ⟨by omega, by omega⟩) (fun oq66 Sq66 hp67 q66 => ?_)
                  rcases q66 with ⟨rfl, hgv66⟩
                  show wJ _ _ _ _ _ _ _ _ _ _
                  refine wa_return rfl ?_
                  show wJ _ _ _ _ _ _ _ _ _ _
                  refine wa_goto ⟨_, rfl⟩ ?_
                  refine wa_return rfl ?_
                  show wJ _ _ _ _ _ _ _ _ _ _
                  refine wa_goto ⟨_, rfl⟩ ?_
                  refine wa_return rfl ?_
                  exact ⟨rfl, Or.inr ⟨by omega, by omega, Sq57, hav, hgv66⟩⟩
                · skip
                  exact absurd c52 (by omega)
          · skip
            exact absurd c43 (by omega)
    · skip
      exact absurd c7 (by omega)
  · skip
    exact absurd c4 (by omega)
end Wgn
