/-! PART hj: act of the class's linker on a host's fields. -/
section Whj
variable {xs : List (Nat × List Int32)} {M : Nat → Prop} {d : Nat} {S Z A : wS} {T : Int → Int} {cs : List hCR} {ms : List hMR} {os : Int → List Int}
set_option maxHeartbeats 4000000 in
theorem hfg1_73_215 {c p h kd ba gk gb x l wh fi vk vb : Int} (hP : xP 215 c p h S) (hl : cSl S) (l4 : S 158 4 = 215) (l5 : S 158 5 = 216) (l7 : S 158 7 = kd) (l8 : S 158 8 = ba) (l9 : S 158 9 = gk) (l10 : S 158 10 = gb) (hx : 0 ≤ x ∧ x < S 48 (-1)) (hba : 0 ≤ ba ∧ ba < h) (h72 : S 72 1 = 73) (e48 : S 48 x = l) (hl12 : l = 1 ∨ l = 2) (he51 : S 51 x = wh) (hwh : 0 ≤ wh ∧ wh < 400) (hso : S 98 wh = 0) (hstt : S 99 wh = 1) (hfi : S 112 wh = fi) (hrl : S 118 (-1) = S 117 (-1)) (hrb : 0 ≤ fi ∧ fi < S 117 (-1) ∧ S 117 (-1) ≤ 8388608) (hvk : S 117 fi = vk) (hvb : S 118 fi = vb) (hvr : -128 ≤ vk ∧ vk ≤ 127) (hvs : -9223372036854775808 ≤ vb ∧ vb ≤ 9223372036854775807) (hkd : kd = 0) : wJ (pe_GA xs) wY0 (mS [217, 218]) (d + 9) t_XL_act ((pe_at t_XL_act.bl 0).getD (0, [])).2 [(0, (2, 158)), (1, (0, x))] [] S (fun o Z => o = .inl none ∧ sO 215 h c p (h - ba) vk vb S Z) := by
  obtain ⟨⟨hC, hI⟩, ⟨bc, bc0, bc1⟩, ⟨bp, bp0, bp1⟩, ⟨bh, bh0, bh1, bh2⟩, bl1, bl2, bl3⟩ := hP
  replace bp : S 220 (c - 1) = p := bp
  replace bh : S 216 2 = h := bh
  replace bh2 : h ≤ S 217 (-1) := bh2
  replace bl1 : S 218 (-1) = S 217 (-1) := bl1
  replace bl2 : 64 ≤ S 217 (-1) := bl2
  replace bl3 : S 217 (-1) ≤ 4095 := bl3
  have h35 := hl.2.1
  have h48 := hl.2.2.2
  refine wa_aload_n (n := 0) rfl ?_
  refine wb_gf4 158 rfl (wy_pr rfl) wt_158 wf_5_3 (v := 47) wl_158_3 ?_
  refine wa_iconst ?_
  refine wb_aald5 47 3 rfl rfl (wy_pr rfl) wt_47 (by rw [show _ = _ from ((cl_47 hC))]; omega) wl_47_3 ?_
  refine wa_iload_n (n := 1) rfl ?_
  refine wb_iald 51 rfl (wy_pr rfl) wt_51 (n := (S 48 (-1))) ((hl.2.2.1 3 (by decide))) (by omega) (by omega) (v := wh) (he51) (fun r1 => ?_)
  refine wa_istore_n (n := 2) rfl ?_
  refine wa_aload_n (n := 0) rfl ?_
  refine wb_gf4 158 rfl (wy_pr rfl) wt_158 wf_5_3 (v := 47) wl_158_3 ?_
  refine wa_iconst ?_
  refine wb_aald5 47 0 rfl rfl (wy_pr rfl) wt_47 (by rw [show _ = _ from ((cl_47 hC))]; omega) wl_47_0 ?_
  refine wa_iload_n (n := 1) rfl ?_
  refine wb_iald 48 rfl (wy_pr rfl) wt_48 (n := (S 48 (-1))) (rfl) (by omega) (by omega) (v := l) (e48) (fun r2 => ?_)
  by_cases c3 : l = 0
  · exact absurd c3 (by omega)
  by_cases c4 : l = 3
  · exact absurd c4 (by omega)
  refine wa_lw (tb := 0) (w_rg0 (by omega) (by omega)) (q := (116, 7)) (lw_df [0, 3] rfl (by simp only [List.mem_cons, List.not_mem_nil, or_false, not_or]; omega) (by first | rfl | decide)) ⟨_, rfl⟩ ?_
  refine wa_aload_n (n := 0) rfl ?_
  refine wb_gf4 158 rfl (wy_pr rfl) wt_158 wf_5_0 (v := 72) wl_158_0 ?_
  refine wb_gf5 72 rfl (wy_pr rfl) wt_72 wf_2_1 (v := 73) (h72) (fun r5 => ?_)
  refine wb_gf4 73 rfl (wy_pr rfl) wt_73 wf_3_3 (v := 96) wl_73_3 ?_
  refine wa_iconst ?_
  refine wb_aald5 96 1 rfl rfl (wy_pr rfl) wt_96 (by rw [show _ = _ from ((cl_96 hC))]; omega) wl_96_1 ?_
  refine wa_iload_n (n := 2) rfl ?_
  refine wb_iald 98 rfl (wy_pr rfl) wt_98 (n := 400) ((cl_98 hC)) (by omega) (by omega) (v := 0) (hso) (fun r6 => ?_)
  refine wa_ifne (w_rg0 (by omega) (by omega)) ⟨_, rfl⟩ (fun c7 => ?_) (fun c7 => ?_)
  · skip
    exact absurd c7 (by omega)
  · skip
    refine wa_aload_n (n := 0) rfl ?_
    refine wa_iload_n (n := 2) rfl ?_
    refine wa_cv 158 rfl (wy_pr rfl) wt_158 (M2 := mS [217, 218]) rfl at_XL_actOnField ⟨_, rfl⟩ rfl rfl ⟨trivial, (Or.inr ⟨wy_pr rfl, mS_no rfl⟩), trivial, trivial⟩ trivial (fun _ _ q => q) ?_ (fun _ _ _ q => q)
    refine wa_aload_n (n := 0) rfl ?_
    refine wa_iload_n (n := 1) rfl ?_
    refine wa_cv 158 rfl (wy_pr rfl) wt_158 (M2 := mS [217, 218]) rfl at_XL_rowOf ⟨_, rfl⟩ rfl rfl ⟨(Or.inr ⟨wy_pr rfl, mS_no rfl⟩), trivial, trivial⟩ trivial (fun _ _ q => q) ?_ (fun _ _ _ q => q)
    refine wa_aload_n (n := 0) rfl ?_
    refine wb_gf4 158 rfl (wy_pr rfl) wt_158 wf_5_0 (v := 72) wl_158_0 ?_
    refine wb_gf5 72 rfl (wy_pr rfl) wt_72 wf_2_1 (v := 73) (h72) (fun r8 => ?_)
    refine wb_gf4 73 rfl (wy_pr rfl) wt_73 wf_3_3 (v := 96) wl_73_3 ?_
    refine wa_iconst ?_
    refine wb_aald5 96 2 rfl rfl (wy_pr rfl) wt_96 (by rw [show _ = _ from ((cl_96 hC))]; omega) wl_96_2 ?_
    refine wa_iload_n (n := 1) rfl ?_
    refine wb_iald 99 rfl (wy_pr rfl) wt_99 (n := 400) ((cl_99 hC)) (by omega) (by omega) (v := 1) (hstt) (fun r9 => ?_)
    refine wa_iconst ?_
    refine wa_icmpne (w_rg0 (by omega) (by omega)) (w_rg0 (by omega) (by omega)) ⟨_, rfl⟩ (fun c10 => ?_) (fun c10 => ?_)
    · skip
      exact absurd c10 (by omega)
    · skip
      refine wa_aload_n (n := 0) rfl ?_
      refine wb_gf4 158 rfl (wy_pr rfl) wt_158 wf_5_0 (v := 72) wl_158_0 ?_
      refine wb_gf5 72 rfl (wy_pr rfl) wt_72 wf_2_1 (v := 73) (h72) (fun r11 => ?_)
      refine wb_gf4 73 rfl (wy_pr rfl) wt_73 wf_3_7 (v := 116) wl_73_7 ?_
      refine wa_goto ⟨_, rfl⟩ ?_
      refine wa_oreturn rfl ?_
      show wJ _ _ _ _ _ _ _ _ _ _
      refine wa_astore_n (n := 2) rfl ?_
      refine wa_aload_n (n := 0) rfl ?_
      refine wa_iload_n (n := 1) rfl ?_
      refine wa_cv 158 rfl (wy_pr rfl) wt_158 (M2 := mS [217, 218]) rfl at_XL_placeOf ⟨_, rfl⟩ rfl rfl ⟨(Or.inr ⟨wy_pr rfl, mS_no rfl⟩), (Or.inr ⟨wy_pr rfl, mS_no rfl⟩), trivial, trivial⟩ trivial (fun _ _ q => q) ?_ (fun _ _ _ q => q)
      refine wa_aload_n (n := 0) rfl ?_
      refine wb_gf4 158 rfl (wy_pr rfl) wt_158 wf_5_0 (v := 72) wl_158_0 ?_
      refine wb_gf5 72 rfl (wy_pr rfl) wt_72 wf_2_1 (v := 73) (h72) (fun r12 => ?_)
      refine wb_gf4 73 rfl (wy_pr rfl) wt_73 wf_3_3 (v := 96) wl_73_3 ?_
      refine wa_bipush (w_rg2 (by omega) (by omega)) ?_
      refine wb_aald5 96 15 rfl rfl (wy_pr rfl) wt_96 (by rw [show _ = _ from ((cl_96 hC))]; omega) wl_96_15 ?_
      refine wa_iload_n (n := 1) rfl ?_
      refine wb_iald 112 rfl (wy_pr rfl) wt_112 (n := 400) ((cl_112 hC)) (by omega) (by omega) (v := fi) (hfi) (fun r13 => ?_)
      refine wa_istore_n (n := 2) rfl ?_
      refine wa_aload_n (n := 0) rfl ?_
      refine wb_gf4 158 rfl (wy_pr rfl) wt_158 wf_5_0 (v := 72) wl_158_0 ?_
      refine wb_gf5 72 rfl (wy_pr rfl) wt_72 wf_2_1 (v := 73) (h72) (fun r14 => ?_)
      refine wb_gf4 73 rfl (wy_pr rfl) wt_73 wf_3_3 (v := 96) wl_73_3 ?_
      refine wa_iconst ?_
      refine wb_aald5 96 2 rfl rfl (wy_pr rfl) wt_96 (by rw [show _ = _ from ((cl_96 hC))]; omega) wl_96_2 ?_
      refine wa_iload_n (n := 1) rfl ?_
      refine wb_iald 99 rfl (wy_pr rfl) wt_99 (n := 400) ((cl_99 hC)) (by omega) (by omega) (v := 1) (hstt) (fun r15 => ?_)
      refine wa_iconst ?_
      refine wa_icmpne (w_rg0 (by omega) (by omega)) (w_rg0 (by omega) (by omega)) ⟨_, rfl⟩ (fun c16 => ?_) (fun c16 => ?_)
      · skip
        exact absurd c16 (by omega)
      · skip
        refine wa_iconst ?_
        refine wa_goto ⟨_, rfl⟩ ?_
        refine wa_istore_n (n := 3) rfl ?_
        refine wa_iload_n (n := 3) rfl ?_
        refine wa_ifeq (w_rg0 (by omega) (by omega)) ⟨_, rfl⟩ (fun c17 => ?_) (fun c17 => ?_)
        · skip
          exact absurd c17 (by omega)
        · skip
          refine wa_iload_n (n := 2) rfl ?_
          refine wa_goto ⟨_, rfl⟩ ?_
          refine wa_ireturn rfl ?_
          show wJ _ _ _ _ _ _ _ _ _ _
          refine wa_istore_n (n := 3) rfl ?_
          refine wa_aload_n (n := 0) rfl ?_
          refine wb_gfi 158 rfl (wy_pr rfl) wt_158 wf_5_7 (v := kd) (l7) (fun r18 => ?_)
          refine wa_ifne (w_rg0 (by omega) (by omega)) ⟨_, rfl⟩ (fun c19 => ?_) (fun c19 => ?_)
          · skip
            exact absurd c19 (by omega)
          · skip
            refine wa_aload_n (n := 0) rfl ?_
            refine wa_aload_n (n := 2) rfl ?_
            refine wb_gf4 116 rfl (wy_pr rfl) wt_116 wf_7_0 (v := 117) wl_116_0 ?_
            refine wa_iload_n (n := 3) rfl ?_
            refine wb_bald 117 rfl (wy_pr rfl) wt_117 (n := (S 117 (-1))) (rfl) (by omega) (by omega) (v := vk) (hvk) (fun r20 => ?_)
            refine wa_aload_n (n := 2) rfl ?_
            refine wb_gf4 116 rfl (wy_pr rfl) wt_116 wf_7_1 (v := 118) wl_116_1 ?_
            refine wa_iload_n (n := 3) rfl ?_
            refine wb_lald 118 rfl (wy_pr rfl) wt_118 (n := (S 117 (-1))) (hrl) (by omega) (by omega) (v := vb) (hvb) (fun r21 => ?_)
            refine wa_cv 158 rfl (wy_pr rfl) wt_158 (M2 := mS [217, 218]) rfl at_XL_giveValue ⟨_, rfl⟩ rfl rfl ⟨trivial, (Or.inr ⟨wy_pr rfl, mS_no rfl⟩), (Or.inr ⟨wy_pr rfl, mS_no rfl⟩), trivial, trivial⟩ trivial (fun _ _ q => mS_sub (by decide) q) (glx_215 (S := S) (k := vk) (v := vb) (h := h) (c := c) (p := p) (ba := ba) hC hI (l4) (l5) (l8) (bc) (bp) (((bl1)).trans ((rfl)).symm) (by have e : S 217 (-1) = S 217 (-1) := (rfl); rw [e]; exact ⟨bl2, bl3⟩) (by have e : S 217 (-1) = S 217 (-1) := (rfl); omega) ⟨by omega, by omega⟩ ⟨by omega, by omega⟩ ⟨by omega, by omega⟩ ⟨by omega, by omega⟩) (fun oq22 Sq22 hp23 q22 => ?_)
            rcases q22 with ⟨rfl, hgv22⟩
            show wJ _ _ _ _ _ _ _ _ _ _
            refine wa_goto ⟨_, rfl⟩ ?_
            refine wa_return rfl ?_
            show wJ _ _ _ _ _ _ _ _ _ _
            refine wa_goto ⟨_, rfl⟩ ?_
            refine wa_return rfl ?_
            exact ⟨rfl, hgv22⟩
set_option maxHeartbeats 4000000 in
theorem hfs1_73_215 {c p h kd ba gk gb x l wh fi ky vy es ty : Int} (hP : xP 215 c p h S) (hl : cSl S) (l4 : S 158 4 = 215) (l5 : S 158 5 = 216) (l7 : S 158 7 = kd) (l8 : S 158 8 = ba) (l9 : S 158 9 = gk) (l10 : S 158 10 = gb) (hx : 0 ≤ x ∧ x < S 48 (-1)) (hba : 0 ≤ ba ∧ ba < h) (hK : KC 87 97 93 114 115 74 73 T cs ms os S) (hw : wHo cs ms os) (h72 : S 72 1 = 73) (e48 : S 48 x = l) (hl12 : l = 1 ∨ l = 2) (he51 : S 51 x = wh) (hwh : 0 ≤ wh ∧ wh < 400) (hso : S 98 wh = 0) (hstt : S 99 wh = 1) (hfi : S 112 wh = fi) (hrl : S 118 (-1) = S 117 (-1)) (hrb : 0 ≤ fi ∧ fi < S 117 (-1) ∧ S 117 (-1) ≤ 8388608) (hky : S 217 (h - 1) = ky) (hvy : S 218 (h - 1) = vy) (hkr : -128 ≤ ky ∧ ky ≤ 127) (hvr : -9223372036854775808 ≤ vy ∧ vy ≤ 9223372036854775807) (l13 : S 158 13 = es) (hes : 0 ≤ es ∧ es < 9 + (cs.length : Int)) (hty : S 100 wh = ty) (htr : 0 ≤ ty ∧ ty < 9 + (cs.length : Int)) (hkd : kd = 1) : wJ (pe_GA xs) wY0 (mS [217, 218]) (d + 9) t_XL_act ((pe_at t_XL_act.bl 0).getD (0, [])).2 [(0, (2, 158)), (1, (0, x))] [] S (fun o Z => o = .inl none ∧ ((gTB cs es ty true = true ∧ sO 215 h c p (h - ba) ky vy (w_up (w_up S 117 fi ky) 118 fi vy) Z) ∨ (gTB cs es ty true = false ∧ w_up S 215 16 7 = Z))) := by
  obtain ⟨⟨hC, hI⟩, ⟨bc, bc0, bc1⟩, ⟨bp, bp0, bp1⟩, ⟨bh, bh0, bh1, bh2⟩, bl1, bl2, bl3⟩ := hP
  replace bp : S 220 (c - 1) = p := bp
  replace bh : S 216 2 = h := bh
  replace bh2 : h ≤ S 217 (-1) := bh2
  replace bl1 : S 218 (-1) = S 217 (-1) := bl1
  replace bl2 : 64 ≤ S 217 (-1) := bl2
  replace bl3 : S 217 (-1) ≤ 4095 := bl3
  have h35 := hl.2.1
  have h48 := hl.2.2.2
  have hn60 := hw.1
  refine wa_aload_n (n := 0) rfl ?_
  refine wb_gf4 158 rfl (wy_pr rfl) wt_158 wf_5_3 (v := 47) wl_158_3 ?_
  refine wa_iconst ?_
  refine wb_aald5 47 3 rfl rfl (wy_pr rfl) wt_47 (by rw [show _ = _ from ((cl_47 hC))]; omega) wl_47_3 ?_
  refine wa_iload_n (n := 1) rfl ?_
  refine wb_iald 51 rfl (wy_pr rfl) wt_51 (n := (S 48 (-1))) ((hl.2.2.1 3 (by decide))) (by omega) (by omega) (v := wh) (he51) (fun r1 => ?_)
  refine wa_istore_n (n := 2) rfl ?_
  refine wa_aload_n (n := 0) rfl ?_
  refine wb_gf4 158 rfl (wy_pr rfl) wt_158 wf_5_3 (v := 47) wl_158_3 ?_
  refine wa_iconst ?_
  refine wb_aald5 47 0 rfl rfl (wy_pr rfl) wt_47 (by rw [show _ = _ from ((cl_47 hC))]; omega) wl_47_0 ?_
  refine wa_iload_n (n := 1) rfl ?_
  refine wb_iald 48 rfl (wy_pr rfl) wt_48 (n := (S 48 (-1))) (rfl) (by omega) (by omega) (v := l) (e48) (fun r2 => ?_)
  by_cases c3 : l = 0
  · exact absurd c3 (by omega)
  by_cases c4 : l = 3
  · exact absurd c4 (by omega)
  refine wa_lw (tb := 0) (w_rg0 (by omega) (by omega)) (q := (116, 7)) (lw_df [0, 3] rfl (by simp only [List.mem_cons, List.not_mem_nil, or_false, not_or]; omega) (by first | rfl | decide)) ⟨_, rfl⟩ ?_
  refine wa_aload_n (n := 0) rfl ?_
  refine wb_gf4 158 rfl (wy_pr rfl) wt_158 wf_5_0 (v := 72) wl_158_0 ?_
  refine wb_gf5 72 rfl (wy_pr rfl) wt_72 wf_2_1 (v := 73) (h72) (fun r5 => ?_)
  refine wb_gf4 73 rfl (wy_pr rfl) wt_73 wf_3_3 (v := 96) wl_73_3 ?_
  refine wa_iconst ?_
  refine wb_aald5 96 1 rfl rfl (wy_pr rfl) wt_96 (by rw [show _ = _ from ((cl_96 hC))]; omega) wl_96_1 ?_
  refine wa_iload_n (n := 2) rfl ?_
  refine wb_iald 98 rfl (wy_pr rfl) wt_98 (n := 400) ((cl_98 hC)) (by omega) (by omega) (v := 0) (hso) (fun r6 => ?_)
  refine wa_ifne (w_rg0 (by omega) (by omega)) ⟨_, rfl⟩ (fun c7 => ?_) (fun c7 => ?_)
  · skip
    exact absurd c7 (by omega)
  · skip
    refine wa_aload_n (n := 0) rfl ?_
    refine wa_iload_n (n := 2) rfl ?_
    refine wa_cv 158 rfl (wy_pr rfl) wt_158 (M2 := mS [217, 218]) rfl at_XL_actOnField ⟨_, rfl⟩ rfl rfl ⟨trivial, (Or.inr ⟨wy_pr rfl, mS_no rfl⟩), trivial, trivial⟩ trivial (fun _ _ q => q) ?_ (fun _ _ _ q => q)
    refine wa_aload_n (n := 0) rfl ?_
    refine wa_iload_n (n := 1) rfl ?_
    refine wa_cv 158 rfl (wy_pr rfl) wt_158 (M2 := mS [217, 218]) rfl at_XL_rowOf ⟨_, rfl⟩ rfl rfl ⟨(Or.inr ⟨wy_pr rfl, mS_no rfl⟩), trivial, trivial⟩ trivial (fun _ _ q => q) ?_ (fun _ _ _ q => q)
    refine wa_aload_n (n := 0) rfl ?_
    refine wb_gf4 158 rfl (wy_pr rfl) wt_158 wf_5_0 (v := 72) wl_158_0 ?_
    refine wb_gf5 72 rfl (wy_pr rfl) wt_72 wf_2_1 (v := 73) (h72) (fun r8 => ?_)
    refine wb_gf4 73 rfl (wy_pr rfl) wt_73 wf_3_3 (v := 96) wl_73_3 ?_
    refine wa_iconst ?_
    refine wb_aald5 96 2 rfl rfl (wy_pr rfl) wt_96 (by rw [show _ = _ from ((cl_96 hC))]; omega) wl_96_2 ?_
    refine wa_iload_n (n := 1) rfl ?_
    refine wb_iald 99 rfl (wy_pr rfl) wt_99 (n := 400) ((cl_99 hC)) (by omega) (by omega) (v := 1) (hstt) (fun r9 => ?_)
    refine wa_iconst ?_
    refine wa_icmpne (w_rg0 (by omega) (by omega)) (w_rg0 (by omega) (by omega)) ⟨_, rfl⟩ (fun c10 => ?_) (fun c10 => ?_)
    · skip
      exact absurd c10 (by omega)
    · skip
      refine wa_aload_n (n := 0) rfl ?_
      refine wb_gf4 158 rfl (wy_pr rfl) wt_158 wf_5_0 (v := 72) wl_158_0 ?_
      refine wb_gf5 72 rfl (wy_pr rfl) wt_72 wf_2_1 (v := 73) (h72) (fun r11 => ?_)
      refine wb_gf4 73 rfl (wy_pr rfl) wt_73 wf_3_7 (v := 116) wl_73_7 ?_
      refine wa_goto ⟨_, rfl⟩ ?_
      refine wa_oreturn rfl ?_
      show wJ _ _ _ _ _ _ _ _ _ _
      refine wa_astore_n (n := 2) rfl ?_
      refine wa_aload_n (n := 0) rfl ?_
      refine wa_iload_n (n := 1) rfl ?_
      refine wa_cv 158 rfl (wy_pr rfl) wt_158 (M2 := mS [217, 218]) rfl at_XL_placeOf ⟨_, rfl⟩ rfl rfl ⟨(Or.inr ⟨wy_pr rfl, mS_no rfl⟩), (Or.inr ⟨wy_pr rfl, mS_no rfl⟩), trivial, trivial⟩ trivial (fun _ _ q => q) ?_ (fun _ _ _ q => q)
      refine wa_aload_n (n := 0) rfl ?_
      refine wb_gf4 158 rfl (wy_pr rfl) wt_158 wf_5_0 (v := 72) wl_158_0 ?_
      refine wb_gf5 72 rfl (wy_pr rfl) wt_72 wf_2_1 (v := 73) (h72) (fun r12 => ?_)
      refine wb_gf4 73 rfl (wy_pr rfl) wt_73 wf_3_3 (v := 96) wl_73_3 ?_
      refine wa_bipush (w_rg2 (by omega) (by omega)) ?_
      refine wb_aald5 96 15 rfl rfl (wy_pr rfl) wt_96 (by rw [show _ = _ from ((cl_96 hC))]; omega) wl_96_15 ?_
      refine wa_iload_n (n := 1) rfl ?_
      refine wb_iald 112 rfl (wy_pr rfl) wt_112 (n := 400) ((cl_112 hC)) (by omega) (by omega) (v := fi) (hfi) (fun r13 => ?_)
      refine wa_istore_n (n := 2) rfl ?_
      refine wa_aload_n (n := 0) rfl ?_
      refine wb_gf4 158 rfl (wy_pr rfl) wt_158 wf_5_0 (v := 72) wl_158_0 ?_
      refine wb_gf5 72 rfl (wy_pr rfl) wt_72 wf_2_1 (v := 73) (h72) (fun r14 => ?_)
      refine wb_gf4 73 rfl (wy_pr rfl) wt_73 wf_3_3 (v := 96) wl_73_3 ?_
      refine wa_iconst ?_
      refine wb_aald5 96 2 rfl rfl (wy_pr rfl) wt_96 (by rw [show _ = _ from ((cl_96 hC))]; omega) wl_96_2 ?_
      refine wa_iload_n (n := 1) rfl ?_
      refine wb_iald 99 rfl (wy_pr rfl) wt_99 (n := 400) ((cl_99 hC)) (by omega) (by omega) (v := 1) (hstt) (fun r15 => ?_)
      refine wa_iconst ?_
      refine wa_icmpne (w_rg0 (by omega) (by omega)) (w_rg0 (by omega) (by omega)) ⟨_, rfl⟩ (fun c16 => ?_) (fun c16 => ?_)
      · skip
        exact absurd c16 (by omega)
      · skip
        refine wa_iconst ?_
        refine wa_goto ⟨_, rfl⟩ ?_
        refine wa_istore_n (n := 3) rfl ?_
        refine wa_iload_n (n := 3) rfl ?_
        refine wa_ifeq (w_rg0 (by omega) (by omega)) ⟨_, rfl⟩ (fun c17 => ?_) (fun c17 => ?_)
        · skip
          exact absurd c17 (by omega)
        · skip
          refine wa_iload_n (n := 2) rfl ?_
          refine wa_goto ⟨_, rfl⟩ ?_
          refine wa_ireturn rfl ?_
          show wJ _ _ _ _ _ _ _ _ _ _
          refine wa_istore_n (n := 3) rfl ?_
          refine wa_aload_n (n := 0) rfl ?_
          refine wb_gfi 158 rfl (wy_pr rfl) wt_158 wf_5_7 (v := kd) (l7) (fun r18 => ?_)
          refine wa_ifne (w_rg0 (by omega) (by omega)) ⟨_, rfl⟩ (fun c19 => ?_) (fun c19 => ?_)
          · skip
            refine wa_aload_n (n := 0) rfl ?_
            refine wb_gf4 158 rfl (wy_pr rfl) wt_158 wf_5_0 (v := 72) wl_158_0 ?_
            refine wb_gf5 72 rfl (wy_pr rfl) wt_72 wf_2_1 (v := 73) (h72) (fun r20 => ?_)
            refine wa_aload_n (n := 0) rfl ?_
            refine wb_gfl 158 rfl (wy_pr rfl) wt_158 wf_5_13 (v := es) (l13) (fun r21 => ?_)
            refine wb_l2i_r (wb_l2i_id ⟨(by omega), (by omega)⟩) ?_
            refine wa_aload_n (n := 0) rfl ?_
            refine wb_gf4 158 rfl (wy_pr rfl) wt_158 wf_5_0 (v := 72) wl_158_0 ?_
            refine wb_gf5 72 rfl (wy_pr rfl) wt_72 wf_2_1 (v := 73) (h72) (fun r22 => ?_)
            refine wb_gf4 73 rfl (wy_pr rfl) wt_73 wf_3_3 (v := 96) wl_73_3 ?_
            refine wa_iconst ?_
            refine wb_aald5 96 3 rfl rfl (wy_pr rfl) wt_96 (by rw [show _ = _ from ((cl_96 hC))]; omega) wl_96_3 ?_
            refine wa_iload_n (n := 1) rfl ?_
            refine wb_iald 100 rfl (wy_pr rfl) wt_100 (n := 400) ((cl_100 hC)) (by omega) (by omega) (v := ty) (hty) (fun r23 => ?_)
            refine wa_iconst ?_
            refine wa_cv 73 rfl (wy_pr rfl) wt_73 (M2 := fun _ => False) rfl at_XO_goesTo ⟨_, rfl⟩ rfl rfl ⟨trivial, (Or.inr ⟨wy_pr rfl, fun q => q⟩), (Or.inr ⟨wy_pr rfl, fun q => q⟩), trivial, trivial⟩ trivial (fun _ _ q => False.elim q) (gto_73 (S := S) (f := es) (q := ty) (l := 1) (lb := true) hC hK hw ⟨by omega, by omega⟩ ⟨by omega, by omega⟩ (Or.inr ⟨rfl, rfl⟩)) (fun oq24 Sq24 hp25 q24 => ?_)
            rcases q24 with ⟨rfl, rfl⟩
            show wJ _ _ _ _ _ _ _ _ _ _
            have hbg := bI_rg (gTB cs es ty true)
            refine wa_ifeq (w_rg0 (by omega) (by omega)) ⟨_, rfl⟩ (fun c26 => ?_) (fun c26 => ?_)
            · skip
              refine wa_aload_n (n := 0) rfl ?_
              refine wb_gf5 158 rfl (wy_pr rfl) wt_158 wf_5_4 (v := 215) (l4) (fun r27 => ?_)
              refine wa_bipush (w_rg2 (by omega) (by omega)) ?_
              refine wb_pfi 215 rfl (wy_pr rfl) wt_215 wf_8_16 (n := 16) rfl ⟨(by omega), (by omega)⟩ ?_
              refine wa_fall ⟨_, rfl⟩ ?_
              refine wa_return rfl ?_
              show wJ _ _ _ _ _ _ _ _ _ _
              refine wa_goto ⟨_, rfl⟩ ?_
              refine wa_return rfl ?_
              exact ⟨rfl, Or.inr ⟨bI_0 (by omega), rfl⟩⟩
            · skip
              refine wa_aload_n (n := 0) rfl ?_
              refine wb_gf5 158 rfl (wy_pr rfl) wt_158 wf_5_5 (v := 216) (l5) (fun r28 => ?_)
              refine wb_gfi 216 rfl (wy_pr rfl) wt_216 wf_7_2 (v := h) (bh) (fun r29 => ?_)
              refine wa_iconst ?_
              refine wa_isub ?_
              refine wa_istore (n := 4) rfl ?_
              refine wa_aload_n (n := 2) rfl ?_
              refine wa_iload_n (n := 3) rfl ?_
              refine wa_aload_n (n := 0) rfl ?_
              refine wb_gf5 158 rfl (wy_pr rfl) wt_158 wf_5_5 (v := 216) (l5) (fun r30 => ?_)
              refine wb_gf4 216 rfl (wy_pr rfl) wt_216 wf_7_0 (v := 217) wl_216_0 ?_
              refine wa_iload (n := 4) rfl ?_
              refine wb_bald 217 rfl (wy_pr rfl) wt_217 (n := (S 217 (-1))) (rfl) (by omega) (by omega) (v := ky) (hky) (fun r31 => ?_)
              refine wa_aload_n (n := 0) rfl ?_
              refine wb_gf5 158 rfl (wy_pr rfl) wt_158 wf_5_5 (v := 216) (l5) (fun r32 => ?_)
              refine wb_gf4 216 rfl (wy_pr rfl) wt_216 wf_7_1 (v := 218) wl_216_1 ?_
              refine wa_iload (n := 4) rfl ?_
              refine wb_lald 218 rfl (wy_pr rfl) wt_218 (n := (S 217 (-1))) (bl1) (by omega) (by omega) (v := vy) (hvy) (fun r33 => ?_)
              refine wa_cv 116 rfl (wy_pr rfl) wt_116 (M2 := mS [217, 218]) rfl at_XV_put ⟨_, rfl⟩ rfl rfl ⟨trivial, trivial, (Or.inr ⟨wy_pr rfl, mS_no rfl⟩), (Or.inr ⟨wy_pr rfl, mS_no rfl⟩), trivial, trivial⟩ trivial (fun _ _ q => q) ?_ (fun _ _ _ q => q)
              refine wa_aload_n (n := 0) rfl ?_
              refine wb_gf4 116 rfl (wy_pr rfl) wt_116 wf_7_0 (v := 117) wl_116_0 ?_
              refine wa_iload_n (n := 1) rfl ?_
              refine wa_iload_n (n := 2) rfl ?_
              refine wb_i2b_r (wb_i2b_id ⟨(by omega), (by omega)⟩) ?_
              refine wb_bast 117 rfl (wy_pr rfl) wt_117 (n := (S 117 (-1))) (rfl) (by omega) (by omega) ⟨(by omega), (by omega)⟩ ?_
              refine wa_aload_n (n := 0) rfl ?_
              refine wb_gf4 116 rfl (wy_pr rfl) wt_116 wf_7_1 (v := 118) wl_116_1 ?_
              refine wa_iload_n (n := 1) rfl ?_
              refine wa_lload_n (n := 3) rfl ?_
              refine wb_last 118 rfl (wy_pr rfl) wt_118 (n := (S 117 (-1))) ((w_up_slot (by decide)).trans (hrl)) (by omega) (by omega) ⟨(by omega), (by omega)⟩ ?_
              refine wa_return rfl ?_
              show wJ _ _ _ _ _ _ _ _ _ _
              refine wa_aload_n (n := 0) rfl ?_
              refine wa_aload_n (n := 0) rfl ?_
              refine wb_gf5 158 rfl (wy_pr rfl) wt_158 wf_5_5 (v := 216) ((w_up_slot (by decide)).trans ((w_up_slot (by decide)).trans (l5))) (fun r34 => ?_)
              refine wb_gf4 216 rfl (wy_pr rfl) wt_216 wf_7_0 (v := 217) wl_216_0 ?_
              refine wa_iload (n := 4) rfl ?_
              refine wb_bald 217 rfl (wy_pr rfl) wt_217 (n := (S 217 (-1))) ((w_up_slot (by decide)).trans ((w_up_slot (by decide)).trans (rfl))) (by omega) (by omega) (v := ky) ((w_up_slot (by decide)).trans ((w_up_slot (by decide)).trans (hky))) (fun r35 => ?_)
              refine wa_aload_n (n := 0) rfl ?_
              refine wb_gf5 158 rfl (wy_pr rfl) wt_158 wf_5_5 (v := 216) ((w_up_slot (by decide)).trans ((w_up_slot (by decide)).trans (l5))) (fun r36 => ?_)
              refine wb_gf4 216 rfl (wy_pr rfl) wt_216 wf_7_1 (v := 218) wl_216_1 ?_
              refine wa_iload (n := 4) rfl ?_
              refine wb_lald 218 rfl (wy_pr rfl) wt_218 (n := (S 217 (-1))) ((w_up_slot (by decide)).trans ((w_up_slot (by decide)).trans (bl1))) (by omega) (by omega) (v := vy) ((w_up_slot (by decide)).trans ((w_up_slot (by decide)).trans (hvy))) (fun r37 => ?_)
              refine wa_cv 158 rfl (wy_pr rfl) wt_158 (M2 := mS [217, 218]) rfl at_XL_giveValue ⟨_, rfl⟩ rfl rfl ⟨trivial, trivial, (Or.inr ⟨wy_pr rfl, mS_no rfl⟩), (Or.inr ⟨wy_pr rfl, mS_no rfl⟩), trivial, trivial⟩ trivial (fun _ _ q => mS_sub (by decide) q) (glx_215 (S := (w_up (w_up S 117 fi ky) 118 fi vy)) (k := ky) (v := vy) (h := h) (c := c) (p := p) (ba := ba) (w_CL_up (w_CL_up hC (by omega)) (by omega)) (gI_up (gI_up hI (by omega) (by omega) (by omega)) (by omega) (by omega) (by omega)) ((w_up_slot (by decide)).trans ((w_up_slot (by decide)).trans (l4))) ((w_up_slot (by decide)).trans ((w_up_slot (by decide)).trans (l5))) ((w_up_slot (by decide)).trans ((w_up_slot (by decide)).trans (l8))) ((w_up_slot (by decide)).trans ((w_up_slot (by decide)).trans (bc))) ((w_up_slot (by decide)).trans ((w_up_slot (by decide)).trans (bp))) ((((w_up_slot (by decide)).trans ((w_up_slot (by decide)).trans (bl1)))).trans (((w_up_slot (by decide)).trans ((w_up_slot (by decide)).trans (rfl)))).symm) (by have e : (w_up (w_up S 117 fi ky) 118 fi vy) 217 (-1) = S 217 (-1) := ((w_up_slot (by decide)).trans ((w_up_slot (by decide)).trans (rfl))); rw [e]; exact ⟨bl2, bl3⟩) (by have e : (w_up (w_up S 117 fi ky) 118 fi vy) 217 (-1) = S 217 (-1) := ((w_up_slot (by decide)).trans ((w_up_slot (by decide)).trans (rfl))); omega) ⟨by omega, by omega⟩ ⟨by omega, by omega⟩ ⟨by omega, by omega⟩ ⟨by omega, by omega⟩) (fun oq38 Sq38 hp39 q38 => ?_)
              rcases q38 with ⟨rfl, hgv38⟩
              show wJ _ _ _ _ _ _ _ _ _ _
              refine wa_goto ⟨_, rfl⟩ ?_
              refine wa_return rfl ?_
              show wJ _ _ _ _ _ _ _ _ _ _
              refine wa_goto ⟨_, rfl⟩ ?_
              refine wa_return rfl ?_
              exact ⟨rfl, Or.inl ⟨bI_1 (by omega), hgv38⟩⟩
          · skip
            exact absurd c19 (by omega)
set_option maxHeartbeats 4000000 in
theorem hfg0_73_215 {c p h kd ba gk gb x l wh fi vk vb st : Int} (hP : xP 215 c p h S) (hl : cSl S) (l4 : S 158 4 = 215) (l5 : S 158 5 = 216) (l7 : S 158 7 = kd) (l8 : S 158 8 = ba) (l9 : S 158 9 = gk) (l10 : S 158 10 = gb) (hx : 0 ≤ x ∧ x < S 48 (-1)) (hba : 0 ≤ ba ∧ ba < h) (h72 : S 72 1 = 73) (e48 : S 48 x = l) (hl12 : l = 1 ∨ l = 2) (he51 : S 51 x = wh) (hwh : 0 ≤ wh ∧ wh < 400) (hso : S 98 wh = 0) (hstt : S 99 wh = 0) (hfi : S 112 wh = fi) (hth : ∀ x : Nat, x < 10 → S (127 + x) (-1) = S 127 (-1)) (hn2 : S 127 (-1) ≤ 16383) (hl14 : S 142 (-1) = S 141 (-1)) (hz14 : 16 ≤ S 141 (-1) ∧ S 141 (-1) ≤ 480400) (hgb : 0 ≤ gb ∧ gb < S 127 (-1)) (hst : S 133 gb = st) (hrb : 0 ≤ st ∧ 0 ≤ fi ∧ fi ≤ 1000 ∧ st + fi < S 141 (-1)) (hvk : S 141 (st + fi) = vk) (hvb : S 142 (st + fi) = vb) (hvr : -128 ≤ vk ∧ vk ≤ 127) (hvs : -9223372036854775808 ≤ vb ∧ vb ≤ 9223372036854775807) (hkd : kd = 0) : wJ (pe_GA xs) wY0 (mS [217, 218]) (d + 9) t_XL_act ((pe_at t_XL_act.bl 0).getD (0, [])).2 [(0, (2, 158)), (1, (0, x))] [] S (fun o Z => o = .inl none ∧ sO 215 h c p (h - ba) vk vb S Z) := by
  obtain ⟨⟨hC, hI⟩, ⟨bc, bc0, bc1⟩, ⟨bp, bp0, bp1⟩, ⟨bh, bh0, bh1, bh2⟩, bl1, bl2, bl3⟩ := hP
  replace bp : S 220 (c - 1) = p := bp
  replace bh : S 216 2 = h := bh
  replace bh2 : h ≤ S 217 (-1) := bh2
  replace bl1 : S 218 (-1) = S 217 (-1) := bl1
  replace bl2 : 64 ≤ S 217 (-1) := bl2
  replace bl3 : S 217 (-1) ≤ 4095 := bl3
  have h35 := hl.2.1
  have h48 := hl.2.2.2
  refine wa_aload_n (n := 0) rfl ?_
  refine wb_gf4 158 rfl (wy_pr rfl) wt_158 wf_5_3 (v := 47) wl_158_3 ?_
  refine wa_iconst ?_
  refine wb_aald5 47 3 rfl rfl (wy_pr rfl) wt_47 (by rw [show _ = _ from ((cl_47 hC))]; omega) wl_47_3 ?_
  refine wa_iload_n (n := 1) rfl ?_
  refine wb_iald 51 rfl (wy_pr rfl) wt_51 (n := (S 48 (-1))) ((hl.2.2.1 3 (by decide))) (by omega) (by omega) (v := wh) (he51) (fun r1 => ?_)
  refine wa_istore_n (n := 2) rfl ?_
  refine wa_aload_n (n := 0) rfl ?_
  refine wb_gf4 158 rfl (wy_pr rfl) wt_158 wf_5_3 (v := 47) wl_158_3 ?_
  refine wa_iconst ?_
  refine wb_aald5 47 0 rfl rfl (wy_pr rfl) wt_47 (by rw [show _ = _ from ((cl_47 hC))]; omega) wl_47_0 ?_
  refine wa_iload_n (n := 1) rfl ?_
  refine wb_iald 48 rfl (wy_pr rfl) wt_48 (n := (S 48 (-1))) (rfl) (by omega) (by omega) (v := l) (e48) (fun r2 => ?_)
  by_cases c3 : l = 0
  · exact absurd c3 (by omega)
  by_cases c4 : l = 3
  · exact absurd c4 (by omega)
  refine wa_lw (tb := 0) (w_rg0 (by omega) (by omega)) (q := (116, 7)) (lw_df [0, 3] rfl (by simp only [List.mem_cons, List.not_mem_nil, or_false, not_or]; omega) (by first | rfl | decide)) ⟨_, rfl⟩ ?_
  refine wa_aload_n (n := 0) rfl ?_
  refine wb_gf4 158 rfl (wy_pr rfl) wt_158 wf_5_0 (v := 72) wl_158_0 ?_
  refine wb_gf5 72 rfl (wy_pr rfl) wt_72 wf_2_1 (v := 73) (h72) (fun r5 => ?_)
  refine wb_gf4 73 rfl (wy_pr rfl) wt_73 wf_3_3 (v := 96) wl_73_3 ?_
  refine wa_iconst ?_
  refine wb_aald5 96 1 rfl rfl (wy_pr rfl) wt_96 (by rw [show _ = _ from ((cl_96 hC))]; omega) wl_96_1 ?_
  refine wa_iload_n (n := 2) rfl ?_
  refine wb_iald 98 rfl (wy_pr rfl) wt_98 (n := 400) ((cl_98 hC)) (by omega) (by omega) (v := 0) (hso) (fun r6 => ?_)
  refine wa_ifne (w_rg0 (by omega) (by omega)) ⟨_, rfl⟩ (fun c7 => ?_) (fun c7 => ?_)
  · skip
    exact absurd c7 (by omega)
  · skip
    refine wa_aload_n (n := 0) rfl ?_
    refine wa_iload_n (n := 2) rfl ?_
    refine wa_cv 158 rfl (wy_pr rfl) wt_158 (M2 := mS [217, 218]) rfl at_XL_actOnField ⟨_, rfl⟩ rfl rfl ⟨trivial, (Or.inr ⟨wy_pr rfl, mS_no rfl⟩), trivial, trivial⟩ trivial (fun _ _ q => q) ?_ (fun _ _ _ q => q)
    refine wa_aload_n (n := 0) rfl ?_
    refine wa_iload_n (n := 1) rfl ?_
    refine wa_cv 158 rfl (wy_pr rfl) wt_158 (M2 := mS [217, 218]) rfl at_XL_rowOf ⟨_, rfl⟩ rfl rfl ⟨(Or.inr ⟨wy_pr rfl, mS_no rfl⟩), trivial, trivial⟩ trivial (fun _ _ q => q) ?_ (fun _ _ _ q => q)
    refine wa_aload_n (n := 0) rfl ?_
    refine wb_gf4 158 rfl (wy_pr rfl) wt_158 wf_5_0 (v := 72) wl_158_0 ?_
    refine wb_gf5 72 rfl (wy_pr rfl) wt_72 wf_2_1 (v := 73) (h72) (fun r8 => ?_)
    refine wb_gf4 73 rfl (wy_pr rfl) wt_73 wf_3_3 (v := 96) wl_73_3 ?_
    refine wa_iconst ?_
    refine wb_aald5 96 2 rfl rfl (wy_pr rfl) wt_96 (by rw [show _ = _ from ((cl_96 hC))]; omega) wl_96_2 ?_
    refine wa_iload_n (n := 1) rfl ?_
    refine wb_iald 99 rfl (wy_pr rfl) wt_99 (n := 400) ((cl_99 hC)) (by omega) (by omega) (v := 0) (hstt) (fun r9 => ?_)
    refine wa_iconst ?_
    refine wa_icmpne (w_rg0 (by omega) (by omega)) (w_rg0 (by omega) (by omega)) ⟨_, rfl⟩ (fun c10 => ?_) (fun c10 => ?_)
    · skip
      refine wa_aload_n (n := 0) rfl ?_
      refine wb_gf4 158 rfl (wy_pr rfl) wt_158 wf_5_0 (v := 72) wl_158_0 ?_
      refine wb_gf4 72 rfl (wy_pr rfl) wt_72 wf_2_6 (v := 140) wl_72_6 ?_
      refine wa_fall ⟨_, rfl⟩ ?_
      refine wa_oreturn rfl ?_
      show wJ _ _ _ _ _ _ _ _ _ _
      refine wa_astore_n (n := 2) rfl ?_
      refine wa_aload_n (n := 0) rfl ?_
      refine wa_iload_n (n := 1) rfl ?_
      refine wa_cv 158 rfl (wy_pr rfl) wt_158 (M2 := mS [217, 218]) rfl at_XL_placeOf ⟨_, rfl⟩ rfl rfl ⟨(Or.inr ⟨wy_pr rfl, mS_no rfl⟩), (Or.inr ⟨wy_pr rfl, mS_no rfl⟩), trivial, trivial⟩ trivial (fun _ _ q => q) ?_ (fun _ _ _ q => q)
      refine wa_aload_n (n := 0) rfl ?_
      refine wb_gf4 158 rfl (wy_pr rfl) wt_158 wf_5_0 (v := 72) wl_158_0 ?_
      refine wb_gf5 72 rfl (wy_pr rfl) wt_72 wf_2_1 (v := 73) (h72) (fun r11 => ?_)
      refine wb_gf4 73 rfl (wy_pr rfl) wt_73 wf_3_3 (v := 96) wl_73_3 ?_
      refine wa_bipush (w_rg2 (by omega) (by omega)) ?_
      refine wb_aald5 96 15 rfl rfl (wy_pr rfl) wt_96 (by rw [show _ = _ from ((cl_96 hC))]; omega) wl_96_15 ?_
      refine wa_iload_n (n := 1) rfl ?_
      refine wb_iald 112 rfl (wy_pr rfl) wt_112 (n := 400) ((cl_112 hC)) (by omega) (by omega) (v := fi) (hfi) (fun r12 => ?_)
      refine wa_istore_n (n := 2) rfl ?_
      refine wa_aload_n (n := 0) rfl ?_
      refine wb_gf4 158 rfl (wy_pr rfl) wt_158 wf_5_0 (v := 72) wl_158_0 ?_
      refine wb_gf5 72 rfl (wy_pr rfl) wt_72 wf_2_1 (v := 73) (h72) (fun r13 => ?_)
      refine wb_gf4 73 rfl (wy_pr rfl) wt_73 wf_3_3 (v := 96) wl_73_3 ?_
      refine wa_iconst ?_
      refine wb_aald5 96 2 rfl rfl (wy_pr rfl) wt_96 (by rw [show _ = _ from ((cl_96 hC))]; omega) wl_96_2 ?_
      refine wa_iload_n (n := 1) rfl ?_
      refine wb_iald 99 rfl (wy_pr rfl) wt_99 (n := 400) ((cl_99 hC)) (by omega) (by omega) (v := 0) (hstt) (fun r14 => ?_)
      refine wa_iconst ?_
      refine wa_icmpne (w_rg0 (by omega) (by omega)) (w_rg0 (by omega) (by omega)) ⟨_, rfl⟩ (fun c15 => ?_) (fun c15 => ?_)
      · skip
        refine wa_iconst ?_
        refine wa_fall ⟨_, rfl⟩ ?_
        refine wa_istore_n (n := 3) rfl ?_
        refine wa_iload_n (n := 3) rfl ?_
        refine wa_ifeq (w_rg0 (by omega) (by omega)) ⟨_, rfl⟩ (fun c16 => ?_) (fun c16 => ?_)
        · skip
          refine wa_aload_n (n := 0) rfl ?_
          refine wb_gf4 158 rfl (wy_pr rfl) wt_158 wf_5_0 (v := 72) wl_158_0 ?_
          refine wb_gf4 72 rfl (wy_pr rfl) wt_72 wf_2_2 (v := 126) wl_72_2 ?_
          refine wa_bipush (w_rg2 (by omega) (by omega)) ?_
          refine wb_aald5 126 6 rfl rfl (wy_pr rfl) wt_126 (by rw [show _ = _ from ((cl_126 hC))]; omega) wl_126_6 ?_
          refine wa_aload_n (n := 0) rfl ?_
          refine wb_gfl 158 rfl (wy_pr rfl) wt_158 wf_5_10 (v := gb) (l10) (fun r17 => ?_)
          refine wb_l2i_r (wb_l2i_id ⟨(by omega), (by omega)⟩) ?_
          refine wb_iald 133 rfl (wy_pr rfl) wt_133 (n := (S 127 (-1))) ((hth 6 (by decide))) (by omega) (by omega) (v := st) (hst) (fun r18 => ?_)
          refine wa_iload_n (n := 2) rfl ?_
          refine wa_iadd ?_
          refine wa_fall ⟨_, rfl⟩ ?_
          refine wa_ireturn rfl ?_
          show wJ _ _ _ _ _ _ _ _ _ _
          refine wa_istore_n (n := 3) rfl ?_
          refine wa_aload_n (n := 0) rfl ?_
          refine wb_gfi 158 rfl (wy_pr rfl) wt_158 wf_5_7 (v := kd) (l7) (fun r19 => ?_)
          refine wa_ifne (w_rg0 (by omega) (by omega)) ⟨_, rfl⟩ (fun c20 => ?_) (fun c20 => ?_)
          · skip
            exact absurd c20 (by omega)
          · skip
            refine wa_aload_n (n := 0) rfl ?_
            refine wa_aload_n (n := 2) rfl ?_
            refine wb_gf4 140 rfl (wy_pr rfl) wt_140 wf_7_0 (v := 141) wl_140_0 ?_
            refine wa_iload_n (n := 3) rfl ?_
            refine wb_bald 141 rfl (wy_pr rfl) wt_141 (n := (S 141 (-1))) (rfl) (by omega) (by omega) (v := vk) (hvk) (fun r21 => ?_)
            refine wa_aload_n (n := 2) rfl ?_
            refine wb_gf4 140 rfl (wy_pr rfl) wt_140 wf_7_1 (v := 142) wl_140_1 ?_
            refine wa_iload_n (n := 3) rfl ?_
            refine wb_lald 142 rfl (wy_pr rfl) wt_142 (n := (S 141 (-1))) (hl14) (by omega) (by omega) (v := vb) (hvb) (fun r22 => ?_)
            refine wa_cv 158 rfl (wy_pr rfl) wt_158 (M2 := mS [217, 218]) rfl at_XL_giveValue ⟨_, rfl⟩ rfl rfl ⟨trivial, (Or.inr ⟨wy_pr rfl, mS_no rfl⟩), (Or.inr ⟨wy_pr rfl, mS_no rfl⟩), trivial, trivial⟩ trivial (fun _ _ q => mS_sub (by decide) q) (glx_215 (S := S) (k := vk) (v := vb) (h := h) (c := c) (p := p) (ba := ba) hC hI (l4) (l5) (l8) (bc) (bp) (((bl1)).trans ((rfl)).symm) (by have e : S 217 (-1) = S 217 (-1) := (rfl); rw [e]; exact ⟨bl2, bl3⟩) (by have e : S 217 (-1) = S 217 (-1) := (rfl); omega) ⟨by omega, by omega⟩ ⟨by omega, by omega⟩ ⟨by omega, by omega⟩ ⟨by omega, by omega⟩) (fun oq23 Sq23 hp24 q23 => ?_)
            rcases q23 with ⟨rfl, hgv23⟩
            show wJ _ _ _ _ _ _ _ _ _ _
            refine wa_goto ⟨_, rfl⟩ ?_
            refine wa_return rfl ?_
            show wJ _ _ _ _ _ _ _ _ _ _
            refine wa_goto ⟨_, rfl⟩ ?_
            refine wa_return rfl ?_
            exact ⟨rfl, hgv23⟩
        · skip
          exact absurd c16 (by omega)
      · skip
        exact absurd c15 (by omega)
    · skip
      exact absurd c10 (by omega)
set_option maxHeartbeats 4000000 in
theorem hfs0_73_215 {c p h kd ba gk gb x l wh fi st ky vy es ty : Int} (hP : xP 215 c p h S) (hl : cSl S) (l4 : S 158 4 = 215) (l5 : S 158 5 = 216) (l7 : S 158 7 = kd) (l8 : S 158 8 = ba) (l9 : S 158 9 = gk) (l10 : S 158 10 = gb) (hx : 0 ≤ x ∧ x < S 48 (-1)) (hba : 0 ≤ ba ∧ ba < h) (hK : KC 87 97 93 114 115 74 73 T cs ms os S) (hw : wHo cs ms os) (h72 : S 72 1 = 73) (e48 : S 48 x = l) (hl12 : l = 1 ∨ l = 2) (he51 : S 51 x = wh) (hwh : 0 ≤ wh ∧ wh < 400) (hso : S 98 wh = 0) (hstt : S 99 wh = 0) (hfi : S 112 wh = fi) (hth : ∀ x : Nat, x < 10 → S (127 + x) (-1) = S 127 (-1)) (hn2 : S 127 (-1) ≤ 16383) (hl14 : S 142 (-1) = S 141 (-1)) (hz14 : 16 ≤ S 141 (-1) ∧ S 141 (-1) ≤ 480400) (hgb : 0 ≤ gb ∧ gb < S 127 (-1)) (hst : S 133 gb = st) (hrb : 0 ≤ st ∧ 0 ≤ fi ∧ fi ≤ 1000 ∧ st + fi < S 141 (-1)) (hky : S 217 (h - 1) = ky) (hvy : S 218 (h - 1) = vy) (hkr : -128 ≤ ky ∧ ky ≤ 127) (hvr : -9223372036854775808 ≤ vy ∧ vy ≤ 9223372036854775807) (l13 : S 158 13 = es) (hes : 0 ≤ es ∧ es < 9 + (cs.length : Int)) (hty : S 100 wh = ty) (htr : 0 ≤ ty ∧ ty < 9 + (cs.length : Int)) (hkd : kd = 1) : wJ (pe_GA xs) wY0 (mS [217, 218]) (d + 9) t_XL_act ((pe_at t_XL_act.bl 0).getD (0, [])).2 [(0, (2, 158)), (1, (0, x))] [] S (fun o Z => o = .inl none ∧ ((gTB cs es ty true = true ∧ sO 215 h c p (h - ba) ky vy (w_up (w_up S 141 (st + fi) ky) 142 (st + fi) vy) Z) ∨ (gTB cs es ty true = false ∧ w_up S 215 16 7 = Z))) := by
  obtain ⟨⟨hC, hI⟩, ⟨bc, bc0, bc1⟩, ⟨bp, bp0, bp1⟩, ⟨bh, bh0, bh1, bh2⟩, bl1, bl2, bl3⟩ := hP
  replace bp : S 220 (c - 1) = p := bp
  replace bh : S 216 2 = h := bh
  replace bh2 : h ≤ S 217 (-1) := bh2
  replace bl1 : S 218 (-1) = S 217 (-1) := bl1
  replace bl2 : 64 ≤ S 217 (-1) := bl2
  replace bl3 : S 217 (-1) ≤ 4095 := bl3
  have h35 := hl.2.1
  have h48 := hl.2.2.2
  have hn60 := hw.1
  refine wa_aload_n (n := 0) rfl ?_
  refine wb_gf4 158 rfl (wy_pr rfl) wt_158 wf_5_3 (v := 47) wl_158_3 ?_
  refine wa_iconst ?_
  refine wb_aald5 47 3 rfl rfl (wy_pr rfl) wt_47 (by rw [show _ = _ from ((cl_47 hC))]; omega) wl_47_3 ?_
  refine wa_iload_n (n := 1) rfl ?_
  refine wb_iald 51 rfl (wy_pr rfl) wt_51 (n := (S 48 (-1))) ((hl.2.2.1 3 (by decide))) (by omega) (by omega) (v := wh) (he51) (fun r1 => ?_)
  refine wa_istore_n (n := 2) rfl ?_
  refine wa_aload_n (n := 0) rfl ?_
  refine wb_gf4 158 rfl (wy_pr rfl) wt_158 wf_5_3 (v := 47) wl_158_3 ?_
  refine wa_iconst ?_
  refine wb_aald5 47 0 rfl rfl (wy_pr rfl) wt_47 (by rw [show _ = _ from ((cl_47 hC))]; omega) wl_47_0 ?_
  refine wa_iload_n (n := 1) rfl ?_
  refine wb_iald 48 rfl (wy_pr rfl) wt_48 (n := (S 48 (-1))) (rfl) (by omega) (by omega) (v := l) (e48) (fun r2 => ?_)
  by_cases c3 : l = 0
  · exact absurd c3 (by omega)
  by_cases c4 : l = 3
  · exact absurd c4 (by omega)
  refine wa_lw (tb := 0) (w_rg0 (by omega) (by omega)) (q := (116, 7)) (lw_df [0, 3] rfl (by simp only [List.mem_cons, List.not_mem_nil, or_false, not_or]; omega) (by first | rfl | decide)) ⟨_, rfl⟩ ?_
  refine wa_aload_n (n := 0) rfl ?_
  refine wb_gf4 158 rfl (wy_pr rfl) wt_158 wf_5_0 (v := 72) wl_158_0 ?_
  refine wb_gf5 72 rfl (wy_pr rfl) wt_72 wf_2_1 (v := 73) (h72) (fun r5 => ?_)
  refine wb_gf4 73 rfl (wy_pr rfl) wt_73 wf_3_3 (v := 96) wl_73_3 ?_
  refine wa_iconst ?_
  refine wb_aald5 96 1 rfl rfl (wy_pr rfl) wt_96 (by rw [show _ = _ from ((cl_96 hC))]; omega) wl_96_1 ?_
  refine wa_iload_n (n := 2) rfl ?_
  refine wb_iald 98 rfl (wy_pr rfl) wt_98 (n := 400) ((cl_98 hC)) (by omega) (by omega) (v := 0) (hso) (fun r6 => ?_)
  refine wa_ifne (w_rg0 (by omega) (by omega)) ⟨_, rfl⟩ (fun c7 => ?_) (fun c7 => ?_)
  · skip
    exact absurd c7 (by omega)
  · skip
    refine wa_aload_n (n := 0) rfl ?_
    refine wa_iload_n (n := 2) rfl ?_
    refine wa_cv 158 rfl (wy_pr rfl) wt_158 (M2 := mS [217, 218]) rfl at_XL_actOnField ⟨_, rfl⟩ rfl rfl ⟨trivial, (Or.inr ⟨wy_pr rfl, mS_no rfl⟩), trivial, trivial⟩ trivial (fun _ _ q => q) ?_ (fun _ _ _ q => q)
    refine wa_aload_n (n := 0) rfl ?_
    refine wa_iload_n (n := 1) rfl ?_
    refine wa_cv 158 rfl (wy_pr rfl) wt_158 (M2 := mS [217, 218]) rfl at_XL_rowOf ⟨_, rfl⟩ rfl rfl ⟨(Or.inr ⟨wy_pr rfl, mS_no rfl⟩), trivial, trivial⟩ trivial (fun _ _ q => q) ?_ (fun _ _ _ q => q)
    refine wa_aload_n (n := 0) rfl ?_
    refine wb_gf4 158 rfl (wy_pr rfl) wt_158 wf_5_0 (v := 72) wl_158_0 ?_
    refine wb_gf5 72 rfl (wy_pr rfl) wt_72 wf_2_1 (v := 73) (h72) (fun r8 => ?_)
    refine wb_gf4 73 rfl (wy_pr rfl) wt_73 wf_3_3 (v := 96) wl_73_3 ?_
    refine wa_iconst ?_
    refine wb_aald5 96 2 rfl rfl (wy_pr rfl) wt_96 (by rw [show _ = _ from ((cl_96 hC))]; omega) wl_96_2 ?_
    refine wa_iload_n (n := 1) rfl ?_
    refine wb_iald 99 rfl (wy_pr rfl) wt_99 (n := 400) ((cl_99 hC)) (by omega) (by omega) (v := 0) (hstt) (fun r9 => ?_)
    refine wa_iconst ?_
    refine wa_icmpne (w_rg0 (by omega) (by omega)) (w_rg0 (by omega) (by omega)) ⟨_, rfl⟩ (fun c10 => ?_) (fun c10 => ?_)
    · skip
      refine wa_aload_n (n := 0) rfl ?_
      refine wb_gf4 158 rfl (wy_pr rfl) wt_158 wf_5_0 (v := 72) wl_158_0 ?_
      refine wb_gf4 72 rfl (wy_pr rfl) wt_72 wf_2_6 (v := 140) wl_72_6 ?_
      refine wa_fall ⟨_, rfl⟩ ?_
      refine wa_oreturn rfl ?_
      show wJ _ _ _ _ _ _ _ _ _ _
      refine wa_astore_n (n := 2) rfl ?_
      refine wa_aload_n (n := 0) rfl ?_
      refine wa_iload_n (n := 1) rfl ?_
      refine wa_cv 158 rfl (wy_pr rfl) wt_158 (M2 := mS [217, 218]) rfl at_XL_placeOf ⟨_, rfl⟩ rfl rfl ⟨(Or.inr ⟨wy_pr rfl, mS_no rfl⟩), (Or.inr ⟨wy_pr rfl, mS_no rfl⟩), trivial, trivial⟩ trivial (fun _ _ q => q) ?_ (fun _ _ _ q => q)
      refine wa_aload_n (n := 0) rfl ?_
      refine wb_gf4 158 rfl (wy_pr rfl) wt_158 wf_5_0 (v := 72) wl_158_0 ?_
      refine wb_gf5 72 rfl (wy_pr rfl) wt_72 wf_2_1 (v := 73) (h72) (fun r11 => ?_)
      refine wb_gf4 73 rfl (wy_pr rfl) wt_73 wf_3_3 (v := 96) wl_73_3 ?_
      refine wa_bipush (w_rg2 (by omega) (by omega)) ?_
      refine wb_aald5 96 15 rfl rfl (wy_pr rfl) wt_96 (by rw [show _ = _ from ((cl_96 hC))]; omega) wl_96_15 ?_
      refine wa_iload_n (n := 1) rfl ?_
      refine wb_iald 112 rfl (wy_pr rfl) wt_112 (n := 400) ((cl_112 hC)) (by omega) (by omega) (v := fi) (hfi) (fun r12 => ?_)
      refine wa_istore_n (n := 2) rfl ?_
      refine wa_aload_n (n := 0) rfl ?_
      refine wb_gf4 158 rfl (wy_pr rfl) wt_158 wf_5_0 (v := 72) wl_158_0 ?_
      refine wb_gf5 72 rfl (wy_pr rfl) wt_72 wf_2_1 (v := 73) (h72) (fun r13 => ?_)
      refine wb_gf4 73 rfl (wy_pr rfl) wt_73 wf_3_3 (v := 96) wl_73_3 ?_
      refine wa_iconst ?_
      refine wb_aald5 96 2 rfl rfl (wy_pr rfl) wt_96 (by rw [show _ = _ from ((cl_96 hC))]; omega) wl_96_2 ?_
      refine wa_iload_n (n := 1) rfl ?_
      refine wb_iald 99 rfl (wy_pr rfl) wt_99 (n := 400) ((cl_99 hC)) (by omega) (by omega) (v := 0) (hstt) (fun r14 => ?_)
      refine wa_iconst ?_
      refine wa_icmpne (w_rg0 (by omega) (by omega)) (w_rg0 (by omega) (by omega)) ⟨_, rfl⟩ (fun c15 => ?_) (fun c15 => ?_)
      · skip
        refine wa_iconst ?_
        refine wa_fall ⟨_, rfl⟩ ?_
        refine wa_istore_n (n := 3) rfl ?_
        refine wa_iload_n (n := 3) rfl ?_
        refine wa_ifeq (w_rg0 (by omega) (by omega)) ⟨_, rfl⟩ (fun c16 => ?_) (fun c16 => ?_)
        · skip
          refine wa_aload_n (n := 0) rfl ?_
          refine wb_gf4 158 rfl (wy_pr rfl) wt_158 wf_5_0 (v := 72) wl_158_0 ?_
          refine wb_gf4 72 rfl (wy_pr rfl) wt_72 wf_2_2 (v := 126) wl_72_2 ?_
          refine wa_bipush (w_rg2 (by omega) (by omega)) ?_
          refine wb_aald5 126 6 rfl rfl (wy_pr rfl) wt_126 (by rw [show _ = _ from ((cl_126 hC))]; omega) wl_126_6 ?_
          refine wa_aload_n (n := 0) rfl ?_
          refine wb_gfl 158 rfl (wy_pr rfl) wt_158 wf_5_10 (v := gb) (l10) (fun r17 => ?_)
          refine wb_l2i_r (wb_l2i_id ⟨(by omega), (by omega)⟩) ?_
          refine wb_iald 133 rfl (wy_pr rfl) wt_133 (n := (S 127 (-1))) ((hth 6 (by decide))) (by omega) (by omega) (v := st) (hst) (fun r18 => ?_)
          refine wa_iload_n (n := 2) rfl ?_
          refine wa_iadd ?_
          refine wa_fall ⟨_, rfl⟩ ?_
          refine wa_ireturn rfl ?_
          show wJ _ _ _ _ _ _ _ _ _ _
          refine wa_istore_n (n := 3) rfl ?_
          refine wa_aload_n (n := 0) rfl ?_
          refine wb_gfi 158 rfl (wy_pr rfl) wt_158 wf_5_7 (v := kd) (l7) (fun r19 => ?_)
          refine wa_ifne (w_rg0 (by omega) (by omega)) ⟨_, rfl⟩ (fun c20 => ?_) (fun c20 => ?_)
          · skip
            refine wa_aload_n (n := 0) rfl ?_
            refine wb_gf4 158 rfl (wy_pr rfl) wt_158 wf_5_0 (v := 72) wl_158_0 ?_
            refine wb_gf5 72 rfl (wy_pr rfl) wt_72 wf_2_1 (v := 73) (h72) (fun r21 => ?_)
            refine wa_aload_n (n := 0) rfl ?_
            refine wb_gfl 158 rfl (wy_pr rfl) wt_158 wf_5_13 (v := es) (l13) (fun r22 => ?_)
            refine wb_l2i_r (wb_l2i_id ⟨(by omega), (by omega)⟩) ?_
            refine wa_aload_n (n := 0) rfl ?_
            refine wb_gf4 158 rfl (wy_pr rfl) wt_158 wf_5_0 (v := 72) wl_158_0 ?_
            refine wb_gf5 72 rfl (wy_pr rfl) wt_72 wf_2_1 (v := 73) (h72) (fun r23 => ?_)
            refine wb_gf4 73 rfl (wy_pr rfl) wt_73 wf_3_3 (v := 96) wl_73_3 ?_
            refine wa_iconst ?_
            refine wb_aald5 96 3 rfl rfl (wy_pr rfl) wt_96 (by rw [show _ = _ from ((cl_96 hC))]; omega) wl_96_3 ?_
            refine wa_iload_n (n := 1) rfl ?_
            refine wb_iald 100 rfl (wy_pr rfl) wt_100 (n := 400) ((cl_100 hC)) (by omega) (by omega) (v := ty) (hty) (fun r24 => ?_)
            refine wa_iconst ?_
            refine wa_cv 73 rfl (wy_pr rfl) wt_73 (M2 := fun _ => False) rfl at_XO_goesTo ⟨_, rfl⟩ rfl rfl ⟨trivial, (Or.inr ⟨wy_pr rfl, fun q => q⟩), (Or.inr ⟨wy_pr rfl, fun q => q⟩), trivial, trivial⟩ trivial (fun _ _ q => False.elim q) (gto_73 (S := S) (f := es) (q := ty) (l := 1) (lb := true) hC hK hw ⟨by omega, by omega⟩ ⟨by omega, by omega⟩ (Or.inr ⟨rfl, rfl⟩)) (fun oq25 Sq25 hp26 q25 => ?_)
            rcases q25 with ⟨rfl, rfl⟩
            show wJ _ _ _ _ _ _ _ _ _ _
            have hbg := bI_rg (gTB cs es ty true)
            refine wa_ifeq (w_rg0 (by omega) (by omega)) ⟨_, rfl⟩ (fun c27 => ?_) (fun c27 => ?_)
            · skip
              refine wa_aload_n (n := 0) rfl ?_
              refine wb_gf5 158 rfl (wy_pr rfl) wt_158 wf_5_4 (v := 215) (l4) (fun r28 => ?_)
              refine wa_bipush (w_rg2 (by omega) (by omega)) ?_
              refine wb_pfi 215 rfl (wy_pr rfl) wt_215 wf_8_16 (n := 16) rfl ⟨(by omega), (by omega)⟩ ?_
              refine wa_fall ⟨_, rfl⟩ ?_
              refine wa_return rfl ?_
              show wJ _ _ _ _ _ _ _ _ _ _
              refine wa_goto ⟨_, rfl⟩ ?_
              refine wa_return rfl ?_
              exact ⟨rfl, Or.inr ⟨bI_0 (by omega), rfl⟩⟩
            · skip
              refine wa_aload_n (n := 0) rfl ?_
              refine wb_gf5 158 rfl (wy_pr rfl) wt_158 wf_5_5 (v := 216) (l5) (fun r29 => ?_)
              refine wb_gfi 216 rfl (wy_pr rfl) wt_216 wf_7_2 (v := h) (bh) (fun r30 => ?_)
              refine wa_iconst ?_
              refine wa_isub ?_
              refine wa_istore (n := 4) rfl ?_
              refine wa_aload_n (n := 2) rfl ?_
              refine wa_iload_n (n := 3) rfl ?_
              refine wa_aload_n (n := 0) rfl ?_
              refine wb_gf5 158 rfl (wy_pr rfl) wt_158 wf_5_5 (v := 216) (l5) (fun r31 => ?_)
              refine wb_gf4 216 rfl (wy_pr rfl) wt_216 wf_7_0 (v := 217) wl_216_0 ?_
              refine wa_iload (n := 4) rfl ?_
              refine wb_bald 217 rfl (wy_pr rfl) wt_217 (n := (S 217 (-1))) (rfl) (by omega) (by omega) (v := ky) (hky) (fun r32 => ?_)
              refine wa_aload_n (n := 0) rfl ?_
              refine wb_gf5 158 rfl (wy_pr rfl) wt_158 wf_5_5 (v := 216) (l5) (fun r33 => ?_)
              refine wb_gf4 216 rfl (wy_pr rfl) wt_216 wf_7_1 (v := 218) wl_216_1 ?_
              refine wa_iload (n := 4) rfl ?_
              refine wb_lald 218 rfl (wy_pr rfl) wt_218 (n := (S 217 (-1))) (bl1) (by omega) (by omega) (v := vy) (hvy) (fun r34 => ?_)
              refine wa_cv 140 rfl (wy_pr rfl) wt_140 (M2 := mS [217, 218]) rfl at_XV_put ⟨_, rfl⟩ rfl rfl ⟨trivial, trivial, (Or.inr ⟨wy_pr rfl, mS_no rfl⟩), (Or.inr ⟨wy_pr rfl, mS_no rfl⟩), trivial, trivial⟩ trivial (fun _ _ q => q) ?_ (fun _ _ _ q => q)
              refine wa_aload_n (n := 0) rfl ?_
              refine wb_gf4 140 rfl (wy_pr rfl) wt_140 wf_7_0 (v := 141) wl_140_0 ?_
              refine wa_iload_n (n := 1) rfl ?_
              refine wa_iload_n (n := 2) rfl ?_
              refine wb_i2b_r (wb_i2b_id ⟨(by omega), (by omega)⟩) ?_
              refine wb_bast 141 rfl (wy_pr rfl) wt_141 (n := (S 141 (-1))) (rfl) (by omega) (by omega) ⟨(by omega), (by omega)⟩ ?_
              refine wa_aload_n (n := 0) rfl ?_
              refine wb_gf4 140 rfl (wy_pr rfl) wt_140 wf_7_1 (v := 142) wl_140_1 ?_
              refine wa_iload_n (n := 1) rfl ?_
              refine wa_lload_n (n := 3) rfl ?_
              refine wb_last 142 rfl (wy_pr rfl) wt_142 (n := (S 141 (-1))) ((w_up_slot (by decide)).trans (hl14)) (by omega) (by omega) ⟨(by omega), (by omega)⟩ ?_
              refine wa_return rfl ?_
              show wJ _ _ _ _ _ _ _ _ _ _
              refine wa_aload_n (n := 0) rfl ?_
              refine wa_aload_n (n := 0) rfl ?_
              refine wb_gf5 158 rfl (wy_pr rfl) wt_158 wf_5_5 (v := 216) ((w_up_slot (by decide)).trans ((w_up_slot (by decide)).trans (l5))) (fun r35 => ?_)
              refine wb_gf4 216 rfl (wy_pr rfl) wt_216 wf_7_0 (v := 217) wl_216_0 ?_
              refine wa_iload (n := 4) rfl ?_
              refine wb_bald 217 rfl (wy_pr rfl) wt_217 (n := (S 217 (-1))) ((w_up_slot (by decide)).trans ((w_up_slot (by decide)).trans (rfl))) (by omega) (by omega) (v := ky) ((w_up_slot (by decide)).trans ((w_up_slot (by decide)).trans (hky))) (fun r36 => ?_)
              refine wa_aload_n (n := 0) rfl ?_
              refine wb_gf5 158 rfl (wy_pr rfl) wt_158 wf_5_5 (v := 216) ((w_up_slot (by decide)).trans ((w_up_slot (by decide)).trans (l5))) (fun r37 => ?_)
              refine wb_gf4 216 rfl (wy_pr rfl) wt_216 wf_7_1 (v := 218) wl_216_1 ?_
              refine wa_iload (n := 4) rfl ?_
              refine wb_lald 218 rfl (wy_pr rfl) wt_218 (n := (S 217 (-1))) ((w_up_slot (by decide)).trans ((w_up_slot (by decide)).trans (bl1))) (by omega) (by omega) (v := vy) ((w_up_slot (by decide)).trans ((w_up_slot (by decide)).trans (hvy))) (fun r38 => ?_)
              refine wa_cv 158 rfl (wy_pr rfl) wt_158 (M2 := mS [217, 218]) rfl at_XL_giveValue ⟨_, rfl⟩ rfl rfl ⟨trivial, trivial, (Or.inr ⟨wy_pr rfl, mS_no rfl⟩), (Or.inr ⟨wy_pr rfl, mS_no rfl⟩), trivial, trivial⟩ trivial (fun _ _ q => mS_sub (by decide) q) (glx_215 (S := (w_up (w_up S 141 (st + fi) ky) 142 (st + fi) vy)) (k := ky) (v := vy) (h := h) (c := c) (p := p) (ba := ba) (w_CL_up (w_CL_up hC (by omega)) (by omega)) (gI_up (gI_up hI (by omega) (by omega) (by omega)) (by omega) (by omega) (by omega)) ((w_up_slot (by decide)).trans ((w_up_slot (by decide)).trans (l4))) ((w_up_slot (by decide)).trans ((w_up_slot (by decide)).trans (l5))) ((w_up_slot (by decide)).trans ((w_up_slot (by decide)).trans (l8))) ((w_up_slot (by decide)).trans ((w_up_slot (by decide)).trans (bc))) ((w_up_slot (by decide)).trans ((w_up_slot (by decide)).trans (bp))) ((((w_up_slot (by decide)).trans ((w_up_slot (by decide)).trans (bl1)))).trans (((w_up_slot (by decide)).trans ((w_up_slot (by decide)).trans (rfl)))).symm) (by have e : (w_up (w_up S 141 (st + fi) ky) 142 (st + fi) vy) 217 (-1) = S 217 (-1) := ((w_up_slot (by decide)).trans ((w_up_slot (by decide)).trans (rfl))); rw [e]; exact ⟨bl2, bl3⟩) (by have e : (w_up (w_up S 141 (st + fi) ky) 142 (st + fi) vy) 217 (-1) = S 217 (-1) := ((w_up_slot (by decide)).trans ((w_up_slot (by decide)).trans (rfl))); omega) ⟨by omega, by omega⟩ ⟨by omega, by omega⟩ ⟨by omega, by omega⟩ ⟨by omega, by omega⟩) (fun oq39 Sq39 hp40 q39 => ?_)
              rcases q39 with ⟨rfl, hgv39⟩
              show wJ _ _ _ _ _ _ _ _ _ _
              refine wa_goto ⟨_, rfl⟩ ?_
              refine wa_return rfl ?_
              show wJ _ _ _ _ _ _ _ _ _ _
              refine wa_goto ⟨_, rfl⟩ ?_
              refine wa_return rfl ?_
              exact ⟨rfl, Or.inl ⟨bI_1 (by omega), hgv39⟩⟩
          · skip
            exact absurd c20 (by omega)
        · skip
          exact absurd c16 (by omega)
      · skip
        exact absurd c15 (by omega)
    · skip
      exact absurd c10 (by omega)
set_option maxHeartbeats 4000000 in
theorem hfg1_73_226 {c p h kd ba gk gb x l wh fi vk vb : Int} (hP : xP 226 c p h S) (hl : cSl S) (l4 : S 158 4 = 226) (l5 : S 158 5 = 227) (l7 : S 158 7 = kd) (l8 : S 158 8 = ba) (l9 : S 158 9 = gk) (l10 : S 158 10 = gb) (hx : 0 ≤ x ∧ x < S 48 (-1)) (hba : 0 ≤ ba ∧ ba < h) (h72 : S 72 1 = 73) (e48 : S 48 x = l) (hl12 : l = 1 ∨ l = 2) (he51 : S 51 x = wh) (hwh : 0 ≤ wh ∧ wh < 400) (hso : S 98 wh = 0) (hstt : S 99 wh = 1) (hfi : S 112 wh = fi) (hrl : S 118 (-1) = S 117 (-1)) (hrb : 0 ≤ fi ∧ fi < S 117 (-1) ∧ S 117 (-1) ≤ 8388608) (hvk : S 117 fi = vk) (hvb : S 118 fi = vb) (hvr : -128 ≤ vk ∧ vk ≤ 127) (hvs : -9223372036854775808 ≤ vb ∧ vb ≤ 9223372036854775807) (hkd : kd = 0) : wJ (pe_GA xs) wY0 (mS [228, 229]) (d + 9) t_XL_act ((pe_at t_XL_act.bl 0).getD (0, [])).2 [(0, (2, 158)), (1, (0, x))] [] S (fun o Z => o = .inl none ∧ sO 226 h c p (h - ba) vk vb S Z) := by
  obtain ⟨⟨hC, hI⟩, ⟨bc, bc0, bc1⟩, ⟨bp, bp0, bp1⟩, ⟨bh, bh0, bh1, bh2⟩, bl1, bl2, bl3⟩ := hP
  replace bp : S 231 (c - 1) = p := bp
  replace bh : S 227 2 = h := bh
  replace bh2 : h ≤ S 228 (-1) := bh2
  replace bl1 : S 229 (-1) = S 228 (-1) := bl1
  replace bl2 : 64 ≤ S 228 (-1) := bl2
  replace bl3 : S 228 (-1) ≤ 4095 := bl3
  have h35 := hl.2.1
  have h48 := hl.2.2.2
  refine wa_aload_n (n := 0) rfl ?_
  refine wb_gf4 158 rfl (wy_pr rfl) wt_158 wf_5_3 (v := 47) wl_158_3 ?_
  refine wa_iconst ?_
  refine wb_aald5 47 3 rfl rfl (wy_pr rfl) wt_47 (by rw [show _ = _ from ((cl_47 hC))]; omega) wl_47_3 ?_
  refine wa_iload_n (n := 1) rfl ?_
  refine wb_iald 51 rfl (wy_pr rfl) wt_51 (n := (S 48 (-1))) ((hl.2.2.1 3 (by decide))) (by omega) (by omega) (v := wh) (he51) (fun r1 => ?_)
  refine wa_istore_n (n := 2) rfl ?_
  refine wa_aload_n (n := 0) rfl ?_
  refine wb_gf4 158 rfl (wy_pr rfl) wt_158 wf_5_3 (v := 47) wl_158_3 ?_
  refine wa_iconst ?_
  refine wb_aald5 47 0 rfl rfl (wy_pr rfl) wt_47 (by rw [show _ = _ from ((cl_47 hC))]; omega) wl_47_0 ?_
  refine wa_iload_n (n := 1) rfl ?_
  refine wb_iald 48 rfl (wy_pr rfl) wt_48 (n := (S 48 (-1))) (rfl) (by omega) (by omega) (v := l) (e48) (fun r2 => ?_)
  by_cases c3 : l = 0
  · exact absurd c3 (by omega)
  by_cases c4 : l = 3
  · exact absurd c4 (by omega)
  refine wa_lw (tb := 0) (w_rg0 (by omega) (by omega)) (q := (116, 7)) (lw_df [0, 3] rfl (by simp only [List.mem_cons, List.not_mem_nil, or_false, not_or]; omega) (by first | rfl | decide)) ⟨_, rfl⟩ ?_
  refine wa_aload_n (n := 0) rfl ?_
  refine wb_gf4 158 rfl (wy_pr rfl) wt_158 wf_5_0 (v := 72) wl_158_0 ?_
  refine wb_gf5 72 rfl (wy_pr rfl) wt_72 wf_2_1 (v := 73) (h72) (fun r5 => ?_)
  refine wb_gf4 73 rfl (wy_pr rfl) wt_73 wf_3_3 (v := 96) wl_73_3 ?_
  refine wa_iconst ?_
  refine wb_aald5 96 1 rfl rfl (wy_pr rfl) wt_96 (by rw [show _ = _ from ((cl_96 hC))]; omega) wl_96_1 ?_
  refine wa_iload_n (n := 2) rfl ?_
  refine wb_iald 98 rfl (wy_pr rfl) wt_98 (n := 400) ((cl_98 hC)) (by omega) (by omega) (v := 0) (hso) (fun r6 => ?_)
  refine wa_ifne (w_rg0 (by omega) (by omega)) ⟨_, rfl⟩ (fun c7 => ?_) (fun c7 => ?_)
  · skip
    exact absurd c7 (by omega)
  · skip
    refine wa_aload_n (n := 0) rfl ?_
    refine wa_iload_n (n := 2) rfl ?_
    refine wa_cv 158 rfl (wy_pr rfl) wt_158 (M2 := mS [228, 229]) rfl at_XL_actOnField ⟨_, rfl⟩ rfl rfl ⟨trivial, (Or.inr ⟨wy_pr rfl, mS_no rfl⟩), trivial, trivial⟩ trivial (fun _ _ q => q) ?_ (fun _ _ _ q => q)
    refine wa_aload_n (n := 0) rfl ?_
    refine wa_iload_n (n := 1) rfl ?_
    refine wa_cv 158 rfl (wy_pr rfl) wt_158 (M2 := mS [228, 229]) rfl at_XL_rowOf ⟨_, rfl⟩ rfl rfl ⟨(Or.inr ⟨wy_pr rfl, mS_no rfl⟩), trivial, trivial⟩ trivial (fun _ _ q => q) ?_ (fun _ _ _ q => q)
    refine wa_aload_n (n := 0) rfl ?_
    refine wb_gf4 158 rfl (wy_pr rfl) wt_158 wf_5_0 (v := 72) wl_158_0 ?_
    refine wb_gf5 72 rfl (wy_pr rfl) wt_72 wf_2_1 (v := 73) (h72) (fun r8 => ?_)
    refine wb_gf4 73 rfl (wy_pr rfl) wt_73 wf_3_3 (v := 96) wl_73_3 ?_
    refine wa_iconst ?_
    refine wb_aald5 96 2 rfl rfl (wy_pr rfl) wt_96 (by rw [show _ = _ from ((cl_96 hC))]; omega) wl_96_2 ?_
    refine wa_iload_n (n := 1) rfl ?_
    refine wb_iald 99 rfl (wy_pr rfl) wt_99 (n := 400) ((cl_99 hC)) (by omega) (by omega) (v := 1) (hstt) (fun r9 => ?_)
    refine wa_iconst ?_
    refine wa_icmpne (w_rg0 (by omega) (by omega)) (w_rg0 (by omega) (by omega)) ⟨_, rfl⟩ (fun c10 => ?_) (fun c10 => ?_)
    · skip
      exact absurd c10 (by omega)
    · skip
      refine wa_aload_n (n := 0) rfl ?_
      refine wb_gf4 158 rfl (wy_pr rfl) wt_158 wf_5_0 (v := 72) wl_158_0 ?_
      refine wb_gf5 72 rfl (wy_pr rfl) wt_72 wf_2_1 (v := 73) (h72) (fun r11 => ?_)
      refine wb_gf4 73 rfl (wy_pr rfl) wt_73 wf_3_7 (v := 116) wl_73_7 ?_
      refine wa_goto ⟨_, rfl⟩ ?_
      refine wa_oreturn rfl ?_
      show wJ _ _ _ _ _ _ _ _ _ _
      refine wa_astore_n (n := 2) rfl ?_
      refine wa_aload_n (n := 0) rfl ?_
      refine wa_iload_n (n := 1) rfl ?_
      refine wa_cv 158 rfl (wy_pr rfl) wt_158 (M2 := mS [228, 229]) rfl at_XL_placeOf ⟨_, rfl⟩ rfl rfl ⟨(Or.inr ⟨wy_pr rfl, mS_no rfl⟩), (Or.inr ⟨wy_pr rfl, mS_no rfl⟩), trivial, trivial⟩ trivial (fun _ _ q => q) ?_ (fun _ _ _ q => q)
      refine wa_aload_n (n := 0) rfl ?_
      refine wb_gf4 158 rfl (wy_pr rfl) wt_158 wf_5_0 (v := 72) wl_158_0 ?_
      refine wb_gf5 72 rfl (wy_pr rfl) wt_72 wf_2_1 (v := 73) (h72) (fun r12 => ?_)
      refine wb_gf4 73 rfl (wy_pr rfl) wt_73 wf_3_3 (v := 96) wl_73_3 ?_
      refine wa_bipush (w_rg2 (by omega) (by omega)) ?_
      refine wb_aald5 96 15 rfl rfl (wy_pr rfl) wt_96 (by rw [show _ = _ from ((cl_96 hC))]; omega) wl_96_15 ?_
      refine wa_iload_n (n := 1) rfl ?_
      refine wb_iald 112 rfl (wy_pr rfl) wt_112 (n := 400) ((cl_112 hC)) (by omega) (by omega) (v := fi) (hfi) (fun r13 => ?_)
      refine wa_istore_n (n := 2) rfl ?_
      refine wa_aload_n (n := 0) rfl ?_
      refine wb_gf4 158 rfl (wy_pr rfl) wt_158 wf_5_0 (v := 72) wl_158_0 ?_
      refine wb_gf5 72 rfl (wy_pr rfl) wt_72 wf_2_1 (v := 73) (h72) (fun r14 => ?_)
      refine wb_gf4 73 rfl (wy_pr rfl) wt_73 wf_3_3 (v := 96) wl_73_3 ?_
      refine wa_iconst ?_
      refine wb_aald5 96 2 rfl rfl (wy_pr rfl) wt_96 (by rw [show _ = _ from ((cl_96 hC))]; omega) wl_96_2 ?_
      refine wa_iload_n (n := 1) rfl ?_
      refine wb_iald 99 rfl (wy_pr rfl) wt_99 (n := 400) ((cl_99 hC)) (by omega) (by omega) (v := 1) (hstt) (fun r15 => ?_)
      refine wa_iconst ?_
      refine wa_icmpne (w_rg0 (by omega) (by omega)) (w_rg0 (by omega) (by omega)) ⟨_, rfl⟩ (fun c16 => ?_) (fun c16 => ?_)
      · skip
        exact absurd c16 (by omega)
      · skip
        refine wa_iconst ?_
        refine wa_goto ⟨_, rfl⟩ ?_
        refine wa_istore_n (n := 3) rfl ?_
        refine wa_iload_n (n := 3) rfl ?_
        refine wa_ifeq (w_rg0 (by omega) (by omega)) ⟨_, rfl⟩ (fun c17 => ?_) (fun c17 => ?_)
        · skip
          exact absurd c17 (by omega)
        · skip
          refine wa_iload_n (n := 2) rfl ?_
          refine wa_goto ⟨_, rfl⟩ ?_
          refine wa_ireturn rfl ?_
          show wJ _ _ _ _ _ _ _ _ _ _
          refine wa_istore_n (n := 3) rfl ?_
          refine wa_aload_n (n := 0) rfl ?_
          refine wb_gfi 158 rfl (wy_pr rfl) wt_158 wf_5_7 (v := kd) (l7) (fun r18 => ?_)
          refine wa_ifne (w_rg0 (by omega) (by omega)) ⟨_, rfl⟩ (fun c19 => ?_) (fun c19 => ?_)
          · skip
            exact absurd c19 (by omega)
          · skip
            refine wa_aload_n (n := 0) rfl ?_
            refine wa_aload_n (n := 2) rfl ?_
            refine wb_gf4 116 rfl (wy_pr rfl) wt_116 wf_7_0 (v := 117) wl_116_0 ?_
            refine wa_iload_n (n := 3) rfl ?_
            refine wb_bald 117 rfl (wy_pr rfl) wt_117 (n := (S 117 (-1))) (rfl) (by omega) (by omega) (v := vk) (hvk) (fun r20 => ?_)
            refine wa_aload_n (n := 2) rfl ?_
            refine wb_gf4 116 rfl (wy_pr rfl) wt_116 wf_7_1 (v := 118) wl_116_1 ?_
            refine wa_iload_n (n := 3) rfl ?_
            refine wb_lald 118 rfl (wy_pr rfl) wt_118 (n := (S 117 (-1))) (hrl) (by omega) (by omega) (v := vb) (hvb) (fun r21 => ?_)
            refine wa_cv 158 rfl (wy_pr rfl) wt_158 (M2 := mS [228, 229]) rfl at_XL_giveValue ⟨_, rfl⟩ rfl rfl ⟨trivial, (Or.inr ⟨wy_pr rfl, mS_no rfl⟩), (Or.inr ⟨wy_pr rfl, mS_no rfl⟩), trivial, trivial⟩ trivial (fun _ _ q => mS_sub (by decide) q) (glx_226 (S := S) (k := vk) (v := vb) (h := h) (c := c) (p := p) (ba := ba) hC hI (l4) (l5) (l8) (bc) (bp) (((bl1)).trans ((rfl)).symm) (by have e : S 228 (-1) = S 228 (-1) := (rfl); rw [e]; exact ⟨bl2, bl3⟩) (by have e : S 228 (-1) = S 228 (-1) := (rfl); omega) ⟨by omega, by omega⟩ ⟨by omega, by omega⟩ ⟨by omega, by omega⟩ ⟨by omega, by omega⟩) (fun oq22 Sq22 hp23 q22 => ?_)
            rcases q22 with ⟨rfl, hgv22⟩
            show wJ _ _ _ _ _ _ _ _ _ _
            refine wa_goto ⟨_, rfl⟩ ?_
            refine wa_return rfl ?_
            show wJ _ _ _ _ _ _ _ _ _ _
            refine wa_goto ⟨_, rfl⟩ ?_
            refine wa_return rfl ?_
            exact ⟨rfl, hgv22⟩
set_option maxHeartbeats 4000000 in
theorem hfs1_73_226 {c p h kd ba gk gb x l wh fi ky vy es ty : Int} (hP : xP 226 c p h S) (hl : cSl S) (l4 : S 158 4 = 226) (l5 : S 158 5 = 227) (l7 : S 158 7 = kd) (l8 : S 158 8 = ba) (l9 : S 158 9 = gk) (l10 : S 158 10 = gb) (hx : 0 ≤ x ∧ x < S 48 (-1)) (hba : 0 ≤ ba ∧ ba < h) (hK : KC 87 97 93 114 115 74 73 T cs ms os S) (hw : wHo cs ms os) (h72 : S 72 1 = 73) (e48 : S 48 x = l) (hl12 : l = 1 ∨ l = 2) (he51 : S 51 x = wh) (hwh : 0 ≤ wh ∧ wh < 400) (hso : S 98 wh = 0) (hstt : S 99 wh = 1) (hfi : S 112 wh = fi) (hrl : S 118 (-1) = S 117 (-1)) (hrb : 0 ≤ fi ∧ fi < S 117 (-1) ∧ S 117 (-1) ≤ 8388608) (hky : S 228 (h - 1) = ky) (hvy : S 229 (h - 1) = vy) (hkr : -128 ≤ ky ∧ ky ≤ 127) (hvr : -9223372036854775808 ≤ vy ∧ vy ≤ 9223372036854775807) (l13 : S 158 13 = es) (hes : 0 ≤ es ∧ es < 9 + (cs.length : Int)) (hty : S 100 wh = ty) (htr : 0 ≤ ty ∧ ty < 9 + (cs.length : Int)) (hkd : kd = 1) : wJ (pe_GA xs) wY0 (mS [228, 229]) (d + 9) t_XL_act ((pe_at t_XL_act.bl 0).getD (0, [])).2 [(0, (2, 158)), (1, (0, x))] [] S (fun o Z => o = .inl none ∧ ((gTB cs es ty true = true ∧ sO 226 h c p (h - ba) ky vy (w_up (w_up S 117 fi ky) 118 fi vy) Z) ∨ (gTB cs es ty true = false ∧ w_up S 226 16 7 = Z))) := by
  obtain ⟨⟨hC, hI⟩, ⟨bc, bc0, bc1⟩, ⟨bp, bp0, bp1⟩, ⟨bh, bh0, bh1, bh2⟩, bl1, bl2, bl3⟩ := hP
  replace bp : S 231 (c - 1) = p := bp
  replace bh : S 227 2 = h := bh
  replace bh2 : h ≤ S 228 (-1) := bh2
  replace bl1 : S 229 (-1) = S 228 (-1) := bl1
  replace bl2 : 64 ≤ S 228 (-1) := bl2
  replace bl3 : S 228 (-1) ≤ 4095 := bl3
  have h35 := hl.2.1
  have h48 := hl.2.2.2
  have hn60 := hw.1
  refine wa_aload_n (n := 0) rfl ?_
  refine wb_gf4 158 rfl (wy_pr rfl) wt_158 wf_5_3 (v := 47) wl_158_3 ?_
  refine wa_iconst ?_
  refine wb_aald5 47 3 rfl rfl (wy_pr rfl) wt_47 (by rw [show _ = _ from ((cl_47 hC))]; omega) wl_47_3 ?_
  refine wa_iload_n (n := 1) rfl ?_
  refine wb_iald 51 rfl (wy_pr rfl) wt_51 (n := (S 48 (-1))) ((hl.2.2.1 3 (by decide))) (by omega) (by omega) (v := wh) (he51) (fun r1 => ?_)
  refine wa_istore_n (n := 2) rfl ?_
  refine wa_aload_n (n := 0) rfl ?_
  refine wb_gf4 158 rfl (wy_pr rfl) wt_158 wf_5_3 (v := 47) wl_158_3 ?_
  refine wa_iconst ?_
  refine wb_aald5 47 0 rfl rfl (wy_pr rfl) wt_47 (by rw [show _ = _ from ((cl_47 hC))]; omega) wl_47_0 ?_
  refine wa_iload_n (n := 1) rfl ?_
  refine wb_iald 48 rfl (wy_pr rfl) wt_48 (n := (S 48 (-1))) (rfl) (by omega) (by omega) (v := l) (e48) (fun r2 => ?_)
  by_cases c3 : l = 0
  · exact absurd c3 (by omega)
  by_cases c4 : l = 3
  · exact absurd c4 (by omega)
  refine wa_lw (tb := 0) (w_rg0 (by omega) (by omega)) (q := (116, 7)) (lw_df [0, 3] rfl (by simp only [List.mem_cons, List.not_mem_nil, or_false, not_or]; omega) (by first | rfl | decide)) ⟨_, rfl⟩ ?_
  refine wa_aload_n (n := 0) rfl ?_
  refine wb_gf4 158 rfl (wy_pr rfl) wt_158 wf_5_0 (v := 72) wl_158_0 ?_
  refine wb_gf5 72 rfl (wy_pr rfl) wt_72 wf_2_1 (v := 73) (h72) (fun r5 => ?_)
  refine wb_gf4 73 rfl (wy_pr rfl) wt_73 wf_3_3 (v := 96) wl_73_3 ?_
  refine wa_iconst ?_
  refine wb_aald5 96 1 rfl rfl (wy_pr rfl) wt_96 (by rw [show _ = _ from ((cl_96 hC))]; omega) wl_96_1 ?_
  refine wa_iload_n (n := 2) rfl ?_
  refine wb_iald 98 rfl (wy_pr rfl) wt_98 (n := 400) ((cl_98 hC)) (by omega) (by omega) (v := 0) (hso) (fun r6 => ?_)
  refine wa_ifne (w_rg0 (by omega) (by omega)) ⟨_, rfl⟩ (fun c7 => ?_) (fun c7 => ?_)
  · skip
    exact absurd c7 (by omega)
  · skip
    refine wa_aload_n (n := 0) rfl ?_
    refine wa_iload_n (n := 2) rfl ?_
    refine wa_cv 158 rfl (wy_pr rfl) wt_158 (M2 := mS [228, 229]) rfl at_XL_actOnField ⟨_, rfl⟩ rfl rfl ⟨trivial, (Or.inr ⟨wy_pr rfl, mS_no rfl⟩), trivial, trivial⟩ trivial (fun _ _ q => q) ?_ (fun _ _ _ q => q)
    refine wa_aload_n (n := 0) rfl ?_
    refine wa_iload_n (n := 1) rfl ?_
    refine wa_cv 158 rfl (wy_pr rfl) wt_158 (M2 := mS [228, 229]) rfl at_XL_rowOf ⟨_, rfl⟩ rfl rfl ⟨(Or.inr ⟨wy_pr rfl, mS_no rfl⟩), trivial, trivial⟩ trivial (fun _ _ q => q) ?_ (fun _ _ _ q => q)
    refine wa_aload_n (n := 0) rfl ?_
    refine wb_gf4 158 rfl (wy_pr rfl) wt_158 wf_5_0 (v := 72) wl_158_0 ?_
    refine wb_gf5 72 rfl (wy_pr rfl) wt_72 wf_2_1 (v := 73) (h72) (fun r8 => ?_)
    refine wb_gf4 73 rfl (wy_pr rfl) wt_73 wf_3_3 (v := 96) wl_73_3 ?_
    refine wa_iconst ?_
    refine wb_aald5 96 2 rfl rfl (wy_pr rfl) wt_96 (by rw [show _ = _ from ((cl_96 hC))]; omega) wl_96_2 ?_
    refine wa_iload_n (n := 1) rfl ?_
    refine wb_iald 99 rfl (wy_pr rfl) wt_99 (n := 400) ((cl_99 hC)) (by omega) (by omega) (v := 1) (hstt) (fun r9 => ?_)
    refine wa_iconst ?_
    refine wa_icmpne (w_rg0 (by omega) (by omega)) (w_rg0 (by omega) (by omega)) ⟨_, rfl⟩ (fun c10 => ?_) (fun c10 => ?_)
    · skip
      exact absurd c10 (by omega)
    · skip
      refine wa_aload_n (n := 0) rfl ?_
      refine wb_gf4 158 rfl (wy_pr rfl) wt_158 wf_5_0 (v := 72) wl_158_0 ?_
      refine wb_gf5 72 rfl (wy_pr rfl) wt_72 wf_2_1 (v := 73) (h72) (fun r11 => ?_)
      refine wb_gf4 73 rfl (wy_pr rfl) wt_73 wf_3_7 (v := 116) wl_73_7 ?_
      refine wa_goto ⟨_, rfl⟩ ?_
      refine wa_oreturn rfl ?_
      show wJ _ _ _ _ _ _ _ _ _ _
      refine wa_astore_n (n := 2) rfl ?_
      refine wa_aload_n (n := 0) rfl ?_
      refine wa_iload_n (n := 1) rfl ?_
      refine wa_cv 158 rfl (wy_pr rfl) wt_158 (M2 := mS [228, 229]) rfl at_XL_placeOf ⟨_, rfl⟩ rfl rfl ⟨(Or.inr ⟨wy_pr rfl, mS_no rfl⟩), (Or.inr ⟨wy_pr rfl, mS_no rfl⟩), trivial, trivial⟩ trivial (fun _ _ q => q) ?_ (fun _ _ _ q => q)
      refine wa_aload_n (n := 0) rfl ?_
      refine wb_gf4 158 rfl (wy_pr rfl) wt_158 wf_5_0 (v := 72) wl_158_0 ?_
      refine wb_gf5 72 rfl (wy_pr rfl) wt_72 wf_2_1 (v := 73) (h72) (fun r12 => ?_)
      refine wb_gf4 73 rfl (wy_pr rfl) wt_73 wf_3_3 (v := 96) wl_73_3 ?_
      refine wa_bipush (w_rg2 (by omega) (by omega)) ?_
      refine wb_aald5 96 15 rfl rfl (wy_pr rfl) wt_96 (by rw [show _ = _ from ((cl_96 hC))]; omega) wl_96_15 ?_
      refine wa_iload_n (n := 1) rfl ?_
      refine wb_iald 112 rfl (wy_pr rfl) wt_112 (n := 400) ((cl_112 hC)) (by omega) (by omega) (v := fi) (hfi) (fun r13 => ?_)
      refine wa_istore_n (n := 2) rfl ?_
      refine wa_aload_n (n := 0) rfl ?_
      refine wb_gf4 158 rfl (wy_pr rfl) wt_158 wf_5_0 (v := 72) wl_158_0 ?_
      refine wb_gf5 72 rfl (wy_pr rfl) wt_72 wf_2_1 (v := 73) (h72) (fun r14 => ?_)
      refine wb_gf4 73 rfl (wy_pr rfl) wt_73 wf_3_3 (v := 96) wl_73_3 ?_
      refine wa_iconst ?_
      refine wb_aald5 96 2 rfl rfl (wy_pr rfl) wt_96 (by rw [show _ = _ from ((cl_96 hC))]; omega) wl_96_2 ?_
      refine wa_iload_n (n := 1) rfl ?_
      refine wb_iald 99 rfl (wy_pr rfl) wt_99 (n := 400) ((cl_99 hC)) (by omega) (by omega) (v := 1) (hstt) (fun r15 => ?_)
      refine wa_iconst ?_
      refine wa_icmpne (w_rg0 (by omega) (by omega)) (w_rg0 (by omega) (by omega)) ⟨_, rfl⟩ (fun c16 => ?_) (fun c16 => ?_)
      · skip
        exact absurd c16 (by omega)
      · skip
        refine wa_iconst ?_
        refine wa_goto ⟨_, rfl⟩ ?_
        refine wa_istore_n (n := 3) rfl ?_
        refine wa_iload_n (n := 3) rfl ?_
        refine wa_ifeq (w_rg0 (by omega) (by omega)) ⟨_, rfl⟩ (fun c17 => ?_) (fun c17 => ?_)
        · skip
          exact absurd c17 (by omega)
        · skip
          refine wa_iload_n (n := 2) rfl ?_
          refine wa_goto ⟨_, rfl⟩ ?_
          refine wa_ireturn rfl ?_
          show wJ _ _ _ _ _ _ _ _ _ _
          refine wa_istore_n (n := 3) rfl ?_
          refine wa_aload_n (n := 0) rfl ?_
          refine wb_gfi 158 rfl (wy_pr rfl) wt_158 wf_5_7 (v := kd) (l7) (fun r18 => ?_)
          refine wa_ifne (w_rg0 (by omega) (by omega)) ⟨_, rfl⟩ (fun c19 => ?_) (fun c19 => ?_)
          · skip
            refine wa_aload_n (n := 0) rfl ?_
            refine wb_gf4 158 rfl (wy_pr rfl) wt_158 wf_5_0 (v := 72) wl_158_0 ?_
            refine wb_gf5 72 rfl (wy_pr rfl) wt_72 wf_2_1 (v := 73) (h72) (fun r20 => ?_)
            refine wa_aload_n (n := 0) rfl ?_
            refine wb_gfl 158 rfl (wy_pr rfl) wt_158 wf_5_13 (v := es) (l13) (fun r21 => ?_)
            refine wb_l2i_r (wb_l2i_id ⟨(by omega), (by omega)⟩) ?_
            refine wa_aload_n (n := 0) rfl ?_
            refine wb_gf4 158 rfl (wy_pr rfl) wt_158 wf_5_0 (v := 72) wl_158_0 ?_
            refine wb_gf5 72 rfl (wy_pr rfl) wt_72 wf_2_1 (v := 73) (h72) (fun r22 => ?_)
            refine wb_gf4 73 rfl (wy_pr rfl) wt_73 wf_3_3 (v := 96) wl_73_3 ?_
            refine wa_iconst ?_
            refine wb_aald5 96 3 rfl rfl (wy_pr rfl) wt_96 (by rw [show _ = _ from ((cl_96 hC))]; omega) wl_96_3 ?_
            refine wa_iload_n (n := 1) rfl ?_
            refine wb_iald 100 rfl (wy_pr rfl) wt_100 (n := 400) ((cl_100 hC)) (by omega) (by omega) (v := ty) (hty) (fun r23 => ?_)
            refine wa_iconst ?_
            refine wa_cv 73 rfl (wy_pr rfl) wt_73 (M2 := fun _ => False) rfl at_XO_goesTo ⟨_, rfl⟩ rfl rfl ⟨trivial, (Or.inr ⟨wy_pr rfl, fun q => q⟩), (Or.inr ⟨wy_pr rfl, fun q => q⟩), trivial, trivial⟩ trivial (fun _ _ q => False.elim q) (gto_73 (S := S) (f := es) (q := ty) (l := 1) (lb := true) hC hK hw ⟨by omega, by omega⟩ ⟨by omega, by omega⟩ (Or.inr ⟨rfl, rfl⟩)) (fun oq24 Sq24 hp25 q24 => ?_)
            rcases q24 with ⟨rfl, rfl⟩
            show wJ _ _ _ _ _ _ _ _ _ _
            have hbg := bI_rg (gTB cs es ty true)
            refine wa_ifeq (w_rg0 (by omega) (by omega)) ⟨_, rfl⟩ (fun c26 => ?_) (fun c26 => ?_)
            · skip
              refine wa_aload_n (n := 0) rfl ?_
              refine wb_gf5 158 rfl (wy_pr rfl) wt_158 wf_5_4 (v := 226) (l4) (fun r27 => ?_)
              refine wa_bipush (w_rg2 (by omega) (by omega)) ?_
              refine wb_pfi 226 rfl (wy_pr rfl) wt_226 wf_8_16 (n := 16) rfl ⟨(by omega), (by omega)⟩ ?_
              refine wa_fall ⟨_, rfl⟩ ?_
              refine wa_return rfl ?_
              show wJ _ _ _ _ _ _ _ _ _ _
              refine wa_goto ⟨_, rfl⟩ ?_
              refine wa_return rfl ?_
              exact ⟨rfl, Or.inr ⟨bI_0 (by omega), rfl⟩⟩
            · skip
              refine wa_aload_n (n := 0) rfl ?_
              refine wb_gf5 158 rfl (wy_pr rfl) wt_158 wf_5_5 (v := 227) (l5) (fun r28 => ?_)
              refine wb_gfi 227 rfl (wy_pr rfl) wt_227 wf_7_2 (v := h) (bh) (fun r29 => ?_)
              refine wa_iconst ?_
              refine wa_isub ?_
              refine wa_istore (n := 4) rfl ?_
              refine wa_aload_n (n := 2) rfl ?_
              refine wa_iload_n (n := 3) rfl ?_
              refine wa_aload_n (n := 0) rfl ?_
              refine wb_gf5 158 rfl (wy_pr rfl) wt_158 wf_5_5 (v := 227) (l5) (fun r30 => ?_)
              refine wb_gf4 227 rfl (wy_pr rfl) wt_227 wf_7_0 (v := 228) wl_227_0 ?_
              refine wa_iload (n := 4) rfl ?_
              refine wb_bald 228 rfl (wy_pr rfl) wt_228 (n := (S 228 (-1))) (rfl) (by omega) (by omega) (v := ky) (hky) (fun r31 => ?_)
              refine wa_aload_n (n := 0) rfl ?_
              refine wb_gf5 158 rfl (wy_pr rfl) wt_158 wf_5_5 (v := 227) (l5) (fun r32 => ?_)
              refine wb_gf4 227 rfl (wy_pr rfl) wt_227 wf_7_1 (v := 229) wl_227_1 ?_
              refine wa_iload (n := 4) rfl ?_
              refine wb_lald 229 rfl (wy_pr rfl) wt_229 (n := (S 228 (-1))) (bl1) (by omega) (by omega) (v := vy) (hvy) (fun r33 => ?_)
              refine wa_cv 116 rfl (wy_pr rfl) wt_116 (M2 := mS [228, 229]) rfl at_XV_put ⟨_, rfl⟩ rfl rfl ⟨trivial, trivial, (Or.inr ⟨wy_pr rfl, mS_no rfl⟩), (Or.inr ⟨wy_pr rfl, mS_no rfl⟩), trivial, trivial⟩ trivial (fun _ _ q => q) ?_ (fun _ _ _ q => q)
              refine wa_aload_n (n := 0) rfl ?_
              refine wb_gf4 116 rfl (wy_pr rfl) wt_116 wf_7_0 (v := 117) wl_116_0 ?_
              refine wa_iload_n (n := 1) rfl ?_
              refine wa_iload_n (n := 2) rfl ?_
              refine wb_i2b_r (wb_i2b_id ⟨(by omega), (by omega)⟩) ?_
              refine wb_bast 117 rfl (wy_pr rfl) wt_117 (n := (S 117 (-1))) (rfl) (by omega) (by omega) ⟨(by omega), (by omega)⟩ ?_
              refine wa_aload_n (n := 0) rfl ?_
              refine wb_gf4 116 rfl (wy_pr rfl) wt_116 wf_7_1 (v := 118) wl_116_1 ?_
              refine wa_iload_n (n := 1) rfl ?_
              refine wa_lload_n (n := 3) rfl ?_
              refine wb_last 118 rfl (wy_pr rfl) wt_118 (n := (S 117 (-1))) ((w_up_slot (by decide)).trans (hrl)) (by omega) (by omega) ⟨(by omega), (by omega)⟩ ?_
              refine wa_return rfl ?_
              show wJ _ _ _ _ _ _ _ _ _ _
              refine wa_aload_n (n := 0) rfl ?_
              refine wa_aload_n (n := 0) rfl ?_
              refine wb_gf5 158 rfl (wy_pr rfl) wt_158 wf_5_5 (v := 227) ((w_up_slot (by decide)).trans ((w_up_slot (by decide)).trans (l5))) (fun r34 => ?_)
              refine wb_gf4 227 rfl (wy_pr rfl) wt_227 wf_7_0 (v := 228) wl_227_0 ?_
              refine wa_iload (n := 4) rfl ?_
              refine wb_bald 228 rfl (wy_pr rfl) wt_228 (n := (S 228 (-1))) ((w_up_slot (by decide)).trans ((w_up_slot (by decide)).trans (rfl))) (by omega) (by omega) (v := ky) ((w_up_slot (by decide)).trans ((w_up_slot (by decide)).trans (hky))) (fun r35 => ?_)
              refine wa_aload_n (n := 0) rfl ?_
              refine wb_gf5 158 rfl (wy_pr rfl) wt_158 wf_5_5 (v := 227) ((w_up_slot (by decide)).trans ((w_up_slot (by decide)).trans (l5))) (fun r36 => ?_)
              refine wb_gf4 227 rfl (wy_pr rfl) wt_227 wf_7_1 (v := 229) wl_227_1 ?_
              refine wa_iload (n := 4) rfl ?_
              refine wb_lald 229 rfl (wy_pr rfl) wt_229 (n := (S 228 (-1))) ((w_up_slot (by decide)).trans ((w_up_slot (by decide)).trans (bl1))) (by omega) (by omega) (v := vy) ((w_up_slot (by decide)).trans ((w_up_slot (by decide)).trans (hvy))) (fun r37 => ?_)
              refine wa_cv 158 rfl (wy_pr rfl) wt_158 (M2 := mS [228, 229]) rfl at_XL_giveValue ⟨_, rfl⟩ rfl rfl ⟨trivial, trivial, (Or.inr ⟨wy_pr rfl, mS_no rfl⟩), (Or.inr ⟨wy_pr rfl, mS_no rfl⟩), trivial, trivial⟩ trivial (fun _ _ q => mS_sub (by decide) q) (glx_226 (S := (w_up (w_up S 117 fi ky) 118 fi vy)) (k := ky) (v := vy) (h := h) (c := c) (p := p) (ba := ba) (w_CL_up (w_CL_up hC (by omega)) (by omega)) (gI_up (gI_up hI (by omega) (by omega) (by omega)) (by omega) (by omega) (by omega)) ((w_up_slot (by decide)).trans ((w_up_slot (by decide)).trans (l4))) ((w_up_slot (by decide)).trans ((w_up_slot (by decide)).trans (l5))) ((w_up_slot (by decide)).trans ((w_up_slot (by decide)).trans (l8))) ((w_up_slot (by decide)).trans ((w_up_slot (by decide)).trans (bc))) ((w_up_slot (by decide)).trans ((w_up_slot (by decide)).trans (bp))) ((((w_up_slot (by decide)).trans ((w_up_slot (by decide)).trans (bl1)))).trans (((w_up_slot (by decide)).trans ((w_up_slot (by decide)).trans (rfl)))).symm) (by have e : (w_up (w_up S 117 fi ky) 118 fi vy) 228 (-1) = S 228 (-1) := ((w_up_slot (by decide)).trans ((w_up_slot (by decide)).trans (rfl))); rw [e]; exact ⟨bl2, bl3⟩) (by have e : (w_up (w_up S 117 fi ky) 118 fi vy) 228 (-1) = S 228 (-1) := ((w_up_slot (by decide)).trans ((w_up_slot (by decide)).trans (rfl))); omega) ⟨by omega, by omega⟩ ⟨by omega, by omega⟩ ⟨by omega, by omega⟩ ⟨by omega, by omega⟩) (fun oq38 Sq38 hp39 q38 => ?_)
              rcases q38 with ⟨rfl, hgv38⟩
              show wJ _ _ _ _ _ _ _ _ _ _
              refine wa_goto ⟨_, rfl⟩ ?_
              refine wa_return rfl ?_
              show wJ _ _ _ _ _ _ _ _ _ _
              refine wa_goto ⟨_, rfl⟩ ?_
              refine wa_return rfl ?_
              exact ⟨rfl, Or.inl ⟨bI_1 (by omega), hgv38⟩⟩
          · skip
            exact absurd c19 (by omega)
set_option maxHeartbeats 4000000 in
theorem hfg0_73_226 {c p h kd ba gk gb x l wh fi vk vb st : Int} (hP : xP 226 c p h S) (hl : cSl S) (l4 : S 158 4 = 226) (l5 : S 158 5 = 227) (l7 : S 158 7 = kd) (l8 : S 158 8 = ba) (l9 : S 158 9 = gk) (l10 : S 158 10 = gb) (hx : 0 ≤ x ∧ x < S 48 (-1)) (hba : 0 ≤ ba ∧ ba < h) (h72 : S 72 1 = 73) (e48 : S 48 x = l) (hl12 : l = 1 ∨ l = 2) (he51 : S 51 x = wh) (hwh : 0 ≤ wh ∧ wh < 400) (hso : S 98 wh = 0) (hstt : S 99 wh = 0) (hfi : S 112 wh = fi) (hth : ∀ x : Nat, x < 10 → S (127 + x) (-1) = S 127 (-1)) (hn2 : S 127 (-1) ≤ 16383) (hl14 : S 142 (-1) = S 141 (-1)) (hz14 : 16 ≤ S 141 (-1) ∧ S 141 (-1) ≤ 480400) (hgb : 0 ≤ gb ∧ gb < S 127 (-1)) (hst : S 133 gb = st) (hrb : 0 ≤ st ∧ 0 ≤ fi ∧ fi ≤ 1000 ∧ st + fi < S 141 (-1)) (hvk : S 141 (st + fi) = vk) (hvb : S 142 (st + fi) = vb) (hvr : -128 ≤ vk ∧ vk ≤ 127) (hvs : -9223372036854775808 ≤ vb ∧ vb ≤ 9223372036854775807) (hkd : kd = 0) : wJ (pe_GA xs) wY0 (mS [228, 229]) (d + 9) t_XL_act ((pe_at t_XL_act.bl 0).getD (0, [])).2 [(0, (2, 158)), (1, (0, x))] [] S (fun o Z => o = .inl none ∧ sO 226 h c p (h - ba) vk vb S Z) := by
  obtain ⟨⟨hC, hI⟩, ⟨bc, bc0, bc1⟩, ⟨bp, bp0, bp1⟩, ⟨bh, bh0, bh1, bh2⟩, bl1, bl2, bl3⟩ := hP
  replace bp : S 231 (c - 1) = p := bp
  replace bh : S 227 2 = h := bh
  replace bh2 : h ≤ S 228 (-1) := bh2
  replace bl1 : S 229 (-1) = S 228 (-1) := bl1
  replace bl2 : 64 ≤ S 228 (-1) := bl2
  replace bl3 : S 228 (-1) ≤ 4095 := bl3
  have h35 := hl.2.1
  have h48 := hl.2.2.2
  refine wa_aload_n (n := 0) rfl ?_
  refine wb_gf4 158 rfl (wy_pr rfl) wt_158 wf_5_3 (v := 47) wl_158_3 ?_
  refine wa_iconst ?_
  refine wb_aald5 47 3 rfl rfl (wy_pr rfl) wt_47 (by rw [show _ = _ from ((cl_47 hC))]; omega) wl_47_3 ?_
  refine wa_iload_n (n := 1) rfl ?_
  refine wb_iald 51 rfl (wy_pr rfl) wt_51 (n := (S 48 (-1))) ((hl.2.2.1 3 (by decide))) (by omega) (by omega) (v := wh) (he51) (fun r1 => ?_)
  refine wa_istore_n (n := 2) rfl ?_
  refine wa_aload_n (n := 0) rfl ?_
  refine wb_gf4 158 rfl (wy_pr rfl) wt_158 wf_5_3 (v := 47) wl_158_3 ?_
  refine wa_iconst ?_
  refine wb_aald5 47 0 rfl rfl (wy_pr rfl) wt_47 (by rw [show _ = _ from ((cl_47 hC))]; omega) wl_47_0 ?_
  refine wa_iload_n (n := 1) rfl ?_
  refine wb_iald 48 rfl (wy_pr rfl) wt_48 (n := (S 48 (-1))) (rfl) (by omega) (by omega) (v := l) (e48) (fun r2 => ?_)
  by_cases c3 : l = 0
  · exact absurd c3 (by omega)
  by_cases c4 : l = 3
  · exact absurd c4 (by omega)
  refine wa_lw (tb := 0) (w_rg0 (by omega) (by omega)) (q := (116, 7)) (lw_df [0, 3] rfl (by simp only [List.mem_cons, List.not_mem_nil, or_false, not_or]; omega) (by first | rfl | decide)) ⟨_, rfl⟩ ?_
  refine wa_aload_n (n := 0) rfl ?_
  refine wb_gf4 158 rfl (wy_pr rfl) wt_158 wf_5_0 (v := 72) wl_158_0 ?_
  refine wb_gf5 72 rfl (wy_pr rfl) wt_72 wf_2_1 (v := 73) (h72) (fun r5 => ?_)
  refine wb_gf4 73 rfl (wy_pr rfl) wt_73 wf_3_3 (v := 96) wl_73_3 ?_
  refine wa_iconst ?_
  refine wb_aald5 96 1 rfl rfl (wy_pr rfl) wt_96 (by rw [show _ = _ from ((cl_96 hC))]; omega) wl_96_1 ?_
  refine wa_iload_n (n := 2) rfl ?_
  refine wb_iald 98 rfl (wy_pr rfl) wt_98 (n := 400) ((cl_98 hC)) (by omega) (by omega) (v := 0) (hso) (fun r6 => ?_)
  refine wa_ifne (w_rg0 (by omega) (by omega)) ⟨_, rfl⟩ (fun c7 => ?_) (fun c7 => ?_)
  · skip
    exact absurd c7 (by omega)
  · skip
    refine wa_aload_n (n := 0) rfl ?_
    refine wa_iload_n (n := 2) rfl ?_
    refine wa_cv 158 rfl (wy_pr rfl) wt_158 (M2 := mS [228, 229]) rfl at_XL_actOnField ⟨_, rfl⟩ rfl rfl ⟨trivial, (Or.inr ⟨wy_pr rfl, mS_no rfl⟩), trivial, trivial⟩ trivial (fun _ _ q => q) ?_ (fun _ _ _ q => q)
    refine wa_aload_n (n := 0) rfl ?_
    refine wa_iload_n (n := 1) rfl ?_
    refine wa_cv 158 rfl (wy_pr rfl) wt_158 (M2 := mS [228, 229]) rfl at_XL_rowOf ⟨_, rfl⟩ rfl rfl ⟨(Or.inr ⟨wy_pr rfl, mS_no rfl⟩), trivial, trivial⟩ trivial (fun _ _ q => q) ?_ (fun _ _ _ q => q)
    refine wa_aload_n (n := 0) rfl ?_
    refine wb_gf4 158 rfl (wy_pr rfl) wt_158 wf_5_0 (v := 72) wl_158_0 ?_
    refine wb_gf5 72 rfl (wy_pr rfl) wt_72 wf_2_1 (v := 73) (h72) (fun r8 => ?_)
    refine wb_gf4 73 rfl (wy_pr rfl) wt_73 wf_3_3 (v := 96) wl_73_3 ?_
    refine wa_iconst ?_
    refine wb_aald5 96 2 rfl rfl (wy_pr rfl) wt_96 (by rw [show _ = _ from ((cl_96 hC))]; omega) wl_96_2 ?_
    refine wa_iload_n (n := 1) rfl ?_
    refine wb_iald 99 rfl (wy_pr rfl) wt_99 (n := 400) ((cl_99 hC)) (by omega) (by omega) (v := 0) (hstt) (fun r9 => ?_)
    refine wa_iconst ?_
    refine wa_icmpne (w_rg0 (by omega) (by omega)) (w_rg0 (by omega) (by omega)) ⟨_, rfl⟩ (fun c10 => ?_) (fun c10 => ?_)
    · skip
      refine wa_aload_n (n := 0) rfl ?_
      refine wb_gf4 158 rfl (wy_pr rfl) wt_158 wf_5_0 (v := 72) wl_158_0 ?_
      refine wb_gf4 72 rfl (wy_pr rfl) wt_72 wf_2_6 (v := 140) wl_72_6 ?_
      refine wa_fall ⟨_, rfl⟩ ?_
      refine wa_oreturn rfl ?_
      show wJ _ _ _ _ _ _ _ _ _ _
      refine wa_astore_n (n := 2) rfl ?_
      refine wa_aload_n (n := 0) rfl ?_
      refine wa_iload_n (n := 1) rfl ?_
      refine wa_cv 158 rfl (wy_pr rfl) wt_158 (M2 := mS [228, 229]) rfl at_XL_placeOf ⟨_, rfl⟩ rfl rfl ⟨(Or.inr ⟨wy_pr rfl, mS_no rfl⟩), (Or.inr ⟨wy_pr rfl, mS_no rfl⟩), trivial, trivial⟩ trivial (fun _ _ q => q) ?_ (fun _ _ _ q => q)
      refine wa_aload_n (n := 0) rfl ?_
      refine wb_gf4 158 rfl (wy_pr rfl) wt_158 wf_5_0 (v := 72) wl_158_0 ?_
      refine wb_gf5 72 rfl (wy_pr rfl) wt_72 wf_2_1 (v := 73) (h72) (fun r11 => ?_)
      refine wb_gf4 73 rfl (wy_pr rfl) wt_73 wf_3_3 (v := 96) wl_73_3 ?_
      refine wa_bipush (w_rg2 (by omega) (by omega)) ?_
      refine wb_aald5 96 15 rfl rfl (wy_pr rfl) wt_96 (by rw [show _ = _ from ((cl_96 hC))]; omega) wl_96_15 ?_
      refine wa_iload_n (n := 1) rfl ?_
      refine wb_iald 112 rfl (wy_pr rfl) wt_112 (n := 400) ((cl_112 hC)) (by omega) (by omega) (v := fi) (hfi) (fun r12 => ?_)
      refine wa_istore_n (n := 2) rfl ?_
      refine wa_aload_n (n := 0) rfl ?_
      refine wb_gf4 158 rfl (wy_pr rfl) wt_158 wf_5_0 (v := 72) wl_158_0 ?_
      refine wb_gf5 72 rfl (wy_pr rfl) wt_72 wf_2_1 (v := 73) (h72) (fun r13 => ?_)
      refine wb_gf4 73 rfl (wy_pr rfl) wt_73 wf_3_3 (v := 96) wl_73_3 ?_
      refine wa_iconst ?_
      refine wb_aald5 96 2 rfl rfl (wy_pr rfl) wt_96 (by rw [show _ = _ from ((cl_96 hC))]; omega) wl_96_2 ?_
      refine wa_iload_n (n := 1) rfl ?_
      refine wb_iald 99 rfl (wy_pr rfl) wt_99 (n := 400) ((cl_99 hC)) (by omega) (by omega) (v := 0) (hstt) (fun r14 => ?_)
      refine wa_iconst ?_
      refine wa_icmpne (w_rg0 (by omega) (by omega)) (w_rg0 (by omega) (by omega)) ⟨_, rfl⟩ (fun c15 => ?_) (fun c15 => ?_)
      · skip
        refine wa_iconst ?_
        refine wa_fall ⟨_, rfl⟩ ?_
        refine wa_istore_n (n := 3) rfl ?_
        refine wa_iload_n (n := 3) rfl ?_
        refine wa_ifeq (w_rg0 (by omega) (by omega)) ⟨_, rfl⟩ (fun c16 => ?_) (fun c16 => ?_)
        · skip
          refine wa_aload_n (n := 0) rfl ?_
          refine wb_gf4 158 rfl (wy_pr rfl) wt_158 wf_5_0 (v := 72) wl_158_0 ?_
          refine wb_gf4 72 rfl (wy_pr rfl) wt_72 wf_2_2 (v := 126) wl_72_2 ?_
          refine wa_bipush (w_rg2 (by omega) (by omega)) ?_
          refine wb_aald5 126 6 rfl rfl (wy_pr rfl) wt_126 (by rw [show _ = _ from ((cl_126 hC))]; omega) wl_126_6 ?_
          refine wa_aload_n (n := 0) rfl ?_
          refine wb_gfl 158 rfl (wy_pr rfl) wt_158 wf_5_10 (v := gb) (l10) (fun r17 => ?_)
          refine wb_l2i_r (wb_l2i_id ⟨(by omega), (by omega)⟩) ?_
          refine wb_iald 133 rfl (wy_pr rfl) wt_133 (n := (S 127 (-1))) ((hth 6 (by decide))) (by omega) (by omega) (v := st) (hst) (fun r18 => ?_)
          refine wa_iload_n (n := 2) rfl ?_
          refine wa_iadd ?_
          refine wa_fall ⟨_, rfl⟩ ?_
          refine wa_ireturn rfl ?_
          show wJ _ _ _ _ _ _ _ _ _ _
          refine wa_istore_n (n := 3) rfl ?_
          refine wa_aload_n (n := 0) rfl ?_
          refine wb_gfi 158 rfl (wy_pr rfl) wt_158 wf_5_7 (v := kd) (l7) (fun r19 => ?_)
          refine wa_ifne (w_rg0 (by omega) (by omega)) ⟨_, rfl⟩ (fun c20 => ?_) (fun c20 => ?_)
          · skip
            exact absurd c20 (by omega)
          · skip
            refine wa_aload_n (n := 0) rfl ?_
            refine wa_aload_n (n := 2) rfl ?_
            refine wb_gf4 140 rfl (wy_pr rfl) wt_140 wf_7_0 (v := 141) wl_140_0 ?_
            refine wa_iload_n (n := 3) rfl ?_
            refine wb_bald 141 rfl (wy_pr rfl) wt_141 (n := (S 141 (-1))) (rfl) (by omega) (by omega) (v := vk) (hvk) (fun r21 => ?_)
            refine wa_aload_n (n := 2) rfl ?_
            refine wb_gf4 140 rfl (wy_pr rfl) wt_140 wf_7_1 (v := 142) wl_140_1 ?_
            refine wa_iload_n (n := 3) rfl ?_
            refine wb_lald 142 rfl (wy_pr rfl) wt_142 (n := (S 141 (-1))) (hl14) (by omega) (by omega) (v := vb) (hvb) (fun r22 => ?_)
            refine wa_cv 158 rfl (wy_pr rfl) wt_158 (M2 := mS [228, 229]) rfl at_XL_giveValue ⟨_, rfl⟩ rfl rfl ⟨trivial, (Or.inr ⟨wy_pr rfl, mS_no rfl⟩), (Or.inr ⟨wy_pr rfl, mS_no rfl⟩), trivial, trivial⟩ trivial (fun _ _ q => mS_sub (by decide) q) (glx_226 (S := S) (k := vk) (v := vb) (h := h) (c := c) (p := p) (ba := ba) hC hI (l4) (l5) (l8) (bc) (bp) (((bl1)).trans ((rfl)).symm) (by have e : S 228 (-1) = S 228 (-1) := (rfl); rw [e]; exact ⟨bl2, bl3⟩) (by have e : S 228 (-1) = S 228 (-1) := (rfl); omega) ⟨by omega, by omega⟩ ⟨by omega, by omega⟩ ⟨by omega, by omega⟩ ⟨by omega, by omega⟩) (fun oq23 Sq23 hp24 q23 => ?_)
            rcases q23 with ⟨rfl, hgv23⟩
            show wJ _ _ _ _ _ _ _ _ _ _
            refine wa_goto ⟨_, rfl⟩ ?_
            refine wa_return rfl ?_
            show wJ _ _ _ _ _ _ _ _ _ _
            refine wa_goto ⟨_, rfl⟩ ?_
            refine wa_return rfl ?_
            exact ⟨rfl, hgv23⟩
        · skip
          exact absurd c16 (by omega)
      · skip
        exact absurd c15 (by omega)
    · skip
      exact absurd c10 (by omega)
set_option maxHeartbeats 4000000 in
theorem hfs0_73_226 {c p h kd ba gk gb x l wh fi st ky vy es ty : Int} (hP : xP 226 c p h S) (hl : cSl S) (l4 : S 158 4 = 226) (l5 : S 158 5 = 227) (l7 : S 158 7 = kd) (l8 : S 158 8 = ba) (l9 : S 158 9 = gk) (l10 : S 158 10 = gb) (hx : 0 ≤ x ∧ x < S 48 (-1)) (hba : 0 ≤ ba ∧ ba < h) (hK : KC 87 97 93 114 115 74 73 T cs ms os S) (hw : wHo cs ms os) (h72 : S 72 1 = 73) (e48 : S 48 x = l) (hl12 : l = 1 ∨ l = 2) (he51 : S 51 x = wh) (hwh : 0 ≤ wh ∧ wh < 400) (hso : S 98 wh = 0) (hstt : S 99 wh = 0) (hfi : S 112 wh = fi) (hth : ∀ x : Nat, x < 10 → S (127 + x) (-1) = S 127 (-1)) (hn2 : S 127 (-1) ≤ 16383) (hl14 : S 142 (-1) = S 141 (-1)) (hz14 : 16 ≤ S 141 (-1) ∧ S 141 (-1) ≤ 480400) (hgb : 0 ≤ gb ∧ gb < S 127 (-1)) (hst : S 133 gb = st) (hrb : 0 ≤ st ∧ 0 ≤ fi ∧ fi ≤ 1000 ∧ st + fi < S 141 (-1)) (hky : S 228 (h - 1) = ky) (hvy : S 229 (h - 1) = vy) (hkr : -128 ≤ ky ∧ ky ≤ 127) (hvr : -9223372036854775808 ≤ vy ∧ vy ≤ 9223372036854775807) (l13 : S 158 13 = es) (hes : 0 ≤ es ∧ es < 9 + (cs.length : Int)) (hty : S 100 wh = ty) (htr : 0 ≤ ty ∧ ty < 9 + (cs.length : Int)) (hkd : kd = 1) : wJ (pe_GA xs) wY0 (mS [228, 229]) (d + 9) t_XL_act ((pe_at t_XL_act.bl 0).getD (0, [])).2 [(0, (2, 158)), (1, (0, x))] [] S (fun o Z => o = .inl none ∧ ((gTB cs es ty true = true ∧ sO 226 h c p (h - ba) ky vy (w_up (w_up S 141 (st + fi) ky) 142 (st + fi) vy) Z) ∨ (gTB cs es ty true = false ∧ w_up S 226 16 7 = Z))) := by
  obtain ⟨⟨hC, hI⟩, ⟨bc, bc0, bc1⟩, ⟨bp, bp0, bp1⟩, ⟨bh, bh0, bh1, bh2⟩, bl1, bl2, bl3⟩ := hP
  replace bp : S 231 (c - 1) = p := bp
  replace bh : S 227 2 = h := bh
  replace bh2 : h ≤ S 228 (-1) := bh2
  replace bl1 : S 229 (-1) = S 228 (-1) := bl1
  replace bl2 : 64 ≤ S 228 (-1) := bl2
  replace bl3 : S 228 (-1) ≤ 4095 := bl3
  have h35 := hl.2.1
  have h48 := hl.2.2.2
  have hn60 := hw.1
  refine wa_aload_n (n := 0) rfl ?_
  refine wb_gf4 158 rfl (wy_pr rfl) wt_158 wf_5_3 (v := 47) wl_158_3 ?_
  refine wa_iconst ?_
  refine wb_aald5 47 3 rfl rfl (wy_pr rfl) wt_47 (by rw [show _ = _ from ((cl_47 hC))]; omega) wl_47_3 ?_
  refine wa_iload_n (n := 1) rfl ?_
  refine wb_iald 51 rfl (wy_pr rfl) wt_51 (n := (S 48 (-1))) ((hl.2.2.1 3 (by decide))) (by omega) (by omega) (v := wh) (he51) (fun r1 => ?_)
  refine wa_istore_n (n := 2) rfl ?_
  refine wa_aload_n (n := 0) rfl ?_
  refine wb_gf4 158 rfl (wy_pr rfl) wt_158 wf_5_3 (v := 47) wl_158_3 ?_
  refine wa_iconst ?_
  refine wb_aald5 47 0 rfl rfl (wy_pr rfl) wt_47 (by rw [show _ = _ from ((cl_47 hC))]; omega) wl_47_0 ?_
  refine wa_iload_n (n := 1) rfl ?_
  refine wb_iald 48 rfl (wy_pr rfl) wt_48 (n := (S 48 (-1))) (rfl) (by omega) (by omega) (v := l) (e48) (fun r2 => ?_)
  by_cases c3 : l = 0
  · exact absurd c3 (by omega)
  by_cases c4 : l = 3
  · exact absurd c4 (by omega)
  refine wa_lw (tb := 0) (w_rg0 (by omega) (by omega)) (q := (116, 7)) (lw_df [0, 3] rfl (by simp only [List.mem_cons, List.not_mem_nil, or_false, not_or]; omega) (by first | rfl | decide)) ⟨_, rfl⟩ ?_
  refine wa_aload_n (n := 0) rfl ?_
  refine wb_gf4 158 rfl (wy_pr rfl) wt_158 wf_5_0 (v := 72) wl_158_0 ?_
  refine wb_gf5 72 rfl (wy_pr rfl) wt_72 wf_2_1 (v := 73) (h72) (fun r5 => ?_)
  refine wb_gf4 73 rfl (wy_pr rfl) wt_73 wf_3_3 (v := 96) wl_73_3 ?_
  refine wa_iconst ?_
  refine wb_aald5 96 1 rfl rfl (wy_pr rfl) wt_96 (by rw [show _ = _ from ((cl_96 hC))]; omega) wl_96_1 ?_
  refine wa_iload_n (n := 2) rfl ?_
  refine wb_iald 98 rfl (wy_pr rfl) wt_98 (n := 400) ((cl_98 hC)) (by omega) (by omega) (v := 0) (hso) (fun r6 => ?_)
  refine wa_ifne (w_rg0 (by omega) (by omega)) ⟨_, rfl⟩ (fun c7 => ?_) (fun c7 => ?_)
  · skip
    exact absurd c7 (by omega)
  · skip
    refine wa_aload_n (n := 0) rfl ?_
    refine wa_iload_n (n := 2) rfl ?_
    refine wa_cv 158 rfl (wy_pr rfl) wt_158 (M2 := mS [228, 229]) rfl at_XL_actOnField ⟨_, rfl⟩ rfl rfl ⟨trivial, (Or.inr ⟨wy_pr rfl, mS_no rfl⟩), trivial, trivial⟩ trivial (fun _ _ q => q) ?_ (fun _ _ _ q => q)
    refine wa_aload_n (n := 0) rfl ?_
    refine wa_iload_n (n := 1) rfl ?_
    refine wa_cv 158 rfl (wy_pr rfl) wt_158 (M2 := mS [228, 229]) rfl at_XL_rowOf ⟨_, rfl⟩ rfl rfl ⟨(Or.inr ⟨wy_pr rfl, mS_no rfl⟩), trivial, trivial⟩ trivial (fun _ _ q => q) ?_ (fun _ _ _ q => q)
    refine wa_aload_n (n := 0) rfl ?_
    refine wb_gf4 158 rfl (wy_pr rfl) wt_158 wf_5_0 (v := 72) wl_158_0 ?_
    refine wb_gf5 72 rfl (wy_pr rfl) wt_72 wf_2_1 (v := 73) (h72) (fun r8 => ?_)
    refine wb_gf4 73 rfl (wy_pr rfl) wt_73 wf_3_3 (v := 96) wl_73_3 ?_
    refine wa_iconst ?_
    refine wb_aald5 96 2 rfl rfl (wy_pr rfl) wt_96 (by rw [show _ = _ from ((cl_96 hC))]; omega) wl_96_2 ?_
    refine wa_iload_n (n := 1) rfl ?_
    refine wb_iald 99 rfl (wy_pr rfl) wt_99 (n := 400) ((cl_99 hC)) (by omega) (by omega) (v := 0) (hstt) (fun r9 => ?_)
    refine wa_iconst ?_
    refine wa_icmpne (w_rg0 (by omega) (by omega)) (w_rg0 (by omega) (by omega)) ⟨_, rfl⟩ (fun c10 => ?_) (fun c10 => ?_)
    · skip
      refine wa_aload_n (n := 0) rfl ?_
      refine wb_gf4 158 rfl (wy_pr rfl) wt_158 wf_5_0 (v := 72) wl_158_0 ?_
      refine wb_gf4 72 rfl (wy_pr rfl) wt_72 wf_2_6 (v := 140) wl_72_6 ?_
      refine wa_fall ⟨_, rfl⟩ ?_
      refine wa_oreturn rfl ?_
      show wJ _ _ _ _ _ _ _ _ _ _
      refine wa_astore_n (n := 2) rfl ?_
      refine wa_aload_n (n := 0) rfl ?_
      refine wa_iload_n (n := 1) rfl ?_
      refine wa_cv 158 rfl (wy_pr rfl) wt_158 (M2 := mS [228, 229]) rfl at_XL_placeOf ⟨_, rfl⟩ rfl rfl ⟨(Or.inr ⟨wy_pr rfl, mS_no rfl⟩), (Or.inr ⟨wy_pr rfl, mS_no rfl⟩), trivial, trivial⟩ trivial (fun _ _ q => q) ?_ (fun _ _ _ q => q)
      refine wa_aload_n (n := 0) rfl ?_
      refine wb_gf4 158 rfl (wy_pr rfl) wt_158 wf_5_0 (v := 72) wl_158_0 ?_
      refine wb_gf5 72 rfl (wy_pr rfl) wt_72 wf_2_1 (v := 73) (h72) (fun r11 => ?_)
      refine wb_gf4 73 rfl (wy_pr rfl) wt_73 wf_3_3 (v := 96) wl_73_3 ?_
      refine wa_bipush (w_rg2 (by omega) (by omega)) ?_
      refine wb_aald5 96 15 rfl rfl (wy_pr rfl) wt_96 (by rw [show _ = _ from ((cl_96 hC))]; omega) wl_96_15 ?_
      refine wa_iload_n (n := 1) rfl ?_
      refine wb_iald 112 rfl (wy_pr rfl) wt_112 (n := 400) ((cl_112 hC)) (by omega) (by omega) (v := fi) (hfi) (fun r12 => ?_)
      refine wa_istore_n (n := 2) rfl ?_
      refine wa_aload_n (n := 0) rfl ?_
      refine wb_gf4 158 rfl (wy_pr rfl) wt_158 wf_5_0 (v := 72) wl_158_0 ?_
      refine wb_gf5 72 rfl (wy_pr rfl) wt_72 wf_2_1 (v := 73) (h72) (fun r13 => ?_)
      refine wb_gf4 73 rfl (wy_pr rfl) wt_73 wf_3_3 (v := 96) wl_73_3 ?_
      refine wa_iconst ?_
      refine wb_aald5 96 2 rfl rfl (wy_pr rfl) wt_96 (by rw [show _ = _ from ((cl_96 hC))]; omega) wl_96_2 ?_
      refine wa_iload_n (n := 1) rfl ?_
      refine wb_iald 99 rfl (wy_pr rfl) wt_99 (n := 400) ((cl_99 hC)) (by omega) (by omega) (v := 0) (hstt) (fun r14 => ?_)
      refine wa_iconst ?_
      refine wa_icmpne (w_rg0 (by omega) (by omega)) (w_rg0 (by omega) (by omega)) ⟨_, rfl⟩ (fun c15 => ?_) (fun c15 => ?_)
      · skip
        refine wa_iconst ?_
        refine wa_fall ⟨_, rfl⟩ ?_
        refine wa_istore_n (n := 3) rfl ?_
        refine wa_iload_n (n := 3) rfl ?_
        refine wa_ifeq (w_rg0 (by omega) (by omega)) ⟨_, rfl⟩ (fun c16 => ?_) (fun c16 => ?_)
        · skip
          refine wa_aload_n (n := 0) rfl ?_
          refine wb_gf4 158 rfl (wy_pr rfl) wt_158 wf_5_0 (v := 72) wl_158_0 ?_
          refine wb_gf4 72 rfl (wy_pr rfl) wt_72 wf_2_2 (v := 126) wl_72_2 ?_
          refine wa_bipush (w_rg2 (by omega) (by omega)) ?_
          refine wb_aald5 126 6 rfl rfl (wy_pr rfl) wt_126 (by rw [show _ = _ from ((cl_126 hC))]; omega) wl_126_6 ?_
          refine wa_aload_n (n := 0) rfl ?_
          refine wb_gfl 158 rfl (wy_pr rfl) wt_158 wf_5_10 (v := gb) (l10) (fun r17 => ?_)
          refine wb_l2i_r (wb_l2i_id ⟨(by omega), (by omega)⟩) ?_
          refine wb_iald 133 rfl (wy_pr rfl) wt_133 (n := (S 127 (-1))) ((hth 6 (by decide))) (by omega) (by omega) (v := st) (hst) (fun r18 => ?_)
          refine wa_iload_n (n := 2) rfl ?_
          refine wa_iadd ?_
          refine wa_fall ⟨_, rfl⟩ ?_
          refine wa_ireturn rfl ?_
          show wJ _ _ _ _ _ _ _ _ _ _
          refine wa_istore_n (n := 3) rfl ?_
          refine wa_aload_n (n := 0) rfl ?_
          refine wb_gfi 158 rfl (wy_pr rfl) wt_158 wf_5_7 (v := kd) (l7) (fun r19 => ?_)
          refine wa_ifne (w_rg0 (by omega) (by omega)) ⟨_, rfl⟩ (fun c20 => ?_) (fun c20 => ?_)
          · skip
            refine wa_aload_n (n := 0) rfl ?_
            refine wb_gf4 158 rfl (wy_pr rfl) wt_158 wf_5_0 (v := 72) wl_158_0 ?_
            refine wb_gf5 72 rfl (wy_pr rfl) wt_72 wf_2_1 (v := 73) (h72) (fun r21 => ?_)
            refine wa_aload_n (n := 0) rfl ?_
            refine wb_gfl 158 rfl (wy_pr rfl) wt_158 wf_5_13 (v := es) (l13) (fun r22 => ?_)
            refine wb_l2i_r (wb_l2i_id ⟨(by omega), (by omega)⟩) ?_
            refine wa_aload_n (n := 0) rfl ?_
            refine wb_gf4 158 rfl (wy_pr rfl) wt_158 wf_5_0 (v := 72) wl_158_0 ?_
            refine wb_gf5 72 rfl (wy_pr rfl) wt_72 wf_2_1 (v := 73) (h72) (fun r23 => ?_)
            refine wb_gf4 73 rfl (wy_pr rfl) wt_73 wf_3_3 (v := 96) wl_73_3 ?_
            refine wa_iconst ?_
            refine wb_aald5 96 3 rfl rfl (wy_pr rfl) wt_96 (by rw [show _ = _ from ((cl_96 hC))]; omega) wl_96_3 ?_
            refine wa_iload_n (n := 1) rfl ?_
            refine wb_iald 100 rfl (wy_pr rfl) wt_100 (n := 400) ((cl_100 hC)) (by omega) (by omega) (v := ty) (hty) (fun r24 => ?_)
            refine wa_iconst ?_
            refine wa_cv 73 rfl (wy_pr rfl) wt_73 (M2 := fun _ => False) rfl at_XO_goesTo ⟨_, rfl⟩ rfl rfl ⟨trivial, (Or.inr ⟨wy_pr rfl, fun q => q⟩), (Or.inr ⟨wy_pr rfl, fun q => q⟩), trivial, trivial⟩ trivial (fun _ _ q => False.elim q) (gto_73 (S := S) (f := es) (q := ty) (l := 1) (lb := true) hC hK hw ⟨by omega, by omega⟩ ⟨by omega, by omega⟩ (Or.inr ⟨rfl, rfl⟩)) (fun oq25 Sq25 hp26 q25 => ?_)
            rcases q25 with ⟨rfl, rfl⟩
            show wJ _ _ _ _ _ _ _ _ _ _
            have hbg := bI_rg (gTB cs es ty true)
            refine wa_ifeq (w_rg0 (by omega) (by omega)) ⟨_, rfl⟩ (fun c27 => ?_) (fun c27 => ?_)
            · skip
              refine wa_aload_n (n := 0) rfl ?_
              refine wb_gf5 158 rfl (wy_pr rfl) wt_158 wf_5_4 (v := 226) (l4) (fun r28 => ?_)
              refine wa_bipush (w_rg2 (by omega) (by omega)) ?_
              refine wb_pfi 226 rfl (wy_pr rfl) wt_226 wf_8_16 (n := 16) rfl ⟨(by omega), (by omega)⟩ ?_
              refine wa_fall ⟨_, rfl⟩ ?_
              refine wa_return rfl ?_
              show wJ _ _ _ _ _ _ _ _ _ _
              refine wa_goto ⟨_, rfl⟩ ?_
              refine wa_return rfl ?_
              exact ⟨rfl, Or.inr ⟨bI_0 (by omega), rfl⟩⟩
            · skip
              refine wa_aload_n (n := 0) rfl ?_
              refine wb_gf5 158 rfl (wy_pr rfl) wt_158 wf_5_5 (v := 227) (l5) (fun r29 => ?_)
              refine wb_gfi 227 rfl (wy_pr rfl) wt_227 wf_7_2 (v := h) (bh) (fun r30 => ?_)
              refine wa_iconst ?_
              refine wa_isub ?_
              refine wa_istore (n := 4) rfl ?_
              refine wa_aload_n (n := 2) rfl ?_
              refine wa_iload_n (n := 3) rfl ?_
              refine wa_aload_n (n := 0) rfl ?_
              refine wb_gf5 158 rfl (wy_pr rfl) wt_158 wf_5_5 (v := 227) (l5) (fun r31 => ?_)
              refine wb_gf4 227 rfl (wy_pr rfl) wt_227 wf_7_0 (v := 228) wl_227_0 ?_
              refine wa_iload (n := 4) rfl ?_
              refine wb_bald 228 rfl (wy_pr rfl) wt_228 (n := (S 228 (-1))) (rfl) (by omega) (by omega) (v := ky) (hky) (fun r32 => ?_)
              refine wa_aload_n (n := 0) rfl ?_
              refine wb_gf5 158 rfl (wy_pr rfl) wt_158 wf_5_5 (v := 227) (l5) (fun r33 => ?_)
              refine wb_gf4 227 rfl (wy_pr rfl) wt_227 wf_7_1 (v := 229) wl_227_1 ?_
              refine wa_iload (n := 4) rfl ?_
              refine wb_lald 229 rfl (wy_pr rfl) wt_229 (n := (S 228 (-1))) (bl1) (by omega) (by omega) (v := vy) (hvy) (fun r34 => ?_)
              refine wa_cv 140 rfl (wy_pr rfl) wt_140 (M2 := mS [228, 229]) rfl at_XV_put ⟨_, rfl⟩ rfl rfl ⟨trivial, trivial, (Or.inr ⟨wy_pr rfl, mS_no rfl⟩), (Or.inr ⟨wy_pr rfl, mS_no rfl⟩), trivial, trivial⟩ trivial (fun _ _ q => q) ?_ (fun _ _ _ q => q)
              refine wa_aload_n (n := 0) rfl ?_
              refine wb_gf4 140 rfl (wy_pr rfl) wt_140 wf_7_0 (v := 141) wl_140_0 ?_
              refine wa_iload_n (n := 1) rfl ?_
              refine wa_iload_n (n := 2) rfl ?_
              refine wb_i2b_r (wb_i2b_id ⟨(by omega), (by omega)⟩) ?_
              refine wb_bast 141 rfl (wy_pr rfl) wt_141 (n := (S 141 (-1))) (rfl) (by omega) (by omega) ⟨(by omega), (by omega)⟩ ?_
              refine wa_aload_n (n := 0) rfl ?_
              refine wb_gf4 140 rfl (wy_pr rfl) wt_140 wf_7_1 (v := 142) wl_140_1 ?_
              refine wa_iload_n (n := 1) rfl ?_
              refine wa_lload_n (n := 3) rfl ?_
              refine wb_last 142 rfl (wy_pr rfl) wt_142 (n := (S 141 (-1))) ((w_up_slot (by decide)).trans (hl14)) (by omega) (by omega) ⟨(by omega), (by omega)⟩ ?_
              refine wa_return rfl ?_
              show wJ _ _ _ _ _ _ _ _ _ _
              refine wa_aload_n (n := 0) rfl ?_
              refine wa_aload_n (n := 0) rfl ?_
              refine wb_gf5 158 rfl (wy_pr rfl) wt_158 wf_5_5 (v := 227) ((w_up_slot (by decide)).trans ((w_up_slot (by decide)).trans (l5))) (fun r35 => ?_)
              refine wb_gf4 227 rfl (wy_pr rfl) wt_227 wf_7_0 (v := 228) wl_227_0 ?_
              refine wa_iload (n := 4) rfl ?_
              refine wb_bald 228 rfl (wy_pr rfl) wt_228 (n := (S 228 (-1))) ((w_up_slot (by decide)).trans ((w_up_slot (by decide)).trans (rfl))) (by omega) (by omega) (v := ky) ((w_up_slot (by decide)).trans ((w_up_slot (by decide)).trans (hky))) (fun r36 => ?_)
              refine wa_aload_n (n := 0) rfl ?_
              refine wb_gf5 158 rfl (wy_pr rfl) wt_158 wf_5_5 (v := 227) ((w_up_slot (by decide)).trans ((w_up_slot (by decide)).trans (l5))) (fun r37 => ?_)
              refine wb_gf4 227 rfl (wy_pr rfl) wt_227 wf_7_1 (v := 229) wl_227_1 ?_
              refine wa_iload (n := 4) rfl ?_
              refine wb_lald 229 rfl (wy_pr rfl) wt_229 (n := (S 228 (-1))) ((w_up_slot (by decide)).trans ((w_up_slot (by decide)).trans (bl1))) (by omega) (by omega) (v := vy) ((w_up_slot (by decide)).trans ((w_up_slot (by decide)).trans (hvy))) (fun r38 => ?_)
              refine wa_cv 158 rfl (wy_pr rfl) wt_158 (M2 := mS [228, 229]) rfl at_XL_giveValue ⟨_, rfl⟩ rfl rfl ⟨trivial, trivial, (Or.inr ⟨wy_pr rfl, mS_no rfl⟩), (Or.inr ⟨wy_pr rfl, mS_no rfl⟩), trivial, trivial⟩ trivial (fun _ _ q => mS_sub (by decide) q) (glx_226 (S := (w_up (w_up S 141 (st + fi) ky) 142 (st + fi) vy)) (k := ky) (v := vy) (h := h) (c := c) (p := p) (ba := ba) (w_CL_up (w_CL_up hC (by omega)) (by omega)) (gI_up (gI_up hI (by omega) (by omega) (by omega)) (by omega) (by omega) (by omega)) ((w_up_slot (by decide)).trans ((w_up_slot (by decide)).trans (l4))) ((w_up_slot (by decide)).trans ((w_up_slot (by decide)).trans (l5))) ((w_up_slot (by decide)).trans ((w_up_slot (by decide)).trans (l8))) ((w_up_slot (by decide)).trans ((w_up_slot (by decide)).trans (bc))) ((w_up_slot (by decide)).trans ((w_up_slot (by decide)).trans (bp))) ((((w_up_slot (by decide)).trans ((w_up_slot (by decide)).trans (bl1)))).trans (((w_up_slot (by decide)).trans ((w_up_slot (by decide)).trans (rfl)))).symm) (by have e : (w_up (w_up S 141 (st + fi) ky) 142 (st + fi) vy) 228 (-1) = S 228 (-1) := ((w_up_slot (by decide)).trans ((w_up_slot (by decide)).trans (rfl))); rw [e]; exact ⟨bl2, bl3⟩) (by have e : (w_up (w_up S 141 (st + fi) ky) 142 (st + fi) vy) 228 (-1) = S 228 (-1) := ((w_up_slot (by decide)).trans ((w_up_slot (by decide)).trans (rfl))); omega) ⟨by omega, by omega⟩ ⟨by omega, by omega⟩ ⟨by omega, by omega⟩ ⟨by omega, by omega⟩) (fun oq39 Sq39 hp40 q39 => ?_)
              rcases q39 with ⟨rfl, hgv39⟩
              show wJ _ _ _ _ _ _ _ _ _ _
              refine wa_goto ⟨_, rfl⟩ ?_
              refine wa_return rfl ?_
              show wJ _ _ _ _ _ _ _ _ _ _
              refine wa_goto ⟨_, rfl⟩ ?_
              refine wa_return rfl ?_
              exact ⟨rfl, Or.inl ⟨bI_1 (by omega), hgv39⟩⟩
          · skip
            exact absurd c20 (by omega)
        · skip
          exact absurd c16 (by omega)
      · skip
        exact absurd c15 (by omega)
    · skip
      exact absurd c10 (by omega)
set_option maxHeartbeats 4000000 in
theorem hfg1_162_215 {c p h kd ba gk gb x l wh fi vk vb : Int} (hP : xP 215 c p h S) (hl : cSl S) (l4 : S 158 4 = 215) (l5 : S 158 5 = 216) (l7 : S 158 7 = kd) (l8 : S 158 8 = ba) (l9 : S 158 9 = gk) (l10 : S 158 10 = gb) (hx : 0 ≤ x ∧ x < S 48 (-1)) (hba : 0 ≤ ba ∧ ba < h) (h72 : S 72 1 = 162) (e48 : S 48 x = l) (hl12 : l = 1 ∨ l = 2) (he51 : S 51 x = wh) (hwh : 0 ≤ wh ∧ wh < 400) (hso : S 187 wh = 0) (hstt : S 188 wh = 1) (hfi : S 201 wh = fi) (hrl : S 207 (-1) = S 206 (-1)) (hrb : 0 ≤ fi ∧ fi < S 206 (-1) ∧ S 206 (-1) ≤ 8388608) (hvk : S 206 fi = vk) (hvb : S 207 fi = vb) (hvr : -128 ≤ vk ∧ vk ≤ 127) (hvs : -9223372036854775808 ≤ vb ∧ vb ≤ 9223372036854775807) (hkd : kd = 0) : wJ (pe_GA xs) wY0 (mS [217, 218]) (d + 9) t_XL_act ((pe_at t_XL_act.bl 0).getD (0, [])).2 [(0, (2, 158)), (1, (0, x))] [] S (fun o Z => o = .inl none ∧ sO 215 h c p (h - ba) vk vb S Z) := by
  obtain ⟨⟨hC, hI⟩, ⟨bc, bc0, bc1⟩, ⟨bp, bp0, bp1⟩, ⟨bh, bh0, bh1, bh2⟩, bl1, bl2, bl3⟩ := hP
  replace bp : S 220 (c - 1) = p := bp
  replace bh : S 216 2 = h := bh
  replace bh2 : h ≤ S 217 (-1) := bh2
  replace bl1 : S 218 (-1) = S 217 (-1) := bl1
  replace bl2 : 64 ≤ S 217 (-1) := bl2
  replace bl3 : S 217 (-1) ≤ 4095 := bl3
  have h35 := hl.2.1
  have h48 := hl.2.2.2
  refine wa_aload_n (n := 0) rfl ?_
  refine wb_gf4 158 rfl (wy_pr rfl) wt_158 wf_5_3 (v := 47) wl_158_3 ?_
  refine wa_iconst ?_
  refine wb_aald5 47 3 rfl rfl (wy_pr rfl) wt_47 (by rw [show _ = _ from ((cl_47 hC))]; omega) wl_47_3 ?_
  refine wa_iload_n (n := 1) rfl ?_
  refine wb_iald 51 rfl (wy_pr rfl) wt_51 (n := (S 48 (-1))) ((hl.2.2.1 3 (by decide))) (by omega) (by omega) (v := wh) (he51) (fun r1 => ?_)
  refine wa_istore_n (n := 2) rfl ?_
  refine wa_aload_n (n := 0) rfl ?_
  refine wb_gf4 158 rfl (wy_pr rfl) wt_158 wf_5_3 (v := 47) wl_158_3 ?_
  refine wa_iconst ?_
  refine wb_aald5 47 0 rfl rfl (wy_pr rfl) wt_47 (by rw [show _ = _ from ((cl_47 hC))]; omega) wl_47_0 ?_
  refine wa_iload_n (n := 1) rfl ?_
  refine wb_iald 48 rfl (wy_pr rfl) wt_48 (n := (S 48 (-1))) (rfl) (by omega) (by omega) (v := l) (e48) (fun r2 => ?_)
  by_cases c3 : l = 0
  · exact absurd c3 (by omega)
  by_cases c4 : l = 3
  · exact absurd c4 (by omega)
  refine wa_lw (tb := 0) (w_rg0 (by omega) (by omega)) (q := (116, 7)) (lw_df [0, 3] rfl (by simp only [List.mem_cons, List.not_mem_nil, or_false, not_or]; omega) (by first | rfl | decide)) ⟨_, rfl⟩ ?_
  refine wa_aload_n (n := 0) rfl ?_
  refine wb_gf4 158 rfl (wy_pr rfl) wt_158 wf_5_0 (v := 72) wl_158_0 ?_
  refine wb_gf5 72 rfl (wy_pr rfl) wt_72 wf_2_1 (v := 162) (h72) (fun r5 => ?_)
  refine wb_gf4 162 rfl (wy_pr rfl) wt_162 wf_3_3 (v := 185) wl_162_3 ?_
  refine wa_iconst ?_
  refine wb_aald5 185 1 rfl rfl (wy_pr rfl) wt_185 (by rw [show _ = _ from ((cl_185 hC))]; omega) wl_185_1 ?_
  refine wa_iload_n (n := 2) rfl ?_
  refine wb_iald 187 rfl (wy_pr rfl) wt_187 (n := 400) ((cl_187 hC)) (by omega) (by omega) (v := 0) (hso) (fun r6 => ?_)
  refine wa_ifne (w_rg0 (by omega) (by omega)) ⟨_, rfl⟩ (fun c7 => ?_) (fun c7 => ?_)
  · skip
    exact absurd c7 (by omega)
  · skip
    refine wa_aload_n (n := 0) rfl ?_
    refine wa_iload_n (n := 2) rfl ?_
    refine wa_cv 158 rfl (wy_pr rfl) wt_158 (M2 := mS [217, 218]) rfl at_XL_actOnField ⟨_, rfl⟩ rfl rfl ⟨trivial, (Or.inr ⟨wy_pr rfl, mS_no rfl⟩), trivial, trivial⟩ trivial (fun _ _ q => q) ?_ (fun _ _ _ q => q)
    refine wa_aload_n (n := 0) rfl ?_
    refine wa_iload_n (n := 1) rfl ?_
    refine wa_cv 158 rfl (wy_pr rfl) wt_158 (M2 := mS [217, 218]) rfl at_XL_rowOf ⟨_, rfl⟩ rfl rfl ⟨(Or.inr ⟨wy_pr rfl, mS_no rfl⟩), trivial, trivial⟩ trivial (fun _ _ q => q) ?_ (fun _ _ _ q => q)
    refine wa_aload_n (n := 0) rfl ?_
    refine wb_gf4 158 rfl (wy_pr rfl) wt_158 wf_5_0 (v := 72) wl_158_0 ?_
    refine wb_gf5 72 rfl (wy_pr rfl) wt_72 wf_2_1 (v := 162) (h72) (fun r8 => ?_)
    refine wb_gf4 162 rfl (wy_pr rfl) wt_162 wf_3_3 (v := 185) wl_162_3 ?_
    refine wa_iconst ?_
    refine wb_aald5 185 2 rfl rfl (wy_pr rfl) wt_185 (by rw [show _ = _ from ((cl_185 hC))]; omega) wl_185_2 ?_
    refine wa_iload_n (n := 1) rfl ?_
    refine wb_iald 188 rfl (wy_pr rfl) wt_188 (n := 400) ((cl_188 hC)) (by omega) (by omega) (v := 1) (hstt) (fun r9 => ?_)
    refine wa_iconst ?_
    refine wa_icmpne (w_rg0 (by omega) (by omega)) (w_rg0 (by omega) (by omega)) ⟨_, rfl⟩ (fun c10 => ?_) (fun c10 => ?_)
    · skip
      exact absurd c10 (by omega)
    · skip
      refine wa_aload_n (n := 0) rfl ?_
      refine wb_gf4 158 rfl (wy_pr rfl) wt_158 wf_5_0 (v := 72) wl_158_0 ?_
      refine wb_gf5 72 rfl (wy_pr rfl) wt_72 wf_2_1 (v := 162) (h72) (fun r11 => ?_)
      refine wb_gf4 162 rfl (wy_pr rfl) wt_162 wf_3_7 (v := 205) wl_162_7 ?_
      refine wa_goto ⟨_, rfl⟩ ?_
      refine wa_oreturn rfl ?_
      show wJ _ _ _ _ _ _ _ _ _ _
      refine wa_astore_n (n := 2) rfl ?_
      refine wa_aload_n (n := 0) rfl ?_
      refine wa_iload_n (n := 1) rfl ?_
      refine wa_cv 158 rfl (wy_pr rfl) wt_158 (M2 := mS [217, 218]) rfl at_XL_placeOf ⟨_, rfl⟩ rfl rfl ⟨(Or.inr ⟨wy_pr rfl, mS_no rfl⟩), (Or.inr ⟨wy_pr rfl, mS_no rfl⟩), trivial, trivial⟩ trivial (fun _ _ q => q) ?_ (fun _ _ _ q => q)
      refine wa_aload_n (n := 0) rfl ?_
      refine wb_gf4 158 rfl (wy_pr rfl) wt_158 wf_5_0 (v := 72) wl_158_0 ?_
      refine wb_gf5 72 rfl (wy_pr rfl) wt_72 wf_2_1 (v := 162) (h72) (fun r12 => ?_)
      refine wb_gf4 162 rfl (wy_pr rfl) wt_162 wf_3_3 (v := 185) wl_162_3 ?_
      refine wa_bipush (w_rg2 (by omega) (by omega)) ?_
      refine wb_aald5 185 15 rfl rfl (wy_pr rfl) wt_185 (by rw [show _ = _ from ((cl_185 hC))]; omega) wl_185_15 ?_
      refine wa_iload_n (n := 1) rfl ?_
      refine wb_iald 201 rfl (wy_pr rfl) wt_201 (n := 400) ((cl_201 hC)) (by omega) (by omega) (v := fi) (hfi) (fun r13 => ?_)
      refine wa_istore_n (n := 2) rfl ?_
      refine wa_aload_n (n := 0) rfl ?_
      refine wb_gf4 158 rfl (wy_pr rfl) wt_158 wf_5_0 (v := 72) wl_158_0 ?_
      refine wb_gf5 72 rfl (wy_pr rfl) wt_72 wf_2_1 (v := 162) (h72) (fun r14 => ?_)
      refine wb_gf4 162 rfl (wy_pr rfl) wt_162 wf_3_3 (v := 185) wl_162_3 ?_
      refine wa_iconst ?_
      refine wb_aald5 185 2 rfl rfl (wy_pr rfl) wt_185 (by rw [show _ = _ from ((cl_185 hC))]; omega) wl_185_2 ?_
      refine wa_iload_n (n := 1) rfl ?_
      refine wb_iald 188 rfl (wy_pr rfl) wt_188 (n := 400) ((cl_188 hC)) (by omega) (by omega) (v := 1) (hstt) (fun r15 => ?_)
      refine wa_iconst ?_
      refine wa_icmpne (w_rg0 (by omega) (by omega)) (w_rg0 (by omega) (by omega)) ⟨_, rfl⟩ (fun c16 => ?_) (fun c16 => ?_)
      · skip
        exact absurd c16 (by omega)
      · skip
        refine wa_iconst ?_
        refine wa_goto ⟨_, rfl⟩ ?_
        refine wa_istore_n (n := 3) rfl ?_
        refine wa_iload_n (n := 3) rfl ?_
        refine wa_ifeq (w_rg0 (by omega) (by omega)) ⟨_, rfl⟩ (fun c17 => ?_) (fun c17 => ?_)
        · skip
          exact absurd c17 (by omega)
        · skip
          refine wa_iload_n (n := 2) rfl ?_
          refine wa_goto ⟨_, rfl⟩ ?_
          refine wa_ireturn rfl ?_
          show wJ _ _ _ _ _ _ _ _ _ _
          refine wa_istore_n (n := 3) rfl ?_
          refine wa_aload_n (n := 0) rfl ?_
          refine wb_gfi 158 rfl (wy_pr rfl) wt_158 wf_5_7 (v := kd) (l7) (fun r18 => ?_)
          refine wa_ifne (w_rg0 (by omega) (by omega)) ⟨_, rfl⟩ (fun c19 => ?_) (fun c19 => ?_)
          · skip
            exact absurd c19 (by omega)
          · skip
            refine wa_aload_n (n := 0) rfl ?_
            refine wa_aload_n (n := 2) rfl ?_
            refine wb_gf4 205 rfl (wy_pr rfl) wt_205 wf_7_0 (v := 206) wl_205_0 ?_
            refine wa_iload_n (n := 3) rfl ?_
            refine wb_bald 206 rfl (wy_pr rfl) wt_206 (n := (S 206 (-1))) (rfl) (by omega) (by omega) (v := vk) (hvk) (fun r20 => ?_)
            refine wa_aload_n (n := 2) rfl ?_
            refine wb_gf4 205 rfl (wy_pr rfl) wt_205 wf_7_1 (v := 207) wl_205_1 ?_
            refine wa_iload_n (n := 3) rfl ?_
            refine wb_lald 207 rfl (wy_pr rfl) wt_207 (n := (S 206 (-1))) (hrl) (by omega) (by omega) (v := vb) (hvb) (fun r21 => ?_)
            refine wa_cv 158 rfl (wy_pr rfl) wt_158 (M2 := mS [217, 218]) rfl at_XL_giveValue ⟨_, rfl⟩ rfl rfl ⟨trivial, (Or.inr ⟨wy_pr rfl, mS_no rfl⟩), (Or.inr ⟨wy_pr rfl, mS_no rfl⟩), trivial, trivial⟩ trivial (fun _ _ q => mS_sub (by decide) q) (glx_215 (S := S) (k := vk) (v := vb) (h := h) (c := c) (p := p) (ba := ba) hC hI (l4) (l5) (l8) (bc) (bp) (((bl1)).trans ((rfl)).symm) (by have e : S 217 (-1) = S 217 (-1) := (rfl); rw [e]; exact ⟨bl2, bl3⟩) (by have e : S 217 (-1) = S 217 (-1) := (rfl); omega) ⟨by omega, by omega⟩ ⟨by omega, by omega⟩ ⟨by omega, by omega⟩ ⟨by omega, by omega⟩) (fun oq22 Sq22 hp23 q22 => ?_)
            rcases q22 with ⟨rfl, hgv22⟩
            show wJ _ _ _ _ _ _ _ _ _ _
            refine wa_goto ⟨_, rfl⟩ ?_
            refine wa_return rfl ?_
            show wJ _ _ _ _ _ _ _ _ _ _
            refine wa_goto ⟨_, rfl⟩ ?_
            refine wa_return rfl ?_
            exact ⟨rfl, hgv22⟩
set_option maxHeartbeats 4000000 in
theorem hfs1_162_215 {c p h kd ba gk gb x l wh fi ky vy es ty : Int} (hP : xP 215 c p h S) (hl : cSl S) (l4 : S 158 4 = 215) (l5 : S 158 5 = 216) (l7 : S 158 7 = kd) (l8 : S 158 8 = ba) (l9 : S 158 9 = gk) (l10 : S 158 10 = gb) (hx : 0 ≤ x ∧ x < S 48 (-1)) (hba : 0 ≤ ba ∧ ba < h) (hK : KC 176 186 182 203 204 163 162 T cs ms os S) (hw : wHo cs ms os) (h72 : S 72 1 = 162) (e48 : S 48 x = l) (hl12 : l = 1 ∨ l = 2) (he51 : S 51 x = wh) (hwh : 0 ≤ wh ∧ wh < 400) (hso : S 187 wh = 0) (hstt : S 188 wh = 1) (hfi : S 201 wh = fi) (hrl : S 207 (-1) = S 206 (-1)) (hrb : 0 ≤ fi ∧ fi < S 206 (-1) ∧ S 206 (-1) ≤ 8388608) (hky : S 217 (h - 1) = ky) (hvy : S 218 (h - 1) = vy) (hkr : -128 ≤ ky ∧ ky ≤ 127) (hvr : -9223372036854775808 ≤ vy ∧ vy ≤ 9223372036854775807) (l13 : S 158 13 = es) (hes : 0 ≤ es ∧ es < 9 + (cs.length : Int)) (hty : S 189 wh = ty) (htr : 0 ≤ ty ∧ ty < 9 + (cs.length : Int)) (hkd : kd = 1) : wJ (pe_GA xs) wY0 (mS [217, 218]) (d + 9) t_XL_act ((pe_at t_XL_act.bl 0).getD (0, [])).2 [(0, (2, 158)), (1, (0, x))] [] S (fun o Z => o = .inl none ∧ ((gTB cs es ty true = true ∧ sO 215 h c p (h - ba) ky vy (w_up (w_up S 206 fi ky) 207 fi vy) Z) ∨ (gTB cs es ty true = false ∧ w_up S 215 16 7 = Z))) := by
  obtain ⟨⟨hC, hI⟩, ⟨bc, bc0, bc1⟩, ⟨bp, bp0, bp1⟩, ⟨bh, bh0, bh1, bh2⟩, bl1, bl2, bl3⟩ := hP
  replace bp : S 220 (c - 1) = p := bp
  replace bh : S 216 2 = h := bh
  replace bh2 : h ≤ S 217 (-1) := bh2
  replace bl1 : S 218 (-1) = S 217 (-1) := bl1
  replace bl2 : 64 ≤ S 217 (-1) := bl2
  replace bl3 : S 217 (-1) ≤ 4095 := bl3
  have h35 := hl.2.1
  have h48 := hl.2.2.2
  have hn60 := hw.1
  refine wa_aload_n (n := 0) rfl ?_
  refine wb_gf4 158 rfl (wy_pr rfl) wt_158 wf_5_3 (v := 47) wl_158_3 ?_
  refine wa_iconst ?_
  refine wb_aald5 47 3 rfl rfl (wy_pr rfl) wt_47 (by rw [show _ = _ from ((cl_47 hC))]; omega) wl_47_3 ?_
  refine wa_iload_n (n := 1) rfl ?_
  refine wb_iald 51 rfl (wy_pr rfl) wt_51 (n := (S 48 (-1))) ((hl.2.2.1 3 (by decide))) (by omega) (by omega) (v := wh) (he51) (fun r1 => ?_)
  refine wa_istore_n (n := 2) rfl ?_
  refine wa_aload_n (n := 0) rfl ?_
  refine wb_gf4 158 rfl (wy_pr rfl) wt_158 wf_5_3 (v := 47) wl_158_3 ?_
  refine wa_iconst ?_
  refine wb_aald5 47 0 rfl rfl (wy_pr rfl) wt_47 (by rw [show _ = _ from ((cl_47 hC))]; omega) wl_47_0 ?_
  refine wa_iload_n (n := 1) rfl ?_
  refine wb_iald 48 rfl (wy_pr rfl) wt_48 (n := (S 48 (-1))) (rfl) (by omega) (by omega) (v := l) (e48) (fun r2 => ?_)
  by_cases c3 : l = 0
  · exact absurd c3 (by omega)
  by_cases c4 : l = 3
  · exact absurd c4 (by omega)
  refine wa_lw (tb := 0) (w_rg0 (by omega) (by omega)) (q := (116, 7)) (lw_df [0, 3] rfl (by simp only [List.mem_cons, List.not_mem_nil, or_false, not_or]; omega) (by first | rfl | decide)) ⟨_, rfl⟩ ?_
  refine wa_aload_n (n := 0) rfl ?_
  refine wb_gf4 158 rfl (wy_pr rfl) wt_158 wf_5_0 (v := 72) wl_158_0 ?_
  refine wb_gf5 72 rfl (wy_pr rfl) wt_72 wf_2_1 (v := 162) (h72) (fun r5 => ?_)
  refine wb_gf4 162 rfl (wy_pr rfl) wt_162 wf_3_3 (v := 185) wl_162_3 ?_
  refine wa_iconst ?_
  refine wb_aald5 185 1 rfl rfl (wy_pr rfl) wt_185 (by rw [show _ = _ from ((cl_185 hC))]; omega) wl_185_1 ?_
  refine wa_iload_n (n := 2) rfl ?_
  refine wb_iald 187 rfl (wy_pr rfl) wt_187 (n := 400) ((cl_187 hC)) (by omega) (by omega) (v := 0) (hso) (fun r6 => ?_)
  refine wa_ifne (w_rg0 (by omega) (by omega)) ⟨_, rfl⟩ (fun c7 => ?_) (fun c7 => ?_)
  · skip
    exact absurd c7 (by omega)
  · skip
    refine wa_aload_n (n := 0) rfl ?_
    refine wa_iload_n (n := 2) rfl ?_
    refine wa_cv 158 rfl (wy_pr rfl) wt_158 (M2 := mS [217, 218]) rfl at_XL_actOnField ⟨_, rfl⟩ rfl rfl ⟨trivial, (Or.inr ⟨wy_pr rfl, mS_no rfl⟩), trivial, trivial⟩ trivial (fun _ _ q => q) ?_ (fun _ _ _ q => q)
    refine wa_aload_n (n := 0) rfl ?_
    refine wa_iload_n (n := 1) rfl ?_
    refine wa_cv 158 rfl (wy_pr rfl) wt_158 (M2 := mS [217, 218]) rfl at_XL_rowOf ⟨_, rfl⟩ rfl rfl ⟨(Or.inr ⟨wy_pr rfl, mS_no rfl⟩), trivial, trivial⟩ trivial (fun _ _ q => q) ?_ (fun _ _ _ q => q)
    refine wa_aload_n (n := 0) rfl ?_
    refine wb_gf4 158 rfl (wy_pr rfl) wt_158 wf_5_0 (v := 72) wl_158_0 ?_
    refine wb_gf5 72 rfl (wy_pr rfl) wt_72 wf_2_1 (v := 162) (h72) (fun r8 => ?_)
    refine wb_gf4 162 rfl (wy_pr rfl) wt_162 wf_3_3 (v := 185) wl_162_3 ?_
    refine wa_iconst ?_
    refine wb_aald5 185 2 rfl rfl (wy_pr rfl) wt_185 (by rw [show _ = _ from ((cl_185 hC))]; omega) wl_185_2 ?_
    refine wa_iload_n (n := 1) rfl ?_
    refine wb_iald 188 rfl (wy_pr rfl) wt_188 (n := 400) ((cl_188 hC)) (by omega) (by omega) (v := 1) (hstt) (fun r9 => ?_)
    refine wa_iconst ?_
    refine wa_icmpne (w_rg0 (by omega) (by omega)) (w_rg0 (by omega) (by omega)) ⟨_, rfl⟩ (fun c10 => ?_) (fun c10 => ?_)
    · skip
      exact absurd c10 (by omega)
    · skip
      refine wa_aload_n (n := 0) rfl ?_
      refine wb_gf4 158 rfl (wy_pr rfl) wt_158 wf_5_0 (v := 72) wl_158_0 ?_
      refine wb_gf5 72 rfl (wy_pr rfl) wt_72 wf_2_1 (v := 162) (h72) (fun r11 => ?_)
      refine wb_gf4 162 rfl (wy_pr rfl) wt_162 wf_3_7 (v := 205) wl_162_7 ?_
      refine wa_goto ⟨_, rfl⟩ ?_
      refine wa_oreturn rfl ?_
      show wJ _ _ _ _ _ _ _ _ _ _
      refine wa_astore_n (n := 2) rfl ?_
      refine wa_aload_n (n := 0) rfl ?_
      refine wa_iload_n (n := 1) rfl ?_
      refine wa_cv 158 rfl (wy_pr rfl) wt_158 (M2 := mS [217, 218]) rfl at_XL_placeOf ⟨_, rfl⟩ rfl rfl ⟨(Or.inr ⟨wy_pr rfl, mS_no rfl⟩), (Or.inr ⟨wy_pr rfl, mS_no rfl⟩), trivial, trivial⟩ trivial (fun _ _ q => q) ?_ (fun _ _ _ q => q)
      refine wa_aload_n (n := 0) rfl ?_
      refine wb_gf4 158 rfl (wy_pr rfl) wt_158 wf_5_0 (v := 72) wl_158_0 ?_
      refine wb_gf5 72 rfl (wy_pr rfl) wt_72 wf_2_1 (v := 162) (h72) (fun r12 => ?_)
      refine wb_gf4 162 rfl (wy_pr rfl) wt_162 wf_3_3 (v := 185) wl_162_3 ?_
      refine wa_bipush (w_rg2 (by omega) (by omega)) ?_
      refine wb_aald5 185 15 rfl rfl (wy_pr rfl) wt_185 (by rw [show _ = _ from ((cl_185 hC))]; omega) wl_185_15 ?_
      refine wa_iload_n (n := 1) rfl ?_
      refine wb_iald 201 rfl (wy_pr rfl) wt_201 (n := 400) ((cl_201 hC)) (by omega) (by omega) (v := fi) (hfi) (fun r13 => ?_)
      refine wa_istore_n (n := 2) rfl ?_
      refine wa_aload_n (n := 0) rfl ?_
      refine wb_gf4 158 rfl (wy_pr rfl) wt_158 wf_5_0 (v := 72) wl_158_0 ?_
      refine wb_gf5 72 rfl (wy_pr rfl) wt_72 wf_2_1 (v := 162) (h72) (fun r14 => ?_)
      refine wb_gf4 162 rfl (wy_pr rfl) wt_162 wf_3_3 (v := 185) wl_162_3 ?_
      refine wa_iconst ?_
      refine wb_aald5 185 2 rfl rfl (wy_pr rfl) wt_185 (by rw [show _ = _ from ((cl_185 hC))]; omega) wl_185_2 ?_
      refine wa_iload_n (n := 1) rfl ?_
      refine wb_iald 188 rfl (wy_pr rfl) wt_188 (n := 400) ((cl_188 hC)) (by omega) (by omega) (v := 1) (hstt) (fun r15 => ?_)
      refine wa_iconst ?_
      refine wa_icmpne (w_rg0 (by omega) (by omega)) (w_rg0 (by omega) (by omega)) ⟨_, rfl⟩ (fun c16 => ?_) (fun c16 => ?_)
      · skip
        exact absurd c16 (by omega)
      · skip
        refine wa_iconst ?_
        refine wa_goto ⟨_, rfl⟩ ?_
        refine wa_istore_n (n := 3) rfl ?_
        refine wa_iload_n (n := 3) rfl ?_
        refine wa_ifeq (w_rg0 (by omega) (by omega)) ⟨_, rfl⟩ (fun c17 => ?_) (fun c17 => ?_)
        · skip
          exact absurd c17 (by omega)
        · skip
          refine wa_iload_n (n := 2) rfl ?_
          refine wa_goto ⟨_, rfl⟩ ?_
          refine wa_ireturn rfl ?_
          show wJ _ _ _ _ _ _ _ _ _ _
          refine wa_istore_n (n := 3) rfl ?_
          refine wa_aload_n (n := 0) rfl ?_
          refine wb_gfi 158 rfl (wy_pr rfl) wt_158 wf_5_7 (v := kd) (l7) (fun r18 => ?_)
          refine wa_ifne (w_rg0 (by omega) (by omega)) ⟨_, rfl⟩ (fun c19 => ?_) (fun c19 => ?_)
          · skip
            refine wa_aload_n (n := 0) rfl ?_
            refine wb_gf4 158 rfl (wy_pr rfl) wt_158 wf_5_0 (v := 72) wl_158_0 ?_
            refine wb_gf5 72 rfl (wy_pr rfl) wt_72 wf_2_1 (v := 162) (h72) (fun r20 => ?_)
            refine wa_aload_n (n := 0) rfl ?_
            refine wb_gfl 158 rfl (wy_pr rfl) wt_158 wf_5_13 (v := es) (l13) (fun r21 => ?_)
            refine wb_l2i_r (wb_l2i_id ⟨(by omega), (by omega)⟩) ?_
            refine wa_aload_n (n := 0) rfl ?_
            refine wb_gf4 158 rfl (wy_pr rfl) wt_158 wf_5_0 (v := 72) wl_158_0 ?_
            refine wb_gf5 72 rfl (wy_pr rfl) wt_72 wf_2_1 (v := 162) (h72) (fun r22 => ?_)
            refine wb_gf4 162 rfl (wy_pr rfl) wt_162 wf_3_3 (v := 185) wl_162_3 ?_
            refine wa_iconst ?_
            refine wb_aald5 185 3 rfl rfl (wy_pr rfl) wt_185 (by rw [show _ = _ from ((cl_185 hC))]; omega) wl_185_3 ?_
            refine wa_iload_n (n := 1) rfl ?_
            refine wb_iald 189 rfl (wy_pr rfl) wt_189 (n := 400) ((cl_189 hC)) (by omega) (by omega) (v := ty) (hty) (fun r23 => ?_)
            refine wa_iconst ?_
            refine wa_cv 162 rfl (wy_pr rfl) wt_162 (M2 := fun _ => False) rfl at_XO_goesTo ⟨_, rfl⟩ rfl rfl ⟨trivial, (Or.inr ⟨wy_pr rfl, fun q => q⟩), (Or.inr ⟨wy_pr rfl, fun q => q⟩), trivial, trivial⟩ trivial (fun _ _ q => False.elim q) (gto_162 (S := S) (f := es) (q := ty) (l := 1) (lb := true) hC hK hw ⟨by omega, by omega⟩ ⟨by omega, by omega⟩ (Or.inr ⟨rfl, rfl⟩)) (fun oq24 Sq24 hp25 q24 => ?_)
            rcases q24 with ⟨rfl, rfl⟩
            show wJ _ _ _ _ _ _ _ _ _ _
            have hbg := bI_rg (gTB cs es ty true)
            refine wa_ifeq (w_rg0 (by omega) (by omega)) ⟨_, rfl⟩ (fun c26 => ?_) (fun c26 => ?_)
            · skip
              refine wa_aload_n (n := 0) rfl ?_
              refine wb_gf5 158 rfl (wy_pr rfl) wt_158 wf_5_4 (v := 215) (l4) (fun r27 => ?_)
              refine wa_bipush (w_rg2 (by omega) (by omega)) ?_
              refine wb_pfi 215 rfl (wy_pr rfl) wt_215 wf_8_16 (n := 16) rfl ⟨(by omega), (by omega)⟩ ?_
              refine wa_fall ⟨_, rfl⟩ ?_
              refine wa_return rfl ?_
              show wJ _ _ _ _ _ _ _ _ _ _
              refine wa_goto ⟨_, rfl⟩ ?_
              refine wa_return rfl ?_
              exact ⟨rfl, Or.inr ⟨bI_0 (by omega), rfl⟩⟩
            · skip
              refine wa_aload_n (n := 0) rfl ?_
              refine wb_gf5 158 rfl (wy_pr rfl) wt_158 wf_5_5 (v := 216) (l5) (fun r28 => ?_)
              refine wb_gfi 216 rfl (wy_pr rfl) wt_216 wf_7_2 (v := h) (bh) (fun r29 => ?_)
              refine wa_iconst ?_
              refine wa_isub ?_
              refine wa_istore (n := 4) rfl ?_
              refine wa_aload_n (n := 2) rfl ?_
              refine wa_iload_n (n := 3) rfl ?_
              refine wa_aload_n (n := 0) rfl ?_
              refine wb_gf5 158 rfl (wy_pr rfl) wt_158 wf_5_5 (v := 216) (l5) (fun r30 => ?_)
              refine wb_gf4 216 rfl (wy_pr rfl) wt_216 wf_7_0 (v := 217) wl_216_0 ?_
              refine wa_iload (n := 4) rfl ?_
              refine wb_bald 217 rfl (wy_pr rfl) wt_217 (n := (S 217 (-1))) (rfl) (by omega) (by omega) (v := ky) (hky) (fun r31 => ?_)
              refine wa_aload_n (n := 0) rfl ?_
              refine wb_gf5 158 rfl (wy_pr rfl) wt_158 wf_5_5 (v := 216) (l5) (fun r32 => ?_)
              refine wb_gf4 216 rfl (wy_pr rfl) wt_216 wf_7_1 (v := 218) wl_216_1 ?_
              refine wa_iload (n := 4) rfl ?_
              refine wb_lald 218 rfl (wy_pr rfl) wt_218 (n := (S 217 (-1))) (bl1) (by omega) (by omega) (v := vy) (hvy) (fun r33 => ?_)
              refine wa_cv 205 rfl (wy_pr rfl) wt_205 (M2 := mS [217, 218]) rfl at_XV_put ⟨_, rfl⟩ rfl rfl ⟨trivial, trivial, (Or.inr ⟨wy_pr rfl, mS_no rfl⟩), (Or.inr ⟨wy_pr rfl, mS_no rfl⟩), trivial, trivial⟩ trivial (fun _ _ q => q) ?_ (fun _ _ _ q => q)
              refine wa_aload_n (n := 0) rfl ?_
              refine wb_gf4 205 rfl (wy_pr rfl) wt_205 wf_7_0 (v := 206) wl_205_0 ?_
              refine wa_iload_n (n := 1) rfl ?_
              refine wa_iload_n (n := 2) rfl ?_
              refine wb_i2b_r (wb_i2b_id ⟨(by omega), (by omega)⟩) ?_
              refine wb_bast 206 rfl (wy_pr rfl) wt_206 (n := (S 206 (-1))) (rfl) (by omega) (by omega) ⟨(by omega), (by omega)⟩ ?_
              refine wa_aload_n (n := 0) rfl ?_
              refine wb_gf4 205 rfl (wy_pr rfl) wt_205 wf_7_1 (v := 207) wl_205_1 ?_
              refine wa_iload_n (n := 1) rfl ?_
              refine wa_lload_n (n := 3) rfl ?_
              refine wb_last 207 rfl (wy_pr rfl) wt_207 (n := (S 206 (-1))) ((w_up_slot (by decide)).trans (hrl)) (by omega) (by omega) ⟨(by omega), (by omega)⟩ ?_
              refine wa_return rfl ?_
              show wJ _ _ _ _ _ _ _ _ _ _
              refine wa_aload_n (n := 0) rfl ?_
              refine wa_aload_n (n := 0) rfl ?_
              refine wb_gf5 158 rfl (wy_pr rfl) wt_158 wf_5_5 (v := 216) ((w_up_slot (by decide)).trans ((w_up_slot (by decide)).trans (l5))) (fun r34 => ?_)
              refine wb_gf4 216 rfl (wy_pr rfl) wt_216 wf_7_0 (v := 217) wl_216_0 ?_
              refine wa_iload (n := 4) rfl ?_
              refine wb_bald 217 rfl (wy_pr rfl) wt_217 (n := (S 217 (-1))) ((w_up_slot (by decide)).trans ((w_up_slot (by decide)).trans (rfl))) (by omega) (by omega) (v := ky) ((w_up_slot (by decide)).trans ((w_up_slot (by decide)).trans (hky))) (fun r35 => ?_)
              refine wa_aload_n (n := 0) rfl ?_
              refine wb_gf5 158 rfl (wy_pr rfl) wt_158 wf_5_5 (v := 216) ((w_up_slot (by decide)).trans ((w_up_slot (by decide)).trans (l5))) (fun r36 => ?_)
              refine wb_gf4 216 rfl (wy_pr rfl) wt_216 wf_7_1 (v := 218) wl_216_1 ?_
              refine wa_iload (n := 4) rfl ?_
              refine wb_lald 218 rfl (wy_pr rfl) wt_218 (n := (S 217 (-1))) ((w_up_slot (by decide)).trans ((w_up_slot (by decide)).trans (bl1))) (by omega) (by omega) (v := vy) ((w_up_slot (by decide)).trans ((w_up_slot (by decide)).trans (hvy))) (fun r37 => ?_)
              refine wa_cv 158 rfl (wy_pr rfl) wt_158 (M2 := mS [217, 218]) rfl at_XL_giveValue ⟨_, rfl⟩ rfl rfl ⟨trivial, trivial, (Or.inr ⟨wy_pr rfl, mS_no rfl⟩), (Or.inr ⟨wy_pr rfl, mS_no rfl⟩), trivial, trivial⟩ trivial (fun _ _ q => mS_sub (by decide) q) (glx_215 (S := (w_up (w_up S 206 fi ky) 207 fi vy)) (k := ky) (v := vy) (h := h) (c := c) (p := p) (ba := ba) (w_CL_up (w_CL_up hC (by omega)) (by omega)) (gI_up (gI_up hI (by omega) (by omega) (by omega)) (by omega) (by omega) (by omega)) ((w_up_slot (by decide)).trans ((w_up_slot (by decide)).trans (l4))) ((w_up_slot (by decide)).trans ((w_up_slot (by decide)).trans (l5))) ((w_up_slot (by decide)).trans ((w_up_slot (by decide)).trans (l8))) ((w_up_slot (by decide)).trans ((w_up_slot (by decide)).trans (bc))) ((w_up_slot (by decide)).trans ((w_up_slot (by decide)).trans (bp))) ((((w_up_slot (by decide)).trans ((w_up_slot (by decide)).trans (bl1)))).trans (((w_up_slot (by decide)).trans ((w_up_slot (by decide)).trans (rfl)))).symm) (by have e : (w_up (w_up S 206 fi ky) 207 fi vy) 217 (-1) = S 217 (-1) := ((w_up_slot (by decide)).trans ((w_up_slot (by decide)).trans (rfl))); rw [e]; exact ⟨bl2, bl3⟩) (by have e : (w_up (w_up S 206 fi ky) 207 fi vy) 217 (-1) = S 217 (-1) := ((w_up_slot (by decide)).trans ((w_up_slot (by decide)).trans (rfl))); omega) ⟨by omega, by omega⟩ ⟨by omega, by omega⟩ ⟨by omega, by omega⟩ ⟨by omega, by omega⟩) (fun oq38 Sq38 hp39 q38 => ?_)
              rcases q38 with ⟨rfl, hgv38⟩
              show wJ _ _ _ _ _ _ _ _ _ _
              refine wa_goto ⟨_, rfl⟩ ?_
              refine wa_return rfl ?_
              show wJ _ _ _ _ _ _ _ _ _ _
              refine wa_goto ⟨_, rfl⟩ ?_
              refine wa_return rfl ?_
              exact ⟨rfl, Or.inl ⟨bI_1 (by omega), hgv38⟩⟩
          · skip
            exact absurd c19 (by omega)
set_option maxHeartbeats 4000000 in
theorem hfg0_162_215 {c p h kd ba gk gb x l wh fi vk vb st : Int} (hP : xP 215 c p h S) (hl : cSl S) (l4 : S 158 4 = 215) (l5 : S 158 5 = 216) (l7 : S 158 7 = kd) (l8 : S 158 8 = ba) (l9 : S 158 9 = gk) (l10 : S 158 10 = gb) (hx : 0 ≤ x ∧ x < S 48 (-1)) (hba : 0 ≤ ba ∧ ba < h) (h72 : S 72 1 = 162) (e48 : S 48 x = l) (hl12 : l = 1 ∨ l = 2) (he51 : S 51 x = wh) (hwh : 0 ≤ wh ∧ wh < 400) (hso : S 187 wh = 0) (hstt : S 188 wh = 0) (hfi : S 201 wh = fi) (hth : ∀ x : Nat, x < 10 → S (127 + x) (-1) = S 127 (-1)) (hn2 : S 127 (-1) ≤ 16383) (hl14 : S 142 (-1) = S 141 (-1)) (hz14 : 16 ≤ S 141 (-1) ∧ S 141 (-1) ≤ 480400) (hgb : 0 ≤ gb ∧ gb < S 127 (-1)) (hst : S 133 gb = st) (hrb : 0 ≤ st ∧ 0 ≤ fi ∧ fi ≤ 1000 ∧ st + fi < S 141 (-1)) (hvk : S 141 (st + fi) = vk) (hvb : S 142 (st + fi) = vb) (hvr : -128 ≤ vk ∧ vk ≤ 127) (hvs : -9223372036854775808 ≤ vb ∧ vb ≤ 9223372036854775807) (hkd : kd = 0) : wJ (pe_GA xs) wY0 (mS [217, 218]) (d + 9) t_XL_act ((pe_at t_XL_act.bl 0).getD (0, [])).2 [(0, (2, 158)), (1, (0, x))] [] S (fun o Z => o = .inl none ∧ sO 215 h c p (h - ba) vk vb S Z) := by
  obtain ⟨⟨hC, hI⟩, ⟨bc, bc0, bc1⟩, ⟨bp, bp0, bp1⟩, ⟨bh, bh0, bh1, bh2⟩, bl1, bl2, bl3⟩ := hP
  replace bp : S 220 (c - 1) = p := bp
  replace bh : S 216 2 = h := bh
  replace bh2 : h ≤ S 217 (-1) := bh2
  replace bl1 : S 218 (-1) = S 217 (-1) := bl1
  replace bl2 : 64 ≤ S 217 (-1) := bl2
  replace bl3 : S 217 (-1) ≤ 4095 := bl3
  have h35 := hl.2.1
  have h48 := hl.2.2.2
  refine wa_aload_n (n := 0) rfl ?_
  refine wb_gf4 158 rfl (wy_pr rfl) wt_158 wf_5_3 (v := 47) wl_158_3 ?_
  refine wa_iconst ?_
  refine wb_aald5 47 3 rfl rfl (wy_pr rfl) wt_47 (by rw [show _ = _ from ((cl_47 hC))]; omega) wl_47_3 ?_
  refine wa_iload_n (n := 1) rfl ?_
  refine wb_iald 51 rfl (wy_pr rfl) wt_51 (n := (S 48 (-1))) ((hl.2.2.1 3 (by decide))) (by omega) (by omega) (v := wh) (he51) (fun r1 => ?_)
  refine wa_istore_n (n := 2) rfl ?_
  refine wa_aload_n (n := 0) rfl ?_
  refine wb_gf4 158 rfl (wy_pr rfl) wt_158 wf_5_3 (v := 47) wl_158_3 ?_
  refine wa_iconst ?_
  refine wb_aald5 47 0 rfl rfl (wy_pr rfl) wt_47 (by rw [show _ = _ from ((cl_47 hC))]; omega) wl_47_0 ?_
  refine wa_iload_n (n := 1) rfl ?_
  refine wb_iald 48 rfl (wy_pr rfl) wt_48 (n := (S 48 (-1))) (rfl) (by omega) (by omega) (v := l) (e48) (fun r2 => ?_)
  by_cases c3 : l = 0
  · exact absurd c3 (by omega)
  by_cases c4 : l = 3
  · exact absurd c4 (by omega)
  refine wa_lw (tb := 0) (w_rg0 (by omega) (by omega)) (q := (116, 7)) (lw_df [0, 3] rfl (by simp only [List.mem_cons, List.not_mem_nil, or_false, not_or]; omega) (by first | rfl | decide)) ⟨_, rfl⟩ ?_
  refine wa_aload_n (n := 0) rfl ?_
  refine wb_gf4 158 rfl (wy_pr rfl) wt_158 wf_5_0 (v := 72) wl_158_0 ?_
  refine wb_gf5 72 rfl (wy_pr rfl) wt_72 wf_2_1 (v := 162) (h72) (fun r5 => ?_)
  refine wb_gf4 162 rfl (wy_pr rfl) wt_162 wf_3_3 (v := 185) wl_162_3 ?_
  refine wa_iconst ?_
  refine wb_aald5 185 1 rfl rfl (wy_pr rfl) wt_185 (by rw [show _ = _ from ((cl_185 hC))]; omega) wl_185_1 ?_
  refine wa_iload_n (n := 2) rfl ?_
  refine wb_iald 187 rfl (wy_pr rfl) wt_187 (n := 400) ((cl_187 hC)) (by omega) (by omega) (v := 0) (hso) (fun r6 => ?_)
  refine wa_ifne (w_rg0 (by omega) (by omega)) ⟨_, rfl⟩ (fun c7 => ?_) (fun c7 => ?_)
  · skip
    exact absurd c7 (by omega)
  · skip
    refine wa_aload_n (n := 0) rfl ?_
    refine wa_iload_n (n := 2) rfl ?_
    refine wa_cv 158 rfl (wy_pr rfl) wt_158 (M2 := mS [217, 218]) rfl at_XL_actOnField ⟨_, rfl⟩ rfl rfl ⟨trivial, (Or.inr ⟨wy_pr rfl, mS_no rfl⟩), trivial, trivial⟩ trivial (fun _ _ q => q) ?_ (fun _ _ _ q => q)
    refine wa_aload_n (n := 0) rfl ?_
    refine wa_iload_n (n := 1) rfl ?_
    refine wa_cv 158 rfl (wy_pr rfl) wt_158 (M2 := mS [217, 218]) rfl at_XL_rowOf ⟨_, rfl⟩ rfl rfl ⟨(Or.inr ⟨wy_pr rfl, mS_no rfl⟩), trivial, trivial⟩ trivial (fun _ _ q => q) ?_ (fun _ _ _ q => q)
    refine wa_aload_n (n := 0) rfl ?_
    refine wb_gf4 158 rfl (wy_pr rfl) wt_158 wf_5_0 (v := 72) wl_158_0 ?_
    refine wb_gf5 72 rfl (wy_pr rfl) wt_72 wf_2_1 (v := 162) (h72) (fun r8 => ?_)
    refine wb_gf4 162 rfl (wy_pr rfl) wt_162 wf_3_3 (v := 185) wl_162_3 ?_
    refine wa_iconst ?_
    refine wb_aald5 185 2 rfl rfl (wy_pr rfl) wt_185 (by rw [show _ = _ from ((cl_185 hC))]; omega) wl_185_2 ?_
    refine wa_iload_n (n := 1) rfl ?_
    refine wb_iald 188 rfl (wy_pr rfl) wt_188 (n := 400) ((cl_188 hC)) (by omega) (by omega) (v := 0) (hstt) (fun r9 => ?_)
    refine wa_iconst ?_
    refine wa_icmpne (w_rg0 (by omega) (by omega)) (w_rg0 (by omega) (by omega)) ⟨_, rfl⟩ (fun c10 => ?_) (fun c10 => ?_)
    · skip
      refine wa_aload_n (n := 0) rfl ?_
      refine wb_gf4 158 rfl (wy_pr rfl) wt_158 wf_5_0 (v := 72) wl_158_0 ?_
      refine wb_gf4 72 rfl (wy_pr rfl) wt_72 wf_2_6 (v := 140) wl_72_6 ?_
      refine wa_fall ⟨_, rfl⟩ ?_
      refine wa_oreturn rfl ?_
      show wJ _ _ _ _ _ _ _ _ _ _
      refine wa_astore_n (n := 2) rfl ?_
      refine wa_aload_n (n := 0) rfl ?_
      refine wa_iload_n (n := 1) rfl ?_
      refine wa_cv 158 rfl (wy_pr rfl) wt_158 (M2 := mS [217, 218]) rfl at_XL_placeOf ⟨_, rfl⟩ rfl rfl ⟨(Or.inr ⟨wy_pr rfl, mS_no rfl⟩), (Or.inr ⟨wy_pr rfl, mS_no rfl⟩), trivial, trivial⟩ trivial (fun _ _ q => q) ?_ (fun _ _ _ q => q)
      refine wa_aload_n (n := 0) rfl ?_
      refine wb_gf4 158 rfl (wy_pr rfl) wt_158 wf_5_0 (v := 72) wl_158_0 ?_
      refine wb_gf5 72 rfl (wy_pr rfl) wt_72 wf_2_1 (v := 162) (h72) (fun r11 => ?_)
      refine wb_gf4 162 rfl (wy_pr rfl) wt_162 wf_3_3 (v := 185) wl_162_3 ?_
      refine wa_bipush (w_rg2 (by omega) (by omega)) ?_
      refine wb_aald5 185 15 rfl rfl (wy_pr rfl) wt_185 (by rw [show _ = _ from ((cl_185 hC))]; omega) wl_185_15 ?_
      refine wa_iload_n (n := 1) rfl ?_
      refine wb_iald 201 rfl (wy_pr rfl) wt_201 (n := 400) ((cl_201 hC)) (by omega) (by omega) (v := fi) (hfi) (fun r12 => ?_)
      refine wa_istore_n (n := 2) rfl ?_
      refine wa_aload_n (n := 0) rfl ?_
      refine wb_gf4 158 rfl (wy_pr rfl) wt_158 wf_5_0 (v := 72) wl_158_0 ?_
      refine wb_gf5 72 rfl (wy_pr rfl) wt_72 wf_2_1 (v := 162) (h72) (fun r13 => ?_)
      refine wb_gf4 162 rfl (wy_pr rfl) wt_162 wf_3_3 (v := 185) wl_162_3 ?_
      refine wa_iconst ?_
      refine wb_aald5 185 2 rfl rfl (wy_pr rfl) wt_185 (by rw [show _ = _ from ((cl_185 hC))]; omega) wl_185_2 ?_
      refine wa_iload_n (n := 1) rfl ?_
      refine wb_iald 188 rfl (wy_pr rfl) wt_188 (n := 400) ((cl_188 hC)) (by omega) (by omega) (v := 0) (hstt) (fun r14 => ?_)
      refine wa_iconst ?_
      refine wa_icmpne (w_rg0 (by omega) (by omega)) (w_rg0 (by omega) (by omega)) ⟨_, rfl⟩ (fun c15 => ?_) (fun c15 => ?_)
      · skip
        refine wa_iconst ?_
        refine wa_fall ⟨_, rfl⟩ ?_
        refine wa_istore_n (n := 3) rfl ?_
        refine wa_iload_n (n := 3) rfl ?_
        refine wa_ifeq (w_rg0 (by omega) (by omega)) ⟨_, rfl⟩ (fun c16 => ?_) (fun c16 => ?_)
        · skip
          refine wa_aload_n (n := 0) rfl ?_
          refine wb_gf4 158 rfl (wy_pr rfl) wt_158 wf_5_0 (v := 72) wl_158_0 ?_
          refine wb_gf4 72 rfl (wy_pr rfl) wt_72 wf_2_2 (v := 126) wl_72_2 ?_
          refine wa_bipush (w_rg2 (by omega) (by omega)) ?_
          refine wb_aald5 126 6 rfl rfl (wy_pr rfl) wt_126 (by rw [show _ = _ from ((cl_126 hC))]; omega) wl_126_6 ?_
          refine wa_aload_n (n := 0) rfl ?_
          refine wb_gfl 158 rfl (wy_pr rfl) wt_158 wf_5_10 (v := gb) (l10) (fun r17 => ?_)
          refine wb_l2i_r (wb_l2i_id ⟨(by omega), (by omega)⟩) ?_
          refine wb_iald 133 rfl (wy_pr rfl) wt_133 (n := (S 127 (-1))) ((hth 6 (by decide))) (by omega) (by omega) (v := st) (hst) (fun r18 => ?_)
          refine wa_iload_n (n := 2) rfl ?_
          refine wa_iadd ?_
          refine wa_fall ⟨_, rfl⟩ ?_
          refine wa_ireturn rfl ?_
          show wJ _ _ _ _ _ _ _ _ _ _
          refine wa_istore_n (n := 3) rfl ?_
          refine wa_aload_n (n := 0) rfl ?_
          refine wb_gfi 158 rfl (wy_pr rfl) wt_158 wf_5_7 (v := kd) (l7) (fun r19 => ?_)
          refine wa_ifne (w_rg0 (by omega) (by omega)) ⟨_, rfl⟩ (fun c20 => ?_) (fun c20 => ?_)
          · skip
            exact absurd c20 (by omega)
          · skip
            refine wa_aload_n (n := 0) rfl ?_
            refine wa_aload_n (n := 2) rfl ?_
            refine wb_gf4 140 rfl (wy_pr rfl) wt_140 wf_7_0 (v := 141) wl_140_0 ?_
            refine wa_iload_n (n := 3) rfl ?_
            refine wb_bald 141 rfl (wy_pr rfl) wt_141 (n := (S 141 (-1))) (rfl) (by omega) (by omega) (v := vk) (hvk) (fun r21 => ?_)
            refine wa_aload_n (n := 2) rfl ?_
            refine wb_gf4 140 rfl (wy_pr rfl) wt_140 wf_7_1 (v := 142) wl_140_1 ?_
            refine wa_iload_n (n := 3) rfl ?_
            refine wb_lald 142 rfl (wy_pr rfl) wt_142 (n := (S 141 (-1))) (hl14) (by omega) (by omega) (v := vb) (hvb) (fun r22 => ?_)
            refine wa_cv 158 rfl (wy_pr rfl) wt_158 (M2 := mS [217, 218]) rfl at_XL_giveValue ⟨_, rfl⟩ rfl rfl ⟨trivial, (Or.inr ⟨wy_pr rfl, mS_no rfl⟩), (Or.inr ⟨wy_pr rfl, mS_no rfl⟩), trivial, trivial⟩ trivial (fun _ _ q => mS_sub (by decide) q) (glx_215 (S := S) (k := vk) (v := vb) (h := h) (c := c) (p := p) (ba := ba) hC hI (l4) (l5) (l8) (bc) (bp) (((bl1)).trans ((rfl)).symm) (by have e : S 217 (-1) = S 217 (-1) := (rfl); rw [e]; exact ⟨bl2, bl3⟩) (by have e : S 217 (-1) = S 217 (-1) := (rfl); omega) ⟨by omega, by omega⟩ ⟨by omega, by omega⟩ ⟨by omega, by omega⟩ ⟨by omega, by omega⟩) (fun oq23 Sq23 hp24 q23 => ?_)
            rcases q23 with ⟨rfl, hgv23⟩
            show wJ _ _ _ _ _ _ _ _ _ _
            refine wa_goto ⟨_, rfl⟩ ?_
            refine wa_return rfl ?_
            show wJ _ _ _ _ _ _ _ _ _ _
            refine wa_goto ⟨_, rfl⟩ ?_
            refine wa_return rfl ?_
            exact ⟨rfl, hgv23⟩
        · skip
          exact absurd c16 (by omega)
      · skip
        exact absurd c15 (by omega)
    · skip
      exact absurd c10 (by omega)
set_option maxHeartbeats 4000000 in
theorem hfs0_162_215 {c p h kd ba gk gb x l wh fi st ky vy es ty : Int} (hP : xP 215 c p h S) (hl : cSl S) (l4 : S 158 4 = 215) (l5 : S 158 5 = 216) (l7 : S 158 7 = kd) (l8 : S 158 8 = ba) (l9 : S 158 9 = gk) (l10 : S 158 10 = gb) (hx : 0 ≤ x ∧ x < S 48 (-1)) (hba : 0 ≤ ba ∧ ba < h) (hK : KC 176 186 182 203 204 163 162 T cs ms os S) (hw : wHo cs ms os) (h72 : S 72 1 = 162) (e48 : S 48 x = l) (hl12 : l = 1 ∨ l = 2) (he51 : S 51 x = wh) (hwh : 0 ≤ wh ∧ wh < 400) (hso : S 187 wh = 0) (hstt : S 188 wh = 0) (hfi : S 201 wh = fi) (hth : ∀ x : Nat, x < 10 → S (127 + x) (-1) = S 127 (-1)) (hn2 : S 127 (-1) ≤ 16383) (hl14 : S 142 (-1) = S 141 (-1)) (hz14 : 16 ≤ S 141 (-1) ∧ S 141 (-1) ≤ 480400) (hgb : 0 ≤ gb ∧ gb < S 127 (-1)) (hst : S 133 gb = st) (hrb : 0 ≤ st ∧ 0 ≤ fi ∧ fi ≤ 1000 ∧ st + fi < S 141 (-1)) (hky : S 217 (h - 1) = ky) (hvy : S 218 (h - 1) = vy) (hkr : -128 ≤ ky ∧ ky ≤ 127) (hvr : -9223372036854775808 ≤ vy ∧ vy ≤ 9223372036854775807) (l13 : S 158 13 = es) (hes : 0 ≤ es ∧ es < 9 + (cs.length : Int)) (hty : S 189 wh = ty) (htr : 0 ≤ ty ∧ ty < 9 + (cs.length : Int)) (hkd : kd = 1) : wJ (pe_GA xs) wY0 (mS [217, 218]) (d + 9) t_XL_act ((pe_at t_XL_act.bl 0).getD (0, [])).2 [(0, (2, 158)), (1, (0, x))] [] S (fun o Z => o = .inl none ∧ ((gTB cs es ty true = true ∧ sO 215 h c p (h - ba) ky vy (w_up (w_up S 141 (st + fi) ky) 142 (st + fi) vy) Z) ∨ (gTB cs es ty true = false ∧ w_up S 215 16 7 = Z))) := by
  obtain ⟨⟨hC, hI⟩, ⟨bc, bc0, bc1⟩, ⟨bp, bp0, bp1⟩, ⟨bh, bh0, bh1, bh2⟩, bl1, bl2, bl3⟩ := hP
  replace bp : S 220 (c - 1) = p := bp
  replace bh : S 216 2 = h := bh
  replace bh2 : h ≤ S 217 (-1) := bh2
  replace bl1 : S 218 (-1) = S 217 (-1) := bl1
  replace bl2 : 64 ≤ S 217 (-1) := bl2
  replace bl3 : S 217 (-1) ≤ 4095 := bl3
  have h35 := hl.2.1
  have h48 := hl.2.2.2
  have hn60 := hw.1
  refine wa_aload_n (n := 0) rfl ?_
  refine wb_gf4 158 rfl (wy_pr rfl) wt_158 wf_5_3 (v := 47) wl_158_3 ?_
  refine wa_iconst ?_
  refine wb_aald5 47 3 rfl rfl (wy_pr rfl) wt_47 (by rw [show _ = _ from ((cl_47 hC))]; omega) wl_47_3 ?_
  refine wa_iload_n (n := 1) rfl ?_
  refine wb_iald 51 rfl (wy_pr rfl) wt_51 (n := (S 48 (-1))) ((hl.2.2.1 3 (by decide))) (by omega) (by omega) (v := wh) (he51) (fun r1 => ?_)
  refine wa_istore_n (n := 2) rfl ?_
  refine wa_aload_n (n := 0) rfl ?_
  refine wb_gf4 158 rfl (wy_pr rfl) wt_158 wf_5_3 (v := 47) wl_158_3 ?_
  refine wa_iconst ?_
  refine wb_aald5 47 0 rfl rfl (wy_pr rfl) wt_47 (by rw [show _ = _ from ((cl_47 hC))]; omega) wl_47_0 ?_
  refine wa_iload_n (n := 1) rfl ?_
  refine wb_iald 48 rfl (wy_pr rfl) wt_48 (n := (S 48 (-1))) (rfl) (by omega) (by omega) (v := l) (e48) (fun r2 => ?_)
  by_cases c3 : l = 0
  · exact absurd c3 (by omega)
  by_cases c4 : l = 3
  · exact absurd c4 (by omega)
  refine wa_lw (tb := 0) (w_rg0 (by omega) (by omega)) (q := (116, 7)) (lw_df [0, 3] rfl (by simp only [List.mem_cons, List.not_mem_nil, or_false, not_or]; omega) (by first | rfl | decide)) ⟨_, rfl⟩ ?_
  refine wa_aload_n (n := 0) rfl ?_
  refine wb_gf4 158 rfl (wy_pr rfl) wt_158 wf_5_0 (v := 72) wl_158_0 ?_
  refine wb_gf5 72 rfl (wy_pr rfl) wt_72 wf_2_1 (v := 162) (h72) (fun r5 => ?_)
  refine wb_gf4 162 rfl (wy_pr rfl) wt_162 wf_3_3 (v := 185) wl_162_3 ?_
  refine wa_iconst ?_
  refine wb_aald5 185 1 rfl rfl (wy_pr rfl) wt_185 (by rw [show _ = _ from ((cl_185 hC))]; omega) wl_185_1 ?_
  refine wa_iload_n (n := 2) rfl ?_
  refine wb_iald 187 rfl (wy_pr rfl) wt_187 (n := 400) ((cl_187 hC)) (by omega) (by omega) (v := 0) (hso) (fun r6 => ?_)
  refine wa_ifne (w_rg0 (by omega) (by omega)) ⟨_, rfl⟩ (fun c7 => ?_) (fun c7 => ?_)
  · skip
    exact absurd c7 (by omega)
  · skip
    refine wa_aload_n (n := 0) rfl ?_
    refine wa_iload_n (n := 2) rfl ?_
    refine wa_cv 158 rfl (wy_pr rfl) wt_158 (M2 := mS [217, 218]) rfl at_XL_actOnField ⟨_, rfl⟩ rfl rfl ⟨trivial, (Or.inr ⟨wy_pr rfl, mS_no rfl⟩), trivial, trivial⟩ trivial (fun _ _ q => q) ?_ (fun _ _ _ q => q)
    refine wa_aload_n (n := 0) rfl ?_
    refine wa_iload_n (n := 1) rfl ?_
    refine wa_cv 158 rfl (wy_pr rfl) wt_158 (M2 := mS [217, 218]) rfl at_XL_rowOf ⟨_, rfl⟩ rfl rfl ⟨(Or.inr ⟨wy_pr rfl, mS_no rfl⟩), trivial, trivial⟩ trivial (fun _ _ q => q) ?_ (fun _ _ _ q => q)
    refine wa_aload_n (n := 0) rfl ?_
    refine wb_gf4 158 rfl (wy_pr rfl) wt_158 wf_5_0 (v := 72) wl_158_0 ?_
    refine wb_gf5 72 rfl (wy_pr rfl) wt_72 wf_2_1 (v := 162) (h72) (fun r8 => ?_)
    refine wb_gf4 162 rfl (wy_pr rfl) wt_162 wf_3_3 (v := 185) wl_162_3 ?_
    refine wa_iconst ?_
    refine wb_aald5 185 2 rfl rfl (wy_pr rfl) wt_185 (by rw [show _ = _ from ((cl_185 hC))]; omega) wl_185_2 ?_
    refine wa_iload_n (n := 1) rfl ?_
    refine wb_iald 188 rfl (wy_pr rfl) wt_188 (n := 400) ((cl_188 hC)) (by omega) (by omega) (v := 0) (hstt) (fun r9 => ?_)
    refine wa_iconst ?_
    refine wa_icmpne (w_rg0 (by omega) (by omega)) (w_rg0 (by omega) (by omega)) ⟨_, rfl⟩ (fun c10 => ?_) (fun c10 => ?_)
    · skip
      refine wa_aload_n (n := 0) rfl ?_
      refine wb_gf4 158 rfl (wy_pr rfl) wt_158 wf_5_0 (v := 72) wl_158_0 ?_
      refine wb_gf4 72 rfl (wy_pr rfl) wt_72 wf_2_6 (v := 140) wl_72_6 ?_
      refine wa_fall ⟨_, rfl⟩ ?_
      refine wa_oreturn rfl ?_
      show wJ _ _ _ _ _ _ _ _ _ _
      refine wa_astore_n (n := 2) rfl ?_
      refine wa_aload_n (n := 0) rfl ?_
      refine wa_iload_n (n := 1) rfl ?_
      refine wa_cv 158 rfl (wy_pr rfl) wt_158 (M2 := mS [217, 218]) rfl at_XL_placeOf ⟨_, rfl⟩ rfl rfl ⟨(Or.inr ⟨wy_pr rfl, mS_no rfl⟩), (Or.inr ⟨wy_pr rfl, mS_no rfl⟩), trivial, trivial⟩ trivial (fun _ _ q => q) ?_ (fun _ _ _ q => q)
      refine wa_aload_n (n := 0) rfl ?_
      refine wb_gf4 158 rfl (wy_pr rfl) wt_158 wf_5_0 (v := 72) wl_158_0 ?_
      refine wb_gf5 72 rfl (wy_pr rfl) wt_72 wf_2_1 (v := 162) (h72) (fun r11 => ?_)
      refine wb_gf4 162 rfl (wy_pr rfl) wt_162 wf_3_3 (v := 185) wl_162_3 ?_
      refine wa_bipush (w_rg2 (by omega) (by omega)) ?_
      refine wb_aald5 185 15 rfl rfl (wy_pr rfl) wt_185 (by rw [show _ = _ from ((cl_185 hC))]; omega) wl_185_15 ?_
      refine wa_iload_n (n := 1) rfl ?_
      refine wb_iald 201 rfl (wy_pr rfl) wt_201 (n := 400) ((cl_201 hC)) (by omega) (by omega) (v := fi) (hfi) (fun r12 => ?_)
      refine wa_istore_n (n := 2) rfl ?_
      refine wa_aload_n (n := 0) rfl ?_
      refine wb_gf4 158 rfl (wy_pr rfl) wt_158 wf_5_0 (v := 72) wl_158_0 ?_
      refine wb_gf5 72 rfl (wy_pr rfl) wt_72 wf_2_1 (v := 162) (h72) (fun r13 => ?_)
      refine wb_gf4 162 rfl (wy_pr rfl) wt_162 wf_3_3 (v := 185) wl_162_3 ?_
      refine wa_iconst ?_
      refine wb_aald5 185 2 rfl rfl (wy_pr rfl) wt_185 (by rw [show _ = _ from ((cl_185 hC))]; omega) wl_185_2 ?_
      refine wa_iload_n (n := 1) rfl ?_
      refine wb_iald 188 rfl (wy_pr rfl) wt_188 (n := 400) ((cl_188 hC)) (by omega) (by omega) (v := 0) (hstt) (fun r14 => ?_)
      refine wa_iconst ?_
      refine wa_icmpne (w_rg0 (by omega) (by omega)) (w_rg0 (by omega) (by omega)) ⟨_, rfl⟩ (fun c15 => ?_) (fun c15 => ?_)
      · skip
        refine wa_iconst ?_
        refine wa_fall ⟨_, rfl⟩ ?_
        refine wa_istore_n (n := 3) rfl ?_
        refine wa_iload_n (n := 3) rfl ?_
        refine wa_ifeq (w_rg0 (by omega) (by omega)) ⟨_, rfl⟩ (fun c16 => ?_) (fun c16 => ?_)
        · skip
          refine wa_aload_n (n := 0) rfl ?_
          refine wb_gf4 158 rfl (wy_pr rfl) wt_158 wf_5_0 (v := 72) wl_158_0 ?_
          refine wb_gf4 72 rfl (wy_pr rfl) wt_72 wf_2_2 (v := 126) wl_72_2 ?_
          refine wa_bipush (w_rg2 (by omega) (by omega)) ?_
          refine wb_aald5 126 6 rfl rfl (wy_pr rfl) wt_126 (by rw [show _ = _ from ((cl_126 hC))]; omega) wl_126_6 ?_
          refine wa_aload_n (n := 0) rfl ?_
          refine wb_gfl 158 rfl (wy_pr rfl) wt_158 wf_5_10 (v := gb) (l10) (fun r17 => ?_)
          refine wb_l2i_r (wb_l2i_id ⟨(by omega), (by omega)⟩) ?_
          refine wb_iald 133 rfl (wy_pr rfl) wt_133 (n := (S 127 (-1))) ((hth 6 (by decide))) (by omega) (by omega) (v := st) (hst) (fun r18 => ?_)
          refine wa_iload_n (n := 2) rfl ?_
          refine wa_iadd ?_
          refine wa_fall ⟨_, rfl⟩ ?_
          refine wa_ireturn rfl ?_
          show wJ _ _ _ _ _ _ _ _ _ _
          refine wa_istore_n (n := 3) rfl ?_
          refine wa_aload_n (n := 0) rfl ?_
          refine wb_gfi 158 rfl (wy_pr rfl) wt_158 wf_5_7 (v := kd) (l7) (fun r19 => ?_)
          refine wa_ifne (w_rg0 (by omega) (by omega)) ⟨_, rfl⟩ (fun c20 => ?_) (fun c20 => ?_)
          · skip
            refine wa_aload_n (n := 0) rfl ?_
            refine wb_gf4 158 rfl (wy_pr rfl) wt_158 wf_5_0 (v := 72) wl_158_0 ?_
            refine wb_gf5 72 rfl (wy_pr rfl) wt_72 wf_2_1 (v := 162) (h72) (fun r21 => ?_)
            refine wa_aload_n (n := 0) rfl ?_
            refine wb_gfl 158 rfl (wy_pr rfl) wt_158 wf_5_13 (v := es) (l13) (fun r22 => ?_)
            refine wb_l2i_r (wb_l2i_id ⟨(by omega), (by omega)⟩) ?_
            refine wa_aload_n (n := 0) rfl ?_
            refine wb_gf4 158 rfl (wy_pr rfl) wt_158 wf_5_0 (v := 72) wl_158_0 ?_
            refine wb_gf5 72 rfl (wy_pr rfl) wt_72 wf_2_1 (v := 162) (h72) (fun r23 => ?_)
            refine wb_gf4 162 rfl (wy_pr rfl) wt_162 wf_3_3 (v := 185) wl_162_3 ?_
            refine wa_iconst ?_
            refine wb_aald5 185 3 rfl rfl (wy_pr rfl) wt_185 (by rw [show _ = _ from ((cl_185 hC))]; omega) wl_185_3 ?_
            refine wa_iload_n (n := 1) rfl ?_
            refine wb_iald 189 rfl (wy_pr rfl) wt_189 (n := 400) ((cl_189 hC)) (by omega) (by omega) (v := ty) (hty) (fun r24 => ?_)
            refine wa_iconst ?_
            refine wa_cv 162 rfl (wy_pr rfl) wt_162 (M2 := fun _ => False) rfl at_XO_goesTo ⟨_, rfl⟩ rfl rfl ⟨trivial, (Or.inr ⟨wy_pr rfl, fun q => q⟩), (Or.inr ⟨wy_pr rfl, fun q => q⟩), trivial, trivial⟩ trivial (fun _ _ q => False.elim q) (gto_162 (S := S) (f := es) (q := ty) (l := 1) (lb := true) hC hK hw ⟨by omega, by omega⟩ ⟨by omega, by omega⟩ (Or.inr ⟨rfl, rfl⟩)) (fun oq25 Sq25 hp26 q25 => ?_)
            rcases q25 with ⟨rfl, rfl⟩
            show wJ _ _ _ _ _ _ _ _ _ _
            have hbg := bI_rg (gTB cs es ty true)
            refine wa_ifeq (w_rg0 (by omega) (by omega)) ⟨_, rfl⟩ (fun c27 => ?_) (fun c27 => ?_)
            · skip
              refine wa_aload_n (n := 0) rfl ?_
              refine wb_gf5 158 rfl (wy_pr rfl) wt_158 wf_5_4 (v := 215) (l4) (fun r28 => ?_)
              refine wa_bipush (w_rg2 (by omega) (by omega)) ?_
              refine wb_pfi 215 rfl (wy_pr rfl) wt_215 wf_8_16 (n := 16) rfl ⟨(by omega), (by omega)⟩ ?_
              refine wa_fall ⟨_, rfl⟩ ?_
              refine wa_return rfl ?_
              show wJ _ _ _ _ _ _ _ _ _ _
              refine wa_goto ⟨_, rfl⟩ ?_
              refine wa_return rfl ?_
              exact ⟨rfl, Or.inr ⟨bI_0 (by omega), rfl⟩⟩
            · skip
              refine wa_aload_n (n := 0) rfl ?_
              refine wb_gf5 158 rfl (wy_pr rfl) wt_158 wf_5_5 (v := 216) (l5) (fun r29 => ?_)
              refine wb_gfi 216 rfl (wy_pr rfl) wt_216 wf_7_2 (v := h) (bh) (fun r30 => ?_)
              refine wa_iconst ?_
              refine wa_isub ?_
              refine wa_istore (n := 4) rfl ?_
              refine wa_aload_n (n := 2) rfl ?_
              refine wa_iload_n (n := 3) rfl ?_
              refine wa_aload_n (n := 0) rfl ?_
              refine wb_gf5 158 rfl (wy_pr rfl) wt_158 wf_5_5 (v := 216) (l5) (fun r31 => ?_)
              refine wb_gf4 216 rfl (wy_pr rfl) wt_216 wf_7_0 (v := 217) wl_216_0 ?_
              refine wa_iload (n := 4) rfl ?_
              refine wb_bald 217 rfl (wy_pr rfl) wt_217 (n := (S 217 (-1))) (rfl) (by omega) (by omega) (v := ky) (hky) (fun r32 => ?_)
              refine wa_aload_n (n := 0) rfl ?_
              refine wb_gf5 158 rfl (wy_pr rfl) wt_158 wf_5_5 (v := 216) (l5) (fun r33 => ?_)
              refine wb_gf4 216 rfl (wy_pr rfl) wt_216 wf_7_1 (v := 218) wl_216_1 ?_
              refine wa_iload (n := 4) rfl ?_
              refine wb_lald 218 rfl (wy_pr rfl) wt_218 (n := (S 217 (-1))) (bl1) (by omega) (by omega) (v := vy) (hvy) (fun r34 => ?_)
              refine wa_cv 140 rfl (wy_pr rfl) wt_140 (M2 := mS [217, 218]) rfl at_XV_put ⟨_, rfl⟩ rfl rfl ⟨trivial, trivial, (Or.inr ⟨wy_pr rfl, mS_no rfl⟩), (Or.inr ⟨wy_pr rfl, mS_no rfl⟩), trivial, trivial⟩ trivial (fun _ _ q => q) ?_ (fun _ _ _ q => q)
              refine wa_aload_n (n := 0) rfl ?_
              refine wb_gf4 140 rfl (wy_pr rfl) wt_140 wf_7_0 (v := 141) wl_140_0 ?_
              refine wa_iload_n (n := 1) rfl ?_
              refine wa_iload_n (n := 2) rfl ?_
              refine wb_i2b_r (wb_i2b_id ⟨(by omega), (by omega)⟩) ?_
              refine wb_bast 141 rfl (wy_pr rfl) wt_141 (n := (S 141 (-1))) (rfl) (by omega) (by omega) ⟨(by omega), (by omega)⟩ ?_
              refine wa_aload_n (n := 0) rfl ?_
              refine wb_gf4 140 rfl (wy_pr rfl) wt_140 wf_7_1 (v := 142) wl_140_1 ?_
              refine wa_iload_n (n := 1) rfl ?_
              refine wa_lload_n (n := 3) rfl ?_
              refine wb_last 142 rfl (wy_pr rfl) wt_142 (n := (S 141 (-1))) ((w_up_slot (by decide)).trans (hl14)) (by omega) (by omega) ⟨(by omega), (by omega)⟩ ?_
              refine wa_return rfl ?_
              show wJ _ _ _ _ _ _ _ _ _ _
              refine wa_aload_n (n := 0) rfl ?_
              refine wa_aload_n (n := 0) rfl ?_
              refine wb_gf5 158 rfl (wy_pr rfl) wt_158 wf_5_5 (v := 216) ((w_up_slot (by decide)).trans ((w_up_slot (by decide)).trans (l5))) (fun r35 => ?_)
              refine wb_gf4 216 rfl (wy_pr rfl) wt_216 wf_7_0 (v := 217) wl_216_0 ?_
              refine wa_iload (n := 4) rfl ?_
              refine wb_bald 217 rfl (wy_pr rfl) wt_217 (n := (S 217 (-1))) ((w_up_slot (by decide)).trans ((w_up_slot (by decide)).trans (rfl))) (by omega) (by omega) (v := ky) ((w_up_slot (by decide)).trans ((w_up_slot (by decide)).trans (hky))) (fun r36 => ?_)
              refine wa_aload_n (n := 0) rfl ?_
              refine wb_gf5 158 rfl (wy_pr rfl) wt_158 wf_5_5 (v := 216) ((w_up_slot (by decide)).trans ((w_up_slot (by decide)).trans (l5))) (fun r37 => ?_)
              refine wb_gf4 216 rfl (wy_pr rfl) wt_216 wf_7_1 (v := 218) wl_216_1 ?_
              refine wa_iload (n := 4) rfl ?_
              refine wb_lald 218 rfl (wy_pr rfl) wt_218 (n := (S 217 (-1))) ((w_up_slot (by decide)).trans ((w_up_slot (by decide)).trans (bl1))) (by omega) (by omega) (v := vy) ((w_up_slot (by decide)).trans ((w_up_slot (by decide)).trans (hvy))) (fun r38 => ?_)
              refine wa_cv 158 rfl (wy_pr rfl) wt_158 (M2 := mS [217, 218]) rfl at_XL_giveValue ⟨_, rfl⟩ rfl rfl ⟨trivial, trivial, (Or.inr ⟨wy_pr rfl, mS_no rfl⟩), (Or.inr ⟨wy_pr rfl, mS_no rfl⟩), trivial, trivial⟩ trivial (fun _ _ q => mS_sub (by decide) q) (glx_215 (S := (w_up (w_up S 141 (st + fi) ky) 142 (st + fi) vy)) (k := ky) (v := vy) (h := h) (c := c) (p := p) (ba := ba) (w_CL_up (w_CL_up hC (by omega)) (by omega)) (gI_up (gI_up hI (by omega) (by omega) (by omega)) (by omega) (by omega) (by omega)) ((w_up_slot (by decide)).trans ((w_up_slot (by decide)).trans (l4))) ((w_up_slot (by decide)).trans ((w_up_slot (by decide)).trans (l5))) ((w_up_slot (by decide)).trans ((w_up_slot (by decide)).trans (l8))) ((w_up_slot (by decide)).trans ((w_up_slot (by decide)).trans (bc))) ((w_up_slot (by decide)).trans ((w_up_slot (by decide)).trans (bp))) ((((w_up_slot (by decide)).trans ((w_up_slot (by decide)).trans (bl1)))).trans (((w_up_slot (by decide)).trans ((w_up_slot (by decide)).trans (rfl)))).symm) (by have e : (w_up (w_up S 141 (st + fi) ky) 142 (st + fi) vy) 217 (-1) = S 217 (-1) := ((w_up_slot (by decide)).trans ((w_up_slot (by decide)).trans (rfl))); rw [e]; exact ⟨bl2, bl3⟩) (by have e : (w_up (w_up S 141 (st + fi) ky) 142 (st + fi) vy) 217 (-1) = S 217 (-1) := ((w_up_slot (by decide)).trans ((w_up_slot (by decide)).trans (rfl))); omega) ⟨by omega, by omega⟩ ⟨by omega, by omega⟩ ⟨by omega, by omega⟩ ⟨by omega, by omega⟩) (fun oq39 Sq39 hp40 q39 => ?_)
              rcases q39 with ⟨rfl, hgv39⟩
              show wJ _ _ _ _ _ _ _ _ _ _
              refine wa_goto ⟨_, rfl⟩ ?_
              refine wa_return rfl ?_
              show wJ _ _ _ _ _ _ _ _ _ _
              refine wa_goto ⟨_, rfl⟩ ?_
              refine wa_return rfl ?_
              exact ⟨rfl, Or.inl ⟨bI_1 (by omega), hgv39⟩⟩
          · skip
            exact absurd c20 (by omega)
        · skip
          exact absurd c16 (by omega)
      · skip
        exact absurd c15 (by omega)
    · skip
      exact absurd c10 (by omega)
set_option maxHeartbeats 4000000 in
theorem hfg1_162_226 {c p h kd ba gk gb x l wh fi vk vb : Int} (hP : xP 226 c p h S) (hl : cSl S) (l4 : S 158 4 = 226) (l5 : S 158 5 = 227) (l7 : S 158 7 = kd) (l8 : S 158 8 = ba) (l9 : S 158 9 = gk) (l10 : S 158 10 = gb) (hx : 0 ≤ x ∧ x < S 48 (-1)) (hba : 0 ≤ ba ∧ ba < h) (h72 : S 72 1 = 162) (e48 : S 48 x = l) (hl12 : l = 1 ∨ l = 2) (he51 : S 51 x = wh) (hwh : 0 ≤ wh ∧ wh < 400) (hso : S 187 wh = 0) (hstt : S 188 wh = 1) (hfi : S 201 wh = fi) (hrl : S 207 (-1) = S 206 (-1)) (hrb : 0 ≤ fi ∧ fi < S 206 (-1) ∧ S 206 (-1) ≤ 8388608) (hvk : S 206 fi = vk) (hvb : S 207 fi = vb) (hvr : -128 ≤ vk ∧ vk ≤ 127) (hvs : -9223372036854775808 ≤ vb ∧ vb ≤ 9223372036854775807) (hkd : kd = 0) : wJ (pe_GA xs) wY0 (mS [228, 229]) (d + 9) t_XL_act ((pe_at t_XL_act.bl 0).getD (0, [])).2 [(0, (2, 158)), (1, (0, x))] [] S (fun o Z => o = .inl none ∧ sO 226 h c p (h - ba) vk vb S Z) := by
  obtain ⟨⟨hC, hI⟩, ⟨bc, bc0, bc1⟩, ⟨bp, bp0, bp1⟩, ⟨bh, bh0, bh1, bh2⟩, bl1, bl2, bl3⟩ := hP
  replace bp : S 231 (c - 1) = p := bp
  replace bh : S 227 2 = h := bh
  replace bh2 : h ≤ S 228 (-1) := bh2
  replace bl1 : S 229 (-1) = S 228 (-1) := bl1
  replace bl2 : 64 ≤ S 228 (-1) := bl2
  replace bl3 : S 228 (-1) ≤ 4095 := bl3
  have h35 := hl.2.1
  have h48 := hl.2.2.2
  refine wa_aload_n (n := 0) rfl ?_
  refine wb_gf4 158 rfl (wy_pr rfl) wt_158 wf_5_3 (v := 47) wl_158_3 ?_
  refine wa_iconst ?_
  refine wb_aald5 47 3 rfl rfl (wy_pr rfl) wt_47 (by rw [show _ = _ from ((cl_47 hC))]; omega) wl_47_3 ?_
  refine wa_iload_n (n := 1) rfl ?_
  refine wb_iald 51 rfl (wy_pr rfl) wt_51 (n := (S 48 (-1))) ((hl.2.2.1 3 (by decide))) (by omega) (by omega) (v := wh) (he51) (fun r1 => ?_)
  refine wa_istore_n (n := 2) rfl ?_
  refine wa_aload_n (n := 0) rfl ?_
  refine wb_gf4 158 rfl (wy_pr rfl) wt_158 wf_5_3 (v := 47) wl_158_3 ?_
  refine wa_iconst ?_
  refine wb_aald5 47 0 rfl rfl (wy_pr rfl) wt_47 (by rw [show _ = _ from ((cl_47 hC))]; omega) wl_47_0 ?_
  refine wa_iload_n (n := 1) rfl ?_
  refine wb_iald 48 rfl (wy_pr rfl) wt_48 (n := (S 48 (-1))) (rfl) (by omega) (by omega) (v := l) (e48) (fun r2 => ?_)
  by_cases c3 : l = 0
  · exact absurd c3 (by omega)
  by_cases c4 : l = 3
  · exact absurd c4 (by omega)
  refine wa_lw (tb := 0) (w_rg0 (by omega) (by omega)) (q := (116, 7)) (lw_df [0, 3] rfl (by simp only [List.mem_cons, List.not_mem_nil, or_false, not_or]; omega) (by first | rfl | decide)) ⟨_, rfl⟩ ?_
  refine wa_aload_n (n := 0) rfl ?_
  refine wb_gf4 158 rfl (wy_pr rfl) wt_158 wf_5_0 (v := 72) wl_158_0 ?_
  refine wb_gf5 72 rfl (wy_pr rfl) wt_72 wf_2_1 (v := 162) (h72) (fun r5 => ?_)
  refine wb_gf4 162 rfl (wy_pr rfl) wt_162 wf_3_3 (v := 185) wl_162_3 ?_
  refine wa_iconst ?_
  refine wb_aald5 185 1 rfl rfl (wy_pr rfl) wt_185 (by rw [show _ = _ from ((cl_185 hC))]; omega) wl_185_1 ?_
  refine wa_iload_n (n := 2) rfl ?_
  refine wb_iald 187 rfl (wy_pr rfl) wt_187 (n := 400) ((cl_187 hC)) (by omega) (by omega) (v := 0) (hso) (fun r6 => ?_)
  refine wa_ifne (w_rg0 (by omega) (by omega)) ⟨_, rfl⟩ (fun c7 => ?_) (fun c7 => ?_)
  · skip
    exact absurd c7 (by omega)
  · skip
    refine wa_aload_n (n := 0) rfl ?_
    refine wa_iload_n (n := 2) rfl ?_
    refine wa_cv 158 rfl (wy_pr rfl) wt_158 (M2 := mS [228, 229]) rfl at_XL_actOnField ⟨_, rfl⟩ rfl rfl ⟨trivial, (Or.inr ⟨wy_pr rfl, mS_no rfl⟩), trivial, trivial⟩ trivial (fun _ _ q => q) ?_ (fun _ _ _ q => q)
    refine wa_aload_n (n := 0) rfl ?_
    refine wa_iload_n (n := 1) rfl ?_
    refine wa_cv 158 rfl (wy_pr rfl) wt_158 (M2 := mS [228, 229]) rfl at_XL_rowOf ⟨_, rfl⟩ rfl rfl ⟨(Or.inr ⟨wy_pr rfl, mS_no rfl⟩), trivial, trivial⟩ trivial (fun _ _ q => q) ?_ (fun _ _ _ q => q)
    refine wa_aload_n (n := 0) rfl ?_
    refine wb_gf4 158 rfl (wy_pr rfl) wt_158 wf_5_0 (v := 72) wl_158_0 ?_
    refine wb_gf5 72 rfl (wy_pr rfl) wt_72 wf_2_1 (v := 162) (h72) (fun r8 => ?_)
    refine wb_gf4 162 rfl (wy_pr rfl) wt_162 wf_3_3 (v := 185) wl_162_3 ?_
    refine wa_iconst ?_
    refine wb_aald5 185 2 rfl rfl (wy_pr rfl) wt_185 (by rw [show _ = _ from ((cl_185 hC))]; omega) wl_185_2 ?_
    refine wa_iload_n (n := 1) rfl ?_
    refine wb_iald 188 rfl (wy_pr rfl) wt_188 (n := 400) ((cl_188 hC)) (by omega) (by omega) (v := 1) (hstt) (fun r9 => ?_)
    refine wa_iconst ?_
    refine wa_icmpne (w_rg0 (by omega) (by omega)) (w_rg0 (by omega) (by omega)) ⟨_, rfl⟩ (fun c10 => ?_) (fun c10 => ?_)
    · skip
      exact absurd c10 (by omega)
    · skip
      refine wa_aload_n (n := 0) rfl ?_
      refine wb_gf4 158 rfl (wy_pr rfl) wt_158 wf_5_0 (v := 72) wl_158_0 ?_
      refine wb_gf5 72 rfl (wy_pr rfl) wt_72 wf_2_1 (v := 162) (h72) (fun r11 => ?_)
      refine wb_gf4 162 rfl (wy_pr rfl) wt_162 wf_3_7 (v := 205) wl_162_7 ?_
      refine wa_goto ⟨_, rfl⟩ ?_
      refine wa_oreturn rfl ?_
      show wJ _ _ _ _ _ _ _ _ _ _
      refine wa_astore_n (n := 2) rfl ?_
      refine wa_aload_n (n := 0) rfl ?_
      refine wa_iload_n (n := 1) rfl ?_
      refine wa_cv 158 rfl (wy_pr rfl) wt_158 (M2 := mS [228, 229]) rfl at_XL_placeOf ⟨_, rfl⟩ rfl rfl ⟨(Or.inr ⟨wy_pr rfl, mS_no rfl⟩), (Or.inr ⟨wy_pr rfl, mS_no rfl⟩), trivial, trivial⟩ trivial (fun _ _ q => q) ?_ (fun _ _ _ q => q)
      refine wa_aload_n (n := 0) rfl ?_
      refine wb_gf4 158 rfl (wy_pr rfl) wt_158 wf_5_0 (v := 72) wl_158_0 ?_
      refine wb_gf5 72 rfl (wy_pr rfl) wt_72 wf_2_1 (v := 162) (h72) (fun r12 => ?_)
      refine wb_gf4 162 rfl (wy_pr rfl) wt_162 wf_3_3 (v := 185) wl_162_3 ?_
      refine wa_bipush (w_rg2 (by omega) (by omega)) ?_
      refine wb_aald5 185 15 rfl rfl (wy_pr rfl) wt_185 (by rw [show _ = _ from ((cl_185 hC))]; omega) wl_185_15 ?_
      refine wa_iload_n (n := 1) rfl ?_
      refine wb_iald 201 rfl (wy_pr rfl) wt_201 (n := 400) ((cl_201 hC)) (by omega) (by omega) (v := fi) (hfi) (fun r13 => ?_)
      refine wa_istore_n (n := 2) rfl ?_
      refine wa_aload_n (n := 0) rfl ?_
      refine wb_gf4 158 rfl (wy_pr rfl) wt_158 wf_5_0 (v := 72) wl_158_0 ?_
      refine wb_gf5 72 rfl (wy_pr rfl) wt_72 wf_2_1 (v := 162) (h72) (fun r14 => ?_)
      refine wb_gf4 162 rfl (wy_pr rfl) wt_162 wf_3_3 (v := 185) wl_162_3 ?_
      refine wa_iconst ?_
      refine wb_aald5 185 2 rfl rfl (wy_pr rfl) wt_185 (by rw [show _ = _ from ((cl_185 hC))]; omega) wl_185_2 ?_
      refine wa_iload_n (n := 1) rfl ?_
      refine wb_iald 188 rfl (wy_pr rfl) wt_188 (n := 400) ((cl_188 hC)) (by omega) (by omega) (v := 1) (hstt) (fun r15 => ?_)
      refine wa_iconst ?_
      refine wa_icmpne (w_rg0 (by omega) (by omega)) (w_rg0 (by omega) (by omega)) ⟨_, rfl⟩ (fun c16 => ?_) (fun c16 => ?_)
      · skip
        exact absurd c16 (by omega)
      · skip
        refine wa_iconst ?_
        refine wa_goto ⟨_, rfl⟩ ?_
        refine wa_istore_n (n := 3) rfl ?_
        refine wa_iload_n (n := 3) rfl ?_
        refine wa_ifeq (w_rg0 (by omega) (by omega)) ⟨_, rfl⟩ (fun c17 => ?_) (fun c17 => ?_)
        · skip
          exact absurd c17 (by omega)
        · skip
          refine wa_iload_n (n := 2) rfl ?_
          refine wa_goto ⟨_, rfl⟩ ?_
          refine wa_ireturn rfl ?_
          show wJ _ _ _ _ _ _ _ _ _ _
          refine wa_istore_n (n := 3) rfl ?_
          refine wa_aload_n (n := 0) rfl ?_
          refine wb_gfi 158 rfl (wy_pr rfl) wt_158 wf_5_7 (v := kd) (l7) (fun r18 => ?_)
          refine wa_ifne (w_rg0 (by omega) (by omega)) ⟨_, rfl⟩ (fun c19 => ?_) (fun c19 => ?_)
          · skip
            exact absurd c19 (by omega)
          · skip
            refine wa_aload_n (n := 0) rfl ?_
            refine wa_aload_n (n := 2) rfl ?_
            refine wb_gf4 205 rfl (wy_pr rfl) wt_205 wf_7_0 (v := 206) wl_205_0 ?_
            refine wa_iload_n (n := 3) rfl ?_
            refine wb_bald 206 rfl (wy_pr rfl) wt_206 (n := (S 206 (-1))) (rfl) (by omega) (by omega) (v := vk) (hvk) (fun r20 => ?_)
            refine wa_aload_n (n := 2) rfl ?_
            refine wb_gf4 205 rfl (wy_pr rfl) wt_205 wf_7_1 (v := 207) wl_205_1 ?_
            refine wa_iload_n (n := 3) rfl ?_
            refine wb_lald 207 rfl (wy_pr rfl) wt_207 (n := (S 206 (-1))) (hrl) (by omega) (by omega) (v := vb) (hvb) (fun r21 => ?_)
            refine wa_cv 158 rfl (wy_pr rfl) wt_158 (M2 := mS [228, 229]) rfl at_XL_giveValue ⟨_, rfl⟩ rfl rfl ⟨trivial, (Or.inr ⟨wy_pr rfl, mS_no rfl⟩), (Or.inr ⟨wy_pr rfl, mS_no rfl⟩), trivial, trivial⟩ trivial (fun _ _ q => mS_sub (by decide) q) (glx_226 (S := S) (k := vk) (v := vb) (h := h) (c := c) (p := p) (ba := ba) hC hI (l4) (l5) (l8) (bc) (bp) (((bl1)).trans ((rfl)).symm) (by have e : S 228 (-1) = S 228 (-1) := (rfl); rw [e]; exact ⟨bl2, bl3⟩) (by have e : S 228 (-1) = S 228 (-1) := (rfl); omega) ⟨by omega, by omega⟩ ⟨by omega, by omega⟩ ⟨by omega, by omega⟩ ⟨by omega, by omega⟩) (fun oq22 Sq22 hp23 q22 => ?_)
            rcases q22 with ⟨rfl, hgv22⟩
            show wJ _ _ _ _ _ _ _ _ _ _
            refine wa_goto ⟨_, rfl⟩ ?_
            refine wa_return rfl ?_
            show wJ _ _ _ _ _ _ _ _ _ _
            refine wa_goto ⟨_, rfl⟩ ?_
            refine wa_return rfl ?_
            exact ⟨rfl, hgv22⟩
set_option maxHeartbeats 4000000 in
theorem hfs1_162_226 {c p h kd ba gk gb x l wh fi ky vy es ty : Int} (hP : xP 226 c p h S) (hl : cSl S) (l4 : S 158 4 = 226) (l5 : S 158 5 = 227) (l7 : S 158 7 = kd) (l8 : S 158 8 = ba) (l9 : S 158 9 = gk) (l10 : S 158 10 = gb) (hx : 0 ≤ x ∧ x < S 48 (-1)) (hba : 0 ≤ ba ∧ ba < h) (hK : KC 176 186 182 203 204 163 162 T cs ms os S) (hw : wHo cs ms os) (h72 : S 72 1 = 162) (e48 : S 48 x = l) (hl12 : l = 1 ∨ l = 2) (he51 : S 51 x = wh) (hwh : 0 ≤ wh ∧ wh < 400) (hso : S 187 wh = 0) (hstt : S 188 wh = 1) (hfi : S 201 wh = fi) (hrl : S 207 (-1) = S 206 (-1)) (hrb : 0 ≤ fi ∧ fi < S 206 (-1) ∧ S 206 (-1) ≤ 8388608) (hky : S 228 (h - 1) = ky) (hvy : S 229 (h - 1) = vy) (hkr : -128 ≤ ky ∧ ky ≤ 127) (hvr : -9223372036854775808 ≤ vy ∧ vy ≤ 9223372036854775807) (l13 : S 158 13 = es) (hes : 0 ≤ es ∧ es < 9 + (cs.length : Int)) (hty : S 189 wh = ty) (htr : 0 ≤ ty ∧ ty < 9 + (cs.length : Int)) (hkd : kd = 1) : wJ (pe_GA xs) wY0 (mS [228, 229]) (d + 9) t_XL_act ((pe_at t_XL_act.bl 0).getD (0, [])).2 [(0, (2, 158)), (1, (0, x))] [] S (fun o Z => o = .inl none ∧ ((gTB cs es ty true = true ∧ sO 226 h c p (h - ba) ky vy (w_up (w_up S 206 fi ky) 207 fi vy) Z) ∨ (gTB cs es ty true = false ∧ w_up S 226 16 7 = Z))) := by
  obtain ⟨⟨hC, hI⟩, ⟨bc, bc0, bc1⟩, ⟨bp, bp0, bp1⟩, ⟨bh, bh0, bh1, bh2⟩, bl1, bl2, bl3⟩ := hP
  replace bp : S 231 (c - 1) = p := bp
  replace bh : S 227 2 = h := bh
  replace bh2 : h ≤ S 228 (-1) := bh2
  replace bl1 : S 229 (-1) = S 228 (-1) := bl1
  replace bl2 : 64 ≤ S 228 (-1) := bl2
  replace bl3 : S 228 (-1) ≤ 4095 := bl3
  have h35 := hl.2.1
  have h48 := hl.2.2.2
  have hn60 := hw.1
  refine wa_aload_n (n := 0) rfl ?_
  refine wb_gf4 158 rfl (wy_pr rfl) wt_158 wf_5_3 (v := 47) wl_158_3 ?_
  refine wa_iconst ?_
  refine wb_aald5 47 3 rfl rfl (wy_pr rfl) wt_47 (by rw [show _ = _ from ((cl_47 hC))]; omega) wl_47_3 ?_
  refine wa_iload_n (n := 1) rfl ?_
  refine wb_iald 51 rfl (wy_pr rfl) wt_51 (n := (S 48 (-1))) ((hl.2.2.1 3 (by decide))) (by omega) (by omega) (v := wh) (he51) (fun r1 => ?_)
  refine wa_istore_n (n := 2) rfl ?_
  refine wa_aload_n (n := 0) rfl ?_
  refine wb_gf4 158 rfl (wy_pr rfl) wt_158 wf_5_3 (v := 47) wl_158_3 ?_
  refine wa_iconst ?_
  refine wb_aald5 47 0 rfl rfl (wy_pr rfl) wt_47 (by rw [show _ = _ from ((cl_47 hC))]; omega) wl_47_0 ?_
  refine wa_iload_n (n := 1) rfl ?_
  refine wb_iald 48 rfl (wy_pr rfl) wt_48 (n := (S 48 (-1))) (rfl) (by omega) (by omega) (v := l) (e48) (fun r2 => ?_)
  by_cases c3 : l = 0
  · exact absurd c3 (by omega)
  by_cases c4 : l = 3
  · exact absurd c4 (by omega)
  refine wa_lw (tb := 0) (w_rg0 (by omega) (by omega)) (q := (116, 7)) (lw_df [0, 3] rfl (by simp only [List.mem_cons, List.not_mem_nil, or_false, not_or]; omega) (by first | rfl | decide)) ⟨_, rfl⟩ ?_
  refine wa_aload_n (n := 0) rfl ?_
  refine wb_gf4 158 rfl (wy_pr rfl) wt_158 wf_5_0 (v := 72) wl_158_0 ?_
  refine wb_gf5 72 rfl (wy_pr rfl) wt_72 wf_2_1 (v := 162) (h72) (fun r5 => ?_)
  refine wb_gf4 162 rfl (wy_pr rfl) wt_162 wf_3_3 (v := 185) wl_162_3 ?_
  refine wa_iconst ?_
  refine wb_aald5 185 1 rfl rfl (wy_pr rfl) wt_185 (by rw [show _ = _ from ((cl_185 hC))]; omega) wl_185_1 ?_
  refine wa_iload_n (n := 2) rfl ?_
  refine wb_iald 187 rfl (wy_pr rfl) wt_187 (n := 400) ((cl_187 hC)) (by omega) (by omega) (v := 0) (hso) (fun r6 => ?_)
  refine wa_ifne (w_rg0 (by omega) (by omega)) ⟨_, rfl⟩ (fun c7 => ?_) (fun c7 => ?_)
  · skip
    exact absurd c7 (by omega)
  · skip
    refine wa_aload_n (n := 0) rfl ?_
    refine wa_iload_n (n := 2) rfl ?_
    refine wa_cv 158 rfl (wy_pr rfl) wt_158 (M2 := mS [228, 229]) rfl at_XL_actOnField ⟨_, rfl⟩ rfl rfl ⟨trivial, (Or.inr ⟨wy_pr rfl, mS_no rfl⟩), trivial, trivial⟩ trivial (fun _ _ q => q) ?_ (fun _ _ _ q => q)
    refine wa_aload_n (n := 0) rfl ?_
    refine wa_iload_n (n := 1) rfl ?_
    refine wa_cv 158 rfl (wy_pr rfl) wt_158 (M2 := mS [228, 229]) rfl at_XL_rowOf ⟨_, rfl⟩ rfl rfl ⟨(Or.inr ⟨wy_pr rfl, mS_no rfl⟩), trivial, trivial⟩ trivial (fun _ _ q => q) ?_ (fun _ _ _ q => q)
    refine wa_aload_n (n := 0) rfl ?_
    refine wb_gf4 158 rfl (wy_pr rfl) wt_158 wf_5_0 (v := 72) wl_158_0 ?_
    refine wb_gf5 72 rfl (wy_pr rfl) wt_72 wf_2_1 (v := 162) (h72) (fun r8 => ?_)
    refine wb_gf4 162 rfl (wy_pr rfl) wt_162 wf_3_3 (v := 185) wl_162_3 ?_
    refine wa_iconst ?_
    refine wb_aald5 185 2 rfl rfl (wy_pr rfl) wt_185 (by rw [show _ = _ from ((cl_185 hC))]; omega) wl_185_2 ?_
    refine wa_iload_n (n := 1) rfl ?_
    refine wb_iald 188 rfl (wy_pr rfl) wt_188 (n := 400) ((cl_188 hC)) (by omega) (by omega) (v := 1) (hstt) (fun r9 => ?_)
    refine wa_iconst ?_
    refine wa_icmpne (w_rg0 (by omega) (by omega)) (w_rg0 (by omega) (by omega)) ⟨_, rfl⟩ (fun c10 => ?_) (fun c10 => ?_)
    · skip
      exact absurd c10 (by omega)
    · skip
      refine wa_aload_n (n := 0) rfl ?_
      refine wb_gf4 158 rfl (wy_pr rfl) wt_158 wf_5_0 (v := 72) wl_158_0 ?_
      refine wb_gf5 72 rfl (wy_pr rfl) wt_72 wf_2_1 (v := 162) (h72) (fun r11 => ?_)
      refine wb_gf4 162 rfl (wy_pr rfl) wt_162 wf_3_7 (v := 205) wl_162_7 ?_
      refine wa_goto ⟨_, rfl⟩ ?_
      refine wa_oreturn rfl ?_
      show wJ _ _ _ _ _ _ _ _ _ _
      refine wa_astore_n (n := 2) rfl ?_
      refine wa_aload_n (n := 0) rfl ?_
      refine wa_iload_n (n := 1) rfl ?_
      refine wa_cv 158 rfl (wy_pr rfl) wt_158 (M2 := mS [228, 229]) rfl at_XL_placeOf ⟨_, rfl⟩ rfl rfl ⟨(Or.inr ⟨wy_pr rfl, mS_no rfl⟩), (Or.inr ⟨wy_pr rfl, mS_no rfl⟩), trivial, trivial⟩ trivial (fun _ _ q => q) ?_ (fun _ _ _ q => q)
      refine wa_aload_n (n := 0) rfl ?_
      refine wb_gf4 158 rfl (wy_pr rfl) wt_158 wf_5_0 (v := 72) wl_158_0 ?_
      refine wb_gf5 72 rfl (wy_pr rfl) wt_72 wf_2_1 (v := 162) (h72) (fun r12 => ?_)
      refine wb_gf4 162 rfl (wy_pr rfl) wt_162 wf_3_3 (v := 185) wl_162_3 ?_
      refine wa_bipush (w_rg2 (by omega) (by omega)) ?_
      refine wb_aald5 185 15 rfl rfl (wy_pr rfl) wt_185 (by rw [show _ = _ from ((cl_185 hC))]; omega) wl_185_15 ?_
      refine wa_iload_n (n := 1) rfl ?_
      refine wb_iald 201 rfl (wy_pr rfl) wt_201 (n := 400) ((cl_201 hC)) (by omega) (by omega) (v := fi) (hfi) (fun r13 => ?_)
      refine wa_istore_n (n := 2) rfl ?_
      refine wa_aload_n (n := 0) rfl ?_
      refine wb_gf4 158 rfl (wy_pr rfl) wt_158 wf_5_0 (v := 72) wl_158_0 ?_
      refine wb_gf5 72 rfl (wy_pr rfl) wt_72 wf_2_1 (v := 162) (h72) (fun r14 => ?_)
      refine wb_gf4 162 rfl (wy_pr rfl) wt_162 wf_3_3 (v := 185) wl_162_3 ?_
      refine wa_iconst ?_
      refine wb_aald5 185 2 rfl rfl (wy_pr rfl) wt_185 (by rw [show _ = _ from ((cl_185 hC))]; omega) wl_185_2 ?_
      refine wa_iload_n (n := 1) rfl ?_
      refine wb_iald 188 rfl (wy_pr rfl) wt_188 (n := 400) ((cl_188 hC)) (by omega) (by omega) (v := 1) (hstt) (fun r15 => ?_)
      refine wa_iconst ?_
      refine wa_icmpne (w_rg0 (by omega) (by omega)) (w_rg0 (by omega) (by omega)) ⟨_, rfl⟩ (fun c16 => ?_) (fun c16 => ?_)
      · skip
        exact absurd c16 (by omega)
      · skip
        refine wa_iconst ?_
        refine wa_goto ⟨_, rfl⟩ ?_
        refine wa_istore_n (n := 3) rfl ?_
        refine wa_iload_n (n := 3) rfl ?_
        refine wa_ifeq (w_rg0 (by omega) (by omega)) ⟨_, rfl⟩ (fun c17 => ?_) (fun c17 => ?_)
        · skip
          exact absurd c17 (by omega)
        · skip
          refine wa_iload_n (n := 2) rfl ?_
          refine wa_goto ⟨_, rfl⟩ ?_
          refine wa_ireturn rfl ?_
          show wJ _ _ _ _ _ _ _ _ _ _
          refine wa_istore_n (n := 3) rfl ?_
          refine wa_aload_n (n := 0) rfl ?_
          refine wb_gfi 158 rfl (wy_pr rfl) wt_158 wf_5_7 (v := kd) (l7) (fun r18 => ?_)
          refine wa_ifne (w_rg0 (by omega) (by omega)) ⟨_, rfl⟩ (fun c19 => ?_) (fun c19 => ?_)
          · skip
            refine wa_aload_n (n := 0) rfl ?_
            refine wb_gf4 158 rfl (wy_pr rfl) wt_158 wf_5_0 (v := 72) wl_158_0 ?_
            refine wb_gf5 72 rfl (wy_pr rfl) wt_72 wf_2_1 (v := 162) (h72) (fun r20 => ?_)
            refine wa_aload_n (n := 0) rfl ?_
            refine wb_gfl 158 rfl (wy_pr rfl) wt_158 wf_5_13 (v := es) (l13) (fun r21 => ?_)
            refine wb_l2i_r (wb_l2i_id ⟨(by omega), (by omega)⟩) ?_
            refine wa_aload_n (n := 0) rfl ?_
            refine wb_gf4 158 rfl (wy_pr rfl) wt_158 wf_5_0 (v := 72) wl_158_0 ?_
            refine wb_gf5 72 rfl (wy_pr rfl) wt_72 wf_2_1 (v := 162) (h72) (fun r22 => ?_)
            refine wb_gf4 162 rfl (wy_pr rfl) wt_162 wf_3_3 (v := 185) wl_162_3 ?_
            refine wa_iconst ?_
            refine wb_aald5 185 3 rfl rfl (wy_pr rfl) wt_185 (by rw [show _ = _ from ((cl_185 hC))]; omega) wl_185_3 ?_
            refine wa_iload_n (n := 1) rfl ?_
            refine wb_iald 189 rfl (wy_pr rfl) wt_189 (n := 400) ((cl_189 hC)) (by omega) (by omega) (v := ty) (hty) (fun r23 => ?_)
            refine wa_iconst ?_
            refine wa_cv 162 rfl (wy_pr rfl) wt_162 (M2 := fun _ => False) rfl at_XO_goesTo ⟨_, rfl⟩ rfl rfl ⟨trivial, (Or.inr ⟨wy_pr rfl, fun q => q⟩), (Or.inr ⟨wy_pr rfl, fun q => q⟩), trivial, trivial⟩ trivial (fun _ _ q => False.elim q) (gto_162 (S := S) (f := es) (q := ty) (l := 1) (lb := true) hC hK hw ⟨by omega, by omega⟩ ⟨by omega, by omega⟩ (Or.inr ⟨rfl, rfl⟩)) (fun oq24 Sq24 hp25 q24 => ?_)
            rcases q24 with ⟨rfl, rfl⟩
            show wJ _ _ _ _ _ _ _ _ _ _
            have hbg := bI_rg (gTB cs es ty true)
            refine wa_ifeq (w_rg0 (by omega) (by omega)) ⟨_, rfl⟩ (fun c26 => ?_) (fun c26 => ?_)
            · skip
              refine wa_aload_n (n := 0) rfl ?_
              refine wb_gf5 158 rfl (wy_pr rfl) wt_158 wf_5_4 (v := 226) (l4) (fun r27 => ?_)
              refine wa_bipush (w_rg2 (by omega) (by omega)) ?_
              refine wb_pfi 226 rfl (wy_pr rfl) wt_226 wf_8_16 (n := 16) rfl ⟨(by omega), (by omega)⟩ ?_
              refine wa_fall ⟨_, rfl⟩ ?_
              refine wa_return rfl ?_
              show wJ _ _ _ _ _ _ _ _ _ _
              refine wa_goto ⟨_, rfl⟩ ?_
              refine wa_return rfl ?_
              exact ⟨rfl, Or.inr ⟨bI_0 (by omega), rfl⟩⟩
            · skip
              refine wa_aload_n (n := 0) rfl ?_
              refine wb_gf5 158 rfl (wy_pr rfl) wt_158 wf_5_5 (v := 227) (l5) (fun r28 => ?_)
              refine wb_gfi 227 rfl (wy_pr rfl) wt_227 wf_7_2 (v := h) (bh) (fun r29 => ?_)
              refine wa_iconst ?_
              refine wa_isub ?_
              refine wa_istore (n := 4) rfl ?_
              refine wa_aload_n (n := 2) rfl ?_
              refine wa_iload_n (n := 3) rfl ?_
              refine wa_aload_n (n := 0) rfl ?_
              refine wb_gf5 158 rfl (wy_pr rfl) wt_158 wf_5_5 (v := 227) (l5) (fun r30 => ?_)
              refine wb_gf4 227 rfl (wy_pr rfl) wt_227 wf_7_0 (v := 228) wl_227_0 ?_
              refine wa_iload (n := 4) rfl ?_
              refine wb_bald 228 rfl (wy_pr rfl) wt_228 (n := (S 228 (-1))) (rfl) (by omega) (by omega) (v := ky) (hky) (fun r31 => ?_)
              refine wa_aload_n (n := 0) rfl ?_
              refine wb_gf5 158 rfl (wy_pr rfl) wt_158 wf_5_5 (v := 227) (l5) (fun r32 => ?_)
              refine wb_gf4 227 rfl (wy_pr rfl) wt_227 wf_7_1 (v := 229) wl_227_1 ?_
              refine wa_iload (n := 4) rfl ?_
              refine wb_lald 229 rfl (wy_pr rfl) wt_229 (n := (S 228 (-1))) (bl1) (by omega) (by omega) (v := vy) (hvy) (fun r33 => ?_)
              refine wa_cv 205 rfl (wy_pr rfl) wt_205 (M2 := mS [228, 229]) rfl at_XV_put ⟨_, rfl⟩ rfl rfl ⟨trivial, trivial, (Or.inr ⟨wy_pr rfl, mS_no rfl⟩), (Or.inr ⟨wy_pr rfl, mS_no rfl⟩), trivial, trivial⟩ trivial (fun _ _ q => q) ?_ (fun _ _ _ q => q)
              refine wa_aload_n (n := 0) rfl ?_
              refine wb_gf4 205 rfl (wy_pr rfl) wt_205 wf_7_0 (v := 206) wl_205_0 ?_
              refine wa_iload_n (n := 1) rfl ?_
              refine wa_iload_n (n := 2) rfl ?_
              refine wb_i2b_r (wb_i2b_id ⟨(by omega), (by omega)⟩) ?_
              refine wb_bast 206 rfl (wy_pr rfl) wt_206 (n := (S 206 (-1))) (rfl) (by omega) (by omega) ⟨(by omega), (by omega)⟩ ?_
              refine wa_aload_n (n := 0) rfl ?_
              refine wb_gf4 205 rfl (wy_pr rfl) wt_205 wf_7_1 (v := 207) wl_205_1 ?_
              refine wa_iload_n (n := 1) rfl ?_
              refine wa_lload_n (n := 3) rfl ?_
              refine wb_last 207 rfl (wy_pr rfl) wt_207 (n := (S 206 (-1))) ((w_up_slot (by decide)).trans (hrl)) (by omega) (by omega) ⟨(by omega), (by omega)⟩ ?_
              refine wa_return rfl ?_
              show wJ _ _ _ _ _ _ _ _ _ _
              refine wa_aload_n (n := 0) rfl ?_
              refine wa_aload_n (n := 0) rfl ?_
              refine wb_gf5 158 rfl (wy_pr rfl) wt_158 wf_5_5 (v := 227) ((w_up_slot (by decide)).trans ((w_up_slot (by decide)).trans (l5))) (fun r34 => ?_)
              refine wb_gf4 227 rfl (wy_pr rfl) wt_227 wf_7_0 (v := 228) wl_227_0 ?_
              refine wa_iload (n := 4) rfl ?_
              refine wb_bald 228 rfl (wy_pr rfl) wt_228 (n := (S 228 (-1))) ((w_up_slot (by decide)).trans ((w_up_slot (by decide)).trans (rfl))) (by omega) (by omega) (v := ky) ((w_up_slot (by decide)).trans ((w_up_slot (by decide)).trans (hky))) (fun r35 => ?_)
              refine wa_aload_n (n := 0) rfl ?_
              refine wb_gf5 158 rfl (wy_pr rfl) wt_158 wf_5_5 (v := 227) ((w_up_slot (by decide)).trans ((w_up_slot (by decide)).trans (l5))) (fun r36 => ?_)
              refine wb_gf4 227 rfl (wy_pr rfl) wt_227 wf_7_1 (v := 229) wl_227_1 ?_
              refine wa_iload (n := 4) rfl ?_
              refine wb_lald 229 rfl (wy_pr rfl) wt_229 (n := (S 228 (-1))) ((w_up_slot (by decide)).trans ((w_up_slot (by decide)).trans (bl1))) (by omega) (by omega) (v := vy) ((w_up_slot (by decide)).trans ((w_up_slot (by decide)).trans (hvy))) (fun r37 => ?_)
              refine wa_cv 158 rfl (wy_pr rfl) wt_158 (M2 := mS [228, 229]) rfl at_XL_giveValue ⟨_, rfl⟩ rfl rfl ⟨trivial, trivial, (Or.inr ⟨wy_pr rfl, mS_no rfl⟩), (Or.inr ⟨wy_pr rfl, mS_no rfl⟩), trivial, trivial⟩ trivial (fun _ _ q => mS_sub (by decide) q) (glx_226 (S := (w_up (w_up S 206 fi ky) 207 fi vy)) (k := ky) (v := vy) (h := h) (c := c) (p := p) (ba := ba) (w_CL_up (w_CL_up hC (by omega)) (by omega)) (gI_up (gI_up hI (by omega) (by omega) (by omega)) (by omega) (by omega) (by omega)) ((w_up_slot (by decide)).trans ((w_up_slot (by decide)).trans (l4))) ((w_up_slot (by decide)).trans ((w_up_slot (by decide)).trans (l5))) ((w_up_slot (by decide)).trans ((w_up_slot (by decide)).trans (l8))) ((w_up_slot (by decide)).trans ((w_up_slot (by decide)).trans (bc))) ((w_up_slot (by decide)).trans ((w_up_slot (by decide)).trans (bp))) ((((w_up_slot (by decide)).trans ((w_up_slot (by decide)).trans (bl1)))).trans (((w_up_slot (by decide)).trans ((w_up_slot (by decide)).trans (rfl)))).symm) (by have e : (w_up (w_up S 206 fi ky) 207 fi vy) 228 (-1) = S 228 (-1) := ((w_up_slot (by decide)).trans ((w_up_slot (by decide)).trans (rfl))); rw [e]; exact ⟨bl2, bl3⟩) (by have e : (w_up (w_up S 206 fi ky) 207 fi vy) 228 (-1) = S 228 (-1) := ((w_up_slot (by decide)).trans ((w_up_slot (by decide)).trans (rfl))); omega) ⟨by omega, by omega⟩ ⟨by omega, by omega⟩ ⟨by omega, by omega⟩ ⟨by omega, by omega⟩) (fun oq38 Sq38 hp39 q38 => ?_)
              rcases q38 with ⟨rfl, hgv38⟩
              show wJ _ _ _ _ _ _ _ _ _ _
              refine wa_goto ⟨_, rfl⟩ ?_
              refine wa_return rfl ?_
              show wJ _ _ _ _ _ _ _ _ _ _
              refine wa_goto ⟨_, rfl⟩ ?_
              refine wa_return rfl ?_
              exact ⟨rfl, Or.inl ⟨bI_1 (by omega), hgv38⟩⟩
          · skip
            exact absurd c19 (by omega)
set_option maxHeartbeats 4000000 in
theorem hfg0_162_226 {c p h kd ba gk gb x l wh fi vk vb st : Int} (hP : xP 226 c p h S) (hl : cSl S) (l4 : S 158 4 = 226) (l5 : S 158 5 = 227) (l7 : S 158 7 = kd) (l8 : S 158 8 = ba) (l9 : S 158 9 = gk) (l10 : S 158 10 = gb) (hx : 0 ≤ x ∧ x < S 48 (-1)) (hba : 0 ≤ ba ∧ ba < h) (h72 : S 72 1 = 162) (e48 : S 48 x = l) (hl12 : l = 1 ∨ l = 2) (he51 : S 51 x = wh) (hwh : 0 ≤ wh ∧ wh < 400) (hso : S 187 wh = 0) (hstt : S 188 wh = 0) (hfi : S 201 wh = fi) (hth : ∀ x : Nat, x < 10 → S (127 + x) (-1) = S 127 (-1)) (hn2 : S 127 (-1) ≤ 16383) (hl14 : S 142 (-1) = S 141 (-1)) (hz14 : 16 ≤ S 141 (-1) ∧ S 141 (-1) ≤ 480400) (hgb : 0 ≤ gb ∧ gb < S 127 (-1)) (hst : S 133 gb = st) (hrb : 0 ≤ st ∧ 0 ≤ fi ∧ fi ≤ 1000 ∧ st + fi < S 141 (-1)) (hvk : S 141 (st + fi) = vk) (hvb : S 142 (st + fi) = vb) (hvr : -128 ≤ vk ∧ vk ≤ 127) (hvs : -9223372036854775808 ≤ vb ∧ vb ≤ 9223372036854775807) (hkd : kd = 0) : wJ (pe_GA xs) wY0 (mS [228, 229]) (d + 9) t_XL_act ((pe_at t_XL_act.bl 0).getD (0, [])).2 [(0, (2, 158)), (1, (0, x))] [] S (fun o Z => o = .inl none ∧ sO 226 h c p (h - ba) vk vb S Z) := by
  obtain ⟨⟨hC, hI⟩, ⟨bc, bc0, bc1⟩, ⟨bp, bp0, bp1⟩, ⟨bh, bh0, bh1, bh2⟩, bl1, bl2, bl3⟩ := hP
  replace bp : S 231 (c - 1) = p := bp
  replace bh : S 227 2 = h := bh
  replace bh2 : h ≤ S 228 (-1) := bh2
  replace bl1 : S 229 (-1) = S 228 (-1) := bl1
  replace bl2 : 64 ≤ S 228 (-1) := bl2
  replace bl3 : S 228 (-1) ≤ 4095 := bl3
  have h35 := hl.2.1
  have h48 := hl.2.2.2
  refine wa_aload_n (n := 0) rfl ?_
  refine wb_gf4 158 rfl (wy_pr rfl) wt_158 wf_5_3 (v := 47) wl_158_3 ?_
  refine wa_iconst ?_
  refine wb_aald5 47 3 rfl rfl (wy_pr rfl) wt_47 (by rw [show _ = _ from ((cl_47 hC))]; omega) wl_47_3 ?_
  refine wa_iload_n (n := 1) rfl ?_
  refine wb_iald 51 rfl (wy_pr rfl) wt_51 (n := (S 48 (-1))) ((hl.2.2.1 3 (by decide))) (by omega) (by omega) (v := wh) (he51) (fun r1 => ?_)
  refine wa_istore_n (n := 2) rfl ?_
  refine wa_aload_n (n := 0) rfl ?_
  refine wb_gf4 158 rfl (wy_pr rfl) wt_158 wf_5_3 (v := 47) wl_158_3 ?_
  refine wa_iconst ?_
  refine wb_aald5 47 0 rfl rfl (wy_pr rfl) wt_47 (by rw [show _ = _ from ((cl_47 hC))]; omega) wl_47_0 ?_
  refine wa_iload_n (n := 1) rfl ?_
  refine wb_iald 48 rfl (wy_pr rfl) wt_48 (n := (S 48 (-1))) (rfl) (by omega) (by omega) (v := l) (e48) (fun r2 => ?_)
  by_cases c3 : l = 0
  · exact absurd c3 (by omega)
  by_cases c4 : l = 3
  · exact absurd c4 (by omega)
  refine wa_lw (tb := 0) (w_rg0 (by omega) (by omega)) (q := (116, 7)) (lw_df [0, 3] rfl (by simp only [List.mem_cons, List.not_mem_nil, or_false, not_or]; omega) (by first | rfl | decide)) ⟨_, rfl⟩ ?_
  refine wa_aload_n (n := 0) rfl ?_
  refine wb_gf4 158 rfl (wy_pr rfl) wt_158 wf_5_0 (v := 72) wl_158_0 ?_
  refine wb_gf5 72 rfl (wy_pr rfl) wt_72 wf_2_1 (v := 162) (h72) (fun r5 => ?_)
  refine wb_gf4 162 rfl (wy_pr rfl) wt_162 wf_3_3 (v := 185) wl_162_3 ?_
  refine wa_iconst ?_
  refine wb_aald5 185 1 rfl rfl (wy_pr rfl) wt_185 (by rw [show _ = _ from ((cl_185 hC))]; omega) wl_185_1 ?_
  refine wa_iload_n (n := 2) rfl ?_
  refine wb_iald 187 rfl (wy_pr rfl) wt_187 (n := 400) ((cl_187 hC)) (by omega) (by omega) (v := 0) (hso) (fun r6 => ?_)
  refine wa_ifne (w_rg0 (by omega) (by omega)) ⟨_, rfl⟩ (fun c7 => ?_) (fun c7 => ?_)
  · skip
    exact absurd c7 (by omega)
  · skip
    refine wa_aload_n (n := 0) rfl ?_
    refine wa_iload_n (n := 2) rfl ?_
    refine wa_cv 158 rfl (wy_pr rfl) wt_158 (M2 := mS [228, 229]) rfl at_XL_actOnField ⟨_, rfl⟩ rfl rfl ⟨trivial, (Or.inr ⟨wy_pr rfl, mS_no rfl⟩), trivial, trivial⟩ trivial (fun _ _ q => q) ?_ (fun _ _ _ q => q)
    refine wa_aload_n (n := 0) rfl ?_
    refine wa_iload_n (n := 1) rfl ?_
    refine wa_cv 158 rfl (wy_pr rfl) wt_158 (M2 := mS [228, 229]) rfl at_XL_rowOf ⟨_, rfl⟩ rfl rfl ⟨(Or.inr ⟨wy_pr rfl, mS_no rfl⟩), trivial, trivial⟩ trivial (fun _ _ q => q) ?_ (fun _ _ _ q => q)
    refine wa_aload_n (n := 0) rfl ?_
    refine wb_gf4 158 rfl (wy_pr rfl) wt_158 wf_5_0 (v := 72) wl_158_0 ?_
    refine wb_gf5 72 rfl (wy_pr rfl) wt_72 wf_2_1 (v := 162) (h72) (fun r8 => ?_)
    refine wb_gf4 162 rfl (wy_pr rfl) wt_162 wf_3_3 (v := 185) wl_162_3 ?_
    refine wa_iconst ?_
    refine wb_aald5 185 2 rfl rfl (wy_pr rfl) wt_185 (by rw [show _ = _ from ((cl_185 hC))]; omega) wl_185_2 ?_
    refine wa_iload_n (n := 1) rfl ?_
    refine wb_iald 188 rfl (wy_pr rfl) wt_188 (n := 400) ((cl_188 hC)) (by omega) (by omega) (v := 0) (hstt) (fun r9 => ?_)
    refine wa_iconst ?_
    refine wa_icmpne (w_rg0 (by omega) (by omega)) (w_rg0 (by omega) (by omega)) ⟨_, rfl⟩ (fun c10 => ?_) (fun c10 => ?_)
    · skip
      refine wa_aload_n (n := 0) rfl ?_
      refine wb_gf4 158 rfl (wy_pr rfl) wt_158 wf_5_0 (v := 72) wl_158_0 ?_
      refine wb_gf4 72 rfl (wy_pr rfl) wt_72 wf_2_6 (v := 140) wl_72_6 ?_
      refine wa_fall ⟨_, rfl⟩ ?_
      refine wa_oreturn rfl ?_
      show wJ _ _ _ _ _ _ _ _ _ _
      refine wa_astore_n (n := 2) rfl ?_
      refine wa_aload_n (n := 0) rfl ?_
      refine wa_iload_n (n := 1) rfl ?_
      refine wa_cv 158 rfl (wy_pr rfl) wt_158 (M2 := mS [228, 229]) rfl at_XL_placeOf ⟨_, rfl⟩ rfl rfl ⟨(Or.inr ⟨wy_pr rfl, mS_no rfl⟩), (Or.inr ⟨wy_pr rfl, mS_no rfl⟩), trivial, trivial⟩ trivial (fun _ _ q => q) ?_ (fun _ _ _ q => q)
      refine wa_aload_n (n := 0) rfl ?_
      refine wb_gf4 158 rfl (wy_pr rfl) wt_158 wf_5_0 (v := 72) wl_158_0 ?_
      refine wb_gf5 72 rfl (wy_pr rfl) wt_72 wf_2_1 (v := 162) (h72) (fun r11 => ?_)
      refine wb_gf4 162 rfl (wy_pr rfl) wt_162 wf_3_3 (v := 185) wl_162_3 ?_
      refine wa_bipush (w_rg2 (by omega) (by omega)) ?_
      refine wb_aald5 185 15 rfl rfl (wy_pr rfl) wt_185 (by rw [show _ = _ from ((cl_185 hC))]; omega) wl_185_15 ?_
      refine wa_iload_n (n := 1) rfl ?_
      refine wb_iald 201 rfl (wy_pr rfl) wt_201 (n := 400) ((cl_201 hC)) (by omega) (by omega) (v := fi) (hfi) (fun r12 => ?_)
      refine wa_istore_n (n := 2) rfl ?_
      refine wa_aload_n (n := 0) rfl ?_
      refine wb_gf4 158 rfl (wy_pr rfl) wt_158 wf_5_0 (v := 72) wl_158_0 ?_
      refine wb_gf5 72 rfl (wy_pr rfl) wt_72 wf_2_1 (v := 162) (h72) (fun r13 => ?_)
      refine wb_gf4 162 rfl (wy_pr rfl) wt_162 wf_3_3 (v := 185) wl_162_3 ?_
      refine wa_iconst ?_
      refine wb_aald5 185 2 rfl rfl (wy_pr rfl) wt_185 (by rw [show _ = _ from ((cl_185 hC))]; omega) wl_185_2 ?_
      refine wa_iload_n (n := 1) rfl ?_
      refine wb_iald 188 rfl (wy_pr rfl) wt_188 (n := 400) ((cl_188 hC)) (by omega) (by omega) (v := 0) (hstt) (fun r14 => ?_)
      refine wa_iconst ?_
      refine wa_icmpne (w_rg0 (by omega) (by omega)) (w_rg0 (by omega) (by omega)) ⟨_, rfl⟩ (fun c15 => ?_) (fun c15 => ?_)
      · skip
        refine wa_iconst ?_
        refine wa_fall ⟨_, rfl⟩ ?_
        refine wa_istore_n (n := 3) rfl ?_
        refine wa_iload_n (n := 3) rfl ?_
        refine wa_ifeq (w_rg0 (by omega) (by omega)) ⟨_, rfl⟩ (fun c16 => ?_) (fun c16 => ?_)
        · skip
          refine wa_aload_n (n := 0) rfl ?_
          refine wb_gf4 158 rfl (wy_pr rfl) wt_158 wf_5_0 (v := 72) wl_158_0 ?_
          refine wb_gf4 72 rfl (wy_pr rfl) wt_72 wf_2_2 (v := 126) wl_72_2 ?_
          refine wa_bipush (w_rg2 (by omega) (by omega)) ?_
          refine wb_aald5 126 6 rfl rfl (wy_pr rfl) wt_126 (by rw [show _ = _ from ((cl_126 hC))]; omega) wl_126_6 ?_
          refine wa_aload_n (n := 0) rfl ?_
          refine wb_gfl 158 rfl (wy_pr rfl) wt_158 wf_5_10 (v := gb) (l10) (fun r17 => ?_)
          refine wb_l2i_r (wb_l2i_id ⟨(by omega), (by omega)⟩) ?_
          refine wb_iald 133 rfl (wy_pr rfl) wt_133 (n := (S 127 (-1))) ((hth 6 (by decide))) (by omega) (by omega) (v := st) (hst) (fun r18 => ?_)
          refine wa_iload_n (n := 2) rfl ?_
          refine wa_iadd ?_
          refine wa_fall ⟨_, rfl⟩ ?_
          refine wa_ireturn rfl ?_
          show wJ _ _ _ _ _ _ _ _ _ _
          refine wa_istore_n (n := 3) rfl ?_
          refine wa_aload_n (n := 0) rfl ?_
          refine wb_gfi 158 rfl (wy_pr rfl) wt_158 wf_5_7 (v := kd) (l7) (fun r19 => ?_)
          refine wa_ifne (w_rg0 (by omega) (by omega)) ⟨_, rfl⟩ (fun c20 => ?_) (fun c20 => ?_)
          · skip
            exact absurd c20 (by omega)
          · skip
            refine wa_aload_n (n := 0) rfl ?_
            refine wa_aload_n (n := 2) rfl ?_
            refine wb_gf4 140 rfl (wy_pr rfl) wt_140 wf_7_0 (v := 141) wl_140_0 ?_
            refine wa_iload_n (n := 3) rfl ?_
            refine wb_bald 141 rfl (wy_pr rfl) wt_141 (n := (S 141 (-1))) (rfl) (by omega) (by omega) (v := vk) (hvk) (fun r21 => ?_)
            refine wa_aload_n (n := 2) rfl ?_
            refine wb_gf4 140 rfl (wy_pr rfl) wt_140 wf_7_1 (v := 142) wl_140_1 ?_
            refine wa_iload_n (n := 3) rfl ?_
            refine wb_lald 142 rfl (wy_pr rfl) wt_142 (n := (S 141 (-1))) (hl14) (by omega) (by omega) (v := vb) (hvb) (fun r22 => ?_)
            refine wa_cv 158 rfl (wy_pr rfl) wt_158 (M2 := mS [228, 229]) rfl at_XL_giveValue ⟨_, rfl⟩ rfl rfl ⟨trivial, (Or.inr ⟨wy_pr rfl, mS_no rfl⟩), (Or.inr ⟨wy_pr rfl, mS_no rfl⟩), trivial, trivial⟩ trivial (fun _ _ q => mS_sub (by decide) q) (glx_226 (S := S) (k := vk) (v := vb) (h := h) (c := c) (p := p) (ba := ba) hC hI (l4) (l5) (l8) (bc) (bp) (((bl1)).trans ((rfl)).symm) (by have e : S 228 (-1) = S 228 (-1) := (rfl); rw [e]; exact ⟨bl2, bl3⟩) (by have e : S 228 (-1) = S 228 (-1) := (rfl); omega) ⟨by omega, by omega⟩ ⟨by omega, by omega⟩ ⟨by omega, by omega⟩ ⟨by omega, by omega⟩) (fun oq23 Sq23 hp24 q23 => ?_)
            rcases q23 with ⟨rfl, hgv23⟩
            show wJ _ _ _ _ _ _ _ _ _ _
            refine wa_goto ⟨_, rfl⟩ ?_
            refine wa_return rfl ?_
            show wJ _ _ _ _ _ _ _ _ _ _
            refine wa_goto ⟨_, rfl⟩ ?_
            refine wa_return rfl ?_
            exact ⟨rfl, hgv23⟩
        · skip
          exact absurd c16 (by omega)
      · skip
        exact absurd c15 (by omega)
    · skip
      exact absurd c10 (by omega)
set_option maxHeartbeats 4000000 in
theorem hfs0_162_226 {c p h kd ba gk gb x l wh fi st ky vy es ty : Int} (hP : xP 226 c p h S) (hl : cSl S) (l4 : S 158 4 = 226) (l5 : S 158 5 = 227) (l7 : S 158 7 = kd) (l8 : S 158 8 = ba) (l9 : S 158 9 = gk) (l10 : S 158 10 = gb) (hx : 0 ≤ x ∧ x < S 48 (-1)) (hba : 0 ≤ ba ∧ ba < h) (hK : KC 176 186 182 203 204 163 162 T cs ms os S) (hw : wHo cs ms os) (h72 : S 72 1 = 162) (e48 : S 48 x = l) (hl12 : l = 1 ∨ l = 2) (he51 : S 51 x = wh) (hwh : 0 ≤ wh ∧ wh < 400) (hso : S 187 wh = 0) (hstt : S 188 wh = 0) (hfi : S 201 wh = fi) (hth : ∀ x : Nat, x < 10 → S (127 + x) (-1) = S 127 (-1)) (hn2 : S 127 (-1) ≤ 16383) (hl14 : S 142 (-1) = S 141 (-1)) (hz14 : 16 ≤ S 141 (-1) ∧ S 141 (-1) ≤ 480400) (hgb : 0 ≤ gb ∧ gb < S 127 (-1)) (hst : S 133 gb = st) (hrb : 0 ≤ st ∧ 0 ≤ fi ∧ fi ≤ 1000 ∧ st + fi < S 141 (-1)) (hky : S 228 (h - 1) = ky) (hvy : S 229 (h - 1) = vy) (hkr : -128 ≤ ky ∧ ky ≤ 127) (hvr : -9223372036854775808 ≤ vy ∧ vy ≤ 9223372036854775807) (l13 : S 158 13 = es) (hes : 0 ≤ es ∧ es < 9 + (cs.length : Int)) (hty : S 189 wh = ty) (htr : 0 ≤ ty ∧ ty < 9 + (cs.length : Int)) (hkd : kd = 1) : wJ (pe_GA xs) wY0 (mS [228, 229]) (d + 9) t_XL_act ((pe_at t_XL_act.bl 0).getD (0, [])).2 [(0, (2, 158)), (1, (0, x))] [] S (fun o Z => o = .inl none ∧ ((gTB cs es ty true = true ∧ sO 226 h c p (h - ba) ky vy (w_up (w_up S 141 (st + fi) ky) 142 (st + fi) vy) Z) ∨ (gTB cs es ty true = false ∧ w_up S 226 16 7 = Z))) := by
  obtain ⟨⟨hC, hI⟩, ⟨bc, bc0, bc1⟩, ⟨bp, bp0, bp1⟩, ⟨bh, bh0, bh1, bh2⟩, bl1, bl2, bl3⟩ := hP
  replace bp : S 231 (c - 1) = p := bp
  replace bh : S 227 2 = h := bh
  replace bh2 : h ≤ S 228 (-1) := bh2
  replace bl1 : S 229 (-1) = S 228 (-1) := bl1
  replace bl2 : 64 ≤ S 228 (-1) := bl2
  replace bl3 : S 228 (-1) ≤ 4095 := bl3
  have h35 := hl.2.1
  have h48 := hl.2.2.2
  have hn60 := hw.1
  refine wa_aload_n (n := 0) rfl ?_
  refine wb_gf4 158 rfl (wy_pr rfl) wt_158 wf_5_3 (v := 47) wl_158_3 ?_
  refine wa_iconst ?_
  refine wb_aald5 47 3 rfl rfl (wy_pr rfl) wt_47 (by rw [show _ = _ from ((cl_47 hC))]; omega) wl_47_3 ?_
  refine wa_iload_n (n := 1) rfl ?_
  refine wb_iald 51 rfl (wy_pr rfl) wt_51 (n := (S 48 (-1))) ((hl.2.2.1 3 (by decide))) (by omega) (by omega) (v := wh) (he51) (fun r1 => ?_)
  refine wa_istore_n (n := 2) rfl ?_
  refine wa_aload_n (n := 0) rfl ?_
  refine wb_gf4 158 rfl (wy_pr rfl) wt_158 wf_5_3 (v := 47) wl_158_3 ?_
  refine wa_iconst ?_
  refine wb_aald5 47 0 rfl rfl (wy_pr rfl) wt_47 (by rw [show _ = _ from ((cl_47 hC))]; omega) wl_47_0 ?_
  refine wa_iload_n (n := 1) rfl ?_
  refine wb_iald 48 rfl (wy_pr rfl) wt_48 (n := (S 48 (-1))) (rfl) (by omega) (by omega) (v := l) (e48) (fun r2 => ?_)
  by_cases c3 : l = 0
  · exact absurd c3 (by omega)
  by_cases c4 : l = 3
  · exact absurd c4 (by omega)
  refine wa_lw (tb := 0) (w_rg0 (by omega) (by omega)) (q := (116, 7)) (lw_df [0, 3] rfl (by simp only [List.mem_cons, List.not_mem_nil, or_false, not_or]; omega) (by first | rfl | decide)) ⟨_, rfl⟩ ?_
  refine wa_aload_n (n := 0) rfl ?_
  refine wb_gf4 158 rfl (wy_pr rfl) wt_158 wf_5_0 (v := 72) wl_158_0 ?_
  refine wb_gf5 72 rfl (wy_pr rfl) wt_72 wf_2_1 (v := 162) (h72) (fun r5 => ?_)
  refine wb_gf4 162 rfl (wy_pr rfl) wt_162 wf_3_3 (v := 185) wl_162_3 ?_
  refine wa_iconst ?_
  refine wb_aald5 185 1 rfl rfl (wy_pr rfl) wt_185 (by rw [show _ = _ from ((cl_185 hC))]; omega) wl_185_1 ?_
  refine wa_iload_n (n := 2) rfl ?_
  refine wb_iald 187 rfl (wy_pr rfl) wt_187 (n := 400) ((cl_187 hC)) (by omega) (by omega) (v := 0) (hso) (fun r6 => ?_)
  refine wa_ifne (w_rg0 (by omega) (by omega)) ⟨_, rfl⟩ (fun c7 => ?_) (fun c7 => ?_)
  · skip
    exact absurd c7 (by omega)
  · skip
    refine wa_aload_n (n := 0) rfl ?_
    refine wa_iload_n (n := 2) rfl ?_
    refine wa_cv 158 rfl (wy_pr rfl) wt_158 (M2 := mS [228, 229]) rfl at_XL_actOnField ⟨_, rfl⟩ rfl rfl ⟨trivial, (Or.inr ⟨wy_pr rfl, mS_no rfl⟩), trivial, trivial⟩ trivial (fun _ _ q => q) ?_ (fun _ _ _ q => q)
    refine wa_aload_n (n := 0) rfl ?_
    refine wa_iload_n (n := 1) rfl ?_
    refine wa_cv 158 rfl (wy_pr rfl) wt_158 (M2 := mS [228, 229]) rfl at_XL_rowOf ⟨_, rfl⟩ rfl rfl ⟨(Or.inr ⟨wy_pr rfl, mS_no rfl⟩), trivial, trivial⟩ trivial (fun _ _ q => q) ?_ (fun _ _ _ q => q)
    refine wa_aload_n (n := 0) rfl ?_
    refine wb_gf4 158 rfl (wy_pr rfl) wt_158 wf_5_0 (v := 72) wl_158_0 ?_
    refine wb_gf5 72 rfl (wy_pr rfl) wt_72 wf_2_1 (v := 162) (h72) (fun r8 => ?_)
    refine wb_gf4 162 rfl (wy_pr rfl) wt_162 wf_3_3 (v := 185) wl_162_3 ?_
    refine wa_iconst ?_
    refine wb_aald5 185 2 rfl rfl (wy_pr rfl) wt_185 (by rw [show _ = _ from ((cl_185 hC))]; omega) wl_185_2 ?_
    refine wa_iload_n (n := 1) rfl ?_
    refine wb_iald 188 rfl (wy_pr rfl) wt_188 (n := 400) ((cl_188 hC)) (by omega) (by omega) (v := 0) (hstt) (fun r9 => ?_)
    refine wa_iconst ?_
    refine wa_icmpne (w_rg0 (by omega) (by omega)) (w_rg0 (by omega) (by omega)) ⟨_, rfl⟩ (fun c10 => ?_) (fun c10 => ?_)
    · skip
      refine wa_aload_n (n := 0) rfl ?_
      refine wb_gf4 158 rfl (wy_pr rfl) wt_158 wf_5_0 (v := 72) wl_158_0 ?_
      refine wb_gf4 72 rfl (wy_pr rfl) wt_72 wf_2_6 (v := 140) wl_72_6 ?_
      refine wa_fall ⟨_, rfl⟩ ?_
      refine wa_oreturn rfl ?_
      show wJ _ _ _ _ _ _ _ _ _ _
      refine wa_astore_n (n := 2) rfl ?_
      refine wa_aload_n (n := 0) rfl ?_
      refine wa_iload_n (n := 1) rfl ?_
      refine wa_cv 158 rfl (wy_pr rfl) wt_158 (M2 := mS [228, 229]) rfl at_XL_placeOf ⟨_, rfl⟩ rfl rfl ⟨(Or.inr ⟨wy_pr rfl, mS_no rfl⟩), (Or.inr ⟨wy_pr rfl, mS_no rfl⟩), trivial, trivial⟩ trivial (fun _ _ q => q) ?_ (fun _ _ _ q => q)
      refine wa_aload_n (n := 0) rfl ?_
      refine wb_gf4 158 rfl (wy_pr rfl) wt_158 wf_5_0 (v := 72) wl_158_0 ?_
      refine wb_gf5 72 rfl (wy_pr rfl) wt_72 wf_2_1 (v := 162) (h72) (fun r11 => ?_)
      refine wb_gf4 162 rfl (wy_pr rfl) wt_162 wf_3_3 (v := 185) wl_162_3 ?_
      refine wa_bipush (w_rg2 (by omega) (by omega)) ?_
      refine wb_aald5 185 15 rfl rfl (wy_pr rfl) wt_185 (by rw [show _ = _ from ((cl_185 hC))]; omega) wl_185_15 ?_
      refine wa_iload_n (n := 1) rfl ?_
      refine wb_iald 201 rfl (wy_pr rfl) wt_201 (n := 400) ((cl_201 hC)) (by omega) (by omega) (v := fi) (hfi) (fun r12 => ?_)
      refine wa_istore_n (n := 2) rfl ?_
      refine wa_aload_n (n := 0) rfl ?_
      refine wb_gf4 158 rfl (wy_pr rfl) wt_158 wf_5_0 (v := 72) wl_158_0 ?_
      refine wb_gf5 72 rfl (wy_pr rfl) wt_72 wf_2_1 (v := 162) (h72) (fun r13 => ?_)
      refine wb_gf4 162 rfl (wy_pr rfl) wt_162 wf_3_3 (v := 185) wl_162_3 ?_
      refine wa_iconst ?_
      refine wb_aald5 185 2 rfl rfl (wy_pr rfl) wt_185 (by rw [show _ = _ from ((cl_185 hC))]; omega) wl_185_2 ?_
      refine wa_iload_n (n := 1) rfl ?_
      refine wb_iald 188 rfl (wy_pr rfl) wt_188 (n := 400) ((cl_188 hC)) (by omega) (by omega) (v := 0) (hstt) (fun r14 => ?_)
      refine wa_iconst ?_
      refine wa_icmpne (w_rg0 (by omega) (by omega)) (w_rg0 (by omega) (by omega)) ⟨_, rfl⟩ (fun c15 => ?_) (fun c15 => ?_)
      · skip
        refine wa_iconst ?_
        refine wa_fall ⟨_, rfl⟩ ?_
        refine wa_istore_n (n := 3) rfl ?_
        refine wa_iload_n (n := 3) rfl ?_
        refine wa_ifeq (w_rg0 (by omega) (by omega)) ⟨_, rfl⟩ (fun c16 => ?_) (fun c16 => ?_)
        · skip
          refine wa_aload_n (n := 0) rfl ?_
          refine wb_gf4 158 rfl (wy_pr rfl) wt_158 wf_5_0 (v := 72) wl_158_0 ?_
          refine wb_gf4 72 rfl (wy_pr rfl) wt_72 wf_2_2 (v := 126) wl_72_2 ?_
          refine wa_bipush (w_rg2 (by omega) (by omega)) ?_
          refine wb_aald5 126 6 rfl rfl (wy_pr rfl) wt_126 (by rw [show _ = _ from ((cl_126 hC))]; omega) wl_126_6 ?_
          refine wa_aload_n (n := 0) rfl ?_
          refine wb_gfl 158 rfl (wy_pr rfl) wt_158 wf_5_10 (v := gb) (l10) (fun r17 => ?_)
          refine wb_l2i_r (wb_l2i_id ⟨(by omega), (by omega)⟩) ?_
          refine wb_iald 133 rfl (wy_pr rfl) wt_133 (n := (S 127 (-1))) ((hth 6 (by decide))) (by omega) (by omega) (v := st) (hst) (fun r18 => ?_)
          refine wa_iload_n (n := 2) rfl ?_
          refine wa_iadd ?_
          refine wa_fall ⟨_, rfl⟩ ?_
          refine wa_ireturn rfl ?_
          show wJ _ _ _ _ _ _ _ _ _ _
          refine wa_istore_n (n := 3) rfl ?_
          refine wa_aload_n (n := 0) rfl ?_
          refine wb_gfi 158 rfl (wy_pr rfl) wt_158 wf_5_7 (v := kd) (l7) (fun r19 => ?_)
          refine wa_ifne (w_rg0 (by omega) (by omega)) ⟨_, rfl⟩ (fun c20 => ?_) (fun c20 => ?_)
          · skip
            refine wa_aload_n (n := 0) rfl ?_
            refine wb_gf4 158 rfl (wy_pr rfl) wt_158 wf_5_0 (v := 72) wl_158_0 ?_
            refine wb_gf5 72 rfl (wy_pr rfl) wt_72 wf_2_1 (v := 162) (h72) (fun r21 => ?_)
            refine wa_aload_n (n := 0) rfl ?_
            refine wb_gfl 158 rfl (wy_pr rfl) wt_158 wf_5_13 (v := es) (l13) (fun r22 => ?_)
            refine wb_l2i_r (wb_l2i_id ⟨(by omega), (by omega)⟩) ?_
            refine wa_aload_n (n := 0) rfl ?_
            refine wb_gf4 158 rfl (wy_pr rfl) wt_158 wf_5_0 (v := 72) wl_158_0 ?_
            refine wb_gf5 72 rfl (wy_pr rfl) wt_72 wf_2_1 (v := 162) (h72) (fun r23 => ?_)
            refine wb_gf4 162 rfl (wy_pr rfl) wt_162 wf_3_3 (v := 185) wl_162_3 ?_
            refine wa_iconst ?_
            refine wb_aald5 185 3 rfl rfl (wy_pr rfl) wt_185 (by rw [show _ = _ from ((cl_185 hC))]; omega) wl_185_3 ?_
            refine wa_iload_n (n := 1) rfl ?_
            refine wb_iald 189 rfl (wy_pr rfl) wt_189 (n := 400) ((cl_189 hC)) (by omega) (by omega) (v := ty) (hty) (fun r24 => ?_)
            refine wa_iconst ?_
            refine wa_cv 162 rfl (wy_pr rfl) wt_162 (M2 := fun _ => False) rfl at_XO_goesTo ⟨_, rfl⟩ rfl rfl ⟨trivial, (Or.inr ⟨wy_pr rfl, fun q => q⟩), (Or.inr ⟨wy_pr rfl, fun q => q⟩), trivial, trivial⟩ trivial (fun _ _ q => False.elim q) (gto_162 (S := S) (f := es) (q := ty) (l := 1) (lb := true) hC hK hw ⟨by omega, by omega⟩ ⟨by omega, by omega⟩ (Or.inr ⟨rfl, rfl⟩)) (fun oq25 Sq25 hp26 q25 => ?_)
            rcases q25 with ⟨rfl, rfl⟩
            show wJ _ _ _ _ _ _ _ _ _ _
            have hbg := bI_rg (gTB cs es ty true)
            refine wa_ifeq (w_rg0 (by omega) (by omega)) ⟨_, rfl⟩ (fun c27 => ?_) (fun c27 => ?_)
            · skip
              refine wa_aload_n (n := 0) rfl ?_
              refine wb_gf5 158 rfl (wy_pr rfl) wt_158 wf_5_4 (v := 226) (l4) (fun r28 => ?_)
              refine wa_bipush (w_rg2 (by omega) (by omega)) ?_
              refine wb_pfi 226 rfl (wy_pr rfl) wt_226 wf_8_16 (n := 16) rfl ⟨(by omega), (by omega)⟩ ?_
              refine wa_fall ⟨_, rfl⟩ ?_
              refine wa_return rfl ?_
              show wJ _ _ _ _ _ _ _ _ _ _
              refine wa_goto ⟨_, rfl⟩ ?_
              refine wa_return rfl ?_
              exact ⟨rfl, Or.inr ⟨bI_0 (by omega), rfl⟩⟩
            · skip
              refine wa_aload_n (n := 0) rfl ?_
              refine wb_gf5 158 rfl (wy_pr rfl) wt_158 wf_5_5 (v := 227) (l5) (fun r29 => ?_)
              refine wb_gfi 227 rfl (wy_pr rfl) wt_227 wf_7_2 (v := h) (bh) (fun r30 => ?_)
              refine wa_iconst ?_
              refine wa_isub ?_
              refine wa_istore (n := 4) rfl ?_
              refine wa_aload_n (n := 2) rfl ?_
              refine wa_iload_n (n := 3) rfl ?_
              refine wa_aload_n (n := 0) rfl ?_
              refine wb_gf5 158 rfl (wy_pr rfl) wt_158 wf_5_5 (v := 227) (l5) (fun r31 => ?_)
              refine wb_gf4 227 rfl (wy_pr rfl) wt_227 wf_7_0 (v := 228) wl_227_0 ?_
              refine wa_iload (n := 4) rfl ?_
              refine wb_bald 228 rfl (wy_pr rfl) wt_228 (n := (S 228 (-1))) (rfl) (by omega) (by omega) (v := ky) (hky) (fun r32 => ?_)
              refine wa_aload_n (n := 0) rfl ?_
              refine wb_gf5 158 rfl (wy_pr rfl) wt_158 wf_5_5 (v := 227) (l5) (fun r33 => ?_)
              refine wb_gf4 227 rfl (wy_pr rfl) wt_227 wf_7_1 (v := 229) wl_227_1 ?_
              refine wa_iload (n := 4) rfl ?_
              refine wb_lald 229 rfl (wy_pr rfl) wt_229 (n := (S 228 (-1))) (bl1) (by omega) (by omega) (v := vy) (hvy) (fun r34 => ?_)
              refine wa_cv 140 rfl (wy_pr rfl) wt_140 (M2 := mS [228, 229]) rfl at_XV_put ⟨_, rfl⟩ rfl rfl ⟨trivial, trivial, (Or.inr ⟨wy_pr rfl, mS_no rfl⟩), (Or.inr ⟨wy_pr rfl, mS_no rfl⟩), trivial, trivial⟩ trivial (fun _ _ q => q) ?_ (fun _ _ _ q => q)
              refine wa_aload_n (n := 0) rfl ?_
              refine wb_gf4 140 rfl (wy_pr rfl) wt_140 wf_7_0 (v := 141) wl_140_0 ?_
              refine wa_iload_n (n := 1) rfl ?_
              refine wa_iload_n (n := 2) rfl ?_
              refine wb_i2b_r (wb_i2b_id ⟨(by omega), (by omega)⟩) ?_
              refine wb_bast 141 rfl (wy_pr rfl) wt_141 (n := (S 141 (-1))) (rfl) (by omega) (by omega) ⟨(by omega), (by omega)⟩ ?_
              refine wa_aload_n (n := 0) rfl ?_
              refine wb_gf4 140 rfl (wy_pr rfl) wt_140 wf_7_1 (v := 142) wl_140_1 ?_
              refine wa_iload_n (n := 1) rfl ?_
              refine wa_lload_n (n := 3) rfl ?_
              refine wb_last 142 rfl (wy_pr rfl) wt_142 (n := (S 141 (-1))) ((w_up_slot (by decide)).trans (hl14)) (by omega) (by omega) ⟨(by omega), (by omega)⟩ ?_
              refine wa_return rfl ?_
              show wJ _ _ _ _ _ _ _ _ _ _
              refine wa_aload_n (n := 0) rfl ?_
              refine wa_aload_n (n := 0) rfl ?_
              refine wb_gf5 158 rfl (wy_pr rfl) wt_158 wf_5_5 (v := 227) ((w_up_slot (by decide)).trans ((w_up_slot (by decide)).trans (l5))) (fun r35 => ?_)
              refine wb_gf4 227 rfl (wy_pr rfl) wt_227 wf_7_0 (v := 228) wl_227_0 ?_
              refine wa_iload (n := 4) rfl ?_
              refine wb_bald 228 rfl (wy_pr rfl) wt_228 (n := (S 228 (-1))) ((w_up_slot (by decide)).trans ((w_up_slot (by decide)).trans (rfl))) (by omega) (by omega) (v := ky) ((w_up_slot (by decide)).trans ((w_up_slot (by decide)).trans (hky))) (fun r36 => ?_)
              refine wa_aload_n (n := 0) rfl ?_
              refine wb_gf5 158 rfl (wy_pr rfl) wt_158 wf_5_5 (v := 227) ((w_up_slot (by decide)).trans ((w_up_slot (by decide)).trans (l5))) (fun r37 => ?_)
              refine wb_gf4 227 rfl (wy_pr rfl) wt_227 wf_7_1 (v := 229) wl_227_1 ?_
              refine wa_iload (n := 4) rfl ?_
              refine wb_lald 229 rfl (wy_pr rfl) wt_229 (n := (S 228 (-1))) ((w_up_slot (by decide)).trans ((w_up_slot (by decide)).trans (bl1))) (by omega) (by omega) (v := vy) ((w_up_slot (by decide)).trans ((w_up_slot (by decide)).trans (hvy))) (fun r38 => ?_)
              refine wa_cv 158 rfl (wy_pr rfl) wt_158 (M2 := mS [228, 229]) rfl at_XL_giveValue ⟨_, rfl⟩ rfl rfl ⟨trivial, trivial, (Or.inr ⟨wy_pr rfl, mS_no rfl⟩), (Or.inr ⟨wy_pr rfl, mS_no rfl⟩), trivial, trivial⟩ trivial (fun _ _ q => mS_sub (by decide) q) (glx_226 (S := (w_up (w_up S 141 (st + fi) ky) 142 (st + fi) vy)) (k := ky) (v := vy) (h := h) (c := c) (p := p) (ba := ba) (w_CL_up (w_CL_up hC (by omega)) (by omega)) (gI_up (gI_up hI (by omega) (by omega) (by omega)) (by omega) (by omega) (by omega)) ((w_up_slot (by decide)).trans ((w_up_slot (by decide)).trans (l4))) ((w_up_slot (by decide)).trans ((w_up_slot (by decide)).trans (l5))) ((w_up_slot (by decide)).trans ((w_up_slot (by decide)).trans (l8))) ((w_up_slot (by decide)).trans ((w_up_slot (by decide)).trans (bc))) ((w_up_slot (by decide)).trans ((w_up_slot (by decide)).trans (bp))) ((((w_up_slot (by decide)).trans ((w_up_slot (by decide)).trans (bl1)))).trans (((w_up_slot (by decide)).trans ((w_up_slot (by decide)).trans (rfl)))).symm) (by have e : (w_up (w_up S 141 (st + fi) ky) 142 (st + fi) vy) 228 (-1) = S 228 (-1) := ((w_up_slot (by decide)).trans ((w_up_slot (by decide)).trans (rfl))); rw [e]; exact ⟨bl2, bl3⟩) (by have e : (w_up (w_up S 141 (st + fi) ky) 142 (st + fi) vy) 228 (-1) = S 228 (-1) := ((w_up_slot (by decide)).trans ((w_up_slot (by decide)).trans (rfl))); omega) ⟨by omega, by omega⟩ ⟨by omega, by omega⟩ ⟨by omega, by omega⟩ ⟨by omega, by omega⟩) (fun oq39 Sq39 hp40 q39 => ?_)
              rcases q39 with ⟨rfl, hgv39⟩
              show wJ _ _ _ _ _ _ _ _ _ _
              refine wa_goto ⟨_, rfl⟩ ?_
              refine wa_return rfl ?_
              show wJ _ _ _ _ _ _ _ _ _ _
              refine wa_goto ⟨_, rfl⟩ ?_
              refine wa_return rfl ?_
              exact ⟨rfl, Or.inl ⟨bI_1 (by omega), hgv39⟩⟩
          · skip
            exact absurd c20 (by omega)
        · skip
          exact absurd c16 (by omega)
      · skip
        exact absurd c15 (by omega)
    · skip
      exact absurd c10 (by omega)
end Whj
