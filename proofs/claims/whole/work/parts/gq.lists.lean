/-! PART gq: act of the class's linker on lists. -/
section Wgq
variable {xs : List (Nat × List Int32)} {M : Nat → Prop} {d : Nat} {S Z A : wS}
set_option maxHeartbeats 4000000 in
theorem xlsz_215 {c p h kd ba gk gb x ky vy st sz rm cs v0 ec : Int} (hP : xP 215 c p h S) (hl : cSl S) (l4 : S 158 4 = 215) (l5 : S 158 5 = 216) (l7 : S 158 7 = kd) (l8 : S 158 8 = ba) (l9 : S 158 9 = gk) (l10 : S 158 10 = gb) (hx : 0 ≤ x ∧ x < S 48 (-1)) (hba : 0 ≤ ba ∧ ba < h) (hx1 : pe_at (pe_GA xs).xs 1 = some (1, tx_1)) (hth : ∀ x : Nat, x < 10 → S (127 + x) (-1) = S 127 (-1)) (hn2 : S 127 (-1) ≤ 16383) (hl14 : S 142 (-1) = S 141 (-1)) (hz14 : 16 ≤ S 141 (-1) ∧ S 141 (-1) ≤ 480400) (e48 : S 48 x = 3) (hgk : gk = 6) (hgb : 0 ≤ gb ∧ gb < S 127 (-1)) (h2 : S 140 2 = cs) (hcs : 0 ≤ cs ∧ cs ≤ S 141 (-1)) (hst : S 133 gb = st) (hsz : S 134 gb = sz) (hrm : S 135 gb = rm) (hs1 : 0 ≤ st ∧ 0 ≤ sz ∧ sz ≤ rm ∧ st + rm ≤ cs) (hv0 : S 150 1 = v0) (hv1 : 0 ≤ v0 ∧ v0 ≤ 60000) (hszb : sz ≤ 60000) (l12 : S 158 12 = ec) (hkd : kd = 0) : wJ (pe_GA xs) wY0 (mS [217, 218]) (d + 8) t_XL_act ((pe_at t_XL_act.bl 0).getD (0, [])).2 [(0, (2, 158)), (1, (0, x))] [] S (fun o Z => o = .inl none ∧ sO 215 h c p (h - ba) 2 sz S Z) := by
  obtain ⟨⟨hC, hI⟩, ⟨bc, bc0, bc1⟩, ⟨bp, bp0, bp1⟩, ⟨bh, bh0, bh1, bh2⟩, bl1, bl2, bl3⟩ := hP
  replace bp : S 220 (c - 1) = p := bp
  replace bh : S 216 2 = h := bh
  replace bh2 : h ≤ S 217 (-1) := bh2
  replace bl1 : S 218 (-1) = S 217 (-1) := bl1
  replace bl2 : 64 ≤ S 217 (-1) := bl2
  replace bl3 : S 217 (-1) ≤ 4095 := bl3
  have h35 := hl.2.1
  have h48 := hl.2.2.2
  refine wa_aload_n (n := 0) rfl ?_
  refine wb_gf4 158 rfl (wy_pr rfl) wt_158 wf_5_3 (v := 47) wl_158_3 ?_
  refine wa_iconst ?_
  refine wb_aald5 47 3 rfl rfl (wy_pr rfl) wt_47 (by rw [show _ = _ from ((cl_47 hC))]; omega) wl_47_3 ?_
  refine wa_iload_n (n := 1) rfl ?_
  refine wb_iald 51 rfl (wy_pr rfl) wt_51 (n := (S 48 (-1))) ((hl.2.2.1 3 (by decide))) (by omega) (by omega) (v := (S 51 x)) rfl (fun r1 => ?_)
  refine wa_istore_n (n := 2) rfl ?_
  refine wa_aload_n (n := 0) rfl ?_
  refine wb_gf4 158 rfl (wy_pr rfl) wt_158 wf_5_3 (v := 47) wl_158_3 ?_
  refine wa_iconst ?_
  refine wb_aald5 47 0 rfl rfl (wy_pr rfl) wt_47 (by rw [show _ = _ from ((cl_47 hC))]; omega) wl_47_0 ?_
  refine wa_iload_n (n := 1) rfl ?_
  refine wb_iald 48 rfl (wy_pr rfl) wt_48 (n := (S 48 (-1))) (rfl) (by omega) (by omega) (v := 3) (e48) (fun r2 => ?_)
  refine wa_lw (tb := 0) (w_rg0 (by omega) (by omega)) (q := (61, 3)) (by first | rfl | decide) ⟨_, rfl⟩ ?_
  refine wa_aload_n (n := 0) rfl ?_
  refine wb_gfi 158 rfl (wy_pr rfl) wt_158 wf_5_9 (v := gk) (l9) (fun r3 => ?_)
  refine wa_iconst ?_
  refine wa_icmpne (w_rg0 (by omega) (by omega)) (w_rg0 (by omega) (by omega)) ⟨_, rfl⟩ (fun c4 => ?_) (fun c4 => ?_)
  · skip
    refine wa_aload_n (n := 0) rfl ?_
    refine wb_gfi 158 rfl (wy_pr rfl) wt_158 wf_5_7 (v := kd) (l7) (fun r5 => ?_)
    refine wa_iconst ?_
    refine wa_icmpeq (w_rg0 (by omega) (by omega)) (w_rg0 (by omega) (by omega)) ⟨_, rfl⟩ (fun c6 => ?_) (fun c6 => ?_)
    · skip
      exact absurd c6 (by omega)
    · skip
      refine wa_aload_n (n := 0) rfl ?_
      refine wb_gfi 158 rfl (wy_pr rfl) wt_158 wf_5_7 (v := kd) (l7) (fun r7 => ?_)
      refine wa_iconst ?_
      refine wa_icmpne (w_rg0 (by omega) (by omega)) (w_rg0 (by omega) (by omega)) ⟨_, rfl⟩ (fun c8 => ?_) (fun c8 => ?_)
      · skip
        refine wa_aload_n (n := 0) rfl ?_
        refine wa_aload_n (n := 0) rfl ?_
        refine wb_gfl 158 rfl (wy_pr rfl) wt_158 wf_5_10 (v := gb) (l10) (fun r9 => ?_)
        refine wb_l2i_r (wb_l2i_id ⟨(by omega), (by omega)⟩) ?_
        refine wa_cv 158 rfl (wy_pr rfl) wt_158 (M2 := mS [217, 218]) rfl at_XL_actOnList ⟨_, rfl⟩ rfl rfl ⟨trivial, (Or.inr ⟨wy_pr rfl, mS_no rfl⟩), trivial, trivial⟩ trivial (fun _ _ q => q) ?_ (fun _ _ _ q => q)
        refine wa_aload_n (n := 0) rfl ?_
        refine wb_gf4 158 rfl (wy_pr rfl) wt_158 wf_5_0 (v := 72) wl_158_0 ?_
        refine wb_gf4 72 rfl (wy_pr rfl) wt_72 wf_2_2 (v := 126) wl_72_2 ?_
        refine wa_bipush (w_rg2 (by omega) (by omega)) ?_
        refine wb_aald5 126 7 rfl rfl (wy_pr rfl) wt_126 (by rw [show _ = _ from ((cl_126 hC))]; omega) wl_126_7 ?_
        refine wa_iload_n (n := 1) rfl ?_
        refine wb_iald 134 rfl (wy_pr rfl) wt_134 (n := (S 127 (-1))) ((hth 7 (by decide))) (by omega) (by omega) (v := sz) (hsz) (fun r10 => ?_)
        refine wa_istore_n (n := 2) rfl ?_
        refine wa_aload_n (n := 0) rfl ?_
        refine wb_gfi 158 rfl (wy_pr rfl) wt_158 wf_5_7 (v := kd) (l7) (fun r11 => ?_)
        refine wa_ifne (w_rg0 (by omega) (by omega)) ⟨_, rfl⟩ (fun c12 => ?_) (fun c12 => ?_)
        · skip
          exact absurd c12 (by omega)
        · skip
          refine wa_aload_n (n := 0) rfl ?_
          refine wa_iconst ?_
          refine wa_iload_n (n := 2) rfl ?_
          refine wa_i2l (w_rg0 (by omega) (by omega)) ?_
          refine wa_cv 158 rfl (wy_pr rfl) wt_158 (M2 := mS [217, 218]) rfl at_XL_giveValue ⟨_, rfl⟩ rfl rfl ⟨trivial, (Or.inr ⟨wy_pr rfl, mS_no rfl⟩), trivial, trivial⟩ trivial (fun _ _ q => mS_sub (by decide) q) (glx_215 (S := S) (k := 2) (v := sz) (h := h) (c := c) (p := p) (ba := ba) hC hI (l4) (l5) (l8) (bc) (bp) (((bl1)).trans ((rfl)).symm) (by have e : S 217 (-1) = S 217 (-1) := (rfl); rw [e]; exact ⟨bl2, bl3⟩) (by have e : S 217 (-1) = S 217 (-1) := (rfl); omega) ⟨by omega, by omega⟩ ⟨by omega, by omega⟩ ⟨by omega, by omega⟩ ⟨by omega, by omega⟩) (fun oq13 Sq13 hp14 q13 => ?_)
          rcases q13 with ⟨rfl, hgv13⟩
          show wJ _ _ _ _ _ _ _ _ _ _
          refine wa_goto ⟨_, rfl⟩ ?_
          refine wa_return rfl ?_
          show wJ _ _ _ _ _ _ _ _ _ _
          refine wa_goto ⟨_, rfl⟩ ?_
          refine wa_return rfl ?_
          exact ⟨rfl, hgv13⟩
      · skip
        exact absurd c8 (by omega)
  · skip
    exact absurd c4 (by omega)
set_option maxHeartbeats 4000000 in
theorem xlpu_215 {c p h kd ba gk gb x ky vy st sz rm cs v0 ec : Int} (hP : xP 215 c p h S) (hl : cSl S) (l4 : S 158 4 = 215) (l5 : S 158 5 = 216) (l7 : S 158 7 = kd) (l8 : S 158 8 = ba) (l9 : S 158 9 = gk) (l10 : S 158 10 = gb) (hx : 0 ≤ x ∧ x < S 48 (-1)) (hba : 0 ≤ ba ∧ ba < h) (hx1 : pe_at (pe_GA xs).xs 1 = some (1, tx_1)) (hth : ∀ x : Nat, x < 10 → S (127 + x) (-1) = S 127 (-1)) (hn2 : S 127 (-1) ≤ 16383) (hl14 : S 142 (-1) = S 141 (-1)) (hz14 : 16 ≤ S 141 (-1) ∧ S 141 (-1) ≤ 480400) (e48 : S 48 x = 3) (hgk : gk = 6) (hgb : 0 ≤ gb ∧ gb < S 127 (-1)) (h2 : S 140 2 = cs) (hcs : 0 ≤ cs ∧ cs ≤ S 141 (-1)) (hst : S 133 gb = st) (hsz : S 134 gb = sz) (hrm : S 135 gb = rm) (hs1 : 0 ≤ st ∧ 0 ≤ sz ∧ sz ≤ rm ∧ st + rm ≤ cs) (hv0 : S 150 1 = v0) (hv1 : 0 ≤ v0 ∧ v0 ≤ 60000) (hszb : sz ≤ 60000) (l12 : S 158 12 = ec) (hky : S 217 (h - 1) = ky) (hvy : S 218 (h - 1) = vy) (hkr : -128 ≤ ky ∧ ky ≤ 127) (hvr : -9223372036854775808 ≤ vy ∧ vy ≤ 9223372036854775807) (hkd : kd = 5) (hec : ec = 1) : wJ (pe_GA xs) wY0 (mS [217, 218, 141, 142]) (d + 8) t_XL_act ((pe_at t_XL_act.bl 0).getD (0, [])).2 [(0, (2, 158)), (1, (0, x))] [] S (fun o Z => o = .inl none ∧ ((60000 ≤ v0 ∧ w_up S 215 16 99 = Z) ∨ (v0 < 60000 ∧ ∃ A : wS, avH_ag gb ky vy S A ∧ sO 215 h c p (h - ba) 2 (sz + 1) A Z))) := by
  obtain ⟨⟨hC, hI⟩, ⟨bc, bc0, bc1⟩, ⟨bp, bp0, bp1⟩, ⟨bh, bh0, bh1, bh2⟩, bl1, bl2, bl3⟩ := hP
  replace bp : S 220 (c - 1) = p := bp
  replace bh : S 216 2 = h := bh
  replace bh2 : h ≤ S 217 (-1) := bh2
  replace bl1 : S 218 (-1) = S 217 (-1) := bl1
  replace bl2 : 64 ≤ S 217 (-1) := bl2
  replace bl3 : S 217 (-1) ≤ 4095 := bl3
  have h35 := hl.2.1
  have h48 := hl.2.2.2
  refine wa_aload_n (n := 0) rfl ?_
  refine wb_gf4 158 rfl (wy_pr rfl) wt_158 wf_5_3 (v := 47) wl_158_3 ?_
  refine wa_iconst ?_
  refine wb_aald5 47 3 rfl rfl (wy_pr rfl) wt_47 (by rw [show _ = _ from ((cl_47 hC))]; omega) wl_47_3 ?_
  refine wa_iload_n (n := 1) rfl ?_
  refine wb_iald 51 rfl (wy_pr rfl) wt_51 (n := (S 48 (-1))) ((hl.2.2.1 3 (by decide))) (by omega) (by omega) (v := (S 51 x)) rfl (fun r1 => ?_)
  refine wa_istore_n (n := 2) rfl ?_
  refine wa_aload_n (n := 0) rfl ?_
  refine wb_gf4 158 rfl (wy_pr rfl) wt_158 wf_5_3 (v := 47) wl_158_3 ?_
  refine wa_iconst ?_
  refine wb_aald5 47 0 rfl rfl (wy_pr rfl) wt_47 (by rw [show _ = _ from ((cl_47 hC))]; omega) wl_47_0 ?_
  refine wa_iload_n (n := 1) rfl ?_
  refine wb_iald 48 rfl (wy_pr rfl) wt_48 (n := (S 48 (-1))) (rfl) (by omega) (by omega) (v := 3) (e48) (fun r2 => ?_)
  refine wa_lw (tb := 0) (w_rg0 (by omega) (by omega)) (q := (61, 3)) (by first | rfl | decide) ⟨_, rfl⟩ ?_
  refine wa_aload_n (n := 0) rfl ?_
  refine wb_gfi 158 rfl (wy_pr rfl) wt_158 wf_5_9 (v := gk) (l9) (fun r3 => ?_)
  refine wa_iconst ?_
  refine wa_icmpne (w_rg0 (by omega) (by omega)) (w_rg0 (by omega) (by omega)) ⟨_, rfl⟩ (fun c4 => ?_) (fun c4 => ?_)
  · skip
    refine wa_aload_n (n := 0) rfl ?_
    refine wb_gfi 158 rfl (wy_pr rfl) wt_158 wf_5_7 (v := kd) (l7) (fun r5 => ?_)
    refine wa_iconst ?_
    refine wa_icmpeq (w_rg0 (by omega) (by omega)) (w_rg0 (by omega) (by omega)) ⟨_, rfl⟩ (fun c6 => ?_) (fun c6 => ?_)
    · skip
      exact absurd c6 (by omega)
    · skip
      refine wa_aload_n (n := 0) rfl ?_
      refine wb_gfi 158 rfl (wy_pr rfl) wt_158 wf_5_7 (v := kd) (l7) (fun r7 => ?_)
      refine wa_iconst ?_
      refine wa_icmpne (w_rg0 (by omega) (by omega)) (w_rg0 (by omega) (by omega)) ⟨_, rfl⟩ (fun c8 => ?_) (fun c8 => ?_)
      · skip
        refine wa_aload_n (n := 0) rfl ?_
        refine wa_aload_n (n := 0) rfl ?_
        refine wb_gfl 158 rfl (wy_pr rfl) wt_158 wf_5_10 (v := gb) (l10) (fun r9 => ?_)
        refine wb_l2i_r (wb_l2i_id ⟨(by omega), (by omega)⟩) ?_
        refine wa_cv 158 rfl (wy_pr rfl) wt_158 (M2 := mS [217, 218, 141, 142]) rfl at_XL_actOnList ⟨_, rfl⟩ rfl rfl ⟨trivial, (Or.inr ⟨wy_pr rfl, mS_no rfl⟩), trivial, trivial⟩ trivial (fun _ _ q => q) ?_ (fun _ _ _ q => q)
        refine wa_aload_n (n := 0) rfl ?_
        refine wb_gf4 158 rfl (wy_pr rfl) wt_158 wf_5_0 (v := 72) wl_158_0 ?_
        refine wb_gf4 72 rfl (wy_pr rfl) wt_72 wf_2_2 (v := 126) wl_72_2 ?_
        refine wa_bipush (w_rg2 (by omega) (by omega)) ?_
        refine wb_aald5 126 7 rfl rfl (wy_pr rfl) wt_126 (by rw [show _ = _ from ((cl_126 hC))]; omega) wl_126_7 ?_
        refine wa_iload_n (n := 1) rfl ?_
        refine wb_iald 134 rfl (wy_pr rfl) wt_134 (n := (S 127 (-1))) ((hth 7 (by decide))) (by omega) (by omega) (v := sz) (hsz) (fun r10 => ?_)
        refine wa_istore_n (n := 2) rfl ?_
        refine wa_aload_n (n := 0) rfl ?_
        refine wb_gfi 158 rfl (wy_pr rfl) wt_158 wf_5_7 (v := kd) (l7) (fun r11 => ?_)
        refine wa_ifne (w_rg0 (by omega) (by omega)) ⟨_, rfl⟩ (fun c12 => ?_) (fun c12 => ?_)
        · skip
          refine wa_aload_n (n := 0) rfl ?_
          refine wb_gfi 158 rfl (wy_pr rfl) wt_158 wf_5_12 (v := ec) (l12) (fun r13 => ?_)
          refine wa_iconst ?_
          refine wa_icmpne (w_rg0 (by omega) (by omega)) (w_rg0 (by omega) (by omega)) ⟨_, rfl⟩ (fun c14 => ?_) (fun c14 => ?_)
          · skip
            exact absurd c14 (by omega)
          · skip
            refine wa_aload_n (n := 0) rfl ?_
            refine wa_iload_n (n := 1) rfl ?_
            refine wa_cv 158 rfl (wy_pr rfl) wt_158 (M2 := mS [217, 218, 141, 142]) rfl at_XL_addElement ⟨_, rfl⟩ rfl rfl ⟨trivial, (Or.inr ⟨wy_pr rfl, mS_no rfl⟩), trivial, trivial⟩ trivial (fun _ _ q => q) ?_ (fun _ _ _ q => q)
            refine wa_aload_n (n := 0) rfl ?_
            refine wb_gf5 158 rfl (wy_pr rfl) wt_158 wf_5_5 (v := 216) (l5) (fun r15 => ?_)
            refine wb_gfi 216 rfl (wy_pr rfl) wt_216 wf_7_2 (v := h) (bh) (fun r16 => ?_)
            refine wa_iconst ?_
            refine wa_isub ?_
            refine wa_istore_n (n := 2) rfl ?_
            refine wa_aload_n (n := 0) rfl ?_
            refine wb_gf4 158 rfl (wy_pr rfl) wt_158 wf_5_0 (v := 72) wl_158_0 ?_
            refine wa_iconst ?_
            refine wa_iconst ?_
            refine wa_cv 72 rfl (wy_pr rfl) wt_72 (M2 := mS [217, 218, 141, 142]) rfl at_XH_hasRoom ⟨_, rfl⟩ rfl rfl ⟨trivial, (Or.inr ⟨wy_pr rfl, mS_no rfl⟩), trivial, trivial⟩ trivial (fun _ _ q => q) ?_ (fun _ _ _ q => q)
            refine wa_aload_n (n := 0) rfl ?_
            refine wb_gf4 72 rfl (wy_pr rfl) wt_72 wf_2_10 (v := 150) wl_72_10 ?_
            refine wa_iload_n (n := 1) rfl ?_
            refine wb_iald 150 rfl (wy_pr rfl) wt_150 (n := 6) ((cl_150 hC)) (by omega) (by omega) (v := v0) (hv0) (fun r17 => ?_)
            refine wa_iload_n (n := 2) rfl ?_
            refine wa_iadd ?_
            refine wa_gs ?_
            refine wa_iload_n (n := 1) rfl ?_
            refine wb_xald 1 rfl hx1 (by decide) (by omega) (by decide) (v := 60000) (by decide) (fun r18 => ?_)
            refine wa_icmpgt (w_rg0 (by omega) (by omega)) (w_rg0 (by omega) (by omega)) ⟨_, rfl⟩ (fun c19 => ?_) (fun c19 => ?_)
            · skip
              refine wa_iconst ?_
              refine wa_fall ⟨_, rfl⟩ ?_
              refine wa_zreturn rfl (Or.inl rfl) ?_
              show wJ _ _ _ _ _ _ _ _ _ _
              refine wa_ifne (w_rg0 (by omega) (by omega)) ⟨_, rfl⟩ (fun c20 => ?_) (fun c20 => ?_)
              · skip
                exact absurd c20 (by omega)
              · skip
                refine wa_aload_n (n := 0) rfl ?_
                refine wb_gf5 158 rfl (wy_pr rfl) wt_158 wf_5_4 (v := 215) (l4) (fun r21 => ?_)
                refine wa_bipush (w_rg2 (by omega) (by omega)) ?_
                refine wb_pfi 215 rfl (wy_pr rfl) wt_215 wf_8_16 (n := 16) rfl ⟨(by omega), (by omega)⟩ ?_
                refine wa_iconst ?_
                refine wa_zreturn rfl (Or.inl rfl) ?_
                show wJ _ _ _ _ _ _ _ _ _ _
                refine wa_ifeq (w_rg0 (by omega) (by omega)) ⟨_, rfl⟩ (fun c22 => ?_) (fun c22 => ?_)
                · skip
                  refine wa_return rfl ?_
                  show wJ _ _ _ _ _ _ _ _ _ _
                  refine wa_goto ⟨_, rfl⟩ ?_
                  refine wa_return rfl ?_
                  exact ⟨rfl, Or.inl ⟨by omega, rfl⟩⟩
                · skip
                  exact absurd c22 (by omega)
            · skip
              refine wa_iconst ?_
              refine wa_goto ⟨_, rfl⟩ ?_
              refine wa_zreturn rfl (Or.inr rfl) ?_
              show wJ _ _ _ _ _ _ _ _ _ _
              refine wa_ifne (w_rg0 (by omega) (by omega)) ⟨_, rfl⟩ (fun c23 => ?_) (fun c23 => ?_)
              · skip
                refine wa_aload_n (n := 0) rfl ?_
                refine wb_gf4 158 rfl (wy_pr rfl) wt_158 wf_5_0 (v := 72) wl_158_0 ?_
                refine wa_iload_n (n := 1) rfl ?_
                refine wa_aload_n (n := 0) rfl ?_
                refine wb_gf5 158 rfl (wy_pr rfl) wt_158 wf_5_5 (v := 216) (l5) (fun r24 => ?_)
                refine wb_gf4 216 rfl (wy_pr rfl) wt_216 wf_7_0 (v := 217) wl_216_0 ?_
                refine wa_iload_n (n := 2) rfl ?_
                refine wb_bald 217 rfl (wy_pr rfl) wt_217 (n := (S 217 (-1))) (rfl) (by omega) (by omega) (v := ky) (hky) (fun r25 => ?_)
                refine wa_aload_n (n := 0) rfl ?_
                refine wb_gf5 158 rfl (wy_pr rfl) wt_158 wf_5_5 (v := 216) (l5) (fun r26 => ?_)
                refine wb_gf4 216 rfl (wy_pr rfl) wt_216 wf_7_1 (v := 218) wl_216_1 ?_
                refine wa_iload_n (n := 2) rfl ?_
                refine wb_lald 218 rfl (wy_pr rfl) wt_218 (n := (S 217 (-1))) (bl1) (by omega) (by omega) (v := vy) (hvy) (fun r27 => ?_)
                refine wa_cv 72 rfl (wy_pr rfl) wt_72 (M2 := mS [141, 142]) rfl at_XH_addValue ⟨_, rfl⟩ rfl rfl ⟨trivial, (Or.inr ⟨wy_pr rfl, mS_no rfl⟩), trivial, trivial⟩ trivial (fun _ _ q => mS_sub (by decide) q) (avH_ok (S := S) (k := gb) (kd := ky) (bt := vy) (st := st) (sz := sz) (rm := rm) (cs := cs) (v0 := v0) hC hI h2 hcs hl14 hz14 hth hgb hn2 hst hsz hrm hs1 hv0 hv1 (by omega) hkr hvr) (fun oq28 Sq28 hp29 q28 => ?_)
                rcases q28 with ⟨rfl, hav⟩
                show wJ _ _ _ _ _ _ _ _ _ _
                refine wa_iconst ?_
                refine wa_zreturn rfl (Or.inr rfl) ?_
                show wJ _ _ _ _ _ _ _ _ _ _
                refine wa_ifeq (w_rg0 (by omega) (by omega)) ⟨_, rfl⟩ (fun c30 => ?_) (fun c30 => ?_)
                · skip
                  exact absurd c30 (by omega)
                · skip
                  refine wa_aload_n (n := 0) rfl ?_
                  refine wa_iconst ?_
                  refine wa_iload_n (n := 2) rfl ?_
                  refine wa_iconst ?_
                  refine wa_iadd ?_
                  refine wa_i2l (w_rg0 (by omega) (by omega)) ?_
                  refine wa_cv 158 rfl (wy_pr rfl) wt_158 (M2 := mS [217, 218]) rfl at_XL_giveValue ⟨_, rfl⟩ rfl rfl ⟨trivial, (Or.inr ⟨wy_pr rfl, mS_no rfl⟩), trivial, trivial⟩ trivial (fun _ _ q => mS_sub (by decide) q) (glx_215 (S := Sq28) (k := 2) (v := (sz + 1)) (h := h) (c := c) (p := p) (ba := ba) (avH_cl hC hav hgb.1) hav.2.2.2.2.2.2.2.1 (((hav.2.2.2.2.2.2.1 158 4 (by decide) (by decide) (by decide) (by decide) (Or.inl (by decide)) (by omega) (by omega)).trans (l4))) (((hav.2.2.2.2.2.2.1 158 5 (by decide) (by decide) (by decide) (by decide) (Or.inl (by decide)) (by omega) (by omega)).trans (l5))) (((hav.2.2.2.2.2.2.1 158 8 (by decide) (by decide) (by decide) (by decide) (Or.inl (by decide)) (by omega) (by omega)).trans (l8))) (((hav.2.2.2.2.2.2.1 215 4 (by decide) (by decide) (by decide) (by decide) (Or.inl (by decide)) (by omega) (by omega)).trans (bc))) (((hav.2.2.2.2.2.2.1 220 (c - 1) (by decide) (by decide) (by decide) (by decide) (Or.inl (by decide)) (by omega) (by omega)).trans (bp))) (((((hav.2.2.2.2.2.2.1 218 (-1) (by decide) (by decide) (by decide) (by decide) (Or.inl (by decide)) (by omega) (by omega)).trans (bl1)))).trans ((((hav.2.2.2.2.2.2.1 217 (-1) (by decide) (by decide) (by decide) (by decide) (Or.inl (by decide)) (by omega) (by omega)).trans (rfl)))).symm) (by have e : Sq28 217 (-1) = S 217 (-1) := (((hav.2.2.2.2.2.2.1 217 (-1) (by decide) (by decide) (by decide) (by decide) (Or.inl (by decide)) (by omega) (by omega)).trans (rfl))); rw [e]; exact ⟨bl2, bl3⟩) (by have e : Sq28 217 (-1) = S 217 (-1) := (((hav.2.2.2.2.2.2.1 217 (-1) (by decide) (by decide) (by decide) (by decide) (Or.inl (by decide)) (by omega) (by omega)).trans (rfl))); omega) ⟨by omega, by omega⟩ ⟨by omega, by omega⟩ ⟨by omega, by omega⟩ ⟨by omega, by omega⟩) (fun oq31 Sq31 hp32 q31 => ?_)
                  rcases q31 with ⟨rfl, hgv31⟩
                  show wJ _ _ _ _ _ _ _ _ _ _
                  refine wa_goto ⟨_, rfl⟩ ?_
                  refine wa_return rfl ?_
                  show wJ _ _ _ _ _ _ _ _ _ _
                  refine wa_goto ⟨_, rfl⟩ ?_
                  refine wa_return rfl ?_
                  exact ⟨rfl, Or.inr ⟨by omega, Sq28, hav, hgv31⟩⟩
              · skip
                exact absurd c23 (by omega)
        · skip
          exact absurd c12 (by omega)
      · skip
        exact absurd c8 (by omega)
  · skip
    exact absurd c4 (by omega)
set_option maxHeartbeats 4000000 in
theorem xlpn_215 {c p h kd ba gk gb x ky vy st sz rm cs v0 ec : Int} (hP : xP 215 c p h S) (hl : cSl S) (l4 : S 158 4 = 215) (l5 : S 158 5 = 216) (l7 : S 158 7 = kd) (l8 : S 158 8 = ba) (l9 : S 158 9 = gk) (l10 : S 158 10 = gb) (hx : 0 ≤ x ∧ x < S 48 (-1)) (hba : 0 ≤ ba ∧ ba < h) (hx1 : pe_at (pe_GA xs).xs 1 = some (1, tx_1)) (hth : ∀ x : Nat, x < 10 → S (127 + x) (-1) = S 127 (-1)) (hn2 : S 127 (-1) ≤ 16383) (hl14 : S 142 (-1) = S 141 (-1)) (hz14 : 16 ≤ S 141 (-1) ∧ S 141 (-1) ≤ 480400) (e48 : S 48 x = 3) (hgk : gk = 6) (hgb : 0 ≤ gb ∧ gb < S 127 (-1)) (h2 : S 140 2 = cs) (hcs : 0 ≤ cs ∧ cs ≤ S 141 (-1)) (hst : S 133 gb = st) (hsz : S 134 gb = sz) (hrm : S 135 gb = rm) (hs1 : 0 ≤ st ∧ 0 ≤ sz ∧ sz ≤ rm ∧ st + rm ≤ cs) (hv0 : S 150 1 = v0) (hv1 : 0 ≤ v0 ∧ v0 ≤ 60000) (hszb : sz ≤ 60000) (l12 : S 158 12 = ec) (hkd : kd = 5) (hec : ec = 0) (hz0 : sz = 0) : wJ (pe_GA xs) wY0 (mS [217, 218]) (d + 8) t_XL_act ((pe_at t_XL_act.bl 0).getD (0, [])).2 [(0, (2, 158)), (1, (0, x))] [] S (fun o Z => o = .inl none ∧ sO 215 h c p (h - ba) 0 0 S Z) := by
  obtain ⟨⟨hC, hI⟩, ⟨bc, bc0, bc1⟩, ⟨bp, bp0, bp1⟩, ⟨bh, bh0, bh1, bh2⟩, bl1, bl2, bl3⟩ := hP
  replace bp : S 220 (c - 1) = p := bp
  replace bh : S 216 2 = h := bh
  replace bh2 : h ≤ S 217 (-1) := bh2
  replace bl1 : S 218 (-1) = S 217 (-1) := bl1
  replace bl2 : 64 ≤ S 217 (-1) := bl2
  replace bl3 : S 217 (-1) ≤ 4095 := bl3
  have h35 := hl.2.1
  have h48 := hl.2.2.2
  refine wa_aload_n (n := 0) rfl ?_
  refine wb_gf4 158 rfl (wy_pr rfl) wt_158 wf_5_3 (v := 47) wl_158_3 ?_
  refine wa_iconst ?_
  refine wb_aald5 47 3 rfl rfl (wy_pr rfl) wt_47 (by rw [show _ = _ from ((cl_47 hC))]; omega) wl_47_3 ?_
  refine wa_iload_n (n := 1) rfl ?_
  refine wb_iald 51 rfl (wy_pr rfl) wt_51 (n := (S 48 (-1))) ((hl.2.2.1 3 (by decide))) (by omega) (by omega) (v := (S 51 x)) rfl (fun r1 => ?_)
  refine wa_istore_n (n := 2) rfl ?_
  refine wa_aload_n (n := 0) rfl ?_
  refine wb_gf4 158 rfl (wy_pr rfl) wt_158 wf_5_3 (v := 47) wl_158_3 ?_
  refine wa_iconst ?_
  refine wb_aald5 47 0 rfl rfl (wy_pr rfl) wt_47 (by rw [show _ = _ from ((cl_47 hC))]; omega) wl_47_0 ?_
  refine wa_iload_n (n := 1) rfl ?_
  refine wb_iald 48 rfl (wy_pr rfl) wt_48 (n := (S 48 (-1))) (rfl) (by omega) (by omega) (v := 3) (e48) (fun r2 => ?_)
  refine wa_lw (tb := 0) (w_rg0 (by omega) (by omega)) (q := (61, 3)) (by first | rfl | decide) ⟨_, rfl⟩ ?_
  refine wa_aload_n (n := 0) rfl ?_
  refine wb_gfi 158 rfl (wy_pr rfl) wt_158 wf_5_9 (v := gk) (l9) (fun r3 => ?_)
  refine wa_iconst ?_
  refine wa_icmpne (w_rg0 (by omega) (by omega)) (w_rg0 (by omega) (by omega)) ⟨_, rfl⟩ (fun c4 => ?_) (fun c4 => ?_)
  · skip
    refine wa_aload_n (n := 0) rfl ?_
    refine wb_gfi 158 rfl (wy_pr rfl) wt_158 wf_5_7 (v := kd) (l7) (fun r5 => ?_)
    refine wa_iconst ?_
    refine wa_icmpeq (w_rg0 (by omega) (by omega)) (w_rg0 (by omega) (by omega)) ⟨_, rfl⟩ (fun c6 => ?_) (fun c6 => ?_)
    · skip
      exact absurd c6 (by omega)
    · skip
      refine wa_aload_n (n := 0) rfl ?_
      refine wb_gfi 158 rfl (wy_pr rfl) wt_158 wf_5_7 (v := kd) (l7) (fun r7 => ?_)
      refine wa_iconst ?_
      refine wa_icmpne (w_rg0 (by omega) (by omega)) (w_rg0 (by omega) (by omega)) ⟨_, rfl⟩ (fun c8 => ?_) (fun c8 => ?_)
      · skip
        refine wa_aload_n (n := 0) rfl ?_
        refine wa_aload_n (n := 0) rfl ?_
        refine wb_gfl 158 rfl (wy_pr rfl) wt_158 wf_5_10 (v := gb) (l10) (fun r9 => ?_)
        refine wb_l2i_r (wb_l2i_id ⟨(by omega), (by omega)⟩) ?_
        refine wa_cv 158 rfl (wy_pr rfl) wt_158 (M2 := mS [217, 218]) rfl at_XL_actOnList ⟨_, rfl⟩ rfl rfl ⟨trivial, (Or.inr ⟨wy_pr rfl, mS_no rfl⟩), trivial, trivial⟩ trivial (fun _ _ q => q) ?_ (fun _ _ _ q => q)
        refine wa_aload_n (n := 0) rfl ?_
        refine wb_gf4 158 rfl (wy_pr rfl) wt_158 wf_5_0 (v := 72) wl_158_0 ?_
        refine wb_gf4 72 rfl (wy_pr rfl) wt_72 wf_2_2 (v := 126) wl_72_2 ?_
        refine wa_bipush (w_rg2 (by omega) (by omega)) ?_
        refine wb_aald5 126 7 rfl rfl (wy_pr rfl) wt_126 (by rw [show _ = _ from ((cl_126 hC))]; omega) wl_126_7 ?_
        refine wa_iload_n (n := 1) rfl ?_
        refine wb_iald 134 rfl (wy_pr rfl) wt_134 (n := (S 127 (-1))) ((hth 7 (by decide))) (by omega) (by omega) (v := sz) (hsz) (fun r10 => ?_)
        refine wa_istore_n (n := 2) rfl ?_
        refine wa_aload_n (n := 0) rfl ?_
        refine wb_gfi 158 rfl (wy_pr rfl) wt_158 wf_5_7 (v := kd) (l7) (fun r11 => ?_)
        refine wa_ifne (w_rg0 (by omega) (by omega)) ⟨_, rfl⟩ (fun c12 => ?_) (fun c12 => ?_)
        · skip
          refine wa_aload_n (n := 0) rfl ?_
          refine wb_gfi 158 rfl (wy_pr rfl) wt_158 wf_5_12 (v := ec) (l12) (fun r13 => ?_)
          refine wa_iconst ?_
          refine wa_icmpne (w_rg0 (by omega) (by omega)) (w_rg0 (by omega) (by omega)) ⟨_, rfl⟩ (fun c14 => ?_) (fun c14 => ?_)
          · skip
            refine wa_iload_n (n := 2) rfl ?_
            refine wa_ifne (w_rg0 (by omega) (by omega)) ⟨_, rfl⟩ (fun c15 => ?_) (fun c15 => ?_)
            · skip
              exact absurd c15 (by omega)
            · skip
              refine wa_aload_n (n := 0) rfl ?_
              refine wa_iconst ?_
              refine wb_lconst (m := 0) rfl ?_
              refine wa_cv 158 rfl (wy_pr rfl) wt_158 (M2 := mS [217, 218]) rfl at_XL_giveValue ⟨_, rfl⟩ rfl rfl ⟨trivial, (Or.inr ⟨wy_pr rfl, mS_no rfl⟩), trivial, trivial⟩ trivial (fun _ _ q => mS_sub (by decide) q) (glx_215 (S := S) (k := 0) (v := 0) (h := h) (c := c) (p := p) (ba := ba) hC hI (l4) (l5) (l8) (bc) (bp) (((bl1)).trans ((rfl)).symm) (by have e : S 217 (-1) = S 217 (-1) := (rfl); rw [e]; exact ⟨bl2, bl3⟩) (by have e : S 217 (-1) = S 217 (-1) := (rfl); omega) ⟨by omega, by omega⟩ ⟨by omega, by omega⟩ ⟨by omega, by omega⟩ ⟨by omega, by omega⟩) (fun oq16 Sq16 hp17 q16 => ?_)
              rcases q16 with ⟨rfl, hgv16⟩
              show wJ _ _ _ _ _ _ _ _ _ _
              refine wa_goto ⟨_, rfl⟩ ?_
              refine wa_return rfl ?_
              show wJ _ _ _ _ _ _ _ _ _ _
              refine wa_goto ⟨_, rfl⟩ ?_
              refine wa_return rfl ?_
              exact ⟨rfl, hgv16⟩
          · skip
            exact absurd c14 (by omega)
        · skip
          exact absurd c12 (by omega)
      · skip
        exact absurd c8 (by omega)
  · skip
    exact absurd c4 (by omega)
set_option maxHeartbeats 4000000 in
theorem xlpo_215 {c p h kd ba gk gb x ky vy st sz rm cs v0 ec lk lv : Int} (hP : xP 215 c p h S) (hl : cSl S) (l4 : S 158 4 = 215) (l5 : S 158 5 = 216) (l7 : S 158 7 = kd) (l8 : S 158 8 = ba) (l9 : S 158 9 = gk) (l10 : S 158 10 = gb) (hx : 0 ≤ x ∧ x < S 48 (-1)) (hba : 0 ≤ ba ∧ ba < h) (hx1 : pe_at (pe_GA xs).xs 1 = some (1, tx_1)) (hth : ∀ x : Nat, x < 10 → S (127 + x) (-1) = S 127 (-1)) (hn2 : S 127 (-1) ≤ 16383) (hl14 : S 142 (-1) = S 141 (-1)) (hz14 : 16 ≤ S 141 (-1) ∧ S 141 (-1) ≤ 480400) (e48 : S 48 x = 3) (hgk : gk = 6) (hgb : 0 ≤ gb ∧ gb < S 127 (-1)) (h2 : S 140 2 = cs) (hcs : 0 ≤ cs ∧ cs ≤ S 141 (-1)) (hst : S 133 gb = st) (hsz : S 134 gb = sz) (hrm : S 135 gb = rm) (hs1 : 0 ≤ st ∧ 0 ≤ sz ∧ sz ≤ rm ∧ st + rm ≤ cs) (hv0 : S 150 1 = v0) (hv1 : 0 ≤ v0 ∧ v0 ≤ 60000) (hszb : sz ≤ 60000) (l12 : S 158 12 = ec) (hlk : S 141 (st + sz - 1) = lk) (hlv : S 142 (st + sz - 1) = lv) (hlr : -128 ≤ lk ∧ lk ≤ 127) (hlw : -9223372036854775808 ≤ lv ∧ lv ≤ 9223372036854775807) (hkd : kd = 5) (hec : ec = 0) (hz0 : 0 < sz) : wJ (pe_GA xs) wY0 (mS [217, 218]) (d + 8) t_XL_act ((pe_at t_XL_act.bl 0).getD (0, [])).2 [(0, (2, 158)), (1, (0, x))] [] S (fun o Z => o = .inl none ∧ sO 215 h c p (h - ba) lk lv (w_up S 134 gb (sz - 1)) Z) := by
  obtain ⟨⟨hC, hI⟩, ⟨bc, bc0, bc1⟩, ⟨bp, bp0, bp1⟩, ⟨bh, bh0, bh1, bh2⟩, bl1, bl2, bl3⟩ := hP
  replace bp : S 220 (c - 1) = p := bp
  replace bh : S 216 2 = h := bh
  replace bh2 : h ≤ S 217 (-1) := bh2
  replace bl1 : S 218 (-1) = S 217 (-1) := bl1
  replace bl2 : 64 ≤ S 217 (-1) := bl2
  replace bl3 : S 217 (-1) ≤ 4095 := bl3
  have h35 := hl.2.1
  have h48 := hl.2.2.2
  refine wa_aload_n (n := 0) rfl ?_
  refine wb_gf4 158 rfl (wy_pr rfl) wt_158 wf_5_3 (v := 47) wl_158_3 ?_
  refine wa_iconst ?_
  refine wb_aald5 47 3 rfl rfl (wy_pr rfl) wt_47 (by rw [show _ = _ from ((cl_47 hC))]; omega) wl_47_3 ?_
  refine wa_iload_n (n := 1) rfl ?_
  refine wb_iald 51 rfl (wy_pr rfl) wt_51 (n := (S 48 (-1))) ((hl.2.2.1 3 (by decide))) (by omega) (by omega) (v := (S 51 x)) rfl (fun r1 => ?_)
  refine wa_istore_n (n := 2) rfl ?_
  refine wa_aload_n (n := 0) rfl ?_
  refine wb_gf4 158 rfl (wy_pr rfl) wt_158 wf_5_3 (v := 47) wl_158_3 ?_
  refine wa_iconst ?_
  refine wb_aald5 47 0 rfl rfl (wy_pr rfl) wt_47 (by rw [show _ = _ from ((cl_47 hC))]; omega) wl_47_0 ?_
  refine wa_iload_n (n := 1) rfl ?_
  refine wb_iald 48 rfl (wy_pr rfl) wt_48 (n := (S 48 (-1))) (rfl) (by omega) (by omega) (v := 3) (e48) (fun r2 => ?_)
  refine wa_lw (tb := 0) (w_rg0 (by omega) (by omega)) (q := (61, 3)) (by first | rfl | decide) ⟨_, rfl⟩ ?_
  refine wa_aload_n (n := 0) rfl ?_
  refine wb_gfi 158 rfl (wy_pr rfl) wt_158 wf_5_9 (v := gk) (l9) (fun r3 => ?_)
  refine wa_iconst ?_
  refine wa_icmpne (w_rg0 (by omega) (by omega)) (w_rg0 (by omega) (by omega)) ⟨_, rfl⟩ (fun c4 => ?_) (fun c4 => ?_)
  · skip
    refine wa_aload_n (n := 0) rfl ?_
    refine wb_gfi 158 rfl (wy_pr rfl) wt_158 wf_5_7 (v := kd) (l7) (fun r5 => ?_)
    refine wa_iconst ?_
    refine wa_icmpeq (w_rg0 (by omega) (by omega)) (w_rg0 (by omega) (by omega)) ⟨_, rfl⟩ (fun c6 => ?_) (fun c6 => ?_)
    · skip
      exact absurd c6 (by omega)
    · skip
      refine wa_aload_n (n := 0) rfl ?_
      refine wb_gfi 158 rfl (wy_pr rfl) wt_158 wf_5_7 (v := kd) (l7) (fun r7 => ?_)
      refine wa_iconst ?_
      refine wa_icmpne (w_rg0 (by omega) (by omega)) (w_rg0 (by omega) (by omega)) ⟨_, rfl⟩ (fun c8 => ?_) (fun c8 => ?_)
      · skip
        refine wa_aload_n (n := 0) rfl ?_
        refine wa_aload_n (n := 0) rfl ?_
        refine wb_gfl 158 rfl (wy_pr rfl) wt_158 wf_5_10 (v := gb) (l10) (fun r9 => ?_)
        refine wb_l2i_r (wb_l2i_id ⟨(by omega), (by omega)⟩) ?_
        refine wa_cv 158 rfl (wy_pr rfl) wt_158 (M2 := mS [217, 218]) rfl at_XL_actOnList ⟨_, rfl⟩ rfl rfl ⟨trivial, (Or.inr ⟨wy_pr rfl, mS_no rfl⟩), trivial, trivial⟩ trivial (fun _ _ q => q) ?_ (fun _ _ _ q => q)
        refine wa_aload_n (n := 0) rfl ?_
        refine wb_gf4 158 rfl (wy_pr rfl) wt_158 wf_5_0 (v := 72) wl_158_0 ?_
        refine wb_gf4 72 rfl (wy_pr rfl) wt_72 wf_2_2 (v := 126) wl_72_2 ?_
        refine wa_bipush (w_rg2 (by omega) (by omega)) ?_
        refine wb_aald5 126 7 rfl rfl (wy_pr rfl) wt_126 (by rw [show _ = _ from ((cl_126 hC))]; omega) wl_126_7 ?_
        refine wa_iload_n (n := 1) rfl ?_
        refine wb_iald 134 rfl (wy_pr rfl) wt_134 (n := (S 127 (-1))) ((hth 7 (by decide))) (by omega) (by omega) (v := sz) (hsz) (fun r10 => ?_)
        refine wa_istore_n (n := 2) rfl ?_
        refine wa_aload_n (n := 0) rfl ?_
        refine wb_gfi 158 rfl (wy_pr rfl) wt_158 wf_5_7 (v := kd) (l7) (fun r11 => ?_)
        refine wa_ifne (w_rg0 (by omega) (by omega)) ⟨_, rfl⟩ (fun c12 => ?_) (fun c12 => ?_)
        · skip
          refine wa_aload_n (n := 0) rfl ?_
          refine wb_gfi 158 rfl (wy_pr rfl) wt_158 wf_5_12 (v := ec) (l12) (fun r13 => ?_)
          refine wa_iconst ?_
          refine wa_icmpne (w_rg0 (by omega) (by omega)) (w_rg0 (by omega) (by omega)) ⟨_, rfl⟩ (fun c14 => ?_) (fun c14 => ?_)
          · skip
            refine wa_iload_n (n := 2) rfl ?_
            refine wa_ifne (w_rg0 (by omega) (by omega)) ⟨_, rfl⟩ (fun c15 => ?_) (fun c15 => ?_)
            · skip
              refine wa_aload_n (n := 0) rfl ?_
              refine wb_gf4 158 rfl (wy_pr rfl) wt_158 wf_5_0 (v := 72) wl_158_0 ?_
              refine wb_gf4 72 rfl (wy_pr rfl) wt_72 wf_2_2 (v := 126) wl_72_2 ?_
              refine wa_bipush (w_rg2 (by omega) (by omega)) ?_
              refine wb_aald5 126 6 rfl rfl (wy_pr rfl) wt_126 (by rw [show _ = _ from ((cl_126 hC))]; omega) wl_126_6 ?_
              refine wa_iload_n (n := 1) rfl ?_
              refine wb_iald 133 rfl (wy_pr rfl) wt_133 (n := (S 127 (-1))) ((hth 6 (by decide))) (by omega) (by omega) (v := st) (hst) (fun r16 => ?_)
              refine wa_iload_n (n := 2) rfl ?_
              refine wa_iadd ?_
              refine wa_iconst ?_
              refine wa_isub ?_
              refine wa_istore_n (n := 3) rfl ?_
              refine wa_aload_n (n := 0) rfl ?_
              refine wb_gf4 158 rfl (wy_pr rfl) wt_158 wf_5_0 (v := 72) wl_158_0 ?_
              refine wb_gf4 72 rfl (wy_pr rfl) wt_72 wf_2_2 (v := 126) wl_72_2 ?_
              refine wa_bipush (w_rg2 (by omega) (by omega)) ?_
              refine wb_aald5 126 7 rfl rfl (wy_pr rfl) wt_126 (by rw [show _ = _ from ((cl_126 hC))]; omega) wl_126_7 ?_
              refine wa_iload_n (n := 1) rfl ?_
              refine wa_dup2 (by decide) (by decide) ?_
              refine wb_iald 134 rfl (wy_pr rfl) wt_134 (n := (S 127 (-1))) ((hth 7 (by decide))) (by omega) (by omega) (v := sz) (hsz) (fun r17 => ?_)
              refine wa_iconst ?_
              refine wa_isub ?_
              refine wb_iast 134 rfl (wy_pr rfl) wt_134 (n := (S 127 (-1))) ((hth 7 (by decide))) (by omega) (by omega) ⟨(by omega), (by omega)⟩ ?_
              refine wa_aload_n (n := 0) rfl ?_
              refine wa_aload_n (n := 0) rfl ?_
              refine wb_gf4 158 rfl (wy_pr rfl) wt_158 wf_5_0 (v := 72) wl_158_0 ?_
              refine wb_gf4 72 rfl (wy_pr rfl) wt_72 wf_2_6 (v := 140) wl_72_6 ?_
              refine wb_gf4 140 rfl (wy_pr rfl) wt_140 wf_7_0 (v := 141) wl_140_0 ?_
              refine wa_iload_n (n := 3) rfl ?_
              refine wb_bald 141 rfl (wy_pr rfl) wt_141 (n := (S 141 (-1))) ((w_up_slot (by decide)).trans (rfl)) (by omega) (by omega) (v := lk) ((w_up_slot (by decide)).trans (hlk)) (fun r18 => ?_)
              refine wa_aload_n (n := 0) rfl ?_
              refine wb_gf4 158 rfl (wy_pr rfl) wt_158 wf_5_0 (v := 72) wl_158_0 ?_
              refine wb_gf4 72 rfl (wy_pr rfl) wt_72 wf_2_6 (v := 140) wl_72_6 ?_
              refine wb_gf4 140 rfl (wy_pr rfl) wt_140 wf_7_1 (v := 142) wl_140_1 ?_
              refine wa_iload_n (n := 3) rfl ?_
              refine wb_lald 142 rfl (wy_pr rfl) wt_142 (n := (S 141 (-1))) ((w_up_slot (by decide)).trans (hl14)) (by omega) (by omega) (v := lv) ((w_up_slot (by decide)).trans (hlv)) (fun r19 => ?_)
              refine wa_cv 158 rfl (wy_pr rfl) wt_158 (M2 := mS [217, 218]) rfl at_XL_giveValue ⟨_, rfl⟩ rfl rfl ⟨trivial, trivial, (Or.inr ⟨wy_pr rfl, mS_no rfl⟩), trivial, trivial⟩ trivial (fun _ _ q => mS_sub (by decide) q) (glx_215 (S := (w_up S 134 gb (sz - 1))) (k := lk) (v := lv) (h := h) (c := c) (p := p) (ba := ba) (w_CL_up hC (by omega)) (gI_up hI (by omega) (by omega) (by omega)) ((w_up_slot (by decide)).trans (l4)) ((w_up_slot (by decide)).trans (l5)) ((w_up_slot (by decide)).trans (l8)) ((w_up_slot (by decide)).trans (bc)) ((w_up_slot (by decide)).trans (bp)) ((((w_up_slot (by decide)).trans (bl1))).trans (((w_up_slot (by decide)).trans (rfl))).symm) (by have e : (w_up S 134 gb (sz - 1)) 217 (-1) = S 217 (-1) := ((w_up_slot (by decide)).trans (rfl)); rw [e]; exact ⟨bl2, bl3⟩) (by have e : (w_up S 134 gb (sz - 1)) 217 (-1) = S 217 (-1) := ((w_up_slot (by decide)).trans (rfl)); omega) ⟨by omega, by omega⟩ ⟨by omega, by omega⟩ ⟨by omega, by omega⟩ ⟨by omega, by omega⟩) (fun oq20 Sq20 hp21 q20 => ?_)
              rcases q20 with ⟨rfl, hgv20⟩
              show wJ _ _ _ _ _ _ _ _ _ _
              refine wa_fall ⟨_, rfl⟩ ?_
              refine wa_return rfl ?_
              show wJ _ _ _ _ _ _ _ _ _ _
              refine wa_goto ⟨_, rfl⟩ ?_
              refine wa_return rfl ?_
              exact ⟨rfl, hgv20⟩
            · skip
              exact absurd c15 (by omega)
          · skip
            exact absurd c14 (by omega)
        · skip
          exact absurd c12 (by omega)
      · skip
        exact absurd c8 (by omega)
  · skip
    exact absurd c4 (by omega)
set_option maxHeartbeats 4000000 in
theorem xlge_215 {c p h kd ba gk gb x ky vy st sz rm cs v0 ec k1 v1 lk lv : Int} (hP : xP 215 c p h S) (hl : cSl S) (l4 : S 158 4 = 215) (l5 : S 158 5 = 216) (l7 : S 158 7 = kd) (l8 : S 158 8 = ba) (l9 : S 158 9 = gk) (l10 : S 158 10 = gb) (hx : 0 ≤ x ∧ x < S 48 (-1)) (hba : 0 ≤ ba ∧ ba < h) (hx1 : pe_at (pe_GA xs).xs 1 = some (1, tx_1)) (hth : ∀ x : Nat, x < 10 → S (127 + x) (-1) = S 127 (-1)) (hn2 : S 127 (-1) ≤ 16383) (hl14 : S 142 (-1) = S 141 (-1)) (hz14 : 16 ≤ S 141 (-1) ∧ S 141 (-1) ≤ 480400) (e48 : S 48 x = 3) (hgk : gk = 6) (hgb : 0 ≤ gb ∧ gb < S 127 (-1)) (h2 : S 140 2 = cs) (hcs : 0 ≤ cs ∧ cs ≤ S 141 (-1)) (hst : S 133 gb = st) (hsz : S 134 gb = sz) (hrm : S 135 gb = rm) (hs1 : 0 ≤ st ∧ 0 ≤ sz ∧ sz ≤ rm ∧ st + rm ≤ cs) (hv0 : S 150 1 = v0) (hv1 : 0 ≤ v0 ∧ v0 ≤ 60000) (hszb : sz ≤ 60000) (l12 : S 158 12 = ec) (hk1 : S 217 (ba + 1) = k1) (hv1b : S 218 (ba + 1) = v1) (hb1 : ba + 1 < h) (hel : k1 = 2 → 0 ≤ v1 → v1 < sz → S 141 (st + v1) = lk ∧ S 142 (st + v1) = lv) (hlr : -128 ≤ lk ∧ lk ≤ 127) (hlw : -9223372036854775808 ≤ lv ∧ lv ≤ 9223372036854775807) (hkd : kd = 2) : wJ (pe_GA xs) wY0 (mS [217, 218]) (d + 8) t_XL_act ((pe_at t_XL_act.bl 0).getD (0, [])).2 [(0, (2, 158)), (1, (0, x))] [] S (fun o Z => o = .inl none ∧ ((¬ (k1 = 2 ∧ 0 ≤ v1 ∧ v1 < sz) ∧ w_up S 215 16 6 = Z) ∨ (k1 = 2 ∧ 0 ≤ v1 ∧ v1 < sz ∧ sO 215 h c p (h - ba) lk lv S Z))) := by
  obtain ⟨⟨hC, hI⟩, ⟨bc, bc0, bc1⟩, ⟨bp, bp0, bp1⟩, ⟨bh, bh0, bh1, bh2⟩, bl1, bl2, bl3⟩ := hP
  replace bp : S 220 (c - 1) = p := bp
  replace bh : S 216 2 = h := bh
  replace bh2 : h ≤ S 217 (-1) := bh2
  replace bl1 : S 218 (-1) = S 217 (-1) := bl1
  replace bl2 : 64 ≤ S 217 (-1) := bl2
  replace bl3 : S 217 (-1) ≤ 4095 := bl3
  have h35 := hl.2.1
  have h48 := hl.2.2.2
  refine wa_aload_n (n := 0) rfl ?_
  refine wb_gf4 158 rfl (wy_pr rfl) wt_158 wf_5_3 (v := 47) wl_158_3 ?_
  refine wa_iconst ?_
  refine wb_aald5 47 3 rfl rfl (wy_pr rfl) wt_47 (by rw [show _ = _ from ((cl_47 hC))]; omega) wl_47_3 ?_
  refine wa_iload_n (n := 1) rfl ?_
  refine wb_iald 51 rfl (wy_pr rfl) wt_51 (n := (S 48 (-1))) ((hl.2.2.1 3 (by decide))) (by omega) (by omega) (v := (S 51 x)) rfl (fun r1 => ?_)
  refine wa_istore_n (n := 2) rfl ?_
  refine wa_aload_n (n := 0) rfl ?_
  refine wb_gf4 158 rfl (wy_pr rfl) wt_158 wf_5_3 (v := 47) wl_158_3 ?_
  refine wa_iconst ?_
  refine wb_aald5 47 0 rfl rfl (wy_pr rfl) wt_47 (by rw [show _ = _ from ((cl_47 hC))]; omega) wl_47_0 ?_
  refine wa_iload_n (n := 1) rfl ?_
  refine wb_iald 48 rfl (wy_pr rfl) wt_48 (n := (S 48 (-1))) (rfl) (by omega) (by omega) (v := 3) (e48) (fun r2 => ?_)
  refine wa_lw (tb := 0) (w_rg0 (by omega) (by omega)) (q := (61, 3)) (by first | rfl | decide) ⟨_, rfl⟩ ?_
  refine wa_aload_n (n := 0) rfl ?_
  refine wb_gfi 158 rfl (wy_pr rfl) wt_158 wf_5_9 (v := gk) (l9) (fun r3 => ?_)
  refine wa_iconst ?_
  refine wa_icmpne (w_rg0 (by omega) (by omega)) (w_rg0 (by omega) (by omega)) ⟨_, rfl⟩ (fun c4 => ?_) (fun c4 => ?_)
  · skip
    refine wa_aload_n (n := 0) rfl ?_
    refine wb_gfi 158 rfl (wy_pr rfl) wt_158 wf_5_7 (v := kd) (l7) (fun r5 => ?_)
    refine wa_iconst ?_
    refine wa_icmpeq (w_rg0 (by omega) (by omega)) (w_rg0 (by omega) (by omega)) ⟨_, rfl⟩ (fun c6 => ?_) (fun c6 => ?_)
    · skip
      refine wa_aload_n (n := 0) rfl ?_
      refine wa_aload_n (n := 0) rfl ?_
      refine wb_gfl 158 rfl (wy_pr rfl) wt_158 wf_5_10 (v := gb) (l10) (fun r7 => ?_)
      refine wb_l2i_r (wb_l2i_id ⟨(by omega), (by omega)⟩) ?_
      refine wa_cv 158 rfl (wy_pr rfl) wt_158 (M2 := mS [217, 218]) rfl at_XL_actOnElement ⟨_, rfl⟩ rfl rfl ⟨trivial, (Or.inr ⟨wy_pr rfl, mS_no rfl⟩), trivial, trivial⟩ trivial (fun _ _ q => q) ?_ (fun _ _ _ q => q)
      refine wa_aload_n (n := 0) rfl ?_
      refine wb_gf5 158 rfl (wy_pr rfl) wt_158 wf_5_5 (v := 216) (l5) (fun r8 => ?_)
      refine wb_gfi 216 rfl (wy_pr rfl) wt_216 wf_7_2 (v := h) (bh) (fun r9 => ?_)
      refine wa_iconst ?_
      refine wa_isub ?_
      refine wa_istore_n (n := 2) rfl ?_
      refine wa_aload_n (n := 0) rfl ?_
      refine wb_gf4 158 rfl (wy_pr rfl) wt_158 wf_5_0 (v := 72) wl_158_0 ?_
      refine wb_gf4 72 rfl (wy_pr rfl) wt_72 wf_2_2 (v := 126) wl_72_2 ?_
      refine wa_bipush (w_rg2 (by omega) (by omega)) ?_
      refine wb_aald5 126 7 rfl rfl (wy_pr rfl) wt_126 (by rw [show _ = _ from ((cl_126 hC))]; omega) wl_126_7 ?_
      refine wa_iload_n (n := 1) rfl ?_
      refine wb_iald 134 rfl (wy_pr rfl) wt_134 (n := (S 127 (-1))) ((hth 7 (by decide))) (by omega) (by omega) (v := sz) (hsz) (fun r10 => ?_)
      refine wa_istore_n (n := 3) rfl ?_
      refine wa_aload_n (n := 0) rfl ?_
      refine wb_gfi 158 rfl (wy_pr rfl) wt_158 wf_5_7 (v := kd) (l7) (fun r11 => ?_)
      refine wa_iconst ?_
      refine wa_icmpne (w_rg0 (by omega) (by omega)) (w_rg0 (by omega) (by omega)) ⟨_, rfl⟩ (fun c12 => ?_) (fun c12 => ?_)
      · skip
        refine wa_iload_n (n := 3) rfl ?_
        refine wa_fall ⟨_, rfl⟩ ?_
        refine wa_istore (n := 4) rfl ?_
        refine wa_aload_n (n := 0) rfl ?_
        refine wb_gf5 158 rfl (wy_pr rfl) wt_158 wf_5_5 (v := 216) (l5) (fun r13 => ?_)
        refine wb_gf4 216 rfl (wy_pr rfl) wt_216 wf_7_1 (v := 218) wl_216_1 ?_
        refine wa_aload_n (n := 0) rfl ?_
        refine wb_gfi 158 rfl (wy_pr rfl) wt_158 wf_5_8 (v := ba) (l8) (fun r14 => ?_)
        refine wa_iconst ?_
        refine wa_iadd ?_
        refine wb_lald 218 rfl (wy_pr rfl) wt_218 (n := (S 217 (-1))) (bl1) (by omega) (by omega) (v := v1) (hv1b) (fun r15 => ?_)
        refine wa_lstore (n := 5) rfl ?_
        refine wa_aload_n (n := 0) rfl ?_
        refine wb_gf5 158 rfl (wy_pr rfl) wt_158 wf_5_5 (v := 216) (l5) (fun r16 => ?_)
        refine wb_gf4 216 rfl (wy_pr rfl) wt_216 wf_7_0 (v := 217) wl_216_0 ?_
        refine wa_aload_n (n := 0) rfl ?_
        refine wb_gfi 158 rfl (wy_pr rfl) wt_158 wf_5_8 (v := ba) (l8) (fun r17 => ?_)
        refine wa_iconst ?_
        refine wa_iadd ?_
        refine wb_bald 217 rfl (wy_pr rfl) wt_217 (n := (S 217 (-1))) (rfl) (by omega) (by omega) (v := k1) (hk1) (fun r18 => ?_)
        refine wa_iconst ?_
        refine wa_icmpne (w_rg0 (by omega) (by omega)) (w_rg0 (by omega) (by omega)) ⟨_, rfl⟩ (fun c19 => ?_) (fun c19 => ?_)
        · skip
          refine wa_aload_n (n := 0) rfl ?_
          refine wb_gf5 158 rfl (wy_pr rfl) wt_158 wf_5_4 (v := 215) (l4) (fun r20 => ?_)
          refine wa_bipush (w_rg2 (by omega) (by omega)) ?_
          refine wb_pfi 215 rfl (wy_pr rfl) wt_215 wf_8_16 (n := 16) rfl ⟨(by omega), (by omega)⟩ ?_
          refine wa_return rfl ?_
          show wJ _ _ _ _ _ _ _ _ _ _
          refine wa_goto ⟨_, rfl⟩ ?_
          refine wa_return rfl ?_
          exact ⟨rfl, Or.inl ⟨by omega, rfl⟩⟩
        · skip
          refine wa_lload (n := 5) rfl ?_
          refine wb_lconst (m := 0) rfl ?_
          refine wa_lcmp (w_rg1 (by omega) (by omega)) (w_rg1 (by omega) (by omega)) ?_
          refine wa_iflt (by have := @wb_lcmp_cases; exact w_lcmp_rg) ⟨_, rfl⟩ (fun c21 => ?_) (fun c21 => ?_)
          · skip
            have c21x := @wb_lcmp_cases v1 0
            refine wa_aload_n (n := 0) rfl ?_
            refine wb_gf5 158 rfl (wy_pr rfl) wt_158 wf_5_4 (v := 215) (l4) (fun r22 => ?_)
            refine wa_bipush (w_rg2 (by omega) (by omega)) ?_
            refine wb_pfi 215 rfl (wy_pr rfl) wt_215 wf_8_16 (n := 16) rfl ⟨(by omega), (by omega)⟩ ?_
            refine wa_return rfl ?_
            show wJ _ _ _ _ _ _ _ _ _ _
            refine wa_goto ⟨_, rfl⟩ ?_
            refine wa_return rfl ?_
            exact ⟨rfl, Or.inl ⟨by omega, rfl⟩⟩
          · skip
            have c21x := @wb_lcmp_cases v1 0
            refine wa_lload (n := 5) rfl ?_
            refine wa_iload (n := 4) rfl ?_
            refine wa_i2l (w_rg0 (by omega) (by omega)) ?_
            refine wa_lcmp (w_rg1 (by omega) (by omega)) (w_rg1 (by omega) (by omega)) ?_
            refine wa_iflt (by have := @wb_lcmp_cases; exact w_lcmp_rg) ⟨_, rfl⟩ (fun c23 => ?_) (fun c23 => ?_)
            · skip
              have c23x := @wb_lcmp_cases v1 sz
              refine wa_aload_n (n := 0) rfl ?_
              refine wb_gf4 158 rfl (wy_pr rfl) wt_158 wf_5_0 (v := 72) wl_158_0 ?_
              refine wb_gf4 72 rfl (wy_pr rfl) wt_72 wf_2_2 (v := 126) wl_72_2 ?_
              refine wa_bipush (w_rg2 (by omega) (by omega)) ?_
              refine wb_aald5 126 6 rfl rfl (wy_pr rfl) wt_126 (by rw [show _ = _ from ((cl_126 hC))]; omega) wl_126_6 ?_
              refine wa_iload_n (n := 1) rfl ?_
              refine wb_iald 133 rfl (wy_pr rfl) wt_133 (n := (S 127 (-1))) ((hth 6 (by decide))) (by omega) (by omega) (v := st) (hst) (fun r24 => ?_)
              refine wa_lload (n := 5) rfl ?_
              refine wb_l2i_r (wb_l2i_id ⟨(by omega), (by omega)⟩) ?_
              refine wa_iadd ?_
              refine wa_istore (n := 7) rfl ?_
              refine wa_aload_n (n := 0) rfl ?_
              refine wb_gfi 158 rfl (wy_pr rfl) wt_158 wf_5_7 (v := kd) (l7) (fun r25 => ?_)
              refine wa_iconst ?_
              refine wa_icmpne (w_rg0 (by omega) (by omega)) (w_rg0 (by omega) (by omega)) ⟨_, rfl⟩ (fun c26 => ?_) (fun c26 => ?_)
              · skip
                exact absurd c26 (by omega)
              · skip
                refine wa_aload_n (n := 0) rfl ?_
                refine wa_aload_n (n := 0) rfl ?_
                refine wb_gf4 158 rfl (wy_pr rfl) wt_158 wf_5_0 (v := 72) wl_158_0 ?_
                refine wb_gf4 72 rfl (wy_pr rfl) wt_72 wf_2_6 (v := 140) wl_72_6 ?_
                refine wb_gf4 140 rfl (wy_pr rfl) wt_140 wf_7_0 (v := 141) wl_140_0 ?_
                refine wa_iload (n := 7) rfl ?_
                refine wb_bald 141 rfl (wy_pr rfl) wt_141 (n := (S 141 (-1))) (rfl) (by omega) (by omega) (v := (S 141 (st + v1))) rfl (fun r27 => ?_)
                have he2 := hel (by omega) (by omega) (by omega)
                rw [show S 141 (st + v1) = lk from he2.1]
                refine wa_aload_n (n := 0) rfl ?_
                refine wb_gf4 158 rfl (wy_pr rfl) wt_158 wf_5_0 (v := 72) wl_158_0 ?_
                refine wb_gf4 72 rfl (wy_pr rfl) wt_72 wf_2_6 (v := 140) wl_72_6 ?_
                refine wb_gf4 140 rfl (wy_pr rfl) wt_140 wf_7_1 (v := 142) wl_140_1 ?_
                refine wa_iload (n := 7) rfl ?_
                refine wb_lald 142 rfl (wy_pr rfl) wt_142 (n := (S 141 (-1))) (hl14) (by omega) (by omega) (v := (S 142 (st + v1))) rfl (fun r28 => ?_)
                rw [show S 142 (st + v1) = lv from he2.2]
                refine wa_cv 158 rfl (wy_pr rfl) wt_158 (M2 := mS [217, 218]) rfl at_XL_giveValue ⟨_, rfl⟩ rfl rfl ⟨trivial, trivial, trivial, trivial, trivial, (Or.inr ⟨wy_pr rfl, mS_no rfl⟩), trivial, trivial⟩ trivial (fun _ _ q => mS_sub (by decide) q) (glx_215 (S := S) (k := lk) (v := lv) (h := h) (c := c) (p := p) (ba := ba) hC hI (l4) (l5) (l8) (bc) (bp) (((bl1)).trans ((rfl)).symm) (by have e : S 217 (-1) = S 217 (-1) := (rfl); rw [e]; exact ⟨bl2, bl3⟩) (by have e : S 217 (-1) = S 217 (-1) := (rfl); omega) ⟨by omega, by omega⟩ ⟨by omega, by omega⟩ ⟨by omega, by omega⟩ ⟨by omega, by omega⟩) (fun oq29 Sq29 hp30 q29 => ?_)
                rcases q29 with ⟨rfl, hgv29⟩
                show wJ _ _ _ _ _ _ _ _ _ _
                refine wa_goto ⟨_, rfl⟩ ?_
                refine wa_return rfl ?_
                show wJ _ _ _ _ _ _ _ _ _ _
                refine wa_goto ⟨_, rfl⟩ ?_
                refine wa_return rfl ?_
                exact ⟨rfl, Or.inr ⟨by omega, by omega, by omega, hgv29⟩⟩
            · skip
              have c23x := @wb_lcmp_cases v1 sz
              refine wa_fall ⟨_, rfl⟩ ?_
              refine wa_aload_n (n := 0) rfl ?_
              refine wb_gf5 158 rfl (wy_pr rfl) wt_158 wf_5_4 (v := 215) (l4) (fun r31 => ?_)
              refine wa_bipush (w_rg2 (by omega) (by omega)) ?_
              refine wb_pfi 215 rfl (wy_pr rfl) wt_215 wf_8_16 (n := 16) rfl ⟨(by omega), (by omega)⟩ ?_
              refine wa_return rfl ?_
              show wJ _ _ _ _ _ _ _ _ _ _
              refine wa_goto ⟨_, rfl⟩ ?_
              refine wa_return rfl ?_
              exact ⟨rfl, Or.inl ⟨by omega, rfl⟩⟩
      · skip
        exact absurd c12 (by omega)
    · skip
      exact absurd c6 (by omega)
  · skip
    exact absurd c4 (by omega)
set_option maxHeartbeats 4000000 in
theorem xlse_215 {c p h kd ba gk gb x ky vy st sz rm cs v0 ec k1 v1 : Int} (hP : xP 215 c p h S) (hl : cSl S) (l4 : S 158 4 = 215) (l5 : S 158 5 = 216) (l7 : S 158 7 = kd) (l8 : S 158 8 = ba) (l9 : S 158 9 = gk) (l10 : S 158 10 = gb) (hx : 0 ≤ x ∧ x < S 48 (-1)) (hba : 0 ≤ ba ∧ ba < h) (hx1 : pe_at (pe_GA xs).xs 1 = some (1, tx_1)) (hth : ∀ x : Nat, x < 10 → S (127 + x) (-1) = S 127 (-1)) (hn2 : S 127 (-1) ≤ 16383) (hl14 : S 142 (-1) = S 141 (-1)) (hz14 : 16 ≤ S 141 (-1) ∧ S 141 (-1) ≤ 480400) (e48 : S 48 x = 3) (hgk : gk = 6) (hgb : 0 ≤ gb ∧ gb < S 127 (-1)) (h2 : S 140 2 = cs) (hcs : 0 ≤ cs ∧ cs ≤ S 141 (-1)) (hst : S 133 gb = st) (hsz : S 134 gb = sz) (hrm : S 135 gb = rm) (hs1 : 0 ≤ st ∧ 0 ≤ sz ∧ sz ≤ rm ∧ st + rm ≤ cs) (hv0 : S 150 1 = v0) (hv1 : 0 ≤ v0 ∧ v0 ≤ 60000) (hszb : sz ≤ 60000) (l12 : S 158 12 = ec) (hky : S 217 (h - 1) = ky) (hvy : S 218 (h - 1) = vy) (hkr : -128 ≤ ky ∧ ky ≤ 127) (hvr : -9223372036854775808 ≤ vy ∧ vy ≤ 9223372036854775807) (hk1 : S 217 (ba + 1) = k1) (hv1b : S 218 (ba + 1) = v1) (hb1 : ba + 1 < h) (hkd : kd = 3) : wJ (pe_GA xs) wY0 (mS [217, 218, 141, 142]) (d + 8) t_XL_act ((pe_at t_XL_act.bl 0).getD (0, [])).2 [(0, (2, 158)), (1, (0, x))] [] S (fun o Z => o = .inl none ∧ ((¬ (k1 = 2 ∧ 0 ≤ v1 ∧ v1 ≤ sz) ∧ w_up S 215 16 6 = Z) ∨ (k1 = 2 ∧ 0 ≤ v1 ∧ v1 < sz ∧ sO 215 h c p (h - ba) ky vy (w_up (w_up S 141 (st + v1) ky) 142 (st + v1) vy) Z) ∨ (k1 = 2 ∧ v1 = sz ∧ 60000 ≤ v0 ∧ w_up S 215 16 99 = Z) ∨ (k1 = 2 ∧ v1 = sz ∧ v0 < 60000 ∧ ∃ A : wS, avH_ag gb ky vy S A ∧ sO 215 h c p (h - ba) ky vy A Z))) := by
  obtain ⟨⟨hC, hI⟩, ⟨bc, bc0, bc1⟩, ⟨bp, bp0, bp1⟩, ⟨bh, bh0, bh1, bh2⟩, bl1, bl2, bl3⟩ := hP
  replace bp : S 220 (c - 1) = p := bp
  replace bh : S 216 2 = h := bh
  replace bh2 : h ≤ S 217 (-1) := bh2
  replace bl1 : S 218 (-1) = S 217 (-1) := bl1
  replace bl2 : 64 ≤ S 217 (-1) := bl2
  replace bl3 : S 217 (-1) ≤ 4095 := bl3
  have h35 := hl.2.1
  have h48 := hl.2.2.2
  refine wa_aload_n (n := 0) rfl ?_
  refine wb_gf4 158 rfl (wy_pr rfl) wt_158 wf_5_3 (v := 47) wl_158_3 ?_
  refine wa_iconst ?_
  refine wb_aald5 47 3 rfl rfl (wy_pr rfl) wt_47 (by rw [show _ = _ from ((cl_47 hC))]; omega) wl_47_3 ?_
  refine wa_iload_n (n := 1) rfl ?_
  refine wb_iald 51 rfl (wy_pr rfl) wt_51 (n := (S 48 (-1))) ((hl.2.2.1 3 (by decide))) (by omega) (by omega) (v := (S 51 x)) rfl (fun r1 => ?_)
  refine wa_istore_n (n := 2) rfl ?_
  refine wa_aload_n (n := 0) rfl ?_
  refine wb_gf4 158 rfl (wy_pr rfl) wt_158 wf_5_3 (v := 47) wl_158_3 ?_
  refine wa_iconst ?_
  refine wb_aald5 47 0 rfl rfl (wy_pr rfl) wt_47 (by rw [show _ = _ from ((cl_47 hC))]; omega) wl_47_0 ?_
  refine wa_iload_n (n := 1) rfl ?_
  refine wb_iald 48 rfl (wy_pr rfl) wt_48 (n := (S 48 (-1))) (rfl) (by omega) (by omega) (v := 3) (e48) (fun r2 => ?_)
  refine wa_lw (tb := 0) (w_rg0 (by omega) (by omega)) (q := (61, 3)) (by first | rfl | decide) ⟨_, rfl⟩ ?_
  refine wa_aload_n (n := 0) rfl ?_
  refine wb_gfi 158 rfl (wy_pr rfl) wt_158 wf_5_9 (v := gk) (l9) (fun r3 => ?_)
  refine wa_iconst ?_
  refine wa_icmpne (w_rg0 (by omega) (by omega)) (w_rg0 (by omega) (by omega)) ⟨_, rfl⟩ (fun c4 => ?_) (fun c4 => ?_)
  · skip
    refine wa_aload_n (n := 0) rfl ?_
    refine wb_gfi 158 rfl (wy_pr rfl) wt_158 wf_5_7 (v := kd) (l7) (fun r5 => ?_)
    refine wa_iconst ?_
    refine wa_icmpeq (w_rg0 (by omega) (by omega)) (w_rg0 (by omega) (by omega)) ⟨_, rfl⟩ (fun c6 => ?_) (fun c6 => ?_)
    · skip
      exact absurd c6 (by omega)
    · skip
      refine wa_aload_n (n := 0) rfl ?_
      refine wb_gfi 158 rfl (wy_pr rfl) wt_158 wf_5_7 (v := kd) (l7) (fun r7 => ?_)
      refine wa_iconst ?_
      refine wa_icmpne (w_rg0 (by omega) (by omega)) (w_rg0 (by omega) (by omega)) ⟨_, rfl⟩ (fun c8 => ?_) (fun c8 => ?_)
      · skip
        exact absurd c8 (by omega)
      · skip
        refine wa_fall ⟨_, rfl⟩ ?_
        refine wa_aload_n (n := 0) rfl ?_
        refine wa_aload_n (n := 0) rfl ?_
        refine wb_gfl 158 rfl (wy_pr rfl) wt_158 wf_5_10 (v := gb) (l10) (fun r9 => ?_)
        refine wb_l2i_r (wb_l2i_id ⟨(by omega), (by omega)⟩) ?_
        refine wa_cv 158 rfl (wy_pr rfl) wt_158 (M2 := mS [217, 218, 141, 142]) rfl at_XL_actOnElement ⟨_, rfl⟩ rfl rfl ⟨trivial, (Or.inr ⟨wy_pr rfl, mS_no rfl⟩), trivial, trivial⟩ trivial (fun _ _ q => q) ?_ (fun _ _ _ q => q)
        refine wa_aload_n (n := 0) rfl ?_
        refine wb_gf5 158 rfl (wy_pr rfl) wt_158 wf_5_5 (v := 216) (l5) (fun r10 => ?_)
        refine wb_gfi 216 rfl (wy_pr rfl) wt_216 wf_7_2 (v := h) (bh) (fun r11 => ?_)
        refine wa_iconst ?_
        refine wa_isub ?_
        refine wa_istore_n (n := 2) rfl ?_
        refine wa_aload_n (n := 0) rfl ?_
        refine wb_gf4 158 rfl (wy_pr rfl) wt_158 wf_5_0 (v := 72) wl_158_0 ?_
        refine wb_gf4 72 rfl (wy_pr rfl) wt_72 wf_2_2 (v := 126) wl_72_2 ?_
        refine wa_bipush (w_rg2 (by omega) (by omega)) ?_
        refine wb_aald5 126 7 rfl rfl (wy_pr rfl) wt_126 (by rw [show _ = _ from ((cl_126 hC))]; omega) wl_126_7 ?_
        refine wa_iload_n (n := 1) rfl ?_
        refine wb_iald 134 rfl (wy_pr rfl) wt_134 (n := (S 127 (-1))) ((hth 7 (by decide))) (by omega) (by omega) (v := sz) (hsz) (fun r12 => ?_)
        refine wa_istore_n (n := 3) rfl ?_
        refine wa_aload_n (n := 0) rfl ?_
        refine wb_gfi 158 rfl (wy_pr rfl) wt_158 wf_5_7 (v := kd) (l7) (fun r13 => ?_)
        refine wa_iconst ?_
        refine wa_icmpne (w_rg0 (by omega) (by omega)) (w_rg0 (by omega) (by omega)) ⟨_, rfl⟩ (fun c14 => ?_) (fun c14 => ?_)
        · skip
          exact absurd c14 (by omega)
        · skip
          refine wa_iload_n (n := 3) rfl ?_
          refine wa_iconst ?_
          refine wa_iadd ?_
          refine wa_goto ⟨_, rfl⟩ ?_
          refine wa_istore (n := 4) rfl ?_
          refine wa_aload_n (n := 0) rfl ?_
          refine wb_gf5 158 rfl (wy_pr rfl) wt_158 wf_5_5 (v := 216) (l5) (fun r15 => ?_)
          refine wb_gf4 216 rfl (wy_pr rfl) wt_216 wf_7_1 (v := 218) wl_216_1 ?_
          refine wa_aload_n (n := 0) rfl ?_
          refine wb_gfi 158 rfl (wy_pr rfl) wt_158 wf_5_8 (v := ba) (l8) (fun r16 => ?_)
          refine wa_iconst ?_
          refine wa_iadd ?_
          refine wb_lald 218 rfl (wy_pr rfl) wt_218 (n := (S 217 (-1))) (bl1) (by omega) (by omega) (v := v1) (hv1b) (fun r17 => ?_)
          refine wa_lstore (n := 5) rfl ?_
          refine wa_aload_n (n := 0) rfl ?_
          refine wb_gf5 158 rfl (wy_pr rfl) wt_158 wf_5_5 (v := 216) (l5) (fun r18 => ?_)
          refine wb_gf4 216 rfl (wy_pr rfl) wt_216 wf_7_0 (v := 217) wl_216_0 ?_
          refine wa_aload_n (n := 0) rfl ?_
          refine wb_gfi 158 rfl (wy_pr rfl) wt_158 wf_5_8 (v := ba) (l8) (fun r19 => ?_)
          refine wa_iconst ?_
          refine wa_iadd ?_
          refine wb_bald 217 rfl (wy_pr rfl) wt_217 (n := (S 217 (-1))) (rfl) (by omega) (by omega) (v := k1) (hk1) (fun r20 => ?_)
          refine wa_iconst ?_
          refine wa_icmpne (w_rg0 (by omega) (by omega)) (w_rg0 (by omega) (by omega)) ⟨_, rfl⟩ (fun c21 => ?_) (fun c21 => ?_)
          · skip
            refine wa_aload_n (n := 0) rfl ?_
            refine wb_gf5 158 rfl (wy_pr rfl) wt_158 wf_5_4 (v := 215) (l4) (fun r22 => ?_)
            refine wa_bipush (w_rg2 (by omega) (by omega)) ?_
            refine wb_pfi 215 rfl (wy_pr rfl) wt_215 wf_8_16 (n := 16) rfl ⟨(by omega), (by omega)⟩ ?_
            refine wa_return rfl ?_
            show wJ _ _ _ _ _ _ _ _ _ _
            refine wa_goto ⟨_, rfl⟩ ?_
            refine wa_return rfl ?_
            exact ⟨rfl, Or.inl ⟨by omega, rfl⟩⟩
          · skip
            refine wa_lload (n := 5) rfl ?_
            refine wb_lconst (m := 0) rfl ?_
            refine wa_lcmp (w_rg1 (by omega) (by omega)) (w_rg1 (by omega) (by omega)) ?_
            refine wa_iflt (by have := @wb_lcmp_cases; exact w_lcmp_rg) ⟨_, rfl⟩ (fun c23 => ?_) (fun c23 => ?_)
            · skip
              have c23x := @wb_lcmp_cases v1 0
              refine wa_aload_n (n := 0) rfl ?_
              refine wb_gf5 158 rfl (wy_pr rfl) wt_158 wf_5_4 (v := 215) (l4) (fun r24 => ?_)
              refine wa_bipush (w_rg2 (by omega) (by omega)) ?_
              refine wb_pfi 215 rfl (wy_pr rfl) wt_215 wf_8_16 (n := 16) rfl ⟨(by omega), (by omega)⟩ ?_
              refine wa_return rfl ?_
              show wJ _ _ _ _ _ _ _ _ _ _
              refine wa_goto ⟨_, rfl⟩ ?_
              refine wa_return rfl ?_
              exact ⟨rfl, Or.inl ⟨by omega, rfl⟩⟩
            · skip
              have c23x := @wb_lcmp_cases v1 0
              refine wa_lload (n := 5) rfl ?_
              refine wa_iload (n := 4) rfl ?_
              refine wa_i2l (w_rg0 (by omega) (by omega)) ?_
              refine wa_lcmp (w_rg1 (by omega) (by omega)) (w_rg1 (by omega) (by omega)) ?_
              refine wa_iflt (by have := @wb_lcmp_cases; exact w_lcmp_rg) ⟨_, rfl⟩ (fun c25 => ?_) (fun c25 => ?_)
              · skip
                have c25x := @wb_lcmp_cases v1 (sz + 1)
                refine wa_aload_n (n := 0) rfl ?_
                refine wb_gf4 158 rfl (wy_pr rfl) wt_158 wf_5_0 (v := 72) wl_158_0 ?_
                refine wb_gf4 72 rfl (wy_pr rfl) wt_72 wf_2_2 (v := 126) wl_72_2 ?_
                refine wa_bipush (w_rg2 (by omega) (by omega)) ?_
                refine wb_aald5 126 6 rfl rfl (wy_pr rfl) wt_126 (by rw [show _ = _ from ((cl_126 hC))]; omega) wl_126_6 ?_
                refine wa_iload_n (n := 1) rfl ?_
                refine wb_iald 133 rfl (wy_pr rfl) wt_133 (n := (S 127 (-1))) ((hth 6 (by decide))) (by omega) (by omega) (v := st) (hst) (fun r26 => ?_)
                refine wa_lload (n := 5) rfl ?_
                refine wb_l2i_r (wb_l2i_id ⟨(by omega), (by omega)⟩) ?_
                refine wa_iadd ?_
                refine wa_istore (n := 7) rfl ?_
                refine wa_aload_n (n := 0) rfl ?_
                refine wb_gfi 158 rfl (wy_pr rfl) wt_158 wf_5_7 (v := kd) (l7) (fun r27 => ?_)
                refine wa_iconst ?_
                refine wa_icmpne (w_rg0 (by omega) (by omega)) (w_rg0 (by omega) (by omega)) ⟨_, rfl⟩ (fun c28 => ?_) (fun c28 => ?_)
                · skip
                  refine wa_lload (n := 5) rfl ?_
                  refine wa_iload_n (n := 3) rfl ?_
                  refine wa_i2l (w_rg0 (by omega) (by omega)) ?_
                  refine wa_lcmp (w_rg1 (by omega) (by omega)) (w_rg1 (by omega) (by omega)) ?_
                  refine wa_ifge (by have := @wb_lcmp_cases; exact w_lcmp_rg) ⟨_, rfl⟩ (fun c29 => ?_) (fun c29 => ?_)
                  · skip
                    have c29x := @wb_lcmp_cases v1 sz
                    refine wa_aload_n (n := 0) rfl ?_
                    refine wa_iload_n (n := 1) rfl ?_
                    refine wa_cv 158 rfl (wy_pr rfl) wt_158 (M2 := mS [217, 218, 141, 142]) rfl at_XL_addElement ⟨_, rfl⟩ rfl rfl ⟨trivial, trivial, trivial, trivial, trivial, (Or.inr ⟨wy_pr rfl, mS_no rfl⟩), trivial, trivial⟩ trivial (fun _ _ q => q) ?_ (fun _ _ _ q => q)
                    refine wa_aload_n (n := 0) rfl ?_
                    refine wb_gf5 158 rfl (wy_pr rfl) wt_158 wf_5_5 (v := 216) (l5) (fun r30 => ?_)
                    refine wb_gfi 216 rfl (wy_pr rfl) wt_216 wf_7_2 (v := h) (bh) (fun r31 => ?_)
                    refine wa_iconst ?_
                    refine wa_isub ?_
                    refine wa_istore_n (n := 2) rfl ?_
                    refine wa_aload_n (n := 0) rfl ?_
                    refine wb_gf4 158 rfl (wy_pr rfl) wt_158 wf_5_0 (v := 72) wl_158_0 ?_
                    refine wa_iconst ?_
                    refine wa_iconst ?_
                    refine wa_cv 72 rfl (wy_pr rfl) wt_72 (M2 := mS [217, 218, 141, 142]) rfl at_XH_hasRoom ⟨_, rfl⟩ rfl rfl ⟨trivial, (Or.inr ⟨wy_pr rfl, mS_no rfl⟩), trivial, trivial⟩ trivial (fun _ _ q => q) ?_ (fun _ _ _ q => q)
                    refine wa_aload_n (n := 0) rfl ?_
                    refine wb_gf4 72 rfl (wy_pr rfl) wt_72 wf_2_10 (v := 150) wl_72_10 ?_
                    refine wa_iload_n (n := 1) rfl ?_
                    refine wb_iald 150 rfl (wy_pr rfl) wt_150 (n := 6) ((cl_150 hC)) (by omega) (by omega) (v := v0) (hv0) (fun r32 => ?_)
                    refine wa_iload_n (n := 2) rfl ?_
                    refine wa_iadd ?_
                    refine wa_gs ?_
                    refine wa_iload_n (n := 1) rfl ?_
                    refine wb_xald 1 rfl hx1 (by decide) (by omega) (by decide) (v := 60000) (by decide) (fun r33 => ?_)
                    refine wa_icmpgt (w_rg0 (by omega) (by omega)) (w_rg0 (by omega) (by omega)) ⟨_, rfl⟩ (fun c34 => ?_) (fun c34 => ?_)
                    · skip
                      refine wa_iconst ?_
                      refine wa_fall ⟨_, rfl⟩ ?_
                      refine wa_zreturn rfl (Or.inl rfl) ?_
                      show wJ _ _ _ _ _ _ _ _ _ _
                      refine wa_ifne (w_rg0 (by omega) (by omega)) ⟨_, rfl⟩ (fun c35 => ?_) (fun c35 => ?_)
                      · skip
                        exact absurd c35 (by omega)
                      · skip
                        refine wa_aload_n (n := 0) rfl ?_
                        refine wb_gf5 158 rfl (wy_pr rfl) wt_158 wf_5_4 (v := 215) (l4) (fun r36 => ?_)
                        refine wa_bipush (w_rg2 (by omega) (by omega)) ?_
                        refine wb_pfi 215 rfl (wy_pr rfl) wt_215 wf_8_16 (n := 16) rfl ⟨(by omega), (by omega)⟩ ?_
                        refine wa_iconst ?_
                        refine wa_zreturn rfl (Or.inl rfl) ?_
                        show wJ _ _ _ _ _ _ _ _ _ _
                        refine wa_ifeq (w_rg0 (by omega) (by omega)) ⟨_, rfl⟩ (fun c37 => ?_) (fun c37 => ?_)
                        · skip
                          refine wa_return rfl ?_
                          show wJ _ _ _ _ _ _ _ _ _ _
                          refine wa_goto ⟨_, rfl⟩ ?_
                          refine wa_return rfl ?_
                          exact ⟨rfl, Or.inr (Or.inr (Or.inl ⟨by omega, by omega, by omega, rfl⟩))⟩
                        · skip
                          exact absurd c37 (by omega)
                    · skip
                      refine wa_iconst ?_
                      refine wa_goto ⟨_, rfl⟩ ?_
                      refine wa_zreturn rfl (Or.inr rfl) ?_
                      show wJ _ _ _ _ _ _ _ _ _ _
                      refine wa_ifne (w_rg0 (by omega) (by omega)) ⟨_, rfl⟩ (fun c38 => ?_) (fun c38 => ?_)
                      · skip
                        refine wa_aload_n (n := 0) rfl ?_
                        refine wb_gf4 158 rfl (wy_pr rfl) wt_158 wf_5_0 (v := 72) wl_158_0 ?_
                        refine wa_iload_n (n := 1) rfl ?_
                        refine wa_aload_n (n := 0) rfl ?_
                        refine wb_gf5 158 rfl (wy_pr rfl) wt_158 wf_5_5 (v := 216) (l5) (fun r39 => ?_)
                        refine wb_gf4 216 rfl (wy_pr rfl) wt_216 wf_7_0 (v := 217) wl_216_0 ?_
                        refine wa_iload_n (n := 2) rfl ?_
                        refine wb_bald 217 rfl (wy_pr rfl) wt_217 (n := (S 217 (-1))) (rfl) (by omega) (by omega) (v := ky) (hky) (fun r40 => ?_)
                        refine wa_aload_n (n := 0) rfl ?_
                        refine wb_gf5 158 rfl (wy_pr rfl) wt_158 wf_5_5 (v := 216) (l5) (fun r41 => ?_)
                        refine wb_gf4 216 rfl (wy_pr rfl) wt_216 wf_7_1 (v := 218) wl_216_1 ?_
                        refine wa_iload_n (n := 2) rfl ?_
                        refine wb_lald 218 rfl (wy_pr rfl) wt_218 (n := (S 217 (-1))) (bl1) (by omega) (by omega) (v := vy) (hvy) (fun r42 => ?_)
                        refine wa_cv 72 rfl (wy_pr rfl) wt_72 (M2 := mS [141, 142]) rfl at_XH_addValue ⟨_, rfl⟩ rfl rfl ⟨trivial, (Or.inr ⟨wy_pr rfl, mS_no rfl⟩), trivial, trivial⟩ trivial (fun _ _ q => mS_sub (by decide) q) (avH_ok (S := S) (k := gb) (kd := ky) (bt := vy) (st := st) (sz := sz) (rm := rm) (cs := cs) (v0 := v0) hC hI h2 hcs hl14 hz14 hth hgb hn2 hst hsz hrm hs1 hv0 hv1 (by omega) hkr hvr) (fun oq43 Sq43 hp44 q43 => ?_)
                        rcases q43 with ⟨rfl, hav⟩
                        show wJ _ _ _ _ _ _ _ _ _ _
                        refine wa_iconst ?_
                        refine wa_zreturn rfl (Or.inr rfl) ?_
                        show wJ _ _ _ _ _ _ _ _ _ _
                        refine wa_ifeq (w_rg0 (by omega) (by omega)) ⟨_, rfl⟩ (fun c45 => ?_) (fun c45 => ?_)
                        · skip
                          exact absurd c45 (by omega)
                        · skip
                          refine wa_aload_n (n := 0) rfl ?_
                          refine wa_aload_n (n := 0) rfl ?_
                          refine wb_gf5 158 rfl (wy_pr rfl) wt_158 wf_5_5 (v := 216) (((hav.2.2.2.2.2.2.1 158 5 (by decide) (by decide) (by decide) (by decide) (Or.inl (by decide)) (by omega) (by omega)).trans (l5))) (fun r46 => ?_)
                          refine wb_gf4 216 rfl (wy_pr rfl) wt_216 wf_7_0 (v := 217) wl_216_0 ?_
                          refine wa_iload_n (n := 2) rfl ?_
                          refine wb_bald 217 rfl (wy_pr rfl) wt_217 (n := (S 217 (-1))) (((hav.2.2.2.2.2.2.1 217 (-1) (by decide) (by decide) (by decide) (by decide) (Or.inl (by decide)) (by omega) (by omega)).trans (rfl))) (by omega) (by omega) (v := ky) (((hav.2.2.2.2.2.2.1 217 (h - 1) (by decide) (by decide) (by decide) (by decide) (Or.inl (by decide)) (by omega) (by omega)).trans (hky))) (fun r47 => ?_)
                          refine wa_aload_n (n := 0) rfl ?_
                          refine wb_gf5 158 rfl (wy_pr rfl) wt_158 wf_5_5 (v := 216) (((hav.2.2.2.2.2.2.1 158 5 (by decide) (by decide) (by decide) (by decide) (Or.inl (by decide)) (by omega) (by omega)).trans (l5))) (fun r48 => ?_)
                          refine wb_gf4 216 rfl (wy_pr rfl) wt_216 wf_7_1 (v := 218) wl_216_1 ?_
                          refine wa_iload_n (n := 2) rfl ?_
                          refine wb_lald 218 rfl (wy_pr rfl) wt_218 (n := (S 217 (-1))) (((hav.2.2.2.2.2.2.1 218 (-1) (by decide) (by decide) (by decide) (by decide) (Or.inl (by decide)) (by omega) (by omega)).trans (bl1))) (by omega) (by omega) (v := vy) (((hav.2.2.2.2.2.2.1 218 (h - 1) (by decide) (by decide) (by decide) (by decide) (Or.inl (by decide)) (by omega) (by omega)).trans (hvy))) (fun r49 => ?_)
                          refine wa_cv 158 rfl (wy_pr rfl) wt_158 (M2 := mS [217, 218]) rfl at_XL_giveValue ⟨_, rfl⟩ rfl rfl ⟨trivial, trivial, trivial, trivial, trivial, (Or.inr ⟨wy_pr rfl, mS_no rfl⟩), trivial, trivial⟩ trivial (fun _ _ q => mS_sub (by decide) q) (glx_215 (S := Sq43) (k := ky) (v := vy) (h := h) (c := c) (p := p) (ba := ba) (avH_cl hC hav hgb.1) hav.2.2.2.2.2.2.2.1 (((hav.2.2.2.2.2.2.1 158 4 (by decide) (by decide) (by decide) (by decide) (Or.inl (by decide)) (by omega) (by omega)).trans (l4))) (((hav.2.2.2.2.2.2.1 158 5 (by decide) (by decide) (by decide) (by decide) (Or.inl (by decide)) (by omega) (by omega)).trans (l5))) (((hav.2.2.2.2.2.2.1 158 8 (by decide) (by decide) (by decide) (by decide) (Or.inl (by decide)) (by omega) (by omega)).trans (l8))) (((hav.2.2.2.2.2.2.1 215 4 (by decide) (by decide) (by decide) (by decide) (Or.inl (by decide)) (by omega) (by omega)).trans (bc))) (((hav.2.2.2.2.2.2.1 220 (c - 1) (by decide) (by decide) (by decide) (by decide) (Or.inl (by decide)) (by omega) (by omega)).trans (bp))) (((((hav.2.2.2.2.2.2.1 218 (-1) (by decide) (by decide) (by decide) (by decide) (Or.inl (by decide)) (by omega) (by omega)).trans (bl1)))).trans ((((hav.2.2.2.2.2.2.1 217 (-1) (by decide) (by decide) (by decide) (by decide) (Or.inl (by decide)) (by omega) (by omega)).trans (rfl)))).symm) (by have e : Sq43 217 (-1) = S 217 (-1) := (((hav.2.2.2.2.2.2.1 217 (-1) (by decide) (by decide) (by decide) (by decide) (Or.inl (by decide)) (by omega) (by omega)).trans (rfl))); rw [e]; exact ⟨bl2, bl3⟩) (by have e : Sq43 217 (-1) = S 217 (-1) := (((hav.2.2.2.2.2.2.1 217 (-1) (by decide) (by decide) (by decide) (by decide) (Or.inl (by decide)) (by omega) (by omega)).trans (rfl))); omega) ⟨by omega, by omega⟩ ⟨by omega, by omega⟩ ⟨by omega, by omega⟩ ⟨by omega, by omega⟩) (fun oq50 Sq50 hp51 q50 => ?_)
                          rcases q50 with ⟨rfl, hgv50⟩
                          show wJ _ _ _ _ _ _ _ _ _ _
                          refine wa_fall ⟨_, rfl⟩ ?_
                          refine wa_return rfl ?_
                          show wJ _ _ _ _ _ _ _ _ _ _
                          refine wa_goto ⟨_, rfl⟩ ?_
                          refine wa_return rfl ?_
                          exact ⟨rfl, Or.inr (Or.inr (Or.inr ⟨by omega, by omega, by omega, Sq43, hav, hgv50⟩))⟩
                      · skip
                        exact absurd c38 (by omega)
                  · skip
                    have c29x := @wb_lcmp_cases v1 sz
                    refine wa_aload_n (n := 0) rfl ?_
                    refine wb_gf4 158 rfl (wy_pr rfl) wt_158 wf_5_0 (v := 72) wl_158_0 ?_
                    refine wb_gf4 72 rfl (wy_pr rfl) wt_72 wf_2_6 (v := 140) wl_72_6 ?_
                    refine wa_iload (n := 7) rfl ?_
                    refine wa_aload_n (n := 0) rfl ?_
                    refine wb_gf5 158 rfl (wy_pr rfl) wt_158 wf_5_5 (v := 216) (l5) (fun r52 => ?_)
                    refine wb_gf4 216 rfl (wy_pr rfl) wt_216 wf_7_0 (v := 217) wl_216_0 ?_
                    refine wa_iload_n (n := 2) rfl ?_
                    refine wb_bald 217 rfl (wy_pr rfl) wt_217 (n := (S 217 (-1))) (rfl) (by omega) (by omega) (v := ky) (hky) (fun r53 => ?_)
                    refine wa_aload_n (n := 0) rfl ?_
                    refine wb_gf5 158 rfl (wy_pr rfl) wt_158 wf_5_5 (v := 216) (l5) (fun r54 => ?_)
                    refine wb_gf4 216 rfl (wy_pr rfl) wt_216 wf_7_1 (v := 218) wl_216_1 ?_
                    refine wa_iload_n (n := 2) rfl ?_
                    refine wb_lald 218 rfl (wy_pr rfl) wt_218 (n := (S 217 (-1))) (bl1) (by omega) (by omega) (v := vy) (hvy) (fun r55 => ?_)
                    refine wa_cv 140 rfl (wy_pr rfl) wt_140 (M2 := mS [217, 218, 141, 142]) rfl at_XV_put ⟨_, rfl⟩ rfl rfl ⟨trivial, trivial, trivial, trivial, trivial, (Or.inr ⟨wy_pr rfl, mS_no rfl⟩), trivial, trivial⟩ trivial (fun _ _ q => q) ?_ (fun _ _ _ q => q)
                    refine wa_aload_n (n := 0) rfl ?_
                    refine wb_gf4 140 rfl (wy_pr rfl) wt_140 wf_7_0 (v := 141) wl_140_0 ?_
                    refine wa_iload_n (n := 1) rfl ?_
                    refine wa_iload_n (n := 2) rfl ?_
                    refine wb_i2b_r (wb_i2b_id ⟨(by omega), (by omega)⟩) ?_
                    refine wb_bast 141 rfl (wy_pr rfl) wt_141 (n := (S 141 (-1))) (rfl) (by omega) (by omega) ⟨(by omega), (by omega)⟩ ?_
                    refine wa_aload_n (n := 0) rfl ?_
                    refine wb_gf4 140 rfl (wy_pr rfl) wt_140 wf_7_1 (v := 142) wl_140_1 ?_
                    refine wa_iload_n (n := 1) rfl ?_
                    refine wa_lload_n (n := 3) rfl ?_
                    refine wb_last 142 rfl (wy_pr rfl) wt_142 (n := (S 141 (-1))) ((w_up_slot (by decide)).trans (hl14)) (by omega) (by omega) ⟨(by omega), (by omega)⟩ ?_
                    refine wa_return rfl ?_
                    show wJ _ _ _ _ _ _ _ _ _ _
                    refine wa_aload_n (n := 0) rfl ?_
                    refine wa_aload_n (n := 0) rfl ?_
                    refine wb_gf5 158 rfl (wy_pr rfl) wt_158 wf_5_5 (v := 216) ((w_up_slot (by decide)).trans ((w_up_slot (by decide)).trans (l5))) (fun r56 => ?_)
                    refine wb_gf4 216 rfl (wy_pr rfl) wt_216 wf_7_0 (v := 217) wl_216_0 ?_
                    refine wa_iload_n (n := 2) rfl ?_
                    refine wb_bald 217 rfl (wy_pr rfl) wt_217 (n := (S 217 (-1))) ((w_up_slot (by decide)).trans ((w_up_slot (by decide)).trans (rfl))) (by omega) (by omega) (v := ky) ((w_up_slot (by decide)).trans ((w_up_slot (by decide)).trans (hky))) (fun r57 => ?_)
                    refine wa_aload_n (n := 0) rfl ?_
                    refine wb_gf5 158 rfl (wy_pr rfl) wt_158 wf_5_5 (v := 216) ((w_up_slot (by decide)).trans ((w_up_slot (by decide)).trans (l5))) (fun r58 => ?_)
                    refine wb_gf4 216 rfl (wy_pr rfl) wt_216 wf_7_1 (v := 218) wl_216_1 ?_
                    refine wa_iload_n (n := 2) rfl ?_
                    refine wb_lald 218 rfl (wy_pr rfl) wt_218 (n := (S 217 (-1))) ((w_up_slot (by decide)).trans ((w_up_slot (by decide)).trans (bl1))) (by omega) (by omega) (v := vy) ((w_up_slot (by decide)).trans ((w_up_slot (by decide)).trans (hvy))) (fun r59 => ?_)
                    refine wa_cv 158 rfl (wy_pr rfl) wt_158 (M2 := mS [217, 218]) rfl at_XL_giveValue ⟨_, rfl⟩ rfl rfl ⟨trivial, trivial, trivial, trivial, trivial, (Or.inr ⟨wy_pr rfl, mS_no rfl⟩), trivial, trivial⟩ trivial (fun _ _ q => mS_sub (by decide) q) (glx_215 (S := (w_up (w_up S 141 (st + v1) ky) 142 (st + v1) vy)) (k := ky) (v := vy) (h := h) (c := c) (p := p) (ba := ba) (w_CL_up (w_CL_up hC (by omega)) (by omega)) (gI_up (gI_up hI (by omega) (by omega) (by omega)) (by omega) (by omega) (by omega)) ((w_up_slot (by decide)).trans ((w_up_slot (by decide)).trans (l4))) ((w_up_slot (by decide)).trans ((w_up_slot (by decide)).trans (l5))) ((w_up_slot (by decide)).trans ((w_up_slot (by decide)).trans (l8))) ((w_up_slot (by decide)).trans ((w_up_slot (by decide)).trans (bc))) ((w_up_slot (by decide)).trans ((w_up_slot (by decide)).trans (bp))) ((((w_up_slot (by decide)).trans ((w_up_slot (by decide)).trans (bl1)))).trans (((w_up_slot (by decide)).trans ((w_up_slot (by decide)).trans (rfl)))).symm) (by have e : (w_up (w_up S 141 (st + v1) ky) 142 (st + v1) vy) 217 (-1) = S 217 (-1) := ((w_up_slot (by decide)).trans ((w_up_slot (by decide)).trans (rfl))); rw [e]; exact ⟨bl2, bl3⟩) (by have e : (w_up (w_up S 141 (st + v1) ky) 142 (st + v1) vy) 217 (-1) = S 217 (-1) := ((w_up_slot (by decide)).trans ((w_up_slot (by decide)).trans (rfl))); omega) ⟨by omega, by omega⟩ ⟨by omega, by omega⟩ ⟨by omega, by omega⟩ ⟨by omega, by omega⟩) (fun oq60 Sq60 hp61 q60 => ?_)
                    rcases q60 with ⟨rfl, hgv60⟩
                    show wJ _ _ _ _ _ _ _ _ _ _
                    refine wa_goto ⟨_, rfl⟩ ?_
                    refine wa_return rfl ?_
                    show wJ _ _ _ _ _ _ _ _ _ _
                    refine wa_goto ⟨_, rfl⟩ ?_
                    refine wa_return rfl ?_
                    exact ⟨rfl, Or.inr (Or.inl ⟨by omega, by omega, by omega, hgv60⟩)⟩
                · skip
                  exact absurd c28 (by omega)
              · skip
                have c25x := @wb_lcmp_cases v1 (sz + 1)
                refine wa_fall ⟨_, rfl⟩ ?_
                refine wa_aload_n (n := 0) rfl ?_
                refine wb_gf5 158 rfl (wy_pr rfl) wt_158 wf_5_4 (v := 215) (l4) (fun r62 => ?_)
                refine wa_bipush (w_rg2 (by omega) (by omega)) ?_
                refine wb_pfi 215 rfl (wy_pr rfl) wt_215 wf_8_16 (n := 16) rfl ⟨(by omega), (by omega)⟩ ?_
                refine wa_return rfl ?_
                show wJ _ _ _ _ _ _ _ _ _ _
                refine wa_goto ⟨_, rfl⟩ ?_
                refine wa_return rfl ?_
                exact ⟨rfl, Or.inl ⟨by omega, rfl⟩⟩
  · skip
    exact absurd c4 (by omega)
set_option maxHeartbeats 4000000 in
theorem xlsz_226 {c p h kd ba gk gb x ky vy st sz rm cs v0 ec : Int} (hP : xP 226 c p h S) (hl : cSl S) (l4 : S 158 4 = 226) (l5 : S 158 5 = 227) (l7 : S 158 7 = kd) (l8 : S 158 8 = ba) (l9 : S 158 9 = gk) (l10 : S 158 10 = gb) (hx : 0 ≤ x ∧ x < S 48 (-1)) (hba : 0 ≤ ba ∧ ba < h) (hx1 : pe_at (pe_GA xs).xs 1 = some (1, tx_1)) (hth : ∀ x : Nat, x < 10 → S (127 + x) (-1) = S 127 (-1)) (hn2 : S 127 (-1) ≤ 16383) (hl14 : S 142 (-1) = S 141 (-1)) (hz14 : 16 ≤ S 141 (-1) ∧ S 141 (-1) ≤ 480400) (e48 : S 48 x = 3) (hgk : gk = 6) (hgb : 0 ≤ gb ∧ gb < S 127 (-1)) (h2 : S 140 2 = cs) (hcs : 0 ≤ cs ∧ cs ≤ S 141 (-1)) (hst : S 133 gb = st) (hsz : S 134 gb = sz) (hrm : S 135 gb = rm) (hs1 : 0 ≤ st ∧ 0 ≤ sz ∧ sz ≤ rm ∧ st + rm ≤ cs) (hv0 : S 150 1 = v0) (hv1 : 0 ≤ v0 ∧ v0 ≤ 60000) (hszb : sz ≤ 60000) (l12 : S 158 12 = ec) (hkd : kd = 0) : wJ (pe_GA xs) wY0 (mS [228, 229]) (d + 8) t_XL_act ((pe_at t_XL_act.bl 0).getD (0, [])).2 [(0, (2, 158)), (1, (0, x))] [] S (fun o Z => o = .inl none ∧ sO 226 h c p (h - ba) 2 sz S Z) := by
  obtain ⟨⟨hC, hI⟩, ⟨bc, bc0, bc1⟩, ⟨bp, bp0, bp1⟩, ⟨bh, bh0, bh1, bh2⟩, bl1, bl2, bl3⟩ := hP
  replace bp : S 231 (c - 1) = p := bp
  replace bh : S 227 2 = h := bh
  replace bh2 : h ≤ S 228 (-1) := bh2
  replace bl1 : S 229 (-1) = S 228 (-1) := bl1
  replace bl2 : 64 ≤ S 228 (-1) := bl2
  replace bl3 : S 228 (-1) ≤ 4095 := bl3
  have h35 := hl.2.1
  have h48 := hl.2.2.2
  refine wa_aload_n (n := 0) rfl ?_
  refine wb_gf4 158 rfl (wy_pr rfl) wt_158 wf_5_3 (v := 47) wl_158_3 ?_
  refine wa_iconst ?_
  refine wb_aald5 47 3 rfl rfl (wy_pr rfl) wt_47 (by rw [show _ = _ from ((cl_47 hC))]; omega) wl_47_3 ?_
  refine wa_iload_n (n := 1) rfl ?_
  refine wb_iald 51 rfl (wy_pr rfl) wt_51 (n := (S 48 (-1))) ((hl.2.2.1 3 (by decide))) (by omega) (by omega) (v := (S 51 x)) rfl (fun r1 => ?_)
  refine wa_istore_n (n := 2) rfl ?_
  refine wa_aload_n (n := 0) rfl ?_
  refine wb_gf4 158 rfl (wy_pr rfl) wt_158 wf_5_3 (v := 47) wl_158_3 ?_
  refine wa_iconst ?_
  refine wb_aald5 47 0 rfl rfl (wy_pr rfl) wt_47 (by rw [show _ = _ from ((cl_47 hC))]; omega) wl_47_0 ?_
  refine wa_iload_n (n := 1) rfl ?_
  refine wb_iald 48 rfl (wy_pr rfl) wt_48 (n := (S 48 (-1))) (rfl) (by omega) (by omega) (v := 3) (e48) (fun r2 => ?_)
  refine wa_lw (tb := 0) (w_rg0 (by omega) (by omega)) (q := (61, 3)) (by first | rfl | decide) ⟨_, rfl⟩ ?_
  refine wa_aload_n (n := 0) rfl ?_
  refine wb_gfi 158 rfl (wy_pr rfl) wt_158 wf_5_9 (v := gk) (l9) (fun r3 => ?_)
  refine wa_iconst ?_
  refine wa_icmpne (w_rg0 (by omega) (by omega)) (w_rg0 (by omega) (by omega)) ⟨_, rfl⟩ (fun c4 => ?_) (fun c4 => ?_)
  · skip
    refine wa_aload_n (n := 0) rfl ?_
    refine wb_gfi 158 rfl (wy_pr rfl) wt_158 wf_5_7 (v := kd) (l7) (fun r5 => ?_)
    refine wa_iconst ?_
    refine wa_icmpeq (w_rg0 (by omega) (by omega)) (w_rg0 (by omega) (by omega)) ⟨_, rfl⟩ (fun c6 => ?_) (fun c6 => ?_)
    · skip
      exact absurd c6 (by omega)
    · skip
      refine wa_aload_n (n := 0) rfl ?_
      refine wb_gfi 158 rfl (wy_pr rfl) wt_158 wf_5_7 (v := kd) (l7) (fun r7 => ?_)
      refine wa_iconst ?_
      refine wa_icmpne (w_rg0 (by omega) (by omega)) (w_rg0 (by omega) (by omega)) ⟨_, rfl⟩ (fun c8 => ?_) (fun c8 => ?_)
      · skip
        refine wa_aload_n (n := 0) rfl ?_
        refine wa_aload_n (n := 0) rfl ?_
        refine wb_gfl 158 rfl (wy_pr rfl) wt_158 wf_5_10 (v := gb) (l10) (fun r9 => ?_)
        refine wb_l2i_r (wb_l2i_id ⟨(by omega), (by omega)⟩) ?_
        refine wa_cv 158 rfl (wy_pr rfl) wt_158 (M2 := mS [228, 229]) rfl at_XL_actOnList ⟨_, rfl⟩ rfl rfl ⟨trivial, (Or.inr ⟨wy_pr rfl, mS_no rfl⟩), trivial, trivial⟩ trivial (fun _ _ q => q) ?_ (fun _ _ _ q => q)
        refine wa_aload_n (n := 0) rfl ?_
        refine wb_gf4 158 rfl (wy_pr rfl) wt_158 wf_5_0 (v := 72) wl_158_0 ?_
        refine wb_gf4 72 rfl (wy_pr rfl) wt_72 wf_2_2 (v := 126) wl_72_2 ?_
        refine wa_bipush (w_rg2 (by omega) (by omega)) ?_
        refine wb_aald5 126 7 rfl rfl (wy_pr rfl) wt_126 (by rw [show _ = _ from ((cl_126 hC))]; omega) wl_126_7 ?_
        refine wa_iload_n (n := 1) rfl ?_
        refine wb_iald 134 rfl (wy_pr rfl) wt_134 (n := (S 127 (-1))) ((hth 7 (by decide))) (by omega) (by omega) (v := sz) (hsz) (fun r10 => ?_)
        refine wa_istore_n (n := 2) rfl ?_
        refine wa_aload_n (n := 0) rfl ?_
        refine wb_gfi 158 rfl (wy_pr rfl) wt_158 wf_5_7 (v := kd) (l7) (fun r11 => ?_)
        refine wa_ifne (w_rg0 (by omega) (by omega)) ⟨_, rfl⟩ (fun c12 => ?_) (fun c12 => ?_)
        · skip
          exact absurd c12 (by omega)
        · skip
          refine wa_aload_n (n := 0) rfl ?_
          refine wa_iconst ?_
          refine wa_iload_n (n := 2) rfl ?_
          refine wa_i2l (w_rg0 (by omega) (by omega)) ?_
          refine wa_cv 158 rfl (wy_pr rfl) wt_158 (M2 := mS [228, 229]) rfl at_XL_giveValue ⟨_, rfl⟩ rfl rfl ⟨trivial, (Or.inr ⟨wy_pr rfl, mS_no rfl⟩), trivial, trivial⟩ trivial (fun _ _ q => mS_sub (by decide) q) (glx_226 (S := S) (k := 2) (v := sz) (h := h) (c := c) (p := p) (ba := ba) hC hI (l4) (l5) (l8) (bc) (bp) (((bl1)).trans ((rfl)).symm) (by have e : S 228 (-1) = S 228 (-1) := (rfl); rw [e]; exact ⟨bl2, bl3⟩) (by have e : S 228 (-1) = S 228 (-1) := (rfl); omega) ⟨by omega, by omega⟩ ⟨by omega, by omega⟩ ⟨by omega, by omega⟩ ⟨by omega, by omega⟩) (fun oq13 Sq13 hp14 q13 => ?_)
          rcases q13 with ⟨rfl, hgv13⟩
          show wJ _ _ _ _ _ _ _ _ _ _
          refine wa_goto ⟨_, rfl⟩ ?_
          refine wa_return rfl ?_
          show wJ _ _ _ _ _ _ _ _ _ _
          refine wa_goto ⟨_, rfl⟩ ?_
          refine wa_return rfl ?_
          exact ⟨rfl, hgv13⟩
      · skip
        exact absurd c8 (by omega)
  · skip
    exact absurd c4 (by omega)
set_option maxHeartbeats 4000000 in
theorem xlpu_226 {c p h kd ba gk gb x ky vy st sz rm cs v0 ec : Int} (hP : xP 226 c p h S) (hl : cSl S) (l4 : S 158 4 = 226) (l5 : S 158 5 = 227) (l7 : S 158 7 = kd) (l8 : S 158 8 = ba) (l9 : S 158 9 = gk) (l10 : S 158 10 = gb) (hx : 0 ≤ x ∧ x < S 48 (-1)) (hba : 0 ≤ ba ∧ ba < h) (hx1 : pe_at (pe_GA xs).xs 1 = some (1, tx_1)) (hth : ∀ x : Nat, x < 10 → S (127 + x) (-1) = S 127 (-1)) (hn2 : S 127 (-1) ≤ 16383) (hl14 : S 142 (-1) = S 141 (-1)) (hz14 : 16 ≤ S 141 (-1) ∧ S 141 (-1) ≤ 480400) (e48 : S 48 x = 3) (hgk : gk = 6) (hgb : 0 ≤ gb ∧ gb < S 127 (-1)) (h2 : S 140 2 = cs) (hcs : 0 ≤ cs ∧ cs ≤ S 141 (-1)) (hst : S 133 gb = st) (hsz : S 134 gb = sz) (hrm : S 135 gb = rm) (hs1 : 0 ≤ st ∧ 0 ≤ sz ∧ sz ≤ rm ∧ st + rm ≤ cs) (hv0 : S 150 1 = v0) (hv1 : 0 ≤ v0 ∧ v0 ≤ 60000) (hszb : sz ≤ 60000) (l12 : S 158 12 = ec) (hky : S 228 (h - 1) = ky) (hvy : S 229 (h - 1) = vy) (hkr : -128 ≤ ky ∧ ky ≤ 127) (hvr : -9223372036854775808 ≤ vy ∧ vy ≤ 9223372036854775807) (hkd : kd = 5) (hec : ec = 1) : wJ (pe_GA xs) wY0 (mS [228, 229, 141, 142]) (d + 8) t_XL_act ((pe_at t_XL_act.bl 0).getD (0, [])).2 [(0, (2, 158)), (1, (0, x))] [] S (fun o Z => o = .inl none ∧ ((60000 ≤ v0 ∧ w_up S 226 16 99 = Z) ∨ (v0 < 60000 ∧ ∃ A : wS, avH_ag gb ky vy S A ∧ sO 226 h c p (h - ba) 2 (sz + 1) A Z))) := by
  obtain ⟨⟨hC, hI⟩, ⟨bc, bc0, bc1⟩, ⟨bp, bp0, bp1⟩, ⟨bh, bh0, bh1, bh2⟩, bl1, bl2, bl3⟩ := hP
  replace bp : S 231 (c - 1) = p := bp
  replace bh : S 227 2 = h := bh
  replace bh2 : h ≤ S 228 (-1) := bh2
  replace bl1 : S 229 (-1) = S 228 (-1) := bl1
  replace bl2 : 64 ≤ S 228 (-1) := bl2
  replace bl3 : S 228 (-1) ≤ 4095 := bl3
  have h35 := hl.2.1
  have h48 := hl.2.2.2
  refine wa_aload_n (n := 0) rfl ?_
  refine wb_gf4 158 rfl (wy_pr rfl) wt_158 wf_5_3 (v := 47) wl_158_3 ?_
  refine wa_iconst ?_
  refine wb_aald5 47 3 rfl rfl (wy_pr rfl) wt_47 (by rw [show _ = _ from ((cl_47 hC))]; omega) wl_47_3 ?_
  refine wa_iload_n (n := 1) rfl ?_
  refine wb_iald 51 rfl (wy_pr rfl) wt_51 (n := (S 48 (-1))) ((hl.2.2.1 3 (by decide))) (by omega) (by omega) (v := (S 51 x)) rfl (fun r1 => ?_)
  refine wa_istore_n (n := 2) rfl ?_
  refine wa_aload_n (n := 0) rfl ?_
  refine wb_gf4 158 rfl (wy_pr rfl) wt_158 wf_5_3 (v := 47) wl_158_3 ?_
  refine wa_iconst ?_
  refine wb_aald5 47 0 rfl rfl (wy_pr rfl) wt_47 (by rw [show _ = _ from ((cl_47 hC))]; omega) wl_47_0 ?_
  refine wa_iload_n (n := 1) rfl ?_
  refine wb_iald 48 rfl (wy_pr rfl) wt_48 (n := (S 48 (-1))) (rfl) (by omega) (by omega) (v := 3) (e48) (fun r2 => ?_)
  refine wa_lw (tb := 0) (w_rg0 (by omega) (by omega)) (q := (61, 3)) (by first | rfl | decide) ⟨_, rfl⟩ ?_
  refine wa_aload_n (n := 0) rfl ?_
  refine wb_gfi 158 rfl (wy_pr rfl) wt_158 wf_5_9 (v := gk) (l9) (fun r3 => ?_)
  refine wa_iconst ?_
  refine wa_icmpne (w_rg0 (by omega) (by omega)) (w_rg0 (by omega) (by omega)) ⟨_, rfl⟩ (fun c4 => ?_) (fun c4 => ?_)
  · skip
    refine wa_aload_n (n := 0) rfl ?_
    refine wb_gfi 158 rfl (wy_pr rfl) wt_158 wf_5_7 (v := kd) (l7) (fun r5 => ?_)
    refine wa_iconst ?_
    refine wa_icmpeq (w_rg0 (by omega) (by omega)) (w_rg0 (by omega) (by omega)) ⟨_, rfl⟩ (fun c6 => ?_) (fun c6 => ?_)
    · skip
      exact absurd c6 (by omega)
    · skip
      refine wa_aload_n (n := 0) rfl ?_
      refine wb_gfi 158 rfl (wy_pr rfl) wt_158 wf_5_7 (v := kd) (l7) (fun r7 => ?_)
      refine wa_iconst ?_
      refine wa_icmpne (w_rg0 (by omega) (by omega)) (w_rg0 (by omega) (by omega)) ⟨_, rfl⟩ (fun c8 => ?_) (fun c8 => ?_)
      · skip
        refine wa_aload_n (n := 0) rfl ?_
        refine wa_aload_n (n := 0) rfl ?_
        refine wb_gfl 158 rfl (wy_pr rfl) wt_158 wf_5_10 (v := gb) (l10) (fun r9 => ?_)
        refine wb_l2i_r (wb_l2i_id ⟨(by omega), (by omega)⟩) ?_
        refine wa_cv 158 rfl (wy_pr rfl) wt_158 (M2 := mS [228, 229, 141, 142]) rfl at_XL_actOnList ⟨_, rfl⟩ rfl rfl ⟨trivial, (Or.inr ⟨wy_pr rfl, mS_no rfl⟩), trivial, trivial⟩ trivial (fun _ _ q => q) ?_ (fun _ _ _ q => q)
        refine wa_aload_n (n := 0) rfl ?_
        refine wb_gf4 158 rfl (wy_pr rfl) wt_158 wf_5_0 (v := 72) wl_158_0 ?_
        refine wb_gf4 72 rfl (wy_pr rfl) wt_72 wf_2_2 (v := 126) wl_72_2 ?_
        refine wa_bipush (w_rg2 (by omega) (by omega)) ?_
        refine wb_aald5 126 7 rfl rfl (wy_pr rfl) wt_126 (by rw [show _ = _ from ((cl_126 hC))]; omega) wl_126_7 ?_
        refine wa_iload_n (n := 1) rfl ?_
        refine wb_iald 134 rfl (wy_pr rfl) wt_134 (n := (S 127 (-1))) ((hth 7 (by decide))) (by omega) (by omega) (v := sz) (hsz) (fun r10 => ?_)
        refine wa_istore_n (n := 2) rfl ?_
        refine wa_aload_n (n := 0) rfl ?_
        refine wb_gfi 158 rfl (wy_pr rfl) wt_158 wf_5_7 (v := kd) (l7) (fun r11 => ?_)
        refine wa_ifne (w_rg0 (by omega) (by omega)) ⟨_, rfl⟩ (fun c12 => ?_) (fun c12 => ?_)
        · skip
          refine wa_aload_n (n := 0) rfl ?_
          refine wb_gfi 158 rfl (wy_pr rfl) wt_158 wf_5_12 (v := ec) (l12) (fun r13 => ?_)
          refine wa_iconst ?_
          refine wa_icmpne (w_rg0 (by omega) (by omega)) (w_rg0 (by omega) (by omega)) ⟨_, rfl⟩ (fun c14 => ?_) (fun c14 => ?_)
          · skip
            exact absurd c14 (by omega)
          · skip
            refine wa_aload_n (n := 0) rfl ?_
            refine wa_iload_n (n := 1) rfl ?_
            refine wa_cv 158 rfl (wy_pr rfl) wt_158 (M2 := mS [228, 229, 141, 142]) rfl at_XL_addElement ⟨_, rfl⟩ rfl rfl ⟨trivial, (Or.inr ⟨wy_pr rfl, mS_no rfl⟩), trivial, trivial⟩ trivial (fun _ _ q => q) ?_ (fun _ _ _ q => q)
            refine wa_aload_n (n := 0) rfl ?_
            refine wb_gf5 158 rfl (wy_pr rfl) wt_158 wf_5_5 (v := 227) (l5) (fun r15 => ?_)
            refine wb_gfi 227 rfl (wy_pr rfl) wt_227 wf_7_2 (v := h) (bh) (fun r16 => ?_)
            refine wa_iconst ?_
            refine wa_isub ?_
            refine wa_istore_n (n := 2) rfl ?_
            refine wa_aload_n (n := 0) rfl ?_
            refine wb_gf4 158 rfl (wy_pr rfl) wt_158 wf_5_0 (v := 72) wl_158_0 ?_
            refine wa_iconst ?_
            refine wa_iconst ?_
            refine wa_cv 72 rfl (wy_pr rfl) wt_72 (M2 := mS [228, 229, 141, 142]) rfl at_XH_hasRoom ⟨_, rfl⟩ rfl rfl ⟨trivial, (Or.inr ⟨wy_pr rfl, mS_no rfl⟩), trivial, trivial⟩ trivial (fun _ _ q => q) ?_ (fun _ _ _ q => q)
            refine wa_aload_n (n := 0) rfl ?_
            refine wb_gf4 72 rfl (wy_pr rfl) wt_72 wf_2_10 (v := 150) wl_72_10 ?_
            refine wa_iload_n (n := 1) rfl ?_
            refine wb_iald 150 rfl (wy_pr rfl) wt_150 (n := 6) ((cl_150 hC)) (by omega) (by omega) (v := v0) (hv0) (fun r17 => ?_)
            refine wa_iload_n (n := 2) rfl ?_
            refine wa_iadd ?_
            refine wa_gs ?_
            refine wa_iload_n (n := 1) rfl ?_
            refine wb_xald 1 rfl hx1 (by decide) (by omega) (by decide) (v := 60000) (by decide) (fun r18 => ?_)
            refine wa_icmpgt (w_rg0 (by omega) (by omega)) (w_rg0 (by omega) (by omega)) ⟨_, rfl⟩ (fun c19 => ?_) (fun c19 => ?_)
            · skip
              refine wa_iconst ?_
              refine wa_fall ⟨_, rfl⟩ ?_
              refine wa_zreturn rfl (Or.inl rfl) ?_
              show wJ _ _ _ _ _ _ _ _ _ _
              refine wa_ifne (w_rg0 (by omega) (by omega)) ⟨_, rfl⟩ (fun c20 => ?_) (fun c20 => ?_)
              · skip
                exact absurd c20 (by omega)
              · skip
                refine wa_aload_n (n := 0) rfl ?_
                refine wb_gf5 158 rfl (wy_pr rfl) wt_158 wf_5_4 (v := 226) (l4) (fun r21 => ?_)
                refine wa_bipush (w_rg2 (by omega) (by omega)) ?_
                refine wb_pfi 226 rfl (wy_pr rfl) wt_226 wf_8_16 (n := 16) rfl ⟨(by omega), (by omega)⟩ ?_
                refine wa_iconst ?_
                refine wa_zreturn rfl (Or.inl rfl) ?_
                show wJ _ _ _ _ _ _ _ _ _ _
                refine wa_ifeq (w_rg0 (by omega) (by omega)) ⟨_, rfl⟩ (fun c22 => ?_) (fun c22 => ?_)
                · skip
                  refine wa_return rfl ?_
                  show wJ _ _ _ _ _ _ _ _ _ _
                  refine wa_goto ⟨_, rfl⟩ ?_
                  refine wa_return rfl ?_
                  exact ⟨rfl, Or.inl ⟨by omega, rfl⟩⟩
                · skip
                  exact absurd c22 (by omega)
            · skip
              refine wa_iconst ?_
              refine wa_goto ⟨_, rfl⟩ ?_
              refine wa_zreturn rfl (Or.inr rfl) ?_
              show wJ _ _ _ _ _ _ _ _ _ _
              refine wa_ifne (w_rg0 (by omega) (by omega)) ⟨_, rfl⟩ (fun c23 => ?_) (fun c23 => ?_)
              · skip
                refine wa_aload_n (n := 0) rfl ?_
                refine wb_gf4 158 rfl (wy_pr rfl) wt_158 wf_5_0 (v := 72) wl_158_0 ?_
                refine wa_iload_n (n := 1) rfl ?_
                refine wa_aload_n (n := 0) rfl ?_
                refine wb_gf5 158 rfl (wy_pr rfl) wt_158 wf_5_5 (v := 227) (l5) (fun r24 => ?_)
                refine wb_gf4 227 rfl (wy_pr rfl) wt_227 wf_7_0 (v := 228) wl_227_0 ?_
                refine wa_iload_n (n := 2) rfl ?_
                refine wb_bald 228 rfl (wy_pr rfl) wt_228 (n := (S 228 (-1))) (rfl) (by omega) (by omega) (v := ky) (hky) (fun r25 => ?_)
                refine wa_aload_n (n := 0) rfl ?_
                refine wb_gf5 158 rfl (wy_pr rfl) wt_158 wf_5_5 (v := 227) (l5) (fun r26 => ?_)
                refine wb_gf4 227 rfl (wy_pr rfl) wt_227 wf_7_1 (v := 229) wl_227_1 ?_
                refine wa_iload_n (n := 2) rfl ?_
                refine wb_lald 229 rfl (wy_pr rfl) wt_229 (n := (S 228 (-1))) (bl1) (by omega) (by omega) (v := vy) (hvy) (fun r27 => ?_)
                refine wa_cv 72 rfl (wy_pr rfl) wt_72 (M2 := mS [141, 142]) rfl at_XH_addValue ⟨_, rfl⟩ rfl rfl ⟨trivial, (Or.inr ⟨wy_pr rfl, mS_no rfl⟩), trivial, trivial⟩ trivial (fun _ _ q => mS_sub (by decide) q) (avH_ok (S := S) (k := gb) (kd := ky) (bt := vy) (st := st) (sz := sz) (rm := rm) (cs := cs) (v0 := v0) hC hI h2 hcs hl14 hz14 hth hgb hn2 hst hsz hrm hs1 hv0 hv1 (by omega) hkr hvr) (fun oq28 Sq28 hp29 q28 => ?_)
                rcases q28 with ⟨rfl, hav⟩
                show wJ _ _ _ _ _ _ _ _ _ _
                refine wa_iconst ?_
                refine wa_zreturn rfl (Or.inr rfl) ?_
                show wJ _ _ _ _ _ _ _ _ _ _
                refine wa_ifeq (w_rg0 (by omega) (by omega)) ⟨_, rfl⟩ (fun c30 => ?_) (fun c30 => ?_)
                · skip
                  exact absurd c30 (by omega)
                · skip
                  refine wa_aload_n (n := 0) rfl ?_
                  refine wa_iconst ?_
                  refine wa_iload_n (n := 2) rfl ?_
                  refine wa_iconst ?_
                  refine wa_iadd ?_
                  refine wa_i2l (w_rg0 (by omega) (by omega)) ?_
                  refine wa_cv 158 rfl (wy_pr rfl) wt_158 (M2 := mS [228, 229]) rfl at_XL_giveValue ⟨_, rfl⟩ rfl rfl ⟨trivial, (Or.inr ⟨wy_pr rfl, mS_no rfl⟩), trivial, trivial⟩ trivial (fun _ _ q => mS_sub (by decide) q) (glx_226 (S := Sq28) (k := 2) (v := (sz + 1)) (h := h) (c := c) (p := p) (ba := ba) (avH_cl hC hav hgb.1) hav.2.2.2.2.2.2.2.1 (((hav.2.2.2.2.2.2.1 158 4 (by decide) (by decide) (by decide) (by decide) (Or.inl (by decide)) (by omega) (by omega)).trans (l4))) (((hav.2.2.2.2.2.2.1 158 5 (by decide) (by decide) (by decide) (by decide) (Or.inl (by decide)) (by omega) (by omega)).trans (l5))) (((hav.2.2.2.2.2.2.1 158 8 (by decide) (by decide) (by decide) (by decide) (Or.inl (by decide)) (by omega) (by omega)).trans (l8))) (((hav.2.2.2.2.2.2.1 226 4 (by decide) (by decide) (by decide) (by decide) (Or.inl (by decide)) (by omega) (by omega)).trans (bc))) (((hav.2.2.2.2.2.2.1 231 (c - 1) (by decide) (by decide) (by decide) (by decide) (Or.inl (by decide)) (by omega) (by omega)).trans (bp))) (((((hav.2.2.2.2.2.2.1 229 (-1) (by decide) (by decide) (by decide) (by decide) (Or.inl (by decide)) (by omega) (by omega)).trans (bl1)))).trans ((((hav.2.2.2.2.2.2.1 228 (-1) (by decide) (by decide) (by decide) (by decide) (Or.inl (by decide)) (by omega) (by omega)).trans (rfl)))).symm) (by have e : Sq28 228 (-1) = S 228 (-1) := (((hav.2.2.2.2.2.2.1 228 (-1) (by decide) (by decide) (by decide) (by decide) (Or.inl (by decide)) (by omega) (by omega)).trans (rfl))); rw [e]; exact ⟨bl2, bl3⟩) (by have e : Sq28 228 (-1) = S 228 (-1) := (((hav.2.2.2.2.2.2.1 228 (-1) (by decide) (by decide) (by decide) (by decide) (Or.inl (by decide)) (by omega) (by omega)).trans (rfl))); omega) ⟨by omega, by omega⟩ ⟨by omega, by omega⟩ ⟨by omega, by omega⟩ ⟨by omega, by omega⟩) (fun oq31 Sq31 hp32 q31 => ?_)
                  rcases q31 with ⟨rfl, hgv31⟩
                  show wJ _ _ _ _ _ _ _ _ _ _
                  refine wa_goto ⟨_, rfl⟩ ?_
                  refine wa_return rfl ?_
                  show wJ _ _ _ _ _ _ _ _ _ _
                  refine wa_goto ⟨_, rfl⟩ ?_
                  refine wa_return rfl ?_
                  exact ⟨rfl, Or.inr ⟨by omega, Sq28, hav, hgv31⟩⟩
              · skip
                exact absurd c23 (by omega)
        · skip
          exact absurd c12 (by omega)
      · skip
        exact absurd c8 (by omega)
  · skip
    exact absurd c4 (by omega)
set_option maxHeartbeats 4000000 in
theorem xlpn_226 {c p h kd ba gk gb x ky vy st sz rm cs v0 ec : Int} (hP : xP 226 c p h S) (hl : cSl S) (l4 : S 158 4 = 226) (l5 : S 158 5 = 227) (l7 : S 158 7 = kd) (l8 : S 158 8 = ba) (l9 : S 158 9 = gk) (l10 : S 158 10 = gb) (hx : 0 ≤ x ∧ x < S 48 (-1)) (hba : 0 ≤ ba ∧ ba < h) (hx1 : pe_at (pe_GA xs).xs 1 = some (1, tx_1)) (hth : ∀ x : Nat, x < 10 → S (127 + x) (-1) = S 127 (-1)) (hn2 : S 127 (-1) ≤ 16383) (hl14 : S 142 (-1) = S 141 (-1)) (hz14 : 16 ≤ S 141 (-1) ∧ S 141 (-1) ≤ 480400) (e48 : S 48 x = 3) (hgk : gk = 6) (hgb : 0 ≤ gb ∧ gb < S 127 (-1)) (h2 : S 140 2 = cs) (hcs : 0 ≤ cs ∧ cs ≤ S 141 (-1)) (hst : S 133 gb = st) (hsz : S 134 gb = sz) (hrm : S 135 gb = rm) (hs1 : 0 ≤ st ∧ 0 ≤ sz ∧ sz ≤ rm ∧ st + rm ≤ cs) (hv0 : S 150 1 = v0) (hv1 : 0 ≤ v0 ∧ v0 ≤ 60000) (hszb : sz ≤ 60000) (l12 : S 158 12 = ec) (hkd : kd = 5) (hec : ec = 0) (hz0 : sz = 0) : wJ (pe_GA xs) wY0 (mS [228, 229]) (d + 8) t_XL_act ((pe_at t_XL_act.bl 0).getD (0, [])).2 [(0, (2, 158)), (1, (0, x))] [] S (fun o Z => o = .inl none ∧ sO 226 h c p (h - ba) 0 0 S Z) := by
  obtain ⟨⟨hC, hI⟩, ⟨bc, bc0, bc1⟩, ⟨bp, bp0, bp1⟩, ⟨bh, bh0, bh1, bh2⟩, bl1, bl2, bl3⟩ := hP
  replace bp : S 231 (c - 1) = p := bp
  replace bh : S 227 2 = h := bh
  replace bh2 : h ≤ S 228 (-1) := bh2
  replace bl1 : S 229 (-1) = S 228 (-1) := bl1
  replace bl2 : 64 ≤ S 228 (-1) := bl2
  replace bl3 : S 228 (-1) ≤ 4095 := bl3
  have h35 := hl.2.1
  have h48 := hl.2.2.2
  refine wa_aload_n (n := 0) rfl ?_
  refine wb_gf4 158 rfl (wy_pr rfl) wt_158 wf_5_3 (v := 47) wl_158_3 ?_
  refine wa_iconst ?_
  refine wb_aald5 47 3 rfl rfl (wy_pr rfl) wt_47 (by rw [show _ = _ from ((cl_47 hC))]; omega) wl_47_3 ?_
  refine wa_iload_n (n := 1) rfl ?_
  refine wb_iald 51 rfl (wy_pr rfl) wt_51 (n := (S 48 (-1))) ((hl.2.2.1 3 (by decide))) (by omega) (by omega) (v := (S 51 x)) rfl (fun r1 => ?_)
  refine wa_istore_n (n := 2) rfl ?_
  refine wa_aload_n (n := 0) rfl ?_
  refine wb_gf4 158 rfl (wy_pr rfl) wt_158 wf_5_3 (v := 47) wl_158_3 ?_
  refine wa_iconst ?_
  refine wb_aald5 47 0 rfl rfl (wy_pr rfl) wt_47 (by rw [show _ = _ from ((cl_47 hC))]; omega) wl_47_0 ?_
  refine wa_iload_n (n := 1) rfl ?_
  refine wb_iald 48 rfl (wy_pr rfl) wt_48 (n := (S 48 (-1))) (rfl) (by omega) (by omega) (v := 3) (e48) (fun r2 => ?_)
  refine wa_lw (tb := 0) (w_rg0 (by omega) (by omega)) (q := (61, 3)) (by first | rfl | decide) ⟨_, rfl⟩ ?_
  refine wa_aload_n (n := 0) rfl ?_
  refine wb_gfi 158 rfl (wy_pr rfl) wt_158 wf_5_9 (v := gk) (l9) (fun r3 => ?_)
  refine wa_iconst ?_
  refine wa_icmpne (w_rg0 (by omega) (by omega)) (w_rg0 (by omega) (by omega)) ⟨_, rfl⟩ (fun c4 => ?_) (fun c4 => ?_)
  · skip
    refine wa_aload_n (n := 0) rfl ?_
    refine wb_gfi 158 rfl (wy_pr rfl) wt_158 wf_5_7 (v := kd) (l7) (fun r5 => ?_)
    refine wa_iconst ?_
    refine wa_icmpeq (w_rg0 (by omega) (by omega)) (w_rg0 (by omega) (by omega)) ⟨_, rfl⟩ (fun c6 => ?_) (fun c6 => ?_)
    · skip
      exact absurd c6 (by omega)
    · skip
      refine wa_aload_n (n := 0) rfl ?_
      refine wb_gfi 158 rfl (wy_pr rfl) wt_158 wf_5_7 (v := kd) (l7) (fun r7 => ?_)
      refine wa_iconst ?_
      refine wa_icmpne (w_rg0 (by omega) (by omega)) (w_rg0 (by omega) (by omega)) ⟨_, rfl⟩ (fun c8 => ?_) (fun c8 => ?_)
      · skip
        refine wa_aload_n (n := 0) rfl ?_
        refine wa_aload_n (n := 0) rfl ?_
        refine wb_gfl 158 rfl (wy_pr rfl) wt_158 wf_5_10 (v := gb) (l10) (fun r9 => ?_)
        refine wb_l2i_r (wb_l2i_id ⟨(by omega), (by omega)⟩) ?_
        refine wa_cv 158 rfl (wy_pr rfl) wt_158 (M2 := mS [228, 229]) rfl at_XL_actOnList ⟨_, rfl⟩ rfl rfl ⟨trivial, (Or.inr ⟨wy_pr rfl, mS_no rfl⟩), trivial, trivial⟩ trivial (fun _ _ q => q) ?_ (fun _ _ _ q => q)
        refine wa_aload_n (n := 0) rfl ?_
        refine wb_gf4 158 rfl (wy_pr rfl) wt_158 wf_5_0 (v := 72) wl_158_0 ?_
        refine wb_gf4 72 rfl (wy_pr rfl) wt_72 wf_2_2 (v := 126) wl_72_2 ?_
        refine wa_bipush (w_rg2 (by omega) (by omega)) ?_
        refine wb_aald5 126 7 rfl rfl (wy_pr rfl) wt_126 (by rw [show _ = _ from ((cl_126 hC))]; omega) wl_126_7 ?_
        refine wa_iload_n (n := 1) rfl ?_
        refine wb_iald 134 rfl (wy_pr rfl) wt_134 (n := (S 127 (-1))) ((hth 7 (by decide))) (by omega) (by omega) (v := sz) (hsz) (fun r10 => ?_)
        refine wa_istore_n (n := 2) rfl ?_
        refine wa_aload_n (n := 0) rfl ?_
        refine wb_gfi 158 rfl (wy_pr rfl) wt_158 wf_5_7 (v := kd) (l7) (fun r11 => ?_)
        refine wa_ifne (w_rg0 (by omega) (by omega)) ⟨_, rfl⟩ (fun c12 => ?_) (fun c12 => ?_)
        · skip
          refine wa_aload_n (n := 0) rfl ?_
          refine wb_gfi 158 rfl (wy_pr rfl) wt_158 wf_5_12 (v := ec) (l12) (fun r13 => ?_)
          refine wa_iconst ?_
          refine wa_icmpne (w_rg0 (by omega) (by omega)) (w_rg0 (by omega) (by omega)) ⟨_, rfl⟩ (fun c14 => ?_) (fun c14 => ?_)
          · skip
            refine wa_iload_n (n := 2) rfl ?_
            refine wa_ifne (w_rg0 (by omega) (by omega)) ⟨_, rfl⟩ (fun c15 => ?_) (fun c15 => ?_)
            · skip
              exact absurd c15 (by omega)
            · skip
              refine wa_aload_n (n := 0) rfl ?_
              refine wa_iconst ?_
              refine wb_lconst (m := 0) rfl ?_
              refine wa_cv 158 rfl (wy_pr rfl) wt_158 (M2 := mS [228, 229]) rfl at_XL_giveValue ⟨_, rfl⟩ rfl rfl ⟨trivial, (Or.inr ⟨wy_pr rfl, mS_no rfl⟩), trivial, trivial⟩ trivial (fun _ _ q => mS_sub (by decide) q) (glx_226 (S := S) (k := 0) (v := 0) (h := h) (c := c) (p := p) (ba := ba) hC hI (l4) (l5) (l8) (bc) (bp) (((bl1)).trans ((rfl)).symm) (by have e : S 228 (-1) = S 228 (-1) := (rfl); rw [e]; exact ⟨bl2, bl3⟩) (by have e : S 228 (-1) = S 228 (-1) := (rfl); omega) ⟨by omega, by omega⟩ ⟨by omega, by omega⟩ ⟨by omega, by omega⟩ ⟨by omega, by omega⟩) (fun oq16 Sq16 hp17 q16 => ?_)
              rcases q16 with ⟨rfl, hgv16⟩
              show wJ _ _ _ _ _ _ _ _ _ _
              refine wa_goto ⟨_, rfl⟩ ?_
              refine wa_return rfl ?_
              show wJ _ _ _ _ _ _ _ _ _ _
              refine wa_goto ⟨_, rfl⟩ ?_
              refine wa_return rfl ?_
              exact ⟨rfl, hgv16⟩
          · skip
            exact absurd c14 (by omega)
        · skip
          exact absurd c12 (by omega)
      · skip
        exact absurd c8 (by omega)
  · skip
    exact absurd c4 (by omega)
set_option maxHeartbeats 4000000 in
theorem xlpo_226 {c p h kd ba gk gb x ky vy st sz rm cs v0 ec lk lv : Int} (hP : xP 226 c p h S) (hl : cSl S) (l4 : S 158 4 = 226) (l5 : S 158 5 = 227) (l7 : S 158 7 = kd) (l8 : S 158 8 = ba) (l9 : S 158 9 = gk) (l10 : S 158 10 = gb) (hx : 0 ≤ x ∧ x < S 48 (-1)) (hba : 0 ≤ ba ∧ ba < h) (hx1 : pe_at (pe_GA xs).xs 1 = some (1, tx_1)) (hth : ∀ x : Nat, x < 10 → S (127 + x) (-1) = S 127 (-1)) (hn2 : S 127 (-1) ≤ 16383) (hl14 : S 142 (-1) = S 141 (-1)) (hz14 : 16 ≤ S 141 (-1) ∧ S 141 (-1) ≤ 480400) (e48 : S 48 x = 3) (hgk : gk = 6) (hgb : 0 ≤ gb ∧ gb < S 127 (-1)) (h2 : S 140 2 = cs) (hcs : 0 ≤ cs ∧ cs ≤ S 141 (-1)) (hst : S 133 gb = st) (hsz : S 134 gb = sz) (hrm : S 135 gb = rm) (hs1 : 0 ≤ st ∧ 0 ≤ sz ∧ sz ≤ rm ∧ st + rm ≤ cs) (hv0 : S 150 1 = v0) (hv1 : 0 ≤ v0 ∧ v0 ≤ 60000) (hszb : sz ≤ 60000) (l12 : S 158 12 = ec) (hlk : S 141 (st + sz - 1) = lk) (hlv : S 142 (st + sz - 1) = lv) (hlr : -128 ≤ lk ∧ lk ≤ 127) (hlw : -9223372036854775808 ≤ lv ∧ lv ≤ 9223372036854775807) (hkd : kd = 5) (hec : ec = 0) (hz0 : 0 < sz) : wJ (pe_GA xs) wY0 (mS [228, 229]) (d + 8) t_XL_act ((pe_at t_XL_act.bl 0).getD (0, [])).2 [(0, (2, 158)), (1, (0, x))] [] S (fun o Z => o = .inl none ∧ sO 226 h c p (h - ba) lk lv (w_up S 134 gb (sz - 1)) Z) := by
  obtain ⟨⟨hC, hI⟩, ⟨bc, bc0, bc1⟩, ⟨bp, bp0, bp1⟩, ⟨bh, bh0, bh1, bh2⟩, bl1, bl2, bl3⟩ := hP
  replace bp : S 231 (c - 1) = p := bp
  replace bh : S 227 2 = h := bh
  replace bh2 : h ≤ S 228 (-1) := bh2
  replace bl1 : S 229 (-1) = S 228 (-1) := bl1
  replace bl2 : 64 ≤ S 228 (-1) := bl2
  replace bl3 : S 228 (-1) ≤ 4095 := bl3
  have h35 := hl.2.1
  have h48 := hl.2.2.2
  refine wa_aload_n (n := 0) rfl ?_
  refine wb_gf4 158 rfl (wy_pr rfl) wt_158 wf_5_3 (v := 47) wl_158_3 ?_
  refine wa_iconst ?_
  refine wb_aald5 47 3 rfl rfl (wy_pr rfl) wt_47 (by rw [show _ = _ from ((cl_47 hC))]; omega) wl_47_3 ?_
  refine wa_iload_n (n := 1) rfl ?_
  refine wb_iald 51 rfl (wy_pr rfl) wt_51 (n := (S 48 (-1))) ((hl.2.2.1 3 (by decide))) (by omega) (by omega) (v := (S 51 x)) rfl (fun r1 => ?_)
  refine wa_istore_n (n := 2) rfl ?_
  refine wa_aload_n (n := 0) rfl ?_
  refine wb_gf4 158 rfl (wy_pr rfl) wt_158 wf_5_3 (v := 47) wl_158_3 ?_
  refine wa_iconst ?_
  refine wb_aald5 47 0 rfl rfl (wy_pr rfl) wt_47 (by rw [show _ = _ from ((cl_47 hC))]; omega) wl_47_0 ?_
  refine wa_iload_n (n := 1) rfl ?_
  refine wb_iald 48 rfl (wy_pr rfl) wt_48 (n := (S 48 (-1))) (rfl) (by omega) (by omega) (v := 3) (e48) (fun r2 => ?_)
  refine wa_lw (tb := 0) (w_rg0 (by omega) (by omega)) (q := (61, 3)) (by first | rfl | decide) ⟨_, rfl⟩ ?_
  refine wa_aload_n (n := 0) rfl ?_
  refine wb_gfi 158 rfl (wy_pr rfl) wt_158 wf_5_9 (v := gk) (l9) (fun r3 => ?_)
  refine wa_iconst ?_
  refine wa_icmpne (w_rg0 (by omega) (by omega)) (w_rg0 (by omega) (by omega)) ⟨_, rfl⟩ (fun c4 => ?_) (fun c4 => ?_)
  · skip
    refine wa_aload_n (n := 0) rfl ?_
    refine wb_gfi 158 rfl (wy_pr rfl) wt_158 wf_5_7 (v := kd) (l7) (fun r5 => ?_)
    refine wa_iconst ?_
    refine wa_icmpeq (w_rg0 (by omega) (by omega)) (w_rg0 (by omega) (by omega)) ⟨_, rfl⟩ (fun c6 => ?_) (fun c6 => ?_)
    · skip
      exact absurd c6 (by omega)
    · skip
      refine wa_aload_n (n := 0) rfl ?_
      refine wb_gfi 158 rfl (wy_pr rfl) wt_158 wf_5_7 (v := kd) (l7) (fun r7 => ?_)
      refine wa_iconst ?_
      refine wa_icmpne (w_rg0 (by omega) (by omega)) (w_rg0 (by omega) (by omega)) ⟨_, rfl⟩ (fun c8 => ?_) (fun c8 => ?_)
      · skip
        refine wa_aload_n (n := 0) rfl ?_
        refine wa_aload_n (n := 0) rfl ?_
        refine wb_gfl 158 rfl (wy_pr rfl) wt_158 wf_5_10 (v := gb) (l10) (fun r9 => ?_)
        refine wb_l2i_r (wb_l2i_id ⟨(by omega), (by omega)⟩) ?_
        refine wa_cv 158 rfl (wy_pr rfl) wt_158 (M2 := mS [228, 229]) rfl at_XL_actOnList ⟨_, rfl⟩ rfl rfl ⟨trivial, (Or.inr ⟨wy_pr rfl, mS_no rfl⟩), trivial, trivial⟩ trivial (fun _ _ q => q) ?_ (fun _ _ _ q => q)
        refine wa_aload_n (n := 0) rfl ?_
        refine wb_gf4 158 rfl (wy_pr rfl) wt_158 wf_5_0 (v := 72) wl_158_0 ?_
        refine wb_gf4 72 rfl (wy_pr rfl) wt_72 wf_2_2 (v := 126) wl_72_2 ?_
        refine wa_bipush (w_rg2 (by omega) (by omega)) ?_
        refine wb_aald5 126 7 rfl rfl (wy_pr rfl) wt_126 (by rw [show _ = _ from ((cl_126 hC))]; omega) wl_126_7 ?_
        refine wa_iload_n (n := 1) rfl ?_
        refine wb_iald 134 rfl (wy_pr rfl) wt_134 (n := (S 127 (-1))) ((hth 7 (by decide))) (by omega) (by omega) (v := sz) (hsz) (fun r10 => ?_)
        refine wa_istore_n (n := 2) rfl ?_
        refine wa_aload_n (n := 0) rfl ?_
        refine wb_gfi 158 rfl (wy_pr rfl) wt_158 wf_5_7 (v := kd) (l7) (fun r11 => ?_)
        refine wa_ifne (w_rg0 (by omega) (by omega)) ⟨_, rfl⟩ (fun c12 => ?_) (fun c12 => ?_)
        · skip
          refine wa_aload_n (n := 0) rfl ?_
          refine wb_gfi 158 rfl (wy_pr rfl) wt_158 wf_5_12 (v := ec) (l12) (fun r13 => ?_)
          refine wa_iconst ?_
          refine wa_icmpne (w_rg0 (by omega) (by omega)) (w_rg0 (by omega) (by omega)) ⟨_, rfl⟩ (fun c14 => ?_) (fun c14 => ?_)
          · skip
            refine wa_iload_n (n := 2) rfl ?_
            refine wa_ifne (w_rg0 (by omega) (by omega)) ⟨_, rfl⟩ (fun c15 => ?_) (fun c15 => ?_)
            · skip
              refine wa_aload_n (n := 0) rfl ?_
              refine wb_gf4 158 rfl (wy_pr rfl) wt_158 wf_5_0 (v := 72) wl_158_0 ?_
              refine wb_gf4 72 rfl (wy_pr rfl) wt_72 wf_2_2 (v := 126) wl_72_2 ?_
              refine wa_bipush (w_rg2 (by omega) (by omega)) ?_
              refine wb_aald5 126 6 rfl rfl (wy_pr rfl) wt_126 (by rw [show _ = _ from ((cl_126 hC))]; omega) wl_126_6 ?_
              refine wa_iload_n (n := 1) rfl ?_
              refine wb_iald 133 rfl (wy_pr rfl) wt_133 (n := (S 127 (-1))) ((hth 6 (by decide))) (by omega) (by omega) (v := st) (hst) (fun r16 => ?_)
              refine wa_iload_n (n := 2) rfl ?_
              refine wa_iadd ?_
              refine wa_iconst ?_
              refine wa_isub ?_
              refine wa_istore_n (n := 3) rfl ?_
              refine wa_aload_n (n := 0) rfl ?_
              refine wb_gf4 158 rfl (wy_pr rfl) wt_158 wf_5_0 (v := 72) wl_158_0 ?_
              refine wb_gf4 72 rfl (wy_pr rfl) wt_72 wf_2_2 (v := 126) wl_72_2 ?_
              refine wa_bipush (w_rg2 (by omega) (by omega)) ?_
              refine wb_aald5 126 7 rfl rfl (wy_pr rfl) wt_126 (by rw [show _ = _ from ((cl_126 hC))]; omega) wl_126_7 ?_
              refine wa_iload_n (n := 1) rfl ?_
              refine wa_dup2 (by decide) (by decide) ?_
              refine wb_iald 134 rfl (wy_pr rfl) wt_134 (n := (S 127 (-1))) ((hth 7 (by decide))) (by omega) (by omega) (v := sz) (hsz) (fun r17 => ?_)
              refine wa_iconst ?_
              refine wa_isub ?_
              refine wb_iast 134 rfl (wy_pr rfl) wt_134 (n := (S 127 (-1))) ((hth 7 (by decide))) (by omega) (by omega) ⟨(by omega), (by omega)⟩ ?_
              refine wa_aload_n (n := 0) rfl ?_
              refine wa_aload_n (n := 0) rfl ?_
              refine wb_gf4 158 rfl (wy_pr rfl) wt_158 wf_5_0 (v := 72) wl_158_0 ?_
              refine wb_gf4 72 rfl (wy_pr rfl) wt_72 wf_2_6 (v := 140) wl_72_6 ?_
              refine wb_gf4 140 rfl (wy_pr rfl) wt_140 wf_7_0 (v := 141) wl_140_0 ?_
              refine wa_iload_n (n := 3) rfl ?_
              refine wb_bald 141 rfl (wy_pr rfl) wt_141 (n := (S 141 (-1))) ((w_up_slot (by decide)).trans (rfl)) (by omega) (by omega) (v := lk) ((w_up_slot (by decide)).trans (hlk)) (fun r18 => ?_)
              refine wa_aload_n (n := 0) rfl ?_
              refine wb_gf4 158 rfl (wy_pr rfl) wt_158 wf_5_0 (v := 72) wl_158_0 ?_
              refine wb_gf4 72 rfl (wy_pr rfl) wt_72 wf_2_6 (v := 140) wl_72_6 ?_
              refine wb_gf4 140 rfl (wy_pr rfl) wt_140 wf_7_1 (v := 142) wl_140_1 ?_
              refine wa_iload_n (n := 3) rfl ?_
              refine wb_lald 142 rfl (wy_pr rfl) wt_142 (n := (S 141 (-1))) ((w_up_slot (by decide)).trans (hl14)) (by omega) (by omega) (v := lv) ((w_up_slot (by decide)).trans (hlv)) (fun r19 => ?_)
              refine wa_cv 158 rfl (wy_pr rfl) wt_158 (M2 := mS [228, 229]) rfl at_XL_giveValue ⟨_, rfl⟩ rfl rfl ⟨trivial, trivial, (Or.inr ⟨wy_pr rfl, mS_no rfl⟩), trivial, trivial⟩ trivial (fun _ _ q => mS_sub (by decide) q) (glx_226 (S := (w_up S 134 gb (sz - 1))) (k := lk) (v := lv) (h := h) (c := c) (p := p) (ba := ba) (w_CL_up hC (by omega)) (gI_up hI (by omega) (by omega) (by omega)) ((w_up_slot (by decide)).trans (l4)) ((w_up_slot (by decide)).trans (l5)) ((w_up_slot (by decide)).trans (l8)) ((w_up_slot (by decide)).trans (bc)) ((w_up_slot (by decide)).trans (bp)) ((((w_up_slot (by decide)).trans (bl1))).trans (((w_up_slot (by decide)).trans (rfl))).symm) (by have e : (w_up S 134 gb (sz - 1)) 228 (-1) = S 228 (-1) := ((w_up_slot (by decide)).trans (rfl)); rw [e]; exact ⟨bl2, bl3⟩) (by have e : (w_up S 134 gb (sz - 1)) 228 (-1) = S 228 (-1) := ((w_up_slot (by decide)).trans (rfl)); omega) ⟨by omega, by omega⟩ ⟨by omega, by omega⟩ ⟨by omega, by omega⟩ ⟨by omega, by omega⟩) (fun oq20 Sq20 hp21 q20 => ?_)
              rcases q20 with ⟨rfl, hgv20⟩
              show wJ _ _ _ _ _ _ _ _ _ _
              refine wa_fall ⟨_, rfl⟩ ?_
              refine wa_return rfl ?_
              show wJ _ _ _ _ _ _ _ _ _ _
              refine wa_goto ⟨_, rfl⟩ ?_
              refine wa_return rfl ?_
              exact ⟨rfl, hgv20⟩
            · skip
              exact absurd c15 (by omega)
          · skip
            exact absurd c14 (by omega)
        · skip
          exact absurd c12 (by omega)
      · skip
        exact absurd c8 (by omega)
  · skip
    exact absurd c4 (by omega)
set_option maxHeartbeats 4000000 in
theorem xlge_226 {c p h kd ba gk gb x ky vy st sz rm cs v0 ec k1 v1 lk lv : Int} (hP : xP 226 c p h S) (hl : cSl S) (l4 : S 158 4 = 226) (l5 : S 158 5 = 227) (l7 : S 158 7 = kd) (l8 : S 158 8 = ba) (l9 : S 158 9 = gk) (l10 : S 158 10 = gb) (hx : 0 ≤ x ∧ x < S 48 (-1)) (hba : 0 ≤ ba ∧ ba < h) (hx1 : pe_at (pe_GA xs).xs 1 = some (1, tx_1)) (hth : ∀ x : Nat, x < 10 → S (127 + x) (-1) = S 127 (-1)) (hn2 : S 127 (-1) ≤ 16383) (hl14 : S 142 (-1) = S 141 (-1)) (hz14 : 16 ≤ S 141 (-1) ∧ S 141 (-1) ≤ 480400) (e48 : S 48 x = 3) (hgk : gk = 6) (hgb : 0 ≤ gb ∧ gb < S 127 (-1)) (h2 : S 140 2 = cs) (hcs : 0 ≤ cs ∧ cs ≤ S 141 (-1)) (hst : S 133 gb = st) (hsz : S 134 gb = sz) (hrm : S 135 gb = rm) (hs1 : 0 ≤ st ∧ 0 ≤ sz ∧ sz ≤ rm ∧ st + rm ≤ cs) (hv0 : S 150 1 = v0) (hv1 : 0 ≤ v0 ∧ v0 ≤ 60000) (hszb : sz ≤ 60000) (l12 : S 158 12 = ec) (hk1 : S 228 (ba + 1) = k1) (hv1b : S 229 (ba + 1) = v1) (hb1 : ba + 1 < h) (hel : k1 = 2 → 0 ≤ v1 → v1 < sz → S 141 (st + v1) = lk ∧ S 142 (st + v1) = lv) (hlr : -128 ≤ lk ∧ lk ≤ 127) (hlw : -9223372036854775808 ≤ lv ∧ lv ≤ 9223372036854775807) (hkd : kd = 2) : wJ (pe_GA xs) wY0 (mS [228, 229]) (d + 8) t_XL_act ((pe_at t_XL_act.bl 0).getD (0, [])).2 [(0, (2, 158)), (1, (0, x))] [] S (fun o Z => o = .inl none ∧ ((¬ (k1 = 2 ∧ 0 ≤ v1 ∧ v1 < sz) ∧ w_up S 226 16 6 = Z) ∨ (k1 = 2 ∧ 0 ≤ v1 ∧ v1 < sz ∧ sO 226 h c p (h - ba) lk lv S Z))) := by
  obtain ⟨⟨hC, hI⟩, ⟨bc, bc0, bc1⟩, ⟨bp, bp0, bp1⟩, ⟨bh, bh0, bh1, bh2⟩, bl1, bl2, bl3⟩ := hP
  replace bp : S 231 (c - 1) = p := bp
  replace bh : S 227 2 = h := bh
  replace bh2 : h ≤ S 228 (-1) := bh2
  replace bl1 : S 229 (-1) = S 228 (-1) := bl1
  replace bl2 : 64 ≤ S 228 (-1) := bl2
  replace bl3 : S 228 (-1) ≤ 4095 := bl3
  have h35 := hl.2.1
  have h48 := hl.2.2.2
  refine wa_aload_n (n := 0) rfl ?_
  refine wb_gf4 158 rfl (wy_pr rfl) wt_158 wf_5_3 (v := 47) wl_158_3 ?_
  refine wa_iconst ?_
  refine wb_aald5 47 3 rfl rfl (wy_pr rfl) wt_47 (by rw [show _ = _ from ((cl_47 hC))]; omega) wl_47_3 ?_
  refine wa_iload_n (n := 1) rfl ?_
  refine wb_iald 51 rfl (wy_pr rfl) wt_51 (n := (S 48 (-1))) ((hl.2.2.1 3 (by decide))) (by omega) (by omega) (v := (S 51 x)) rfl (fun r1 => ?_)
  refine wa_istore_n (n := 2) rfl ?_
  refine wa_aload_n (n := 0) rfl ?_
  refine wb_gf4 158 rfl (wy_pr rfl) wt_158 wf_5_3 (v := 47) wl_158_3 ?_
  refine wa_iconst ?_
  refine wb_aald5 47 0 rfl rfl (wy_pr rfl) wt_47 (by rw [show _ = _ from ((cl_47 hC))]; omega) wl_47_0 ?_
  refine wa_iload_n (n := 1) rfl ?_
  refine wb_iald 48 rfl (wy_pr rfl) wt_48 (n := (S 48 (-1))) (rfl) (by omega) (by omega) (v := 3) (e48) (fun r2 => ?_)
  refine wa_lw (tb := 0) (w_rg0 (by omega) (by omega)) (q := (61, 3)) (by first | rfl | decide) ⟨_, rfl⟩ ?_
  refine wa_aload_n (n := 0) rfl ?_
  refine wb_gfi 158 rfl (wy_pr rfl) wt_158 wf_5_9 (v := gk) (l9) (fun r3 => ?_)
  refine wa_iconst ?_
  refine wa_icmpne (w_rg0 (by omega) (by omega)) (w_rg0 (by omega) (by omega)) ⟨_, rfl⟩ (fun c4 => ?_) (fun c4 => ?_)
  · skip
    refine wa_aload_n (n := 0) rfl ?_
    refine wb_gfi 158 rfl (wy_pr rfl) wt_158 wf_5_7 (v := kd) (l7) (fun r5 => ?_)
    refine wa_iconst ?_
    refine wa_icmpeq (w_rg0 (by omega) (by omega)) (w_rg0 (by omega) (by omega)) ⟨_, rfl⟩ (fun c6 => ?_) (fun c6 => ?_)
    · skip
      refine wa_aload_n (n := 0) rfl ?_
      refine wa_aload_n (n := 0) rfl ?_
      refine wb_gfl 158 rfl (wy_pr rfl) wt_158 wf_5_10 (v := gb) (l10) (fun r7 => ?_)
      refine wb_l2i_r (wb_l2i_id ⟨(by omega), (by omega)⟩) ?_
      refine wa_cv 158 rfl (wy_pr rfl) wt_158 (M2 := mS [228, 229]) rfl at_XL_actOnElement ⟨_, rfl⟩ rfl rfl ⟨trivial, (Or.inr ⟨wy_pr rfl, mS_no rfl⟩), trivial, trivial⟩ trivial (fun _ _ q => q) ?_ (fun _ _ _ q => q)
      refine wa_aload_n (n := 0) rfl ?_
      refine wb_gf5 158 rfl (wy_pr rfl) wt_158 wf_5_5 (v := 227) (l5) (fun r8 => ?_)
      refine wb_gfi 227 rfl (wy_pr rfl) wt_227 wf_7_2 (v := h) (bh) (fun r9 => ?_)
      refine wa_iconst ?_
      refine wa_isub ?_
      refine wa_istore_n (n := 2) rfl ?_
      refine wa_aload_n (n := 0) rfl ?_
      refine wb_gf4 158 rfl (wy_pr rfl) wt_158 wf_5_0 (v := 72) wl_158_0 ?_
      refine wb_gf4 72 rfl (wy_pr rfl) wt_72 wf_2_2 (v := 126) wl_72_2 ?_
      refine wa_bipush (w_rg2 (by omega) (by omega)) ?_
      refine wb_aald5 126 7 rfl rfl (wy_pr rfl) wt_126 (by rw [show _ = _ from ((cl_126 hC))]; omega) wl_126_7 ?_
      refine wa_iload_n (n := 1) rfl ?_
      refine wb_iald 134 rfl (wy_pr rfl) wt_134 (n := (S 127 (-1))) ((hth 7 (by decide))) (by omega) (by omega) (v := sz) (hsz) (fun r10 => ?_)
      refine wa_istore_n (n := 3) rfl ?_
      refine wa_aload_n (n := 0) rfl ?_
      refine wb_gfi 158 rfl (wy_pr rfl) wt_158 wf_5_7 (v := kd) (l7) (fun r11 => ?_)
      refine wa_iconst ?_
      refine wa_icmpne (w_rg0 (by omega) (by omega)) (w_rg0 (by omega) (by omega)) ⟨_, rfl⟩ (fun c12 => ?_) (fun c12 => ?_)
      · skip
        refine wa_iload_n (n := 3) rfl ?_
        refine wa_fall ⟨_, rfl⟩ ?_
        refine wa_istore (n := 4) rfl ?_
        refine wa_aload_n (n := 0) rfl ?_
        refine wb_gf5 158 rfl (wy_pr rfl) wt_158 wf_5_5 (v := 227) (l5) (fun r13 => ?_)
        refine wb_gf4 227 rfl (wy_pr rfl) wt_227 wf_7_1 (v := 229) wl_227_1 ?_
        refine wa_aload_n (n := 0) rfl ?_
        refine wb_gfi 158 rfl (wy_pr rfl) wt_158 wf_5_8 (v := ba) (l8) (fun r14 => ?_)
        refine wa_iconst ?_
        refine wa_iadd ?_
        refine wb_lald 229 rfl (wy_pr rfl) wt_229 (n := (S 228 (-1))) (bl1) (by omega) (by omega) (v := v1) (hv1b) (fun r15 => ?_)
        refine wa_lstore (n := 5) rfl ?_
        refine wa_aload_n (n := 0) rfl ?_
        refine wb_gf5 158 rfl (wy_pr rfl) wt_158 wf_5_5 (v := 227) (l5) (fun r16 => ?_)
        refine wb_gf4 227 rfl (wy_pr rfl) wt_227 wf_7_0 (v := 228) wl_227_0 ?_
        refine wa_aload_n (n := 0) rfl ?_
        refine wb_gfi 158 rfl (wy_pr rfl) wt_158 wf_5_8 (v := ba) (l8) (fun r17 => ?_)
        refine wa_iconst ?_
        refine wa_iadd ?_
        refine wb_bald 228 rfl (wy_pr rfl) wt_228 (n := (S 228 (-1))) (rfl) (by omega) (by omega) (v := k1) (hk1) (fun r18 => ?_)
        refine wa_iconst ?_
        refine wa_icmpne (w_rg0 (by omega) (by omega)) (w_rg0 (by omega) (by omega)) ⟨_, rfl⟩ (fun c19 => ?_) (fun c19 => ?_)
        · skip
          refine wa_aload_n (n := 0) rfl ?_
          refine wb_gf5 158 rfl (wy_pr rfl) wt_158 wf_5_4 (v := 226) (l4) (fun r20 => ?_)
          refine wa_bipush (w_rg2 (by omega) (by omega)) ?_
          refine wb_pfi 226 rfl (wy_pr rfl) wt_226 wf_8_16 (n := 16) rfl ⟨(by omega), (by omega)⟩ ?_
          refine wa_return rfl ?_
          show wJ _ _ _ _ _ _ _ _ _ _
          refine wa_goto ⟨_, rfl⟩ ?_
          refine wa_return rfl ?_
          exact ⟨rfl, Or.inl ⟨by omega, rfl⟩⟩
        · skip
          refine wa_lload (n := 5) rfl ?_
          refine wb_lconst (m := 0) rfl ?_
          refine wa_lcmp (w_rg1 (by omega) (by omega)) (w_rg1 (by omega) (by omega)) ?_
          refine wa_iflt (by have := @wb_lcmp_cases; exact w_lcmp_rg) ⟨_, rfl⟩ (fun c21 => ?_) (fun c21 => ?_)
          · skip
            have c21x := @wb_lcmp_cases v1 0
            refine wa_aload_n (n := 0) rfl ?_
            refine wb_gf5 158 rfl (wy_pr rfl) wt_158 wf_5_4 (v := 226) (l4) (fun r22 => ?_)
            refine wa_bipush (w_rg2 (by omega) (by omega)) ?_
            refine wb_pfi 226 rfl (wy_pr rfl) wt_226 wf_8_16 (n := 16) rfl ⟨(by omega), (by omega)⟩ ?_
            refine wa_return rfl ?_
            show wJ _ _ _ _ _ _ _ _ _ _
            refine wa_goto ⟨_, rfl⟩ ?_
            refine wa_return rfl ?_
            exact ⟨rfl, Or.inl ⟨by omega, rfl⟩⟩
          · skip
            have c21x := @wb_lcmp_cases v1 0
            refine wa_lload (n := 5) rfl ?_
            refine wa_iload (n := 4) rfl ?_
            refine wa_i2l (w_rg0 (by omega) (by omega)) ?_
            refine wa_lcmp (w_rg1 (by omega) (by omega)) (w_rg1 (by omega) (by omega)) ?_
            refine wa_iflt (by have := @wb_lcmp_cases; exact w_lcmp_rg) ⟨_, rfl⟩ (fun c23 => ?_) (fun c23 => ?_)
            · skip
              have c23x := @wb_lcmp_cases v1 sz
              refine wa_aload_n (n := 0) rfl ?_
              refine wb_gf4 158 rfl (wy_pr rfl) wt_158 wf_5_0 (v := 72) wl_158_0 ?_
              refine wb_gf4 72 rfl (wy_pr rfl) wt_72 wf_2_2 (v := 126) wl_72_2 ?_
              refine wa_bipush (w_rg2 (by omega) (by omega)) ?_
              refine wb_aald5 126 6 rfl rfl (wy_pr rfl) wt_126 (by rw [show _ = _ from ((cl_126 hC))]; omega) wl_126_6 ?_
              refine wa_iload_n (n := 1) rfl ?_
              refine wb_iald 133 rfl (wy_pr rfl) wt_133 (n := (S 127 (-1))) ((hth 6 (by decide))) (by omega) (by omega) (v := st) (hst) (fun r24 => ?_)
              refine wa_lload (n := 5) rfl ?_
              refine wb_l2i_r (wb_l2i_id ⟨(by omega), (by omega)⟩) ?_
              refine wa_iadd ?_
              refine wa_istore (n := 7) rfl ?_
              refine wa_aload_n (n := 0) rfl ?_
              refine wb_gfi 158 rfl (wy_pr rfl) wt_158 wf_5_7 (v := kd) (l7) (fun r25 => ?_)
              refine wa_iconst ?_
              refine wa_icmpne (w_rg0 (by omega) (by omega)) (w_rg0 (by omega) (by omega)) ⟨_, rfl⟩ (fun c26 => ?_) (fun c26 => ?_)
              · skip
                exact absurd c26 (by omega)
              · skip
                refine wa_aload_n (n := 0) rfl ?_
                refine wa_aload_n (n := 0) rfl ?_
                refine wb_gf4 158 rfl (wy_pr rfl) wt_158 wf_5_0 (v := 72) wl_158_0 ?_
                refine wb_gf4 72 rfl (wy_pr rfl) wt_72 wf_2_6 (v := 140) wl_72_6 ?_
                refine wb_gf4 140 rfl (wy_pr rfl) wt_140 wf_7_0 (v := 141) wl_140_0 ?_
                refine wa_iload (n := 7) rfl ?_
                refine wb_bald 141 rfl (wy_pr rfl) wt_141 (n := (S 141 (-1))) (rfl) (by omega) (by omega) (v := (S 141 (st + v1))) rfl (fun r27 => ?_)
                have he2 := hel (by omega) (by omega) (by omega)
                rw [show S 141 (st + v1) = lk from he2.1]
                refine wa_aload_n (n := 0) rfl ?_
                refine wb_gf4 158 rfl (wy_pr rfl) wt_158 wf_5_0 (v := 72) wl_158_0 ?_
                refine wb_gf4 72 rfl (wy_pr rfl) wt_72 wf_2_6 (v := 140) wl_72_6 ?_
                refine wb_gf4 140 rfl (wy_pr rfl) wt_140 wf_7_1 (v := 142) wl_140_1 ?_
                refine wa_iload (n := 7) rfl ?_
                refine wb_lald 142 rfl (wy_pr rfl) wt_142 (n := (S 141 (-1))) (hl14) (by omega) (by omega) (v := (S 142 (st + v1))) rfl (fun r28 => ?_)
                rw [show S 142 (st + v1) = lv from he2.2]
                refine wa_cv 158 rfl (wy_pr rfl) wt_158 (M2 := mS [228, 229]) rfl at_XL_giveValue ⟨_, rfl⟩ rfl rfl ⟨trivial, trivial, trivial, trivial, trivial, (Or.inr ⟨wy_pr rfl, mS_no rfl⟩), trivial, trivial⟩ trivial (fun _ _ q => mS_sub (by decide) q) (glx_226 (S := S) (k := lk) (v := lv) (h := h) (c := c) (p := p) (ba := ba) hC hI (l4) (l5) (l8) (bc) (bp) (((bl1)).trans ((rfl)).symm) (by have e : S 228 (-1) = S 228 (-1) := (rfl); rw [e]; exact ⟨bl2, bl3⟩) (by have e : S 228 (-1) = S 228 (-1) := (rfl); omega) ⟨by omega, by omega⟩ ⟨by omega, by omega⟩ ⟨by omega, by omega⟩ ⟨by omega, by omega⟩) (fun oq29 Sq29 hp30 q29 => ?_)
                rcases q29 with ⟨rfl, hgv29⟩
                show wJ _ _ _ _ _ _ _ _ _ _
                refine wa_goto ⟨_, rfl⟩ ?_
                refine wa_return rfl ?_
                show wJ _ _ _ _ _ _ _ _ _ _
                refine wa_goto ⟨_, rfl⟩ ?_
                refine wa_return rfl ?_
                exact ⟨rfl, Or.inr ⟨by omega, by omega, by omega, hgv29⟩⟩
            · skip
              have c23x := @wb_lcmp_cases v1 sz
              refine wa_fall ⟨_, rfl⟩ ?_
              refine wa_aload_n (n := 0) rfl ?_
              refine wb_gf5 158 rfl (wy_pr rfl) wt_158 wf_5_4 (v := 226) (l4) (fun r31 => ?_)
              refine wa_bipush (w_rg2 (by omega) (by omega)) ?_
              refine wb_pfi 226 rfl (wy_pr rfl) wt_226 wf_8_16 (n := 16) rfl ⟨(by omega), (by omega)⟩ ?_
              refine wa_return rfl ?_
              show wJ _ _ _ _ _ _ _ _ _ _
              refine wa_goto ⟨_, rfl⟩ ?_
              refine wa_return rfl ?_
              exact ⟨rfl, Or.inl ⟨by omega, rfl⟩⟩
      · skip
        exact absurd c12 (by omega)
    · skip
      exact absurd c6 (by omega)
  · skip
    exact absurd c4 (by omega)
set_option maxHeartbeats 4000000 in
theorem xlse_226 {c p h kd ba gk gb x ky vy st sz rm cs v0 ec k1 v1 : Int} (hP : xP 226 c p h S) (hl : cSl S) (l4 : S 158 4 = 226) (l5 : S 158 5 = 227) (l7 : S 158 7 = kd) (l8 : S 158 8 = ba) (l9 : S 158 9 = gk) (l10 : S 158 10 = gb) (hx : 0 ≤ x ∧ x < S 48 (-1)) (hba : 0 ≤ ba ∧ ba < h) (hx1 : pe_at (pe_GA xs).xs 1 = some (1, tx_1)) (hth : ∀ x : Nat, x < 10 → S (127 + x) (-1) = S 127 (-1)) (hn2 : S 127 (-1) ≤ 16383) (hl14 : S 142 (-1) = S 141 (-1)) (hz14 : 16 ≤ S 141 (-1) ∧ S 141 (-1) ≤ 480400) (e48 : S 48 x = 3) (hgk : gk = 6) (hgb : 0 ≤ gb ∧ gb < S 127 (-1)) (h2 : S 140 2 = cs) (hcs : 0 ≤ cs ∧ cs ≤ S 141 (-1)) (hst : S 133 gb = st) (hsz : S 134 gb = sz) (hrm : S 135 gb = rm) (hs1 : 0 ≤ st ∧ 0 ≤ sz ∧ sz ≤ rm ∧ st + rm ≤ cs) (hv0 : S 150 1 = v0) (hv1 : 0 ≤ v0 ∧ v0 ≤ 60000) (hszb : sz ≤ 60000) (l12 : S 158 12 = ec) (hky : S 228 (h - 1) = ky) (hvy : S 229 (h - 1) = vy) (hkr : -128 ≤ ky ∧ ky ≤ 127) (hvr : -9223372036854775808 ≤ vy ∧ vy ≤ 9223372036854775807) (hk1 : S 228 (ba + 1) = k1) (hv1b : S 229 (ba + 1) = v1) (hb1 : ba + 1 < h) (hkd : kd = 3) : wJ (pe_GA xs) wY0 (mS [228, 229, 141, 142]) (d + 8) t_XL_act ((pe_at t_XL_act.bl 0).getD (0, [])).2 [(0, (2, 158)), (1, (0, x))] [] S (fun o Z => o = .inl none ∧ ((¬ (k1 = 2 ∧ 0 ≤ v1 ∧ v1 ≤ sz) ∧ w_up S 226 16 6 = Z) ∨ (k1 = 2 ∧ 0 ≤ v1 ∧ v1 < sz ∧ sO 226 h c p (h - ba) ky vy (w_up (w_up S 141 (st + v1) ky) 142 (st + v1) vy) Z) ∨ (k1 = 2 ∧ v1 = sz ∧ 60000 ≤ v0 ∧ w_up S 226 16 99 = Z) ∨ (k1 = 2 ∧ v1 = sz ∧ v0 < 60000 ∧ ∃ A : wS, avH_ag gb ky vy S A ∧ sO 226 h c p (h - ba) ky vy A Z))) := by
  obtain ⟨⟨hC, hI⟩, ⟨bc, bc0, bc1⟩, ⟨bp, bp0, bp1⟩, ⟨bh, bh0, bh1, bh2⟩, bl1, bl2, bl3⟩ := hP
  replace bp : S 231 (c - 1) = p := bp
  replace bh : S 227 2 = h := bh
  replace bh2 : h ≤ S 228 (-1) := bh2
  replace bl1 : S 229 (-1) = S 228 (-1) := bl1
  replace bl2 : 64 ≤ S 228 (-1) := bl2
  replace bl3 : S 228 (-1) ≤ 4095 := bl3
  have h35 := hl.2.1
  have h48 := hl.2.2.2
  refine wa_aload_n (n := 0) rfl ?_
  refine wb_gf4 158 rfl (wy_pr rfl) wt_158 wf_5_3 (v := 47) wl_158_3 ?_
  refine wa_iconst ?_
  refine wb_aald5 47 3 rfl rfl (wy_pr rfl) wt_47 (by rw [show _ = _ from ((cl_47 hC))]; omega) wl_47_3 ?_
  refine wa_iload_n (n := 1) rfl ?_
  refine wb_iald 51 rfl (wy_pr rfl) wt_51 (n := (S 48 (-1))) ((hl.2.2.1 3 (by decide))) (by omega) (by omega) (v := (S 51 x)) rfl (fun r1 => ?_)
  refine wa_istore_n (n := 2) rfl ?_
  refine wa_aload_n (n := 0) rfl ?_
  refine wb_gf4 158 rfl (wy_pr rfl) wt_158 wf_5_3 (v := 47) wl_158_3 ?_
  refine wa_iconst ?_
  refine wb_aald5 47 0 rfl rfl (wy_pr rfl) wt_47 (by rw [show _ = _ from ((cl_47 hC))]; omega) wl_47_0 ?_
  refine wa_iload_n (n := 1) rfl ?_
  refine wb_iald 48 rfl (wy_pr rfl) wt_48 (n := (S 48 (-1))) (rfl) (by omega) (by omega) (v := 3) (e48) (fun r2 => ?_)
  refine wa_lw (tb := 0) (w_rg0 (by omega) (by omega)) (q := (61, 3)) (by first | rfl | decide) ⟨_, rfl⟩ ?_
  refine wa_aload_n (n := 0) rfl ?_
  refine wb_gfi 158 rfl (wy_pr rfl) wt_158 wf_5_9 (v := gk) (l9) (fun r3 => ?_)
  refine wa_iconst ?_
  refine wa_icmpne (w_rg0 (by omega) (by omega)) (w_rg0 (by omega) (by omega)) ⟨_, rfl⟩ (fun c4 => ?_) (fun c4 => ?_)
  · skip
    refine wa_aload_n (n := 0) rfl ?_
    refine wb_gfi 158 rfl (wy_pr rfl) wt_158 wf_5_7 (v := kd) (l7) (fun r5 => ?_)
    refine wa_iconst ?_
    refine wa_icmpeq (w_rg0 (by omega) (by omega)) (w_rg0 (by omega) (by omega)) ⟨_, rfl⟩ (fun c6 => ?_) (fun c6 => ?_)
    · skip
      exact absurd c6 (by omega)
    · skip
      refine wa_aload_n (n := 0) rfl ?_
      refine wb_gfi 158 rfl (wy_pr rfl) wt_158 wf_5_7 (v := kd) (l7) (fun r7 => ?_)
      refine wa_iconst ?_
      refine wa_icmpne (w_rg0 (by omega) (by omega)) (w_rg0 (by omega) (by omega)) ⟨_, rfl⟩ (fun c8 => ?_) (fun c8 => ?_)
      · skip
        exact absurd c8 (by omega)
      · skip
        refine wa_fall ⟨_, rfl⟩ ?_
        refine wa_aload_n (n := 0) rfl ?_
        refine wa_aload_n (n := 0) rfl ?_
        refine wb_gfl 158 rfl (wy_pr rfl) wt_158 wf_5_10 (v := gb) (l10) (fun r9 => ?_)
        refine wb_l2i_r (wb_l2i_id ⟨(by omega), (by omega)⟩) ?_
        refine wa_cv 158 rfl (wy_pr rfl) wt_158 (M2 := mS [228, 229, 141, 142]) rfl at_XL_actOnElement ⟨_, rfl⟩ rfl rfl ⟨trivial, (Or.inr ⟨wy_pr rfl, mS_no rfl⟩), trivial, trivial⟩ trivial (fun _ _ q => q) ?_ (fun _ _ _ q => q)
        refine wa_aload_n (n := 0) rfl ?_
        refine wb_gf5 158 rfl (wy_pr rfl) wt_158 wf_5_5 (v := 227) (l5) (fun r10 => ?_)
        refine wb_gfi 227 rfl (wy_pr rfl) wt_227 wf_7_2 (v := h) (bh) (fun r11 => ?_)
        refine wa_iconst ?_
        refine wa_isub ?_
        refine wa_istore_n (n := 2) rfl ?_
        refine wa_aload_n (n := 0) rfl ?_
        refine wb_gf4 158 rfl (wy_pr rfl) wt_158 wf_5_0 (v := 72) wl_158_0 ?_
        refine wb_gf4 72 rfl (wy_pr rfl) wt_72 wf_2_2 (v := 126) wl_72_2 ?_
        refine wa_bipush (w_rg2 (by omega) (by omega)) ?_
        refine wb_aald5 126 7 rfl rfl (wy_pr rfl) wt_126 (by rw [show _ = _ from ((cl_126 hC))]; omega) wl_126_7 ?_
        refine wa_iload_n (n := 1) rfl ?_
        refine wb_iald 134 rfl (wy_pr rfl) wt_134 (n := (S 127 (-1))) ((hth 7 (by decide))) (by omega) (by omega) (v := sz) (hsz) (fun r12 => ?_)
        refine wa_istore_n (n := 3) rfl ?_
        refine wa_aload_n (n := 0) rfl ?_
        refine wb_gfi 158 rfl (wy_pr rfl) wt_158 wf_5_7 (v := kd) (l7) (fun r13 => ?_)
        refine wa_iconst ?_
        refine wa_icmpne (w_rg0 (by omega) (by omega)) (w_rg0 (by omega) (by omega)) ⟨_, rfl⟩ (fun c14 => ?_) (fun c14 => ?_)
        · skip
          exact absurd c14 (by omega)
        · skip
          refine wa_iload_n (n := 3) rfl ?_
          refine wa_iconst ?_
          refine wa_iadd ?_
          refine wa_goto ⟨_, rfl⟩ ?_
          refine wa_istore (n := 4) rfl ?_
          refine wa_aload_n (n := 0) rfl ?_
          refine wb_gf5 158 rfl (wy_pr rfl) wt_158 wf_5_5 (v := 227) (l5) (fun r15 => ?_)
          refine wb_gf4 227 rfl (wy_pr rfl) wt_227 wf_7_1 (v := 229) wl_227_1 ?_
          refine wa_aload_n (n := 0) rfl ?_
          refine wb_gfi 158 rfl (wy_pr rfl) wt_158 wf_5_8 (v := ba) (l8) (fun r16 => ?_)
          refine wa_iconst ?_
          refine wa_iadd ?_
          refine wb_lald 229 rfl (wy_pr rfl) wt_229 (n := (S 228 (-1))) (bl1) (by omega) (by omega) (v := v1) (hv1b) (fun r17 => ?_)
          refine wa_lstore (n := 5) rfl ?_
          refine wa_aload_n (n := 0) rfl ?_
          refine wb_gf5 158 rfl (wy_pr rfl) wt_158 wf_5_5 (v := 227) (l5) (fun r18 => ?_)
          refine wb_gf4 227 rfl (wy_pr rfl) wt_227 wf_7_0 (v := 228) wl_227_0 ?_
          refine wa_aload_n (n := 0) rfl ?_
          refine wb_gfi 158 rfl (wy_pr rfl) wt_158 wf_5_8 (v := ba) (l8) (fun r19 => ?_)
          refine wa_iconst ?_
          refine wa_iadd ?_
          refine wb_bald 228 rfl (wy_pr rfl) wt_228 (n := (S 228 (-1))) (rfl) (by omega) (by omega) (v := k1) (hk1) (fun r20 => ?_)
          refine wa_iconst ?_
          refine wa_icmpne (w_rg0 (by omega) (by omega)) (w_rg0 (by omega) (by omega)) ⟨_, rfl⟩ (fun c21 => ?_) (fun c21 => ?_)
          · skip
            refine wa_aload_n (n := 0) rfl ?_
            refine wb_gf5 158 rfl (wy_pr rfl) wt_158 wf_5_4 (v := 226) (l4) (fun r22 => ?_)
            refine wa_bipush (w_rg2 (by omega) (by omega)) ?_
            refine wb_pfi 226 rfl (wy_pr rfl) wt_226 wf_8_16 (n := 16) rfl ⟨(by omega), (by omega)⟩ ?_
            refine wa_return rfl ?_
            show wJ _ _ _ _ _ _ _ _ _ _
            refine wa_goto ⟨_, rfl⟩ ?_
            refine wa_return rfl ?_
            exact ⟨rfl, Or.inl ⟨by omega, rfl⟩⟩
          · skip
            refine wa_lload (n := 5) rfl ?_
            refine wb_lconst (m := 0) rfl ?_
            refine wa_lcmp (w_rg1 (by omega) (by omega)) (w_rg1 (by omega) (by omega)) ?_
            refine wa_iflt (by have := @wb_lcmp_cases; exact w_lcmp_rg) ⟨_, rfl⟩ (fun c23 => ?_) (fun c23 => ?_)
            · skip
              have c23x := @wb_lcmp_cases v1 0
              refine wa_aload_n (n := 0) rfl ?_
              refine wb_gf5 158 rfl (wy_pr rfl) wt_158 wf_5_4 (v := 226) (l4) (fun r24 => ?_)
              refine wa_bipush (w_rg2 (by omega) (by omega)) ?_
              refine wb_pfi 226 rfl (wy_pr rfl) wt_226 wf_8_16 (n := 16) rfl ⟨(by omega), (by omega)⟩ ?_
              refine wa_return rfl ?_
              show wJ _ _ _ _ _ _ _ _ _ _
              refine wa_goto ⟨_, rfl⟩ ?_
              refine wa_return rfl ?_
              exact ⟨rfl, Or.inl ⟨by omega, rfl⟩⟩
            · skip
              have c23x := @wb_lcmp_cases v1 0
              refine wa_lload (n := 5) rfl ?_
              refine wa_iload (n := 4) rfl ?_
              refine wa_i2l (w_rg0 (by omega) (by omega)) ?_
              refine wa_lcmp (w_rg1 (by omega) (by omega)) (w_rg1 (by omega) (by omega)) ?_
              refine wa_iflt (by have := @wb_lcmp_cases; exact w_lcmp_rg) ⟨_, rfl⟩ (fun c25 => ?_) (fun c25 => ?_)
              · skip
                have c25x := @wb_lcmp_cases v1 (sz + 1)
                refine wa_aload_n (n := 0) rfl ?_
                refine wb_gf4 158 rfl (wy_pr rfl) wt_158 wf_5_0 (v := 72) wl_158_0 ?_
                refine wb_gf4 72 rfl (wy_pr rfl) wt_72 wf_2_2 (v := 126) wl_72_2 ?_
                refine wa_bipush (w_rg2 (by omega) (by omega)) ?_
                refine wb_aald5 126 6 rfl rfl (wy_pr rfl) wt_126 (by rw [show _ = _ from ((cl_126 hC))]; omega) wl_126_6 ?_
                refine wa_iload_n (n := 1) rfl ?_
                refine wb_iald 133 rfl (wy_pr rfl) wt_133 (n := (S 127 (-1))) ((hth 6 (by decide))) (by omega) (by omega) (v := st) (hst) (fun r26 => ?_)
                refine wa_lload (n := 5) rfl ?_
                refine wb_l2i_r (wb_l2i_id ⟨(by omega), (by omega)⟩) ?_
                refine wa_iadd ?_
                refine wa_istore (n := 7) rfl ?_
                refine wa_aload_n (n := 0) rfl ?_
                refine wb_gfi 158 rfl (wy_pr rfl) wt_158 wf_5_7 (v := kd) (l7) (fun r27 => ?_)
                refine wa_iconst ?_
                refine wa_icmpne (w_rg0 (by omega) (by omega)) (w_rg0 (by omega) (by omega)) ⟨_, rfl⟩ (fun c28 => ?_) (fun c28 => ?_)
                · skip
                  refine wa_lload (n := 5) rfl ?_
                  refine wa_iload_n (n := 3) rfl ?_
                  refine wa_i2l (w_rg0 (by omega) (by omega)) ?_
                  refine wa_lcmp (w_rg1 (by omega) (by omega)) (w_rg1 (by omega) (by omega)) ?_
                  refine wa_ifge (by have := @wb_lcmp_cases; exact w_lcmp_rg) ⟨_, rfl⟩ (fun c29 => ?_) (fun c29 => ?_)
                  · skip
                    have c29x := @wb_lcmp_cases v1 sz
                    refine wa_aload_n (n := 0) rfl ?_
                    refine wa_iload_n (n := 1) rfl ?_
                    refine wa_cv 158 rfl (wy_pr rfl) wt_158 (M2 := mS [228, 229, 141, 142]) rfl at_XL_addElement ⟨_, rfl⟩ rfl rfl ⟨trivial, trivial, trivial, trivial, trivial, (Or.inr ⟨wy_pr rfl, mS_no rfl⟩), trivial, trivial⟩ trivial (fun _ _ q => q) ?_ (fun _ _ _ q => q)
                    refine wa_aload_n (n := 0) rfl ?_
                    refine wb_gf5 158 rfl (wy_pr rfl) wt_158 wf_5_5 (v := 227) (l5) (fun r30 => ?_)
                    refine wb_gfi 227 rfl (wy_pr rfl) wt_227 wf_7_2 (v := h) (bh) (fun r31 => ?_)
                    refine wa_iconst ?_
                    refine wa_isub ?_
                    refine wa_istore_n (n := 2) rfl ?_
                    refine wa_aload_n (n := 0) rfl ?_
                    refine wb_gf4 158 rfl (wy_pr rfl) wt_158 wf_5_0 (v := 72) wl_158_0 ?_
                    refine wa_iconst ?_
                    refine wa_iconst ?_
                    refine wa_cv 72 rfl (wy_pr rfl) wt_72 (M2 := mS [228, 229, 141, 142]) rfl at_XH_hasRoom ⟨_, rfl⟩ rfl rfl ⟨trivial, (Or.inr ⟨wy_pr rfl, mS_no rfl⟩), trivial, trivial⟩ trivial (fun _ _ q => q) ?_ (fun _ _ _ q => q)
                    refine wa_aload_n (n := 0) rfl ?_
                    refine wb_gf4 72 rfl (wy_pr rfl) wt_72 wf_2_10 (v := 150) wl_72_10 ?_
                    refine wa_iload_n (n := 1) rfl ?_
                    refine wb_iald 150 rfl (wy_pr rfl) wt_150 (n := 6) ((cl_150 hC)) (by omega) (by omega) (v := v0) (hv0) (fun r32 => ?_)
                    refine wa_iload_n (n := 2) rfl ?_
                    refine wa_iadd ?_
                    refine wa_gs ?_
                    refine wa_iload_n (n := 1) rfl ?_
                    refine wb_xald 1 rfl hx1 (by decide) (by omega) (by decide) (v := 60000) (by decide) (fun r33 => ?_)
                    refine wa_icmpgt (w_rg0 (by omega) (by omega)) (w_rg0 (by omega) (by omega)) ⟨_, rfl⟩ (fun c34 => ?_) (fun c34 => ?_)
                    · skip
                      refine wa_iconst ?_
                      refine wa_fall ⟨_, rfl⟩ ?_
                      refine wa_zreturn rfl (Or.inl rfl) ?_
                      show wJ _ _ _ _ _ _ _ _ _ _
                      refine wa_ifne (w_rg0 (by omega) (by omega)) ⟨_, rfl⟩ (fun c35 => ?_) (fun c35 => ?_)
                      · skip
                        exact absurd c35 (by omega)
                      · skip
                        refine wa_aload_n (n := 0) rfl ?_
                        refine wb_gf5 158 rfl (wy_pr rfl) wt_158 wf_5_4 (v := 226) (l4) (fun r36 => ?_)
                        refine wa_bipush (w_rg2 (by omega) (by omega)) ?_
                        refine wb_pfi 226 rfl (wy_pr rfl) wt_226 wf_8_16 (n := 16) rfl ⟨(by omega), (by omega)⟩ ?_
                        refine wa_iconst ?_
                        refine wa_zreturn rfl (Or.inl rfl) ?_
                        show wJ _ _ _ _ _ _ _ _ _ _
                        refine wa_ifeq (w_rg0 (by omega) (by omega)) ⟨_, rfl⟩ (fun c37 => ?_) (fun c37 => ?_)
                        · skip
                          refine wa_return rfl ?_
                          show wJ _ _ _ _ _ _ _ _ _ _
                          refine wa_goto ⟨_, rfl⟩ ?_
                          refine wa_return rfl ?_
                          exact ⟨rfl, Or.inr (Or.inr (Or.inl ⟨by omega, by omega, by omega, rfl⟩))⟩
                        · skip
                          exact absurd c37 (by omega)
                    · skip
                      refine wa_iconst ?_
                      refine wa_goto ⟨_, rfl⟩ ?_
                      refine wa_zreturn rfl (Or.inr rfl) ?_
                      show wJ _ _ _ _ _ _ _ _ _ _
                      refine wa_ifne (w_rg0 (by omega) (by omega)) ⟨_, rfl⟩ (fun c38 => ?_) (fun c38 => ?_)
                      · skip
                        refine wa_aload_n (n := 0) rfl ?_
                        refine wb_gf4 158 rfl (wy_pr rfl) wt_158 wf_5_0 (v := 72) wl_158_0 ?_
                        refine wa_iload_n (n := 1) rfl ?_
                        refine wa_aload_n (n := 0) rfl ?_
                        refine wb_gf5 158 rfl (wy_pr rfl) wt_158 wf_5_5 (v := 227) (l5) (fun r39 => ?_)
                        refine wb_gf4 227 rfl (wy_pr rfl) wt_227 wf_7_0 (v := 228) wl_227_0 ?_
                        refine wa_iload_n (n := 2) rfl ?_
                        refine wb_bald 228 rfl (wy_pr rfl) wt_228 (n := (S 228 (-1))) (rfl) (by omega) (by omega) (v := ky) (hky) (fun r40 => ?_)
                        refine wa_aload_n (n := 0) rfl ?_
                        refine wb_gf5 158 rfl (wy_pr rfl) wt_158 wf_5_5 (v := 227) (l5) (fun r41 => ?_)
                        refine wb_gf4 227 rfl (wy_pr rfl) wt_227 wf_7_1 (v := 229) wl_227_1 ?_
                        refine wa_iload_n (n := 2) rfl ?_
                        refine wb_lald 229 rfl (wy_pr rfl) wt_229 (n := (S 228 (-1))) (bl1) (by omega) (by omega) (v := vy) (hvy) (fun r42 => ?_)
                        refine wa_cv 72 rfl (wy_pr rfl) wt_72 (M2 := mS [141, 142]) rfl at_XH_addValue ⟨_, rfl⟩ rfl rfl ⟨trivial, (Or.inr ⟨wy_pr rfl, mS_no rfl⟩), trivial, trivial⟩ trivial (fun _ _ q => mS_sub (by decide) q) (avH_ok (S := S) (k := gb) (kd := ky) (bt := vy) (st := st) (sz := sz) (rm := rm) (cs := cs) (v0 := v0) hC hI h2 hcs hl14 hz14 hth hgb hn2 hst hsz hrm hs1 hv0 hv1 (by omega) hkr hvr) (fun oq43 Sq43 hp44 q43 => ?_)
                        rcases q43 with ⟨rfl, hav⟩
                        show wJ _ _ _ _ _ _ _ _ _ _
                        refine wa_iconst ?_
                        refine wa_zreturn rfl (Or.inr rfl) ?_
                        show wJ _ _ _ _ _ _ _ _ _ _
                        refine wa_ifeq (w_rg0 (by omega) (by omega)) ⟨_, rfl⟩ (fun c45 => ?_) (fun c45 => ?_)
                        · skip
                          exact absurd c45 (by omega)
                        · skip
                          refine wa_aload_n (n := 0) rfl ?_
                          refine wa_aload_n (n := 0) rfl ?_
                          refine wb_gf5 158 rfl (wy_pr rfl) wt_158 wf_5_5 (v := 227) (((hav.2.2.2.2.2.2.1 158 5 (by decide) (by decide) (by decide) (by decide) (Or.inl (by decide)) (by omega) (by omega)).trans (l5))) (fun r46 => ?_)
                          refine wb_gf4 227 rfl (wy_pr rfl) wt_227 wf_7_0 (v := 228) wl_227_0 ?_
                          refine wa_iload_n (n := 2) rfl ?_
                          refine wb_bald 228 rfl (wy_pr rfl) wt_228 (n := (S 228 (-1))) (((hav.2.2.2.2.2.2.1 228 (-1) (by decide) (by decide) (by decide) (by decide) (Or.inl (by decide)) (by omega) (by omega)).trans (rfl))) (by omega) (by omega) (v := ky) (((hav.2.2.2.2.2.2.1 228 (h - 1) (by decide) (by decide) (by decide) (by decide) (Or.inl (by decide)) (by omega) (by omega)).trans (hky))) (fun r47 => ?_)
                          refine wa_aload_n (n := 0) rfl ?_
                          refine wb_gf5 158 rfl (wy_pr rfl) wt_158 wf_5_5 (v := 227) (((hav.2.2.2.2.2.2.1 158 5 (by decide) (by decide) (by decide) (by decide) (Or.inl (by decide)) (by omega) (by omega)).trans (l5))) (fun r48 => ?_)
                          refine wb_gf4 227 rfl (wy_pr rfl) wt_227 wf_7_1 (v := 229) wl_227_1 ?_
                          refine wa_iload_n (n := 2) rfl ?_
                          refine wb_lald 229 rfl (wy_pr rfl) wt_229 (n := (S 228 (-1))) (((hav.2.2.2.2.2.2.1 229 (-1) (by decide) (by decide) (by decide) (by decide) (Or.inl (by decide)) (by omega) (by omega)).trans (bl1))) (by omega) (by omega) (v := vy) (((hav.2.2.2.2.2.2.1 229 (h - 1) (by decide) (by decide) (by decide) (by decide) (Or.inl (by decide)) (by omega) (by omega)).trans (hvy))) (fun r49 => ?_)
                          refine wa_cv 158 rfl (wy_pr rfl) wt_158 (M2 := mS [228, 229]) rfl at_XL_giveValue ⟨_, rfl⟩ rfl rfl ⟨trivial, trivial, trivial, trivial, trivial, (Or.inr ⟨wy_pr rfl, mS_no rfl⟩), trivial, trivial⟩ trivial (fun _ _ q => mS_sub (by decide) q) (glx_226 (S := Sq43) (k := ky) (v := vy) (h := h) (c := c) (p := p) (ba := ba) (avH_cl hC hav hgb.1) hav.2.2.2.2.2.2.2.1 (((hav.2.2.2.2.2.2.1 158 4 (by decide) (by decide) (by decide) (by decide) (Or.inl (by decide)) (by omega) (by omega)).trans (l4))) (((hav.2.2.2.2.2.2.1 158 5 (by decide) (by decide) (by decide) (by decide) (Or.inl (by decide)) (by omega) (by omega)).trans (l5))) (((hav.2.2.2.2.2.2.1 158 8 (by decide) (by decide) (by decide) (by decide) (Or.inl (by decide)) (by omega) (by omega)).trans (l8))) (((hav.2.2.2.2.2.2.1 226 4 (by decide) (by decide) (by decide) (by decide) (Or.inl (by decide)) (by omega) (by omega)).trans (bc))) (((hav.2.2.2.2.2.2.1 231 (c - 1) (by decide) (by decide) (by decide) (by decide) (Or.inl (by decide)) (by omega) (by omega)).trans (bp))) (((((hav.2.2.2.2.2.2.1 229 (-1) (by decide) (by decide) (by decide) (by decide) (Or.inl (by decide)) (by omega) (by omega)).trans (bl1)))).trans ((((hav.2.2.2.2.2.2.1 228 (-1) (by decide) (by decide) (by decide) (by decide) (Or.inl (by decide)) (by omega) (by omega)).trans (rfl)))).symm) (by have e : Sq43 228 (-1) = S 228 (-1) := (((hav.2.2.2.2.2.2.1 228 (-1) (by decide) (by decide) (by decide) (by decide) (Or.inl (by decide)) (by omega) (by omega)).trans (rfl))); rw [e]; exact ⟨bl2, bl3⟩) (by have e : Sq43 228 (-1) = S 228 (-1) := (((hav.2.2.2.2.2.2.1 228 (-1) (by decide) (by decide) (by decide) (by decide) (Or.inl (by decide)) (by omega) (by omega)).trans (rfl))); omega) ⟨by omega, by omega⟩ ⟨by omega, by omega⟩ ⟨by omega, by omega⟩ ⟨by omega, by omega⟩) (fun oq50 Sq50 hp51 q50 => ?_)
                          rcases q50 with ⟨rfl, hgv50⟩
                          show wJ _ _ _ _ _ _ _ _ _ _
                          refine wa_fall ⟨_, rfl⟩ ?_
                          refine wa_return rfl ?_
                          show wJ _ _ _ _ _ _ _ _ _ _
                          refine wa_goto ⟨_, rfl⟩ ?_
                          refine wa_return rfl ?_
                          exact ⟨rfl, Or.inr (Or.inr (Or.inr ⟨by omega, by omega, by omega, Sq43, hav, hgv50⟩))⟩
                      · skip
                        exact absurd c38 (by omega)
                  · skip
                    have c29x := @wb_lcmp_cases v1 sz
                    refine wa_aload_n (n := 0) rfl ?_
                    refine wb_gf4 158 rfl (wy_pr rfl) wt_158 wf_5_0 (v := 72) wl_158_0 ?_
                    refine wb_gf4 72 rfl (wy_pr rfl) wt_72 wf_2_6 (v := 140) wl_72_6 ?_
                    refine wa_iload (n := 7) rfl ?_
                    refine wa_aload_n (n := 0) rfl ?_
                    refine wb_gf5 158 rfl (wy_pr rfl) wt_158 wf_5_5 (v := 227) (l5) (fun r52 => ?_)
                    refine wb_gf4 227 rfl (wy_pr rfl) wt_227 wf_7_0 (v := 228) wl_227_0 ?_
                    refine wa_iload_n (n := 2) rfl ?_
                    refine wb_bald 228 rfl (wy_pr rfl) wt_228 (n := (S 228 (-1))) (rfl) (by omega) (by omega) (v := ky) (hky) (fun r53 => ?_)
                    refine wa_aload_n (n := 0) rfl ?_
                    refine wb_gf5 158 rfl (wy_pr rfl) wt_158 wf_5_5 (v := 227) (l5) (fun r54 => ?_)
                    refine wb_gf4 227 rfl (wy_pr rfl) wt_227 wf_7_1 (v := 229) wl_227_1 ?_
                    refine wa_iload_n (n := 2) rfl ?_
                    refine wb_lald 229 rfl (wy_pr rfl) wt_229 (n := (S 228 (-1))) (bl1) (by omega) (by omega) (v := vy) (hvy) (fun r55 => ?_)
                    refine wa_cv 140 rfl (wy_pr rfl) wt_140 (M2 := mS [228, 229, 141, 142]) rfl at_XV_put ⟨_, rfl⟩ rfl rfl ⟨trivial, trivial, trivial, trivial, trivial, (Or.inr ⟨wy_pr rfl, mS_no rfl⟩), trivial, trivial⟩ trivial (fun _ _ q => q) ?_ (fun _ _ _ q => q)
                    refine wa_aload_n (n := 0) rfl ?_
                    refine wb_gf4 140 rfl (wy_pr rfl) wt_140 wf_7_0 (v := 141) wl_140_0 ?_
                    refine wa_iload_n (n := 1) rfl ?_
                    refine wa_iload_n (n := 2) rfl ?_
                    refine wb_i2b_r (wb_i2b_id ⟨(by omega), (by omega)⟩) ?_
                    refine wb_bast 141 rfl (wy_pr rfl) wt_141 (n := (S 141 (-1))) (rfl) (by omega) (by omega) ⟨(by omega), (by omega)⟩ ?_
                    refine wa_aload_n (n := 0) rfl ?_
                    refine wb_gf4 140 rfl (wy_pr rfl) wt_140 wf_7_1 (v := 142) wl_140_1 ?_
                    refine wa_iload_n (n := 1) rfl ?_
                    refine wa_lload_n (n := 3) rfl ?_
                    refine wb_last 142 rfl (wy_pr rfl) wt_142 (n := (S 141 (-1))) ((w_up_slot (by decide)).trans (hl14)) (by omega) (by omega) ⟨(by omega), (by omega)⟩ ?_
                    refine wa_return rfl ?_
                    show wJ _ _ _ _ _ _ _ _ _ _
                    refine wa_aload_n (n := 0) rfl ?_
                    refine wa_aload_n (n := 0) rfl ?_
                    refine wb_gf5 158 rfl (wy_pr rfl) wt_158 wf_5_5 (v := 227) ((w_up_slot (by decide)).trans ((w_up_slot (by decide)).trans (l5))) (fun r56 => ?_)
                    refine wb_gf4 227 rfl (wy_pr rfl) wt_227 wf_7_0 (v := 228) wl_227_0 ?_
                    refine wa_iload_n (n := 2) rfl ?_
                    refine wb_bald 228 rfl (wy_pr rfl) wt_228 (n := (S 228 (-1))) ((w_up_slot (by decide)).trans ((w_up_slot (by decide)).trans (rfl))) (by omega) (by omega) (v := ky) ((w_up_slot (by decide)).trans ((w_up_slot (by decide)).trans (hky))) (fun r57 => ?_)
                    refine wa_aload_n (n := 0) rfl ?_
                    refine wb_gf5 158 rfl (wy_pr rfl) wt_158 wf_5_5 (v := 227) ((w_up_slot (by decide)).trans ((w_up_slot (by decide)).trans (l5))) (fun r58 => ?_)
                    refine wb_gf4 227 rfl (wy_pr rfl) wt_227 wf_7_1 (v := 229) wl_227_1 ?_
                    refine wa_iload_n (n := 2) rfl ?_
                    refine wb_lald 229 rfl (wy_pr rfl) wt_229 (n := (S 228 (-1))) ((w_up_slot (by decide)).trans ((w_up_slot (by decide)).trans (bl1))) (by omega) (by omega) (v := vy) ((w_up_slot (by decide)).trans ((w_up_slot (by decide)).trans (hvy))) (fun r59 => ?_)
                    refine wa_cv 158 rfl (wy_pr rfl) wt_158 (M2 := mS [228, 229]) rfl at_XL_giveValue ⟨_, rfl⟩ rfl rfl ⟨trivial, trivial, trivial, trivial, trivial, (Or.inr ⟨wy_pr rfl, mS_no rfl⟩), trivial, trivial⟩ trivial (fun _ _ q => mS_sub (by decide) q) (glx_226 (S := (w_up (w_up S 141 (st + v1) ky) 142 (st + v1) vy)) (k := ky) (v := vy) (h := h) (c := c) (p := p) (ba := ba) (w_CL_up (w_CL_up hC (by omega)) (by omega)) (gI_up (gI_up hI (by omega) (by omega) (by omega)) (by omega) (by omega) (by omega)) ((w_up_slot (by decide)).trans ((w_up_slot (by decide)).trans (l4))) ((w_up_slot (by decide)).trans ((w_up_slot (by decide)).trans (l5))) ((w_up_slot (by decide)).trans ((w_up_slot (by decide)).trans (l8))) ((w_up_slot (by decide)).trans ((w_up_slot (by decide)).trans (bc))) ((w_up_slot (by decide)).trans ((w_up_slot (by decide)).trans (bp))) ((((w_up_slot (by decide)).trans ((w_up_slot (by decide)).trans (bl1)))).trans (((w_up_slot (by decide)).trans ((w_up_slot (by decide)).trans (rfl)))).symm) (by have e : (w_up (w_up S 141 (st + v1) ky) 142 (st + v1) vy) 228 (-1) = S 228 (-1) := ((w_up_slot (by decide)).trans ((w_up_slot (by decide)).trans (rfl))); rw [e]; exact ⟨bl2, bl3⟩) (by have e : (w_up (w_up S 141 (st + v1) ky) 142 (st + v1) vy) 228 (-1) = S 228 (-1) := ((w_up_slot (by decide)).trans ((w_up_slot (by decide)).trans (rfl))); omega) ⟨by omega, by omega⟩ ⟨by omega, by omega⟩ ⟨by omega, by omega⟩ ⟨by omega, by omega⟩) (fun oq60 Sq60 hp61 q60 => ?_)
                    rcases q60 with ⟨rfl, hgv60⟩
                    show wJ _ _ _ _ _ _ _ _ _ _
                    refine wa_goto ⟨_, rfl⟩ ?_
                    refine wa_return rfl ?_
                    show wJ _ _ _ _ _ _ _ _ _ _
                    refine wa_goto ⟨_, rfl⟩ ?_
                    refine wa_return rfl ?_
                    exact ⟨rfl, Or.inr (Or.inl ⟨by omega, by omega, by omega, hgv60⟩)⟩
                · skip
                  exact absurd c28 (by omega)
              · skip
                have c25x := @wb_lcmp_cases v1 (sz + 1)
                refine wa_fall ⟨_, rfl⟩ ?_
                refine wa_aload_n (n := 0) rfl ?_
                refine wb_gf5 158 rfl (wy_pr rfl) wt_158 wf_5_4 (v := 226) (l4) (fun r62 => ?_)
                refine wa_bipush (w_rg2 (by omega) (by omega)) ?_
                refine wb_pfi 226 rfl (wy_pr rfl) wt_226 wf_8_16 (n := 16) rfl ⟨(by omega), (by omega)⟩ ?_
                refine wa_return rfl ?_
                show wJ _ _ _ _ _ _ _ _ _ _
                refine wa_goto ⟨_, rfl⟩ ?_
                refine wa_return rfl ?_
                exact ⟨rfl, Or.inl ⟨by omega, rfl⟩⟩
  · skip
    exact absurd c4 (by omega)
end Wgq
