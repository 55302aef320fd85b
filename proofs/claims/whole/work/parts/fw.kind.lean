/-! PART fw: kind, of the class. -/
section Wfw
variable {xs : List (Nat × List Int32)} {d : Nat} {S Z : wS} {K : aK} {b k v : Int}
def tx_55 : List Int32 := [11, 26, 27, 29, 30, 1, 31, 21, 32]
/-- the word for a value's kind -/
def kWd (k v : Int) : Int := if k = 2 ∧ v ≠ wb_l2i v then 28 else w_tx tx_55 k
def kdL (k v : Int) : List Int := wl2.getD (kWd k v).toNat []
theorem kWd_rg (hk : 0 ≤ k ∧ k ≤ 8) : 0 ≤ kWd k v ∧ kWd k v < 33 := by
  unfold kWd
  split
  · omega
  · have h : ∀ i : Nat, i < 9 → 0 ≤ w_tx tx_55 (i : Int) ∧ w_tx tx_55 (i : Int) < 33 := by decide
    have := h k.toNat (by omega)
    rw [show ((k.toNat : Nat) : Int) = k by omega] at this
    exact this
/-- what kind may change of the class -/
def cMx (j : Nat) (x : Int) : Prop := j = 150 ∧ (x = 2 ∨ x = 3)
theorem xb6l_215 {c p h vy wd st sz u2 u3 : Int} (hP : xP 215 c p h S) (hx1 : pe_at (pe_GA xs).xs 1 = some (1, tx_1)) (hx55 : pe_at (pe_GA xs).xs 55 = some (1, tx_55)) (hky : S 217 (h - 1) = 2) (hne : vy ≠ wb_l2i vy) (hwd : wd = 28) (hvy : S 218 (h - 1) = vy) (hh1 : 1 ≤ h) (hw0 : 0 ≤ wd ∧ wd < S 4 (-1)) (hl4 : S 5 (-1) = S 4 (-1)) (hst : S 4 wd = st) (hsz : S 5 wd = sz) (hst0 : 0 ≤ st ∧ st < 2147483648) (hsz0 : 0 ≤ sz ∧ sz < 2147483648) (hln : S 4 (-1) ≤ 2147483647) (hu2 : S 150 2 = u2) (hu3 : S 150 3 = u3) (hu : (0 ≤ u2 ∧ u2 ≤ 12000) ∧ (0 ≤ u3 ∧ u3 ≤ 200000) ∧ sz ≤ 1000) : wJ (pe_GA xs) wY0 (mS [217, 218]) (d + 11) t_XK_callBuiltin ((pe_at t_XK_callBuiltin.bl 0).getD (0, [])).2 [(0, (2, 215)), (1, (0, 6))] [] S (fun o Z => o = .inl none ∧ (((12000 ≤ u2 ∨ 200000 < u3 + sz) ∧ w_up S 215 16 99 = Z) ∨ (u2 < 12000 ∧ u3 + sz ≤ 200000 ∧ sO 215 h c p 1 3 (st * 4294967296 + sz) (w_up (w_up S 150 2 (u2 + 1)) 150 3 (u3 + sz)) Z))) := by
  obtain ⟨⟨hC, hI⟩, ⟨bc, bc0, bc1⟩, ⟨bp, bp0, bp1⟩, ⟨bh, bh0, bh1, bh2⟩, bl1, bl2, bl3⟩ := hP
  replace bp : S 220 (c - 1) = p := bp
  replace bh : S 216 2 = h := bh
  replace bh2 : h ≤ S 217 (-1) := bh2
  replace bl1 : S 218 (-1) = S 217 (-1) := bl1
  replace bl2 : 64 ≤ S 217 (-1) := bl2
  replace bl3 : S 217 (-1) ≤ 4095 := bl3
  have hlr := wb_l2i_rg vy
  have htl : tx_55.length = 9 := rfl
  subst hwd
  refine wa_aload_n (n := 0) rfl ?_
  refine wb_gf4 215 rfl (wy_pr rfl) wt_215 wf_8_3 (v := 216) wl_215_3 ?_
  refine wb_gfi 216 rfl (wy_pr rfl) wt_216 wf_7_2 (v := h) (bh) (fun r1 => ?_)
  refine wa_iconst ?_
  refine wa_isub ?_
  refine wa_istore_n (n := 2) rfl ?_
  refine wa_aload_n (n := 0) rfl ?_
  refine wb_gf4 215 rfl (wy_pr rfl) wt_215 wf_8_3 (v := 216) wl_215_3 ?_
  refine wb_gf4 216 rfl (wy_pr rfl) wt_216 wf_7_0 (v := 217) wl_216_0 ?_
  refine wa_iload_n (n := 2) rfl ?_
  refine wb_bald 217 rfl (wy_pr rfl) wt_217 (n := (S 217 (-1))) (rfl) (by omega) (by omega) (v := 2) (hky) (fun r2 => ?_)
  refine wa_istore_n (n := 3) rfl ?_
  refine wa_aload_n (n := 0) rfl ?_
  refine wb_gf4 215 rfl (wy_pr rfl) wt_215 wf_8_3 (v := 216) wl_215_3 ?_
  refine wb_gf4 216 rfl (wy_pr rfl) wt_216 wf_7_1 (v := 218) wl_216_1 ?_
  refine wa_iload_n (n := 2) rfl ?_
  refine wb_lald 218 rfl (wy_pr rfl) wt_218 (n := (S 217 (-1))) (bl1) (by omega) (by omega) (v := vy) (hvy) (fun r3 => ?_)
  refine wa_lstore (n := 4) rfl ?_
  refine wa_iload_n (n := 1) rfl ?_
  refine wb_sw (w_rg0 (by omega) (by omega)) (tb := 13) rfl ⟨_, rfl⟩ ?_
  refine wa_aload_n (n := 0) rfl ?_
  refine wa_iload_n (n := 3) rfl ?_
  refine wa_lload (n := 4) rfl ?_
  refine wa_cv 215 rfl (wy_pr rfl) wt_215 (M2 := mS [217, 218]) rfl at_XK_tellKind ⟨_, rfl⟩ rfl rfl ⟨trivial, trivial, trivial, (Or.inr ⟨wy_pr rfl, mS_no rfl⟩), trivial, trivial⟩ trivial (fun _ _ q => q) ?_ (fun _ _ _ q => q)
  refine wa_iload_n (n := 1) rfl ?_
  refine wa_iconst ?_
  refine wa_icmpne (w_rg0 (by omega) (by omega)) (w_rg0 (by omega) (by omega)) ⟨_, rfl⟩ (fun c4 => ?_) (fun c4 => ?_)
  · skip
    exact absurd c4 (by omega)
  · skip
    refine wa_lload_n (n := 2) rfl ?_
    refine wa_lload_n (n := 2) rfl ?_
    refine wa_l2i ?_
    refine wa_i2l (w_rg0 (by omega) (by omega)) ?_
    refine wa_lcmp (w_rg1 (by omega) (by omega)) (w_rg1 (by omega) (by omega)) ?_
    refine wa_ifeq (by have := @wb_lcmp_cases; exact w_lcmp_rg) ⟨_, rfl⟩ (fun c5 => ?_) (fun c5 => ?_)
    · skip
      have c5x := @wb_lcmp_cases vy (wb_l2i vy)
      exfalso; omega
    · skip
      have c5x := @wb_lcmp_cases vy (wb_l2i vy)
      refine wa_bipush (w_rg2 (by omega) (by omega)) ?_
      refine wa_goto ⟨_, rfl⟩ ?_
      refine wa_istore (n := 4) rfl ?_
      refine wa_aload_n (n := 0) rfl ?_
      refine wb_gf4 215 rfl (wy_pr rfl) wt_215 wf_8_0 (v := 72) wl_215_0 ?_
      refine wb_gf4 72 rfl (wy_pr rfl) wt_72 wf_2_0 (v := 2) wl_72_0 ?_
      refine wa_iload (n := 4) rfl ?_
      refine wa_cv 2 rfl (wy_pr rfl) wt_2 (M2 := mS [217, 218]) rfl at_XW_sliceOf ⟨_, rfl⟩ rfl rfl ⟨trivial, (Or.inr ⟨wy_pr rfl, mS_no rfl⟩), trivial, trivial, trivial⟩ trivial (fun _ _ q => q) ?_ (fun _ _ _ q => q)
      refine wa_aload_n (n := 0) rfl ?_
      refine wb_gf4 2 rfl (wy_pr rfl) wt_2 wf_9_2 (v := 4) wl_2_2 ?_
      refine wa_iload_n (n := 1) rfl ?_
      refine wb_iald 4 rfl (wy_pr rfl) wt_4 (n := (S 4 (-1))) (rfl) (by omega) (by omega) (v := st) (hst) (fun r6 => ?_)
      refine wa_aload_n (n := 0) rfl ?_
      refine wb_gf4 2 rfl (wy_pr rfl) wt_2 wf_9_3 (v := 5) wl_2_3 ?_
      refine wa_iload_n (n := 1) rfl ?_
      refine wb_iald 5 rfl (wy_pr rfl) wt_5 (n := (S 4 (-1))) (hl4) (by omega) (by omega) (v := sz) (hsz) (fun r7 => ?_)
      refine wa_cs (M2 := mS [217, 218]) rfl at_X_slice ⟨_, rfl⟩ rfl rfl ⟨(Or.inr ⟨wy_pr rfl, mS_no rfl⟩), trivial, trivial⟩ trivial (fun _ _ q => q) ?_ (fun _ _ _ q => q)
      refine wa_iload_n (n := 0) rfl ?_
      refine wa_i2l (w_rg0 (by omega) (by omega)) ?_
      refine wa_bipush (w_rg2 (by omega) (by omega)) ?_
      refine wa_lshl ?_
      refine wa_iload_n (n := 1) rfl ?_
      refine wa_i2l (w_rg0 (by omega) (by omega)) ?_
      refine wa_lor ?_
      refine wa_lreturn rfl ?_
      show wJ _ _ _ _ _ _ _ _ _ _
      rw [sl_mk hst0 hsz0]
      have hw := sl_rg hst0 hsz0
      refine wa_lreturn rfl ?_
      show wJ _ _ _ _ _ _ _ _ _ _
      refine wa_lstore (n := 5) rfl ?_
      refine wa_aload_n (n := 0) rfl ?_
      refine wb_gf4 215 rfl (wy_pr rfl) wt_215 wf_8_0 (v := 72) wl_215_0 ?_
      refine wa_lload (n := 5) rfl ?_
      refine wa_cs (M2 := mS [217, 218]) rfl at_X_sliceSize ⟨_, rfl⟩ rfl rfl ⟨trivial, trivial, (Or.inr ⟨wy_pr rfl, mS_no rfl⟩), trivial, trivial, trivial⟩ ⟨(Or.inr ⟨wy_pr rfl, mS_no rfl⟩), trivial⟩ (fun _ _ q => q) ?_ (fun _ _ _ q => q)
      refine wa_lload_n (n := 0) rfl ?_
      refine wb_l2i_r (y := sz) (sl_z ⟨by omega, by omega⟩ ⟨by omega, by omega⟩) ?_
      refine wa_ireturn rfl ?_
      show wJ _ _ _ _ _ _ _ _ _ _
      refine wa_cv 72 rfl (wy_pr rfl) wt_72 (M2 := mS [217, 218]) rfl at_XH_hasTextRoom ⟨_, rfl⟩ rfl rfl ⟨trivial, trivial, (Or.inr ⟨wy_pr rfl, mS_no rfl⟩), trivial, trivial, trivial⟩ trivial (fun _ _ q => q) ?_ (fun _ _ _ q => q)
      refine wa_aload_n (n := 0) rfl ?_
      refine wa_iconst ?_
      refine wa_iconst ?_
      refine wa_cv 72 rfl (wy_pr rfl) wt_72 (M2 := mS [217, 218]) rfl at_XH_hasRoom ⟨_, rfl⟩ rfl rfl ⟨(Or.inr ⟨wy_pr rfl, mS_no rfl⟩), trivial, trivial⟩ trivial (fun _ _ q => q) ?_ (fun _ _ _ q => q)
      refine wa_aload_n (n := 0) rfl ?_
      refine wb_gf4 72 rfl (wy_pr rfl) wt_72 wf_2_10 (v := 150) wl_72_10 ?_
      refine wa_iload_n (n := 1) rfl ?_
      refine wb_iald 150 rfl (wy_pr rfl) wt_150 (n := 6) ((cl_150 hC)) (by omega) (by omega) (v := u2) (hu2) (fun r8 => ?_)
      refine wa_iload_n (n := 2) rfl ?_
      refine wa_iadd ?_
      refine wa_gs ?_
      refine wa_iload_n (n := 1) rfl ?_
      refine wb_xald 1 rfl hx1 (by decide) (by omega) (by decide) (v := 12000) (by decide) (fun r9 => ?_)
      refine wa_icmpgt (w_rg0 (by omega) (by omega)) (w_rg0 (by omega) (by omega)) ⟨_, rfl⟩ (fun c10 => ?_) (fun c10 => ?_)
      · skip
        refine wa_iconst ?_
        refine wa_fall ⟨_, rfl⟩ ?_
        refine wa_zreturn rfl (Or.inl rfl) ?_
        show wJ _ _ _ _ _ _ _ _ _ _
        refine wa_ifeq (w_rg0 (by omega) (by omega)) ⟨_, rfl⟩ (fun c11 => ?_) (fun c11 => ?_)
        · skip
          refine wa_iconst ?_
          refine wa_fall ⟨_, rfl⟩ ?_
          refine wa_zreturn rfl (Or.inl rfl) ?_
          show wJ _ _ _ _ _ _ _ _ _ _
          refine wa_ifne (w_rg0 (by omega) (by omega)) ⟨_, rfl⟩ (fun c12 => ?_) (fun c12 => ?_)
          · skip
            exact absurd c12 (by omega)
          · skip
            refine wa_aload_n (n := 0) rfl ?_
            refine wa_bipush (w_rg2 (by omega) (by omega)) ?_
            refine wb_pfi 215 rfl (wy_pr rfl) wt_215 wf_8_16 (n := 16) rfl ⟨(by omega), (by omega)⟩ ?_
            refine wa_return rfl ?_
            show wJ _ _ _ _ _ _ _ _ _ _
            refine wa_goto ⟨_, rfl⟩ ?_
            refine wa_return rfl ?_
            exact ⟨rfl, Or.inl ⟨by omega, rfl⟩⟩
        · skip
          exact absurd c11 (by omega)
      · skip
        refine wa_iconst ?_
        refine wa_goto ⟨_, rfl⟩ ?_
        refine wa_zreturn rfl (Or.inr rfl) ?_
        show wJ _ _ _ _ _ _ _ _ _ _
        refine wa_ifeq (w_rg0 (by omega) (by omega)) ⟨_, rfl⟩ (fun c13 => ?_) (fun c13 => ?_)
        · skip
          exact absurd c13 (by omega)
        · skip
          refine wa_aload_n (n := 0) rfl ?_
          refine wa_iconst ?_
          refine wa_iload_n (n := 1) rfl ?_
          refine wa_cv 72 rfl (wy_pr rfl) wt_72 (M2 := mS [217, 218]) rfl at_XH_hasRoom ⟨_, rfl⟩ rfl rfl ⟨(Or.inr ⟨wy_pr rfl, mS_no rfl⟩), trivial, trivial⟩ trivial (fun _ _ q => q) ?_ (fun _ _ _ q => q)
          refine wa_aload_n (n := 0) rfl ?_
          refine wb_gf4 72 rfl (wy_pr rfl) wt_72 wf_2_10 (v := 150) wl_72_10 ?_
          refine wa_iload_n (n := 1) rfl ?_
          refine wb_iald 150 rfl (wy_pr rfl) wt_150 (n := 6) ((cl_150 hC)) (by omega) (by omega) (v := u3) (hu3) (fun r14 => ?_)
          refine wa_iload_n (n := 2) rfl ?_
          refine wa_iadd ?_
          refine wa_gs ?_
          refine wa_iload_n (n := 1) rfl ?_
          refine wb_xald 1 rfl hx1 (by decide) (by omega) (by decide) (v := 200000) (by decide) (fun r15 => ?_)
          refine wa_icmpgt (w_rg0 (by omega) (by omega)) (w_rg0 (by omega) (by omega)) ⟨_, rfl⟩ (fun c16 => ?_) (fun c16 => ?_)
          · skip
            refine wa_iconst ?_
            refine wa_fall ⟨_, rfl⟩ ?_
            refine wa_zreturn rfl (Or.inl rfl) ?_
            show wJ _ _ _ _ _ _ _ _ _ _
            refine wa_ifeq (w_rg0 (by omega) (by omega)) ⟨_, rfl⟩ (fun c17 => ?_) (fun c17 => ?_)
            · skip
              refine wa_iconst ?_
              refine wa_fall ⟨_, rfl⟩ ?_
              refine wa_zreturn rfl (Or.inl rfl) ?_
              show wJ _ _ _ _ _ _ _ _ _ _
              refine wa_ifne (w_rg0 (by omega) (by omega)) ⟨_, rfl⟩ (fun c18 => ?_) (fun c18 => ?_)
              · skip
                exact absurd c18 (by omega)
              · skip
                refine wa_aload_n (n := 0) rfl ?_
                refine wa_bipush (w_rg2 (by omega) (by omega)) ?_
                refine wb_pfi 215 rfl (wy_pr rfl) wt_215 wf_8_16 (n := 16) rfl ⟨(by omega), (by omega)⟩ ?_
                refine wa_return rfl ?_
                show wJ _ _ _ _ _ _ _ _ _ _
                refine wa_goto ⟨_, rfl⟩ ?_
                refine wa_return rfl ?_
                exact ⟨rfl, Or.inl ⟨by omega, rfl⟩⟩
            · skip
              exact absurd c17 (by omega)
          · skip
            refine wa_iconst ?_
            refine wa_goto ⟨_, rfl⟩ ?_
            refine wa_zreturn rfl (Or.inr rfl) ?_
            show wJ _ _ _ _ _ _ _ _ _ _
            refine wa_ifeq (w_rg0 (by omega) (by omega)) ⟨_, rfl⟩ (fun c19 => ?_) (fun c19 => ?_)
            · skip
              exact absurd c19 (by omega)
            · skip
              refine wa_iconst ?_
              refine wa_goto ⟨_, rfl⟩ ?_
              refine wa_zreturn rfl (Or.inr rfl) ?_
              show wJ _ _ _ _ _ _ _ _ _ _
              refine wa_ifne (w_rg0 (by omega) (by omega)) ⟨_, rfl⟩ (fun c20 => ?_) (fun c20 => ?_)
              · skip
                refine wa_aload_n (n := 0) rfl ?_
                refine wb_gf4 215 rfl (wy_pr rfl) wt_215 wf_8_0 (v := 72) wl_215_0 ?_
                refine wa_lload (n := 5) rfl ?_
                refine wa_cs (M2 := mS [217, 218]) rfl at_X_sliceSize ⟨_, rfl⟩ rfl rfl ⟨trivial, trivial, (Or.inr ⟨wy_pr rfl, mS_no rfl⟩), trivial, trivial, trivial⟩ ⟨(Or.inr ⟨wy_pr rfl, mS_no rfl⟩), trivial⟩ (fun _ _ q => q) ?_ (fun _ _ _ q => q)
                refine wa_lload_n (n := 0) rfl ?_
                refine wb_l2i_r (y := sz) (sl_z ⟨by omega, by omega⟩ ⟨by omega, by omega⟩) ?_
                refine wa_ireturn rfl ?_
                show wJ _ _ _ _ _ _ _ _ _ _
                refine wa_cv 72 rfl (wy_pr rfl) wt_72 (M2 := mS [217, 218]) rfl at_XH_useText ⟨_, rfl⟩ rfl rfl ⟨trivial, trivial, (Or.inr ⟨wy_pr rfl, mS_no rfl⟩), trivial, trivial, trivial⟩ trivial (fun _ _ q => q) ?_ (fun _ _ _ q => q)
                refine wa_aload_n (n := 0) rfl ?_
                refine wb_gf4 72 rfl (wy_pr rfl) wt_72 wf_2_10 (v := 150) wl_72_10 ?_
                refine wa_iconst ?_
                refine wa_dup2 (by decide) (by decide) ?_
                refine wb_iald 150 rfl (wy_pr rfl) wt_150 (n := 6) ((cl_150 hC)) (by omega) (by omega) (v := u2) (hu2) (fun r21 => ?_)
                refine wa_iconst ?_
                refine wa_iadd ?_
                refine wb_iast 150 rfl (wy_pr rfl) wt_150 (n := 6) ((cl_150 hC)) (by omega) (by omega) ⟨(by omega), (by omega)⟩ ?_
                refine wa_aload_n (n := 0) rfl ?_
                refine wb_gf4 72 rfl (wy_pr rfl) wt_72 wf_2_10 (v := 150) wl_72_10 ?_
                refine wa_iconst ?_
                refine wa_dup2 (by decide) (by decide) ?_
                refine wb_iald 150 rfl (wy_pr rfl) wt_150 (n := 6) ((w_up_at (by decide)).trans ((cl_150 hC))) (by omega) (by omega) (v := u3) ((w_up_at (by decide)).trans (hu3)) (fun r22 => ?_)
                refine wa_iload_n (n := 1) rfl ?_
                refine wa_iadd ?_
                refine wb_iast 150 rfl (wy_pr rfl) wt_150 (n := 6) ((w_up_at (by decide)).trans ((cl_150 hC))) (by omega) (by omega) ⟨(by omega), (by omega)⟩ ?_
                refine wa_return rfl ?_
                show wJ _ _ _ _ _ _ _ _ _ _
                refine wa_aload_n (n := 0) rfl ?_
                refine wa_iconst ?_
                refine wa_iconst ?_
                refine wa_lload (n := 5) rfl ?_
                refine wa_cv 215 rfl (wy_pr rfl) wt_215 (M2 := mS [217, 218]) rfl at_XK_give ⟨_, rfl⟩ rfl rfl ⟨trivial, trivial, (Or.inr ⟨wy_pr rfl, mS_no rfl⟩), trivial, trivial, trivial⟩ trivial (fun _ _ q => q) (gw_215 (S := (w_up (w_up S 150 2 (u2 + 1)) 150 3 (u3 + sz))) (n := 1) (k := 3) (v := (st * 4294967296 + sz)) (h := h) (c := c) (p := p) (ln := (S 217 (-1))) (w_CL_up (w_CL_up hC (by omega)) (by omega)) (gI_up (gI_up hI (by omega) (by omega) (by omega)) (by omega) (by omega) (by omega)) ⟨by omega, by omega⟩ ⟨by omega, by omega⟩ ((w_up_slot (by decide)).trans ((w_up_slot (by decide)).trans (bh))) ((w_up_slot (by decide)).trans ((w_up_slot (by decide)).trans (bc))) ((w_up_slot (by decide)).trans ((w_up_slot (by decide)).trans (bp))) ((w_up_slot (by decide)).trans ((w_up_slot (by decide)).trans (rfl))) ((w_up_slot (by decide)).trans ((w_up_slot (by decide)).trans (bl1))) ⟨by omega, by omega⟩ ⟨by omega, by omega, by omega⟩ ⟨by omega, by omega⟩ ⟨by omega, by omega⟩) (fun oq23 Sq23 hp24 q23 => ?_)
                rcases q23 with ⟨rfl, A23, ra23, rfl⟩
                show wJ _ _ _ _ _ _ _ _ _ _
                refine wa_return rfl ?_
                show wJ _ _ _ _ _ _ _ _ _ _
                refine wa_goto ⟨_, rfl⟩ ?_
                refine wa_return rfl ?_
                exact ⟨rfl, Or.inr ⟨by omega, by omega, A23, ra23, rfl⟩⟩
              · skip
                exact absurd c20 (by omega)
theorem xb6o_215 {c p h ky vy wd st sz u2 u3 : Int} (hP : xP 215 c p h S) (hx1 : pe_at (pe_GA xs).xs 1 = some (1, tx_1)) (hx55 : pe_at (pe_GA xs).xs 55 = some (1, tx_55)) (hky : S 217 (h - 1) = ky) (hk8 : 0 ≤ ky ∧ ky ≤ 8) (hne : ky = 2 → vy = wb_l2i vy) (hwd : w_tx tx_55 ky = wd) (hvy : S 218 (h - 1) = vy) (hh1 : 1 ≤ h) (hw0 : 0 ≤ wd ∧ wd < S 4 (-1)) (hl4 : S 5 (-1) = S 4 (-1)) (hst : S 4 wd = st) (hsz : S 5 wd = sz) (hst0 : 0 ≤ st ∧ st < 2147483648) (hsz0 : 0 ≤ sz ∧ sz < 2147483648) (hln : S 4 (-1) ≤ 2147483647) (hu2 : S 150 2 = u2) (hu3 : S 150 3 = u3) (hu : (0 ≤ u2 ∧ u2 ≤ 12000) ∧ (0 ≤ u3 ∧ u3 ≤ 200000) ∧ sz ≤ 1000) : wJ (pe_GA xs) wY0 (mS [217, 218]) (d + 11) t_XK_callBuiltin ((pe_at t_XK_callBuiltin.bl 0).getD (0, [])).2 [(0, (2, 215)), (1, (0, 6))] [] S (fun o Z => o = .inl none ∧ (((12000 ≤ u2 ∨ 200000 < u3 + sz) ∧ w_up S 215 16 99 = Z) ∨ (u2 < 12000 ∧ u3 + sz ≤ 200000 ∧ sO 215 h c p 1 3 (st * 4294967296 + sz) (w_up (w_up S 150 2 (u2 + 1)) 150 3 (u3 + sz)) Z))) := by
  obtain ⟨⟨hC, hI⟩, ⟨bc, bc0, bc1⟩, ⟨bp, bp0, bp1⟩, ⟨bh, bh0, bh1, bh2⟩, bl1, bl2, bl3⟩ := hP
  replace bp : S 220 (c - 1) = p := bp
  replace bh : S 216 2 = h := bh
  replace bh2 : h ≤ S 217 (-1) := bh2
  replace bl1 : S 218 (-1) = S 217 (-1) := bl1
  replace bl2 : 64 ≤ S 217 (-1) := bl2
  replace bl3 : S 217 (-1) ≤ 4095 := bl3
  have hlr := wb_l2i_rg vy
  have htl : tx_55.length = 9 := rfl
  refine wa_aload_n (n := 0) rfl ?_
  refine wb_gf4 215 rfl (wy_pr rfl) wt_215 wf_8_3 (v := 216) wl_215_3 ?_
  refine wb_gfi 216 rfl (wy_pr rfl) wt_216 wf_7_2 (v := h) (bh) (fun r1 => ?_)
  refine wa_iconst ?_
  refine wa_isub ?_
  refine wa_istore_n (n := 2) rfl ?_
  refine wa_aload_n (n := 0) rfl ?_
  refine wb_gf4 215 rfl (wy_pr rfl) wt_215 wf_8_3 (v := 216) wl_215_3 ?_
  refine wb_gf4 216 rfl (wy_pr rfl) wt_216 wf_7_0 (v := 217) wl_216_0 ?_
  refine wa_iload_n (n := 2) rfl ?_
  refine wb_bald 217 rfl (wy_pr rfl) wt_217 (n := (S 217 (-1))) (rfl) (by omega) (by omega) (v := ky) (hky) (fun r2 => ?_)
  refine wa_istore_n (n := 3) rfl ?_
  refine wa_aload_n (n := 0) rfl ?_
  refine wb_gf4 215 rfl (wy_pr rfl) wt_215 wf_8_3 (v := 216) wl_215_3 ?_
  refine wb_gf4 216 rfl (wy_pr rfl) wt_216 wf_7_1 (v := 218) wl_216_1 ?_
  refine wa_iload_n (n := 2) rfl ?_
  refine wb_lald 218 rfl (wy_pr rfl) wt_218 (n := (S 217 (-1))) (bl1) (by omega) (by omega) (v := vy) (hvy) (fun r3 => ?_)
  refine wa_lstore (n := 4) rfl ?_
  refine wa_iload_n (n := 1) rfl ?_
  refine wb_sw (w_rg0 (by omega) (by omega)) (tb := 13) rfl ⟨_, rfl⟩ ?_
  refine wa_aload_n (n := 0) rfl ?_
  refine wa_iload_n (n := 3) rfl ?_
  refine wa_lload (n := 4) rfl ?_
  refine wa_cv 215 rfl (wy_pr rfl) wt_215 (M2 := mS [217, 218]) rfl at_XK_tellKind ⟨_, rfl⟩ rfl rfl ⟨trivial, trivial, trivial, (Or.inr ⟨wy_pr rfl, mS_no rfl⟩), trivial, trivial⟩ trivial (fun _ _ q => q) ?_ (fun _ _ _ q => q)
  refine wa_iload_n (n := 1) rfl ?_
  refine wa_iconst ?_
  refine wa_icmpne (w_rg0 (by omega) (by omega)) (w_rg0 (by omega) (by omega)) ⟨_, rfl⟩ (fun c4 => ?_) (fun c4 => ?_)
  · skip
    refine wa_gs ?_
    refine wa_iload_n (n := 1) rfl ?_
    refine wb_xald 55 rfl hx55 (by decide) (by omega) (by omega) (v := wd) hwd (fun r5 => ?_)
    refine wa_fall ⟨_, rfl⟩ ?_
    refine wa_istore (n := 4) rfl ?_
    refine wa_aload_n (n := 0) rfl ?_
    refine wb_gf4 215 rfl (wy_pr rfl) wt_215 wf_8_0 (v := 72) wl_215_0 ?_
    refine wb_gf4 72 rfl (wy_pr rfl) wt_72 wf_2_0 (v := 2) wl_72_0 ?_
    refine wa_iload (n := 4) rfl ?_
    refine wa_cv 2 rfl (wy_pr rfl) wt_2 (M2 := mS [217, 218]) rfl at_XW_sliceOf ⟨_, rfl⟩ rfl rfl ⟨trivial, (Or.inr ⟨wy_pr rfl, mS_no rfl⟩), trivial, trivial, trivial⟩ trivial (fun _ _ q => q) ?_ (fun _ _ _ q => q)
    refine wa_aload_n (n := 0) rfl ?_
    refine wb_gf4 2 rfl (wy_pr rfl) wt_2 wf_9_2 (v := 4) wl_2_2 ?_
    refine wa_iload_n (n := 1) rfl ?_
    refine wb_iald 4 rfl (wy_pr rfl) wt_4 (n := (S 4 (-1))) (rfl) (by omega) (by omega) (v := st) (hst) (fun r6 => ?_)
    refine wa_aload_n (n := 0) rfl ?_
    refine wb_gf4 2 rfl (wy_pr rfl) wt_2 wf_9_3 (v := 5) wl_2_3 ?_
    refine wa_iload_n (n := 1) rfl ?_
    refine wb_iald 5 rfl (wy_pr rfl) wt_5 (n := (S 4 (-1))) (hl4) (by omega) (by omega) (v := sz) (hsz) (fun r7 => ?_)
    refine wa_cs (M2 := mS [217, 218]) rfl at_X_slice ⟨_, rfl⟩ rfl rfl ⟨(Or.inr ⟨wy_pr rfl, mS_no rfl⟩), trivial, trivial⟩ trivial (fun _ _ q => q) ?_ (fun _ _ _ q => q)
    refine wa_iload_n (n := 0) rfl ?_
    refine wa_i2l (w_rg0 (by omega) (by omega)) ?_
    refine wa_bipush (w_rg2 (by omega) (by omega)) ?_
    refine wa_lshl ?_
    refine wa_iload_n (n := 1) rfl ?_
    refine wa_i2l (w_rg0 (by omega) (by omega)) ?_
    refine wa_lor ?_
    refine wa_lreturn rfl ?_
    show wJ _ _ _ _ _ _ _ _ _ _
    rw [sl_mk hst0 hsz0]
    have hw := sl_rg hst0 hsz0
    refine wa_lreturn rfl ?_
    show wJ _ _ _ _ _ _ _ _ _ _
    refine wa_lstore (n := 5) rfl ?_
    refine wa_aload_n (n := 0) rfl ?_
    refine wb_gf4 215 rfl (wy_pr rfl) wt_215 wf_8_0 (v := 72) wl_215_0 ?_
    refine wa_lload (n := 5) rfl ?_
    refine wa_cs (M2 := mS [217, 218]) rfl at_X_sliceSize ⟨_, rfl⟩ rfl rfl ⟨trivial, trivial, (Or.inr ⟨wy_pr rfl, mS_no rfl⟩), trivial, trivial, trivial⟩ ⟨(Or.inr ⟨wy_pr rfl, mS_no rfl⟩), trivial⟩ (fun _ _ q => q) ?_ (fun _ _ _ q => q)
    refine wa_lload_n (n := 0) rfl ?_
    refine wb_l2i_r (y := sz) (sl_z ⟨by omega, by omega⟩ ⟨by omega, by omega⟩) ?_
    refine wa_ireturn rfl ?_
    show wJ _ _ _ _ _ _ _ _ _ _
    refine wa_cv 72 rfl (wy_pr rfl) wt_72 (M2 := mS [217, 218]) rfl at_XH_hasTextRoom ⟨_, rfl⟩ rfl rfl ⟨trivial, trivial, (Or.inr ⟨wy_pr rfl, mS_no rfl⟩), trivial, trivial, trivial⟩ trivial (fun _ _ q => q) ?_ (fun _ _ _ q => q)
    refine wa_aload_n (n := 0) rfl ?_
    refine wa_iconst ?_
    refine wa_iconst ?_
    refine wa_cv 72 rfl (wy_pr rfl) wt_72 (M2 := mS [217, 218]) rfl at_XH_hasRoom ⟨_, rfl⟩ rfl rfl ⟨(Or.inr ⟨wy_pr rfl, mS_no rfl⟩), trivial, trivial⟩ trivial (fun _ _ q => q) ?_ (fun _ _ _ q => q)
    refine wa_aload_n (n := 0) rfl ?_
    refine wb_gf4 72 rfl (wy_pr rfl) wt_72 wf_2_10 (v := 150) wl_72_10 ?_
    refine wa_iload_n (n := 1) rfl ?_
    refine wb_iald 150 rfl (wy_pr rfl) wt_150 (n := 6) ((cl_150 hC)) (by omega) (by omega) (v := u2) (hu2) (fun r8 => ?_)
    refine wa_iload_n (n := 2) rfl ?_
    refine wa_iadd ?_
    refine wa_gs ?_
    refine wa_iload_n (n := 1) rfl ?_
    refine wb_xald 1 rfl hx1 (by decide) (by omega) (by decide) (v := 12000) (by decide) (fun r9 => ?_)
    refine wa_icmpgt (w_rg0 (by omega) (by omega)) (w_rg0 (by omega) (by omega)) ⟨_, rfl⟩ (fun c10 => ?_) (fun c10 => ?_)
    · skip
      refine wa_iconst ?_
      refine wa_fall ⟨_, rfl⟩ ?_
      refine wa_zreturn rfl (Or.inl rfl) ?_
      show wJ _ _ _ _ _ _ _ _ _ _
      refine wa_ifeq (w_rg0 (by omega) (by omega)) ⟨_, rfl⟩ (fun c11 => ?_) (fun c11 => ?_)
      · skip
        refine wa_iconst ?_
        refine wa_fall ⟨_, rfl⟩ ?_
        refine wa_zreturn rfl (Or.inl rfl) ?_
        show wJ _ _ _ _ _ _ _ _ _ _
        refine wa_ifne (w_rg0 (by omega) (by omega)) ⟨_, rfl⟩ (fun c12 => ?_) (fun c12 => ?_)
        · skip
          exact absurd c12 (by omega)
        · skip
          refine wa_aload_n (n := 0) rfl ?_
          refine wa_bipush (w_rg2 (by omega) (by omega)) ?_
          refine wb_pfi 215 rfl (wy_pr rfl) wt_215 wf_8_16 (n := 16) rfl ⟨(by omega), (by omega)⟩ ?_
          refine wa_return rfl ?_
          show wJ _ _ _ _ _ _ _ _ _ _
          refine wa_goto ⟨_, rfl⟩ ?_
          refine wa_return rfl ?_
          exact ⟨rfl, Or.inl ⟨by omega, rfl⟩⟩
      · skip
        exact absurd c11 (by omega)
    · skip
      refine wa_iconst ?_
      refine wa_goto ⟨_, rfl⟩ ?_
      refine wa_zreturn rfl (Or.inr rfl) ?_
      show wJ _ _ _ _ _ _ _ _ _ _
      refine wa_ifeq (w_rg0 (by omega) (by omega)) ⟨_, rfl⟩ (fun c13 => ?_) (fun c13 => ?_)
      · skip
        exact absurd c13 (by omega)
      · skip
        refine wa_aload_n (n := 0) rfl ?_
        refine wa_iconst ?_
        refine wa_iload_n (n := 1) rfl ?_
        refine wa_cv 72 rfl (wy_pr rfl) wt_72 (M2 := mS [217, 218]) rfl at_XH_hasRoom ⟨_, rfl⟩ rfl rfl ⟨(Or.inr ⟨wy_pr rfl, mS_no rfl⟩), trivial, trivial⟩ trivial (fun _ _ q => q) ?_ (fun _ _ _ q => q)
        refine wa_aload_n (n := 0) rfl ?_
        refine wb_gf4 72 rfl (wy_pr rfl) wt_72 wf_2_10 (v := 150) wl_72_10 ?_
        refine wa_iload_n (n := 1) rfl ?_
        refine wb_iald 150 rfl (wy_pr rfl) wt_150 (n := 6) ((cl_150 hC)) (by omega) (by omega) (v := u3) (hu3) (fun r14 => ?_)
        refine wa_iload_n (n := 2) rfl ?_
        refine wa_iadd ?_
        refine wa_gs ?_
        refine wa_iload_n (n := 1) rfl ?_
        refine wb_xald 1 rfl hx1 (by decide) (by omega) (by decide) (v := 200000) (by decide) (fun r15 => ?_)
        refine wa_icmpgt (w_rg0 (by omega) (by omega)) (w_rg0 (by omega) (by omega)) ⟨_, rfl⟩ (fun c16 => ?_) (fun c16 => ?_)
        · skip
          refine wa_iconst ?_
          refine wa_fall ⟨_, rfl⟩ ?_
          refine wa_zreturn rfl (Or.inl rfl) ?_
          show wJ _ _ _ _ _ _ _ _ _ _
          refine wa_ifeq (w_rg0 (by omega) (by omega)) ⟨_, rfl⟩ (fun c17 => ?_) (fun c17 => ?_)
          · skip
            refine wa_iconst ?_
            refine wa_fall ⟨_, rfl⟩ ?_
            refine wa_zreturn rfl (Or.inl rfl) ?_
            show wJ _ _ _ _ _ _ _ _ _ _
            refine wa_ifne (w_rg0 (by omega) (by omega)) ⟨_, rfl⟩ (fun c18 => ?_) (fun c18 => ?_)
            · skip
              exact absurd c18 (by omega)
            · skip
              refine wa_aload_n (n := 0) rfl ?_
              refine wa_bipush (w_rg2 (by omega) (by omega)) ?_
              refine wb_pfi 215 rfl (wy_pr rfl) wt_215 wf_8_16 (n := 16) rfl ⟨(by omega), (by omega)⟩ ?_
              refine wa_return rfl ?_
              show wJ _ _ _ _ _ _ _ _ _ _
              refine wa_goto ⟨_, rfl⟩ ?_
              refine wa_return rfl ?_
              exact ⟨rfl, Or.inl ⟨by omega, rfl⟩⟩
          · skip
            exact absurd c17 (by omega)
        · skip
          refine wa_iconst ?_
          refine wa_goto ⟨_, rfl⟩ ?_
          refine wa_zreturn rfl (Or.inr rfl) ?_
          show wJ _ _ _ _ _ _ _ _ _ _
          refine wa_ifeq (w_rg0 (by omega) (by omega)) ⟨_, rfl⟩ (fun c19 => ?_) (fun c19 => ?_)
          · skip
            exact absurd c19 (by omega)
          · skip
            refine wa_iconst ?_
            refine wa_goto ⟨_, rfl⟩ ?_
            refine wa_zreturn rfl (Or.inr rfl) ?_
            show wJ _ _ _ _ _ _ _ _ _ _
            refine wa_ifne (w_rg0 (by omega) (by omega)) ⟨_, rfl⟩ (fun c20 => ?_) (fun c20 => ?_)
            · skip
              refine wa_aload_n (n := 0) rfl ?_
              refine wb_gf4 215 rfl (wy_pr rfl) wt_215 wf_8_0 (v := 72) wl_215_0 ?_
              refine wa_lload (n := 5) rfl ?_
              refine wa_cs (M2 := mS [217, 218]) rfl at_X_sliceSize ⟨_, rfl⟩ rfl rfl ⟨trivial, trivial, (Or.inr ⟨wy_pr rfl, mS_no rfl⟩), trivial, trivial, trivial⟩ ⟨(Or.inr ⟨wy_pr rfl, mS_no rfl⟩), trivial⟩ (fun _ _ q => q) ?_ (fun _ _ _ q => q)
              refine wa_lload_n (n := 0) rfl ?_
              refine wb_l2i_r (y := sz) (sl_z ⟨by omega, by omega⟩ ⟨by omega, by omega⟩) ?_
              refine wa_ireturn rfl ?_
              show wJ _ _ _ _ _ _ _ _ _ _
              refine wa_cv 72 rfl (wy_pr rfl) wt_72 (M2 := mS [217, 218]) rfl at_XH_useText ⟨_, rfl⟩ rfl rfl ⟨trivial, trivial, (Or.inr ⟨wy_pr rfl, mS_no rfl⟩), trivial, trivial, trivial⟩ trivial (fun _ _ q => q) ?_ (fun _ _ _ q => q)
              refine wa_aload_n (n := 0) rfl ?_
              refine wb_gf4 72 rfl (wy_pr rfl) wt_72 wf_2_10 (v := 150) wl_72_10 ?_
              refine wa_iconst ?_
              refine wa_dup2 (by decide) (by decide) ?_
              refine wb_iald 150 rfl (wy_pr rfl) wt_150 (n := 6) ((cl_150 hC)) (by omega) (by omega) (v := u2) (hu2) (fun r21 => ?_)
              refine wa_iconst ?_
              refine wa_iadd ?_
              refine wb_iast 150 rfl (wy_pr rfl) wt_150 (n := 6) ((cl_150 hC)) (by omega) (by omega) ⟨(by omega), (by omega)⟩ ?_
              refine wa_aload_n (n := 0) rfl ?_
              refine wb_gf4 72 rfl (wy_pr rfl) wt_72 wf_2_10 (v := 150) wl_72_10 ?_
              refine wa_iconst ?_
              refine wa_dup2 (by decide) (by decide) ?_
              refine wb_iald 150 rfl (wy_pr rfl) wt_150 (n := 6) ((w_up_at (by decide)).trans ((cl_150 hC))) (by omega) (by omega) (v := u3) ((w_up_at (by decide)).trans (hu3)) (fun r22 => ?_)
              refine wa_iload_n (n := 1) rfl ?_
              refine wa_iadd ?_
              refine wb_iast 150 rfl (wy_pr rfl) wt_150 (n := 6) ((w_up_at (by decide)).trans ((cl_150 hC))) (by omega) (by omega) ⟨(by omega), (by omega)⟩ ?_
              refine wa_return rfl ?_
              show wJ _ _ _ _ _ _ _ _ _ _
              refine wa_aload_n (n := 0) rfl ?_
              refine wa_iconst ?_
              refine wa_iconst ?_
              refine wa_lload (n := 5) rfl ?_
              refine wa_cv 215 rfl (wy_pr rfl) wt_215 (M2 := mS [217, 218]) rfl at_XK_give ⟨_, rfl⟩ rfl rfl ⟨trivial, trivial, (Or.inr ⟨wy_pr rfl, mS_no rfl⟩), trivial, trivial, trivial⟩ trivial (fun _ _ q => q) (gw_215 (S := (w_up (w_up S 150 2 (u2 + 1)) 150 3 (u3 + sz))) (n := 1) (k := 3) (v := (st * 4294967296 + sz)) (h := h) (c := c) (p := p) (ln := (S 217 (-1))) (w_CL_up (w_CL_up hC (by omega)) (by omega)) (gI_up (gI_up hI (by omega) (by omega) (by omega)) (by omega) (by omega) (by omega)) ⟨by omega, by omega⟩ ⟨by omega, by omega⟩ ((w_up_slot (by decide)).trans ((w_up_slot (by decide)).trans (bh))) ((w_up_slot (by decide)).trans ((w_up_slot (by decide)).trans (bc))) ((w_up_slot (by decide)).trans ((w_up_slot (by decide)).trans (bp))) ((w_up_slot (by decide)).trans ((w_up_slot (by decide)).trans (rfl))) ((w_up_slot (by decide)).trans ((w_up_slot (by decide)).trans (bl1))) ⟨by omega, by omega⟩ ⟨by omega, by omega, by omega⟩ ⟨by omega, by omega⟩ ⟨by omega, by omega⟩) (fun oq23 Sq23 hp24 q23 => ?_)
              rcases q23 with ⟨rfl, A23, ra23, rfl⟩
              show wJ _ _ _ _ _ _ _ _ _ _
              refine wa_return rfl ?_
              show wJ _ _ _ _ _ _ _ _ _ _
              refine wa_goto ⟨_, rfl⟩ ?_
              refine wa_return rfl ?_
              exact ⟨rfl, Or.inr ⟨by omega, by omega, A23, ra23, rfl⟩⟩
            · skip
              exact absurd c20 (by omega)
  · skip
    refine wa_lload_n (n := 2) rfl ?_
    refine wa_lload_n (n := 2) rfl ?_
    refine wa_l2i ?_
    refine wa_i2l (w_rg0 (by omega) (by omega)) ?_
    refine wa_lcmp (w_rg1 (by omega) (by omega)) (w_rg1 (by omega) (by omega)) ?_
    refine wa_ifeq (by have := @wb_lcmp_cases; exact w_lcmp_rg) ⟨_, rfl⟩ (fun c25 => ?_) (fun c25 => ?_)
    · skip
      have c25x := @wb_lcmp_cases vy (wb_l2i vy)
      refine wa_gs ?_
      refine wa_iload_n (n := 1) rfl ?_
      refine wb_xald 55 rfl hx55 (by decide) (by omega) (by omega) (v := wd) hwd (fun r26 => ?_)
      refine wa_fall ⟨_, rfl⟩ ?_
      refine wa_istore (n := 4) rfl ?_
      refine wa_aload_n (n := 0) rfl ?_
      refine wb_gf4 215 rfl (wy_pr rfl) wt_215 wf_8_0 (v := 72) wl_215_0 ?_
      refine wb_gf4 72 rfl (wy_pr rfl) wt_72 wf_2_0 (v := 2) wl_72_0 ?_
      refine wa_iload (n := 4) rfl ?_
      refine wa_cv 2 rfl (wy_pr rfl) wt_2 (M2 := mS [217, 218]) rfl at_XW_sliceOf ⟨_, rfl⟩ rfl rfl ⟨trivial, (Or.inr ⟨wy_pr rfl, mS_no rfl⟩), trivial, trivial, trivial⟩ trivial (fun _ _ q => q) ?_ (fun _ _ _ q => q)
      refine wa_aload_n (n := 0) rfl ?_
      refine wb_gf4 2 rfl (wy_pr rfl) wt_2 wf_9_2 (v := 4) wl_2_2 ?_
      refine wa_iload_n (n := 1) rfl ?_
      refine wb_iald 4 rfl (wy_pr rfl) wt_4 (n := (S 4 (-1))) (rfl) (by omega) (by omega) (v := st) (hst) (fun r27 => ?_)
      refine wa_aload_n (n := 0) rfl ?_
      refine wb_gf4 2 rfl (wy_pr rfl) wt_2 wf_9_3 (v := 5) wl_2_3 ?_
      refine wa_iload_n (n := 1) rfl ?_
      refine wb_iald 5 rfl (wy_pr rfl) wt_5 (n := (S 4 (-1))) (hl4) (by omega) (by omega) (v := sz) (hsz) (fun r28 => ?_)
      refine wa_cs (M2 := mS [217, 218]) rfl at_X_slice ⟨_, rfl⟩ rfl rfl ⟨(Or.inr ⟨wy_pr rfl, mS_no rfl⟩), trivial, trivial⟩ trivial (fun _ _ q => q) ?_ (fun _ _ _ q => q)
      refine wa_iload_n (n := 0) rfl ?_
      refine wa_i2l (w_rg0 (by omega) (by omega)) ?_
      refine wa_bipush (w_rg2 (by omega) (by omega)) ?_
      refine wa_lshl ?_
      refine wa_iload_n (n := 1) rfl ?_
      refine wa_i2l (w_rg0 (by omega) (by omega)) ?_
      refine wa_lor ?_
      refine wa_lreturn rfl ?_
      show wJ _ _ _ _ _ _ _ _ _ _
      rw [sl_mk hst0 hsz0]
      have hw := sl_rg hst0 hsz0
      refine wa_lreturn rfl ?_
      show wJ _ _ _ _ _ _ _ _ _ _
      refine wa_lstore (n := 5) rfl ?_
      refine wa_aload_n (n := 0) rfl ?_
      refine wb_gf4 215 rfl (wy_pr rfl) wt_215 wf_8_0 (v := 72) wl_215_0 ?_
      refine wa_lload (n := 5) rfl ?_
      refine wa_cs (M2 := mS [217, 218]) rfl at_X_sliceSize ⟨_, rfl⟩ rfl rfl ⟨trivial, trivial, (Or.inr ⟨wy_pr rfl, mS_no rfl⟩), trivial, trivial, trivial⟩ ⟨(Or.inr ⟨wy_pr rfl, mS_no rfl⟩), trivial⟩ (fun _ _ q => q) ?_ (fun _ _ _ q => q)
      refine wa_lload_n (n := 0) rfl ?_
      refine wb_l2i_r (y := sz) (sl_z ⟨by omega, by omega⟩ ⟨by omega, by omega⟩) ?_
      refine wa_ireturn rfl ?_
      show wJ _ _ _ _ _ _ _ _ _ _
      refine wa_cv 72 rfl (wy_pr rfl) wt_72 (M2 := mS [217, 218]) rfl at_XH_hasTextRoom ⟨_, rfl⟩ rfl rfl ⟨trivial, trivial, (Or.inr ⟨wy_pr rfl, mS_no rfl⟩), trivial, trivial, trivial⟩ trivial (fun _ _ q => q) ?_ (fun _ _ _ q => q)
      refine wa_aload_n (n := 0) rfl ?_
      refine wa_iconst ?_
      refine wa_iconst ?_
      refine wa_cv 72 rfl (wy_pr rfl) wt_72 (M2 := mS [217, 218]) rfl at_XH_hasRoom ⟨_, rfl⟩ rfl rfl ⟨(Or.inr ⟨wy_pr rfl, mS_no rfl⟩), trivial, trivial⟩ trivial (fun _ _ q => q) ?_ (fun _ _ _ q => q)
      refine wa_aload_n (n := 0) rfl ?_
      refine wb_gf4 72 rfl (wy_pr rfl) wt_72 wf_2_10 (v := 150) wl_72_10 ?_
      refine wa_iload_n (n := 1) rfl ?_
      refine wb_iald 150 rfl (wy_pr rfl) wt_150 (n := 6) ((cl_150 hC)) (by omega) (by omega) (v := u2) (hu2) (fun r29 => ?_)
      refine wa_iload_n (n := 2) rfl ?_
      refine wa_iadd ?_
      refine wa_gs ?_
      refine wa_iload_n (n := 1) rfl ?_
      refine wb_xald 1 rfl hx1 (by decide) (by omega) (by decide) (v := 12000) (by decide) (fun r30 => ?_)
      refine wa_icmpgt (w_rg0 (by omega) (by omega)) (w_rg0 (by omega) (by omega)) ⟨_, rfl⟩ (fun c31 => ?_) (fun c31 => ?_)
      · skip
        refine wa_iconst ?_
        refine wa_fall ⟨_, rfl⟩ ?_
        refine wa_zreturn rfl (Or.inl rfl) ?_
        show wJ _ _ _ _ _ _ _ _ _ _
        refine wa_ifeq (w_rg0 (by omega) (by omega)) ⟨_, rfl⟩ (fun c32 => ?_) (fun c32 => ?_)
        · skip
          refine wa_iconst ?_
          refine wa_fall ⟨_, rfl⟩ ?_
          refine wa_zreturn rfl (Or.inl rfl) ?_
          show wJ _ _ _ _ _ _ _ _ _ _
          refine wa_ifne (w_rg0 (by omega) (by omega)) ⟨_, rfl⟩ (fun c33 => ?_) (fun c33 => ?_)
          · skip
            exact absurd c33 (by omega)
          · skip
            refine wa_aload_n (n := 0) rfl ?_
            refine wa_bipush (w_rg2 (by omega) (by omega)) ?_
            refine wb_pfi 215 rfl (wy_pr rfl) wt_215 wf_8_16 (n := 16) rfl ⟨(by omega), (by omega)⟩ ?_
            refine wa_return rfl ?_
            show wJ _ _ _ _ _ _ _ _ _ _
            refine wa_goto ⟨_, rfl⟩ ?_
            refine wa_return rfl ?_
            exact ⟨rfl, Or.inl ⟨by omega, rfl⟩⟩
        · skip
          exact absurd c32 (by omega)
      · skip
        refine wa_iconst ?_
        refine wa_goto ⟨_, rfl⟩ ?_
        refine wa_zreturn rfl (Or.inr rfl) ?_
        show wJ _ _ _ _ _ _ _ _ _ _
        refine wa_ifeq (w_rg0 (by omega) (by omega)) ⟨_, rfl⟩ (fun c34 => ?_) (fun c34 => ?_)
        · skip
          exact absurd c34 (by omega)
        · skip
          refine wa_aload_n (n := 0) rfl ?_
          refine wa_iconst ?_
          refine wa_iload_n (n := 1) rfl ?_
          refine wa_cv 72 rfl (wy_pr rfl) wt_72 (M2 := mS [217, 218]) rfl at_XH_hasRoom ⟨_, rfl⟩ rfl rfl ⟨(Or.inr ⟨wy_pr rfl, mS_no rfl⟩), trivial, trivial⟩ trivial (fun _ _ q => q) ?_ (fun _ _ _ q => q)
          refine wa_aload_n (n := 0) rfl ?_
          refine wb_gf4 72 rfl (wy_pr rfl) wt_72 wf_2_10 (v := 150) wl_72_10 ?_
          refine wa_iload_n (n := 1) rfl ?_
          refine wb_iald 150 rfl (wy_pr rfl) wt_150 (n := 6) ((cl_150 hC)) (by omega) (by omega) (v := u3) (hu3) (fun r35 => ?_)
          refine wa_iload_n (n := 2) rfl ?_
          refine wa_iadd ?_
          refine wa_gs ?_
          refine wa_iload_n (n := 1) rfl ?_
          refine wb_xald 1 rfl hx1 (by decide) (by omega) (by decide) (v := 200000) (by decide) (fun r36 => ?_)
          refine wa_icmpgt (w_rg0 (by omega) (by omega)) (w_rg0 (by omega) (by omega)) ⟨_, rfl⟩ (fun c37 => ?_) (fun c37 => ?_)
          · skip
            refine wa_iconst ?_
            refine wa_fall ⟨_, rfl⟩ ?_
            refine wa_zreturn rfl (Or.inl rfl) ?_
            show wJ _ _ _ _ _ _ _ _ _ _
            refine wa_ifeq (w_rg0 (by omega) (by omega)) ⟨_, rfl⟩ (fun c38 => ?_) (fun c38 => ?_)
            · skip
              refine wa_iconst ?_
              refine wa_fall ⟨_, rfl⟩ ?_
              refine wa_zreturn rfl (Or.inl rfl) ?_
              show wJ _ _ _ _ _ _ _ _ _ _
              refine wa_ifne (w_rg0 (by omega) (by omega)) ⟨_, rfl⟩ (fun c39 => ?_) (fun c39 => ?_)
              · skip
                exact absurd c39 (by omega)
              · skip
                refine wa_aload_n (n := 0) rfl ?_
                refine wa_bipush (w_rg2 (by omega) (by omega)) ?_
                refine wb_pfi 215 rfl (wy_pr rfl) wt_215 wf_8_16 (n := 16) rfl ⟨(by omega), (by omega)⟩ ?_
                refine wa_return rfl ?_
                show wJ _ _ _ _ _ _ _ _ _ _
                refine wa_goto ⟨_, rfl⟩ ?_
                refine wa_return rfl ?_
                exact ⟨rfl, Or.inl ⟨by omega, rfl⟩⟩
            · skip
              exact absurd c38 (by omega)
          · skip
            refine wa_iconst ?_
            refine wa_goto ⟨_, rfl⟩ ?_
            refine wa_zreturn rfl (Or.inr rfl) ?_
            show wJ _ _ _ _ _ _ _ _ _ _
            refine wa_ifeq (w_rg0 (by omega) (by omega)) ⟨_, rfl⟩ (fun c40 => ?_) (fun c40 => ?_)
            · skip
              exact absurd c40 (by omega)
            · skip
              refine wa_iconst ?_
              refine wa_goto ⟨_, rfl⟩ ?_
              refine wa_zreturn rfl (Or.inr rfl) ?_
              show wJ _ _ _ _ _ _ _ _ _ _
              refine wa_ifne (w_rg0 (by omega) (by omega)) ⟨_, rfl⟩ (fun c41 => ?_) (fun c41 => ?_)
              · skip
                refine wa_aload_n (n := 0) rfl ?_
                refine wb_gf4 215 rfl (wy_pr rfl) wt_215 wf_8_0 (v := 72) wl_215_0 ?_
                refine wa_lload (n := 5) rfl ?_
                refine wa_cs (M2 := mS [217, 218]) rfl at_X_sliceSize ⟨_, rfl⟩ rfl rfl ⟨trivial, trivial, (Or.inr ⟨wy_pr rfl, mS_no rfl⟩), trivial, trivial, trivial⟩ ⟨(Or.inr ⟨wy_pr rfl, mS_no rfl⟩), trivial⟩ (fun _ _ q => q) ?_ (fun _ _ _ q => q)
                refine wa_lload_n (n := 0) rfl ?_
                refine wb_l2i_r (y := sz) (sl_z ⟨by omega, by omega⟩ ⟨by omega, by omega⟩) ?_
                refine wa_ireturn rfl ?_
                show wJ _ _ _ _ _ _ _ _ _ _
                refine wa_cv 72 rfl (wy_pr rfl) wt_72 (M2 := mS [217, 218]) rfl at_XH_useText ⟨_, rfl⟩ rfl rfl ⟨trivial, trivial, (Or.inr ⟨wy_pr rfl, mS_no rfl⟩), trivial, trivial, trivial⟩ trivial (fun _ _ q => q) ?_ (fun _ _ _ q => q)
                refine wa_aload_n (n := 0) rfl ?_
                refine wb_gf4 72 rfl (wy_pr rfl) wt_72 wf_2_10 (v := 150) wl_72_10 ?_
                refine wa_iconst ?_
                refine wa_dup2 (by decide) (by decide) ?_
                refine wb_iald 150 rfl (wy_pr rfl) wt_150 (n := 6) ((cl_150 hC)) (by omega) (by omega) (v := u2) (hu2) (fun r42 => ?_)
                refine wa_iconst ?_
                refine wa_iadd ?_
                refine wb_iast 150 rfl (wy_pr rfl) wt_150 (n := 6) ((cl_150 hC)) (by omega) (by omega) ⟨(by omega), (by omega)⟩ ?_
                refine wa_aload_n (n := 0) rfl ?_
                refine wb_gf4 72 rfl (wy_pr rfl) wt_72 wf_2_10 (v := 150) wl_72_10 ?_
                refine wa_iconst ?_
                refine wa_dup2 (by decide) (by decide) ?_
                refine wb_iald 150 rfl (wy_pr rfl) wt_150 (n := 6) ((w_up_at (by decide)).trans ((cl_150 hC))) (by omega) (by omega) (v := u3) ((w_up_at (by decide)).trans (hu3)) (fun r43 => ?_)
                refine wa_iload_n (n := 1) rfl ?_
                refine wa_iadd ?_
                refine wb_iast 150 rfl (wy_pr rfl) wt_150 (n := 6) ((w_up_at (by decide)).trans ((cl_150 hC))) (by omega) (by omega) ⟨(by omega), (by omega)⟩ ?_
                refine wa_return rfl ?_
                show wJ _ _ _ _ _ _ _ _ _ _
                refine wa_aload_n (n := 0) rfl ?_
                refine wa_iconst ?_
                refine wa_iconst ?_
                refine wa_lload (n := 5) rfl ?_
                refine wa_cv 215 rfl (wy_pr rfl) wt_215 (M2 := mS [217, 218]) rfl at_XK_give ⟨_, rfl⟩ rfl rfl ⟨trivial, trivial, (Or.inr ⟨wy_pr rfl, mS_no rfl⟩), trivial, trivial, trivial⟩ trivial (fun _ _ q => q) (gw_215 (S := (w_up (w_up S 150 2 (u2 + 1)) 150 3 (u3 + sz))) (n := 1) (k := 3) (v := (st * 4294967296 + sz)) (h := h) (c := c) (p := p) (ln := (S 217 (-1))) (w_CL_up (w_CL_up hC (by omega)) (by omega)) (gI_up (gI_up hI (by omega) (by omega) (by omega)) (by omega) (by omega) (by omega)) ⟨by omega, by omega⟩ ⟨by omega, by omega⟩ ((w_up_slot (by decide)).trans ((w_up_slot (by decide)).trans (bh))) ((w_up_slot (by decide)).trans ((w_up_slot (by decide)).trans (bc))) ((w_up_slot (by decide)).trans ((w_up_slot (by decide)).trans (bp))) ((w_up_slot (by decide)).trans ((w_up_slot (by decide)).trans (rfl))) ((w_up_slot (by decide)).trans ((w_up_slot (by decide)).trans (bl1))) ⟨by omega, by omega⟩ ⟨by omega, by omega, by omega⟩ ⟨by omega, by omega⟩ ⟨by omega, by omega⟩) (fun oq44 Sq44 hp45 q44 => ?_)
                rcases q44 with ⟨rfl, A44, ra44, rfl⟩
                show wJ _ _ _ _ _ _ _ _ _ _
                refine wa_return rfl ?_
                show wJ _ _ _ _ _ _ _ _ _ _
                refine wa_goto ⟨_, rfl⟩ ?_
                refine wa_return rfl ?_
                exact ⟨rfl, Or.inr ⟨by omega, by omega, A44, ra44, rfl⟩⟩
              · skip
                exact absurd c41 (by omega)
    · skip
      have c25x := @wb_lcmp_cases vy (wb_l2i vy)
      exfalso; omega
theorem zb6_215 (h : stC 215 S K) (hi : cIn S K 28 6 b) (hx1 : pe_at (pe_GA xs).xs 1 = some (1, tx_1)) (hx55 : pe_at (pe_GA xs).xs 55 = some (1, tx_55)) (hWd : wd_at S 2 1024) (hWL : wd_L S 2 1024) (hr2 : r2_I S) (h33 : 33 ≤ S 2 7) (hu2 : 0 ≤ S 150 2 ∧ S 150 2 ≤ 12000) (hu3 : 0 ≤ S 150 3 ∧ S 150 3 ≤ 200000) (hh1 : 1 ≤ K.1.length) (hk8 : 0 ≤ (K.1.getD (K.1.length - 1) (0, 0, [])).1 ∧ (K.1.getD (K.1.length - 1) (0, 0, [])).1 ≤ 8) (hm : S 150 2 < 12000 ∧ S 150 3 + ((kdL (K.1.getD (K.1.length - 1) (0, 0, [])).1 (K.1.getD (K.1.length - 1) (0, 0, [])).2.1).length : Int) ≤ 200000) : cSm xs d 215 [217, 218] cMx S (kP K 1 (3, 0, (kdL (K.1.getD (K.1.length - 1) (0, 0, [])).1 (K.1.getD (K.1.length - 1) (0, 0, [])).2.1))) (fun Z => Z 150 2 = S 150 2 + 1 ∧ Z 150 3 = S 150 3 + ((kdL (K.1.getD (K.1.length - 1) (0, 0, [])).1 (K.1.getD (K.1.length - 1) (0, 0, [])).2.1).length : Int)) := by
  obtain ⟨h1, ⟨h2, h2b⟩, ⟨h3, h4, h5⟩, -⟩ := id h
  have hk : cTk 215 (w_up S 215 16 0) K := cTk_16 h1 (Or.inl rfl)
  have hf : cFr 215 S (w_up S 215 16 0) := cFr_up (Or.inl rfl) (cFr_rfl h2b) (by first | decide | omega) (by omega)
  have hcy := c_at h1 (i := K.1.length - 1) (by omega) (j := (K.1.length : Int) - 1) (by omega)
  have ef : ∀ (j : Nat) (x : Int), j < 215 → (w_up S 215 16 0) j x = S j x := fun j x j0 => w_up_slot (by omega)
  obtain ⟨⟨q1, q2⟩, ⟨q3, q4⟩, q5, -⟩ := (show wd_I 1024 (S 3) (S 4) (S 5) (S 6) (S 12) (S 2 1) (S 3 (-1)) (S 2 7) (S 4 (-1)) from hWd)
  have l5 : S 5 (-1) = S 4 (-1) := hWL.2.1
  have l4 : S 4 (-1) ≤ 2147483647 := hWL.2.2.2.2.2.2.2.1
  have l3 : S 3 (-1) ≤ 2147483647 := hWL.2.2.2.2.2.2.2.2
  have hwr := kWd_rg (v := (K.1.getD (K.1.length - 1) (0, 0, [])).2.1) hk8
  obtain ⟨wd, hwd⟩ : ∃ wd : Int, wd = (kWd (K.1.getD (K.1.length - 1) (0, 0, [])).1 (K.1.getD (K.1.length - 1) (0, 0, [])).2.1) := ⟨_, rfl⟩
  rw [← hwd] at hwr
  obtain ⟨g1, g2, g3, g4⟩ := q5 wd hwr.1 (by omega)
  obtain ⟨c3, c4⟩ := hr2 wd.toNat (by omega)
  rw [show ((wd.toNat : Nat) : Int) = wd by omega] at c3 c4
  have hLL : wl2.getD wd.toNat [] = (kdL (K.1.getD (K.1.length - 1) (0, 0, [])).1 (K.1.getD (K.1.length - 1) (0, 0, [])).2.1) := by rw [hwd]; rfl
  rw [hLL] at c3 c4
  have hl33 : ∀ i : Nat, i < 33 → (wl2.getD i []).length ≤ 100 := by decide
  have hl34 : (kdL (K.1.getD (K.1.length - 1) (0, 0, [])).1 (K.1.getD (K.1.length - 1) (0, 0, [])).2.1).length ≤ 100 := by rw [← hLL]; exact hl33 wd.toNat (by omega)
  have e2 : (w_up S 215 16 0) 150 2 = S 150 2 := ef 150 2 (by first | decide | omega)
  have e3 : (w_up S 215 16 0) 150 3 = S 150 3 := ef 150 3 (by first | decide | omega)
  have hbits : (K.1.getD (K.1.length - 1) (0, 0, [])).1 = 2 → S 218 ((K.1.length : Int) - 1) = (K.1.getD (K.1.length - 1) (0, 0, [])).2.1 := fun z => cV_v hcy (by omega)
  have hcal : wJ (pe_GA xs) wY0 (mS [217, 218]) (d + 11) t_XK_callBuiltin ((pe_at t_XK_callBuiltin.bl 0).getD (0, [])).2 [(0, (2, 215)), (1, (0, 6))] [] (w_up S 215 16 0) (fun o Z => o = .inl none ∧ (((12000 ≤ S 150 2 ∨ 200000 < S 150 3 + ((kdL (K.1.getD (K.1.length - 1) (0, 0, [])).1 (K.1.getD (K.1.length - 1) (0, 0, [])).2.1).length : Int)) ∧ w_up (w_up S 215 16 0) 215 16 99 = Z) ∨ (S 150 2 < 12000 ∧ S 150 3 + ((kdL (K.1.getD (K.1.length - 1) (0, 0, [])).1 (K.1.getD (K.1.length - 1) (0, 0, [])).2.1).length : Int) ≤ 200000 ∧ sO 215 (K.1.length : Int) (K.2.1.length : Int) (K.2.1.getD (K.2.1.length - 1) (0, 0, 0, (0, 0, []), 0, 0, 0)).2.1 1 3 (S 4 wd * 4294967296 + ((kdL (K.1.getD (K.1.length - 1) (0, 0, [])).1 (K.1.getD (K.1.length - 1) (0, 0, [])).2.1).length : Int)) (w_up (w_up (w_up S 215 16 0) 150 2 (S 150 2 + 1)) 150 3 (S 150 3 + ((kdL (K.1.getD (K.1.length - 1) (0, 0, [])).1 (K.1.getD (K.1.length - 1) (0, 0, [])).2.1).length : Int))) Z))) := by
    by_cases c : (K.1.getD (K.1.length - 1) (0, 0, [])).1 = 2 ∧ (K.1.getD (K.1.length - 1) (0, 0, [])).2.1 ≠ wb_l2i (K.1.getD (K.1.length - 1) (0, 0, [])).2.1
    · have hw28 : wd = 28 := by rw [hwd]; exact if_pos c
      exact xb6l_215 (wd := wd) (xP_of (Or.inl rfl) h) hx1 hx55 ((w_up_slot (by first | decide | omega)).trans (hcy.1.trans c.1)) (by rw [hbits c.1]; exact c.2) hw28 (w_up_slot (by first | decide | omega)) (by omega) ⟨hwr.1, by rw [ef 4 _ (by first | decide | omega)]; omega⟩ (by rw [ef 5 _ (by first | decide | omega), ef 4 _ (by first | decide | omega)]; exact l5) (ef 4 wd (by first | decide | omega)) ((ef 5 wd (by first | decide | omega)).trans c3) ⟨g1, by omega⟩ ⟨by omega, by omega⟩ (by rw [ef 4 _ (by first | decide | omega)]; exact l4) e2 e3 ⟨hu2, hu3, by omega⟩
    · have hwt : w_tx tx_55 (K.1.getD (K.1.length - 1) (0, 0, [])).1 = wd := by rw [hwd]; exact (if_neg c).symm
      exact xb6o_215 (wd := wd) (xP_of (Or.inl rfl) h) hx1 hx55 ((w_up_slot (by first | decide | omega)).trans hcy.1) hk8 (fun z => by rw [hbits z]; exact Classical.byContradiction (fun y => c ⟨z, y⟩)) hwt (w_up_slot (by first | decide | omega)) (by omega) ⟨hwr.1, by rw [ef 4 _ (by first | decide | omega)]; omega⟩ (by rw [ef 5 _ (by first | decide | omega), ef 4 _ (by first | decide | omega)]; exact l5) (ef 4 wd (by first | decide | omega)) ((ef 5 wd (by first | decide | omega)).trans c3) ⟨g1, by omega⟩ ⟨by omega, by omega⟩ (by rw [ef 4 _ (by first | decide | omega)]; exact l4) e2 e3 ⟨hu2, hu3, by omega⟩
  have hg : wG = 1000000 := rfl
  refine cg_b_215 h hi.1 hi.2.1 hi.2.2 (by first | decide | omega) (fun q => by omega) (by first | decide | omega) (by unfold mS; decide) hcal (fun Z hz => ?_)
  rcases hz with ⟨z, -⟩ | ⟨-, -, hs⟩
  · omega
  have f1 : cFm 215 cMx S (w_up (w_up (w_up S 215 16 0) 150 2 (S 150 2 + 1)) 150 3 (S 150 3 + ((kdL (K.1.getD (K.1.length - 1) (0, 0, [])).1 (K.1.getD (K.1.length - 1) (0, 0, [])).2.1).length : Int))) := cFm_up (Or.inl rfl) (cFm_up (Or.inl rfl) (cFm_r hf) (by first | decide | omega) (Or.inr (by unfold cMx; omega)) (by first | decide | omega)) (by first | decide | omega) (Or.inr (by unfold cMx; omega)) (by first | decide | omega)
  have eT : ∀ (j : Nat) (x : Int), j ≠ 150 → (w_up (w_up (w_up S 215 16 0) 150 2 (S 150 2 + 1)) 150 3 (S 150 3 + ((kdL (K.1.getD (K.1.length - 1) (0, 0, [])).1 (K.1.getD (K.1.length - 1) (0, 0, [])).2.1).length : Int))) j x = (w_up S 215 16 0) j x := fun j x j0 => (w_up_slot j0).trans (w_up_slot j0)
  have hk2 : cTk 215 (w_up (w_up (w_up S 215 16 0) 150 2 (S 150 2 + 1)) 150 3 (S 150 3 + ((kdL (K.1.getD (K.1.length - 1) (0, 0, [])).1 (K.1.getD (K.1.length - 1) (0, 0, [])).2.1).length : Int))) K := cTk_fr hk (cTx_of (eT 2 1 (by first | decide | omega)) (fun x => eT 3 x (by first | decide | omega))) (fun j y j0 j1 => eT j y (by omega))
  have hv : cVl (w_up (w_up (w_up S 215 16 0) 150 2 (S 150 2 + 1)) 150 3 (S 150 3 + ((kdL (K.1.getD (K.1.length - 1) (0, 0, [])).1 (K.1.getD (K.1.length - 1) (0, 0, [])).2.1).length : Int))) 3 (S 4 wd * 4294967296 + ((kdL (K.1.getD (K.1.length - 1) (0, 0, [])).1 (K.1.getD (K.1.length - 1) (0, 0, [])).2.1).length : Int)) (3, 0, (kdL (K.1.getD (K.1.length - 1) (0, 0, [])).1 (K.1.getD (K.1.length - 1) (0, 0, [])).2.1)) := by
    refine ⟨rfl, fun q => absurd rfl q, fun _ => ⟨rfl, S 4 wd, rfl, g1, ?_, fun i hi2 => ?_⟩⟩
    · rw [eT 2 1 (by first | decide | omega), ef 2 1 (by first | decide | omega)]
      show S 4 wd + ((kdL (K.1.getD (K.1.length - 1) (0, 0, [])).1 (K.1.getD (K.1.length - 1) (0, 0, [])).2.1).length : Int) ≤ S 2 1
      omega
    · have := c4 i (by rw [Int.toNat_natCast]; exact hi2)
      rw [eT 3 _ (by first | decide | omega), ef 3 _ (by first | decide | omega), this]
      show (kdL (K.1.getD (K.1.length - 1) (0, 0, [])).1 (K.1.getD (K.1.length - 1) (0, 0, [])).2.1).getD ((0 : Int) + (i : Int)).toNat 0 = (kdL (K.1.getD (K.1.length - 1) (0, 0, [])).1 (K.1.getD (K.1.length - 1) (0, 0, [])).2.1).getD i 0
      rw [show ((0 : Int) + (i : Int)).toNat = i by omega]
  have fZ := cFr_sO (Or.inl rfl) (cFr_rfl f1.2.2.1) (by omega) hs
  refine ⟨(sO_16 (Or.inl rfl) hs).trans ((eT 215 16 (by first | decide | omega)).trans (w_up_same _ _ _ _)), cTk_sO hk2 (Or.inl rfl) hs rfl rfl h3 rfl hh1 (by omega) hv, cFm_tr f1 (cFm_r fZ), ?_, ?_⟩
  · exact (fZ.1 150 2 (by first | decide | omega) (by first | decide | omega) (by first | decide | omega)).trans ((w_up_at (by first | decide | omega)).trans (w_up_same _ _ _ _))
  · exact (fZ.1 150 3 (by first | decide | omega) (by first | decide | omega) (by first | decide | omega)).trans (w_up_same _ _ _ _)
theorem zb6m_215 (h : stC 215 S K) (hi : cIn S K 28 6 b) (hx1 : pe_at (pe_GA xs).xs 1 = some (1, tx_1)) (hx55 : pe_at (pe_GA xs).xs 55 = some (1, tx_55)) (hWd : wd_at S 2 1024) (hWL : wd_L S 2 1024) (hr2 : r2_I S) (h33 : 33 ≤ S 2 7) (hu2 : 0 ≤ S 150 2 ∧ S 150 2 ≤ 12000) (hu3 : 0 ≤ S 150 3 ∧ S 150 3 ≤ 200000) (hh1 : 1 ≤ K.1.length) (hk8 : 0 ≤ (K.1.getD (K.1.length - 1) (0, 0, [])).1 ∧ (K.1.getD (K.1.length - 1) (0, 0, [])).1 ≤ 8) (hm : 12000 ≤ S 150 2 ∨ 200000 < S 150 3 + ((kdL (K.1.getD (K.1.length - 1) (0, 0, [])).1 (K.1.getD (K.1.length - 1) (0, 0, [])).2.1).length : Int)) : cSn xs d 215 [217, 218] S K := by
  obtain ⟨h1, ⟨h2, h2b⟩, ⟨h3, h4, h5⟩, -⟩ := id h
  have hk : cTk 215 (w_up S 215 16 0) K := cTk_16 h1 (Or.inl rfl)
  have hf : cFr 215 S (w_up S 215 16 0) := cFr_up (Or.inl rfl) (cFr_rfl h2b) (by first | decide | omega) (by omega)
  have hcy := c_at h1 (i := K.1.length - 1) (by omega) (j := (K.1.length : Int) - 1) (by omega)
  have ef : ∀ (j : Nat) (x : Int), j < 215 → (w_up S 215 16 0) j x = S j x := fun j x j0 => w_up_slot (by omega)
  obtain ⟨⟨q1, q2⟩, ⟨q3, q4⟩, q5, -⟩ := (show wd_I 1024 (S 3) (S 4) (S 5) (S 6) (S 12) (S 2 1) (S 3 (-1)) (S 2 7) (S 4 (-1)) from hWd)
  have l5 : S 5 (-1) = S 4 (-1) := hWL.2.1
  have l4 : S 4 (-1) ≤ 2147483647 := hWL.2.2.2.2.2.2.2.1
  have l3 : S 3 (-1) ≤ 2147483647 := hWL.2.2.2.2.2.2.2.2
  have hwr := kWd_rg (v := (K.1.getD (K.1.length - 1) (0, 0, [])).2.1) hk8
  obtain ⟨wd, hwd⟩ : ∃ wd : Int, wd = (kWd (K.1.getD (K.1.length - 1) (0, 0, [])).1 (K.1.getD (K.1.length - 1) (0, 0, [])).2.1) := ⟨_, rfl⟩
  rw [← hwd] at hwr
  obtain ⟨g1, g2, g3, g4⟩ := q5 wd hwr.1 (by omega)
  obtain ⟨c3, c4⟩ := hr2 wd.toNat (by omega)
  rw [show ((wd.toNat : Nat) : Int) = wd by omega] at c3 c4
  have hLL : wl2.getD wd.toNat [] = (kdL (K.1.getD (K.1.length - 1) (0, 0, [])).1 (K.1.getD (K.1.length - 1) (0, 0, [])).2.1) := by rw [hwd]; rfl
  rw [hLL] at c3 c4
  have hl33 : ∀ i : Nat, i < 33 → (wl2.getD i []).length ≤ 100 := by decide
  have hl34 : (kdL (K.1.getD (K.1.length - 1) (0, 0, [])).1 (K.1.getD (K.1.length - 1) (0, 0, [])).2.1).length ≤ 100 := by rw [← hLL]; exact hl33 wd.toNat (by omega)
  have e2 : (w_up S 215 16 0) 150 2 = S 150 2 := ef 150 2 (by first | decide | omega)
  have e3 : (w_up S 215 16 0) 150 3 = S 150 3 := ef 150 3 (by first | decide | omega)
  have hbits : (K.1.getD (K.1.length - 1) (0, 0, [])).1 = 2 → S 218 ((K.1.length : Int) - 1) = (K.1.getD (K.1.length - 1) (0, 0, [])).2.1 := fun z => cV_v hcy (by omega)
  have hcal : wJ (pe_GA xs) wY0 (mS [217, 218]) (d + 11) t_XK_callBuiltin ((pe_at t_XK_callBuiltin.bl 0).getD (0, [])).2 [(0, (2, 215)), (1, (0, 6))] [] (w_up S 215 16 0) (fun o Z => o = .inl none ∧ (((12000 ≤ S 150 2 ∨ 200000 < S 150 3 + ((kdL (K.1.getD (K.1.length - 1) (0, 0, [])).1 (K.1.getD (K.1.length - 1) (0, 0, [])).2.1).length : Int)) ∧ w_up (w_up S 215 16 0) 215 16 99 = Z) ∨ (S 150 2 < 12000 ∧ S 150 3 + ((kdL (K.1.getD (K.1.length - 1) (0, 0, [])).1 (K.1.getD (K.1.length - 1) (0, 0, [])).2.1).length : Int) ≤ 200000 ∧ sO 215 (K.1.length : Int) (K.2.1.length : Int) (K.2.1.getD (K.2.1.length - 1) (0, 0, 0, (0, 0, []), 0, 0, 0)).2.1 1 3 (S 4 wd * 4294967296 + ((kdL (K.1.getD (K.1.length - 1) (0, 0, [])).1 (K.1.getD (K.1.length - 1) (0, 0, [])).2.1).length : Int)) (w_up (w_up (w_up S 215 16 0) 150 2 (S 150 2 + 1)) 150 3 (S 150 3 + ((kdL (K.1.getD (K.1.length - 1) (0, 0, [])).1 (K.1.getD (K.1.length - 1) (0, 0, [])).2.1).length : Int))) Z))) := by
    by_cases c : (K.1.getD (K.1.length - 1) (0, 0, [])).1 = 2 ∧ (K.1.getD (K.1.length - 1) (0, 0, [])).2.1 ≠ wb_l2i (K.1.getD (K.1.length - 1) (0, 0, [])).2.1
    · have hw28 : wd = 28 := by rw [hwd]; exact if_pos c
      exact xb6l_215 (wd := wd) (xP_of (Or.inl rfl) h) hx1 hx55 ((w_up_slot (by first | decide | omega)).trans (hcy.1.trans c.1)) (by rw [hbits c.1]; exact c.2) hw28 (w_up_slot (by first | decide | omega)) (by omega) ⟨hwr.1, by rw [ef 4 _ (by first | decide | omega)]; omega⟩ (by rw [ef 5 _ (by first | decide | omega), ef 4 _ (by first | decide | omega)]; exact l5) (ef 4 wd (by first | decide | omega)) ((ef 5 wd (by first | decide | omega)).trans c3) ⟨g1, by omega⟩ ⟨by omega, by omega⟩ (by rw [ef 4 _ (by first | decide | omega)]; exact l4) e2 e3 ⟨hu2, hu3, by omega⟩
    · have hwt : w_tx tx_55 (K.1.getD (K.1.length - 1) (0, 0, [])).1 = wd := by rw [hwd]; exact (if_neg c).symm
      exact xb6o_215 (wd := wd) (xP_of (Or.inl rfl) h) hx1 hx55 ((w_up_slot (by first | decide | omega)).trans hcy.1) hk8 (fun z => by rw [hbits z]; exact Classical.byContradiction (fun y => c ⟨z, y⟩)) hwt (w_up_slot (by first | decide | omega)) (by omega) ⟨hwr.1, by rw [ef 4 _ (by first | decide | omega)]; omega⟩ (by rw [ef 5 _ (by first | decide | omega), ef 4 _ (by first | decide | omega)]; exact l5) (ef 4 wd (by first | decide | omega)) ((ef 5 wd (by first | decide | omega)).trans c3) ⟨g1, by omega⟩ ⟨by omega, by omega⟩ (by rw [ef 4 _ (by first | decide | omega)]; exact l4) e2 e3 ⟨hu2, hu3, by omega⟩
  refine wJ_mono (cm_b_215 h hi.1 hi.2.1 hi.2.2 (by first | decide | omega) (fun q => by omega) (by first | decide | omega) (by unfold mS; decide) (wJ_mono hcal (fun o Z hz => (⟨hz.1, hz.2.elim (fun z => z.2) (fun z => by omega)⟩ : o = .inl none ∧ w_up (w_up S 215 16 0) 215 16 99 = Z))) (fun Z hz => by subst hz; exact w_up_same _ _ _ _)) (fun o Z2 hz => ?_)
  obtain ⟨hz0, Z, rfl, rfl⟩ := hz
  exact ⟨hz0, cTk_st (cTk_16 hk (Or.inl rfl)) (Or.inl rfl), cFr_up (Or.inl rfl) (cFr_up (Or.inl rfl) hf (by first | decide | omega) (by omega)) (by first | decide | omega) (by omega)⟩
theorem xb6l_226 {c p h vy wd st sz u2 u3 : Int} (hP : xP 226 c p h S) (hx1 : pe_at (pe_GA xs).xs 1 = some (1, tx_1)) (hx55 : pe_at (pe_GA xs).xs 55 = some (1, tx_55)) (hky : S 228 (h - 1) = 2) (hne : vy ≠ wb_l2i vy) (hwd : wd = 28) (hvy : S 229 (h - 1) = vy) (hh1 : 1 ≤ h) (hw0 : 0 ≤ wd ∧ wd < S 4 (-1)) (hl4 : S 5 (-1) = S 4 (-1)) (hst : S 4 wd = st) (hsz : S 5 wd = sz) (hst0 : 0 ≤ st ∧ st < 2147483648) (hsz0 : 0 ≤ sz ∧ sz < 2147483648) (hln : S 4 (-1) ≤ 2147483647) (hu2 : S 150 2 = u2) (hu3 : S 150 3 = u3) (hu : (0 ≤ u2 ∧ u2 ≤ 12000) ∧ (0 ≤ u3 ∧ u3 ≤ 200000) ∧ sz ≤ 1000) : wJ (pe_GA xs) wY0 (mS [228, 229]) (d + 11) t_XK_callBuiltin ((pe_at t_XK_callBuiltin.bl 0).getD (0, [])).2 [(0, (2, 226)), (1, (0, 6))] [] S (fun o Z => o = .inl none ∧ (((12000 ≤ u2 ∨ 200000 < u3 + sz) ∧ w_up S 226 16 99 = Z) ∨ (u2 < 12000 ∧ u3 + sz ≤ 200000 ∧ sO 226 h c p 1 3 (st * 4294967296 + sz) (w_up (w_up S 150 2 (u2 + 1)) 150 3 (u3 + sz)) Z))) := by
  obtain ⟨⟨hC, hI⟩, ⟨bc, bc0, bc1⟩, ⟨bp, bp0, bp1⟩, ⟨bh, bh0, bh1, bh2⟩, bl1, bl2, bl3⟩ := hP
  replace bp : S 231 (c - 1) = p := bp
  replace bh : S 227 2 = h := bh
  replace bh2 : h ≤ S 228 (-1) := bh2
  replace bl1 : S 229 (-1) = S 228 (-1) := bl1
  replace bl2 : 64 ≤ S 228 (-1) := bl2
  replace bl3 : S 228 (-1) ≤ 4095 := bl3
  have hlr := wb_l2i_rg vy
  have htl : tx_55.length = 9 := rfl
  subst hwd
  refine wa_aload_n (n := 0) rfl ?_
  refine wb_gf4 226 rfl (wy_pr rfl) wt_226 wf_8_3 (v := 227) wl_226_3 ?_
  refine wb_gfi 227 rfl (wy_pr rfl) wt_227 wf_7_2 (v := h) (bh) (fun r1 => ?_)
  refine wa_iconst ?_
  refine wa_isub ?_
  refine wa_istore_n (n := 2) rfl ?_
  refine wa_aload_n (n := 0) rfl ?_
  refine wb_gf4 226 rfl (wy_pr rfl) wt_226 wf_8_3 (v := 227) wl_226_3 ?_
  refine wb_gf4 227 rfl (wy_pr rfl) wt_227 wf_7_0 (v := 228) wl_227_0 ?_
  refine wa_iload_n (n := 2) rfl ?_
  refine wb_bald 228 rfl (wy_pr rfl) wt_228 (n := (S 228 (-1))) (rfl) (by omega) (by omega) (v := 2) (hky) (fun r2 => ?_)
  refine wa_istore_n (n := 3) rfl ?_
  refine wa_aload_n (n := 0) rfl ?_
  refine wb_gf4 226 rfl (wy_pr rfl) wt_226 wf_8_3 (v := 227) wl_226_3 ?_
  refine wb_gf4 227 rfl (wy_pr rfl) wt_227 wf_7_1 (v := 229) wl_227_1 ?_
  refine wa_iload_n (n := 2) rfl ?_
  refine wb_lald 229 rfl (wy_pr rfl) wt_229 (n := (S 228 (-1))) (bl1) (by omega) (by omega) (v := vy) (hvy) (fun r3 => ?_)
  refine wa_lstore (n := 4) rfl ?_
  refine wa_iload_n (n := 1) rfl ?_
  refine wb_sw (w_rg0 (by omega) (by omega)) (tb := 13) rfl ⟨_, rfl⟩ ?_
  refine wa_aload_n (n := 0) rfl ?_
  refine wa_iload_n (n := 3) rfl ?_
  refine wa_lload (n := 4) rfl ?_
  refine wa_cv 226 rfl (wy_pr rfl) wt_226 (M2 := mS [228, 229]) rfl at_XK_tellKind ⟨_, rfl⟩ rfl rfl ⟨trivial, trivial, trivial, (Or.inr ⟨wy_pr rfl, mS_no rfl⟩), trivial, trivial⟩ trivial (fun _ _ q => q) ?_ (fun _ _ _ q => q)
  refine wa_iload_n (n := 1) rfl ?_
  refine wa_iconst ?_
  refine wa_icmpne (w_rg0 (by omega) (by omega)) (w_rg0 (by omega) (by omega)) ⟨_, rfl⟩ (fun c4 => ?_) (fun c4 => ?_)
  · skip
    exact absurd c4 (by omega)
  · skip
    refine wa_lload_n (n := 2) rfl ?_
    refine wa_lload_n (n := 2) rfl ?_
    refine wa_l2i ?_
    refine wa_i2l (w_rg0 (by omega) (by omega)) ?_
    refine wa_lcmp (w_rg1 (by omega) (by omega)) (w_rg1 (by omega) (by omega)) ?_
    refine wa_ifeq (by have := @wb_lcmp_cases; exact w_lcmp_rg) ⟨_, rfl⟩ (fun c5 => ?_) (fun c5 => ?_)
    · skip
      have c5x := @wb_lcmp_cases vy (wb_l2i vy)
      exfalso; omega
    · skip
      have c5x := @wb_lcmp_cases vy (wb_l2i vy)
      refine wa_bipush (w_rg2 (by omega) (by omega)) ?_
      refine wa_goto ⟨_, rfl⟩ ?_
      refine wa_istore (n := 4) rfl ?_
      refine wa_aload_n (n := 0) rfl ?_
      refine wb_gf4 226 rfl (wy_pr rfl) wt_226 wf_8_0 (v := 72) wl_226_0 ?_
      refine wb_gf4 72 rfl (wy_pr rfl) wt_72 wf_2_0 (v := 2) wl_72_0 ?_
      refine wa_iload (n := 4) rfl ?_
      refine wa_cv 2 rfl (wy_pr rfl) wt_2 (M2 := mS [228, 229]) rfl at_XW_sliceOf ⟨_, rfl⟩ rfl rfl ⟨trivial, (Or.inr ⟨wy_pr rfl, mS_no rfl⟩), trivial, trivial, trivial⟩ trivial (fun _ _ q => q) ?_ (fun _ _ _ q => q)
      refine wa_aload_n (n := 0) rfl ?_
      refine wb_gf4 2 rfl (wy_pr rfl) wt_2 wf_9_2 (v := 4) wl_2_2 ?_
      refine wa_iload_n (n := 1) rfl ?_
      refine wb_iald 4 rfl (wy_pr rfl) wt_4 (n := (S 4 (-1))) (rfl) (by omega) (by omega) (v := st) (hst) (fun r6 => ?_)
      refine wa_aload_n (n := 0) rfl ?_
      refine wb_gf4 2 rfl (wy_pr rfl) wt_2 wf_9_3 (v := 5) wl_2_3 ?_
      refine wa_iload_n (n := 1) rfl ?_
      refine wb_iald 5 rfl (wy_pr rfl) wt_5 (n := (S 4 (-1))) (hl4) (by omega) (by omega) (v := sz) (hsz) (fun r7 => ?_)
      refine wa_cs (M2 := mS [228, 229]) rfl at_X_slice ⟨_, rfl⟩ rfl rfl ⟨(Or.inr ⟨wy_pr rfl, mS_no rfl⟩), trivial, trivial⟩ trivial (fun _ _ q => q) ?_ (fun _ _ _ q => q)
      refine wa_iload_n (n := 0) rfl ?_
      refine wa_i2l (w_rg0 (by omega) (by omega)) ?_
      refine wa_bipush (w_rg2 (by omega) (by omega)) ?_
      refine wa_lshl ?_
      refine wa_iload_n (n := 1) rfl ?_
      refine wa_i2l (w_rg0 (by omega) (by omega)) ?_
      refine wa_lor ?_
      refine wa_lreturn rfl ?_
      show wJ _ _ _ _ _ _ _ _ _ _
      rw [sl_mk hst0 hsz0]
      have hw := sl_rg hst0 hsz0
      refine wa_lreturn rfl ?_
      show wJ _ _ _ _ _ _ _ _ _ _
      refine wa_lstore (n := 5) rfl ?_
      refine wa_aload_n (n := 0) rfl ?_
      refine wb_gf4 226 rfl (wy_pr rfl) wt_226 wf_8_0 (v := 72) wl_226_0 ?_
      refine wa_lload (n := 5) rfl ?_
      refine wa_cs (M2 := mS [228, 229]) rfl at_X_sliceSize ⟨_, rfl⟩ rfl rfl ⟨trivial, trivial, (Or.inr ⟨wy_pr rfl, mS_no rfl⟩), trivial, trivial, trivial⟩ ⟨(Or.inr ⟨wy_pr rfl, mS_no rfl⟩), trivial⟩ (fun _ _ q => q) ?_ (fun _ _ _ q => q)
      refine wa_lload_n (n := 0) rfl ?_
      refine wb_l2i_r (y := sz) (sl_z ⟨by omega, by omega⟩ ⟨by omega, by omega⟩) ?_
      refine wa_ireturn rfl ?_
      show wJ _ _ _ _ _ _ _ _ _ _
      refine wa_cv 72 rfl (wy_pr rfl) wt_72 (M2 := mS [228, 229]) rfl at_XH_hasTextRoom ⟨_, rfl⟩ rfl rfl ⟨trivial, trivial, (Or.inr ⟨wy_pr rfl, mS_no rfl⟩), trivial, trivial, trivial⟩ trivial (fun _ _ q => q) ?_ (fun _ _ _ q => q)
      refine wa_aload_n (n := 0) rfl ?_
      refine wa_iconst ?_
      refine wa_iconst ?_
      refine wa_cv 72 rfl (wy_pr rfl) wt_72 (M2 := mS [228, 229]) rfl at_XH_hasRoom ⟨_, rfl⟩ rfl rfl ⟨(Or.inr ⟨wy_pr rfl, mS_no rfl⟩), trivial, trivial⟩ trivial (fun _ _ q => q) ?_ (fun _ _ _ q => q)
      refine wa_aload_n (n := 0) rfl ?_
      refine wb_gf4 72 rfl (wy_pr rfl) wt_72 wf_2_10 (v := 150) wl_72_10 ?_
      refine wa_iload_n (n := 1) rfl ?_
      refine wb_iald 150 rfl (wy_pr rfl) wt_150 (n := 6) ((cl_150 hC)) (by omega) (by omega) (v := u2) (hu2) (fun r8 => ?_)
      refine wa_iload_n (n := 2) rfl ?_
      refine wa_iadd ?_
      refine wa_gs ?_
      refine wa_iload_n (n := 1) rfl ?_
      refine wb_xald 1 rfl hx1 (by decide) (by omega) (by decide) (v := 12000) (by decide) (fun r9 => ?_)
      refine wa_icmpgt (w_rg0 (by omega) (by omega)) (w_rg0 (by omega) (by omega)) ⟨_, rfl⟩ (fun c10 => ?_) (fun c10 => ?_)
      · skip
        refine wa_iconst ?_
        refine wa_fall ⟨_, rfl⟩ ?_
        refine wa_zreturn rfl (Or.inl rfl) ?_
        show wJ _ _ _ _ _ _ _ _ _ _
        refine wa_ifeq (w_rg0 (by omega) (by omega)) ⟨_, rfl⟩ (fun c11 => ?_) (fun c11 => ?_)
        · skip
          refine wa_iconst ?_
          refine wa_fall ⟨_, rfl⟩ ?_
          refine wa_zreturn rfl (Or.inl rfl) ?_
          show wJ _ _ _ _ _ _ _ _ _ _
          refine wa_ifne (w_rg0 (by omega) (by omega)) ⟨_, rfl⟩ (fun c12 => ?_) (fun c12 => ?_)
          · skip
            exact absurd c12 (by omega)
          · skip
            refine wa_aload_n (n := 0) rfl ?_
            refine wa_bipush (w_rg2 (by omega) (by omega)) ?_
            refine wb_pfi 226 rfl (wy_pr rfl) wt_226 wf_8_16 (n := 16) rfl ⟨(by omega), (by omega)⟩ ?_
            refine wa_return rfl ?_
            show wJ _ _ _ _ _ _ _ _ _ _
            refine wa_goto ⟨_, rfl⟩ ?_
            refine wa_return rfl ?_
            exact ⟨rfl, Or.inl ⟨by omega, rfl⟩⟩
        · skip
          exact absurd c11 (by omega)
      · skip
        refine wa_iconst ?_
        refine wa_goto ⟨_, rfl⟩ ?_
        refine wa_zreturn rfl (Or.inr rfl) ?_
        show wJ _ _ _ _ _ _ _ _ _ _
        refine wa_ifeq (w_rg0 (by omega) (by omega)) ⟨_, rfl⟩ (fun c13 => ?_) (fun c13 => ?_)
        · skip
          exact absurd c13 (by omega)
        · skip
          refine wa_aload_n (n := 0) rfl ?_
          refine wa_iconst ?_
          refine wa_iload_n (n := 1) rfl ?_
          refine wa_cv 72 rfl (wy_pr rfl) wt_72 (M2 := mS [228, 229]) rfl at_XH_hasRoom ⟨_, rfl⟩ rfl rfl ⟨(Or.inr ⟨wy_pr rfl, mS_no rfl⟩), trivial, trivial⟩ trivial (fun _ _ q => q) ?_ (fun _ _ _ q => q)
          refine wa_aload_n (n := 0) rfl ?_
          refine wb_gf4 72 rfl (wy_pr rfl) wt_72 wf_2_10 (v := 150) wl_72_10 ?_
          refine wa_iload_n (n := 1) rfl ?_
          refine wb_iald 150 rfl (wy_pr rfl) wt_150 (n := 6) ((cl_150 hC)) (by omega) (by omega) (v := u3) (hu3) (fun r14 => ?_)
          refine wa_iload_n (n := 2) rfl ?_
          refine wa_iadd ?_
          refine wa_gs ?_
          refine wa_iload_n (n := 1) rfl ?_
          refine wb_xald 1 rfl hx1 (by decide) (by omega) (by decide) (v := 200000) (by decide) (fun r15 => ?_)
          refine wa_icmpgt (w_rg0 (by omega) (by omega)) (w_rg0 (by omega) (by omega)) ⟨_, rfl⟩ (fun c16 => ?_) (fun c16 => ?_)
          · skip
            refine wa_iconst ?_
            refine wa_fall ⟨_, rfl⟩ ?_
            refine wa_zreturn rfl (Or.inl rfl) ?_
            show wJ _ _ _ _ _ _ _ _ _ _
            refine wa_ifeq (w_rg0 (by omega) (by omega)) ⟨_, rfl⟩ (fun c17 => ?_) (fun c17 => ?_)
            · skip
              refine wa_iconst ?_
              refine wa_fall ⟨_, rfl⟩ ?_
              refine wa_zreturn rfl (Or.inl rfl) ?_
              show wJ _ _ _ _ _ _ _ _ _ _
              refine wa_ifne (w_rg0 (by omega) (by omega)) ⟨_, rfl⟩ (fun c18 => ?_) (fun c18 => ?_)
              · skip
                exact absurd c18 (by omega)
              · skip
                refine wa_aload_n (n := 0) rfl ?_
                refine wa_bipush (w_rg2 (by omega) (by omega)) ?_
                refine wb_pfi 226 rfl (wy_pr rfl) wt_226 wf_8_16 (n := 16) rfl ⟨(by omega), (by omega)⟩ ?_
                refine wa_return rfl ?_
                show wJ _ _ _ _ _ _ _ _ _ _
                refine wa_goto ⟨_, rfl⟩ ?_
                refine wa_return rfl ?_
                exact ⟨rfl, Or.inl ⟨by omega, rfl⟩⟩
            · skip
              exact absurd c17 (by omega)
          · skip
            refine wa_iconst ?_
            refine wa_goto ⟨_, rfl⟩ ?_
            refine wa_zreturn rfl (Or.inr rfl) ?_
            show wJ _ _ _ _ _ _ _ _ _ _
            refine wa_ifeq (w_rg0 (by omega) (by omega)) ⟨_, rfl⟩ (fun c19 => ?_) (fun c19 => ?_)
            · skip
              exact absurd c19 (by omega)
            · skip
              refine wa_iconst ?_
              refine wa_goto ⟨_, rfl⟩ ?_
              refine wa_zreturn rfl (Or.inr rfl) ?_
              show wJ _ _ _ _ _ _ _ _ _ _
              refine wa_ifne (w_rg0 (by omega) (by omega)) ⟨_, rfl⟩ (fun c20 => ?_) (fun c20 => ?_)
              · skip
                refine wa_aload_n (n := 0) rfl ?_
                refine wb_gf4 226 rfl (wy_pr rfl) wt_226 wf_8_0 (v := 72) wl_226_0 ?_
                refine wa_lload (n := 5) rfl ?_
                refine wa_cs (M2 := mS [228, 229]) rfl at_X_sliceSize ⟨_, rfl⟩ rfl rfl ⟨trivial, trivial, (Or.inr ⟨wy_pr rfl, mS_no rfl⟩), trivial, trivial, trivial⟩ ⟨(Or.inr ⟨wy_pr rfl, mS_no rfl⟩), trivial⟩ (fun _ _ q => q) ?_ (fun _ _ _ q => q)
                refine wa_lload_n (n := 0) rfl ?_
                refine wb_l2i_r (y := sz) (sl_z ⟨by omega, by omega⟩ ⟨by omega, by omega⟩) ?_
                refine wa_ireturn rfl ?_
                show wJ _ _ _ _ _ _ _ _ _ _
                refine wa_cv 72 rfl (wy_pr rfl) wt_72 (M2 := mS [228, 229]) rfl at_XH_useText ⟨_, rfl⟩ rfl rfl ⟨trivial, trivial, (Or.inr ⟨wy_pr rfl, mS_no rfl⟩), trivial, trivial, trivial⟩ trivial (fun _ _ q => q) ?_ (fun _ _ _ q => q)
                refine wa_aload_n (n := 0) rfl ?_
                refine wb_gf4 72 rfl (wy_pr rfl) wt_72 wf_2_10 (v := 150) wl_72_10 ?_
                refine wa_iconst ?_
                refine wa_dup2 (by decide) (by decide) ?_
                refine wb_iald 150 rfl (wy_pr rfl) wt_150 (n := 6) ((cl_150 hC)) (by omega) (by omega) (v := u2) (hu2) (fun r21 => ?_)
                refine wa_iconst ?_
                refine wa_iadd ?_
                refine wb_iast 150 rfl (wy_pr rfl) wt_150 (n := 6) ((cl_150 hC)) (by omega) (by omega) ⟨(by omega), (by omega)⟩ ?_
                refine wa_aload_n (n := 0) rfl ?_
                refine wb_gf4 72 rfl (wy_pr rfl) wt_72 wf_2_10 (v := 150) wl_72_10 ?_
                refine wa_iconst ?_
                refine wa_dup2 (by decide) (by decide) ?_
                refine wb_iald 150 rfl (wy_pr rfl) wt_150 (n := 6) ((w_up_at (by decide)).trans ((cl_150 hC))) (by omega) (by omega) (v := u3) ((w_up_at (by decide)).trans (hu3)) (fun r22 => ?_)
                refine wa_iload_n (n := 1) rfl ?_
                refine wa_iadd ?_
                refine wb_iast 150 rfl (wy_pr rfl) wt_150 (n := 6) ((w_up_at (by decide)).trans ((cl_150 hC))) (by omega) (by omega) ⟨(by omega), (by omega)⟩ ?_
                refine wa_return rfl ?_
                show wJ _ _ _ _ _ _ _ _ _ _
                refine wa_aload_n (n := 0) rfl ?_
                refine wa_iconst ?_
                refine wa_iconst ?_
                refine wa_lload (n := 5) rfl ?_
                refine wa_cv 226 rfl (wy_pr rfl) wt_226 (M2 := mS [228, 229]) rfl at_XK_give ⟨_, rfl⟩ rfl rfl ⟨trivial, trivial, (Or.inr ⟨wy_pr rfl, mS_no rfl⟩), trivial, trivial, trivial⟩ trivial (fun _ _ q => q) (gw_226 (S := (w_up (w_up S 150 2 (u2 + 1)) 150 3 (u3 + sz))) (n := 1) (k := 3) (v := (st * 4294967296 + sz)) (h := h) (c := c) (p := p) (ln := (S 228 (-1))) (w_CL_up (w_CL_up hC (by omega)) (by omega)) (gI_up (gI_up hI (by omega) (by omega) (by omega)) (by omega) (by omega) (by omega)) ⟨by omega, by omega⟩ ⟨by omega, by omega⟩ ((w_up_slot (by decide)).trans ((w_up_slot (by decide)).trans (bh))) ((w_up_slot (by decide)).trans ((w_up_slot (by decide)).trans (bc))) ((w_up_slot (by decide)).trans ((w_up_slot (by decide)).trans (bp))) ((w_up_slot (by decide)).trans ((w_up_slot (by decide)).trans (rfl))) ((w_up_slot (by decide)).trans ((w_up_slot (by decide)).trans (bl1))) ⟨by omega, by omega⟩ ⟨by omega, by omega, by omega⟩ ⟨by omega, by omega⟩ ⟨by omega, by omega⟩) (fun oq23 Sq23 hp24 q23 => ?_)
                rcases q23 with ⟨rfl, A23, ra23, rfl⟩
                show wJ _ _ _ _ _ _ _ _ _ _
                refine wa_return rfl ?_
                show wJ _ _ _ _ _ _ _ _ _ _
                refine wa_goto ⟨_, rfl⟩ ?_
                refine wa_return rfl ?_
                exact ⟨rfl, Or.inr ⟨by omega, by omega, A23, ra23, rfl⟩⟩
              · skip
                exact absurd c20 (by omega)
theorem xb6o_226 {c p h ky vy wd st sz u2 u3 : Int} (hP : xP 226 c p h S) (hx1 : pe_at (pe_GA xs).xs 1 = some (1, tx_1)) (hx55 : pe_at (pe_GA xs).xs 55 = some (1, tx_55)) (hky : S 228 (h - 1) = ky) (hk8 : 0 ≤ ky ∧ ky ≤ 8) (hne : ky = 2 → vy = wb_l2i vy) (hwd : w_tx tx_55 ky = wd) (hvy : S 229 (h - 1) = vy) (hh1 : 1 ≤ h) (hw0 : 0 ≤ wd ∧ wd < S 4 (-1)) (hl4 : S 5 (-1) = S 4 (-1)) (hst : S 4 wd = st) (hsz : S 5 wd = sz) (hst0 : 0 ≤ st ∧ st < 2147483648) (hsz0 : 0 ≤ sz ∧ sz < 2147483648) (hln : S 4 (-1) ≤ 2147483647) (hu2 : S 150 2 = u2) (hu3 : S 150 3 = u3) (hu : (0 ≤ u2 ∧ u2 ≤ 12000) ∧ (0 ≤ u3 ∧ u3 ≤ 200000) ∧ sz ≤ 1000) : wJ (pe_GA xs) wY0 (mS [228, 229]) (d + 11) t_XK_callBuiltin ((pe_at t_XK_callBuiltin.bl 0).getD (0, [])).2 [(0, (2, 226)), (1, (0, 6))] [] S (fun o Z => o = .inl none ∧ (((12000 ≤ u2 ∨ 200000 < u3 + sz) ∧ w_up S 226 16 99 = Z) ∨ (u2 < 12000 ∧ u3 + sz ≤ 200000 ∧ sO 226 h c p 1 3 (st * 4294967296 + sz) (w_up (w_up S 150 2 (u2 + 1)) 150 3 (u3 + sz)) Z))) := by
  obtain ⟨⟨hC, hI⟩, ⟨bc, bc0, bc1⟩, ⟨bp, bp0, bp1⟩, ⟨bh, bh0, bh1, bh2⟩, bl1, bl2, bl3⟩ := hP
  replace bp : S 231 (c - 1) = p := bp
  replace bh : S 227 2 = h := bh
  replace bh2 : h ≤ S 228 (-1) := bh2
  replace bl1 : S 229 (-1) = S 228 (-1) := bl1
  replace bl2 : 64 ≤ S 228 (-1) := bl2
  replace bl3 : S 228 (-1) ≤ 4095 := bl3
  have hlr := wb_l2i_rg vy
  have htl : tx_55.length = 9 := rfl
  refine wa_aload_n (n := 0) rfl ?_
  refine wb_gf4 226 rfl (wy_pr rfl) wt_226 wf_8_3 (v := 227) wl_226_3 ?_
  refine wb_gfi 227 rfl (wy_pr rfl) wt_227 wf_7_2 (v := h) (bh) (fun r1 => ?_)
  refine wa_iconst ?_
  refine wa_isub ?_
  refine wa_istore_n (n := 2) rfl ?_
  refine wa_aload_n (n := 0) rfl ?_
  refine wb_gf4 226 rfl (wy_pr rfl) wt_226 wf_8_3 (v := 227) wl_226_3 ?_
  refine wb_gf4 227 rfl (wy_pr rfl) wt_227 wf_7_0 (v := 228) wl_227_0 ?_
  refine wa_iload_n (n := 2) rfl ?_
  refine wb_bald 228 rfl (wy_pr rfl) wt_228 (n := (S 228 (-1))) (rfl) (by omega) (by omega) (v := ky) (hky) (fun r2 => ?_)
  refine wa_istore_n (n := 3) rfl ?_
  refine wa_aload_n (n := 0) rfl ?_
  refine wb_gf4 226 rfl (wy_pr rfl) wt_226 wf_8_3 (v := 227) wl_226_3 ?_
  refine wb_gf4 227 rfl (wy_pr rfl) wt_227 wf_7_1 (v := 229) wl_227_1 ?_
  refine wa_iload_n (n := 2) rfl ?_
  refine wb_lald 229 rfl (wy_pr rfl) wt_229 (n := (S 228 (-1))) (bl1) (by omega) (by omega) (v := vy) (hvy) (fun r3 => ?_)
  refine wa_lstore (n := 4) rfl ?_
  refine wa_iload_n (n := 1) rfl ?_
  refine wb_sw (w_rg0 (by omega) (by omega)) (tb := 13) rfl ⟨_, rfl⟩ ?_
  refine wa_aload_n (n := 0) rfl ?_
  refine wa_iload_n (n := 3) rfl ?_
  refine wa_lload (n := 4) rfl ?_
  refine wa_cv 226 rfl (wy_pr rfl) wt_226 (M2 := mS [228, 229]) rfl at_XK_tellKind ⟨_, rfl⟩ rfl rfl ⟨trivial, trivial, trivial, (Or.inr ⟨wy_pr rfl, mS_no rfl⟩), trivial, trivial⟩ trivial (fun _ _ q => q) ?_ (fun _ _ _ q => q)
  refine wa_iload_n (n := 1) rfl ?_
  refine wa_iconst ?_
  refine wa_icmpne (w_rg0 (by omega) (by omega)) (w_rg0 (by omega) (by omega)) ⟨_, rfl⟩ (fun c4 => ?_) (fun c4 => ?_)
  · skip
    refine wa_gs ?_
    refine wa_iload_n (n := 1) rfl ?_
    refine wb_xald 55 rfl hx55 (by decide) (by omega) (by omega) (v := wd) hwd (fun r5 => ?_)
    refine wa_fall ⟨_, rfl⟩ ?_
    refine wa_istore (n := 4) rfl ?_
    refine wa_aload_n (n := 0) rfl ?_
    refine wb_gf4 226 rfl (wy_pr rfl) wt_226 wf_8_0 (v := 72) wl_226_0 ?_
    refine wb_gf4 72 rfl (wy_pr rfl) wt_72 wf_2_0 (v := 2) wl_72_0 ?_
    refine wa_iload (n := 4) rfl ?_
    refine wa_cv 2 rfl (wy_pr rfl) wt_2 (M2 := mS [228, 229]) rfl at_XW_sliceOf ⟨_, rfl⟩ rfl rfl ⟨trivial, (Or.inr ⟨wy_pr rfl, mS_no rfl⟩), trivial, trivial, trivial⟩ trivial (fun _ _ q => q) ?_ (fun _ _ _ q => q)
    refine wa_aload_n (n := 0) rfl ?_
    refine wb_gf4 2 rfl (wy_pr rfl) wt_2 wf_9_2 (v := 4) wl_2_2 ?_
    refine wa_iload_n (n := 1) rfl ?_
    refine wb_iald 4 rfl (wy_pr rfl) wt_4 (n := (S 4 (-1))) (rfl) (by omega) (by omega) (v := st) (hst) (fun r6 => ?_)
    refine wa_aload_n (n := 0) rfl ?_
    refine wb_gf4 2 rfl (wy_pr rfl) wt_2 wf_9_3 (v := 5) wl_2_3 ?_
    refine wa_iload_n (n := 1) rfl ?_
    refine wb_iald 5 rfl (wy_pr rfl) wt_5 (n := (S 4 (-1))) (hl4) (by omega) (by omega) (v := sz) (hsz) (fun r7 => ?_)
    refine wa_cs (M2 := mS [228, 229]) rfl at_X_slice ⟨_, rfl⟩ rfl rfl ⟨(Or.inr ⟨wy_pr rfl, mS_no rfl⟩), trivial, trivial⟩ trivial (fun _ _ q => q) ?_ (fun _ _ _ q => q)
    refine wa_iload_n (n := 0) rfl ?_
    refine wa_i2l (w_rg0 (by omega) (by omega)) ?_
    refine wa_bipush (w_rg2 (by omega) (by omega)) ?_
    refine wa_lshl ?_
    refine wa_iload_n (n := 1) rfl ?_
    refine wa_i2l (w_rg0 (by omega) (by omega)) ?_
    refine wa_lor ?_
    refine wa_lreturn rfl ?_
    show wJ _ _ _ _ _ _ _ _ _ _
    rw [sl_mk hst0 hsz0]
    have hw := sl_rg hst0 hsz0
    refine wa_lreturn rfl ?_
    show wJ _ _ _ _ _ _ _ _ _ _
    refine wa_lstore (n := 5) rfl ?_
    refine wa_aload_n (n := 0) rfl ?_
    refine wb_gf4 226 rfl (wy_pr rfl) wt_226 wf_8_0 (v := 72) wl_226_0 ?_
    refine wa_lload (n := 5) rfl ?_
    refine wa_cs (M2 := mS [228, 229]) rfl at_X_sliceSize ⟨_, rfl⟩ rfl rfl ⟨trivial, trivial, (Or.inr ⟨wy_pr rfl, mS_no rfl⟩), trivial, trivial, trivial⟩ ⟨(Or.inr ⟨wy_pr rfl, mS_no rfl⟩), trivial⟩ (fun _ _ q => q) ?_ (fun _ _ _ q => q)
    refine wa_lload_n (n := 0) rfl ?_
    refine wb_l2i_r (y := sz) (sl_z ⟨by omega, by omega⟩ ⟨by omega, by omega⟩) ?_
    refine wa_ireturn rfl ?_
    show wJ _ _ _ _ _ _ _ _ _ _
    refine wa_cv 72 rfl (wy_pr rfl) wt_72 (M2 := mS [228, 229]) rfl at_XH_hasTextRoom ⟨_, rfl⟩ rfl rfl ⟨trivial, trivial, (Or.inr ⟨wy_pr rfl, mS_no rfl⟩), trivial, trivial, trivial⟩ trivial (fun _ _ q => q) ?_ (fun _ _ _ q => q)
    refine wa_aload_n (n := 0) rfl ?_
    refine wa_iconst ?_
    refine wa_iconst ?_
    refine wa_cv 72 rfl (wy_pr rfl) wt_72 (M2 := mS [228, 229]) rfl at_XH_hasRoom ⟨_, rfl⟩ rfl rfl ⟨(Or.inr ⟨wy_pr rfl, mS_no rfl⟩), trivial, trivial⟩ trivial (fun _ _ q => q) ?_ (fun _ _ _ q => q)
    refine wa_aload_n (n := 0) rfl ?_
    refine wb_gf4 72 rfl (wy_pr rfl) wt_72 wf_2_10 (v := 150) wl_72_10 ?_
    refine wa_iload_n (n := 1) rfl ?_
    refine wb_iald 150 rfl (wy_pr rfl) wt_150 (n := 6) ((cl_150 hC)) (by omega) (by omega) (v := u2) (hu2) (fun r8 => ?_)
    refine wa_iload_n (n := 2) rfl ?_
    refine wa_iadd ?_
    refine wa_gs ?_
    refine wa_iload_n (n := 1) rfl ?_
    refine wb_xald 1 rfl hx1 (by decide) (by omega) (by decide) (v := 12000) (by decide) (fun r9 => ?_)
    refine wa_icmpgt (w_rg0 (by omega) (by omega)) (w_rg0 (by omega) (by omega)) ⟨_, rfl⟩ (fun c10 => ?_) (fun c10 => ?_)
    · skip
      refine wa_iconst ?_
      refine wa_fall ⟨_, rfl⟩ ?_
      refine wa_zreturn rfl (Or.inl rfl) ?_
      show wJ _ _ _ _ _ _ _ _ _ _
      refine wa_ifeq (w_rg0 (by omega) (by omega)) ⟨_, rfl⟩ (fun c11 => ?_) (fun c11 => ?_)
      · skip
        refine wa_iconst ?_
        refine wa_fall ⟨_, rfl⟩ ?_
        refine wa_zreturn rfl (Or.inl rfl) ?_
        show wJ _ _ _ _ _ _ _ _ _ _
        refine wa_ifne (w_rg0 (by omega) (by omega)) ⟨_, rfl⟩ (fun c12 => ?_) (fun c12 => ?_)
        · skip
          exact absurd c12 (by omega)
        · skip
          refine wa_aload_n (n := 0) rfl ?_
          refine wa_bipush (w_rg2 (by omega) (by omega)) ?_
          refine wb_pfi 226 rfl (wy_pr rfl) wt_226 wf_8_16 (n := 16) rfl ⟨(by omega), (by omega)⟩ ?_
          refine wa_return rfl ?_
          show wJ _ _ _ _ _ _ _ _ _ _
          refine wa_goto ⟨_, rfl⟩ ?_
          refine wa_return rfl ?_
          exact ⟨rfl, Or.inl ⟨by omega, rfl⟩⟩
      · skip
        exact absurd c11 (by omega)
    · skip
      refine wa_iconst ?_
      refine wa_goto ⟨_, rfl⟩ ?_
      refine wa_zreturn rfl (Or.inr rfl) ?_
      show wJ _ _ _ _ _ _ _ _ _ _
      refine wa_ifeq (w_rg0 (by omega) (by omega)) ⟨_, rfl⟩ (fun c13 => ?_) (fun c13 => ?_)
      · skip
        exact absurd c13 (by omega)
      · skip
        refine wa_aload_n (n := 0) rfl ?_
        refine wa_iconst ?_
        refine wa_iload_n (n := 1) rfl ?_
        refine wa_cv 72 rfl (wy_pr rfl) wt_72 (M2 := mS [228, 229]) rfl at_XH_hasRoom ⟨_, rfl⟩ rfl rfl ⟨(Or.inr ⟨wy_pr rfl, mS_no rfl⟩), trivial, trivial⟩ trivial (fun _ _ q => q) ?_ (fun _ _ _ q => q)
        refine wa_aload_n (n := 0) rfl ?_
        refine wb_gf4 72 rfl (wy_pr rfl) wt_72 wf_2_10 (v := 150) wl_72_10 ?_
        refine wa_iload_n (n := 1) rfl ?_
        refine wb_iald 150 rfl (wy_pr rfl) wt_150 (n := 6) ((cl_150 hC)) (by omega) (by omega) (v := u3) (hu3) (fun r14 => ?_)
        refine wa_iload_n (n := 2) rfl ?_
        refine wa_iadd ?_
        refine wa_gs ?_
        refine wa_iload_n (n := 1) rfl ?_
        refine wb_xald 1 rfl hx1 (by decide) (by omega) (by decide) (v := 200000) (by decide) (fun r15 => ?_)
        refine wa_icmpgt (w_rg0 (by omega) (by omega)) (w_rg0 (by omega) (by omega)) ⟨_, rfl⟩ (fun c16 => ?_) (fun c16 => ?_)
        · skip
          refine wa_iconst ?_
          refine wa_fall ⟨_, rfl⟩ ?_
          refine wa_zreturn rfl (Or.inl rfl) ?_
          show wJ _ _ _ _ _ _ _ _ _ _
          refine wa_ifeq (w_rg0 (by omega) (by omega)) ⟨_, rfl⟩ (fun c17 => ?_) (fun c17 => ?_)
          · skip
            refine wa_iconst ?_
            refine wa_fall ⟨_, rfl⟩ ?_
            refine wa_zreturn rfl (Or.inl rfl) ?_
            show wJ _ _ _ _ _ _ _ _ _ _
            refine wa_ifne (w_rg0 (by omega) (by omega)) ⟨_, rfl⟩ (fun c18 => ?_) (fun c18 => ?_)
            · skip
              exact absurd c18 (by omega)
            · skip
              refine wa_aload_n (n := 0) rfl ?_
              refine wa_bipush (w_rg2 (by omega) (by omega)) ?_
              refine wb_pfi 226 rfl (wy_pr rfl) wt_226 wf_8_16 (n := 16) rfl ⟨(by omega), (by omega)⟩ ?_
              refine wa_return rfl ?_
              show wJ _ _ _ _ _ _ _ _ _ _
              refine wa_goto ⟨_, rfl⟩ ?_
              refine wa_return rfl ?_
              exact ⟨rfl, Or.inl ⟨by omega, rfl⟩⟩
          · skip
            exact absurd c17 (by omega)
        · skip
          refine wa_iconst ?_
          refine wa_goto ⟨_, rfl⟩ ?_
          refine wa_zreturn rfl (Or.inr rfl) ?_
          show wJ _ _ _ _ _ _ _ _ _ _
          refine wa_ifeq (w_rg0 (by omega) (by omega)) ⟨_, rfl⟩ (fun c19 => ?_) (fun c19 => ?_)
          · skip
            exact absurd c19 (by omega)
          · skip
            refine wa_iconst ?_
            refine wa_goto ⟨_, rfl⟩ ?_
            refine wa_zreturn rfl (Or.inr rfl) ?_
            show wJ _ _ _ _ _ _ _ _ _ _
            refine wa_ifne (w_rg0 (by omega) (by omega)) ⟨_, rfl⟩ (fun c20 => ?_) (fun c20 => ?_)
            · skip
              refine wa_aload_n (n := 0) rfl ?_
              refine wb_gf4 226 rfl (wy_pr rfl) wt_226 wf_8_0 (v := 72) wl_226_0 ?_
              refine wa_lload (n := 5) rfl ?_
              refine wa_cs (M2 := mS [228, 229]) rfl at_X_sliceSize ⟨_, rfl⟩ rfl rfl ⟨trivial, trivial, (Or.inr ⟨wy_pr rfl, mS_no rfl⟩), trivial, trivial, trivial⟩ ⟨(Or.inr ⟨wy_pr rfl, mS_no rfl⟩), trivial⟩ (fun _ _ q => q) ?_ (fun _ _ _ q => q)
              refine wa_lload_n (n := 0) rfl ?_
              refine wb_l2i_r (y := sz) (sl_z ⟨by omega, by omega⟩ ⟨by omega, by omega⟩) ?_
              refine wa_ireturn rfl ?_
              show wJ _ _ _ _ _ _ _ _ _ _
              refine wa_cv 72 rfl (wy_pr rfl) wt_72 (M2 := mS [228, 229]) rfl at_XH_useText ⟨_, rfl⟩ rfl rfl ⟨trivial, trivial, (Or.inr ⟨wy_pr rfl, mS_no rfl⟩), trivial, trivial, trivial⟩ trivial (fun _ _ q => q) ?_ (fun _ _ _ q => q)
              refine wa_aload_n (n := 0) rfl ?_
              refine wb_gf4 72 rfl (wy_pr rfl) wt_72 wf_2_10 (v := 150) wl_72_10 ?_
              refine wa_iconst ?_
              refine wa_dup2 (by decide) (by decide) ?_
              refine wb_iald 150 rfl (wy_pr rfl) wt_150 (n := 6) ((cl_150 hC)) (by omega) (by omega) (v := u2) (hu2) (fun r21 => ?_)
              refine wa_iconst ?_
              refine wa_iadd ?_
              refine wb_iast 150 rfl (wy_pr rfl) wt_150 (n := 6) ((cl_150 hC)) (by omega) (by omega) ⟨(by omega), (by omega)⟩ ?_
              refine wa_aload_n (n := 0) rfl ?_
              refine wb_gf4 72 rfl (wy_pr rfl) wt_72 wf_2_10 (v := 150) wl_72_10 ?_
              refine wa_iconst ?_
              refine wa_dup2 (by decide) (by decide) ?_
              refine wb_iald 150 rfl (wy_pr rfl) wt_150 (n := 6) ((w_up_at (by decide)).trans ((cl_150 hC))) (by omega) (by omega) (v := u3) ((w_up_at (by decide)).trans (hu3)) (fun r22 => ?_)
              refine wa_iload_n (n := 1) rfl ?_
              refine wa_iadd ?_
              refine wb_iast 150 rfl (wy_pr rfl) wt_150 (n := 6) ((w_up_at (by decide)).trans ((cl_150 hC))) (by omega) (by omega) ⟨(by omega), (by omega)⟩ ?_
              refine wa_return rfl ?_
              show wJ _ _ _ _ _ _ _ _ _ _
              refine wa_aload_n (n := 0) rfl ?_
              refine wa_iconst ?_
              refine wa_iconst ?_
              refine wa_lload (n := 5) rfl ?_
              refine wa_cv 226 rfl (wy_pr rfl) wt_226 (M2 := mS [228, 229]) rfl at_XK_give ⟨_, rfl⟩ rfl rfl ⟨trivial, trivial, (Or.inr ⟨wy_pr rfl, mS_no rfl⟩), trivial, trivial, trivial⟩ trivial (fun _ _ q => q) (gw_226 (S := (w_up (w_up S 150 2 (u2 + 1)) 150 3 (u3 + sz))) (n := 1) (k := 3) (v := (st * 4294967296 + sz)) (h := h) (c := c) (p := p) (ln := (S 228 (-1))) (w_CL_up (w_CL_up hC (by omega)) (by omega)) (gI_up (gI_up hI (by omega) (by omega) (by omega)) (by omega) (by omega) (by omega)) ⟨by omega, by omega⟩ ⟨by omega, by omega⟩ ((w_up_slot (by decide)).trans ((w_up_slot (by decide)).trans (bh))) ((w_up_slot (by decide)).trans ((w_up_slot (by decide)).trans (bc))) ((w_up_slot (by decide)).trans ((w_up_slot (by decide)).trans (bp))) ((w_up_slot (by decide)).trans ((w_up_slot (by decide)).trans (rfl))) ((w_up_slot (by decide)).trans ((w_up_slot (by decide)).trans (bl1))) ⟨by omega, by omega⟩ ⟨by omega, by omega, by omega⟩ ⟨by omega, by omega⟩ ⟨by omega, by omega⟩) (fun oq23 Sq23 hp24 q23 => ?_)
              rcases q23 with ⟨rfl, A23, ra23, rfl⟩
              show wJ _ _ _ _ _ _ _ _ _ _
              refine wa_return rfl ?_
              show wJ _ _ _ _ _ _ _ _ _ _
              refine wa_goto ⟨_, rfl⟩ ?_
              refine wa_return rfl ?_
              exact ⟨rfl, Or.inr ⟨by omega, by omega, A23, ra23, rfl⟩⟩
            · skip
              exact absurd c20 (by omega)
  · skip
    refine wa_lload_n (n := 2) rfl ?_
    refine wa_lload_n (n := 2) rfl ?_
    refine wa_l2i ?_
    refine wa_i2l (w_rg0 (by omega) (by omega)) ?_
    refine wa_lcmp (w_rg1 (by omega) (by omega)) (w_rg1 (by omega) (by omega)) ?_
    refine wa_ifeq (by have := @wb_lcmp_cases; exact w_lcmp_rg) ⟨_, rfl⟩ (fun c25 => ?_) (fun c25 => ?_)
    · skip
      have c25x := @wb_lcmp_cases vy (wb_l2i vy)
      refine wa_gs ?_
      refine wa_iload_n (n := 1) rfl ?_
      refine wb_xald 55 rfl hx55 (by decide) (by omega) (by omega) (v := wd) hwd (fun r26 => ?_)
      refine wa_fall ⟨_, rfl⟩ ?_
      refine wa_istore (n := 4) rfl ?_
      refine wa_aload_n (n := 0) rfl ?_
      refine wb_gf4 226 rfl (wy_pr rfl) wt_226 wf_8_0 (v := 72) wl_226_0 ?_
      refine wb_gf4 72 rfl (wy_pr rfl) wt_72 wf_2_0 (v := 2) wl_72_0 ?_
      refine wa_iload (n := 4) rfl ?_
      refine wa_cv 2 rfl (wy_pr rfl) wt_2 (M2 := mS [228, 229]) rfl at_XW_sliceOf ⟨_, rfl⟩ rfl rfl ⟨trivial, (Or.inr ⟨wy_pr rfl, mS_no rfl⟩), trivial, trivial, trivial⟩ trivial (fun _ _ q => q) ?_ (fun _ _ _ q => q)
      refine wa_aload_n (n := 0) rfl ?_
      refine wb_gf4 2 rfl (wy_pr rfl) wt_2 wf_9_2 (v := 4) wl_2_2 ?_
      refine wa_iload_n (n := 1) rfl ?_
      refine wb_iald 4 rfl (wy_pr rfl) wt_4 (n := (S 4 (-1))) (rfl) (by omega) (by omega) (v := st) (hst) (fun r27 => ?_)
      refine wa_aload_n (n := 0) rfl ?_
      refine wb_gf4 2 rfl (wy_pr rfl) wt_2 wf_9_3 (v := 5) wl_2_3 ?_
      refine wa_iload_n (n := 1) rfl ?_
      refine wb_iald 5 rfl (wy_pr rfl) wt_5 (n := (S 4 (-1))) (hl4) (by omega) (by omega) (v := sz) (hsz) (fun r28 => ?_)
      refine wa_cs (M2 := mS [228, 229]) rfl at_X_slice ⟨_, rfl⟩ rfl rfl ⟨(Or.inr ⟨wy_pr rfl, mS_no rfl⟩), trivial, trivial⟩ trivial (fun _ _ q => q) ?_ (fun _ _ _ q => q)
      refine wa_iload_n (n := 0) rfl ?_
      refine wa_i2l (w_rg0 (by omega) (by omega)) ?_
      refine wa_bipush (w_rg2 (by omega) (by omega)) ?_
      refine wa_lshl ?_
      refine wa_iload_n (n := 1) rfl ?_
      refine wa_i2l (w_rg0 (by omega) (by omega)) ?_
      refine wa_lor ?_
      refine wa_lreturn rfl ?_
      show wJ _ _ _ _ _ _ _ _ _ _
      rw [sl_mk hst0 hsz0]
      have hw := sl_rg hst0 hsz0
      refine wa_lreturn rfl ?_
      show wJ _ _ _ _ _ _ _ _ _ _
      refine wa_lstore (n := 5) rfl ?_
      refine wa_aload_n (n := 0) rfl ?_
      refine wb_gf4 226 rfl (wy_pr rfl) wt_226 wf_8_0 (v := 72) wl_226_0 ?_
      refine wa_lload (n := 5) rfl ?_
      refine wa_cs (M2 := mS [228, 229]) rfl at_X_sliceSize ⟨_, rfl⟩ rfl rfl ⟨trivial, trivial, (Or.inr ⟨wy_pr rfl, mS_no rfl⟩), trivial, trivial, trivial⟩ ⟨(Or.inr ⟨wy_pr rfl, mS_no rfl⟩), trivial⟩ (fun _ _ q => q) ?_ (fun _ _ _ q => q)
      refine wa_lload_n (n := 0) rfl ?_
      refine wb_l2i_r (y := sz) (sl_z ⟨by omega, by omega⟩ ⟨by omega, by omega⟩) ?_
      refine wa_ireturn rfl ?_
      show wJ _ _ _ _ _ _ _ _ _ _
      refine wa_cv 72 rfl (wy_pr rfl) wt_72 (M2 := mS [228, 229]) rfl at_XH_hasTextRoom ⟨_, rfl⟩ rfl rfl ⟨trivial, trivial, (Or.inr ⟨wy_pr rfl, mS_no rfl⟩), trivial, trivial, trivial⟩ trivial (fun _ _ q => q) ?_ (fun _ _ _ q => q)
      refine wa_aload_n (n := 0) rfl ?_
      refine wa_iconst ?_
      refine wa_iconst ?_
      refine wa_cv 72 rfl (wy_pr rfl) wt_72 (M2 := mS [228, 229]) rfl at_XH_hasRoom ⟨_, rfl⟩ rfl rfl ⟨(Or.inr ⟨wy_pr rfl, mS_no rfl⟩), trivial, trivial⟩ trivial (fun _ _ q => q) ?_ (fun _ _ _ q => q)
      refine wa_aload_n (n := 0) rfl ?_
      refine wb_gf4 72 rfl (wy_pr rfl) wt_72 wf_2_10 (v := 150) wl_72_10 ?_
      refine wa_iload_n (n := 1) rfl ?_
      refine wb_iald 150 rfl (wy_pr rfl) wt_150 (n := 6) ((cl_150 hC)) (by omega) (by omega) (v := u2) (hu2) (fun r29 => ?_)
      refine wa_iload_n (n := 2) rfl ?_
      refine wa_iadd ?_
      refine wa_gs ?_
      refine wa_iload_n (n := 1) rfl ?_
      refine wb_xald 1 rfl hx1 (by decide) (by omega) (by decide) (v := 12000) (by decide) (fun r30 => ?_)
      refine wa_icmpgt (w_rg0 (by omega) (by omega)) (w_rg0 (by omega) (by omega)) ⟨_, rfl⟩ (fun c31 => ?_) (fun c31 => ?_)
      · skip
        refine wa_iconst ?_
        refine wa_fall ⟨_, rfl⟩ ?_
        refine wa_zreturn rfl (Or.inl rfl) ?_
        show wJ _ _ _ _ _ _ _ _ _ _
        refine wa_ifeq (w_rg0 (by omega) (by omega)) ⟨_, rfl⟩ (fun c32 => ?_) (fun c32 => ?_)
        · skip
          refine wa_iconst ?_
          refine wa_fall ⟨_, rfl⟩ ?_
          refine wa_zreturn rfl (Or.inl rfl) ?_
          show wJ _ _ _ _ _ _ _ _ _ _
          refine wa_ifne (w_rg0 (by omega) (by omega)) ⟨_, rfl⟩ (fun c33 => ?_) (fun c33 => ?_)
          · skip
            exact absurd c33 (by omega)
          · skip
            refine wa_aload_n (n := 0) rfl ?_
            refine wa_bipush (w_rg2 (by omega) (by omega)) ?_
            refine wb_pfi 226 rfl (wy_pr rfl) wt_226 wf_8_16 (n := 16) rfl ⟨(by omega), (by omega)⟩ ?_
            refine wa_return rfl ?_
            show wJ _ _ _ _ _ _ _ _ _ _
            refine wa_goto ⟨_, rfl⟩ ?_
            refine wa_return rfl ?_
            exact ⟨rfl, Or.inl ⟨by omega, rfl⟩⟩
        · skip
          exact absurd c32 (by omega)
      · skip
        refine wa_iconst ?_
        refine wa_goto ⟨_, rfl⟩ ?_
        refine wa_zreturn rfl (Or.inr rfl) ?_
        show wJ _ _ _ _ _ _ _ _ _ _
        refine wa_ifeq (w_rg0 (by omega) (by omega)) ⟨_, rfl⟩ (fun c34 => ?_) (fun c34 => ?_)
        · skip
          exact absurd c34 (by omega)
        · skip
          refine wa_aload_n (n := 0) rfl ?_
          refine wa_iconst ?_
          refine wa_iload_n (n := 1) rfl ?_
          refine wa_cv 72 rfl (wy_pr rfl) wt_72 (M2 := mS [228, 229]) rfl at_XH_hasRoom ⟨_, rfl⟩ rfl rfl ⟨(Or.inr ⟨wy_pr rfl, mS_no rfl⟩), trivial, trivial⟩ trivial (fun _ _ q => q) ?_ (fun _ _ _ q => q)
          refine wa_aload_n (n := 0) rfl ?_
          refine wb_gf4 72 rfl (wy_pr rfl) wt_72 wf_2_10 (v := 150) wl_72_10 ?_
          refine wa_iload_n (n := 1) rfl ?_
          refine wb_iald 150 rfl (wy_pr rfl) wt_150 (n := 6) ((cl_150 hC)) (by omega) (by omega) (v := u3) (hu3) (fun r35 => ?_)
          refine wa_iload_n (n := 2) rfl ?_
          refine wa_iadd ?_
          refine wa_gs ?_
          refine wa_iload_n (n := 1) rfl ?_
          refine wb_xald 1 rfl hx1 (by decide) (by omega) (by decide) (v := 200000) (by decide) (fun r36 => ?_)
          refine wa_icmpgt (w_rg0 (by omega) (by omega)) (w_rg0 (by omega) (by omega)) ⟨_, rfl⟩ (fun c37 => ?_) (fun c37 => ?_)
          · skip
            refine wa_iconst ?_
            refine wa_fall ⟨_, rfl⟩ ?_
            refine wa_zreturn rfl (Or.inl rfl) ?_
            show wJ _ _ _ _ _ _ _ _ _ _
            refine wa_ifeq (w_rg0 (by omega) (by omega)) ⟨_, rfl⟩ (fun c38 => ?_) (fun c38 => ?_)
            · skip
              refine wa_iconst ?_
              refine wa_fall ⟨_, rfl⟩ ?_
              refine wa_zreturn rfl (Or.inl rfl) ?_
              show wJ _ _ _ _ _ _ _ _ _ _
              refine wa_ifne (w_rg0 (by omega) (by omega)) ⟨_, rfl⟩ (fun c39 => ?_) (fun c39 => ?_)
              · skip
                exact absurd c39 (by omega)
              · skip
                refine wa_aload_n (n := 0) rfl ?_
                refine wa_bipush (w_rg2 (by omega) (by omega)) ?_
                refine wb_pfi 226 rfl (wy_pr rfl) wt_226 wf_8_16 (n := 16) rfl ⟨(by omega), (by omega)⟩ ?_
                refine wa_return rfl ?_
                show wJ _ _ _ _ _ _ _ _ _ _
                refine wa_goto ⟨_, rfl⟩ ?_
                refine wa_return rfl ?_
                exact ⟨rfl, Or.inl ⟨by omega, rfl⟩⟩
            · skip
              exact absurd c38 (by omega)
          · skip
            refine wa_iconst ?_
            refine wa_goto ⟨_, rfl⟩ ?_
            refine wa_zreturn rfl (Or.inr rfl) ?_
            show wJ _ _ _ _ _ _ _ _ _ _
            refine wa_ifeq (w_rg0 (by omega) (by omega)) ⟨_, rfl⟩ (fun c40 => ?_) (fun c40 => ?_)
            · skip
              exact absurd c40 (by omega)
            · skip
              refine wa_iconst ?_
              refine wa_goto ⟨_, rfl⟩ ?_
              refine wa_zreturn rfl (Or.inr rfl) ?_
              show wJ _ _ _ _ _ _ _ _ _ _
              refine wa_ifne (w_rg0 (by omega) (by omega)) ⟨_, rfl⟩ (fun c41 => ?_) (fun c41 => ?_)
              · skip
                refine wa_aload_n (n := 0) rfl ?_
                refine wb_gf4 226 rfl (wy_pr rfl) wt_226 wf_8_0 (v := 72) wl_226_0 ?_
                refine wa_lload (n := 5) rfl ?_
                refine wa_cs (M2 := mS [228, 229]) rfl at_X_sliceSize ⟨_, rfl⟩ rfl rfl ⟨trivial, trivial, (Or.inr ⟨wy_pr rfl, mS_no rfl⟩), trivial, trivial, trivial⟩ ⟨(Or.inr ⟨wy_pr rfl, mS_no rfl⟩), trivial⟩ (fun _ _ q => q) ?_ (fun _ _ _ q => q)
                refine wa_lload_n (n := 0) rfl ?_
                refine wb_l2i_r (y := sz) (sl_z ⟨by omega, by omega⟩ ⟨by omega, by omega⟩) ?_
                refine wa_ireturn rfl ?_
                show wJ _ _ _ _ _ _ _ _ _ _
                refine wa_cv 72 rfl (wy_pr rfl) wt_72 (M2 := mS [228, 229]) rfl at_XH_useText ⟨_, rfl⟩ rfl rfl ⟨trivial, trivial, (Or.inr ⟨wy_pr rfl, mS_no rfl⟩), trivial, trivial, trivial⟩ trivial (fun _ _ q => q) ?_ (fun _ _ _ q => q)
                refine wa_aload_n (n := 0) rfl ?_
                refine wb_gf4 72 rfl (wy_pr rfl) wt_72 wf_2_10 (v := 150) wl_72_10 ?_
                refine wa_iconst ?_
                refine wa_dup2 (by decide) (by decide) ?_
                refine wb_iald 150 rfl (wy_pr rfl) wt_150 (n := 6) ((cl_150 hC)) (by omega) (by omega) (v := u2) (hu2) (fun r42 => ?_)
                refine wa_iconst ?_
                refine wa_iadd ?_
                refine wb_iast 150 rfl (wy_pr rfl) wt_150 (n := 6) ((cl_150 hC)) (by omega) (by omega) ⟨(by omega), (by omega)⟩ ?_
                refine wa_aload_n (n := 0) rfl ?_
                refine wb_gf4 72 rfl (wy_pr rfl) wt_72 wf_2_10 (v := 150) wl_72_10 ?_
                refine wa_iconst ?_
                refine wa_dup2 (by decide) (by decide) ?_
                refine wb_iald 150 rfl (wy_pr rfl) wt_150 (n := 6) ((w_up_at (by decide)).trans ((cl_150 hC))) (by omega) (by omega) (v := u3) ((w_up_at (by decide)).trans (hu3)) (fun r43 => ?_)
                refine wa_iload_n (n := 1) rfl ?_
                refine wa_iadd ?_
                refine wb_iast 150 rfl (wy_pr rfl) wt_150 (n := 6) ((w_up_at (by decide)).trans ((cl_150 hC))) (by omega) (by omega) ⟨(by omega), (by omega)⟩ ?_
                refine wa_return rfl ?_
                show wJ _ _ _ _ _ _ _ _ _ _
                refine wa_aload_n (n := 0) rfl ?_
                refine wa_iconst ?_
                refine wa_iconst ?_
                refine wa_lload (n := 5) rfl ?_
                refine wa_cv 226 rfl (wy_pr rfl) wt_226 (M2 := mS [228, 229]) rfl at_XK_give ⟨_, rfl⟩ rfl rfl ⟨trivial, trivial, (Or.inr ⟨wy_pr rfl, mS_no rfl⟩), trivial, trivial, trivial⟩ trivial (fun _ _ q => q) (gw_226 (S := (w_up (w_up S 150 2 (u2 + 1)) 150 3 (u3 + sz))) (n := 1) (k := 3) (v := (st * 4294967296 + sz)) (h := h) (c := c) (p := p) (ln := (S 228 (-1))) (w_CL_up (w_CL_up hC (by omega)) (by omega)) (gI_up (gI_up hI (by omega) (by omega) (by omega)) (by omega) (by omega) (by omega)) ⟨by omega, by omega⟩ ⟨by omega, by omega⟩ ((w_up_slot (by decide)).trans ((w_up_slot (by decide)).trans (bh))) ((w_up_slot (by decide)).trans ((w_up_slot (by decide)).trans (bc))) ((w_up_slot (by decide)).trans ((w_up_slot (by decide)).trans (bp))) ((w_up_slot (by decide)).trans ((w_up_slot (by decide)).trans (rfl))) ((w_up_slot (by decide)).trans ((w_up_slot (by decide)).trans (bl1))) ⟨by omega, by omega⟩ ⟨by omega, by omega, by omega⟩ ⟨by omega, by omega⟩ ⟨by omega, by omega⟩) (fun oq44 Sq44 hp45 q44 => ?_)
                rcases q44 with ⟨rfl, A44, ra44, rfl⟩
                show wJ _ _ _ _ _ _ _ _ _ _
                refine wa_return rfl ?_
                show wJ _ _ _ _ _ _ _ _ _ _
                refine wa_goto ⟨_, rfl⟩ ?_
                refine wa_return rfl ?_
                exact ⟨rfl, Or.inr ⟨by omega, by omega, A44, ra44, rfl⟩⟩
              · skip
                exact absurd c41 (by omega)
    · skip
      have c25x := @wb_lcmp_cases vy (wb_l2i vy)
      exfalso; omega
theorem zb6_226 (h : stC 226 S K) (hi : cIn S K 28 6 b) (hx1 : pe_at (pe_GA xs).xs 1 = some (1, tx_1)) (hx55 : pe_at (pe_GA xs).xs 55 = some (1, tx_55)) (hWd : wd_at S 2 1024) (hWL : wd_L S 2 1024) (hr2 : r2_I S) (h33 : 33 ≤ S 2 7) (hu2 : 0 ≤ S 150 2 ∧ S 150 2 ≤ 12000) (hu3 : 0 ≤ S 150 3 ∧ S 150 3 ≤ 200000) (hh1 : 1 ≤ K.1.length) (hk8 : 0 ≤ (K.1.getD (K.1.length - 1) (0, 0, [])).1 ∧ (K.1.getD (K.1.length - 1) (0, 0, [])).1 ≤ 8) (hm : S 150 2 < 12000 ∧ S 150 3 + ((kdL (K.1.getD (K.1.length - 1) (0, 0, [])).1 (K.1.getD (K.1.length - 1) (0, 0, [])).2.1).length : Int) ≤ 200000) : cSm xs d 226 [228, 229] cMx S (kP K 1 (3, 0, (kdL (K.1.getD (K.1.length - 1) (0, 0, [])).1 (K.1.getD (K.1.length - 1) (0, 0, [])).2.1))) (fun Z => Z 150 2 = S 150 2 + 1 ∧ Z 150 3 = S 150 3 + ((kdL (K.1.getD (K.1.length - 1) (0, 0, [])).1 (K.1.getD (K.1.length - 1) (0, 0, [])).2.1).length : Int)) := by
  obtain ⟨h1, ⟨h2, h2b⟩, ⟨h3, h4, h5⟩, -⟩ := id h
  have hk : cTk 226 (w_up S 226 16 0) K := cTk_16 h1 (Or.inr rfl)
  have hf : cFr 226 S (w_up S 226 16 0) := cFr_up (Or.inr rfl) (cFr_rfl h2b) (by first | decide | omega) (by omega)
  have hcy := c_at h1 (i := K.1.length - 1) (by omega) (j := (K.1.length : Int) - 1) (by omega)
  have ef : ∀ (j : Nat) (x : Int), j < 215 → (w_up S 226 16 0) j x = S j x := fun j x j0 => w_up_slot (by omega)
  obtain ⟨⟨q1, q2⟩, ⟨q3, q4⟩, q5, -⟩ := (show wd_I 1024 (S 3) (S 4) (S 5) (S 6) (S 12) (S 2 1) (S 3 (-1)) (S 2 7) (S 4 (-1)) from hWd)
  have l5 : S 5 (-1) = S 4 (-1) := hWL.2.1
  have l4 : S 4 (-1) ≤ 2147483647 := hWL.2.2.2.2.2.2.2.1
  have l3 : S 3 (-1) ≤ 2147483647 := hWL.2.2.2.2.2.2.2.2
  have hwr := kWd_rg (v := (K.1.getD (K.1.length - 1) (0, 0, [])).2.1) hk8
  obtain ⟨wd, hwd⟩ : ∃ wd : Int, wd = (kWd (K.1.getD (K.1.length - 1) (0, 0, [])).1 (K.1.getD (K.1.length - 1) (0, 0, [])).2.1) := ⟨_, rfl⟩
  rw [← hwd] at hwr
  obtain ⟨g1, g2, g3, g4⟩ := q5 wd hwr.1 (by omega)
  obtain ⟨c3, c4⟩ := hr2 wd.toNat (by omega)
  rw [show ((wd.toNat : Nat) : Int) = wd by omega] at c3 c4
  have hLL : wl2.getD wd.toNat [] = (kdL (K.1.getD (K.1.length - 1) (0, 0, [])).1 (K.1.getD (K.1.length - 1) (0, 0, [])).2.1) := by rw [hwd]; rfl
  rw [hLL] at c3 c4
  have hl33 : ∀ i : Nat, i < 33 → (wl2.getD i []).length ≤ 100 := by decide
  have hl34 : (kdL (K.1.getD (K.1.length - 1) (0, 0, [])).1 (K.1.getD (K.1.length - 1) (0, 0, [])).2.1).length ≤ 100 := by rw [← hLL]; exact hl33 wd.toNat (by omega)
  have e2 : (w_up S 226 16 0) 150 2 = S 150 2 := ef 150 2 (by first | decide | omega)
  have e3 : (w_up S 226 16 0) 150 3 = S 150 3 := ef 150 3 (by first | decide | omega)
  have hbits : (K.1.getD (K.1.length - 1) (0, 0, [])).1 = 2 → S 229 ((K.1.length : Int) - 1) = (K.1.getD (K.1.length - 1) (0, 0, [])).2.1 := fun z => cV_v hcy (by omega)
  have hcal : wJ (pe_GA xs) wY0 (mS [228, 229]) (d + 11) t_XK_callBuiltin ((pe_at t_XK_callBuiltin.bl 0).getD (0, [])).2 [(0, (2, 226)), (1, (0, 6))] [] (w_up S 226 16 0) (fun o Z => o = .inl none ∧ (((12000 ≤ S 150 2 ∨ 200000 < S 150 3 + ((kdL (K.1.getD (K.1.length - 1) (0, 0, [])).1 (K.1.getD (K.1.length - 1) (0, 0, [])).2.1).length : Int)) ∧ w_up (w_up S 226 16 0) 226 16 99 = Z) ∨ (S 150 2 < 12000 ∧ S 150 3 + ((kdL (K.1.getD (K.1.length - 1) (0, 0, [])).1 (K.1.getD (K.1.length - 1) (0, 0, [])).2.1).length : Int) ≤ 200000 ∧ sO 226 (K.1.length : Int) (K.2.1.length : Int) (K.2.1.getD (K.2.1.length - 1) (0, 0, 0, (0, 0, []), 0, 0, 0)).2.1 1 3 (S 4 wd * 4294967296 + ((kdL (K.1.getD (K.1.length - 1) (0, 0, [])).1 (K.1.getD (K.1.length - 1) (0, 0, [])).2.1).length : Int)) (w_up (w_up (w_up S 226 16 0) 150 2 (S 150 2 + 1)) 150 3 (S 150 3 + ((kdL (K.1.getD (K.1.length - 1) (0, 0, [])).1 (K.1.getD (K.1.length - 1) (0, 0, [])).2.1).length : Int))) Z))) := by
    by_cases c : (K.1.getD (K.1.length - 1) (0, 0, [])).1 = 2 ∧ (K.1.getD (K.1.length - 1) (0, 0, [])).2.1 ≠ wb_l2i (K.1.getD (K.1.length - 1) (0, 0, [])).2.1
    · have hw28 : wd = 28 := by rw [hwd]; exact if_pos c
      exact xb6l_226 (wd := wd) (xP_of (Or.inr rfl) h) hx1 hx55 ((w_up_slot (by first | decide | omega)).trans (hcy.1.trans c.1)) (by rw [hbits c.1]; exact c.2) hw28 (w_up_slot (by first | decide | omega)) (by omega) ⟨hwr.1, by rw [ef 4 _ (by first | decide | omega)]; omega⟩ (by rw [ef 5 _ (by first | decide | omega), ef 4 _ (by first | decide | omega)]; exact l5) (ef 4 wd (by first | decide | omega)) ((ef 5 wd (by first | decide | omega)).trans c3) ⟨g1, by omega⟩ ⟨by omega, by omega⟩ (by rw [ef 4 _ (by first | decide | omega)]; exact l4) e2 e3 ⟨hu2, hu3, by omega⟩
    · have hwt : w_tx tx_55 (K.1.getD (K.1.length - 1) (0, 0, [])).1 = wd := by rw [hwd]; exact (if_neg c).symm
      exact xb6o_226 (wd := wd) (xP_of (Or.inr rfl) h) hx1 hx55 ((w_up_slot (by first | decide | omega)).trans hcy.1) hk8 (fun z => by rw [hbits z]; exact Classical.byContradiction (fun y => c ⟨z, y⟩)) hwt (w_up_slot (by first | decide | omega)) (by omega) ⟨hwr.1, by rw [ef 4 _ (by first | decide | omega)]; omega⟩ (by rw [ef 5 _ (by first | decide | omega), ef 4 _ (by first | decide | omega)]; exact l5) (ef 4 wd (by first | decide | omega)) ((ef 5 wd (by first | decide | omega)).trans c3) ⟨g1, by omega⟩ ⟨by omega, by omega⟩ (by rw [ef 4 _ (by first | decide | omega)]; exact l4) e2 e3 ⟨hu2, hu3, by omega⟩
  have hg : wG = 1000000 := rfl
  refine cg_b_226 h hi.1 hi.2.1 hi.2.2 (by first | decide | omega) (fun q => by omega) (by first | decide | omega) (by unfold mS; decide) hcal (fun Z hz => ?_)
  rcases hz with ⟨z, -⟩ | ⟨-, -, hs⟩
  · omega
  have f1 : cFm 226 cMx S (w_up (w_up (w_up S 226 16 0) 150 2 (S 150 2 + 1)) 150 3 (S 150 3 + ((kdL (K.1.getD (K.1.length - 1) (0, 0, [])).1 (K.1.getD (K.1.length - 1) (0, 0, [])).2.1).length : Int))) := cFm_up (Or.inr rfl) (cFm_up (Or.inr rfl) (cFm_r hf) (by first | decide | omega) (Or.inr (by unfold cMx; omega)) (by first | decide | omega)) (by first | decide | omega) (Or.inr (by unfold cMx; omega)) (by first | decide | omega)
  have eT : ∀ (j : Nat) (x : Int), j ≠ 150 → (w_up (w_up (w_up S 226 16 0) 150 2 (S 150 2 + 1)) 150 3 (S 150 3 + ((kdL (K.1.getD (K.1.length - 1) (0, 0, [])).1 (K.1.getD (K.1.length - 1) (0, 0, [])).2.1).length : Int))) j x = (w_up S 226 16 0) j x := fun j x j0 => (w_up_slot j0).trans (w_up_slot j0)
  have hk2 : cTk 226 (w_up (w_up (w_up S 226 16 0) 150 2 (S 150 2 + 1)) 150 3 (S 150 3 + ((kdL (K.1.getD (K.1.length - 1) (0, 0, [])).1 (K.1.getD (K.1.length - 1) (0, 0, [])).2.1).length : Int))) K := cTk_fr hk (cTx_of (eT 2 1 (by first | decide | omega)) (fun x => eT 3 x (by first | decide | omega))) (fun j y j0 j1 => eT j y (by omega))
  have hv : cVl (w_up (w_up (w_up S 226 16 0) 150 2 (S 150 2 + 1)) 150 3 (S 150 3 + ((kdL (K.1.getD (K.1.length - 1) (0, 0, [])).1 (K.1.getD (K.1.length - 1) (0, 0, [])).2.1).length : Int))) 3 (S 4 wd * 4294967296 + ((kdL (K.1.getD (K.1.length - 1) (0, 0, [])).1 (K.1.getD (K.1.length - 1) (0, 0, [])).2.1).length : Int)) (3, 0, (kdL (K.1.getD (K.1.length - 1) (0, 0, [])).1 (K.1.getD (K.1.length - 1) (0, 0, [])).2.1)) := by
    refine ⟨rfl, fun q => absurd rfl q, fun _ => ⟨rfl, S 4 wd, rfl, g1, ?_, fun i hi2 => ?_⟩⟩
    · rw [eT 2 1 (by first | decide | omega), ef 2 1 (by first | decide | omega)]
      show S 4 wd + ((kdL (K.1.getD (K.1.length - 1) (0, 0, [])).1 (K.1.getD (K.1.length - 1) (0, 0, [])).2.1).length : Int) ≤ S 2 1
      omega
    · have := c4 i (by rw [Int.toNat_natCast]; exact hi2)
      rw [eT 3 _ (by first | decide | omega), ef 3 _ (by first | decide | omega), this]
      show (kdL (K.1.getD (K.1.length - 1) (0, 0, [])).1 (K.1.getD (K.1.length - 1) (0, 0, [])).2.1).getD ((0 : Int) + (i : Int)).toNat 0 = (kdL (K.1.getD (K.1.length - 1) (0, 0, [])).1 (K.1.getD (K.1.length - 1) (0, 0, [])).2.1).getD i 0
      rw [show ((0 : Int) + (i : Int)).toNat = i by omega]
  have fZ := cFr_sO (Or.inr rfl) (cFr_rfl f1.2.2.1) (by omega) hs
  refine ⟨(sO_16 (Or.inr rfl) hs).trans ((eT 226 16 (by first | decide | omega)).trans (w_up_same _ _ _ _)), cTk_sO hk2 (Or.inr rfl) hs rfl rfl h3 rfl hh1 (by omega) hv, cFm_tr f1 (cFm_r fZ), ?_, ?_⟩
  · exact (fZ.1 150 2 (by first | decide | omega) (by first | decide | omega) (by first | decide | omega)).trans ((w_up_at (by first | decide | omega)).trans (w_up_same _ _ _ _))
  · exact (fZ.1 150 3 (by first | decide | omega) (by first | decide | omega) (by first | decide | omega)).trans (w_up_same _ _ _ _)
theorem zb6m_226 (h : stC 226 S K) (hi : cIn S K 28 6 b) (hx1 : pe_at (pe_GA xs).xs 1 = some (1, tx_1)) (hx55 : pe_at (pe_GA xs).xs 55 = some (1, tx_55)) (hWd : wd_at S 2 1024) (hWL : wd_L S 2 1024) (hr2 : r2_I S) (h33 : 33 ≤ S 2 7) (hu2 : 0 ≤ S 150 2 ∧ S 150 2 ≤ 12000) (hu3 : 0 ≤ S 150 3 ∧ S 150 3 ≤ 200000) (hh1 : 1 ≤ K.1.length) (hk8 : 0 ≤ (K.1.getD (K.1.length - 1) (0, 0, [])).1 ∧ (K.1.getD (K.1.length - 1) (0, 0, [])).1 ≤ 8) (hm : 12000 ≤ S 150 2 ∨ 200000 < S 150 3 + ((kdL (K.1.getD (K.1.length - 1) (0, 0, [])).1 (K.1.getD (K.1.length - 1) (0, 0, [])).2.1).length : Int)) : cSn xs d 226 [228, 229] S K := by
  obtain ⟨h1, ⟨h2, h2b⟩, ⟨h3, h4, h5⟩, -⟩ := id h
  have hk : cTk 226 (w_up S 226 16 0) K := cTk_16 h1 (Or.inr rfl)
  have hf : cFr 226 S (w_up S 226 16 0) := cFr_up (Or.inr rfl) (cFr_rfl h2b) (by first | decide | omega) (by omega)
  have hcy := c_at h1 (i := K.1.length - 1) (by omega) (j := (K.1.length : Int) - 1) (by omega)
  have ef : ∀ (j : Nat) (x : Int), j < 215 → (w_up S 226 16 0) j x = S j x := fun j x j0 => w_up_slot (by omega)
  obtain ⟨⟨q1, q2⟩, ⟨q3, q4⟩, q5, -⟩ := (show wd_I 1024 (S 3) (S 4) (S 5) (S 6) (S 12) (S 2 1) (S 3 (-1)) (S 2 7) (S 4 (-1)) from hWd)
  have l5 : S 5 (-1) = S 4 (-1) := hWL.2.1
  have l4 : S 4 (-1) ≤ 2147483647 := hWL.2.2.2.2.2.2.2.1
  have l3 : S 3 (-1) ≤ 2147483647 := hWL.2.2.2.2.2.2.2.2
  have hwr := kWd_rg (v := (K.1.getD (K.1.length - 1) (0, 0, [])).2.1) hk8
  obtain ⟨wd, hwd⟩ : ∃ wd : Int, wd = (kWd (K.1.getD (K.1.length - 1) (0, 0, [])).1 (K.1.getD (K.1.length - 1) (0, 0, [])).2.1) := ⟨_, rfl⟩
  rw [← hwd] at hwr
  obtain ⟨g1, g2, g3, g4⟩ := q5 wd hwr.1 (by omega)
  obtain ⟨c3, c4⟩ := hr2 wd.toNat (by omega)
  rw [show ((wd.toNat : Nat) : Int) = wd by omega] at c3 c4
  have hLL : wl2.getD wd.toNat [] = (kdL (K.1.getD (K.1.length - 1) (0, 0, [])).1 (K.1.getD (K.1.length - 1) (0, 0, [])).2.1) := by rw [hwd]; rfl
  rw [hLL] at c3 c4
  have hl33 : ∀ i : Nat, i < 33 → (wl2.getD i []).length ≤ 100 := by decide
  have hl34 : (kdL (K.1.getD (K.1.length - 1) (0, 0, [])).1 (K.1.getD (K.1.length - 1) (0, 0, [])).2.1).length ≤ 100 := by rw [← hLL]; exact hl33 wd.toNat (by omega)
  have e2 : (w_up S 226 16 0) 150 2 = S 150 2 := ef 150 2 (by first | decide | omega)
  have e3 : (w_up S 226 16 0) 150 3 = S 150 3 := ef 150 3 (by first | decide | omega)
  have hbits : (K.1.getD (K.1.length - 1) (0, 0, [])).1 = 2 → S 229 ((K.1.length : Int) - 1) = (K.1.getD (K.1.length - 1) (0, 0, [])).2.1 := fun z => cV_v hcy (by omega)
  have hcal : wJ (pe_GA xs) wY0 (mS [228, 229]) (d + 11) t_XK_callBuiltin ((pe_at t_XK_callBuiltin.bl 0).getD (0, [])).2 [(0, (2, 226)), (1, (0, 6))] [] (w_up S 226 16 0) (fun o Z => o = .inl none ∧ (((12000 ≤ S 150 2 ∨ 200000 < S 150 3 + ((kdL (K.1.getD (K.1.length - 1) (0, 0, [])).1 (K.1.getD (K.1.length - 1) (0, 0, [])).2.1).length : Int)) ∧ w_up (w_up S 226 16 0) 226 16 99 = Z) ∨ (S 150 2 < 12000 ∧ S 150 3 + ((kdL (K.1.getD (K.1.length - 1) (0, 0, [])).1 (K.1.getD (K.1.length - 1) (0, 0, [])).2.1).length : Int) ≤ 200000 ∧ sO 226 (K.1.length : Int) (K.2.1.length : Int) (K.2.1.getD (K.2.1.length - 1) (0, 0, 0, (0, 0, []), 0, 0, 0)).2.1 1 3 (S 4 wd * 4294967296 + ((kdL (K.1.getD (K.1.length - 1) (0, 0, [])).1 (K.1.getD (K.1.length - 1) (0, 0, [])).2.1).length : Int)) (w_up (w_up (w_up S 226 16 0) 150 2 (S 150 2 + 1)) 150 3 (S 150 3 + ((kdL (K.1.getD (K.1.length - 1) (0, 0, [])).1 (K.1.getD (K.1.length - 1) (0, 0, [])).2.1).length : Int))) Z))) := by
    by_cases c : (K.1.getD (K.1.length - 1) (0, 0, [])).1 = 2 ∧ (K.1.getD (K.1.length - 1) (0, 0, [])).2.1 ≠ wb_l2i (K.1.getD (K.1.length - 1) (0, 0, [])).2.1
    · have hw28 : wd = 28 := by rw [hwd]; exact if_pos c
      exact xb6l_226 (wd := wd) (xP_of (Or.inr rfl) h) hx1 hx55 ((w_up_slot (by first | decide | omega)).trans (hcy.1.trans c.1)) (by rw [hbits c.1]; exact c.2) hw28 (w_up_slot (by first | decide | omega)) (by omega) ⟨hwr.1, by rw [ef 4 _ (by first | decide | omega)]; omega⟩ (by rw [ef 5 _ (by first | decide | omega), ef 4 _ (by first | decide | omega)]; exact l5) (ef 4 wd (by first | decide | omega)) ((ef 5 wd (by first | decide | omega)).trans c3) ⟨g1, by omega⟩ ⟨by omega, by omega⟩ (by rw [ef 4 _ (by first | decide | omega)]; exact l4) e2 e3 ⟨hu2, hu3, by omega⟩
    · have hwt : w_tx tx_55 (K.1.getD (K.1.length - 1) (0, 0, [])).1 = wd := by rw [hwd]; exact (if_neg c).symm
      exact xb6o_226 (wd := wd) (xP_of (Or.inr rfl) h) hx1 hx55 ((w_up_slot (by first | decide | omega)).trans hcy.1) hk8 (fun z => by rw [hbits z]; exact Classical.byContradiction (fun y => c ⟨z, y⟩)) hwt (w_up_slot (by first | decide | omega)) (by omega) ⟨hwr.1, by rw [ef 4 _ (by first | decide | omega)]; omega⟩ (by rw [ef 5 _ (by first | decide | omega), ef 4 _ (by first | decide | omega)]; exact l5) (ef 4 wd (by first | decide | omega)) ((ef 5 wd (by first | decide | omega)).trans c3) ⟨g1, by omega⟩ ⟨by omega, by omega⟩ (by rw [ef 4 _ (by first | decide | omega)]; exact l4) e2 e3 ⟨hu2, hu3, by omega⟩
  refine wJ_mono (cm_b_226 h hi.1 hi.2.1 hi.2.2 (by first | decide | omega) (fun q => by omega) (by first | decide | omega) (by unfold mS; decide) (wJ_mono hcal (fun o Z hz => (⟨hz.1, hz.2.elim (fun z => z.2) (fun z => by omega)⟩ : o = .inl none ∧ w_up (w_up S 226 16 0) 226 16 99 = Z))) (fun Z hz => by subst hz; exact w_up_same _ _ _ _)) (fun o Z2 hz => ?_)
  obtain ⟨hz0, Z, rfl, rfl⟩ := hz
  exact ⟨hz0, cTk_st (cTk_16 hk (Or.inr rfl)) (Or.inr rfl), cFr_up (Or.inr rfl) (cFr_up (Or.inr rfl) hf (by first | decide | omega) (by omega)) (by first | decide | omega) (by omega)⟩
end Wfw
