/-! PART go: act of the class's linker on funs: NEW. -/
section Wgo
variable {xs : List (Nat × List Int32)} {M : Nat → Prop} {d : Nat} {S Z A B : wS} {H : List aH} {T : List aO}
set_option maxHeartbeats 4000000 in
theorem mn5n_215 {c p h ba cs n u0 nc v0 fn f ar vs pn : Int} (hP : xP 215 c p h S) (l4 : S 158 4 = 215) (l8 : S 158 8 = ba) (hba : 0 ≤ ba ∧ ba < h) (hx1 : pe_at (pe_GA xs).xs 1 = some (1, tx_1)) (h2 : S 140 2 = cs) (hcs : 0 ≤ cs ∧ cs ≤ S 141 (-1)) (hz : 16 ≤ S 141 (-1) ∧ S 141 (-1) ≤ 480400) (hth : ∀ x : Nat, x < 10 → S (127 + x) (-1) = S 127 (-1)) (hn : S 72 3 = n) (hn1 : 0 ≤ n ∧ n ≤ S 127 (-1)) (hn2 : 64 ≤ S 127 (-1) ∧ S 127 (-1) ≤ 16383) (hu0 : S 150 0 = u0) (hu1 : 0 ≤ u0 ∧ u0 ≤ 8000) (hl14 : S 142 (-1) = S 141 (-1)) (hcl : S 139 (-1) = S 138 (-1)) (hm : S 72 5 = nc) (hm1 : 0 ≤ nc ∧ nc ≤ S 138 (-1)) (hm2 : 64 ≤ S 138 (-1) ∧ S 138 (-1) ≤ 16383) (hv0 : S 150 1 = v0) (hv1 : 0 ≤ v0 ∧ v0 ≤ 60000) (hfn : 0 ≤ fn ∧ fn < n) (hf : S 129 fn = f) (hf1 : 0 ≤ f ∧ f < 400) (har : S 136 fn = ar) (hvs : S 23 f = vs) (hvs1 : 0 ≤ vs ∧ vs ≤ 1000) (hpn : S 22 f = pn) (hpn1 : 0 ≤ pn ∧ pn ≤ 1000) (hc5 : cs ≤ 4 * v0) (hpr : S 215 16 = 0) : wJ (pe_GA xs) wY0 (mS [217, 218, 127, 128, 129, 130, 131, 132, 133, 134, 135, 136, 141, 142, 138, 139]) (d + 9) t_XL_makeNew ((pe_at t_XL_makeNew.bl 5).getD (0, [])).2 [(0, (2, 158)), (1, (0, fn)), (4, (0, -1))] [] S (fun o Z => o = .inl none ∧ ((c = 200 ∧ w_up S 215 16 11 = Z) ∨ (c < 200 ∧ (8000 < u0 + 2 ∨ 60000 < v0 + vs) ∧ w_up S 215 16 99 = Z) ∨ (c < 200 ∧ u0 + 2 ≤ 8000 ∧ v0 + vs ≤ 60000 ∧ ∃ B : wS, at_ag 4 0 (-1) 0 S B ∧ enQ_215 ar vs (if h - ba - 1 ≤ pn then h - ba - 1 else pn) ba c p f nc 4 n 1 (B 140 2) B Z))) := by
  obtain ⟨⟨hC, hI⟩, ⟨bc, bc0, bc1⟩, ⟨bp, bp0, bp1⟩, ⟨bh, bh0, bh1, bh2⟩, bl1, bl2, bl3⟩ := hP
  replace bp : S 220 (c - 1) = p := bp
  replace bh : S 216 2 = h := bh
  replace bh2 : h ≤ S 217 (-1) := bh2
  replace bl1 : S 218 (-1) = S 217 (-1) := bl1
  replace bl2 : 64 ≤ S 217 (-1) := bl2
  replace bl3 : S 217 (-1) ≤ 4095 := bl3
  refine wa_aload_n (n := 0) rfl ?_
  refine wb_gf5 158 rfl (wy_pr rfl) wt_158 wf_5_4 (v := 215) (l4) (fun r1 => ?_)
  refine wa_iload_n (n := 1) rfl ?_
  refine wa_iconst ?_
  refine wa_cv 215 rfl (wy_pr rfl) wt_215 (M2 := mS []) rfl at_XK_canEnter ⟨_, rfl⟩ rfl rfl ⟨(Or.inr ⟨wy_pr rfl, mS_no rfl⟩), trivial, trivial, trivial⟩ trivial (fun _ _ q => mS_sub (by decide) q) (ce_215 (fn := fn) (n0 := 1) hx1 hC (hth 2 (by decide)) ⟨by omega, by omega⟩ hf hf1 hvs hvs1 bc ⟨by omega, by omega⟩ hu0 hu1 hv0 hv1 (by decide) hpr) (fun oq2 Sq2 hp3 q2 => ?_)
  rcases q2 with ⟨cc1, cc2, cc3, rfl, rfl⟩ | ⟨cc1, rfl, rfl⟩ | ⟨cc1, cc2, rfl, rfl⟩
  · skip
    show wJ _ _ _ _ _ _ _ _ _ _
    refine wa_ifne (w_rg0 (by omega) (by omega)) ⟨_, rfl⟩ (fun c4 => ?_) (fun c4 => ?_)
    · skip
      refine wa_aload_n (n := 0) rfl ?_
      refine wb_gf4 158 rfl (wy_pr rfl) wt_158 wf_5_0 (v := 72) wl_158_0 ?_
      refine wa_iload (n := 4) rfl ?_
      refine wa_cv 72 rfl (wy_pr rfl) wt_72 (M2 := mS [217, 218, 127, 128, 129, 130, 131, 132, 133, 134, 135, 136, 141, 142, 138, 139]) rfl at_XH_hasObjectRoom ⟨_, rfl⟩ rfl rfl ⟨(Or.inr ⟨wy_pr rfl, mS_no rfl⟩), trivial, trivial, trivial⟩ trivial (fun _ _ q => q) ?_ (fun _ _ _ q => q)
      refine wa_iload_n (n := 1) rfl ?_
      refine wa_iconst ?_
      refine wa_icmpeq (w_rg0 (by omega) (by omega)) (w_rg0 (by omega) (by omega)) ⟨_, rfl⟩ (fun c5 => ?_) (fun c5 => ?_)
      · skip
        refine wa_iconst ?_
        refine wa_fall ⟨_, rfl⟩ ?_
        refine wa_istore_n (n := 2) rfl ?_
        refine wa_aload_n (n := 0) rfl ?_
        refine wa_iconst ?_
        refine wa_iconst ?_
        refine wa_cv 72 rfl (wy_pr rfl) wt_72 (M2 := mS [217, 218, 127, 128, 129, 130, 131, 132, 133, 134, 135, 136, 141, 142, 138, 139]) rfl at_XH_hasRoom ⟨_, rfl⟩ rfl rfl ⟨trivial, (Or.inr ⟨wy_pr rfl, mS_no rfl⟩), trivial, trivial⟩ trivial (fun _ _ q => q) ?_ (fun _ _ _ q => q)
        refine wa_aload_n (n := 0) rfl ?_
        refine wb_gf4 72 rfl (wy_pr rfl) wt_72 wf_2_10 (v := 150) wl_72_10 ?_
        refine wa_iload_n (n := 1) rfl ?_
        refine wb_iald 150 rfl (wy_pr rfl) wt_150 (n := 6) ((cl_150 hC)) (by omega) (by omega) (v := u0) (hu0) (fun r6 => ?_)
        refine wa_iload_n (n := 2) rfl ?_
        refine wa_iadd ?_
        refine wa_gs ?_
        refine wa_iload_n (n := 1) rfl ?_
        refine wb_xald 1 rfl hx1 (by decide) (by omega) (by decide) (v := 8000) (by decide) (fun r7 => ?_)
        refine wa_icmpgt (w_rg0 (by omega) (by omega)) (w_rg0 (by omega) (by omega)) ⟨_, rfl⟩ (fun c8 => ?_) (fun c8 => ?_)
        · skip
          refine wa_iconst ?_
          refine wa_fall ⟨_, rfl⟩ ?_
          refine wa_zreturn rfl (Or.inl rfl) ?_
          show wJ _ _ _ _ _ _ _ _ _ _
          refine wa_ifeq (w_rg0 (by omega) (by omega)) ⟨_, rfl⟩ (fun c9 => ?_) (fun c9 => ?_)
          · skip
            refine wa_iconst ?_
            refine wa_fall ⟨_, rfl⟩ ?_
            refine wa_zreturn rfl (Or.inl rfl) ?_
            show wJ _ _ _ _ _ _ _ _ _ _
            refine wa_ifne (w_rg0 (by omega) (by omega)) ⟨_, rfl⟩ (fun c10 => ?_) (fun c10 => ?_)
            · skip
              exact absurd c10 (by omega)
            · skip
              refine wa_aload_n (n := 0) rfl ?_
              refine wb_gf5 158 rfl (wy_pr rfl) wt_158 wf_5_4 (v := 215) (l4) (fun r11 => ?_)
              refine wa_bipush (w_rg2 (by omega) (by omega)) ?_
              refine wb_pfi 215 rfl (wy_pr rfl) wt_215 wf_8_16 (n := 16) rfl ⟨(by omega), (by omega)⟩ ?_
              refine wa_return rfl ?_
              exact ⟨rfl, Or.inr (Or.inl ⟨by omega, by omega, rfl⟩)⟩
          · skip
            exact absurd c9 (by omega)
        · skip
          refine wa_iconst ?_
          refine wa_goto ⟨_, rfl⟩ ?_
          refine wa_zreturn rfl (Or.inr rfl) ?_
          show wJ _ _ _ _ _ _ _ _ _ _
          refine wa_ifeq (w_rg0 (by omega) (by omega)) ⟨_, rfl⟩ (fun c12 => ?_) (fun c12 => ?_)
          · skip
            exact absurd c12 (by omega)
          · skip
            refine wa_iload_n (n := 2) rfl ?_
            refine wa_ifeq (w_rg0 (by omega) (by omega)) ⟨_, rfl⟩ (fun c13 => ?_) (fun c13 => ?_)
            · skip
              refine wa_iconst ?_
              refine wa_goto ⟨_, rfl⟩ ?_
              refine wa_zreturn rfl (Or.inr rfl) ?_
              show wJ _ _ _ _ _ _ _ _ _ _
              refine wa_ifne (w_rg0 (by omega) (by omega)) ⟨_, rfl⟩ (fun c14 => ?_) (fun c14 => ?_)
              · skip
                refine wa_aload_n (n := 0) rfl ?_
                refine wb_gf4 158 rfl (wy_pr rfl) wt_158 wf_5_0 (v := 72) wl_158_0 ?_
                refine wa_iload (n := 4) rfl ?_
                refine wa_cv 72 rfl (wy_pr rfl) wt_72 (M2 := mS []) rfl at_XH_bareShape ⟨_, rfl⟩ rfl rfl ⟨(Or.inr ⟨wy_pr rfl, mS_no rfl⟩), trivial, trivial, trivial⟩ trivial (fun _ _ q => mS_sub (by decide) q) (c_b0) (fun oq15 Sq15 hp16 q15 => ?_)
                rcases q15 with ⟨rfl, rfl⟩
                show wJ _ _ _ _ _ _ _ _ _ _
                refine wa_istore (n := 5) rfl ?_
                refine wa_aload_n (n := 0) rfl ?_
                refine wb_gf4 158 rfl (wy_pr rfl) wt_158 wf_5_0 (v := 72) wl_158_0 ?_
                refine wa_iconst ?_
                refine wa_iload (n := 5) rfl ?_
                refine wa_iconst ?_
                refine wa_iconst ?_
                have at17a : S 141 (-1) = (S 141 (-1)) := (rfl)
                have at17b : S 142 (-1) = S 141 (-1) := ((hl14) : S 142 (-1) = (S 141 (-1))).trans at17a.symm
                have at17c : S 127 (-1) = (S 127 (-1)) := (rfl)
                have at17d : ∀ x : Nat, x < 10 → S (127 + x) (-1) = S 127 (-1) := (hth)
                refine wa_cv 72 rfl (wy_pr rfl) wt_72 (M2 := mS [127, 128, 129, 130, 131, 132, 133, 134, 135, 136, 141, 142]) rfl at_XH_addThing ⟨_, rfl⟩ rfl rfl ⟨trivial, (Or.inr ⟨wy_pr rfl, mS_no rfl⟩), trivial, trivial, trivial⟩ trivial (fun _ _ q => mS_sub (by decide) q) (atH_ok (S := S) (kd := 4) (sh := 0) (fo := (-1)) (rm := 0) (cs := cs) (n := n) (u0 := u0) hC hI (h2) ⟨by omega, by omega⟩ at17b ⟨by omega, by omega⟩ at17d (hn) ⟨by omega, by omega⟩ ⟨by omega, by omega⟩ (hu0) ⟨by omega, by omega⟩ ⟨by omega, by omega⟩ ⟨by omega, by omega⟩ ⟨by omega, by omega⟩ ⟨by omega, by omega⟩) (fun oq17 Sq17 hp18 q17 => ?_)
                rcases q17 with ⟨rfl, at17⟩
                show wJ _ _ _ _ _ _ _ _ _ _
                have at17e := at17.2.2.2.2.2.2.1.2
                have at17f := at17.2.2.2.2.2.1
                refine wa_istore (n := 6) rfl ?_
                refine wa_aload_n (n := 0) rfl ?_
                refine wb_gf5 158 rfl (wy_pr rfl) wt_158 wf_5_4 (v := 215) (((at17.2.2.2.2.2.2.2.1 158 4 (by decide) (by decide) (by decide) (by decide) (by decide) (Or.inl (by decide)) (Or.inl (by decide)) (Or.inl (by decide))).trans (l4))) (fun r19 => ?_)
                refine wa_iload_n (n := 1) rfl ?_
                refine wa_aload_n (n := 0) rfl ?_
                refine wb_gfi 158 rfl (wy_pr rfl) wt_158 wf_5_8 (v := ba) (((at17.2.2.2.2.2.2.2.1 158 8 (by decide) (by decide) (by decide) (by decide) (by decide) (Or.inl (by decide)) (Or.inl (by decide)) (Or.inl (by decide))).trans (l8))) (fun r20 => ?_)
                refine wa_iconst ?_
                refine wa_iload (n := 6) rfl ?_
                refine wa_i2l (w_rg0 (by omega) (by omega)) ?_
                refine wa_iconst ?_
                refine wa_cv 215 rfl (wy_pr rfl) wt_215 (M2 := mS [138, 139, 141, 142]) rfl at_XK_enter ⟨_, rfl⟩ rfl rfl ⟨trivial, trivial, (Or.inr ⟨wy_pr rfl, mS_no rfl⟩), trivial, trivial, trivial⟩ trivial (fun _ _ q => mS_sub (by decide) q) (en_215 (S := Sq17) (fn := fn) (pl := ba) (kd := 4) (bt := n) (nw := 1) (cs := (cs + 0)) (n := nc) (u0 := u0 + 1) (v0 := v0) (c := c) (p := p) (h := h) (f := f) (ar := ar) (vs := vs) (pn := pn) (CL_at hC at17) at17.2.2.2.2.2.2.2.2.1 ((by rw [at17.2.2.2.1, show _ = _ from (h2)])) ⟨by omega, by omega⟩ at17f.1 ⟨by omega, by omega⟩ (by rw [show _ = _ from (((at17.2.2.2.2.2.2.2.1 139 (-1) (by decide) (by decide) (by decide) (by decide) (by decide) (Or.inl (by decide)) (Or.inl (by decide)) (Or.inl (by decide))).trans (hcl))), show _ = _ from (((at17.2.2.2.2.2.2.2.1 138 (-1) (by decide) (by decide) (by decide) (by decide) (by decide) (Or.inl (by decide)) (Or.inl (by decide)) (Or.inl (by decide))).trans (rfl)))]) (((at17.2.2.2.2.2.2.2.1 72 5 (by decide) (by decide) (by decide) (by decide) (by decide) (Or.inr (by decide)) (Or.inl (by decide)) (Or.inl (by decide))).trans (hm))) ⟨by omega, by rw [show _ = _ from (((at17.2.2.2.2.2.2.2.1 138 (-1) (by decide) (by decide) (by decide) (by decide) (by decide) (Or.inl (by decide)) (Or.inl (by decide)) (Or.inl (by decide))).trans (rfl)))]; omega⟩ (by rw [show _ = _ from (((at17.2.2.2.2.2.2.2.1 138 (-1) (by decide) (by decide) (by decide) (by decide) (by decide) (Or.inl (by decide)) (Or.inl (by decide)) (Or.inl (by decide))).trans (rfl)))]; exact hm2) ((by rw [at17.1.2, show _ = _ from (hu0)])) ⟨by omega, by omega⟩ (((at17.2.2.2.2.2.2.2.1 150 1 (by decide) (by decide) (by decide) (by decide) (by decide) (Or.inl (by decide)) (Or.inl (by decide)) (Or.inr (by decide))).trans (hv0))) ⟨by omega, by omega⟩ ⟨at17.2.2.2.2.2.2.1.1 2 (by decide), at17.2.2.2.2.2.2.1.1 9 (by decide)⟩ ⟨by omega, by omega⟩ ((at17.2.2.1 2 (by decide) fn (by omega) (by rw [show _ = _ from (hn)]; omega)).trans hf) hf1 ((at17.2.2.1 9 (by decide) fn (by omega) (by rw [show _ = _ from (hn)]; omega)).trans har) (((at17.2.2.2.2.2.2.2.1 23 f (by decide) (by decide) (by decide) (by decide) (by decide) (Or.inl (by decide)) (Or.inl (by decide)) (Or.inl (by decide))).trans (hvs))) hvs1 (((at17.2.2.2.2.2.2.2.1 22 f (by decide) (by decide) (by decide) (by decide) (by decide) (Or.inl (by decide)) (Or.inl (by decide)) (Or.inl (by decide))).trans (hpn))) hpn1 (((at17.2.2.2.2.2.2.2.1 215 4 (by decide) (by decide) (by decide) (by decide) (by decide) (Or.inl (by decide)) (Or.inl (by decide)) (Or.inl (by decide))).trans (bc))) ⟨by omega, by omega⟩ (((at17.2.2.2.2.2.2.2.1 220 (c - 1) (by decide) (by decide) (by decide) (by decide) (by decide) (Or.inl (by decide)) (Or.inl (by decide)) (Or.inl (by decide))).trans (bp))) ⟨by omega, by omega⟩ (((at17.2.2.2.2.2.2.2.1 216 2 (by decide) (by decide) (by decide) (by decide) (by decide) (Or.inl (by decide)) (Or.inl (by decide)) (Or.inl (by decide))).trans (bh))) (by rw [show _ = _ from (((at17.2.2.2.2.2.2.2.1 217 (-1) (by decide) (by decide) (by decide) (by decide) (by decide) (Or.inl (by decide)) (Or.inl (by decide)) (Or.inl (by decide))).trans (rfl)))]; exact bh2) (by rw [show _ = _ from (((at17.2.2.2.2.2.2.2.1 218 (-1) (by decide) (by decide) (by decide) (by decide) (by decide) (Or.inl (by decide)) (Or.inl (by decide)) (Or.inl (by decide))).trans (bl1))), show _ = _ from (((at17.2.2.2.2.2.2.2.1 217 (-1) (by decide) (by decide) (by decide) (by decide) (by decide) (Or.inl (by decide)) (Or.inl (by decide)) (Or.inl (by decide))).trans (rfl)))]; exact ⟨rfl, bl3⟩) ⟨by omega, by omega⟩ (by omega) (by omega) (by decide) ⟨by omega, by omega⟩ (by decide)) (fun oq21 Sq21 hp22 q21 => ?_)
                rcases q21 with ⟨rfl, hen⟩
                show wJ _ _ _ _ _ _ _ _ _ _
                refine wa_return rfl ?_
                have ecs : Sq17 140 2 = (cs + 0) := ((by rw [at17.2.2.2.1, show _ = _ from (h2)]))
                exact ⟨rfl, Or.inr (Or.inr ⟨by omega, by omega, by omega, Sq17, at17, by rw [ecs]; exact hen⟩)⟩
              · skip
                exact absurd c14 (by omega)
            · skip
              exact absurd c13 (by omega)
      · skip
        exact absurd c5 (by omega)
    · skip
      exact absurd c4 (by omega)
  · skip
    show wJ _ _ _ _ _ _ _ _ _ _
    refine wa_ifne (w_rg0 (by omega) (by omega)) ⟨_, rfl⟩ (fun c23 => ?_) (fun c23 => ?_)
    · skip
      exact absurd c23 (by omega)
    · skip
      refine wa_return rfl ?_
      exact ⟨rfl, Or.inl ⟨by omega, rfl⟩⟩
  · skip
    show wJ _ _ _ _ _ _ _ _ _ _
    refine wa_ifne (w_rg0 (by omega) (by omega)) ⟨_, rfl⟩ (fun c24 => ?_) (fun c24 => ?_)
    · skip
      exact absurd c24 (by omega)
    · skip
      refine wa_return rfl ?_
      exact ⟨rfl, Or.inr (Or.inl ⟨by omega, by omega, rfl⟩)⟩
set_option maxHeartbeats 4000000 in
theorem mn5o_215 {c p h ba cs n u0 nc v0 fn f ar vs pn q r : Int} (hP : xP 215 c p h S) (l4 : S 158 4 = 215) (l8 : S 158 8 = ba) (hba : 0 ≤ ba ∧ ba < h) (hx1 : pe_at (pe_GA xs).xs 1 = some (1, tx_1)) (h2 : S 140 2 = cs) (hcs : 0 ≤ cs ∧ cs ≤ S 141 (-1)) (hz : 16 ≤ S 141 (-1) ∧ S 141 (-1) ≤ 480400) (hth : ∀ x : Nat, x < 10 → S (127 + x) (-1) = S 127 (-1)) (hn : S 72 3 = n) (hn1 : 0 ≤ n ∧ n ≤ S 127 (-1)) (hn2 : 64 ≤ S 127 (-1) ∧ S 127 (-1) ≤ 16383) (hu0 : S 150 0 = u0) (hu1 : 0 ≤ u0 ∧ u0 ≤ 8000) (hl14 : S 142 (-1) = S 141 (-1)) (hcl : S 139 (-1) = S 138 (-1)) (hm : S 72 5 = nc) (hm1 : 0 ≤ nc ∧ nc ≤ S 138 (-1)) (hm2 : 64 ≤ S 138 (-1) ∧ S 138 (-1) ≤ 16383) (hv0 : S 150 1 = v0) (hv1 : 0 ≤ v0 ∧ v0 ≤ 60000) (hfn : 0 ≤ fn ∧ fn < n) (hf : S 129 fn = f) (hf1 : 0 ≤ f ∧ f < 400) (har : S 136 fn = ar) (hvs : S 23 f = vs) (hvs1 : 0 ≤ vs ∧ vs ≤ 1000) (hpn : S 22 f = pn) (hpn1 : 0 ≤ pn ∧ pn ≤ 1000) (hc5 : cs ≤ 4 * v0) (hpr : S 215 16 = 0) (hsw : cSw S T H) (hlt : cLt S T) (hw : wSh T H) (hq : isO T q) (hr : r = aFs (-1) q (-1) H 0) (hu4 : 0 ≤ S 150 4 ∧ S 150 4 ≤ 4000) (hT : n = (T.length : Int)) : wJ (pe_GA xs) wY0 (mS [217, 218, 127, 128, 129, 130, 131, 132, 133, 134, 135, 136, 141, 142, 138, 139, 144, 145, 146, 147, 148]) (d + 9) t_XL_makeNew ((pe_at t_XL_makeNew.bl 5).getD (0, [])).2 [(0, (2, 158)), (1, (0, fn)), (4, (0, q))] [] S (fun o Z => o = .inl none ∧ ((c = 200 ∧ w_up S 215 16 11 = Z) ∨ (c < 200 ∧ (8000 < u0 + 2 ∨ 60000 < v0 + vs ∨ (r = -1 ∧ 4000 ≤ S 150 4)) ∧ w_up S 215 16 99 = Z) ∨ (c < 200 ∧ u0 + 2 ≤ 8000 ∧ v0 + vs ≤ 60000 ∧ 0 ≤ r ∧ ∃ B : wS, at_ag 4 r (-1) 0 S B ∧ enQ_215 ar vs (if h - ba - 1 ≤ pn then h - ba - 1 else pn) ba c p f nc 4 n 1 (B 140 2) B Z) ∨ (c < 200 ∧ u0 + 2 ≤ 8000 ∧ v0 + vs ≤ 60000 ∧ r = -1 ∧ S 150 4 < 4000 ∧ ∃ A B : wS, bs_ag (H.length : Int) q S A ∧ at_ag 4 (H.length : Int) (-1) 0 A B ∧ enQ_215 ar vs (if h - ba - 1 ≤ pn then h - ba - 1 else pn) ba c p f nc 4 n 1 (B 140 2) B Z))) := by
  obtain ⟨⟨hC, hI⟩, ⟨bc, bc0, bc1⟩, ⟨bp, bp0, bp1⟩, ⟨bh, bh0, bh1, bh2⟩, bl1, bl2, bl3⟩ := hP
  replace bp : S 220 (c - 1) = p := bp
  replace bh : S 216 2 = h := bh
  replace bh2 : h ≤ S 217 (-1) := bh2
  replace bl1 : S 218 (-1) = S 217 (-1) := bl1
  replace bl2 : 64 ≤ S 217 (-1) := bl2
  replace bl3 : S 217 (-1) ≤ 4095 := bl3
  have hg : wG = 1000000 := rfl
  obtain ⟨h1, ⟨l1, l2, l3, l4b⟩, -, hb⟩ := id hsw
  have h8 := h1.1
  have hH := hw.1.2.1
  obtain ⟨⟨hp0, hp1⟩, -⟩ := id hq
  have ht2 := hlt.2.1
  have e132 := hb q hp0 hp1
  rw [← hr] at e132
  have hrr := aFs_rg (be := -1) (pr := q) (nm := -1) (H := H)
  rw [← hr] at hrr
  obtain ⟨u4, eu4⟩ : ∃ u4 : Int, S 150 4 = u4 := ⟨_, rfl⟩
  rw [eu4] at hu4 ⊢
  refine wa_aload_n (n := 0) rfl ?_
  refine wb_gf5 158 rfl (wy_pr rfl) wt_158 wf_5_4 (v := 215) (l4) (fun r501 => ?_)
  refine wa_iload_n (n := 1) rfl ?_
  refine wa_iconst ?_
  refine wa_cv 215 rfl (wy_pr rfl) wt_215 (M2 := mS []) rfl at_XK_canEnter ⟨_, rfl⟩ rfl rfl ⟨(Or.inr ⟨wy_pr rfl, mS_no rfl⟩), trivial, trivial, trivial⟩ trivial (fun _ _ q => mS_sub (by decide) q) (ce_215 (fn := fn) (n0 := 1) hx1 hC (hth 2 (by decide)) ⟨by omega, by omega⟩ hf hf1 hvs hvs1 bc ⟨by omega, by omega⟩ hu0 hu1 hv0 hv1 (by decide) hpr) (fun oq502 Sq502 hp503 q502 => ?_)
  rcases q502 with ⟨cc1, cc2, cc3, rfl, rfl⟩ | ⟨cc1, rfl, rfl⟩ | ⟨cc1, cc2, rfl, rfl⟩
  · skip
    show wJ _ _ _ _ _ _ _ _ _ _
    refine wa_ifne (w_rg0 (by omega) (by omega)) ⟨_, rfl⟩ (fun c504 => ?_) (fun c504 => ?_)
    · skip
      refine wa_aload_n (n := 0) rfl ?_
      refine wb_gf4 158 rfl (wy_pr rfl) wt_158 wf_5_0 (v := 72) wl_158_0 ?_
      refine wa_iload (n := 4) rfl ?_
      refine wa_cv 72 rfl (wy_pr rfl) wt_72 (M2 := mS [217, 218, 127, 128, 129, 130, 131, 132, 133, 134, 135, 136, 141, 142, 138, 139, 144, 145, 146, 147, 148]) rfl at_XH_hasObjectRoom ⟨_, rfl⟩ rfl rfl ⟨(Or.inr ⟨wy_pr rfl, mS_no rfl⟩), trivial, trivial, trivial⟩ trivial (fun _ _ q => q) ?_ (fun _ _ _ q => q)
      refine wa_iload_n (n := 1) rfl ?_
      refine wa_iconst ?_
      refine wa_icmpeq (w_rg0 (by omega) (by omega)) (w_rg0 (by omega) (by omega)) ⟨_, rfl⟩ (fun c505 => ?_) (fun c505 => ?_)
      · skip
        refine wa_iconst ?_
        refine wa_fall ⟨_, rfl⟩ ?_
        refine wa_istore_n (n := 2) rfl ?_
        refine wa_aload_n (n := 0) rfl ?_
        refine wa_iconst ?_
        refine wa_iconst ?_
        refine wa_cv 72 rfl (wy_pr rfl) wt_72 (M2 := mS [217, 218, 127, 128, 129, 130, 131, 132, 133, 134, 135, 136, 141, 142, 138, 139, 144, 145, 146, 147, 148]) rfl at_XH_hasRoom ⟨_, rfl⟩ rfl rfl ⟨trivial, (Or.inr ⟨wy_pr rfl, mS_no rfl⟩), trivial, trivial⟩ trivial (fun _ _ q => q) ?_ (fun _ _ _ q => q)
        refine wa_aload_n (n := 0) rfl ?_
        refine wb_gf4 72 rfl (wy_pr rfl) wt_72 wf_2_10 (v := 150) wl_72_10 ?_
        refine wa_iload_n (n := 1) rfl ?_
        refine wb_iald 150 rfl (wy_pr rfl) wt_150 (n := 6) ((cl_150 hC)) (by omega) (by omega) (v := u0) (hu0) (fun r506 => ?_)
        refine wa_iload_n (n := 2) rfl ?_
        refine wa_iadd ?_
        refine wa_gs ?_
        refine wa_iload_n (n := 1) rfl ?_
        refine wb_xald 1 rfl hx1 (by decide) (by omega) (by decide) (v := 8000) (by decide) (fun r507 => ?_)
        refine wa_icmpgt (w_rg0 (by omega) (by omega)) (w_rg0 (by omega) (by omega)) ⟨_, rfl⟩ (fun c508 => ?_) (fun c508 => ?_)
        · skip
          refine wa_iconst ?_
          refine wa_fall ⟨_, rfl⟩ ?_
          refine wa_zreturn rfl (Or.inl rfl) ?_
          show wJ _ _ _ _ _ _ _ _ _ _
          refine wa_ifeq (w_rg0 (by omega) (by omega)) ⟨_, rfl⟩ (fun c509 => ?_) (fun c509 => ?_)
          · skip
            refine wa_iconst ?_
            refine wa_fall ⟨_, rfl⟩ ?_
            refine wa_zreturn rfl (Or.inl rfl) ?_
            show wJ _ _ _ _ _ _ _ _ _ _
            refine wa_ifne (w_rg0 (by omega) (by omega)) ⟨_, rfl⟩ (fun c510 => ?_) (fun c510 => ?_)
            · skip
              exact absurd c510 (by omega)
            · skip
              refine wa_aload_n (n := 0) rfl ?_
              refine wb_gf5 158 rfl (wy_pr rfl) wt_158 wf_5_4 (v := 215) (l4) (fun r511 => ?_)
              refine wa_bipush (w_rg2 (by omega) (by omega)) ?_
              refine wb_pfi 215 rfl (wy_pr rfl) wt_215 wf_8_16 (n := 16) rfl ⟨(by omega), (by omega)⟩ ?_
              refine wa_return rfl ?_
              exact ⟨rfl, Or.inr (Or.inl ⟨by omega, by omega, rfl⟩)⟩
          · skip
            exact absurd c509 (by omega)
        · skip
          refine wa_iconst ?_
          refine wa_goto ⟨_, rfl⟩ ?_
          refine wa_zreturn rfl (Or.inr rfl) ?_
          show wJ _ _ _ _ _ _ _ _ _ _
          refine wa_ifeq (w_rg0 (by omega) (by omega)) ⟨_, rfl⟩ (fun c512 => ?_) (fun c512 => ?_)
          · skip
            exact absurd c512 (by omega)
          · skip
            refine wa_iload_n (n := 2) rfl ?_
            refine wa_ifeq (w_rg0 (by omega) (by omega)) ⟨_, rfl⟩ (fun c513 => ?_) (fun c513 => ?_)
            · skip
              refine wa_iconst ?_
              refine wa_goto ⟨_, rfl⟩ ?_
              refine wa_zreturn rfl (Or.inr rfl) ?_
              show wJ _ _ _ _ _ _ _ _ _ _
              refine wa_ifne (w_rg0 (by omega) (by omega)) ⟨_, rfl⟩ (fun c514 => ?_) (fun c514 => ?_)
              · skip
                refine wa_aload_n (n := 0) rfl ?_
                refine wb_gf4 158 rfl (wy_pr rfl) wt_158 wf_5_0 (v := 72) wl_158_0 ?_
                refine wa_iload (n := 4) rfl ?_
                refine wa_cv 72 rfl (wy_pr rfl) wt_72 (M2 := mS [144, 145, 146, 147, 148]) rfl at_XH_bareShape ⟨_, rfl⟩ rfl rfl ⟨(Or.inr ⟨wy_pr rfl, mS_no rfl⟩), trivial, trivial, trivial⟩ trivial (fun _ _ q => mS_sub (by decide) q) (c_bs hC hI hsw hlt hw hq hr ⟨by omega, fun z => by omega⟩) (fun oq515 Sq515 hp516 q515 => ?_)
                rcases q515 with ⟨hbr, rfl, rfl⟩ | ⟨hbr, hb515, rfl⟩
                · skip
                  show wJ _ _ _ _ _ _ _ _ _ _
                  refine wa_istore (n := 5) rfl ?_
                  refine wa_aload_n (n := 0) rfl ?_
                  refine wb_gf4 158 rfl (wy_pr rfl) wt_158 wf_5_0 (v := 72) wl_158_0 ?_
                  refine wa_iconst ?_
                  refine wa_iload (n := 5) rfl ?_
                  refine wa_iconst ?_
                  refine wa_iconst ?_
                  have at517a : S 141 (-1) = (S 141 (-1)) := (rfl)
                  have at517b : S 142 (-1) = S 141 (-1) := ((hl14) : S 142 (-1) = (S 141 (-1))).trans at517a.symm
                  have at517c : S 127 (-1) = (S 127 (-1)) := (rfl)
                  have at517d : ∀ x : Nat, x < 10 → S (127 + x) (-1) = S 127 (-1) := (hth)
                  refine wa_cv 72 rfl (wy_pr rfl) wt_72 (M2 := mS [127, 128, 129, 130, 131, 132, 133, 134, 135, 136, 141, 142]) rfl at_XH_addThing ⟨_, rfl⟩ rfl rfl ⟨trivial, (Or.inr ⟨wy_pr rfl, mS_no rfl⟩), trivial, trivial, trivial⟩ trivial (fun _ _ q => mS_sub (by decide) q) (atH_ok (S := S) (kd := 4) (sh := r) (fo := (-1)) (rm := 0) (cs := cs) (n := n) (u0 := u0) hC hI (h2) ⟨by omega, by omega⟩ at517b ⟨by omega, by omega⟩ at517d (hn) ⟨by omega, by omega⟩ ⟨by omega, by omega⟩ (hu0) ⟨by omega, by omega⟩ ⟨by omega, by omega⟩ ⟨by omega, by omega⟩ ⟨by omega, by omega⟩ ⟨by omega, by omega⟩) (fun oq517 Sq517 hp518 q517 => ?_)
                  rcases q517 with ⟨rfl, at517⟩
                  show wJ _ _ _ _ _ _ _ _ _ _
                  have at517e := at517.2.2.2.2.2.2.1.2
                  have at517f := at517.2.2.2.2.2.1
                  refine wa_istore (n := 6) rfl ?_
                  refine wa_aload_n (n := 0) rfl ?_
                  refine wb_gf5 158 rfl (wy_pr rfl) wt_158 wf_5_4 (v := 215) (((at517.2.2.2.2.2.2.2.1 158 4 (by decide) (by decide) (by decide) (by decide) (by decide) (Or.inl (by decide)) (Or.inl (by decide)) (Or.inl (by decide))).trans (l4))) (fun r519 => ?_)
                  refine wa_iload_n (n := 1) rfl ?_
                  refine wa_aload_n (n := 0) rfl ?_
                  refine wb_gfi 158 rfl (wy_pr rfl) wt_158 wf_5_8 (v := ba) (((at517.2.2.2.2.2.2.2.1 158 8 (by decide) (by decide) (by decide) (by decide) (by decide) (Or.inl (by decide)) (Or.inl (by decide)) (Or.inl (by decide))).trans (l8))) (fun r520 => ?_)
                  refine wa_iconst ?_
                  refine wa_iload (n := 6) rfl ?_
                  refine wa_i2l (w_rg0 (by omega) (by omega)) ?_
                  refine wa_iconst ?_
                  refine wa_cv 215 rfl (wy_pr rfl) wt_215 (M2 := mS [138, 139, 141, 142]) rfl at_XK_enter ⟨_, rfl⟩ rfl rfl ⟨trivial, trivial, (Or.inr ⟨wy_pr rfl, mS_no rfl⟩), trivial, trivial, trivial⟩ trivial (fun _ _ q => mS_sub (by decide) q) (en_215 (S := Sq517) (fn := fn) (pl := ba) (kd := 4) (bt := n) (nw := 1) (cs := (cs + 0)) (n := nc) (u0 := u0 + 1) (v0 := v0) (c := c) (p := p) (h := h) (f := f) (ar := ar) (vs := vs) (pn := pn) (CL_at hC at517) at517.2.2.2.2.2.2.2.2.1 ((by rw [at517.2.2.2.1, show _ = _ from (h2)])) ⟨by omega, by omega⟩ at517f.1 ⟨by omega, by omega⟩ (by rw [show _ = _ from (((at517.2.2.2.2.2.2.2.1 139 (-1) (by decide) (by decide) (by decide) (by decide) (by decide) (Or.inl (by decide)) (Or.inl (by decide)) (Or.inl (by decide))).trans (hcl))), show _ = _ from (((at517.2.2.2.2.2.2.2.1 138 (-1) (by decide) (by decide) (by decide) (by decide) (by decide) (Or.inl (by decide)) (Or.inl (by decide)) (Or.inl (by decide))).trans (rfl)))]) (((at517.2.2.2.2.2.2.2.1 72 5 (by decide) (by decide) (by decide) (by decide) (by decide) (Or.inr (by decide)) (Or.inl (by decide)) (Or.inl (by decide))).trans (hm))) ⟨by omega, by rw [show _ = _ from (((at517.2.2.2.2.2.2.2.1 138 (-1) (by decide) (by decide) (by decide) (by decide) (by decide) (Or.inl (by decide)) (Or.inl (by decide)) (Or.inl (by decide))).trans (rfl)))]; omega⟩ (by rw [show _ = _ from (((at517.2.2.2.2.2.2.2.1 138 (-1) (by decide) (by decide) (by decide) (by decide) (by decide) (Or.inl (by decide)) (Or.inl (by decide)) (Or.inl (by decide))).trans (rfl)))]; exact hm2) ((by rw [at517.1.2, show _ = _ from (hu0)])) ⟨by omega, by omega⟩ (((at517.2.2.2.2.2.2.2.1 150 1 (by decide) (by decide) (by decide) (by decide) (by decide) (Or.inl (by decide)) (Or.inl (by decide)) (Or.inr (by decide))).trans (hv0))) ⟨by omega, by omega⟩ ⟨at517.2.2.2.2.2.2.1.1 2 (by decide), at517.2.2.2.2.2.2.1.1 9 (by decide)⟩ ⟨by omega, by omega⟩ ((at517.2.2.1 2 (by decide) fn (by omega) (by rw [show _ = _ from (hn)]; omega)).trans hf) hf1 ((at517.2.2.1 9 (by decide) fn (by omega) (by rw [show _ = _ from (hn)]; omega)).trans har) (((at517.2.2.2.2.2.2.2.1 23 f (by decide) (by decide) (by decide) (by decide) (by decide) (Or.inl (by decide)) (Or.inl (by decide)) (Or.inl (by decide))).trans (hvs))) hvs1 (((at517.2.2.2.2.2.2.2.1 22 f (by decide) (by decide) (by decide) (by decide) (by decide) (Or.inl (by decide)) (Or.inl (by decide)) (Or.inl (by decide))).trans (hpn))) hpn1 (((at517.2.2.2.2.2.2.2.1 215 4 (by decide) (by decide) (by decide) (by decide) (by decide) (Or.inl (by decide)) (Or.inl (by decide)) (Or.inl (by decide))).trans (bc))) ⟨by omega, by omega⟩ (((at517.2.2.2.2.2.2.2.1 220 (c - 1) (by decide) (by decide) (by decide) (by decide) (by decide) (Or.inl (by decide)) (Or.inl (by decide)) (Or.inl (by decide))).trans (bp))) ⟨by omega, by omega⟩ (((at517.2.2.2.2.2.2.2.1 216 2 (by decide) (by decide) (by decide) (by decide) (by decide) (Or.inl (by decide)) (Or.inl (by decide)) (Or.inl (by decide))).trans (bh))) (by rw [show _ = _ from (((at517.2.2.2.2.2.2.2.1 217 (-1) (by decide) (by decide) (by decide) (by decide) (by decide) (Or.inl (by decide)) (Or.inl (by decide)) (Or.inl (by decide))).trans (rfl)))]; exact bh2) (by rw [show _ = _ from (((at517.2.2.2.2.2.2.2.1 218 (-1) (by decide) (by decide) (by decide) (by decide) (by decide) (Or.inl (by decide)) (Or.inl (by decide)) (Or.inl (by decide))).trans (bl1))), show _ = _ from (((at517.2.2.2.2.2.2.2.1 217 (-1) (by decide) (by decide) (by decide) (by decide) (by decide) (Or.inl (by decide)) (Or.inl (by decide)) (Or.inl (by decide))).trans (rfl)))]; exact ⟨rfl, bl3⟩) ⟨by omega, by omega⟩ (by omega) (by omega) (by decide) ⟨by omega, by omega⟩ (by decide)) (fun oq521 Sq521 hp522 q521 => ?_)
                  rcases q521 with ⟨rfl, hen⟩
                  show wJ _ _ _ _ _ _ _ _ _ _
                  refine wa_return rfl ?_
                  have ecs : Sq517 140 2 = (cs + 0) := ((by rw [at517.2.2.2.1, show _ = _ from (h2)]))
                  exact ⟨rfl, Or.inr (Or.inr (Or.inl ⟨by omega, by omega, by omega, by omega, Sq517, at517, by rw [ecs]; exact hen⟩))⟩
                · skip
                  show wJ _ _ _ _ _ _ _ _ _ _
                  have hfA : ∀ j : Nat, (j = 129 ∨ j = 136) → j < 237 → Sq515 j fn = S j fn := fun j hj _ => hb515.2.2.2.2.1 j fn (by omega) (by omega) (by omega) (Or.inl (by omega)) (by omega) (by omega)
                  refine wa_istore (n := 5) rfl ?_
                  refine wa_aload_n (n := 0) rfl ?_
                  refine wb_gf4 158 rfl (wy_pr rfl) wt_158 wf_5_0 (v := 72) wl_158_0 ?_
                  refine wa_iconst ?_
                  refine wa_iload (n := 5) rfl ?_
                  refine wa_iconst ?_
                  refine wa_iconst ?_
                  have at523a : Sq515 141 (-1) = (S 141 (-1)) := (((hb515.2.2.2.2.1 141 (-1) (by first | decide | omega) (by first | decide | omega) (by first | decide | omega) (Or.inl (by first | decide | omega)) (Or.inl (by first | decide | omega)) (Or.inl (by first | decide | omega))).trans (rfl)))
                  have at523b : Sq515 142 (-1) = Sq515 141 (-1) := ((((hb515.2.2.2.2.1 142 (-1) (by first | decide | omega) (by first | decide | omega) (by first | decide | omega) (Or.inl (by first | decide | omega)) (Or.inl (by first | decide | omega)) (Or.inl (by first | decide | omega))).trans (hl14))) : Sq515 142 (-1) = (S 141 (-1))).trans at523a.symm
                  have at523c : Sq515 127 (-1) = (S 127 (-1)) := (((hb515.2.2.2.2.1 127 (-1) (by first | decide | omega) (by first | decide | omega) (by first | decide | omega) (Or.inl (by first | decide | omega)) (Or.inl (by first | decide | omega)) (Or.inl (by first | decide | omega))).trans (rfl)))
                  have at523d : ∀ x : Nat, x < 10 → Sq515 (127 + x) (-1) = Sq515 127 (-1) := (fun x hx => (hb515.2.2.2.2.1 (127 + x) (-1) (by omega) (by omega) (by omega) (Or.inr (by omega)) (by omega) (by omega)).trans ((hth x hx).trans (hb515.2.2.2.2.1 127 (-1) (by first | decide | omega) (by first | decide | omega) (by first | decide | omega) (Or.inl (by first | decide | omega)) (by first | decide | omega) (by first | decide | omega)).symm))
                  refine wa_cv 72 rfl (wy_pr rfl) wt_72 (M2 := mS [127, 128, 129, 130, 131, 132, 133, 134, 135, 136, 141, 142]) rfl at_XH_addThing ⟨_, rfl⟩ rfl rfl ⟨trivial, (Or.inr ⟨wy_pr rfl, mS_no rfl⟩), trivial, trivial, trivial⟩ trivial (fun _ _ q => mS_sub (by decide) q) (atH_ok (S := Sq515) (kd := 4) (sh := (H.length : Int)) (fo := (-1)) (rm := 0) (cs := cs) (n := n) (u0 := u0) (CL_bs hC hb515) hb515.2.2.2.2.2.1 (((hb515.2.2.2.2.1 140 2 (by decide) (by decide) (by decide) (Or.inl (by decide)) (Or.inl (by decide)) (Or.inl (by decide))).trans (h2))) ⟨by omega, by omega⟩ at523b ⟨by omega, by omega⟩ at523d (((hb515.2.2.2.2.1 72 3 (by decide) (by decide) (by decide) (Or.inl (by decide)) (Or.inr (by decide)) (Or.inl (by decide))).trans (hn))) ⟨by omega, by omega⟩ ⟨by omega, by omega⟩ (((hb515.2.2.2.2.1 150 0 (by decide) (by decide) (by decide) (Or.inl (by decide)) (Or.inl (by decide)) (Or.inr (by decide))).trans (hu0))) ⟨by omega, by omega⟩ ⟨by omega, by omega⟩ ⟨by omega, by omega⟩ ⟨by omega, by omega⟩ ⟨by omega, by omega⟩) (fun oq523 Sq523 hp524 q523 => ?_)
                  rcases q523 with ⟨rfl, at523⟩
                  show wJ _ _ _ _ _ _ _ _ _ _
                  have at523e := at523.2.2.2.2.2.2.1.2
                  have at523f := at523.2.2.2.2.2.1
                  refine wa_istore (n := 6) rfl ?_
                  refine wa_aload_n (n := 0) rfl ?_
                  refine wb_gf5 158 rfl (wy_pr rfl) wt_158 wf_5_4 (v := 215) (((at523.2.2.2.2.2.2.2.1 158 4 (by decide) (by decide) (by decide) (by decide) (by decide) (Or.inl (by decide)) (Or.inl (by decide)) (Or.inl (by decide))).trans (((hb515.2.2.2.2.1 158 4 (by decide) (by decide) (by decide) (Or.inl (by decide)) (Or.inl (by decide)) (Or.inl (by decide))).trans (l4))))) (fun r525 => ?_)
                  refine wa_iload_n (n := 1) rfl ?_
                  refine wa_aload_n (n := 0) rfl ?_
                  refine wb_gfi 158 rfl (wy_pr rfl) wt_158 wf_5_8 (v := ba) (((at523.2.2.2.2.2.2.2.1 158 8 (by decide) (by decide) (by decide) (by decide) (by decide) (Or.inl (by decide)) (Or.inl (by decide)) (Or.inl (by decide))).trans (((hb515.2.2.2.2.1 158 8 (by decide) (by decide) (by decide) (Or.inl (by decide)) (Or.inl (by decide)) (Or.inl (by decide))).trans (l8))))) (fun r526 => ?_)
                  refine wa_iconst ?_
                  refine wa_iload (n := 6) rfl ?_
                  refine wa_i2l (w_rg0 (by omega) (by omega)) ?_
                  refine wa_iconst ?_
                  have eg140 : Sq515 140 2 = cs := (((hb515.2.2.2.2.1 140 2 (by first | decide | omega) (by first | decide | omega) (by first | decide | omega) (Or.inl (by first | decide | omega)) (Or.inl (by first | decide | omega)) (Or.inl (by first | decide | omega))).trans (h2)))
                  refine wa_cv 215 rfl (wy_pr rfl) wt_215 (M2 := mS [138, 139, 141, 142]) rfl at_XK_enter ⟨_, rfl⟩ rfl rfl ⟨trivial, trivial, (Or.inr ⟨wy_pr rfl, mS_no rfl⟩), trivial, trivial, trivial⟩ trivial (fun _ _ q => mS_sub (by decide) q) (en_215 (S := Sq523) (fn := fn) (pl := ba) (kd := 4) (bt := n) (nw := 1) (cs := (cs + 0)) (n := nc) (u0 := u0 + 1) (v0 := v0) (c := c) (p := p) (h := h) (f := f) (ar := ar) (vs := vs) (pn := pn) (CL_at (CL_bs hC hb515) at523) at523.2.2.2.2.2.2.2.2.1 ((by rw [at523.2.2.2.1, show _ = _ from (((hb515.2.2.2.2.1 140 2 (by decide) (by decide) (by decide) (Or.inl (by decide)) (Or.inl (by decide)) (Or.inl (by decide))).trans (h2)))])) ⟨by omega, by omega⟩ at523f.1 ⟨by omega, by omega⟩ (by rw [show _ = _ from (((at523.2.2.2.2.2.2.2.1 139 (-1) (by decide) (by decide) (by decide) (by decide) (by decide) (Or.inl (by decide)) (Or.inl (by decide)) (Or.inl (by decide))).trans (((hb515.2.2.2.2.1 139 (-1) (by decide) (by decide) (by decide) (Or.inl (by decide)) (Or.inl (by decide)) (Or.inl (by decide))).trans (hcl))))), show _ = _ from (((at523.2.2.2.2.2.2.2.1 138 (-1) (by decide) (by decide) (by decide) (by decide) (by decide) (Or.inl (by decide)) (Or.inl (by decide)) (Or.inl (by decide))).trans (((hb515.2.2.2.2.1 138 (-1) (by decide) (by decide) (by decide) (Or.inl (by decide)) (Or.inl (by decide)) (Or.inl (by decide))).trans (rfl)))))]) (((at523.2.2.2.2.2.2.2.1 72 5 (by decide) (by decide) (by decide) (by decide) (by decide) (Or.inr (by decide)) (Or.inl (by decide)) (Or.inl (by decide))).trans (((hb515.2.2.2.2.1 72 5 (by decide) (by decide) (by decide) (Or.inl (by decide)) (Or.inr (by decide)) (Or.inl (by decide))).trans (hm))))) ⟨by omega, by rw [show _ = _ from (((at523.2.2.2.2.2.2.2.1 138 (-1) (by decide) (by decide) (by decide) (by decide) (by decide) (Or.inl (by decide)) (Or.inl (by decide)) (Or.inl (by decide))).trans (((hb515.2.2.2.2.1 138 (-1) (by decide) (by decide) (by decide) (Or.inl (by decide)) (Or.inl (by decide)) (Or.inl (by decide))).trans (rfl)))))]; omega⟩ (by rw [show _ = _ from (((at523.2.2.2.2.2.2.2.1 138 (-1) (by decide) (by decide) (by decide) (by decide) (by decide) (Or.inl (by decide)) (Or.inl (by decide)) (Or.inl (by decide))).trans (((hb515.2.2.2.2.1 138 (-1) (by decide) (by decide) (by decide) (Or.inl (by decide)) (Or.inl (by decide)) (Or.inl (by decide))).trans (rfl)))))]; exact hm2) ((by rw [at523.1.2, show _ = _ from (((hb515.2.2.2.2.1 150 0 (by decide) (by decide) (by decide) (Or.inl (by decide)) (Or.inl (by decide)) (Or.inr (by decide))).trans (hu0)))])) ⟨by omega, by omega⟩ (((at523.2.2.2.2.2.2.2.1 150 1 (by decide) (by decide) (by decide) (by decide) (by decide) (Or.inl (by decide)) (Or.inl (by decide)) (Or.inr (by decide))).trans (((hb515.2.2.2.2.1 150 1 (by decide) (by decide) (by decide) (Or.inl (by decide)) (Or.inl (by decide)) (Or.inr (by decide))).trans (hv0))))) ⟨by omega, by omega⟩ ⟨at523.2.2.2.2.2.2.1.1 2 (by decide), at523.2.2.2.2.2.2.1.1 9 (by decide)⟩ ⟨by omega, by omega⟩ ((at523.2.2.1 2 (by decide) fn (by omega) (by rw [show _ = _ from (((hb515.2.2.2.2.1 72 3 (by decide) (by decide) (by decide) (Or.inl (by decide)) (Or.inr (by decide)) (Or.inl (by decide))).trans (hn)))]; omega)).trans ((hfA 129 (by decide) (by decide)).trans hf)) hf1 ((at523.2.2.1 9 (by decide) fn (by omega) (by rw [show _ = _ from (((hb515.2.2.2.2.1 72 3 (by decide) (by decide) (by decide) (Or.inl (by decide)) (Or.inr (by decide)) (Or.inl (by decide))).trans (hn)))]; omega)).trans ((hfA 136 (by decide) (by decide)).trans har)) (((at523.2.2.2.2.2.2.2.1 23 f (by decide) (by decide) (by decide) (by decide) (by decide) (Or.inl (by decide)) (Or.inl (by decide)) (Or.inl (by decide))).trans (((hb515.2.2.2.2.1 23 f (by decide) (by decide) (by decide) (Or.inl (by decide)) (Or.inl (by decide)) (Or.inl (by decide))).trans (hvs))))) hvs1 (((at523.2.2.2.2.2.2.2.1 22 f (by decide) (by decide) (by decide) (by decide) (by decide) (Or.inl (by decide)) (Or.inl (by decide)) (Or.inl (by decide))).trans (((hb515.2.2.2.2.1 22 f (by decide) (by decide) (by decide) (Or.inl (by decide)) (Or.inl (by decide)) (Or.inl (by decide))).trans (hpn))))) hpn1 (((at523.2.2.2.2.2.2.2.1 215 4 (by decide) (by decide) (by decide) (by decide) (by decide) (Or.inl (by decide)) (Or.inl (by decide)) (Or.inl (by decide))).trans (((hb515.2.2.2.2.1 215 4 (by decide) (by decide) (by decide) (Or.inl (by decide)) (Or.inl (by decide)) (Or.inl (by decide))).trans (bc))))) ⟨by omega, by omega⟩ (((at523.2.2.2.2.2.2.2.1 220 (c - 1) (by decide) (by decide) (by decide) (by decide) (by decide) (Or.inl (by decide)) (Or.inl (by decide)) (Or.inl (by decide))).trans (((hb515.2.2.2.2.1 220 (c - 1) (by decide) (by decide) (by decide) (Or.inl (by decide)) (Or.inl (by decide)) (Or.inl (by decide))).trans (bp))))) ⟨by omega, by omega⟩ (((at523.2.2.2.2.2.2.2.1 216 2 (by decide) (by decide) (by decide) (by decide) (by decide) (Or.inl (by decide)) (Or.inl (by decide)) (Or.inl (by decide))).trans (((hb515.2.2.2.2.1 216 2 (by decide) (by decide) (by decide) (Or.inl (by decide)) (Or.inl (by decide)) (Or.inl (by decide))).trans (bh))))) (by rw [show _ = _ from (((at523.2.2.2.2.2.2.2.1 217 (-1) (by decide) (by decide) (by decide) (by decide) (by decide) (Or.inl (by decide)) (Or.inl (by decide)) (Or.inl (by decide))).trans (((hb515.2.2.2.2.1 217 (-1) (by decide) (by decide) (by decide) (Or.inl (by decide)) (Or.inl (by decide)) (Or.inl (by decide))).trans (rfl)))))]; exact bh2) (by rw [show _ = _ from (((at523.2.2.2.2.2.2.2.1 218 (-1) (by decide) (by decide) (by decide) (by decide) (by decide) (Or.inl (by decide)) (Or.inl (by decide)) (Or.inl (by decide))).trans (((hb515.2.2.2.2.1 218 (-1) (by decide) (by decide) (by decide) (Or.inl (by decide)) (Or.inl (by decide)) (Or.inl (by decide))).trans (bl1))))), show _ = _ from (((at523.2.2.2.2.2.2.2.1 217 (-1) (by decide) (by decide) (by decide) (by decide) (by decide) (Or.inl (by decide)) (Or.inl (by decide)) (Or.inl (by decide))).trans (((hb515.2.2.2.2.1 217 (-1) (by decide) (by decide) (by decide) (Or.inl (by decide)) (Or.inl (by decide)) (Or.inl (by decide))).trans (rfl)))))]; exact ⟨rfl, bl3⟩) ⟨by omega, by omega⟩ (by omega) (by omega) (by decide) ⟨by omega, by omega⟩ (by decide)) (fun oq527 Sq527 hp528 q527 => ?_)
                  rcases q527 with ⟨rfl, hen⟩
                  show wJ _ _ _ _ _ _ _ _ _ _
                  refine wa_return rfl ?_
                  have ecs : Sq523 140 2 = (cs + 0) := ((by rw [at523.2.2.2.1, show _ = _ from (((hb515.2.2.2.2.1 140 2 (by first | decide | omega) (by first | decide | omega) (by first | decide | omega) (Or.inl (by first | decide | omega)) (Or.inl (by first | decide | omega)) (Or.inl (by first | decide | omega))).trans (h2)))]))
                  exact ⟨rfl, Or.inr (Or.inr (Or.inr ⟨by omega, by omega, by omega, by omega, by omega, Sq515, Sq523, hb515, at523, by rw [ecs]; exact hen⟩))⟩
              · skip
                exact absurd c514 (by omega)
            · skip
              exact absurd c513 (by omega)
      · skip
        refine wa_aload_n (n := 0) rfl ?_
        refine wb_gf4 72 rfl (wy_pr rfl) wt_72 wf_2_2 (v := 126) wl_72_2 ?_
        refine wa_iconst ?_
        refine wb_aald5 126 5 rfl rfl (wy_pr rfl) wt_126 (by rw [show _ = _ from ((cl_126 hC))]; omega) wl_126_5 ?_
        refine wa_iload_n (n := 1) rfl ?_
        refine wb_iald 132 rfl (wy_pr rfl) wt_132 (n := (S 127 (-1))) ((hth 5 (by decide))) (by omega) (by omega) (v := r) (e132) (fun r529 => ?_)
        refine wa_iconst ?_
        refine wa_icmpne (w_rg0 (by omega) (by omega)) (w_rg0 (by omega) (by omega)) ⟨_, rfl⟩ (fun c530 => ?_) (fun c530 => ?_)
        · skip
          refine wa_iconst ?_
          refine wa_fall ⟨_, rfl⟩ ?_
          refine wa_istore_n (n := 2) rfl ?_
          refine wa_aload_n (n := 0) rfl ?_
          refine wa_iconst ?_
          refine wa_iconst ?_
          refine wa_cv 72 rfl (wy_pr rfl) wt_72 (M2 := mS [217, 218, 127, 128, 129, 130, 131, 132, 133, 134, 135, 136, 141, 142, 138, 139, 144, 145, 146, 147, 148]) rfl at_XH_hasRoom ⟨_, rfl⟩ rfl rfl ⟨trivial, (Or.inr ⟨wy_pr rfl, mS_no rfl⟩), trivial, trivial⟩ trivial (fun _ _ q => q) ?_ (fun _ _ _ q => q)
          refine wa_aload_n (n := 0) rfl ?_
          refine wb_gf4 72 rfl (wy_pr rfl) wt_72 wf_2_10 (v := 150) wl_72_10 ?_
          refine wa_iload_n (n := 1) rfl ?_
          refine wb_iald 150 rfl (wy_pr rfl) wt_150 (n := 6) ((cl_150 hC)) (by omega) (by omega) (v := u0) (hu0) (fun r531 => ?_)
          refine wa_iload_n (n := 2) rfl ?_
          refine wa_iadd ?_
          refine wa_gs ?_
          refine wa_iload_n (n := 1) rfl ?_
          refine wb_xald 1 rfl hx1 (by decide) (by omega) (by decide) (v := 8000) (by decide) (fun r532 => ?_)
          refine wa_icmpgt (w_rg0 (by omega) (by omega)) (w_rg0 (by omega) (by omega)) ⟨_, rfl⟩ (fun c533 => ?_) (fun c533 => ?_)
          · skip
            refine wa_iconst ?_
            refine wa_fall ⟨_, rfl⟩ ?_
            refine wa_zreturn rfl (Or.inl rfl) ?_
            show wJ _ _ _ _ _ _ _ _ _ _
            refine wa_ifeq (w_rg0 (by omega) (by omega)) ⟨_, rfl⟩ (fun c534 => ?_) (fun c534 => ?_)
            · skip
              refine wa_iconst ?_
              refine wa_fall ⟨_, rfl⟩ ?_
              refine wa_zreturn rfl (Or.inl rfl) ?_
              show wJ _ _ _ _ _ _ _ _ _ _
              refine wa_ifne (w_rg0 (by omega) (by omega)) ⟨_, rfl⟩ (fun c535 => ?_) (fun c535 => ?_)
              · skip
                exact absurd c535 (by omega)
              · skip
                refine wa_aload_n (n := 0) rfl ?_
                refine wb_gf5 158 rfl (wy_pr rfl) wt_158 wf_5_4 (v := 215) (l4) (fun r536 => ?_)
                refine wa_bipush (w_rg2 (by omega) (by omega)) ?_
                refine wb_pfi 215 rfl (wy_pr rfl) wt_215 wf_8_16 (n := 16) rfl ⟨(by omega), (by omega)⟩ ?_
                refine wa_return rfl ?_
                exact ⟨rfl, Or.inr (Or.inl ⟨by omega, by omega, rfl⟩)⟩
            · skip
              exact absurd c534 (by omega)
          · skip
            refine wa_iconst ?_
            refine wa_goto ⟨_, rfl⟩ ?_
            refine wa_zreturn rfl (Or.inr rfl) ?_
            show wJ _ _ _ _ _ _ _ _ _ _
            refine wa_ifeq (w_rg0 (by omega) (by omega)) ⟨_, rfl⟩ (fun c537 => ?_) (fun c537 => ?_)
            · skip
              exact absurd c537 (by omega)
            · skip
              refine wa_iload_n (n := 2) rfl ?_
              refine wa_ifeq (w_rg0 (by omega) (by omega)) ⟨_, rfl⟩ (fun c538 => ?_) (fun c538 => ?_)
              · skip
                refine wa_iconst ?_
                refine wa_goto ⟨_, rfl⟩ ?_
                refine wa_zreturn rfl (Or.inr rfl) ?_
                show wJ _ _ _ _ _ _ _ _ _ _
                refine wa_ifne (w_rg0 (by omega) (by omega)) ⟨_, rfl⟩ (fun c539 => ?_) (fun c539 => ?_)
                · skip
                  refine wa_aload_n (n := 0) rfl ?_
                  refine wb_gf4 158 rfl (wy_pr rfl) wt_158 wf_5_0 (v := 72) wl_158_0 ?_
                  refine wa_iload (n := 4) rfl ?_
                  refine wa_cv 72 rfl (wy_pr rfl) wt_72 (M2 := mS [144, 145, 146, 147, 148]) rfl at_XH_bareShape ⟨_, rfl⟩ rfl rfl ⟨(Or.inr ⟨wy_pr rfl, mS_no rfl⟩), trivial, trivial, trivial⟩ trivial (fun _ _ q => mS_sub (by decide) q) (c_bs hC hI hsw hlt hw hq hr ⟨by omega, fun z => by omega⟩) (fun oq540 Sq540 hp541 q540 => ?_)
                  rcases q540 with ⟨hbr, rfl, rfl⟩ | ⟨hbr, hb540, rfl⟩
                  · skip
                    show wJ _ _ _ _ _ _ _ _ _ _
                    refine wa_istore (n := 5) rfl ?_
                    refine wa_aload_n (n := 0) rfl ?_
                    refine wb_gf4 158 rfl (wy_pr rfl) wt_158 wf_5_0 (v := 72) wl_158_0 ?_
                    refine wa_iconst ?_
                    refine wa_iload (n := 5) rfl ?_
                    refine wa_iconst ?_
                    refine wa_iconst ?_
                    have at542a : S 141 (-1) = (S 141 (-1)) := (rfl)
                    have at542b : S 142 (-1) = S 141 (-1) := ((hl14) : S 142 (-1) = (S 141 (-1))).trans at542a.symm
                    have at542c : S 127 (-1) = (S 127 (-1)) := (rfl)
                    have at542d : ∀ x : Nat, x < 10 → S (127 + x) (-1) = S 127 (-1) := (hth)
                    refine wa_cv 72 rfl (wy_pr rfl) wt_72 (M2 := mS [127, 128, 129, 130, 131, 132, 133, 134, 135, 136, 141, 142]) rfl at_XH_addThing ⟨_, rfl⟩ rfl rfl ⟨trivial, (Or.inr ⟨wy_pr rfl, mS_no rfl⟩), trivial, trivial, trivial⟩ trivial (fun _ _ q => mS_sub (by decide) q) (atH_ok (S := S) (kd := 4) (sh := r) (fo := (-1)) (rm := 0) (cs := cs) (n := n) (u0 := u0) hC hI (h2) ⟨by omega, by omega⟩ at542b ⟨by omega, by omega⟩ at542d (hn) ⟨by omega, by omega⟩ ⟨by omega, by omega⟩ (hu0) ⟨by omega, by omega⟩ ⟨by omega, by omega⟩ ⟨by omega, by omega⟩ ⟨by omega, by omega⟩ ⟨by omega, by omega⟩) (fun oq542 Sq542 hp543 q542 => ?_)
                    rcases q542 with ⟨rfl, at542⟩
                    show wJ _ _ _ _ _ _ _ _ _ _
                    have at542e := at542.2.2.2.2.2.2.1.2
                    have at542f := at542.2.2.2.2.2.1
                    refine wa_istore (n := 6) rfl ?_
                    refine wa_aload_n (n := 0) rfl ?_
                    refine wb_gf5 158 rfl (wy_pr rfl) wt_158 wf_5_4 (v := 215) (((at542.2.2.2.2.2.2.2.1 158 4 (by decide) (by decide) (by decide) (by decide) (by decide) (Or.inl (by decide)) (Or.inl (by decide)) (Or.inl (by decide))).trans (l4))) (fun r544 => ?_)
                    refine wa_iload_n (n := 1) rfl ?_
                    refine wa_aload_n (n := 0) rfl ?_
                    refine wb_gfi 158 rfl (wy_pr rfl) wt_158 wf_5_8 (v := ba) (((at542.2.2.2.2.2.2.2.1 158 8 (by decide) (by decide) (by decide) (by decide) (by decide) (Or.inl (by decide)) (Or.inl (by decide)) (Or.inl (by decide))).trans (l8))) (fun r545 => ?_)
                    refine wa_iconst ?_
                    refine wa_iload (n := 6) rfl ?_
                    refine wa_i2l (w_rg0 (by omega) (by omega)) ?_
                    refine wa_iconst ?_
                    refine wa_cv 215 rfl (wy_pr rfl) wt_215 (M2 := mS [138, 139, 141, 142]) rfl at_XK_enter ⟨_, rfl⟩ rfl rfl ⟨trivial, trivial, (Or.inr ⟨wy_pr rfl, mS_no rfl⟩), trivial, trivial, trivial⟩ trivial (fun _ _ q => mS_sub (by decide) q) (en_215 (S := Sq542) (fn := fn) (pl := ba) (kd := 4) (bt := n) (nw := 1) (cs := (cs + 0)) (n := nc) (u0 := u0 + 1) (v0 := v0) (c := c) (p := p) (h := h) (f := f) (ar := ar) (vs := vs) (pn := pn) (CL_at hC at542) at542.2.2.2.2.2.2.2.2.1 ((by rw [at542.2.2.2.1, show _ = _ from (h2)])) ⟨by omega, by omega⟩ at542f.1 ⟨by omega, by omega⟩ (by rw [show _ = _ from (((at542.2.2.2.2.2.2.2.1 139 (-1) (by decide) (by decide) (by decide) (by decide) (by decide) (Or.inl (by decide)) (Or.inl (by decide)) (Or.inl (by decide))).trans (hcl))), show _ = _ from (((at542.2.2.2.2.2.2.2.1 138 (-1) (by decide) (by decide) (by decide) (by decide) (by decide) (Or.inl (by decide)) (Or.inl (by decide)) (Or.inl (by decide))).trans (rfl)))]) (((at542.2.2.2.2.2.2.2.1 72 5 (by decide) (by decide) (by decide) (by decide) (by decide) (Or.inr (by decide)) (Or.inl (by decide)) (Or.inl (by decide))).trans (hm))) ⟨by omega, by rw [show _ = _ from (((at542.2.2.2.2.2.2.2.1 138 (-1) (by decide) (by decide) (by decide) (by decide) (by decide) (Or.inl (by decide)) (Or.inl (by decide)) (Or.inl (by decide))).trans (rfl)))]; omega⟩ (by rw [show _ = _ from (((at542.2.2.2.2.2.2.2.1 138 (-1) (by decide) (by decide) (by decide) (by decide) (by decide) (Or.inl (by decide)) (Or.inl (by decide)) (Or.inl (by decide))).trans (rfl)))]; exact hm2) ((by rw [at542.1.2, show _ = _ from (hu0)])) ⟨by omega, by omega⟩ (((at542.2.2.2.2.2.2.2.1 150 1 (by decide) (by decide) (by decide) (by decide) (by decide) (Or.inl (by decide)) (Or.inl (by decide)) (Or.inr (by decide))).trans (hv0))) ⟨by omega, by omega⟩ ⟨at542.2.2.2.2.2.2.1.1 2 (by decide), at542.2.2.2.2.2.2.1.1 9 (by decide)⟩ ⟨by omega, by omega⟩ ((at542.2.2.1 2 (by decide) fn (by omega) (by rw [show _ = _ from (hn)]; omega)).trans hf) hf1 ((at542.2.2.1 9 (by decide) fn (by omega) (by rw [show _ = _ from (hn)]; omega)).trans har) (((at542.2.2.2.2.2.2.2.1 23 f (by decide) (by decide) (by decide) (by decide) (by decide) (Or.inl (by decide)) (Or.inl (by decide)) (Or.inl (by decide))).trans (hvs))) hvs1 (((at542.2.2.2.2.2.2.2.1 22 f (by decide) (by decide) (by decide) (by decide) (by decide) (Or.inl (by decide)) (Or.inl (by decide)) (Or.inl (by decide))).trans (hpn))) hpn1 (((at542.2.2.2.2.2.2.2.1 215 4 (by decide) (by decide) (by decide) (by decide) (by decide) (Or.inl (by decide)) (Or.inl (by decide)) (Or.inl (by decide))).trans (bc))) ⟨by omega, by omega⟩ (((at542.2.2.2.2.2.2.2.1 220 (c - 1) (by decide) (by decide) (by decide) (by decide) (by decide) (Or.inl (by decide)) (Or.inl (by decide)) (Or.inl (by decide))).trans (bp))) ⟨by omega, by omega⟩ (((at542.2.2.2.2.2.2.2.1 216 2 (by decide) (by decide) (by decide) (by decide) (by decide) (Or.inl (by decide)) (Or.inl (by decide)) (Or.inl (by decide))).trans (bh))) (by rw [show _ = _ from (((at542.2.2.2.2.2.2.2.1 217 (-1) (by decide) (by decide) (by decide) (by decide) (by decide) (Or.inl (by decide)) (Or.inl (by decide)) (Or.inl (by decide))).trans (rfl)))]; exact bh2) (by rw [show _ = _ from (((at542.2.2.2.2.2.2.2.1 218 (-1) (by decide) (by decide) (by decide) (by decide) (by decide) (Or.inl (by decide)) (Or.inl (by decide)) (Or.inl (by decide))).trans (bl1))), show _ = _ from (((at542.2.2.2.2.2.2.2.1 217 (-1) (by decide) (by decide) (by decide) (by decide) (by decide) (Or.inl (by decide)) (Or.inl (by decide)) (Or.inl (by decide))).trans (rfl)))]; exact ⟨rfl, bl3⟩) ⟨by omega, by omega⟩ (by omega) (by omega) (by decide) ⟨by omega, by omega⟩ (by decide)) (fun oq546 Sq546 hp547 q546 => ?_)
                    rcases q546 with ⟨rfl, hen⟩
                    show wJ _ _ _ _ _ _ _ _ _ _
                    refine wa_return rfl ?_
                    have ecs : Sq542 140 2 = (cs + 0) := ((by rw [at542.2.2.2.1, show _ = _ from (h2)]))
                    exact ⟨rfl, Or.inr (Or.inr (Or.inl ⟨by omega, by omega, by omega, by omega, Sq542, at542, by rw [ecs]; exact hen⟩))⟩
                  · skip
                    show wJ _ _ _ _ _ _ _ _ _ _
                    have hfA : ∀ j : Nat, (j = 129 ∨ j = 136) → j < 237 → Sq540 j fn = S j fn := fun j hj _ => hb540.2.2.2.2.1 j fn (by omega) (by omega) (by omega) (Or.inl (by omega)) (by omega) (by omega)
                    refine wa_istore (n := 5) rfl ?_
                    refine wa_aload_n (n := 0) rfl ?_
                    refine wb_gf4 158 rfl (wy_pr rfl) wt_158 wf_5_0 (v := 72) wl_158_0 ?_
                    refine wa_iconst ?_
                    refine wa_iload (n := 5) rfl ?_
                    refine wa_iconst ?_
                    refine wa_iconst ?_
                    have at548a : Sq540 141 (-1) = (S 141 (-1)) := (((hb540.2.2.2.2.1 141 (-1) (by first | decide | omega) (by first | decide | omega) (by first | decide | omega) (Or.inl (by first | decide | omega)) (Or.inl (by first | decide | omega)) (Or.inl (by first | decide | omega))).trans (rfl)))
                    have at548b : Sq540 142 (-1) = Sq540 141 (-1) := ((((hb540.2.2.2.2.1 142 (-1) (by first | decide | omega) (by first | decide | omega) (by first | decide | omega) (Or.inl (by first | decide | omega)) (Or.inl (by first | decide | omega)) (Or.inl (by first | decide | omega))).trans (hl14))) : Sq540 142 (-1) = (S 141 (-1))).trans at548a.symm
                    have at548c : Sq540 127 (-1) = (S 127 (-1)) := (((hb540.2.2.2.2.1 127 (-1) (by first | decide | omega) (by first | decide | omega) (by first | decide | omega) (Or.inl (by first | decide | omega)) (Or.inl (by first | decide | omega)) (Or.inl (by first | decide | omega))).trans (rfl)))
                    have at548d : ∀ x : Nat, x < 10 → Sq540 (127 + x) (-1) = Sq540 127 (-1) := (fun x hx => (hb540.2.2.2.2.1 (127 + x) (-1) (by omega) (by omega) (by omega) (Or.inr (by omega)) (by omega) (by omega)).trans ((hth x hx).trans (hb540.2.2.2.2.1 127 (-1) (by first | decide | omega) (by first | decide | omega) (by first | decide | omega) (Or.inl (by first | decide | omega)) (by first | decide | omega) (by first | decide | omega)).symm))
                    refine wa_cv 72 rfl (wy_pr rfl) wt_72 (M2 := mS [127, 128, 129, 130, 131, 132, 133, 134, 135, 136, 141, 142]) rfl at_XH_addThing ⟨_, rfl⟩ rfl rfl ⟨trivial, (Or.inr ⟨wy_pr rfl, mS_no rfl⟩), trivial, trivial, trivial⟩ trivial (fun _ _ q => mS_sub (by decide) q) (atH_ok (S := Sq540) (kd := 4) (sh := (H.length : Int)) (fo := (-1)) (rm := 0) (cs := cs) (n := n) (u0 := u0) (CL_bs hC hb540) hb540.2.2.2.2.2.1 (((hb540.2.2.2.2.1 140 2 (by decide) (by decide) (by decide) (Or.inl (by decide)) (Or.inl (by decide)) (Or.inl (by decide))).trans (h2))) ⟨by omega, by omega⟩ at548b ⟨by omega, by omega⟩ at548d (((hb540.2.2.2.2.1 72 3 (by decide) (by decide) (by decide) (Or.inl (by decide)) (Or.inr (by decide)) (Or.inl (by decide))).trans (hn))) ⟨by omega, by omega⟩ ⟨by omega, by omega⟩ (((hb540.2.2.2.2.1 150 0 (by decide) (by decide) (by decide) (Or.inl (by decide)) (Or.inl (by decide)) (Or.inr (by decide))).trans (hu0))) ⟨by omega, by omega⟩ ⟨by omega, by omega⟩ ⟨by omega, by omega⟩ ⟨by omega, by omega⟩ ⟨by omega, by omega⟩) (fun oq548 Sq548 hp549 q548 => ?_)
                    rcases q548 with ⟨rfl, at548⟩
                    show wJ _ _ _ _ _ _ _ _ _ _
                    have at548e := at548.2.2.2.2.2.2.1.2
                    have at548f := at548.2.2.2.2.2.1
                    refine wa_istore (n := 6) rfl ?_
                    refine wa_aload_n (n := 0) rfl ?_
                    refine wb_gf5 158 rfl (wy_pr rfl) wt_158 wf_5_4 (v := 215) (((at548.2.2.2.2.2.2.2.1 158 4 (by decide) (by decide) (by decide) (by decide) (by decide) (Or.inl (by decide)) (Or.inl (by decide)) (Or.inl (by decide))).trans (((hb540.2.2.2.2.1 158 4 (by decide) (by decide) (by decide) (Or.inl (by decide)) (Or.inl (by decide)) (Or.inl (by decide))).trans (l4))))) (fun r550 => ?_)
                    refine wa_iload_n (n := 1) rfl ?_
                    refine wa_aload_n (n := 0) rfl ?_
                    refine wb_gfi 158 rfl (wy_pr rfl) wt_158 wf_5_8 (v := ba) (((at548.2.2.2.2.2.2.2.1 158 8 (by decide) (by decide) (by decide) (by decide) (by decide) (Or.inl (by decide)) (Or.inl (by decide)) (Or.inl (by decide))).trans (((hb540.2.2.2.2.1 158 8 (by decide) (by decide) (by decide) (Or.inl (by decide)) (Or.inl (by decide)) (Or.inl (by decide))).trans (l8))))) (fun r551 => ?_)
                    refine wa_iconst ?_
                    refine wa_iload (n := 6) rfl ?_
                    refine wa_i2l (w_rg0 (by omega) (by omega)) ?_
                    refine wa_iconst ?_
                    have eg140 : Sq540 140 2 = cs := (((hb540.2.2.2.2.1 140 2 (by first | decide | omega) (by first | decide | omega) (by first | decide | omega) (Or.inl (by first | decide | omega)) (Or.inl (by first | decide | omega)) (Or.inl (by first | decide | omega))).trans (h2)))
                    refine wa_cv 215 rfl (wy_pr rfl) wt_215 (M2 := mS [138, 139, 141, 142]) rfl at_XK_enter ⟨_, rfl⟩ rfl rfl ⟨trivial, trivial, (Or.inr ⟨wy_pr rfl, mS_no rfl⟩), trivial, trivial, trivial⟩ trivial (fun _ _ q => mS_sub (by decide) q) (en_215 (S := Sq548) (fn := fn) (pl := ba) (kd := 4) (bt := n) (nw := 1) (cs := (cs + 0)) (n := nc) (u0 := u0 + 1) (v0 := v0) (c := c) (p := p) (h := h) (f := f) (ar := ar) (vs := vs) (pn := pn) (CL_at (CL_bs hC hb540) at548) at548.2.2.2.2.2.2.2.2.1 ((by rw [at548.2.2.2.1, show _ = _ from (((hb540.2.2.2.2.1 140 2 (by decide) (by decide) (by decide) (Or.inl (by decide)) (Or.inl (by decide)) (Or.inl (by decide))).trans (h2)))])) ⟨by omega, by omega⟩ at548f.1 ⟨by omega, by omega⟩ (by rw [show _ = _ from (((at548.2.2.2.2.2.2.2.1 139 (-1) (by decide) (by decide) (by decide) (by decide) (by decide) (Or.inl (by decide)) (Or.inl (by decide)) (Or.inl (by decide))).trans (((hb540.2.2.2.2.1 139 (-1) (by decide) (by decide) (by decide) (Or.inl (by decide)) (Or.inl (by decide)) (Or.inl (by decide))).trans (hcl))))), show _ = _ from (((at548.2.2.2.2.2.2.2.1 138 (-1) (by decide) (by decide) (by decide) (by decide) (by decide) (Or.inl (by decide)) (Or.inl (by decide)) (Or.inl (by decide))).trans (((hb540.2.2.2.2.1 138 (-1) (by decide) (by decide) (by decide) (Or.inl (by decide)) (Or.inl (by decide)) (Or.inl (by decide))).trans (rfl)))))]) (((at548.2.2.2.2.2.2.2.1 72 5 (by decide) (by decide) (by decide) (by decide) (by decide) (Or.inr (by decide)) (Or.inl (by decide)) (Or.inl (by decide))).trans (((hb540.2.2.2.2.1 72 5 (by decide) (by decide) (by decide) (Or.inl (by decide)) (Or.inr (by decide)) (Or.inl (by decide))).trans (hm))))) ⟨by omega, by rw [show _ = _ from (((at548.2.2.2.2.2.2.2.1 138 (-1) (by decide) (by decide) (by decide) (by decide) (by decide) (Or.inl (by decide)) (Or.inl (by decide)) (Or.inl (by decide))).trans (((hb540.2.2.2.2.1 138 (-1) (by decide) (by decide) (by decide) (Or.inl (by decide)) (Or.inl (by decide)) (Or.inl (by decide))).trans (rfl)))))]; omega⟩ (by rw [show _ = _ from (((at548.2.2.2.2.2.2.2.1 138 (-1) (by decide) (by decide) (by decide) (by decide) (by decide) (Or.inl (by decide)) (Or.inl (by decide)) (Or.inl (by decide))).trans (((hb540.2.2.2.2.1 138 (-1) (by decide) (by decide) (by decide) (Or.inl (by decide)) (Or.inl (by decide)) (Or.inl (by decide))).trans (rfl)))))]; exact hm2) ((by rw [at548.1.2, show _ = _ from (((hb540.2.2.2.2.1 150 0 (by decide) (by decide) (by decide) (Or.inl (by decide)) (Or.inl (by decide)) (Or.inr (by decide))).trans (hu0)))])) ⟨by omega, by omega⟩ (((at548.2.2.2.2.2.2.2.1 150 1 (by decide) (by decide) (by decide) (by decide) (by decide) (Or.inl (by decide)) (Or.inl (by decide)) (Or.inr (by decide))).trans (((hb540.2.2.2.2.1 150 1 (by decide) (by decide) (by decide) (Or.inl (by decide)) (Or.inl (by decide)) (Or.inr (by decide))).trans (hv0))))) ⟨by omega, by omega⟩ ⟨at548.2.2.2.2.2.2.1.1 2 (by decide), at548.2.2.2.2.2.2.1.1 9 (by decide)⟩ ⟨by omega, by omega⟩ ((at548.2.2.1 2 (by decide) fn (by omega) (by rw [show _ = _ from (((hb540.2.2.2.2.1 72 3 (by decide) (by decide) (by decide) (Or.inl (by decide)) (Or.inr (by decide)) (Or.inl (by decide))).trans (hn)))]; omega)).trans ((hfA 129 (by decide) (by decide)).trans hf)) hf1 ((at548.2.2.1 9 (by decide) fn (by omega) (by rw [show _ = _ from (((hb540.2.2.2.2.1 72 3 (by decide) (by decide) (by decide) (Or.inl (by decide)) (Or.inr (by decide)) (Or.inl (by decide))).trans (hn)))]; omega)).trans ((hfA 136 (by decide) (by decide)).trans har)) (((at548.2.2.2.2.2.2.2.1 23 f (by decide) (by decide) (by decide) (by decide) (by decide) (Or.inl (by decide)) (Or.inl (by decide)) (Or.inl (by decide))).trans (((hb540.2.2.2.2.1 23 f (by decide) (by decide) (by decide) (Or.inl (by decide)) (Or.inl (by decide)) (Or.inl (by decide))).trans (hvs))))) hvs1 (((at548.2.2.2.2.2.2.2.1 22 f (by decide) (by decide) (by decide) (by decide) (by decide) (Or.inl (by decide)) (Or.inl (by decide)) (Or.inl (by decide))).trans (((hb540.2.2.2.2.1 22 f (by decide) (by decide) (by decide) (Or.inl (by decide)) (Or.inl (by decide)) (Or.inl (by decide))).trans (hpn))))) hpn1 (((at548.2.2.2.2.2.2.2.1 215 4 (by decide) (by decide) (by decide) (by decide) (by decide) (Or.inl (by decide)) (Or.inl (by decide)) (Or.inl (by decide))).trans (((hb540.2.2.2.2.1 215 4 (by decide) (by decide) (by decide) (Or.inl (by decide)) (Or.inl (by decide)) (Or.inl (by decide))).trans (bc))))) ⟨by omega, by omega⟩ (((at548.2.2.2.2.2.2.2.1 220 (c - 1) (by decide) (by decide) (by decide) (by decide) (by decide) (Or.inl (by decide)) (Or.inl (by decide)) (Or.inl (by decide))).trans (((hb540.2.2.2.2.1 220 (c - 1) (by decide) (by decide) (by decide) (Or.inl (by decide)) (Or.inl (by decide)) (Or.inl (by decide))).trans (bp))))) ⟨by omega, by omega⟩ (((at548.2.2.2.2.2.2.2.1 216 2 (by decide) (by decide) (by decide) (by decide) (by decide) (Or.inl (by decide)) (Or.inl (by decide)) (Or.inl (by decide))).trans (((hb540.2.2.2.2.1 216 2 (by decide) (by decide) (by decide) (Or.inl (by decide)) (Or.inl (by decide)) (Or.inl (by decide))).trans (bh))))) (by rw [show _ = _ from (((at548.2.2.2.2.2.2.2.1 217 (-1) (by decide) (by decide) (by decide) (by decide) (by decide) (Or.inl (by decide)) (Or.inl (by decide)) (Or.inl (by decide))).trans (((hb540.2.2.2.2.1 217 (-1) (by decide) (by decide) (by decide) (Or.inl (by decide)) (Or.inl (by decide)) (Or.inl (by decide))).trans (rfl)))))]; exact bh2) (by rw [show _ = _ from (((at548.2.2.2.2.2.2.2.1 218 (-1) (by decide) (by decide) (by decide) (by decide) (by decide) (Or.inl (by decide)) (Or.inl (by decide)) (Or.inl (by decide))).trans (((hb540.2.2.2.2.1 218 (-1) (by decide) (by decide) (by decide) (Or.inl (by decide)) (Or.inl (by decide)) (Or.inl (by decide))).trans (bl1))))), show _ = _ from (((at548.2.2.2.2.2.2.2.1 217 (-1) (by decide) (by decide) (by decide) (by decide) (by decide) (Or.inl (by decide)) (Or.inl (by decide)) (Or.inl (by decide))).trans (((hb540.2.2.2.2.1 217 (-1) (by decide) (by decide) (by decide) (Or.inl (by decide)) (Or.inl (by decide)) (Or.inl (by decide))).trans (rfl)))))]; exact ⟨rfl, bl3⟩) ⟨by omega, by omega⟩ (by omega) (by omega) (by decide) ⟨by omega, by omega⟩ (by decide)) (fun oq552 Sq552 hp553 q552 => ?_)
                    rcases q552 with ⟨rfl, hen⟩
                    show wJ _ _ _ _ _ _ _ _ _ _
                    refine wa_return rfl ?_
                    have ecs : Sq548 140 2 = (cs + 0) := ((by rw [at548.2.2.2.1, show _ = _ from (((hb540.2.2.2.2.1 140 2 (by first | decide | omega) (by first | decide | omega) (by first | decide | omega) (Or.inl (by first | decide | omega)) (Or.inl (by first | decide | omega)) (Or.inl (by first | decide | omega))).trans (h2)))]))
                    exact ⟨rfl, Or.inr (Or.inr (Or.inr ⟨by omega, by omega, by omega, by omega, by omega, Sq540, Sq548, hb540, at548, by rw [ecs]; exact hen⟩))⟩
                · skip
                  exact absurd c539 (by omega)
              · skip
                exact absurd c538 (by omega)
        · skip
          refine wa_iconst ?_
          refine wa_goto ⟨_, rfl⟩ ?_
          refine wa_istore_n (n := 2) rfl ?_
          refine wa_aload_n (n := 0) rfl ?_
          refine wa_iconst ?_
          refine wa_iconst ?_
          refine wa_cv 72 rfl (wy_pr rfl) wt_72 (M2 := mS [217, 218, 127, 128, 129, 130, 131, 132, 133, 134, 135, 136, 141, 142, 138, 139, 144, 145, 146, 147, 148]) rfl at_XH_hasRoom ⟨_, rfl⟩ rfl rfl ⟨trivial, (Or.inr ⟨wy_pr rfl, mS_no rfl⟩), trivial, trivial⟩ trivial (fun _ _ q => q) ?_ (fun _ _ _ q => q)
          refine wa_aload_n (n := 0) rfl ?_
          refine wb_gf4 72 rfl (wy_pr rfl) wt_72 wf_2_10 (v := 150) wl_72_10 ?_
          refine wa_iload_n (n := 1) rfl ?_
          refine wb_iald 150 rfl (wy_pr rfl) wt_150 (n := 6) ((cl_150 hC)) (by omega) (by omega) (v := u0) (hu0) (fun r554 => ?_)
          refine wa_iload_n (n := 2) rfl ?_
          refine wa_iadd ?_
          refine wa_gs ?_
          refine wa_iload_n (n := 1) rfl ?_
          refine wb_xald 1 rfl hx1 (by decide) (by omega) (by decide) (v := 8000) (by decide) (fun r555 => ?_)
          refine wa_icmpgt (w_rg0 (by omega) (by omega)) (w_rg0 (by omega) (by omega)) ⟨_, rfl⟩ (fun c556 => ?_) (fun c556 => ?_)
          · skip
            refine wa_iconst ?_
            refine wa_fall ⟨_, rfl⟩ ?_
            refine wa_zreturn rfl (Or.inl rfl) ?_
            show wJ _ _ _ _ _ _ _ _ _ _
            refine wa_ifeq (w_rg0 (by omega) (by omega)) ⟨_, rfl⟩ (fun c557 => ?_) (fun c557 => ?_)
            · skip
              refine wa_iconst ?_
              refine wa_fall ⟨_, rfl⟩ ?_
              refine wa_zreturn rfl (Or.inl rfl) ?_
              show wJ _ _ _ _ _ _ _ _ _ _
              refine wa_ifne (w_rg0 (by omega) (by omega)) ⟨_, rfl⟩ (fun c558 => ?_) (fun c558 => ?_)
              · skip
                exact absurd c558 (by omega)
              · skip
                refine wa_aload_n (n := 0) rfl ?_
                refine wb_gf5 158 rfl (wy_pr rfl) wt_158 wf_5_4 (v := 215) (l4) (fun r559 => ?_)
                refine wa_bipush (w_rg2 (by omega) (by omega)) ?_
                refine wb_pfi 215 rfl (wy_pr rfl) wt_215 wf_8_16 (n := 16) rfl ⟨(by omega), (by omega)⟩ ?_
                refine wa_return rfl ?_
                exact ⟨rfl, Or.inr (Or.inl ⟨by omega, by omega, rfl⟩)⟩
            · skip
              exact absurd c557 (by omega)
          · skip
            refine wa_iconst ?_
            refine wa_goto ⟨_, rfl⟩ ?_
            refine wa_zreturn rfl (Or.inr rfl) ?_
            show wJ _ _ _ _ _ _ _ _ _ _
            refine wa_ifeq (w_rg0 (by omega) (by omega)) ⟨_, rfl⟩ (fun c560 => ?_) (fun c560 => ?_)
            · skip
              exact absurd c560 (by omega)
            · skip
              refine wa_iload_n (n := 2) rfl ?_
              refine wa_ifeq (w_rg0 (by omega) (by omega)) ⟨_, rfl⟩ (fun c561 => ?_) (fun c561 => ?_)
              · skip
                exact absurd c561 (by omega)
              · skip
                refine wa_aload_n (n := 0) rfl ?_
                refine wa_iconst ?_
                refine wa_iconst ?_
                refine wa_cv 72 rfl (wy_pr rfl) wt_72 (M2 := mS [217, 218, 127, 128, 129, 130, 131, 132, 133, 134, 135, 136, 141, 142, 138, 139, 144, 145, 146, 147, 148]) rfl at_XH_hasRoom ⟨_, rfl⟩ rfl rfl ⟨trivial, (Or.inr ⟨wy_pr rfl, mS_no rfl⟩), trivial, trivial⟩ trivial (fun _ _ q => q) ?_ (fun _ _ _ q => q)
                refine wa_aload_n (n := 0) rfl ?_
                refine wb_gf4 72 rfl (wy_pr rfl) wt_72 wf_2_10 (v := 150) wl_72_10 ?_
                refine wa_iload_n (n := 1) rfl ?_
                refine wb_iald 150 rfl (wy_pr rfl) wt_150 (n := 6) ((cl_150 hC)) (by omega) (by omega) (v := u4) (eu4) (fun r562 => ?_)
                refine wa_iload_n (n := 2) rfl ?_
                refine wa_iadd ?_
                refine wa_gs ?_
                refine wa_iload_n (n := 1) rfl ?_
                refine wb_xald 1 rfl hx1 (by decide) (by omega) (by decide) (v := 4000) (by decide) (fun r563 => ?_)
                refine wa_icmpgt (w_rg0 (by omega) (by omega)) (w_rg0 (by omega) (by omega)) ⟨_, rfl⟩ (fun c564 => ?_) (fun c564 => ?_)
                · skip
                  refine wa_iconst ?_
                  refine wa_fall ⟨_, rfl⟩ ?_
                  refine wa_zreturn rfl (Or.inl rfl) ?_
                  show wJ _ _ _ _ _ _ _ _ _ _
                  refine wa_ifeq (w_rg0 (by omega) (by omega)) ⟨_, rfl⟩ (fun c565 => ?_) (fun c565 => ?_)
                  · skip
                    refine wa_iconst ?_
                    refine wa_fall ⟨_, rfl⟩ ?_
                    refine wa_zreturn rfl (Or.inl rfl) ?_
                    show wJ _ _ _ _ _ _ _ _ _ _
                    refine wa_ifne (w_rg0 (by omega) (by omega)) ⟨_, rfl⟩ (fun c566 => ?_) (fun c566 => ?_)
                    · skip
                      exact absurd c566 (by omega)
                    · skip
                      refine wa_aload_n (n := 0) rfl ?_
                      refine wb_gf5 158 rfl (wy_pr rfl) wt_158 wf_5_4 (v := 215) (l4) (fun r567 => ?_)
                      refine wa_bipush (w_rg2 (by omega) (by omega)) ?_
                      refine wb_pfi 215 rfl (wy_pr rfl) wt_215 wf_8_16 (n := 16) rfl ⟨(by omega), (by omega)⟩ ?_
                      refine wa_return rfl ?_
                      exact ⟨rfl, Or.inr (Or.inl ⟨by omega, by omega, rfl⟩)⟩
                  · skip
                    exact absurd c565 (by omega)
                · skip
                  refine wa_iconst ?_
                  refine wa_goto ⟨_, rfl⟩ ?_
                  refine wa_zreturn rfl (Or.inr rfl) ?_
                  show wJ _ _ _ _ _ _ _ _ _ _
                  refine wa_ifeq (w_rg0 (by omega) (by omega)) ⟨_, rfl⟩ (fun c568 => ?_) (fun c568 => ?_)
                  · skip
                    exact absurd c568 (by omega)
                  · skip
                    refine wa_fall ⟨_, rfl⟩ ?_
                    refine wa_iconst ?_
                    refine wa_goto ⟨_, rfl⟩ ?_
                    refine wa_zreturn rfl (Or.inr rfl) ?_
                    show wJ _ _ _ _ _ _ _ _ _ _
                    refine wa_ifne (w_rg0 (by omega) (by omega)) ⟨_, rfl⟩ (fun c569 => ?_) (fun c569 => ?_)
                    · skip
                      refine wa_aload_n (n := 0) rfl ?_
                      refine wb_gf4 158 rfl (wy_pr rfl) wt_158 wf_5_0 (v := 72) wl_158_0 ?_
                      refine wa_iload (n := 4) rfl ?_
                      refine wa_cv 72 rfl (wy_pr rfl) wt_72 (M2 := mS [144, 145, 146, 147, 148]) rfl at_XH_bareShape ⟨_, rfl⟩ rfl rfl ⟨(Or.inr ⟨wy_pr rfl, mS_no rfl⟩), trivial, trivial, trivial⟩ trivial (fun _ _ q => mS_sub (by decide) q) (c_bs hC hI hsw hlt hw hq hr ⟨by omega, fun z => by omega⟩) (fun oq570 Sq570 hp571 q570 => ?_)
                      rcases q570 with ⟨hbr, rfl, rfl⟩ | ⟨hbr, hb570, rfl⟩
                      · skip
                        show wJ _ _ _ _ _ _ _ _ _ _
                        refine wa_istore (n := 5) rfl ?_
                        refine wa_aload_n (n := 0) rfl ?_
                        refine wb_gf4 158 rfl (wy_pr rfl) wt_158 wf_5_0 (v := 72) wl_158_0 ?_
                        refine wa_iconst ?_
                        refine wa_iload (n := 5) rfl ?_
                        refine wa_iconst ?_
                        refine wa_iconst ?_
                        have at572a : S 141 (-1) = (S 141 (-1)) := (rfl)
                        have at572b : S 142 (-1) = S 141 (-1) := ((hl14) : S 142 (-1) = (S 141 (-1))).trans at572a.symm
                        have at572c : S 127 (-1) = (S 127 (-1)) := (rfl)
                        have at572d : ∀ x : Nat, x < 10 → S (127 + x) (-1) = S 127 (-1) := (hth)
                        refine wa_cv 72 rfl (wy_pr rfl) wt_72 (M2 := mS [127, 128, 129, 130, 131, 132, 133, 134, 135, 136, 141, 142]) rfl at_XH_addThing ⟨_, rfl⟩ rfl rfl ⟨trivial, (Or.inr ⟨wy_pr rfl, mS_no rfl⟩), trivial, trivial, trivial⟩ trivial (fun _ _ q => mS_sub (by decide) q) (atH_ok (S := S) (kd := 4) (sh := r) (fo := (-1)) (rm := 0) (cs := cs) (n := n) (u0 := u0) hC hI (h2) ⟨by omega, by omega⟩ at572b ⟨by omega, by omega⟩ at572d (hn) ⟨by omega, by omega⟩ ⟨by omega, by omega⟩ (hu0) ⟨by omega, by omega⟩ ⟨by omega, by omega⟩ ⟨by omega, by omega⟩ ⟨by omega, by omega⟩ ⟨by omega, by omega⟩) (fun oq572 Sq572 hp573 q572 => ?_)
                        rcases q572 with ⟨rfl, at572⟩
                        show wJ _ _ _ _ _ _ _ _ _ _
                        have at572e := at572.2.2.2.2.2.2.1.2
                        have at572f := at572.2.2.2.2.2.1
                        refine wa_istore (n := 6) rfl ?_
                        refine wa_aload_n (n := 0) rfl ?_
                        refine wb_gf5 158 rfl (wy_pr rfl) wt_158 wf_5_4 (v := 215) (((at572.2.2.2.2.2.2.2.1 158 4 (by decide) (by decide) (by decide) (by decide) (by decide) (Or.inl (by decide)) (Or.inl (by decide)) (Or.inl (by decide))).trans (l4))) (fun r574 => ?_)
                        refine wa_iload_n (n := 1) rfl ?_
                        refine wa_aload_n (n := 0) rfl ?_
                        refine wb_gfi 158 rfl (wy_pr rfl) wt_158 wf_5_8 (v := ba) (((at572.2.2.2.2.2.2.2.1 158 8 (by decide) (by decide) (by decide) (by decide) (by decide) (Or.inl (by decide)) (Or.inl (by decide)) (Or.inl (by decide))).trans (l8))) (fun r575 => ?_)
                        refine wa_iconst ?_
                        refine wa_iload (n := 6) rfl ?_
                        refine wa_i2l (w_rg0 (by omega) (by omega)) ?_
                        refine wa_iconst ?_
                        refine wa_cv 215 rfl (wy_pr rfl) wt_215 (M2 := mS [138, 139, 141, 142]) rfl at_XK_enter ⟨_, rfl⟩ rfl rfl ⟨trivial, trivial, (Or.inr ⟨wy_pr rfl, mS_no rfl⟩), trivial, trivial, trivial⟩ trivial (fun _ _ q => mS_sub (by decide) q) (en_215 (S := Sq572) (fn := fn) (pl := ba) (kd := 4) (bt := n) (nw := 1) (cs := (cs + 0)) (n := nc) (u0 := u0 + 1) (v0 := v0) (c := c) (p := p) (h := h) (f := f) (ar := ar) (vs := vs) (pn := pn) (CL_at hC at572) at572.2.2.2.2.2.2.2.2.1 ((by rw [at572.2.2.2.1, show _ = _ from (h2)])) ⟨by omega, by omega⟩ at572f.1 ⟨by omega, by omega⟩ (by rw [show _ = _ from (((at572.2.2.2.2.2.2.2.1 139 (-1) (by decide) (by decide) (by decide) (by decide) (by decide) (Or.inl (by decide)) (Or.inl (by decide)) (Or.inl (by decide))).trans (hcl))), show _ = _ from (((at572.2.2.2.2.2.2.2.1 138 (-1) (by decide) (by decide) (by decide) (by decide) (by decide) (Or.inl (by decide)) (Or.inl (by decide)) (Or.inl (by decide))).trans (rfl)))]) (((at572.2.2.2.2.2.2.2.1 72 5 (by decide) (by decide) (by decide) (by decide) (by decide) (Or.inr (by decide)) (Or.inl (by decide)) (Or.inl (by decide))).trans (hm))) ⟨by omega, by rw [show _ = _ from (((at572.2.2.2.2.2.2.2.1 138 (-1) (by decide) (by decide) (by decide) (by decide) (by decide) (Or.inl (by decide)) (Or.inl (by decide)) (Or.inl (by decide))).trans (rfl)))]; omega⟩ (by rw [show _ = _ from (((at572.2.2.2.2.2.2.2.1 138 (-1) (by decide) (by decide) (by decide) (by decide) (by decide) (Or.inl (by decide)) (Or.inl (by decide)) (Or.inl (by decide))).trans (rfl)))]; exact hm2) ((by rw [at572.1.2, show _ = _ from (hu0)])) ⟨by omega, by omega⟩ (((at572.2.2.2.2.2.2.2.1 150 1 (by decide) (by decide) (by decide) (by decide) (by decide) (Or.inl (by decide)) (Or.inl (by decide)) (Or.inr (by decide))).trans (hv0))) ⟨by omega, by omega⟩ ⟨at572.2.2.2.2.2.2.1.1 2 (by decide), at572.2.2.2.2.2.2.1.1 9 (by decide)⟩ ⟨by omega, by omega⟩ ((at572.2.2.1 2 (by decide) fn (by omega) (by rw [show _ = _ from (hn)]; omega)).trans hf) hf1 ((at572.2.2.1 9 (by decide) fn (by omega) (by rw [show _ = _ from (hn)]; omega)).trans har) (((at572.2.2.2.2.2.2.2.1 23 f (by decide) (by decide) (by decide) (by decide) (by decide) (Or.inl (by decide)) (Or.inl (by decide)) (Or.inl (by decide))).trans (hvs))) hvs1 (((at572.2.2.2.2.2.2.2.1 22 f (by decide) (by decide) (by decide) (by decide) (by decide) (Or.inl (by decide)) (Or.inl (by decide)) (Or.inl (by decide))).trans (hpn))) hpn1 (((at572.2.2.2.2.2.2.2.1 215 4 (by decide) (by decide) (by decide) (by decide) (by decide) (Or.inl (by decide)) (Or.inl (by decide)) (Or.inl (by decide))).trans (bc))) ⟨by omega, by omega⟩ (((at572.2.2.2.2.2.2.2.1 220 (c - 1) (by decide) (by decide) (by decide) (by decide) (by decide) (Or.inl (by decide)) (Or.inl (by decide)) (Or.inl (by decide))).trans (bp))) ⟨by omega, by omega⟩ (((at572.2.2.2.2.2.2.2.1 216 2 (by decide) (by decide) (by decide) (by decide) (by decide) (Or.inl (by decide)) (Or.inl (by decide)) (Or.inl (by decide))).trans (bh))) (by rw [show _ = _ from (((at572.2.2.2.2.2.2.2.1 217 (-1) (by decide) (by decide) (by decide) (by decide) (by decide) (Or.inl (by decide)) (Or.inl (by decide)) (Or.inl (by decide))).trans (rfl)))]; exact bh2) (by rw [show _ = _ from (((at572.2.2.2.2.2.2.2.1 218 (-1) (by decide) (by decide) (by decide) (by decide) (by decide) (Or.inl (by decide)) (Or.inl (by decide)) (Or.inl (by decide))).trans (bl1))), show _ = _ from (((at572.2.2.2.2.2.2.2.1 217 (-1) (by decide) (by decide) (by decide) (by decide) (by decide) (Or.inl (by decide)) (Or.inl (by decide)) (Or.inl (by decide))).trans (rfl)))]; exact ⟨rfl, bl3⟩) ⟨by omega, by omega⟩ (by omega) (by omega) (by decide) ⟨by omega, by omega⟩ (by decide)) (fun oq576 Sq576 hp577 q576 => ?_)
                        rcases q576 with ⟨rfl, hen⟩
                        show wJ _ _ _ _ _ _ _ _ _ _
                        refine wa_return rfl ?_
                        have ecs : Sq572 140 2 = (cs + 0) := ((by rw [at572.2.2.2.1, show _ = _ from (h2)]))
                        exact ⟨rfl, Or.inr (Or.inr (Or.inl ⟨by omega, by omega, by omega, by omega, Sq572, at572, by rw [ecs]; exact hen⟩))⟩
                      · skip
                        show wJ _ _ _ _ _ _ _ _ _ _
                        have hfA : ∀ j : Nat, (j = 129 ∨ j = 136) → j < 237 → Sq570 j fn = S j fn := fun j hj _ => hb570.2.2.2.2.1 j fn (by omega) (by omega) (by omega) (Or.inl (by omega)) (by omega) (by omega)
                        refine wa_istore (n := 5) rfl ?_
                        refine wa_aload_n (n := 0) rfl ?_
                        refine wb_gf4 158 rfl (wy_pr rfl) wt_158 wf_5_0 (v := 72) wl_158_0 ?_
                        refine wa_iconst ?_
                        refine wa_iload (n := 5) rfl ?_
                        refine wa_iconst ?_
                        refine wa_iconst ?_
                        have at578a : Sq570 141 (-1) = (S 141 (-1)) := (((hb570.2.2.2.2.1 141 (-1) (by first | decide | omega) (by first | decide | omega) (by first | decide | omega) (Or.inl (by first | decide | omega)) (Or.inl (by first | decide | omega)) (Or.inl (by first | decide | omega))).trans (rfl)))
                        have at578b : Sq570 142 (-1) = Sq570 141 (-1) := ((((hb570.2.2.2.2.1 142 (-1) (by first | decide | omega) (by first | decide | omega) (by first | decide | omega) (Or.inl (by first | decide | omega)) (Or.inl (by first | decide | omega)) (Or.inl (by first | decide | omega))).trans (hl14))) : Sq570 142 (-1) = (S 141 (-1))).trans at578a.symm
                        have at578c : Sq570 127 (-1) = (S 127 (-1)) := (((hb570.2.2.2.2.1 127 (-1) (by first | decide | omega) (by first | decide | omega) (by first | decide | omega) (Or.inl (by first | decide | omega)) (Or.inl (by first | decide | omega)) (Or.inl (by first | decide | omega))).trans (rfl)))
                        have at578d : ∀ x : Nat, x < 10 → Sq570 (127 + x) (-1) = Sq570 127 (-1) := (fun x hx => (hb570.2.2.2.2.1 (127 + x) (-1) (by omega) (by omega) (by omega) (Or.inr (by omega)) (by omega) (by omega)).trans ((hth x hx).trans (hb570.2.2.2.2.1 127 (-1) (by first | decide | omega) (by first | decide | omega) (by first | decide | omega) (Or.inl (by first | decide | omega)) (by first | decide | omega) (by first | decide | omega)).symm))
                        refine wa_cv 72 rfl (wy_pr rfl) wt_72 (M2 := mS [127, 128, 129, 130, 131, 132, 133, 134, 135, 136, 141, 142]) rfl at_XH_addThing ⟨_, rfl⟩ rfl rfl ⟨trivial, (Or.inr ⟨wy_pr rfl, mS_no rfl⟩), trivial, trivial, trivial⟩ trivial (fun _ _ q => mS_sub (by decide) q) (atH_ok (S := Sq570) (kd := 4) (sh := (H.length : Int)) (fo := (-1)) (rm := 0) (cs := cs) (n := n) (u0 := u0) (CL_bs hC hb570) hb570.2.2.2.2.2.1 (((hb570.2.2.2.2.1 140 2 (by decide) (by decide) (by decide) (Or.inl (by decide)) (Or.inl (by decide)) (Or.inl (by decide))).trans (h2))) ⟨by omega, by omega⟩ at578b ⟨by omega, by omega⟩ at578d (((hb570.2.2.2.2.1 72 3 (by decide) (by decide) (by decide) (Or.inl (by decide)) (Or.inr (by decide)) (Or.inl (by decide))).trans (hn))) ⟨by omega, by omega⟩ ⟨by omega, by omega⟩ (((hb570.2.2.2.2.1 150 0 (by decide) (by decide) (by decide) (Or.inl (by decide)) (Or.inl (by decide)) (Or.inr (by decide))).trans (hu0))) ⟨by omega, by omega⟩ ⟨by omega, by omega⟩ ⟨by omega, by omega⟩ ⟨by omega, by omega⟩ ⟨by omega, by omega⟩) (fun oq578 Sq578 hp579 q578 => ?_)
                        rcases q578 with ⟨rfl, at578⟩
                        show wJ _ _ _ _ _ _ _ _ _ _
                        have at578e := at578.2.2.2.2.2.2.1.2
                        have at578f := at578.2.2.2.2.2.1
                        refine wa_istore (n := 6) rfl ?_
                        refine wa_aload_n (n := 0) rfl ?_
                        refine wb_gf5 158 rfl (wy_pr rfl) wt_158 wf_5_4 (v := 215) (((at578.2.2.2.2.2.2.2.1 158 4 (by decide) (by decide) (by decide) (by decide) (by decide) (Or.inl (by decide)) (Or.inl (by decide)) (Or.inl (by decide))).trans (((hb570.2.2.2.2.1 158 4 (by decide) (by decide) (by decide) (Or.inl (by decide)) (Or.inl (by decide)) (Or.inl (by decide))).trans (l4))))) (fun r580 => ?_)
                        refine wa_iload_n (n := 1) rfl ?_
                        refine wa_aload_n (n := 0) rfl ?_
                        refine wb_gfi 158 rfl (wy_pr rfl) wt_158 wf_5_8 (v := ba) (((at578.2.2.2.2.2.2.2.1 158 8 (by decide) (by decide) (by decide) (by decide) (by decide) (Or.inl (by decide)) (Or.inl (by decide)) (Or.inl (by decide))).trans (((hb570.2.2.2.2.1 158 8 (by decide) (by decide) (by decide) (Or.inl (by decide)) (Or.inl (by decide)) (Or.inl (by decide))).trans (l8))))) (fun r581 => ?_)
                        refine wa_iconst ?_
                        refine wa_iload (n := 6) rfl ?_
                        refine wa_i2l (w_rg0 (by omega) (by omega)) ?_
                        refine wa_iconst ?_
                        have eg140 : Sq570 140 2 = cs := (((hb570.2.2.2.2.1 140 2 (by first | decide | omega) (by first | decide | omega) (by first | decide | omega) (Or.inl (by first | decide | omega)) (Or.inl (by first | decide | omega)) (Or.inl (by first | decide | omega))).trans (h2)))
                        refine wa_cv 215 rfl (wy_pr rfl) wt_215 (M2 := mS [138, 139, 141, 142]) rfl at_XK_enter ⟨_, rfl⟩ rfl rfl ⟨trivial, trivial, (Or.inr ⟨wy_pr rfl, mS_no rfl⟩), trivial, trivial, trivial⟩ trivial (fun _ _ q => mS_sub (by decide) q) (en_215 (S := Sq578) (fn := fn) (pl := ba) (kd := 4) (bt := n) (nw := 1) (cs := (cs + 0)) (n := nc) (u0 := u0 + 1) (v0 := v0) (c := c) (p := p) (h := h) (f := f) (ar := ar) (vs := vs) (pn := pn) (CL_at (CL_bs hC hb570) at578) at578.2.2.2.2.2.2.2.2.1 ((by rw [at578.2.2.2.1, show _ = _ from (((hb570.2.2.2.2.1 140 2 (by decide) (by decide) (by decide) (Or.inl (by decide)) (Or.inl (by decide)) (Or.inl (by decide))).trans (h2)))])) ⟨by omega, by omega⟩ at578f.1 ⟨by omega, by omega⟩ (by rw [show _ = _ from (((at578.2.2.2.2.2.2.2.1 139 (-1) (by decide) (by decide) (by decide) (by decide) (by decide) (Or.inl (by decide)) (Or.inl (by decide)) (Or.inl (by decide))).trans (((hb570.2.2.2.2.1 139 (-1) (by decide) (by decide) (by decide) (Or.inl (by decide)) (Or.inl (by decide)) (Or.inl (by decide))).trans (hcl))))), show _ = _ from (((at578.2.2.2.2.2.2.2.1 138 (-1) (by decide) (by decide) (by decide) (by decide) (by decide) (Or.inl (by decide)) (Or.inl (by decide)) (Or.inl (by decide))).trans (((hb570.2.2.2.2.1 138 (-1) (by decide) (by decide) (by decide) (Or.inl (by decide)) (Or.inl (by decide)) (Or.inl (by decide))).trans (rfl)))))]) (((at578.2.2.2.2.2.2.2.1 72 5 (by decide) (by decide) (by decide) (by decide) (by decide) (Or.inr (by decide)) (Or.inl (by decide)) (Or.inl (by decide))).trans (((hb570.2.2.2.2.1 72 5 (by decide) (by decide) (by decide) (Or.inl (by decide)) (Or.inr (by decide)) (Or.inl (by decide))).trans (hm))))) ⟨by omega, by rw [show _ = _ from (((at578.2.2.2.2.2.2.2.1 138 (-1) (by decide) (by decide) (by decide) (by decide) (by decide) (Or.inl (by decide)) (Or.inl (by decide)) (Or.inl (by decide))).trans (((hb570.2.2.2.2.1 138 (-1) (by decide) (by decide) (by decide) (Or.inl (by decide)) (Or.inl (by decide)) (Or.inl (by decide))).trans (rfl)))))]; omega⟩ (by rw [show _ = _ from (((at578.2.2.2.2.2.2.2.1 138 (-1) (by decide) (by decide) (by decide) (by decide) (by decide) (Or.inl (by decide)) (Or.inl (by decide)) (Or.inl (by decide))).trans (((hb570.2.2.2.2.1 138 (-1) (by decide) (by decide) (by decide) (Or.inl (by decide)) (Or.inl (by decide)) (Or.inl (by decide))).trans (rfl)))))]; exact hm2) ((by rw [at578.1.2, show _ = _ from (((hb570.2.2.2.2.1 150 0 (by decide) (by decide) (by decide) (Or.inl (by decide)) (Or.inl (by decide)) (Or.inr (by decide))).trans (hu0)))])) ⟨by omega, by omega⟩ (((at578.2.2.2.2.2.2.2.1 150 1 (by decide) (by decide) (by decide) (by decide) (by decide) (Or.inl (by decide)) (Or.inl (by decide)) (Or.inr (by decide))).trans (((hb570.2.2.2.2.1 150 1 (by decide) (by decide) (by decide) (Or.inl (by decide)) (Or.inl (by decide)) (Or.inr (by decide))).trans (hv0))))) ⟨by omega, by omega⟩ ⟨at578.2.2.2.2.2.2.1.1 2 (by decide), at578.2.2.2.2.2.2.1.1 9 (by decide)⟩ ⟨by omega, by omega⟩ ((at578.2.2.1 2 (by decide) fn (by omega) (by rw [show _ = _ from (((hb570.2.2.2.2.1 72 3 (by decide) (by decide) (by decide) (Or.inl (by decide)) (Or.inr (by decide)) (Or.inl (by decide))).trans (hn)))]; omega)).trans ((hfA 129 (by decide) (by decide)).trans hf)) hf1 ((at578.2.2.1 9 (by decide) fn (by omega) (by rw [show _ = _ from (((hb570.2.2.2.2.1 72 3 (by decide) (by decide) (by decide) (Or.inl (by decide)) (Or.inr (by decide)) (Or.inl (by decide))).trans (hn)))]; omega)).trans ((hfA 136 (by decide) (by decide)).trans har)) (((at578.2.2.2.2.2.2.2.1 23 f (by decide) (by decide) (by decide) (by decide) (by decide) (Or.inl (by decide)) (Or.inl (by decide)) (Or.inl (by decide))).trans (((hb570.2.2.2.2.1 23 f (by decide) (by decide) (by decide) (Or.inl (by decide)) (Or.inl (by decide)) (Or.inl (by decide))).trans (hvs))))) hvs1 (((at578.2.2.2.2.2.2.2.1 22 f (by decide) (by decide) (by decide) (by decide) (by decide) (Or.inl (by decide)) (Or.inl (by decide)) (Or.inl (by decide))).trans (((hb570.2.2.2.2.1 22 f (by decide) (by decide) (by decide) (Or.inl (by decide)) (Or.inl (by decide)) (Or.inl (by decide))).trans (hpn))))) hpn1 (((at578.2.2.2.2.2.2.2.1 215 4 (by decide) (by decide) (by decide) (by decide) (by decide) (Or.inl (by decide)) (Or.inl (by decide)) (Or.inl (by decide))).trans (((hb570.2.2.2.2.1 215 4 (by decide) (by decide) (by decide) (Or.inl (by decide)) (Or.inl (by decide)) (Or.inl (by decide))).trans (bc))))) ⟨by omega, by omega⟩ (((at578.2.2.2.2.2.2.2.1 220 (c - 1) (by decide) (by decide) (by decide) (by decide) (by decide) (Or.inl (by decide)) (Or.inl (by decide)) (Or.inl (by decide))).trans (((hb570.2.2.2.2.1 220 (c - 1) (by decide) (by decide) (by decide) (Or.inl (by decide)) (Or.inl (by decide)) (Or.inl (by decide))).trans (bp))))) ⟨by omega, by omega⟩ (((at578.2.2.2.2.2.2.2.1 216 2 (by decide) (by decide) (by decide) (by decide) (by decide) (Or.inl (by decide)) (Or.inl (by decide)) (Or.inl (by decide))).trans (((hb570.2.2.2.2.1 216 2 (by decide) (by decide) (by decide) (Or.inl (by decide)) (Or.inl (by decide)) (Or.inl (by decide))).trans (bh))))) (by rw [show _ = _ from (((at578.2.2.2.2.2.2.2.1 217 (-1) (by decide) (by decide) (by decide) (by decide) (by decide) (Or.inl (by decide)) (Or.inl (by decide)) (Or.inl (by decide))).trans (((hb570.2.2.2.2.1 217 (-1) (by decide) (by decide) (by decide) (Or.inl (by decide)) (Or.inl (by decide)) (Or.inl (by decide))).trans (rfl)))))]; exact bh2) (by rw [show _ = _ from (((at578.2.2.2.2.2.2.2.1 218 (-1) (by decide) (by decide) (by decide) (by decide) (by decide) (Or.inl (by decide)) (Or.inl (by decide)) (Or.inl (by decide))).trans (((hb570.2.2.2.2.1 218 (-1) (by decide) (by decide) (by decide) (Or.inl (by decide)) (Or.inl (by decide)) (Or.inl (by decide))).trans (bl1))))), show _ = _ from (((at578.2.2.2.2.2.2.2.1 217 (-1) (by decide) (by decide) (by decide) (by decide) (by decide) (Or.inl (by decide)) (Or.inl (by decide)) (Or.inl (by decide))).trans (((hb570.2.2.2.2.1 217 (-1) (by decide) (by decide) (by decide) (Or.inl (by decide)) (Or.inl (by decide)) (Or.inl (by decide))).trans (rfl)))))]; exact ⟨rfl, bl3⟩) ⟨by omega, by omega⟩ (by omega) (by omega) (by decide) ⟨by omega, by omega⟩ (by decide)) (fun oq582 Sq582 hp583 q582 => ?_)
                        rcases q582 with ⟨rfl, hen⟩
                        show wJ _ _ _ _ _ _ _ _ _ _
                        refine wa_return rfl ?_
                        have ecs : Sq578 140 2 = (cs + 0) := ((by rw [at578.2.2.2.1, show _ = _ from (((hb570.2.2.2.2.1 140 2 (by first | decide | omega) (by first | decide | omega) (by first | decide | omega) (Or.inl (by first | decide | omega)) (Or.inl (by first | decide | omega)) (Or.inl (by first | decide | omega))).trans (h2)))]))
                        exact ⟨rfl, Or.inr (Or.inr (Or.inr ⟨by omega, by omega, by omega, by omega, by omega, Sq570, Sq578, hb570, at578, by rw [ecs]; exact hen⟩))⟩
                    · skip
                      exact absurd c569 (by omega)
    · skip
      exact absurd c504 (by omega)
  · skip
    show wJ _ _ _ _ _ _ _ _ _ _
    refine wa_ifne (w_rg0 (by omega) (by omega)) ⟨_, rfl⟩ (fun c584 => ?_) (fun c584 => ?_)
    · skip
      exact absurd c584 (by omega)
    · skip
      refine wa_return rfl ?_
      exact ⟨rfl, Or.inl ⟨by omega, rfl⟩⟩
  · skip
    show wJ _ _ _ _ _ _ _ _ _ _
    refine wa_ifne (w_rg0 (by omega) (by omega)) ⟨_, rfl⟩ (fun c585 => ?_) (fun c585 => ?_)
    · skip
      exact absurd c585 (by omega)
    · skip
      refine wa_return rfl ?_
      exact ⟨rfl, Or.inr (Or.inl ⟨by omega, by omega, rfl⟩)⟩
set_option maxHeartbeats 4000000 in
theorem mn5n_226 {c p h ba cs n u0 nc v0 fn f ar vs pn : Int} (hP : xP 226 c p h S) (l4 : S 158 4 = 226) (l8 : S 158 8 = ba) (hba : 0 ≤ ba ∧ ba < h) (hx1 : pe_at (pe_GA xs).xs 1 = some (1, tx_1)) (h2 : S 140 2 = cs) (hcs : 0 ≤ cs ∧ cs ≤ S 141 (-1)) (hz : 16 ≤ S 141 (-1) ∧ S 141 (-1) ≤ 480400) (hth : ∀ x : Nat, x < 10 → S (127 + x) (-1) = S 127 (-1)) (hn : S 72 3 = n) (hn1 : 0 ≤ n ∧ n ≤ S 127 (-1)) (hn2 : 64 ≤ S 127 (-1) ∧ S 127 (-1) ≤ 16383) (hu0 : S 150 0 = u0) (hu1 : 0 ≤ u0 ∧ u0 ≤ 8000) (hl14 : S 142 (-1) = S 141 (-1)) (hcl : S 139 (-1) = S 138 (-1)) (hm : S 72 5 = nc) (hm1 : 0 ≤ nc ∧ nc ≤ S 138 (-1)) (hm2 : 64 ≤ S 138 (-1) ∧ S 138 (-1) ≤ 16383) (hv0 : S 150 1 = v0) (hv1 : 0 ≤ v0 ∧ v0 ≤ 60000) (hfn : 0 ≤ fn ∧ fn < n) (hf : S 129 fn = f) (hf1 : 0 ≤ f ∧ f < 400) (har : S 136 fn = ar) (hvs : S 23 f = vs) (hvs1 : 0 ≤ vs ∧ vs ≤ 1000) (hpn : S 22 f = pn) (hpn1 : 0 ≤ pn ∧ pn ≤ 1000) (hc5 : cs ≤ 4 * v0) (hpr : S 226 16 = 0) : wJ (pe_GA xs) wY0 (mS [228, 229, 127, 128, 129, 130, 131, 132, 133, 134, 135, 136, 141, 142, 138, 139]) (d + 9) t_XL_makeNew ((pe_at t_XL_makeNew.bl 5).getD (0, [])).2 [(0, (2, 158)), (1, (0, fn)), (4, (0, -1))] [] S (fun o Z => o = .inl none ∧ ((c = 200 ∧ w_up S 226 16 11 = Z) ∨ (c < 200 ∧ (8000 < u0 + 2 ∨ 60000 < v0 + vs) ∧ w_up S 226 16 99 = Z) ∨ (c < 200 ∧ u0 + 2 ≤ 8000 ∧ v0 + vs ≤ 60000 ∧ ∃ B : wS, at_ag 4 0 (-1) 0 S B ∧ enQ_226 ar vs (if h - ba - 1 ≤ pn then h - ba - 1 else pn) ba c p f nc 4 n 1 (B 140 2) B Z))) := by
  obtain ⟨⟨hC, hI⟩, ⟨bc, bc0, bc1⟩, ⟨bp, bp0, bp1⟩, ⟨bh, bh0, bh1, bh2⟩, bl1, bl2, bl3⟩ := hP
  replace bp : S 231 (c - 1) = p := bp
  replace bh : S 227 2 = h := bh
  replace bh2 : h ≤ S 228 (-1) := bh2
  replace bl1 : S 229 (-1) = S 228 (-1) := bl1
  replace bl2 : 64 ≤ S 228 (-1) := bl2
  replace bl3 : S 228 (-1) ≤ 4095 := bl3
  refine wa_aload_n (n := 0) rfl ?_
  refine wb_gf5 158 rfl (wy_pr rfl) wt_158 wf_5_4 (v := 226) (l4) (fun r1 => ?_)
  refine wa_iload_n (n := 1) rfl ?_
  refine wa_iconst ?_
  refine wa_cv 226 rfl (wy_pr rfl) wt_226 (M2 := mS []) rfl at_XK_canEnter ⟨_, rfl⟩ rfl rfl ⟨(Or.inr ⟨wy_pr rfl, mS_no rfl⟩), trivial, trivial, trivial⟩ trivial (fun _ _ q => mS_sub (by decide) q) (ce_226 (fn := fn) (n0 := 1) hx1 hC (hth 2 (by decide)) ⟨by omega, by omega⟩ hf hf1 hvs hvs1 bc ⟨by omega, by omega⟩ hu0 hu1 hv0 hv1 (by decide) hpr) (fun oq2 Sq2 hp3 q2 => ?_)
  rcases q2 with ⟨cc1, cc2, cc3, rfl, rfl⟩ | ⟨cc1, rfl, rfl⟩ | ⟨cc1, cc2, rfl, rfl⟩
  · skip
    show wJ _ _ _ _ _ _ _ _ _ _
    refine wa_ifne (w_rg0 (by omega) (by omega)) ⟨_, rfl⟩ (fun c4 => ?_) (fun c4 => ?_)
    · skip
      refine wa_aload_n (n := 0) rfl ?_
      refine wb_gf4 158 rfl (wy_pr rfl) wt_158 wf_5_0 (v := 72) wl_158_0 ?_
      refine wa_iload (n := 4) rfl ?_
      refine wa_cv 72 rfl (wy_pr rfl) wt_72 (M2 := mS [228, 229, 127, 128, 129, 130, 131, 132, 133, 134, 135, 136, 141, 142, 138, 139]) rfl at_XH_hasObjectRoom ⟨_, rfl⟩ rfl rfl ⟨(Or.inr ⟨wy_pr rfl, mS_no rfl⟩), trivial, trivial, trivial⟩ trivial (fun _ _ q => q) ?_ (fun _ _ _ q => q)
      refine wa_iload_n (n := 1) rfl ?_
      refine wa_iconst ?_
      refine wa_icmpeq (w_rg0 (by omega) (by omega)) (w_rg0 (by omega) (by omega)) ⟨_, rfl⟩ (fun c5 => ?_) (fun c5 => ?_)
      · skip
        refine wa_iconst ?_
        refine wa_fall ⟨_, rfl⟩ ?_
        refine wa_istore_n (n := 2) rfl ?_
        refine wa_aload_n (n := 0) rfl ?_
        refine wa_iconst ?_
        refine wa_iconst ?_
        refine wa_cv 72 rfl (wy_pr rfl) wt_72 (M2 := mS [228, 229, 127, 128, 129, 130, 131, 132, 133, 134, 135, 136, 141, 142, 138, 139]) rfl at_XH_hasRoom ⟨_, rfl⟩ rfl rfl ⟨trivial, (Or.inr ⟨wy_pr rfl, mS_no rfl⟩), trivial, trivial⟩ trivial (fun _ _ q => q) ?_ (fun _ _ _ q => q)
        refine wa_aload_n (n := 0) rfl ?_
        refine wb_gf4 72 rfl (wy_pr rfl) wt_72 wf_2_10 (v := 150) wl_72_10 ?_
        refine wa_iload_n (n := 1) rfl ?_
        refine wb_iald 150 rfl (wy_pr rfl) wt_150 (n := 6) ((cl_150 hC)) (by omega) (by omega) (v := u0) (hu0) (fun r6 => ?_)
        refine wa_iload_n (n := 2) rfl ?_
        refine wa_iadd ?_
        refine wa_gs ?_
        refine wa_iload_n (n := 1) rfl ?_
        refine wb_xald 1 rfl hx1 (by decide) (by omega) (by decide) (v := 8000) (by decide) (fun r7 => ?_)
        refine wa_icmpgt (w_rg0 (by omega) (by omega)) (w_rg0 (by omega) (by omega)) ⟨_, rfl⟩ (fun c8 => ?_) (fun c8 => ?_)
        · skip
          refine wa_iconst ?_
          refine wa_fall ⟨_, rfl⟩ ?_
          refine wa_zreturn rfl (Or.inl rfl) ?_
          show wJ _ _ _ _ _ _ _ _ _ _
          refine wa_ifeq (w_rg0 (by omega) (by omega)) ⟨_, rfl⟩ (fun c9 => ?_) (fun c9 => ?_)
          · skip
            refine wa_iconst ?_
            refine wa_fall ⟨_, rfl⟩ ?_
            refine wa_zreturn rfl (Or.inl rfl) ?_
            show wJ _ _ _ _ _ _ _ _ _ _
            refine wa_ifne (w_rg0 (by omega) (by omega)) ⟨_, rfl⟩ (fun c10 => ?_) (fun c10 => ?_)
            · skip
              exact absurd c10 (by omega)
            · skip
              refine wa_aload_n (n := 0) rfl ?_
              refine wb_gf5 158 rfl (wy_pr rfl) wt_158 wf_5_4 (v := 226) (l4) (fun r11 => ?_)
              refine wa_bipush (w_rg2 (by omega) (by omega)) ?_
              refine wb_pfi 226 rfl (wy_pr rfl) wt_226 wf_8_16 (n := 16) rfl ⟨(by omega), (by omega)⟩ ?_
              refine wa_return rfl ?_
              exact ⟨rfl, Or.inr (Or.inl ⟨by omega, by omega, rfl⟩)⟩
          · skip
            exact absurd c9 (by omega)
        · skip
          refine wa_iconst ?_
          refine wa_goto ⟨_, rfl⟩ ?_
          refine wa_zreturn rfl (Or.inr rfl) ?_
          show wJ _ _ _ _ _ _ _ _ _ _
          refine wa_ifeq (w_rg0 (by omega) (by omega)) ⟨_, rfl⟩ (fun c12 => ?_) (fun c12 => ?_)
          · skip
            exact absurd c12 (by omega)
          · skip
            refine wa_iload_n (n := 2) rfl ?_
            refine wa_ifeq (w_rg0 (by omega) (by omega)) ⟨_, rfl⟩ (fun c13 => ?_) (fun c13 => ?_)
            · skip
              refine wa_iconst ?_
              refine wa_goto ⟨_, rfl⟩ ?_
              refine wa_zreturn rfl (Or.inr rfl) ?_
              show wJ _ _ _ _ _ _ _ _ _ _
              refine wa_ifne (w_rg0 (by omega) (by omega)) ⟨_, rfl⟩ (fun c14 => ?_) (fun c14 => ?_)
              · skip
                refine wa_aload_n (n := 0) rfl ?_
                refine wb_gf4 158 rfl (wy_pr rfl) wt_158 wf_5_0 (v := 72) wl_158_0 ?_
                refine wa_iload (n := 4) rfl ?_
                refine wa_cv 72 rfl (wy_pr rfl) wt_72 (M2 := mS []) rfl at_XH_bareShape ⟨_, rfl⟩ rfl rfl ⟨(Or.inr ⟨wy_pr rfl, mS_no rfl⟩), trivial, trivial, trivial⟩ trivial (fun _ _ q => mS_sub (by decide) q) (c_b0) (fun oq15 Sq15 hp16 q15 => ?_)
                rcases q15 with ⟨rfl, rfl⟩
                show wJ _ _ _ _ _ _ _ _ _ _
                refine wa_istore (n := 5) rfl ?_
                refine wa_aload_n (n := 0) rfl ?_
                refine wb_gf4 158 rfl (wy_pr rfl) wt_158 wf_5_0 (v := 72) wl_158_0 ?_
                refine wa_iconst ?_
                refine wa_iload (n := 5) rfl ?_
                refine wa_iconst ?_
                refine wa_iconst ?_
                have at17a : S 141 (-1) = (S 141 (-1)) := (rfl)
                have at17b : S 142 (-1) = S 141 (-1) := ((hl14) : S 142 (-1) = (S 141 (-1))).trans at17a.symm
                have at17c : S 127 (-1) = (S 127 (-1)) := (rfl)
                have at17d : ∀ x : Nat, x < 10 → S (127 + x) (-1) = S 127 (-1) := (hth)
                refine wa_cv 72 rfl (wy_pr rfl) wt_72 (M2 := mS [127, 128, 129, 130, 131, 132, 133, 134, 135, 136, 141, 142]) rfl at_XH_addThing ⟨_, rfl⟩ rfl rfl ⟨trivial, (Or.inr ⟨wy_pr rfl, mS_no rfl⟩), trivial, trivial, trivial⟩ trivial (fun _ _ q => mS_sub (by decide) q) (atH_ok (S := S) (kd := 4) (sh := 0) (fo := (-1)) (rm := 0) (cs := cs) (n := n) (u0 := u0) hC hI (h2) ⟨by omega, by omega⟩ at17b ⟨by omega, by omega⟩ at17d (hn) ⟨by omega, by omega⟩ ⟨by omega, by omega⟩ (hu0) ⟨by omega, by omega⟩ ⟨by omega, by omega⟩ ⟨by omega, by omega⟩ ⟨by omega, by omega⟩ ⟨by omega, by omega⟩) (fun oq17 Sq17 hp18 q17 => ?_)
                rcases q17 with ⟨rfl, at17⟩
                show wJ _ _ _ _ _ _ _ _ _ _
                have at17e := at17.2.2.2.2.2.2.1.2
                have at17f := at17.2.2.2.2.2.1
                refine wa_istore (n := 6) rfl ?_
                refine wa_aload_n (n := 0) rfl ?_
                refine wb_gf5 158 rfl (wy_pr rfl) wt_158 wf_5_4 (v := 226) (((at17.2.2.2.2.2.2.2.1 158 4 (by decide) (by decide) (by decide) (by decide) (by decide) (Or.inl (by decide)) (Or.inl (by decide)) (Or.inl (by decide))).trans (l4))) (fun r19 => ?_)
                refine wa_iload_n (n := 1) rfl ?_
                refine wa_aload_n (n := 0) rfl ?_
                refine wb_gfi 158 rfl (wy_pr rfl) wt_158 wf_5_8 (v := ba) (((at17.2.2.2.2.2.2.2.1 158 8 (by decide) (by decide) (by decide) (by decide) (by decide) (Or.inl (by decide)) (Or.inl (by decide)) (Or.inl (by decide))).trans (l8))) (fun r20 => ?_)
                refine wa_iconst ?_
                refine wa_iload (n := 6) rfl ?_
                refine wa_i2l (w_rg0 (by omega) (by omega)) ?_
                refine wa_iconst ?_
                refine wa_cv 226 rfl (wy_pr rfl) wt_226 (M2 := mS [138, 139, 141, 142]) rfl at_XK_enter ⟨_, rfl⟩ rfl rfl ⟨trivial, trivial, (Or.inr ⟨wy_pr rfl, mS_no rfl⟩), trivial, trivial, trivial⟩ trivial (fun _ _ q => mS_sub (by decide) q) (en_226 (S := Sq17) (fn := fn) (pl := ba) (kd := 4) (bt := n) (nw := 1) (cs := (cs + 0)) (n := nc) (u0 := u0 + 1) (v0 := v0) (c := c) (p := p) (h := h) (f := f) (ar := ar) (vs := vs) (pn := pn) (CL_at hC at17) at17.2.2.2.2.2.2.2.2.1 ((by rw [at17.2.2.2.1, show _ = _ from (h2)])) ⟨by omega, by omega⟩ at17f.1 ⟨by omega, by omega⟩ (by rw [show _ = _ from (((at17.2.2.2.2.2.2.2.1 139 (-1) (by decide) (by decide) (by decide) (by decide) (by decide) (Or.inl (by decide)) (Or.inl (by decide)) (Or.inl (by decide))).trans (hcl))), show _ = _ from (((at17.2.2.2.2.2.2.2.1 138 (-1) (by decide) (by decide) (by decide) (by decide) (by decide) (Or.inl (by decide)) (Or.inl (by decide)) (Or.inl (by decide))).trans (rfl)))]) (((at17.2.2.2.2.2.2.2.1 72 5 (by decide) (by decide) (by decide) (by decide) (by decide) (Or.inr (by decide)) (Or.inl (by decide)) (Or.inl (by decide))).trans (hm))) ⟨by omega, by rw [show _ = _ from (((at17.2.2.2.2.2.2.2.1 138 (-1) (by decide) (by decide) (by decide) (by decide) (by decide) (Or.inl (by decide)) (Or.inl (by decide)) (Or.inl (by decide))).trans (rfl)))]; omega⟩ (by rw [show _ = _ from (((at17.2.2.2.2.2.2.2.1 138 (-1) (by decide) (by decide) (by decide) (by decide) (by decide) (Or.inl (by decide)) (Or.inl (by decide)) (Or.inl (by decide))).trans (rfl)))]; exact hm2) ((by rw [at17.1.2, show _ = _ from (hu0)])) ⟨by omega, by omega⟩ (((at17.2.2.2.2.2.2.2.1 150 1 (by decide) (by decide) (by decide) (by decide) (by decide) (Or.inl (by decide)) (Or.inl (by decide)) (Or.inr (by decide))).trans (hv0))) ⟨by omega, by omega⟩ ⟨at17.2.2.2.2.2.2.1.1 2 (by decide), at17.2.2.2.2.2.2.1.1 9 (by decide)⟩ ⟨by omega, by omega⟩ ((at17.2.2.1 2 (by decide) fn (by omega) (by rw [show _ = _ from (hn)]; omega)).trans hf) hf1 ((at17.2.2.1 9 (by decide) fn (by omega) (by rw [show _ = _ from (hn)]; omega)).trans har) (((at17.2.2.2.2.2.2.2.1 23 f (by decide) (by decide) (by decide) (by decide) (by decide) (Or.inl (by decide)) (Or.inl (by decide)) (Or.inl (by decide))).trans (hvs))) hvs1 (((at17.2.2.2.2.2.2.2.1 22 f (by decide) (by decide) (by decide) (by decide) (by decide) (Or.inl (by decide)) (Or.inl (by decide)) (Or.inl (by decide))).trans (hpn))) hpn1 (((at17.2.2.2.2.2.2.2.1 226 4 (by decide) (by decide) (by decide) (by decide) (by decide) (Or.inl (by decide)) (Or.inl (by decide)) (Or.inl (by decide))).trans (bc))) ⟨by omega, by omega⟩ (((at17.2.2.2.2.2.2.2.1 231 (c - 1) (by decide) (by decide) (by decide) (by decide) (by decide) (Or.inl (by decide)) (Or.inl (by decide)) (Or.inl (by decide))).trans (bp))) ⟨by omega, by omega⟩ (((at17.2.2.2.2.2.2.2.1 227 2 (by decide) (by decide) (by decide) (by decide) (by decide) (Or.inl (by decide)) (Or.inl (by decide)) (Or.inl (by decide))).trans (bh))) (by rw [show _ = _ from (((at17.2.2.2.2.2.2.2.1 228 (-1) (by decide) (by decide) (by decide) (by decide) (by decide) (Or.inl (by decide)) (Or.inl (by decide)) (Or.inl (by decide))).trans (rfl)))]; exact bh2) (by rw [show _ = _ from (((at17.2.2.2.2.2.2.2.1 229 (-1) (by decide) (by decide) (by decide) (by decide) (by decide) (Or.inl (by decide)) (Or.inl (by decide)) (Or.inl (by decide))).trans (bl1))), show _ = _ from (((at17.2.2.2.2.2.2.2.1 228 (-1) (by decide) (by decide) (by decide) (by decide) (by decide) (Or.inl (by decide)) (Or.inl (by decide)) (Or.inl (by decide))).trans (rfl)))]; exact ⟨rfl, bl3⟩) ⟨by omega, by omega⟩ (by omega) (by omega) (by decide) ⟨by omega, by omega⟩ (by decide)) (fun oq21 Sq21 hp22 q21 => ?_)
                rcases q21 with ⟨rfl, hen⟩
                show wJ _ _ _ _ _ _ _ _ _ _
                refine wa_return rfl ?_
                have ecs : Sq17 140 2 = (cs + 0) := ((by rw [at17.2.2.2.1, show _ = _ from (h2)]))
                exact ⟨rfl, Or.inr (Or.inr ⟨by omega, by omega, by omega, Sq17, at17, by rw [ecs]; exact hen⟩)⟩
              · skip
                exact absurd c14 (by omega)
            · skip
              exact absurd c13 (by omega)
      · skip
        exact absurd c5 (by omega)
    · skip
      exact absurd c4 (by omega)
  · skip
    show wJ _ _ _ _ _ _ _ _ _ _
    refine wa_ifne (w_rg0 (by omega) (by omega)) ⟨_, rfl⟩ (fun c23 => ?_) (fun c23 => ?_)
    · skip
      exact absurd c23 (by omega)
    · skip
      refine wa_return rfl ?_
      exact ⟨rfl, Or.inl ⟨by omega, rfl⟩⟩
  · skip
    show wJ _ _ _ _ _ _ _ _ _ _
    refine wa_ifne (w_rg0 (by omega) (by omega)) ⟨_, rfl⟩ (fun c24 => ?_) (fun c24 => ?_)
    · skip
      exact absurd c24 (by omega)
    · skip
      refine wa_return rfl ?_
      exact ⟨rfl, Or.inr (Or.inl ⟨by omega, by omega, rfl⟩)⟩
set_option maxHeartbeats 4000000 in
theorem mn5o_226 {c p h ba cs n u0 nc v0 fn f ar vs pn q r : Int} (hP : xP 226 c p h S) (l4 : S 158 4 = 226) (l8 : S 158 8 = ba) (hba : 0 ≤ ba ∧ ba < h) (hx1 : pe_at (pe_GA xs).xs 1 = some (1, tx_1)) (h2 : S 140 2 = cs) (hcs : 0 ≤ cs ∧ cs ≤ S 141 (-1)) (hz : 16 ≤ S 141 (-1) ∧ S 141 (-1) ≤ 480400) (hth : ∀ x : Nat, x < 10 → S (127 + x) (-1) = S 127 (-1)) (hn : S 72 3 = n) (hn1 : 0 ≤ n ∧ n ≤ S 127 (-1)) (hn2 : 64 ≤ S 127 (-1) ∧ S 127 (-1) ≤ 16383) (hu0 : S 150 0 = u0) (hu1 : 0 ≤ u0 ∧ u0 ≤ 8000) (hl14 : S 142 (-1) = S 141 (-1)) (hcl : S 139 (-1) = S 138 (-1)) (hm : S 72 5 = nc) (hm1 : 0 ≤ nc ∧ nc ≤ S 138 (-1)) (hm2 : 64 ≤ S 138 (-1) ∧ S 138 (-1) ≤ 16383) (hv0 : S 150 1 = v0) (hv1 : 0 ≤ v0 ∧ v0 ≤ 60000) (hfn : 0 ≤ fn ∧ fn < n) (hf : S 129 fn = f) (hf1 : 0 ≤ f ∧ f < 400) (har : S 136 fn = ar) (hvs : S 23 f = vs) (hvs1 : 0 ≤ vs ∧ vs ≤ 1000) (hpn : S 22 f = pn) (hpn1 : 0 ≤ pn ∧ pn ≤ 1000) (hc5 : cs ≤ 4 * v0) (hpr : S 226 16 = 0) (hsw : cSw S T H) (hlt : cLt S T) (hw : wSh T H) (hq : isO T q) (hr : r = aFs (-1) q (-1) H 0) (hu4 : 0 ≤ S 150 4 ∧ S 150 4 ≤ 4000) (hT : n = (T.length : Int)) : wJ (pe_GA xs) wY0 (mS [228, 229, 127, 128, 129, 130, 131, 132, 133, 134, 135, 136, 141, 142, 138, 139, 144, 145, 146, 147, 148]) (d + 9) t_XL_makeNew ((pe_at t_XL_makeNew.bl 5).getD (0, [])).2 [(0, (2, 158)), (1, (0, fn)), (4, (0, q))] [] S (fun o Z => o = .inl none ∧ ((c = 200 ∧ w_up S 226 16 11 = Z) ∨ (c < 200 ∧ (8000 < u0 + 2 ∨ 60000 < v0 + vs ∨ (r = -1 ∧ 4000 ≤ S 150 4)) ∧ w_up S 226 16 99 = Z) ∨ (c < 200 ∧ u0 + 2 ≤ 8000 ∧ v0 + vs ≤ 60000 ∧ 0 ≤ r ∧ ∃ B : wS, at_ag 4 r (-1) 0 S B ∧ enQ_226 ar vs (if h - ba - 1 ≤ pn then h - ba - 1 else pn) ba c p f nc 4 n 1 (B 140 2) B Z) ∨ (c < 200 ∧ u0 + 2 ≤ 8000 ∧ v0 + vs ≤ 60000 ∧ r = -1 ∧ S 150 4 < 4000 ∧ ∃ A B : wS, bs_ag (H.length : Int) q S A ∧ at_ag 4 (H.length : Int) (-1) 0 A B ∧ enQ_226 ar vs (if h - ba - 1 ≤ pn then h - ba - 1 else pn) ba c p f nc 4 n 1 (B 140 2) B Z))) := by
  obtain ⟨⟨hC, hI⟩, ⟨bc, bc0, bc1⟩, ⟨bp, bp0, bp1⟩, ⟨bh, bh0, bh1, bh2⟩, bl1, bl2, bl3⟩ := hP
  replace bp : S 231 (c - 1) = p := bp
  replace bh : S 227 2 = h := bh
  replace bh2 : h ≤ S 228 (-1) := bh2
  replace bl1 : S 229 (-1) = S 228 (-1) := bl1
  replace bl2 : 64 ≤ S 228 (-1) := bl2
  replace bl3 : S 228 (-1) ≤ 4095 := bl3
  have hg : wG = 1000000 := rfl
  obtain ⟨h1, ⟨l1, l2, l3, l4b⟩, -, hb⟩ := id hsw
  have h8 := h1.1
  have hH := hw.1.2.1
  obtain ⟨⟨hp0, hp1⟩, -⟩ := id hq
  have ht2 := hlt.2.1
  have e132 := hb q hp0 hp1
  rw [← hr] at e132
  have hrr := aFs_rg (be := -1) (pr := q) (nm := -1) (H := H)
  rw [← hr] at hrr
  obtain ⟨u4, eu4⟩ : ∃ u4 : Int, S 150 4 = u4 := ⟨_, rfl⟩
  rw [eu4] at hu4 ⊢
  refine wa_aload_n (n := 0) rfl ?_
  refine wb_gf5 158 rfl (wy_pr rfl) wt_158 wf_5_4 (v := 226) (l4) (fun r501 => ?_)
  refine wa_iload_n (n := 1) rfl ?_
  refine wa_iconst ?_
  refine wa_cv 226 rfl (wy_pr rfl) wt_226 (M2 := mS []) rfl at_XK_canEnter ⟨_, rfl⟩ rfl rfl ⟨(Or.inr ⟨wy_pr rfl, mS_no rfl⟩), trivial, trivial, trivial⟩ trivial (fun _ _ q => mS_sub (by decide) q) (ce_226 (fn := fn) (n0 := 1) hx1 hC (hth 2 (by decide)) ⟨by omega, by omega⟩ hf hf1 hvs hvs1 bc ⟨by omega, by omega⟩ hu0 hu1 hv0 hv1 (by decide) hpr) (fun oq502 Sq502 hp503 q502 => ?_)
  rcases q502 with ⟨cc1, cc2, cc3, rfl, rfl⟩ | ⟨cc1, rfl, rfl⟩ | ⟨cc1, cc2, rfl, rfl⟩
  · skip
    show wJ _ _ _ _ _ _ _ _ _ _
    refine wa_ifne (w_rg0 (by omega) (by omega)) ⟨_, rfl⟩ (fun c504 => ?_) (fun c504 => ?_)
    · skip
      refine wa_aload_n (n := 0) rfl ?_
      refine wb_gf4 158 rfl (wy_pr rfl) wt_158 wf_5_0 (v := 72) wl_158_0 ?_
      refine wa_iload (n := 4) rfl ?_
      refine wa_cv 72 rfl (wy_pr rfl) wt_72 (M2 := mS [228, 229, 127, 128, 129, 130, 131, 132, 133, 134, 135, 136, 141, 142, 138, 139, 144, 145, 146, 147, 148]) rfl at_XH_hasObjectRoom ⟨_, rfl⟩ rfl rfl ⟨(Or.inr ⟨wy_pr rfl, mS_no rfl⟩), trivial, trivial, trivial⟩ trivial (fun _ _ q => q) ?_ (fun _ _ _ q => q)
      refine wa_iload_n (n := 1) rfl ?_
      refine wa_iconst ?_
      refine wa_icmpeq (w_rg0 (by omega) (by omega)) (w_rg0 (by omega) (by omega)) ⟨_, rfl⟩ (fun c505 => ?_) (fun c505 => ?_)
      · skip
        refine wa_iconst ?_
        refine wa_fall ⟨_, rfl⟩ ?_
        refine wa_istore_n (n := 2) rfl ?_
        refine wa_aload_n (n := 0) rfl ?_
        refine wa_iconst ?_
        refine wa_iconst ?_
        refine wa_cv 72 rfl (wy_pr rfl) wt_72 (M2 := mS [228, 229, 127, 128, 129, 130, 131, 132, 133, 134, 135, 136, 141, 142, 138, 139, 144, 145, 146, 147, 148]) rfl at_XH_hasRoom ⟨_, rfl⟩ rfl rfl ⟨trivial, (Or.inr ⟨wy_pr rfl, mS_no rfl⟩), trivial, trivial⟩ trivial (fun _ _ q => q) ?_ (fun _ _ _ q => q)
        refine wa_aload_n (n := 0) rfl ?_
        refine wb_gf4 72 rfl (wy_pr rfl) wt_72 wf_2_10 (v := 150) wl_72_10 ?_
        refine wa_iload_n (n := 1) rfl ?_
        refine wb_iald 150 rfl (wy_pr rfl) wt_150 (n := 6) ((cl_150 hC)) (by omega) (by omega) (v := u0) (hu0) (fun r506 => ?_)
        refine wa_iload_n (n := 2) rfl ?_
        refine wa_iadd ?_
        refine wa_gs ?_
        refine wa_iload_n (n := 1) rfl ?_
        refine wb_xald 1 rfl hx1 (by decide) (by omega) (by decide) (v := 8000) (by decide) (fun r507 => ?_)
        refine wa_icmpgt (w_rg0 (by omega) (by omega)) (w_rg0 (by omega) (by omega)) ⟨_, rfl⟩ (fun c508 => ?_) (fun c508 => ?_)
        · skip
          refine wa_iconst ?_
          refine wa_fall ⟨_, rfl⟩ ?_
          refine wa_zreturn rfl (Or.inl rfl) ?_
          show wJ _ _ _ _ _ _ _ _ _ _
          refine wa_ifeq (w_rg0 (by omega) (by omega)) ⟨_, rfl⟩ (fun c509 => ?_) (fun c509 => ?_)
          · skip
            refine wa_iconst ?_
            refine wa_fall ⟨_, rfl⟩ ?_
            refine wa_zreturn rfl (Or.inl rfl) ?_
            show wJ _ _ _ _ _ _ _ _ _ _
            refine wa_ifne (w_rg0 (by omega) (by omega)) ⟨_, rfl⟩ (fun c510 => ?_) (fun c510 => ?_)
            · skip
              exact absurd c510 (by omega)
            · skip
              refine wa_aload_n (n := 0) rfl ?_
              refine wb_gf5 158 rfl (wy_pr rfl) wt_158 wf_5_4 (v := 226) (l4) (fun r511 => ?_)
              refine wa_bipush (w_rg2 (by omega) (by omega)) ?_
              refine wb_pfi 226 rfl (wy_pr rfl) wt_226 wf_8_16 (n := 16) rfl ⟨(by omega), (by omega)⟩ ?_
              refine wa_return rfl ?_
              exact ⟨rfl, Or.inr (Or.inl ⟨by omega, by omega, rfl⟩)⟩
          · skip
            exact absurd c509 (by omega)
        · skip
          refine wa_iconst ?_
          refine wa_goto ⟨_, rfl⟩ ?_
          refine wa_zreturn rfl (Or.inr rfl) ?_
          show wJ _ _ _ _ _ _ _ _ _ _
          refine wa_ifeq (w_rg0 (by omega) (by omega)) ⟨_, rfl⟩ (fun c512 => ?_) (fun c512 => ?_)
          · skip
            exact absurd c512 (by omega)
          · skip
            refine wa_iload_n (n := 2) rfl ?_
            refine wa_ifeq (w_rg0 (by omega) (by omega)) ⟨_, rfl⟩ (fun c513 => ?_) (fun c513 => ?_)
            · skip
              refine wa_iconst ?_
              refine wa_goto ⟨_, rfl⟩ ?_
              refine wa_zreturn rfl (Or.inr rfl) ?_
              show wJ _ _ _ _ _ _ _ _ _ _
              refine wa_ifne (w_rg0 (by omega) (by omega)) ⟨_, rfl⟩ (fun c514 => ?_) (fun c514 => ?_)
              · skip
                refine wa_aload_n (n := 0) rfl ?_
                refine wb_gf4 158 rfl (wy_pr rfl) wt_158 wf_5_0 (v := 72) wl_158_0 ?_
                refine wa_iload (n := 4) rfl ?_
                refine wa_cv 72 rfl (wy_pr rfl) wt_72 (M2 := mS [144, 145, 146, 147, 148]) rfl at_XH_bareShape ⟨_, rfl⟩ rfl rfl ⟨(Or.inr ⟨wy_pr rfl, mS_no rfl⟩), trivial, trivial, trivial⟩ trivial (fun _ _ q => mS_sub (by decide) q) (c_bs hC hI hsw hlt hw hq hr ⟨by omega, fun z => by omega⟩) (fun oq515 Sq515 hp516 q515 => ?_)
                rcases q515 with ⟨hbr, rfl, rfl⟩ | ⟨hbr, hb515, rfl⟩
                · skip
                  show wJ _ _ _ _ _ _ _ _ _ _
                  refine wa_istore (n := 5) rfl ?_
                  refine wa_aload_n (n := 0) rfl ?_
                  refine wb_gf4 158 rfl (wy_pr rfl) wt_158 wf_5_0 (v := 72) wl_158_0 ?_
                  refine wa_iconst ?_
                  refine wa_iload (n := 5) rfl ?_
                  refine wa_iconst ?_
                  refine wa_iconst ?_
                  have at517a : S 141 (-1) = (S 141 (-1)) := (rfl)
                  have at517b : S 142 (-1) = S 141 (-1) := ((hl14) : S 142 (-1) = (S 141 (-1))).trans at517a.symm
                  have at517c : S 127 (-1) = (S 127 (-1)) := (rfl)
                  have at517d : ∀ x : Nat, x < 10 → S (127 + x) (-1) = S 127 (-1) := (hth)
                  refine wa_cv 72 rfl (wy_pr rfl) wt_72 (M2 := mS [127, 128, 129, 130, 131, 132, 133, 134, 135, 136, 141, 142]) rfl at_XH_addThing ⟨_, rfl⟩ rfl rfl ⟨trivial, (Or.inr ⟨wy_pr rfl, mS_no rfl⟩), trivial, trivial, trivial⟩ trivial (fun _ _ q => mS_sub (by decide) q) (atH_ok (S := S) (kd := 4) (sh := r) (fo := (-1)) (rm := 0) (cs := cs) (n := n) (u0 := u0) hC hI (h2) ⟨by omega, by omega⟩ at517b ⟨by omega, by omega⟩ at517d (hn) ⟨by omega, by omega⟩ ⟨by omega, by omega⟩ (hu0) ⟨by omega, by omega⟩ ⟨by omega, by omega⟩ ⟨by omega, by omega⟩ ⟨by omega, by omega⟩ ⟨by omega, by omega⟩) (fun oq517 Sq517 hp518 q517 => ?_)
                  rcases q517 with ⟨rfl, at517⟩
                  show wJ _ _ _ _ _ _ _ _ _ _
                  have at517e := at517.2.2.2.2.2.2.1.2
                  have at517f := at517.2.2.2.2.2.1
                  refine wa_istore (n := 6) rfl ?_
                  refine wa_aload_n (n := 0) rfl ?_
                  refine wb_gf5 158 rfl (wy_pr rfl) wt_158 wf_5_4 (v := 226) (((at517.2.2.2.2.2.2.2.1 158 4 (by decide) (by decide) (by decide) (by decide) (by decide) (Or.inl (by decide)) (Or.inl (by decide)) (Or.inl (by decide))).trans (l4))) (fun r519 => ?_)
                  refine wa_iload_n (n := 1) rfl ?_
                  refine wa_aload_n (n := 0) rfl ?_
                  refine wb_gfi 158 rfl (wy_pr rfl) wt_158 wf_5_8 (v := ba) (((at517.2.2.2.2.2.2.2.1 158 8 (by decide) (by decide) (by decide) (by decide) (by decide) (Or.inl (by decide)) (Or.inl (by decide)) (Or.inl (by decide))).trans (l8))) (fun r520 => ?_)
                  refine wa_iconst ?_
                  refine wa_iload (n := 6) rfl ?_
                  refine wa_i2l (w_rg0 (by omega) (by omega)) ?_
                  refine wa_iconst ?_
                  refine wa_cv 226 rfl (wy_pr rfl) wt_226 (M2 := mS [138, 139, 141, 142]) rfl at_XK_enter ⟨_, rfl⟩ rfl rfl ⟨trivial, trivial, (Or.inr ⟨wy_pr rfl, mS_no rfl⟩), trivial, trivial, trivial⟩ trivial (fun _ _ q => mS_sub (by decide) q) (en_226 (S := Sq517) (fn := fn) (pl := ba) (kd := 4) (bt := n) (nw := 1) (cs := (cs + 0)) (n := nc) (u0 := u0 + 1) (v0 := v0) (c := c) (p := p) (h := h) (f := f) (ar := ar) (vs := vs) (pn := pn) (CL_at hC at517) at517.2.2.2.2.2.2.2.2.1 ((by rw [at517.2.2.2.1, show _ = _ from (h2)])) ⟨by omega, by omega⟩ at517f.1 ⟨by omega, by omega⟩ (by rw [show _ = _ from (((at517.2.2.2.2.2.2.2.1 139 (-1) (by decide) (by decide) (by decide) (by decide) (by decide) (Or.inl (by decide)) (Or.inl (by decide)) (Or.inl (by decide))).trans (hcl))), show _ = _ from (((at517.2.2.2.2.2.2.2.1 138 (-1) (by decide) (by decide) (by decide) (by decide) (by decide) (Or.inl (by decide)) (Or.inl (by decide)) (Or.inl (by decide))).trans (rfl)))]) (((at517.2.2.2.2.2.2.2.1 72 5 (by decide) (by decide) (by decide) (by decide) (by decide) (Or.inr (by decide)) (Or.inl (by decide)) (Or.inl (by decide))).trans (hm))) ⟨by omega, by rw [show _ = _ from (((at517.2.2.2.2.2.2.2.1 138 (-1) (by decide) (by decide) (by decide) (by decide) (by decide) (Or.inl (by decide)) (Or.inl (by decide)) (Or.inl (by decide))).trans (rfl)))]; omega⟩ (by rw [show _ = _ from (((at517.2.2.2.2.2.2.2.1 138 (-1) (by decide) (by decide) (by decide) (by decide) (by decide) (Or.inl (by decide)) (Or.inl (by decide)) (Or.inl (by decide))).trans (rfl)))]; exact hm2) ((by rw [at517.1.2, show _ = _ from (hu0)])) ⟨by omega, by omega⟩ (((at517.2.2.2.2.2.2.2.1 150 1 (by decide) (by decide) (by decide) (by decide) (by decide) (Or.inl (by decide)) (Or.inl (by decide)) (Or.inr (by decide))).trans (hv0))) ⟨by omega, by omega⟩ ⟨at517.2.2.2.2.2.2.1.1 2 (by decide), at517.2.2.2.2.2.2.1.1 9 (by decide)⟩ ⟨by omega, by omega⟩ ((at517.2.2.1 2 (by decide) fn (by omega) (by rw [show _ = _ from (hn)]; omega)).trans hf) hf1 ((at517.2.2.1 9 (by decide) fn (by omega) (by rw [show _ = _ from (hn)]; omega)).trans har) (((at517.2.2.2.2.2.2.2.1 23 f (by decide) (by decide) (by decide) (by decide) (by decide) (Or.inl (by decide)) (Or.inl (by decide)) (Or.inl (by decide))).trans (hvs))) hvs1 (((at517.2.2.2.2.2.2.2.1 22 f (by decide) (by decide) (by decide) (by decide) (by decide) (Or.inl (by decide)) (Or.inl (by decide)) (Or.inl (by decide))).trans (hpn))) hpn1 (((at517.2.2.2.2.2.2.2.1 226 4 (by decide) (by decide) (by decide) (by decide) (by decide) (Or.inl (by decide)) (Or.inl (by decide)) (Or.inl (by decide))).trans (bc))) ⟨by omega, by omega⟩ (((at517.2.2.2.2.2.2.2.1 231 (c - 1) (by decide) (by decide) (by decide) (by decide) (by decide) (Or.inl (by decide)) (Or.inl (by decide)) (Or.inl (by decide))).trans (bp))) ⟨by omega, by omega⟩ (((at517.2.2.2.2.2.2.2.1 227 2 (by decide) (by decide) (by decide) (by decide) (by decide) (Or.inl (by decide)) (Or.inl (by decide)) (Or.inl (by decide))).trans (bh))) (by rw [show _ = _ from (((at517.2.2.2.2.2.2.2.1 228 (-1) (by decide) (by decide) (by decide) (by decide) (by decide) (Or.inl (by decide)) (Or.inl (by decide)) (Or.inl (by decide))).trans (rfl)))]; exact bh2) (by rw [show _ = _ from (((at517.2.2.2.2.2.2.2.1 229 (-1) (by decide) (by decide) (by decide) (by decide) (by decide) (Or.inl (by decide)) (Or.inl (by decide)) (Or.inl (by decide))).trans (bl1))), show _ = _ from (((at517.2.2.2.2.2.2.2.1 228 (-1) (by decide) (by decide) (by decide) (by decide) (by decide) (Or.inl (by decide)) (Or.inl (by decide)) (Or.inl (by decide))).trans (rfl)))]; exact ⟨rfl, bl3⟩) ⟨by omega, by omega⟩ (by omega) (by omega) (by decide) ⟨by omega, by omega⟩ (by decide)) (fun oq521 Sq521 hp522 q521 => ?_)
                  rcases q521 with ⟨rfl, hen⟩
                  show wJ _ _ _ _ _ _ _ _ _ _
                  refine wa_return rfl ?_
                  have ecs : Sq517 140 2 = (cs + 0) := ((by rw [at517.2.2.2.1, show _ = _ from (h2)]))
                  exact ⟨rfl, Or.inr (Or.inr (Or.inl ⟨by omega, by omega, by omega, by omega, Sq517, at517, by rw [ecs]; exact hen⟩))⟩
                · skip
                  show wJ _ _ _ _ _ _ _ _ _ _
                  have hfA : ∀ j : Nat, (j = 129 ∨ j = 136) → j < 237 → Sq515 j fn = S j fn := fun j hj _ => hb515.2.2.2.2.1 j fn (by omega) (by omega) (by omega) (Or.inl (by omega)) (by omega) (by omega)
                  refine wa_istore (n := 5) rfl ?_
                  refine wa_aload_n (n := 0) rfl ?_
                  refine wb_gf4 158 rfl (wy_pr rfl) wt_158 wf_5_0 (v := 72) wl_158_0 ?_
                  refine wa_iconst ?_
                  refine wa_iload (n := 5) rfl ?_
                  refine wa_iconst ?_
                  refine wa_iconst ?_
                  have at523a : Sq515 141 (-1) = (S 141 (-1)) := (((hb515.2.2.2.2.1 141 (-1) (by first | decide | omega) (by first | decide | omega) (by first | decide | omega) (Or.inl (by first | decide | omega)) (Or.inl (by first | decide | omega)) (Or.inl (by first | decide | omega))).trans (rfl)))
                  have at523b : Sq515 142 (-1) = Sq515 141 (-1) := ((((hb515.2.2.2.2.1 142 (-1) (by first | decide | omega) (by first | decide | omega) (by first | decide | omega) (Or.inl (by first | decide | omega)) (Or.inl (by first | decide | omega)) (Or.inl (by first | decide | omega))).trans (hl14))) : Sq515 142 (-1) = (S 141 (-1))).trans at523a.symm
                  have at523c : Sq515 127 (-1) = (S 127 (-1)) := (((hb515.2.2.2.2.1 127 (-1) (by first | decide | omega) (by first | decide | omega) (by first | decide | omega) (Or.inl (by first | decide | omega)) (Or.inl (by first | decide | omega)) (Or.inl (by first | decide | omega))).trans (rfl)))
                  have at523d : ∀ x : Nat, x < 10 → Sq515 (127 + x) (-1) = Sq515 127 (-1) := (fun x hx => (hb515.2.2.2.2.1 (127 + x) (-1) (by omega) (by omega) (by omega) (Or.inr (by omega)) (by omega) (by omega)).trans ((hth x hx).trans (hb515.2.2.2.2.1 127 (-1) (by first | decide | omega) (by first | decide | omega) (by first | decide | omega) (Or.inl (by first | decide | omega)) (by first | decide | omega) (by first | decide | omega)).symm))
                  refine wa_cv 72 rfl (wy_pr rfl) wt_72 (M2 := mS [127, 128, 129, 130, 131, 132, 133, 134, 135, 136, 141, 142]) rfl at_XH_addThing ⟨_, rfl⟩ rfl rfl ⟨trivial, (Or.inr ⟨wy_pr rfl, mS_no rfl⟩), trivial, trivial, trivial⟩ trivial (fun _ _ q => mS_sub (by decide) q) (atH_ok (S := Sq515) (kd := 4) (sh := (H.length : Int)) (fo := (-1)) (rm := 0) (cs := cs) (n := n) (u0 := u0) (CL_bs hC hb515) hb515.2.2.2.2.2.1 (((hb515.2.2.2.2.1 140 2 (by decide) (by decide) (by decide) (Or.inl (by decide)) (Or.inl (by decide)) (Or.inl (by decide))).trans (h2))) ⟨by omega, by omega⟩ at523b ⟨by omega, by omega⟩ at523d (((hb515.2.2.2.2.1 72 3 (by decide) (by decide) (by decide) (Or.inl (by decide)) (Or.inr (by decide)) (Or.inl (by decide))).trans (hn))) ⟨by omega, by omega⟩ ⟨by omega, by omega⟩ (((hb515.2.2.2.2.1 150 0 (by decide) (by decide) (by decide) (Or.inl (by decide)) (Or.inl (by decide)) (Or.inr (by decide))).trans (hu0))) ⟨by omega, by omega⟩ ⟨by omega, by omega⟩ ⟨by omega, by omega⟩ ⟨by omega, by omega⟩ ⟨by omega, by omega⟩) (fun oq523 Sq523 hp524 q523 => ?_)
                  rcases q523 with ⟨rfl, at523⟩
                  show wJ _ _ _ _ _ _ _ _ _ _
                  have at523e := at523.2.2.2.2.2.2.1.2
                  have at523f := at523.2.2.2.2.2.1
                  refine wa_istore (n := 6) rfl ?_
                  refine wa_aload_n (n := 0) rfl ?_
                  refine wb_gf5 158 rfl (wy_pr rfl) wt_158 wf_5_4 (v := 226) (((at523.2.2.2.2.2.2.2.1 158 4 (by decide) (by decide) (by decide) (by decide) (by decide) (Or.inl (by decide)) (Or.inl (by decide)) (Or.inl (by decide))).trans (((hb515.2.2.2.2.1 158 4 (by decide) (by decide) (by decide) (Or.inl (by decide)) (Or.inl (by decide)) (Or.inl (by decide))).trans (l4))))) (fun r525 => ?_)
                  refine wa_iload_n (n := 1) rfl ?_
                  refine wa_aload_n (n := 0) rfl ?_
                  refine wb_gfi 158 rfl (wy_pr rfl) wt_158 wf_5_8 (v := ba) (((at523.2.2.2.2.2.2.2.1 158 8 (by decide) (by decide) (by decide) (by decide) (by decide) (Or.inl (by decide)) (Or.inl (by decide)) (Or.inl (by decide))).trans (((hb515.2.2.2.2.1 158 8 (by decide) (by decide) (by decide) (Or.inl (by decide)) (Or.inl (by decide)) (Or.inl (by decide))).trans (l8))))) (fun r526 => ?_)
                  refine wa_iconst ?_
                  refine wa_iload (n := 6) rfl ?_
                  refine wa_i2l (w_rg0 (by omega) (by omega)) ?_
                  refine wa_iconst ?_
                  have eg140 : Sq515 140 2 = cs := (((hb515.2.2.2.2.1 140 2 (by first | decide | omega) (by first | decide | omega) (by first | decide | omega) (Or.inl (by first | decide | omega)) (Or.inl (by first | decide | omega)) (Or.inl (by first | decide | omega))).trans (h2)))
                  refine wa_cv 226 rfl (wy_pr rfl) wt_226 (M2 := mS [138, 139, 141, 142]) rfl at_XK_enter ⟨_, rfl⟩ rfl rfl ⟨trivial, trivial, (Or.inr ⟨wy_pr rfl, mS_no rfl⟩), trivial, trivial, trivial⟩ trivial (fun _ _ q => mS_sub (by decide) q) (en_226 (S := Sq523) (fn := fn) (pl := ba) (kd := 4) (bt := n) (nw := 1) (cs := (cs + 0)) (n := nc) (u0 := u0 + 1) (v0 := v0) (c := c) (p := p) (h := h) (f := f) (ar := ar) (vs := vs) (pn := pn) (CL_at (CL_bs hC hb515) at523) at523.2.2.2.2.2.2.2.2.1 ((by rw [at523.2.2.2.1, show _ = _ from (((hb515.2.2.2.2.1 140 2 (by decide) (by decide) (by decide) (Or.inl (by decide)) (Or.inl (by decide)) (Or.inl (by decide))).trans (h2)))])) ⟨by omega, by omega⟩ at523f.1 ⟨by omega, by omega⟩ (by rw [show _ = _ from (((at523.2.2.2.2.2.2.2.1 139 (-1) (by decide) (by decide) (by decide) (by decide) (by decide) (Or.inl (by decide)) (Or.inl (by decide)) (Or.inl (by decide))).trans (((hb515.2.2.2.2.1 139 (-1) (by decide) (by decide) (by decide) (Or.inl (by decide)) (Or.inl (by decide)) (Or.inl (by decide))).trans (hcl))))), show _ = _ from (((at523.2.2.2.2.2.2.2.1 138 (-1) (by decide) (by decide) (by decide) (by decide) (by decide) (Or.inl (by decide)) (Or.inl (by decide)) (Or.inl (by decide))).trans (((hb515.2.2.2.2.1 138 (-1) (by decide) (by decide) (by decide) (Or.inl (by decide)) (Or.inl (by decide)) (Or.inl (by decide))).trans (rfl)))))]) (((at523.2.2.2.2.2.2.2.1 72 5 (by decide) (by decide) (by decide) (by decide) (by decide) (Or.inr (by decide)) (Or.inl (by decide)) (Or.inl (by decide))).trans (((hb515.2.2.2.2.1 72 5 (by decide) (by decide) (by decide) (Or.inl (by decide)) (Or.inr (by decide)) (Or.inl (by decide))).trans (hm))))) ⟨by omega, by rw [show _ = _ from (((at523.2.2.2.2.2.2.2.1 138 (-1) (by decide) (by decide) (by decide) (by decide) (by decide) (Or.inl (by decide)) (Or.inl (by decide)) (Or.inl (by decide))).trans (((hb515.2.2.2.2.1 138 (-1) (by decide) (by decide) (by decide) (Or.inl (by decide)) (Or.inl (by decide)) (Or.inl (by decide))).trans (rfl)))))]; omega⟩ (by rw [show _ = _ from (((at523.2.2.2.2.2.2.2.1 138 (-1) (by decide) (by decide) (by decide) (by decide) (by decide) (Or.inl (by decide)) (Or.inl (by decide)) (Or.inl (by decide))).trans (((hb515.2.2.2.2.1 138 (-1) (by decide) (by decide) (by decide) (Or.inl (by decide)) (Or.inl (by decide)) (Or.inl (by decide))).trans (rfl)))))]; exact hm2) ((by rw [at523.1.2, show _ = _ from (((hb515.2.2.2.2.1 150 0 (by decide) (by decide) (by decide) (Or.inl (by decide)) (Or.inl (by decide)) (Or.inr (by decide))).trans (hu0)))])) ⟨by omega, by omega⟩ (((at523.2.2.2.2.2.2.2.1 150 1 (by decide) (by decide) (by decide) (by decide) (by decide) (Or.inl (by decide)) (Or.inl (by decide)) (Or.inr (by decide))).trans (((hb515.2.2.2.2.1 150 1 (by decide) (by decide) (by decide) (Or.inl (by decide)) (Or.inl (by decide)) (Or.inr (by decide))).trans (hv0))))) ⟨by omega, by omega⟩ ⟨at523.2.2.2.2.2.2.1.1 2 (by decide), at523.2.2.2.2.2.2.1.1 9 (by decide)⟩ ⟨by omega, by omega⟩ ((at523.2.2.1 2 (by decide) fn (by omega) (by rw [show _ = _ from (((hb515.2.2.2.2.1 72 3 (by decide) (by decide) (by decide) (Or.inl (by decide)) (Or.inr (by decide)) (Or.inl (by decide))).trans (hn)))]; omega)).trans ((hfA 129 (by decide) (by decide)).trans hf)) hf1 ((at523.2.2.1 9 (by decide) fn (by omega) (by rw [show _ = _ from (((hb515.2.2.2.2.1 72 3 (by decide) (by decide) (by decide) (Or.inl (by decide)) (Or.inr (by decide)) (Or.inl (by decide))).trans (hn)))]; omega)).trans ((hfA 136 (by decide) (by decide)).trans har)) (((at523.2.2.2.2.2.2.2.1 23 f (by decide) (by decide) (by decide) (by decide) (by decide) (Or.inl (by decide)) (Or.inl (by decide)) (Or.inl (by decide))).trans (((hb515.2.2.2.2.1 23 f (by decide) (by decide) (by decide) (Or.inl (by decide)) (Or.inl (by decide)) (Or.inl (by decide))).trans (hvs))))) hvs1 (((at523.2.2.2.2.2.2.2.1 22 f (by decide) (by decide) (by decide) (by decide) (by decide) (Or.inl (by decide)) (Or.inl (by decide)) (Or.inl (by decide))).trans (((hb515.2.2.2.2.1 22 f (by decide) (by decide) (by decide) (Or.inl (by decide)) (Or.inl (by decide)) (Or.inl (by decide))).trans (hpn))))) hpn1 (((at523.2.2.2.2.2.2.2.1 226 4 (by decide) (by decide) (by decide) (by decide) (by decide) (Or.inl (by decide)) (Or.inl (by decide)) (Or.inl (by decide))).trans (((hb515.2.2.2.2.1 226 4 (by decide) (by decide) (by decide) (Or.inl (by decide)) (Or.inl (by decide)) (Or.inl (by decide))).trans (bc))))) ⟨by omega, by omega⟩ (((at523.2.2.2.2.2.2.2.1 231 (c - 1) (by decide) (by decide) (by decide) (by decide) (by decide) (Or.inl (by decide)) (Or.inl (by decide)) (Or.inl (by decide))).trans (((hb515.2.2.2.2.1 231 (c - 1) (by decide) (by decide) (by decide) (Or.inl (by decide)) (Or.inl (by decide)) (Or.inl (by decide))).trans (bp))))) ⟨by omega, by omega⟩ (((at523.2.2.2.2.2.2.2.1 227 2 (by decide) (by decide) (by decide) (by decide) (by decide) (Or.inl (by decide)) (Or.inl (by decide)) (Or.inl (by decide))).trans (((hb515.2.2.2.2.1 227 2 (by decide) (by decide) (by decide) (Or.inl (by decide)) (Or.inl (by decide)) (Or.inl (by decide))).trans (bh))))) (by rw [show _ = _ from (((at523.2.2.2.2.2.2.2.1 228 (-1) (by decide) (by decide) (by decide) (by decide) (by decide) (Or.inl (by decide)) (Or.inl (by decide)) (Or.inl (by decide))).trans (((hb515.2.2.2.2.1 228 (-1) (by decide) (by decide) (by decide) (Or.inl (by decide)) (Or.inl (by decide)) (Or.inl (by decide))).trans (rfl)))))]; exact bh2) (by rw [show _ = _ from (((at523.2.2.2.2.2.2.2.1 229 (-1) (by decide) (by decide) (by decide) (by decide) (by decide) (Or.inl (by decide)) (Or.inl (by decide)) (Or.inl (by decide))).trans (((hb515.2.2.2.2.1 229 (-1) (by decide) (by decide) (by decide) (Or.inl (by decide)) (Or.inl (by decide)) (Or.inl (by decide))).trans (bl1))))), show _ = _ from (((at523.2.2.2.2.2.2.2.1 228 (-1) (by decide) (by decide) (by decide) (by decide) (by decide) (Or.inl (by decide)) (Or.inl (by decide)) (Or.inl (by decide))).trans (((hb515.2.2.2.2.1 228 (-1) (by decide) (by decide) (by decide) (Or.inl (by decide)) (Or.inl (by decide)) (Or.inl (by decide))).trans (rfl)))))]; exact ⟨rfl, bl3⟩) ⟨by omega, by omega⟩ (by omega) (by omega) (by decide) ⟨by omega, by omega⟩ (by decide)) (fun oq527 Sq527 hp528 q527 => ?_)
                  rcases q527 with ⟨rfl, hen⟩
                  show wJ _ _ _ _ _ _ _ _ _ _
                  refine wa_return rfl ?_
                  have ecs : Sq523 140 2 = (cs + 0) := ((by rw [at523.2.2.2.1, show _ = _ from (((hb515.2.2.2.2.1 140 2 (by first | decide | omega) (by first | decide | omega) (by first | decide | omega) (Or.inl (by first | decide | omega)) (Or.inl (by first | decide | omega)) (Or.inl (by first | decide | omega))).trans (h2)))]))
                  exact ⟨rfl, Or.inr (Or.inr (Or.inr ⟨by omega, by omega, by omega, by omega, by omega, Sq515, Sq523, hb515, at523, by rw [ecs]; exact hen⟩))⟩
              · skip
                exact absurd c514 (by omega)
            · skip
              exact absurd c513 (by omega)
      · skip
        refine wa_aload_n (n := 0) rfl ?_
        refine wb_gf4 72 rfl (wy_pr rfl) wt_72 wf_2_2 (v := 126) wl_72_2 ?_
        refine wa_iconst ?_
        refine wb_aald5 126 5 rfl rfl (wy_pr rfl) wt_126 (by rw [show _ = _ from ((cl_126 hC))]; omega) wl_126_5 ?_
        refine wa_iload_n (n := 1) rfl ?_
        refine wb_iald 132 rfl (wy_pr rfl) wt_132 (n := (S 127 (-1))) ((hth 5 (by decide))) (by omega) (by omega) (v := r) (e132) (fun r529 => ?_)
        refine wa_iconst ?_
        refine wa_icmpne (w_rg0 (by omega) (by omega)) (w_rg0 (by omega) (by omega)) ⟨_, rfl⟩ (fun c530 => ?_) (fun c530 => ?_)
        · skip
          refine wa_iconst ?_
          refine wa_fall ⟨_, rfl⟩ ?_
          refine wa_istore_n (n := 2) rfl ?_
          refine wa_aload_n (n := 0) rfl ?_
          refine wa_iconst ?_
          refine wa_iconst ?_
          refine wa_cv 72 rfl (wy_pr rfl) wt_72 (M2 := mS [228, 229, 127, 128, 129, 130, 131, 132, 133, 134, 135, 136, 141, 142, 138, 139, 144, 145, 146, 147, 148]) rfl at_XH_hasRoom ⟨_, rfl⟩ rfl rfl ⟨trivial, (Or.inr ⟨wy_pr rfl, mS_no rfl⟩), trivial, trivial⟩ trivial (fun _ _ q => q) ?_ (fun _ _ _ q => q)
          refine wa_aload_n (n := 0) rfl ?_
          refine wb_gf4 72 rfl (wy_pr rfl) wt_72 wf_2_10 (v := 150) wl_72_10 ?_
          refine wa_iload_n (n := 1) rfl ?_
          refine wb_iald 150 rfl (wy_pr rfl) wt_150 (n := 6) ((cl_150 hC)) (by omega) (by omega) (v := u0) (hu0) (fun r531 => ?_)
          refine wa_iload_n (n := 2) rfl ?_
          refine wa_iadd ?_
          refine wa_gs ?_
          refine wa_iload_n (n := 1) rfl ?_
          refine wb_xald 1 rfl hx1 (by decide) (by omega) (by decide) (v := 8000) (by decide) (fun r532 => ?_)
          refine wa_icmpgt (w_rg0 (by omega) (by omega)) (w_rg0 (by omega) (by omega)) ⟨_, rfl⟩ (fun c533 => ?_) (fun c533 => ?_)
          · skip
            refine wa_iconst ?_
            refine wa_fall ⟨_, rfl⟩ ?_
            refine wa_zreturn rfl (Or.inl rfl) ?_
            show wJ _ _ _ _ _ _ _ _ _ _
            refine wa_ifeq (w_rg0 (by omega) (by omega)) ⟨_, rfl⟩ (fun c534 => ?_) (fun c534 => ?_)
            · skip
              refine wa_iconst ?_
              refine wa_fall ⟨_, rfl⟩ ?_
              refine wa_zreturn rfl (Or.inl rfl) ?_
              show wJ _ _ _ _ _ _ _ _ _ _
              refine wa_ifne (w_rg0 (by omega) (by omega)) ⟨_, rfl⟩ (fun c535 => ?_) (fun c535 => ?_)
              · skip
                exact absurd c535 (by omega)
              · skip
                refine wa_aload_n (n := 0) rfl ?_
                refine wb_gf5 158 rfl (wy_pr rfl) wt_158 wf_5_4 (v := 226) (l4) (fun r536 => ?_)
                refine wa_bipush (w_rg2 (by omega) (by omega)) ?_
                refine wb_pfi 226 rfl (wy_pr rfl) wt_226 wf_8_16 (n := 16) rfl ⟨(by omega), (by omega)⟩ ?_
                refine wa_return rfl ?_
                exact ⟨rfl, Or.inr (Or.inl ⟨by omega, by omega, rfl⟩)⟩
            · skip
              exact absurd c534 (by omega)
          · skip
            refine wa_iconst ?_
            refine wa_goto ⟨_, rfl⟩ ?_
            refine wa_zreturn rfl (Or.inr rfl) ?_
            show wJ _ _ _ _ _ _ _ _ _ _
            refine wa_ifeq (w_rg0 (by omega) (by omega)) ⟨_, rfl⟩ (fun c537 => ?_) (fun c537 => ?_)
            · skip
              exact absurd c537 (by omega)
            · skip
              refine wa_iload_n (n := 2) rfl ?_
              refine wa_ifeq (w_rg0 (by omega) (by omega)) ⟨_, rfl⟩ (fun c538 => ?_) (fun c538 => ?_)
              · skip
                refine wa_iconst ?_
                refine wa_goto ⟨_, rfl⟩ ?_
                refine wa_zreturn rfl (Or.inr rfl) ?_
                show wJ _ _ _ _ _ _ _ _ _ _
                refine wa_ifne (w_rg0 (by omega) (by omega)) ⟨_, rfl⟩ (fun c539 => ?_) (fun c539 => ?_)
                · skip
                  refine wa_aload_n (n := 0) rfl ?_
                  refine wb_gf4 158 rfl (wy_pr rfl) wt_158 wf_5_0 (v := 72) wl_158_0 ?_
                  refine wa_iload (n := 4) rfl ?_
                  refine wa_cv 72 rfl (wy_pr rfl) wt_72 (M2 := mS [144, 145, 146, 147, 148]) rfl at_XH_bareShape ⟨_, rfl⟩ rfl rfl ⟨(Or.inr ⟨wy_pr rfl, mS_no rfl⟩), trivial, trivial, trivial⟩ trivial (fun _ _ q => mS_sub (by decide) q) (c_bs hC hI hsw hlt hw hq hr ⟨by omega, fun z => by omega⟩) (fun oq540 Sq540 hp541 q540 => ?_)
                  rcases q540 with ⟨hbr, rfl, rfl⟩ | ⟨hbr, hb540, rfl⟩
                  · skip
                    show wJ _ _ _ _ _ _ _ _ _ _
                    refine wa_istore (n := 5) rfl ?_
                    refine wa_aload_n (n := 0) rfl ?_
                    refine wb_gf4 158 rfl (wy_pr rfl) wt_158 wf_5_0 (v := 72) wl_158_0 ?_
                    refine wa_iconst ?_
                    refine wa_iload (n := 5) rfl ?_
                    refine wa_iconst ?_
                    refine wa_iconst ?_
                    have at542a : S 141 (-1) = (S 141 (-1)) := (rfl)
                    have at542b : S 142 (-1) = S 141 (-1) := ((hl14) : S 142 (-1) = (S 141 (-1))).trans at542a.symm
                    have at542c : S 127 (-1) = (S 127 (-1)) := (rfl)
                    have at542d : ∀ x : Nat, x < 10 → S (127 + x) (-1) = S 127 (-1) := (hth)
                    refine wa_cv 72 rfl (wy_pr rfl) wt_72 (M2 := mS [127, 128, 129, 130, 131, 132, 133, 134, 135, 136, 141, 142]) rfl at_XH_addThing ⟨_, rfl⟩ rfl rfl ⟨trivial, (Or.inr ⟨wy_pr rfl, mS_no rfl⟩), trivial, trivial, trivial⟩ trivial (fun _ _ q => mS_sub (by decide) q) (atH_ok (S := S) (kd := 4) (sh := r) (fo := (-1)) (rm := 0) (cs := cs) (n := n) (u0 := u0) hC hI (h2) ⟨by omega, by omega⟩ at542b ⟨by omega, by omega⟩ at542d (hn) ⟨by omega, by omega⟩ ⟨by omega, by omega⟩ (hu0) ⟨by omega, by omega⟩ ⟨by omega, by omega⟩ ⟨by omega, by omega⟩ ⟨by omega, by omega⟩ ⟨by omega, by omega⟩) (fun oq542 Sq542 hp543 q542 => ?_)
                    rcases q542 with ⟨rfl, at542⟩
                    show wJ _ _ _ _ _ _ _ _ _ _
                    have at542e := at542.2.2.2.2.2.2.1.2
                    have at542f := at542.2.2.2.2.2.1
                    refine wa_istore (n := 6) rfl ?_
                    refine wa_aload_n (n := 0) rfl ?_
                    refine wb_gf5 158 rfl (wy_pr rfl) wt_158 wf_5_4 (v := 226) (((at542.2.2.2.2.2.2.2.1 158 4 (by decide) (by decide) (by decide) (by decide) (by decide) (Or.inl (by decide)) (Or.inl (by decide)) (Or.inl (by decide))).trans (l4))) (fun r544 => ?_)
                    refine wa_iload_n (n := 1) rfl ?_
                    refine wa_aload_n (n := 0) rfl ?_
                    refine wb_gfi 158 rfl (wy_pr rfl) wt_158 wf_5_8 (v := ba) (((at542.2.2.2.2.2.2.2.1 158 8 (by decide) (by decide) (by decide) (by decide) (by decide) (Or.inl (by decide)) (Or.inl (by decide)) (Or.inl (by decide))).trans (l8))) (fun r545 => ?_)
                    refine wa_iconst ?_
                    refine wa_iload (n := 6) rfl ?_
                    refine wa_i2l (w_rg0 (by omega) (by omega)) ?_
                    refine wa_iconst ?_
                    refine wa_cv 226 rfl (wy_pr rfl) wt_226 (M2 := mS [138, 139, 141, 142]) rfl at_XK_enter ⟨_, rfl⟩ rfl rfl ⟨trivial, trivial, (Or.inr ⟨wy_pr rfl, mS_no rfl⟩), trivial, trivial, trivial⟩ trivial (fun _ _ q => mS_sub (by decide) q) (en_226 (S := Sq542) (fn := fn) (pl := ba) (kd := 4) (bt := n) (nw := 1) (cs := (cs + 0)) (n := nc) (u0 := u0 + 1) (v0 := v0) (c := c) (p := p) (h := h) (f := f) (ar := ar) (vs := vs) (pn := pn) (CL_at hC at542) at542.2.2.2.2.2.2.2.2.1 ((by rw [at542.2.2.2.1, show _ = _ from (h2)])) ⟨by omega, by omega⟩ at542f.1 ⟨by omega, by omega⟩ (by rw [show _ = _ from (((at542.2.2.2.2.2.2.2.1 139 (-1) (by decide) (by decide) (by decide) (by decide) (by decide) (Or.inl (by decide)) (Or.inl (by decide)) (Or.inl (by decide))).trans (hcl))), show _ = _ from (((at542.2.2.2.2.2.2.2.1 138 (-1) (by decide) (by decide) (by decide) (by decide) (by decide) (Or.inl (by decide)) (Or.inl (by decide)) (Or.inl (by decide))).trans (rfl)))]) (((at542.2.2.2.2.2.2.2.1 72 5 (by decide) (by decide) (by decide) (by decide) (by decide) (Or.inr (by decide)) (Or.inl (by decide)) (Or.inl (by decide))).trans (hm))) ⟨by omega, by rw [show _ = _ from (((at542.2.2.2.2.2.2.2.1 138 (-1) (by decide) (by decide) (by decide) (by decide) (by decide) (Or.inl (by decide)) (Or.inl (by decide)) (Or.inl (by decide))).trans (rfl)))]; omega⟩ (by rw [show _ = _ from (((at542.2.2.2.2.2.2.2.1 138 (-1) (by decide) (by decide) (by decide) (by decide) (by decide) (Or.inl (by decide)) (Or.inl (by decide)) (Or.inl (by decide))).trans (rfl)))]; exact hm2) ((by rw [at542.1.2, show _ = _ from (hu0)])) ⟨by omega, by omega⟩ (((at542.2.2.2.2.2.2.2.1 150 1 (by decide) (by decide) (by decide) (by decide) (by decide) (Or.inl (by decide)) (Or.inl (by decide)) (Or.inr (by decide))).trans (hv0))) ⟨by omega, by omega⟩ ⟨at542.2.2.2.2.2.2.1.1 2 (by decide), at542.2.2.2.2.2.2.1.1 9 (by decide)⟩ ⟨by omega, by omega⟩ ((at542.2.2.1 2 (by decide) fn (by omega) (by rw [show _ = _ from (hn)]; omega)).trans hf) hf1 ((at542.2.2.1 9 (by decide) fn (by omega) (by rw [show _ = _ from (hn)]; omega)).trans har) (((at542.2.2.2.2.2.2.2.1 23 f (by decide) (by decide) (by decide) (by decide) (by decide) (Or.inl (by decide)) (Or.inl (by decide)) (Or.inl (by decide))).trans (hvs))) hvs1 (((at542.2.2.2.2.2.2.2.1 22 f (by decide) (by decide) (by decide) (by decide) (by decide) (Or.inl (by decide)) (Or.inl (by decide)) (Or.inl (by decide))).trans (hpn))) hpn1 (((at542.2.2.2.2.2.2.2.1 226 4 (by decide) (by decide) (by decide) (by decide) (by decide) (Or.inl (by decide)) (Or.inl (by decide)) (Or.inl (by decide))).trans (bc))) ⟨by omega, by omega⟩ (((at542.2.2.2.2.2.2.2.1 231 (c - 1) (by decide) (by decide) (by decide) (by decide) (by decide) (Or.inl (by decide)) (Or.inl (by decide)) (Or.inl (by decide))).trans (bp))) ⟨by omega, by omega⟩ (((at542.2.2.2.2.2.2.2.1 227 2 (by decide) (by decide) (by decide) (by decide) (by decide) (Or.inl (by decide)) (Or.inl (by decide)) (Or.inl (by decide))).trans (bh))) (by rw [show _ = _ from (((at542.2.2.2.2.2.2.2.1 228 (-1) (by decide) (by decide) (by decide) (by decide) (by decide) (Or.inl (by decide)) (Or.inl (by decide)) (Or.inl (by decide))).trans (rfl)))]; exact bh2) (by rw [show _ = _ from (((at542.2.2.2.2.2.2.2.1 229 (-1) (by decide) (by decide) (by decide) (by decide) (by decide) (Or.inl (by decide)) (Or.inl (by decide)) (Or.inl (by decide))).trans (bl1))), show _ = _ from (((at542.2.2.2.2.2.2.2.1 228 (-1) (by decide) (by decide) (by decide) (by decide) (by decide) (Or.inl (by decide)) (Or.inl (by decide)) (Or.inl (by decide))).trans (rfl)))]; exact ⟨rfl, bl3⟩) ⟨by omega, by omega⟩ (by omega) (by omega) (by decide) ⟨by omega, by omega⟩ (by decide)) (fun oq546 Sq546 hp547 q546 => ?_)
                    rcases q546 with ⟨rfl, hen⟩
                    show wJ _ _ _ _ _ _ _ _ _ _
                    refine wa_return rfl ?_
                    have ecs : Sq542 140 2 = (cs + 0) := ((by rw [at542.2.2.2.1, show _ = _ from (h2)]))
                    exact ⟨rfl, Or.inr (Or.inr (Or.inl ⟨by omega, by omega, by omega, by omega, Sq542, at542, by rw [ecs]; exact hen⟩))⟩
                  · skip
                    show wJ _ _ _ _ _ _ _ _ _ _
                    have hfA : ∀ j : Nat, (j = 129 ∨ j = 136) → j < 237 → Sq540 j fn = S j fn := fun j hj _ => hb540.2.2.2.2.1 j fn (by omega) (by omega) (by omega) (Or.inl (by omega)) (by omega) (by omega)
                    refine wa_istore (n := 5) rfl ?_
                    refine wa_aload_n (n := 0) rfl ?_
                    refine wb_gf4 158 rfl (wy_pr rfl) wt_158 wf_5_0 (v := 72) wl_158_0 ?_
                    refine wa_iconst ?_
                    refine wa_iload (n := 5) rfl ?_
                    refine wa_iconst ?_
                    refine wa_iconst ?_
                    have at548a : Sq540 141 (-1) = (S 141 (-1)) := (((hb540.2.2.2.2.1 141 (-1) (by first | decide | omega) (by first | decide | omega) (by first | decide | omega) (Or.inl (by first | decide | omega)) (Or.inl (by first | decide | omega)) (Or.inl (by first | decide | omega))).trans (rfl)))
                    have at548b : Sq540 142 (-1) = Sq540 141 (-1) := ((((hb540.2.2.2.2.1 142 (-1) (by first | decide | omega) (by first | decide | omega) (by first | decide | omega) (Or.inl (by first | decide | omega)) (Or.inl (by first | decide | omega)) (Or.inl (by first | decide | omega))).trans (hl14))) : Sq540 142 (-1) = (S 141 (-1))).trans at548a.symm
                    have at548c : Sq540 127 (-1) = (S 127 (-1)) := (((hb540.2.2.2.2.1 127 (-1) (by first | decide | omega) (by first | decide | omega) (by first | decide | omega) (Or.inl (by first | decide | omega)) (Or.inl (by first | decide | omega)) (Or.inl (by first | decide | omega))).trans (rfl)))
                    have at548d : ∀ x : Nat, x < 10 → Sq540 (127 + x) (-1) = Sq540 127 (-1) := (fun x hx => (hb540.2.2.2.2.1 (127 + x) (-1) (by omega) (by omega) (by omega) (Or.inr (by omega)) (by omega) (by omega)).trans ((hth x hx).trans (hb540.2.2.2.2.1 127 (-1) (by first | decide | omega) (by first | decide | omega) (by first | decide | omega) (Or.inl (by first | decide | omega)) (by first | decide | omega) (by first | decide | omega)).symm))
                    refine wa_cv 72 rfl (wy_pr rfl) wt_72 (M2 := mS [127, 128, 129, 130, 131, 132, 133, 134, 135, 136, 141, 142]) rfl at_XH_addThing ⟨_, rfl⟩ rfl rfl ⟨trivial, (Or.inr ⟨wy_pr rfl, mS_no rfl⟩), trivial, trivial, trivial⟩ trivial (fun _ _ q => mS_sub (by decide) q) (atH_ok (S := Sq540) (kd := 4) (sh := (H.length : Int)) (fo := (-1)) (rm := 0) (cs := cs) (n := n) (u0 := u0) (CL_bs hC hb540) hb540.2.2.2.2.2.1 (((hb540.2.2.2.2.1 140 2 (by decide) (by decide) (by decide) (Or.inl (by decide)) (Or.inl (by decide)) (Or.inl (by decide))).trans (h2))) ⟨by omega, by omega⟩ at548b ⟨by omega, by omega⟩ at548d (((hb540.2.2.2.2.1 72 3 (by decide) (by decide) (by decide) (Or.inl (by decide)) (Or.inr (by decide)) (Or.inl (by decide))).trans (hn))) ⟨by omega, by omega⟩ ⟨by omega, by omega⟩ (((hb540.2.2.2.2.1 150 0 (by decide) (by decide) (by decide) (Or.inl (by decide)) (Or.inl (by decide)) (Or.inr (by decide))).trans (hu0))) ⟨by omega, by omega⟩ ⟨by omega, by omega⟩ ⟨by omega, by omega⟩ ⟨by omega, by omega⟩ ⟨by omega, by omega⟩) (fun oq548 Sq548 hp549 q548 => ?_)
                    rcases q548 with ⟨rfl, at548⟩
                    show wJ _ _ _ _ _ _ _ _ _ _
                    have at548e := at548.2.2.2.2.2.2.1.2
                    have at548f := at548.2.2.2.2.2.1
                    refine wa_istore (n := 6) rfl ?_
                    refine wa_aload_n (n := 0) rfl ?_
                    refine wb_gf5 158 rfl (wy_pr rfl) wt_158 wf_5_4 (v := 226) (((at548.2.2.2.2.2.2.2.1 158 4 (by decide) (by decide) (by decide) (by decide) (by decide) (Or.inl (by decide)) (Or.inl (by decide)) (Or.inl (by decide))).trans (((hb540.2.2.2.2.1 158 4 (by decide) (by decide) (by decide) (Or.inl (by decide)) (Or.inl (by decide)) (Or.inl (by decide))).trans (l4))))) (fun r550 => ?_)
                    refine wa_iload_n (n := 1) rfl ?_
                    refine wa_aload_n (n := 0) rfl ?_
                    refine wb_gfi 158 rfl (wy_pr rfl) wt_158 wf_5_8 (v := ba) (((at548.2.2.2.2.2.2.2.1 158 8 (by decide) (by decide) (by decide) (by decide) (by decide) (Or.inl (by decide)) (Or.inl (by decide)) (Or.inl (by decide))).trans (((hb540.2.2.2.2.1 158 8 (by decide) (by decide) (by decide) (Or.inl (by decide)) (Or.inl (by decide)) (Or.inl (by decide))).trans (l8))))) (fun r551 => ?_)
                    refine wa_iconst ?_
                    refine wa_iload (n := 6) rfl ?_
                    refine wa_i2l (w_rg0 (by omega) (by omega)) ?_
                    refine wa_iconst ?_
                    have eg140 : Sq540 140 2 = cs := (((hb540.2.2.2.2.1 140 2 (by first | decide | omega) (by first | decide | omega) (by first | decide | omega) (Or.inl (by first | decide | omega)) (Or.inl (by first | decide | omega)) (Or.inl (by first | decide | omega))).trans (h2)))
                    refine wa_cv 226 rfl (wy_pr rfl) wt_226 (M2 := mS [138, 139, 141, 142]) rfl at_XK_enter ⟨_, rfl⟩ rfl rfl ⟨trivial, trivial, (Or.inr ⟨wy_pr rfl, mS_no rfl⟩), trivial, trivial, trivial⟩ trivial (fun _ _ q => mS_sub (by decide) q) (en_226 (S := Sq548) (fn := fn) (pl := ba) (kd := 4) (bt := n) (nw := 1) (cs := (cs + 0)) (n := nc) (u0 := u0 + 1) (v0 := v0) (c := c) (p := p) (h := h) (f := f) (ar := ar) (vs := vs) (pn := pn) (CL_at (CL_bs hC hb540) at548) at548.2.2.2.2.2.2.2.2.1 ((by rw [at548.2.2.2.1, show _ = _ from (((hb540.2.2.2.2.1 140 2 (by decide) (by decide) (by decide) (Or.inl (by decide)) (Or.inl (by decide)) (Or.inl (by decide))).trans (h2)))])) ⟨by omega, by omega⟩ at548f.1 ⟨by omega, by omega⟩ (by rw [show _ = _ from (((at548.2.2.2.2.2.2.2.1 139 (-1) (by decide) (by decide) (by decide) (by decide) (by decide) (Or.inl (by decide)) (Or.inl (by decide)) (Or.inl (by decide))).trans (((hb540.2.2.2.2.1 139 (-1) (by decide) (by decide) (by decide) (Or.inl (by decide)) (Or.inl (by decide)) (Or.inl (by decide))).trans (hcl))))), show _ = _ from (((at548.2.2.2.2.2.2.2.1 138 (-1) (by decide) (by decide) (by decide) (by decide) (by decide) (Or.inl (by decide)) (Or.inl (by decide)) (Or.inl (by decide))).trans (((hb540.2.2.2.2.1 138 (-1) (by decide) (by decide) (by decide) (Or.inl (by decide)) (Or.inl (by decide)) (Or.inl (by decide))).trans (rfl)))))]) (((at548.2.2.2.2.2.2.2.1 72 5 (by decide) (by decide) (by decide) (by decide) (by decide) (Or.inr (by decide)) (Or.inl (by decide)) (Or.inl (by decide))).trans (((hb540.2.2.2.2.1 72 5 (by decide) (by decide) (by decide) (Or.inl (by decide)) (Or.inr (by decide)) (Or.inl (by decide))).trans (hm))))) ⟨by omega, by rw [show _ = _ from (((at548.2.2.2.2.2.2.2.1 138 (-1) (by decide) (by decide) (by decide) (by decide) (by decide) (Or.inl (by decide)) (Or.inl (by decide)) (Or.inl (by decide))).trans (((hb540.2.2.2.2.1 138 (-1) (by decide) (by decide) (by decide) (Or.inl (by decide)) (Or.inl (by decide)) (Or.inl (by decide))).trans (rfl)))))]; omega⟩ (by rw [show _ = _ from (((at548.2.2.2.2.2.2.2.1 138 (-1) (by decide) (by decide) (by decide) (by decide) (by decide) (Or.inl (by decide)) (Or.inl (by decide)) (Or.inl (by decide))).trans (((hb540.2.2.2.2.1 138 (-1) (by decide) (by decide) (by decide) (Or.inl (by decide)) (Or.inl (by decide)) (Or.inl (by decide))).trans (rfl)))))]; exact hm2) ((by rw [at548.1.2, show _ = _ from (((hb540.2.2.2.2.1 150 0 (by decide) (by decide) (by decide) (Or.inl (by decide)) (Or.inl (by decide)) (Or.inr (by decide))).trans (hu0)))])) ⟨by omega, by omega⟩ (((at548.2.2.2.2.2.2.2.1 150 1 (by decide) (by decide) (by decide) (by decide) (by decide) (Or.inl (by decide)) (Or.inl (by decide)) (Or.inr (by decide))).trans (((hb540.2.2.2.2.1 150 1 (by decide) (by decide) (by decide) (Or.inl (by decide)) (Or.inl (by decide)) (Or.inr (by decide))).trans (hv0))))) ⟨by omega, by omega⟩ ⟨at548.2.2.2.2.2.2.1.1 2 (by decide), at548.2.2.2.2.2.2.1.1 9 (by decide)⟩ ⟨by omega, by omega⟩ ((at548.2.2.1 2 (by decide) fn (by omega) (by rw [show _ = _ from (((hb540.2.2.2.2.1 72 3 (by decide) (by decide) (by decide) (Or.inl (by decide)) (Or.inr (by decide)) (Or.inl (by decide))).trans (hn)))]; omega)).trans ((hfA 129 (by decide) (by decide)).trans hf)) hf1 ((at548.2.2.1 9 (by decide) fn (by omega) (by rw [show _ = _ from (((hb540.2.2.2.2.1 72 3 (by decide) (by decide) (by decide) (Or.inl (by decide)) (Or.inr (by decide)) (Or.inl (by decide))).trans (hn)))]; omega)).trans ((hfA 136 (by decide) (by decide)).trans har)) (((at548.2.2.2.2.2.2.2.1 23 f (by decide) (by decide) (by decide) (by decide) (by decide) (Or.inl (by decide)) (Or.inl (by decide)) (Or.inl (by decide))).trans (((hb540.2.2.2.2.1 23 f (by decide) (by decide) (by decide) (Or.inl (by decide)) (Or.inl (by decide)) (Or.inl (by decide))).trans (hvs))))) hvs1 (((at548.2.2.2.2.2.2.2.1 22 f (by decide) (by decide) (by decide) (by decide) (by decide) (Or.inl (by decide)) (Or.inl (by decide)) (Or.inl (by decide))).trans (((hb540.2.2.2.2.1 22 f (by decide) (by decide) (by decide) (Or.inl (by decide)) (Or.inl (by decide)) (Or.inl (by decide))).trans (hpn))))) hpn1 (((at548.2.2.2.2.2.2.2.1 226 4 (by decide) (by decide) (by decide) (by decide) (by decide) (Or.inl (by decide)) (Or.inl (by decide)) (Or.inl (by decide))).trans (((hb540.2.2.2.2.1 226 4 (by decide) (by decide) (by decide) (Or.inl (by decide)) (Or.inl (by decide)) (Or.inl (by decide))).trans (bc))))) ⟨by omega, by omega⟩ (((at548.2.2.2.2.2.2.2.1 231 (c - 1) (by decide) (by decide) (by decide) (by decide) (by decide) (Or.inl (by decide)) (Or.inl (by decide)) (Or.inl (by decide))).trans (((hb540.2.2.2.2.1 231 (c - 1) (by decide) (by decide) (by decide) (Or.inl (by decide)) (Or.inl (by decide)) (Or.inl (by decide))).trans (bp))))) ⟨by omega, by omega⟩ (((at548.2.2.2.2.2.2.2.1 227 2 (by decide) (by decide) (by decide) (by decide) (by decide) (Or.inl (by decide)) (Or.inl (by decide)) (Or.inl (by decide))).trans (((hb540.2.2.2.2.1 227 2 (by decide) (by decide) (by decide) (Or.inl (by decide)) (Or.inl (by decide)) (Or.inl (by decide))).trans (bh))))) (by rw [show _ = _ from (((at548.2.2.2.2.2.2.2.1 228 (-1) (by decide) (by decide) (by decide) (by decide) (by decide) (Or.inl (by decide)) (Or.inl (by decide)) (Or.inl (by decide))).trans (((hb540.2.2.2.2.1 228 (-1) (by decide) (by decide) (by decide) (Or.inl (by decide)) (Or.inl (by decide)) (Or.inl (by decide))).trans (rfl)))))]; exact bh2) (by rw [show _ = _ from (((at548.2.2.2.2.2.2.2.1 229 (-1) (by decide) (by decide) (by decide) (by decide) (by decide) (Or.inl (by decide)) (Or.inl (by decide)) (Or.inl (by decide))).trans (((hb540.2.2.2.2.1 229 (-1) (by decide) (by decide) (by decide) (Or.inl (by decide)) (Or.inl (by decide)) (Or.inl (by decide))).trans (bl1))))), show _ = _ from (((at548.2.2.2.2.2.2.2.1 228 (-1) (by decide) (by decide) (by decide) (by decide) (by decide) (Or.inl (by decide)) (Or.inl (by decide)) (Or.inl (by decide))).trans (((hb540.2.2.2.2.1 228 (-1) (by decide) (by decide) (by decide) (Or.inl (by decide)) (Or.inl (by decide)) (Or.inl (by decide))).trans (rfl)))))]; exact ⟨rfl, bl3⟩) ⟨by omega, by omega⟩ (by omega) (by omega) (by decide) ⟨by omega, by omega⟩ (by decide)) (fun oq552 Sq552 hp553 q552 => ?_)
                    rcases q552 with ⟨rfl, hen⟩
                    show wJ _ _ _ _ _ _ _ _ _ _
                    refine wa_return rfl ?_
                    have ecs : Sq548 140 2 = (cs + 0) := ((by rw [at548.2.2.2.1, show _ = _ from (((hb540.2.2.2.2.1 140 2 (by first | decide | omega) (by first | decide | omega) (by first | decide | omega) (Or.inl (by first | decide | omega)) (Or.inl (by first | decide | omega)) (Or.inl (by first | decide | omega))).trans (h2)))]))
                    exact ⟨rfl, Or.inr (Or.inr (Or.inr ⟨by omega, by omega, by omega, by omega, by omega, Sq540, Sq548, hb540, at548, by rw [ecs]; exact hen⟩))⟩
                · skip
                  exact absurd c539 (by omega)
              · skip
                exact absurd c538 (by omega)
        · skip
          refine wa_iconst ?_
          refine wa_goto ⟨_, rfl⟩ ?_
          refine wa_istore_n (n := 2) rfl ?_
          refine wa_aload_n (n := 0) rfl ?_
          refine wa_iconst ?_
          refine wa_iconst ?_
          refine wa_cv 72 rfl (wy_pr rfl) wt_72 (M2 := mS [228, 229, 127, 128, 129, 130, 131, 132, 133, 134, 135, 136, 141, 142, 138, 139, 144, 145, 146, 147, 148]) rfl at_XH_hasRoom ⟨_, rfl⟩ rfl rfl ⟨trivial, (Or.inr ⟨wy_pr rfl, mS_no rfl⟩), trivial, trivial⟩ trivial (fun _ _ q => q) ?_ (fun _ _ _ q => q)
          refine wa_aload_n (n := 0) rfl ?_
          refine wb_gf4 72 rfl (wy_pr rfl) wt_72 wf_2_10 (v := 150) wl_72_10 ?_
          refine wa_iload_n (n := 1) rfl ?_
          refine wb_iald 150 rfl (wy_pr rfl) wt_150 (n := 6) ((cl_150 hC)) (by omega) (by omega) (v := u0) (hu0) (fun r554 => ?_)
          refine wa_iload_n (n := 2) rfl ?_
          refine wa_iadd ?_
          refine wa_gs ?_
          refine wa_iload_n (n := 1) rfl ?_
          refine wb_xald 1 rfl hx1 (by decide) (by omega) (by decide) (v := 8000) (by decide) (fun r555 => ?_)
          refine wa_icmpgt (w_rg0 (by omega) (by omega)) (w_rg0 (by omega) (by omega)) ⟨_, rfl⟩ (fun c556 => ?_) (fun c556 => ?_)
          · skip
            refine wa_iconst ?_
            refine wa_fall ⟨_, rfl⟩ ?_
            refine wa_zreturn rfl (Or.inl rfl) ?_
            show wJ _ _ _ _ _ _ _ _ _ _
            refine wa_ifeq (w_rg0 (by omega) (by omega)) ⟨_, rfl⟩ (fun c557 => ?_) (fun c557 => ?_)
            · skip
              refine wa_iconst ?_
              refine wa_fall ⟨_, rfl⟩ ?_
              refine wa_zreturn rfl (Or.inl rfl) ?_
              show wJ _ _ _ _ _ _ _ _ _ _
              refine wa_ifne (w_rg0 (by omega) (by omega)) ⟨_, rfl⟩ (fun c558 => ?_) (fun c558 => ?_)
              · skip
                exact absurd c558 (by omega)
              · skip
                refine wa_aload_n (n := 0) rfl ?_
                refine wb_gf5 158 rfl (wy_pr rfl) wt_158 wf_5_4 (v := 226) (l4) (fun r559 => ?_)
                refine wa_bipush (w_rg2 (by omega) (by omega)) ?_
                refine wb_pfi 226 rfl (wy_pr rfl) wt_226 wf_8_16 (n := 16) rfl ⟨(by omega), (by omega)⟩ ?_
                refine wa_return rfl ?_
                exact ⟨rfl, Or.inr (Or.inl ⟨by omega, by omega, rfl⟩)⟩
            · skip
              exact absurd c557 (by omega)
          · skip
            refine wa_iconst ?_
            refine wa_goto ⟨_, rfl⟩ ?_
            refine wa_zreturn rfl (Or.inr rfl) ?_
            show wJ _ _ _ _ _ _ _ _ _ _
            refine wa_ifeq (w_rg0 (by omega) (by omega)) ⟨_, rfl⟩ (fun c560 => ?_) (fun c560 => ?_)
            · skip
              exact absurd c560 (by omega)
            · skip
              refine wa_iload_n (n := 2) rfl ?_
              refine wa_ifeq (w_rg0 (by omega) (by omega)) ⟨_, rfl⟩ (fun c561 => ?_) (fun c561 => ?_)
              · skip
                exact absurd c561 (by omega)
              · skip
                refine wa_aload_n (n := 0) rfl ?_
                refine wa_iconst ?_
                refine wa_iconst ?_
                refine wa_cv 72 rfl (wy_pr rfl) wt_72 (M2 := mS [228, 229, 127, 128, 129, 130, 131, 132, 133, 134, 135, 136, 141, 142, 138, 139, 144, 145, 146, 147, 148]) rfl at_XH_hasRoom ⟨_, rfl⟩ rfl rfl ⟨trivial, (Or.inr ⟨wy_pr rfl, mS_no rfl⟩), trivial, trivial⟩ trivial (fun _ _ q => q) ?_ (fun _ _ _ q => q)
                refine wa_aload_n (n := 0) rfl ?_
                refine wb_gf4 72 rfl (wy_pr rfl) wt_72 wf_2_10 (v := 150) wl_72_10 ?_
                refine wa_iload_n (n := 1) rfl ?_
                refine wb_iald 150 rfl (wy_pr rfl) wt_150 (n := 6) ((cl_150 hC)) (by omega) (by omega) (v := u4) (eu4) (fun r562 => ?_)
                refine wa_iload_n (n := 2) rfl ?_
                refine wa_iadd ?_
                refine wa_gs ?_
                refine wa_iload_n (n := 1) rfl ?_
                refine wb_xald 1 rfl hx1 (by decide) (by omega) (by decide) (v := 4000) (by decide) (fun r563 => ?_)
                refine wa_icmpgt (w_rg0 (by omega) (by omega)) (w_rg0 (by omega) (by omega)) ⟨_, rfl⟩ (fun c564 => ?_) (fun c564 => ?_)
                · skip
                  refine wa_iconst ?_
                  refine wa_fall ⟨_, rfl⟩ ?_
                  refine wa_zreturn rfl (Or.inl rfl) ?_
                  show wJ _ _ _ _ _ _ _ _ _ _
                  refine wa_ifeq (w_rg0 (by omega) (by omega)) ⟨_, rfl⟩ (fun c565 => ?_) (fun c565 => ?_)
                  · skip
                    refine wa_iconst ?_
                    refine wa_fall ⟨_, rfl⟩ ?_
                    refine wa_zreturn rfl (Or.inl rfl) ?_
                    show wJ _ _ _ _ _ _ _ _ _ _
                    refine wa_ifne (w_rg0 (by omega) (by omega)) ⟨_, rfl⟩ (fun c566 => ?_) (fun c566 => ?_)
                    · skip
                      exact absurd c566 (by omega)
                    · skip
                      refine wa_aload_n (n := 0) rfl ?_
                      refine wb_gf5 158 rfl (wy_pr rfl) wt_158 wf_5_4 (v := 226) (l4) (fun r567 => ?_)
                      refine wa_bipush (w_rg2 (by omega) (by omega)) ?_
                      refine wb_pfi 226 rfl (wy_pr rfl) wt_226 wf_8_16 (n := 16) rfl ⟨(by omega), (by omega)⟩ ?_
                      refine wa_return rfl ?_
                      exact ⟨rfl, Or.inr (Or.inl ⟨by omega, by omega, rfl⟩)⟩
                  · skip
                    exact absurd c565 (by omega)
                · skip
                  refine wa_iconst ?_
                  refine wa_goto ⟨_, rfl⟩ ?_
                  refine wa_zreturn rfl (Or.inr rfl) ?_
                  show wJ _ _ _ _ _ _ _ _ _ _
                  refine wa_ifeq (w_rg0 (by omega) (by omega)) ⟨_, rfl⟩ (fun c568 => ?_) (fun c568 => ?_)
                  · skip
                    exact absurd c568 (by omega)
                  · skip
                    refine wa_fall ⟨_, rfl⟩ ?_
                    refine wa_iconst ?_
                    refine wa_goto ⟨_, rfl⟩ ?_
                    refine wa_zreturn rfl (Or.inr rfl) ?_
                    show wJ _ _ _ _ _ _ _ _ _ _
                    refine wa_ifne (w_rg0 (by omega) (by omega)) ⟨_, rfl⟩ (fun c569 => ?_) (fun c569 => ?_)
                    · skip
                      refine wa_aload_n (n := 0) rfl ?_
                      refine wb_gf4 158 rfl (wy_pr rfl) wt_158 wf_5_0 (v := 72) wl_158_0 ?_
                      refine wa_iload (n := 4) rfl ?_
                      refine wa_cv 72 rfl (wy_pr rfl) wt_72 (M2 := mS [144, 145, 146, 147, 148]) rfl at_XH_bareShape ⟨_, rfl⟩ rfl rfl ⟨(Or.inr ⟨wy_pr rfl, mS_no rfl⟩), trivial, trivial, trivial⟩ trivial (fun _ _ q => mS_sub (by decide) q) (c_bs hC hI hsw hlt hw hq hr ⟨by omega, fun z => by omega⟩) (fun oq570 Sq570 hp571 q570 => ?_)
                      rcases q570 with ⟨hbr, rfl, rfl⟩ | ⟨hbr, hb570, rfl⟩
                      · skip
                        show wJ _ _ _ _ _ _ _ _ _ _
                        refine wa_istore (n := 5) rfl ?_
                        refine wa_aload_n (n := 0) rfl ?_
                        refine wb_gf4 158 rfl (wy_pr rfl) wt_158 wf_5_0 (v := 72) wl_158_0 ?_
                        refine wa_iconst ?_
                        refine wa_iload (n := 5) rfl ?_
                        refine wa_iconst ?_
                        refine wa_iconst ?_
                        have at572a : S 141 (-1) = (S 141 (-1)) := (rfl)
                        have at572b : S 142 (-1) = S 141 (-1) := ((hl14) : S 142 (-1) = (S 141 (-1))).trans at572a.symm
                        have at572c : S 127 (-1) = (S 127 (-1)) := (rfl)
                        have at572d : ∀ x : Nat, x < 10 → S (127 + x) (-1) = S 127 (-1) := (hth)
                        refine wa_cv 72 rfl (wy_pr rfl) wt_72 (M2 := mS [127, 128, 129, 130, 131, 132, 133, 134, 135, 136, 141, 142]) rfl at_XH_addThing ⟨_, rfl⟩ rfl rfl ⟨trivial, (Or.inr ⟨wy_pr rfl, mS_no rfl⟩), trivial, trivial, trivial⟩ trivial (fun _ _ q => mS_sub (by decide) q) (atH_ok (S := S) (kd := 4) (sh := r) (fo := (-1)) (rm := 0) (cs := cs) (n := n) (u0 := u0) hC hI (h2) ⟨by omega, by omega⟩ at572b ⟨by omega, by omega⟩ at572d (hn) ⟨by omega, by omega⟩ ⟨by omega, by omega⟩ (hu0) ⟨by omega, by omega⟩ ⟨by omega, by omega⟩ ⟨by omega, by omega⟩ ⟨by omega, by omega⟩ ⟨by omega, by omega⟩) (fun oq572 Sq572 hp573 q572 => ?_)
                        rcases q572 with ⟨rfl, at572⟩
                        show wJ _ _ _ _ _ _ _ _ _ _
                        have at572e := at572.2.2.2.2.2.2.1.2
                        have at572f := at572.2.2.2.2.2.1
                        refine wa_istore (n := 6) rfl ?_
                        refine wa_aload_n (n := 0) rfl ?_
                        refine wb_gf5 158 rfl (wy_pr rfl) wt_158 wf_5_4 (v := 226) (((at572.2.2.2.2.2.2.2.1 158 4 (by decide) (by decide) (by decide) (by decide) (by decide) (Or.inl (by decide)) (Or.inl (by decide)) (Or.inl (by decide))).trans (l4))) (fun r574 => ?_)
                        refine wa_iload_n (n := 1) rfl ?_
                        refine wa_aload_n (n := 0) rfl ?_
                        refine wb_gfi 158 rfl (wy_pr rfl) wt_158 wf_5_8 (v := ba) (((at572.2.2.2.2.2.2.2.1 158 8 (by decide) (by decide) (by decide) (by decide) (by decide) (Or.inl (by decide)) (Or.inl (by decide)) (Or.inl (by decide))).trans (l8))) (fun r575 => ?_)
                        refine wa_iconst ?_
                        refine wa_iload (n := 6) rfl ?_
                        refine wa_i2l (w_rg0 (by omega) (by omega)) ?_
                        refine wa_iconst ?_
                        refine wa_cv 226 rfl (wy_pr rfl) wt_226 (M2 := mS [138, 139, 141, 142]) rfl at_XK_enter ⟨_, rfl⟩ rfl rfl ⟨trivial, trivial, (Or.inr ⟨wy_pr rfl, mS_no rfl⟩), trivial, trivial, trivial⟩ trivial (fun _ _ q => mS_sub (by decide) q) (en_226 (S := Sq572) (fn := fn) (pl := ba) (kd := 4) (bt := n) (nw := 1) (cs := (cs + 0)) (n := nc) (u0 := u0 + 1) (v0 := v0) (c := c) (p := p) (h := h) (f := f) (ar := ar) (vs := vs) (pn := pn) (CL_at hC at572) at572.2.2.2.2.2.2.2.2.1 ((by rw [at572.2.2.2.1, show _ = _ from (h2)])) ⟨by omega, by omega⟩ at572f.1 ⟨by omega, by omega⟩ (by rw [show _ = _ from (((at572.2.2.2.2.2.2.2.1 139 (-1) (by decide) (by decide) (by decide) (by decide) (by decide) (Or.inl (by decide)) (Or.inl (by decide)) (Or.inl (by decide))).trans (hcl))), show _ = _ from (((at572.2.2.2.2.2.2.2.1 138 (-1) (by decide) (by decide) (by decide) (by decide) (by decide) (Or.inl (by decide)) (Or.inl (by decide)) (Or.inl (by decide))).trans (rfl)))]) (((at572.2.2.2.2.2.2.2.1 72 5 (by decide) (by decide) (by decide) (by decide) (by decide) (Or.inr (by decide)) (Or.inl (by decide)) (Or.inl (by decide))).trans (hm))) ⟨by omega, by rw [show _ = _ from (((at572.2.2.2.2.2.2.2.1 138 (-1) (by decide) (by decide) (by decide) (by decide) (by decide) (Or.inl (by decide)) (Or.inl (by decide)) (Or.inl (by decide))).trans (rfl)))]; omega⟩ (by rw [show _ = _ from (((at572.2.2.2.2.2.2.2.1 138 (-1) (by decide) (by decide) (by decide) (by decide) (by decide) (Or.inl (by decide)) (Or.inl (by decide)) (Or.inl (by decide))).trans (rfl)))]; exact hm2) ((by rw [at572.1.2, show _ = _ from (hu0)])) ⟨by omega, by omega⟩ (((at572.2.2.2.2.2.2.2.1 150 1 (by decide) (by decide) (by decide) (by decide) (by decide) (Or.inl (by decide)) (Or.inl (by decide)) (Or.inr (by decide))).trans (hv0))) ⟨by omega, by omega⟩ ⟨at572.2.2.2.2.2.2.1.1 2 (by decide), at572.2.2.2.2.2.2.1.1 9 (by decide)⟩ ⟨by omega, by omega⟩ ((at572.2.2.1 2 (by decide) fn (by omega) (by rw [show _ = _ from (hn)]; omega)).trans hf) hf1 ((at572.2.2.1 9 (by decide) fn (by omega) (by rw [show _ = _ from (hn)]; omega)).trans har) (((at572.2.2.2.2.2.2.2.1 23 f (by decide) (by decide) (by decide) (by decide) (by decide) (Or.inl (by decide)) (Or.inl (by decide)) (Or.inl (by decide))).trans (hvs))) hvs1 (((at572.2.2.2.2.2.2.2.1 22 f (by decide) (by decide) (by decide) (by decide) (by decide) (Or.inl (by decide)) (Or.inl (by decide)) (Or.inl (by decide))).trans (hpn))) hpn1 (((at572.2.2.2.2.2.2.2.1 226 4 (by decide) (by decide) (by decide) (by decide) (by decide) (Or.inl (by decide)) (Or.inl (by decide)) (Or.inl (by decide))).trans (bc))) ⟨by omega, by omega⟩ (((at572.2.2.2.2.2.2.2.1 231 (c - 1) (by decide) (by decide) (by decide) (by decide) (by decide) (Or.inl (by decide)) (Or.inl (by decide)) (Or.inl (by decide))).trans (bp))) ⟨by omega, by omega⟩ (((at572.2.2.2.2.2.2.2.1 227 2 (by decide) (by decide) (by decide) (by decide) (by decide) (Or.inl (by decide)) (Or.inl (by decide)) (Or.inl (by decide))).trans (bh))) (by rw [show _ = _ from (((at572.2.2.2.2.2.2.2.1 228 (-1) (by decide) (by decide) (by decide) (by decide) (by decide) (Or.inl (by decide)) (Or.inl (by decide)) (Or.inl (by decide))).trans (rfl)))]; exact bh2) (by rw [show _ = _ from (((at572.2.2.2.2.2.2.2.1 229 (-1) (by decide) (by decide) (by decide) (by decide) (by decide) (Or.inl (by decide)) (Or.inl (by decide)) (Or.inl (by decide))).trans (bl1))), show _ = _ from (((at572.2.2.2.2.2.2.2.1 228 (-1) (by decide) (by decide) (by decide) (by decide) (by decide) (Or.inl (by decide)) (Or.inl (by decide)) (Or.inl (by decide))).trans (rfl)))]; exact ⟨rfl, bl3⟩) ⟨by omega, by omega⟩ (by omega) (by omega) (by decide) ⟨by omega, by omega⟩ (by decide)) (fun oq576 Sq576 hp577 q576 => ?_)
                        rcases q576 with ⟨rfl, hen⟩
                        show wJ _ _ _ _ _ _ _ _ _ _
                        refine wa_return rfl ?_
                        have ecs : Sq572 140 2 = (cs + 0) := ((by rw [at572.2.2.2.1, show _ = _ from (h2)]))
                        exact ⟨rfl, Or.inr (Or.inr (Or.inl ⟨by omega, by omega, by omega, by omega, Sq572, at572, by rw [ecs]; exact hen⟩))⟩
                      · skip
                        show wJ _ _ _ _ _ _ _ _ _ _
                        have hfA : ∀ j : Nat, (j = 129 ∨ j = 136) → j < 237 → Sq570 j fn = S j fn := fun j hj _ => hb570.2.2.2.2.1 j fn (by omega) (by omega) (by omega) (Or.inl (by omega)) (by omega) (by omega)
                        refine wa_istore (n := 5) rfl ?_
                        refine wa_aload_n (n := 0) rfl ?_
                        refine wb_gf4 158 rfl (wy_pr rfl) wt_158 wf_5_0 (v := 72) wl_158_0 ?_
                        refine wa_iconst ?_
                        refine wa_iload (n := 5) rfl ?_
                        refine wa_iconst ?_
                        refine wa_iconst ?_
                        have at578a : Sq570 141 (-1) = (S 141 (-1)) := (((hb570.2.2.2.2.1 141 (-1) (by first | decide | omega) (by first | decide | omega) (by first | decide | omega) (Or.inl (by first | decide | omega)) (Or.inl (by first | decide | omega)) (Or.inl (by first | decide | omega))).trans (rfl)))
                        have at578b : Sq570 142 (-1) = Sq570 141 (-1) := ((((hb570.2.2.2.2.1 142 (-1) (by first | decide | omega) (by first | decide | omega) (by first | decide | omega) (Or.inl (by first | decide | omega)) (Or.inl (by first | decide | omega)) (Or.inl (by first | decide | omega))).trans (hl14))) : Sq570 142 (-1) = (S 141 (-1))).trans at578a.symm
                        have at578c : Sq570 127 (-1) = (S 127 (-1)) := (((hb570.2.2.2.2.1 127 (-1) (by first | decide | omega) (by first | decide | omega) (by first | decide | omega) (Or.inl (by first | decide | omega)) (Or.inl (by first | decide | omega)) (Or.inl (by first | decide | omega))).trans (rfl)))
                        have at578d : ∀ x : Nat, x < 10 → Sq570 (127 + x) (-1) = Sq570 127 (-1) := (fun x hx => (hb570.2.2.2.2.1 (127 + x) (-1) (by omega) (by omega) (by omega) (Or.inr (by omega)) (by omega) (by omega)).trans ((hth x hx).trans (hb570.2.2.2.2.1 127 (-1) (by first | decide | omega) (by first | decide | omega) (by first | decide | omega) (Or.inl (by first | decide | omega)) (by first | decide | omega) (by first | decide | omega)).symm))
                        refine wa_cv 72 rfl (wy_pr rfl) wt_72 (M2 := mS [127, 128, 129, 130, 131, 132, 133, 134, 135, 136, 141, 142]) rfl at_XH_addThing ⟨_, rfl⟩ rfl rfl ⟨trivial, (Or.inr ⟨wy_pr rfl, mS_no rfl⟩), trivial, trivial, trivial⟩ trivial (fun _ _ q => mS_sub (by decide) q) (atH_ok (S := Sq570) (kd := 4) (sh := (H.length : Int)) (fo := (-1)) (rm := 0) (cs := cs) (n := n) (u0 := u0) (CL_bs hC hb570) hb570.2.2.2.2.2.1 (((hb570.2.2.2.2.1 140 2 (by decide) (by decide) (by decide) (Or.inl (by decide)) (Or.inl (by decide)) (Or.inl (by decide))).trans (h2))) ⟨by omega, by omega⟩ at578b ⟨by omega, by omega⟩ at578d (((hb570.2.2.2.2.1 72 3 (by decide) (by decide) (by decide) (Or.inl (by decide)) (Or.inr (by decide)) (Or.inl (by decide))).trans (hn))) ⟨by omega, by omega⟩ ⟨by omega, by omega⟩ (((hb570.2.2.2.2.1 150 0 (by decide) (by decide) (by decide) (Or.inl (by decide)) (Or.inl (by decide)) (Or.inr (by decide))).trans (hu0))) ⟨by omega, by omega⟩ ⟨by omega, by omega⟩ ⟨by omega, by omega⟩ ⟨by omega, by omega⟩ ⟨by omega, by omega⟩) (fun oq578 Sq578 hp579 q578 => ?_)
                        rcases q578 with ⟨rfl, at578⟩
                        show wJ _ _ _ _ _ _ _ _ _ _
                        have at578e := at578.2.2.2.2.2.2.1.2
                        have at578f := at578.2.2.2.2.2.1
                        refine wa_istore (n := 6) rfl ?_
                        refine wa_aload_n (n := 0) rfl ?_
                        refine wb_gf5 158 rfl (wy_pr rfl) wt_158 wf_5_4 (v := 226) (((at578.2.2.2.2.2.2.2.1 158 4 (by decide) (by decide) (by decide) (by decide) (by decide) (Or.inl (by decide)) (Or.inl (by decide)) (Or.inl (by decide))).trans (((hb570.2.2.2.2.1 158 4 (by decide) (by decide) (by decide) (Or.inl (by decide)) (Or.inl (by decide)) (Or.inl (by decide))).trans (l4))))) (fun r580 => ?_)
                        refine wa_iload_n (n := 1) rfl ?_
                        refine wa_aload_n (n := 0) rfl ?_
                        refine wb_gfi 158 rfl (wy_pr rfl) wt_158 wf_5_8 (v := ba) (((at578.2.2.2.2.2.2.2.1 158 8 (by decide) (by decide) (by decide) (by decide) (by decide) (Or.inl (by decide)) (Or.inl (by decide)) (Or.inl (by decide))).trans (((hb570.2.2.2.2.1 158 8 (by decide) (by decide) (by decide) (Or.inl (by decide)) (Or.inl (by decide)) (Or.inl (by decide))).trans (l8))))) (fun r581 => ?_)
                        refine wa_iconst ?_
                        refine wa_iload (n := 6) rfl ?_
                        refine wa_i2l (w_rg0 (by omega) (by omega)) ?_
                        refine wa_iconst ?_
                        have eg140 : Sq570 140 2 = cs := (((hb570.2.2.2.2.1 140 2 (by first | decide | omega) (by first | decide | omega) (by first | decide | omega) (Or.inl (by first | decide | omega)) (Or.inl (by first | decide | omega)) (Or.inl (by first | decide | omega))).trans (h2)))
                        refine wa_cv 226 rfl (wy_pr rfl) wt_226 (M2 := mS [138, 139, 141, 142]) rfl at_XK_enter ⟨_, rfl⟩ rfl rfl ⟨trivial, trivial, (Or.inr ⟨wy_pr rfl, mS_no rfl⟩), trivial, trivial, trivial⟩ trivial (fun _ _ q => mS_sub (by decide) q) (en_226 (S := Sq578) (fn := fn) (pl := ba) (kd := 4) (bt := n) (nw := 1) (cs := (cs + 0)) (n := nc) (u0 := u0 + 1) (v0 := v0) (c := c) (p := p) (h := h) (f := f) (ar := ar) (vs := vs) (pn := pn) (CL_at (CL_bs hC hb570) at578) at578.2.2.2.2.2.2.2.2.1 ((by rw [at578.2.2.2.1, show _ = _ from (((hb570.2.2.2.2.1 140 2 (by decide) (by decide) (by decide) (Or.inl (by decide)) (Or.inl (by decide)) (Or.inl (by decide))).trans (h2)))])) ⟨by omega, by omega⟩ at578f.1 ⟨by omega, by omega⟩ (by rw [show _ = _ from (((at578.2.2.2.2.2.2.2.1 139 (-1) (by decide) (by decide) (by decide) (by decide) (by decide) (Or.inl (by decide)) (Or.inl (by decide)) (Or.inl (by decide))).trans (((hb570.2.2.2.2.1 139 (-1) (by decide) (by decide) (by decide) (Or.inl (by decide)) (Or.inl (by decide)) (Or.inl (by decide))).trans (hcl))))), show _ = _ from (((at578.2.2.2.2.2.2.2.1 138 (-1) (by decide) (by decide) (by decide) (by decide) (by decide) (Or.inl (by decide)) (Or.inl (by decide)) (Or.inl (by decide))).trans (((hb570.2.2.2.2.1 138 (-1) (by decide) (by decide) (by decide) (Or.inl (by decide)) (Or.inl (by decide)) (Or.inl (by decide))).trans (rfl)))))]) (((at578.2.2.2.2.2.2.2.1 72 5 (by decide) (by decide) (by decide) (by decide) (by decide) (Or.inr (by decide)) (Or.inl (by decide)) (Or.inl (by decide))).trans (((hb570.2.2.2.2.1 72 5 (by decide) (by decide) (by decide) (Or.inl (by decide)) (Or.inr (by decide)) (Or.inl (by decide))).trans (hm))))) ⟨by omega, by rw [show _ = _ from (((at578.2.2.2.2.2.2.2.1 138 (-1) (by decide) (by decide) (by decide) (by decide) (by decide) (Or.inl (by decide)) (Or.inl (by decide)) (Or.inl (by decide))).trans (((hb570.2.2.2.2.1 138 (-1) (by decide) (by decide) (by decide) (Or.inl (by decide)) (Or.inl (by decide)) (Or.inl (by decide))).trans (rfl)))))]; omega⟩ (by rw [show _ = _ from (((at578.2.2.2.2.2.2.2.1 138 (-1) (by decide) (by decide) (by decide) (by decide) (by decide) (Or.inl (by decide)) (Or.inl (by decide)) (Or.inl (by decide))).trans (((hb570.2.2.2.2.1 138 (-1) (by decide) (by decide) (by decide) (Or.inl (by decide)) (Or.inl (by decide)) (Or.inl (by decide))).trans (rfl)))))]; exact hm2) ((by rw [at578.1.2, show _ = _ from (((hb570.2.2.2.2.1 150 0 (by decide) (by decide) (by decide) (Or.inl (by decide)) (Or.inl (by decide)) (Or.inr (by decide))).trans (hu0)))])) ⟨by omega, by omega⟩ (((at578.2.2.2.2.2.2.2.1 150 1 (by decide) (by decide) (by decide) (by decide) (by decide) (Or.inl (by decide)) (Or.inl (by decide)) (Or.inr (by decide))).trans (((hb570.2.2.2.2.1 150 1 (by decide) (by decide) (by decide) (Or.inl (by decide)) (Or.inl (by decide)) (Or.inr (by decide))).trans (hv0))))) ⟨by omega, by omega⟩ ⟨at578.2.2.2.2.2.2.1.1 2 (by decide), at578.2.2.2.2.2.2.1.1 9 (by decide)⟩ ⟨by omega, by omega⟩ ((at578.2.2.1 2 (by decide) fn (by omega) (by rw [show _ = _ from (((hb570.2.2.2.2.1 72 3 (by decide) (by decide) (by decide) (Or.inl (by decide)) (Or.inr (by decide)) (Or.inl (by decide))).trans (hn)))]; omega)).trans ((hfA 129 (by decide) (by decide)).trans hf)) hf1 ((at578.2.2.1 9 (by decide) fn (by omega) (by rw [show _ = _ from (((hb570.2.2.2.2.1 72 3 (by decide) (by decide) (by decide) (Or.inl (by decide)) (Or.inr (by decide)) (Or.inl (by decide))).trans (hn)))]; omega)).trans ((hfA 136 (by decide) (by decide)).trans har)) (((at578.2.2.2.2.2.2.2.1 23 f (by decide) (by decide) (by decide) (by decide) (by decide) (Or.inl (by decide)) (Or.inl (by decide)) (Or.inl (by decide))).trans (((hb570.2.2.2.2.1 23 f (by decide) (by decide) (by decide) (Or.inl (by decide)) (Or.inl (by decide)) (Or.inl (by decide))).trans (hvs))))) hvs1 (((at578.2.2.2.2.2.2.2.1 22 f (by decide) (by decide) (by decide) (by decide) (by decide) (Or.inl (by decide)) (Or.inl (by decide)) (Or.inl (by decide))).trans (((hb570.2.2.2.2.1 22 f (by decide) (by decide) (by decide) (Or.inl (by decide)) (Or.inl (by decide)) (Or.inl (by decide))).trans (hpn))))) hpn1 (((at578.2.2.2.2.2.2.2.1 226 4 (by decide) (by decide) (by decide) (by decide) (by decide) (Or.inl (by decide)) (Or.inl (by decide)) (Or.inl (by decide))).trans (((hb570.2.2.2.2.1 226 4 (by decide) (by decide) (by decide) (Or.inl (by decide)) (Or.inl (by decide)) (Or.inl (by decide))).trans (bc))))) ⟨by omega, by omega⟩ (((at578.2.2.2.2.2.2.2.1 231 (c - 1) (by decide) (by decide) (by decide) (by decide) (by decide) (Or.inl (by decide)) (Or.inl (by decide)) (Or.inl (by decide))).trans (((hb570.2.2.2.2.1 231 (c - 1) (by decide) (by decide) (by decide) (Or.inl (by decide)) (Or.inl (by decide)) (Or.inl (by decide))).trans (bp))))) ⟨by omega, by omega⟩ (((at578.2.2.2.2.2.2.2.1 227 2 (by decide) (by decide) (by decide) (by decide) (by decide) (Or.inl (by decide)) (Or.inl (by decide)) (Or.inl (by decide))).trans (((hb570.2.2.2.2.1 227 2 (by decide) (by decide) (by decide) (Or.inl (by decide)) (Or.inl (by decide)) (Or.inl (by decide))).trans (bh))))) (by rw [show _ = _ from (((at578.2.2.2.2.2.2.2.1 228 (-1) (by decide) (by decide) (by decide) (by decide) (by decide) (Or.inl (by decide)) (Or.inl (by decide)) (Or.inl (by decide))).trans (((hb570.2.2.2.2.1 228 (-1) (by decide) (by decide) (by decide) (Or.inl (by decide)) (Or.inl (by decide)) (Or.inl (by decide))).trans (rfl)))))]; exact bh2) (by rw [show _ = _ from (((at578.2.2.2.2.2.2.2.1 229 (-1) (by decide) (by decide) (by decide) (by decide) (by decide) (Or.inl (by decide)) (Or.inl (by decide)) (Or.inl (by decide))).trans (((hb570.2.2.2.2.1 229 (-1) (by decide) (by decide) (by decide) (Or.inl (by decide)) (Or.inl (by decide)) (Or.inl (by decide))).trans (bl1))))), show _ = _ from (((at578.2.2.2.2.2.2.2.1 228 (-1) (by decide) (by decide) (by decide) (by decide) (by decide) (Or.inl (by decide)) (Or.inl (by decide)) (Or.inl (by decide))).trans (((hb570.2.2.2.2.1 228 (-1) (by decide) (by decide) (by decide) (Or.inl (by decide)) (Or.inl (by decide)) (Or.inl (by decide))).trans (rfl)))))]; exact ⟨rfl, bl3⟩) ⟨by omega, by omega⟩ (by omega) (by omega) (by decide) ⟨by omega, by omega⟩ (by decide)) (fun oq582 Sq582 hp583 q582 => ?_)
                        rcases q582 with ⟨rfl, hen⟩
                        show wJ _ _ _ _ _ _ _ _ _ _
                        refine wa_return rfl ?_
                        have ecs : Sq578 140 2 = (cs + 0) := ((by rw [at578.2.2.2.1, show _ = _ from (((hb570.2.2.2.2.1 140 2 (by first | decide | omega) (by first | decide | omega) (by first | decide | omega) (Or.inl (by first | decide | omega)) (Or.inl (by first | decide | omega)) (Or.inl (by first | decide | omega))).trans (h2)))]))
                        exact ⟨rfl, Or.inr (Or.inr (Or.inr ⟨by omega, by omega, by omega, by omega, by omega, Sq570, Sq578, hb570, at578, by rw [ecs]; exact hen⟩))⟩
                    · skip
                      exact absurd c569 (by omega)
    · skip
      exact absurd c504 (by omega)
  · skip
    show wJ _ _ _ _ _ _ _ _ _ _
    refine wa_ifne (w_rg0 (by omega) (by omega)) ⟨_, rfl⟩ (fun c584 => ?_) (fun c584 => ?_)
    · skip
      exact absurd c584 (by omega)
    · skip
      refine wa_return rfl ?_
      exact ⟨rfl, Or.inl ⟨by omega, rfl⟩⟩
  · skip
    show wJ _ _ _ _ _ _ _ _ _ _
    refine wa_ifne (w_rg0 (by omega) (by omega)) ⟨_, rfl⟩ (fun c585 => ?_) (fun c585 => ?_)
    · skip
      exact absurd c585 (by omega)
    · skip
      refine wa_return rfl ?_
      exact ⟨rfl, Or.inr (Or.inl ⟨by omega, by omega, rfl⟩)⟩
end Wgo
