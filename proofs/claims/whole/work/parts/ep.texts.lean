/-! PART ep: texts compared, by instructions of both. -/
section Wep
variable {xs : List (Nat × List Int32)} {M : Nat → Prop} {d : Nat} {S Z : wS} {l1 l2 : List Int}
theorem x14t_215 {c p h vx vy s1 s2 : Int} (hP : xP 215 c p h S) (hky : S 217 (h - 1) = 3) (hvy : S 218 (h - 1) = vy) (hkx : S 217 (h - 1 - 1) = 3) (hvx : S 218 (h - 1 - 1) = vx) (hh1 : 2 ≤ h) (hs1 : 0 ≤ s1 ∧ s1 + (l1.length : Int) ≤ S 3 (-1)) (hs2 : 0 ≤ s2 ∧ s2 + (l2.length : Int) ≤ S 3 (-1)) (hz : S 3 (-1) ≤ 10000000) (e1 : ∀ i : Nat, i < l1.length → S 3 (s1 + (i : Int)) = l1.getD i 0) (e2 : ∀ i : Nat, i < l2.length → S 3 (s2 + (i : Int)) = l2.getD i 0) (hv1 : vx = s1 * 4294967296 + (l1.length : Int)) (hv2 : vy = s2 * 4294967296 + (l2.length : Int)) (hr : -1000000 ≤ cmpL l1 l2 ∧ cmpL l1 l2 ≤ 1000000) : wJ (pe_GA xs) wY0 (mS [217, 218]) (d + 11) t_XK_operate ((pe_at t_XK_operate.bl 0).getD (0, [])).2 [(0, (2, 215)), (1, (0, 14))] [] S (fun o Z => o = .inl none ∧ sO 215 h c p (2) (1) (if cmpL l1 l2 = 0 then 1 else 0) S Z) := by
  obtain ⟨⟨hC, hI⟩, ⟨bc, bc0, bc1⟩, ⟨bp, bp0, bp1⟩, ⟨bh, bh0, bh1, bh2⟩, bl1, bl2, bl3⟩ := hP
  replace bp : S 220 (c - 1) = p := bp
  replace bh : S 216 2 = h := bh
  replace bh2 : h ≤ S 217 (-1) := bh2
  replace bl1 : S 218 (-1) = S 217 (-1) := bl1
  replace bl2 : 64 ≤ S 217 (-1) := bl2
  replace bl3 : S 217 (-1) ≤ 4095 := bl3
  refine wa_aload_n (n := 0) rfl ?_
  refine wb_gf4 215 rfl (wy_pr rfl) wt_215 wf_8_3 (v := 216) wl_215_3 ?_
  refine wb_gfi 216 rfl (wy_pr rfl) wt_216 wf_7_2 (v := h) (bh) (fun r1 => ?_)
  refine wa_iconst ?_
  refine wa_isub ?_
  refine wa_istore_n (n := 2) rfl ?_
  refine wa_iload_n (n := 1) rfl ?_
  refine wa_bipush (w_rg2 (by omega) (by omega)) ?_
  refine wa_icmpne (w_rg0 (by omega) (by omega)) (w_rg0 (by omega) (by omega)) ⟨_, rfl⟩ (fun c2 => ?_) (fun c2 => ?_)
  · skip
    refine wa_iload_n (n := 1) rfl ?_
    refine wa_bipush (w_rg2 (by omega) (by omega)) ?_
    refine wa_icmpne (w_rg0 (by omega) (by omega)) (w_rg0 (by omega) (by omega)) ⟨_, rfl⟩ (fun c3 => ?_) (fun c3 => ?_)
    · skip
      refine wa_iload_n (n := 1) rfl ?_
      refine wa_bipush (w_rg2 (by omega) (by omega)) ?_
      refine wa_icmpeq (w_rg0 (by omega) (by omega)) (w_rg0 (by omega) (by omega)) ⟨_, rfl⟩ (fun c4 => ?_) (fun c4 => ?_)
      · skip
        refine wa_aload_n (n := 0) rfl ?_
        refine wa_iconst ?_
        refine wa_iconst ?_
        refine wa_aload_n (n := 0) rfl ?_
        refine wa_iload_n (n := 2) rfl ?_
        refine wa_iconst ?_
        refine wa_isub ?_
        refine wa_iload_n (n := 2) rfl ?_
        refine wa_cv 215 rfl (wy_pr rfl) wt_215 (M2 := mS [217, 218]) rfl at_XK_areEqual ⟨_, rfl⟩ rfl rfl ⟨trivial, (Or.inr ⟨wy_pr rfl, mS_no rfl⟩), trivial, trivial⟩ ⟨trivial, trivial, (Or.inr ⟨wy_pr rfl, mS_no rfl⟩), trivial⟩ (fun _ _ q => q) ?_ (fun _ _ _ q => q)
        refine wa_aload_n (n := 0) rfl ?_
        refine wb_gf4 215 rfl (wy_pr rfl) wt_215 wf_8_3 (v := 216) wl_215_3 ?_
        refine wb_gf4 216 rfl (wy_pr rfl) wt_216 wf_7_0 (v := 217) wl_216_0 ?_
        refine wa_iload_n (n := 1) rfl ?_
        refine wb_bald 217 rfl (wy_pr rfl) wt_217 (n := (S 217 (-1))) (rfl) (by omega) (by omega) (v := 3) (hkx) (fun r5 => ?_)
        refine wa_aload_n (n := 0) rfl ?_
        refine wb_gf4 215 rfl (wy_pr rfl) wt_215 wf_8_3 (v := 216) wl_215_3 ?_
        refine wb_gf4 216 rfl (wy_pr rfl) wt_216 wf_7_0 (v := 217) wl_216_0 ?_
        refine wa_iload_n (n := 2) rfl ?_
        refine wb_bald 217 rfl (wy_pr rfl) wt_217 (n := (S 217 (-1))) (rfl) (by omega) (by omega) (v := 3) (hky) (fun r6 => ?_)
        refine wa_icmpeq (w_rg0 (by omega) (by omega)) (w_rg0 (by omega) (by omega)) ⟨_, rfl⟩ (fun c7 => ?_) (fun c7 => ?_)
        · skip
          refine wa_aload_n (n := 0) rfl ?_
          refine wb_gf4 215 rfl (wy_pr rfl) wt_215 wf_8_3 (v := 216) wl_215_3 ?_
          refine wb_gf4 216 rfl (wy_pr rfl) wt_216 wf_7_0 (v := 217) wl_216_0 ?_
          refine wa_iload_n (n := 1) rfl ?_
          refine wb_bald 217 rfl (wy_pr rfl) wt_217 (n := (S 217 (-1))) (rfl) (by omega) (by omega) (v := 3) (hkx) (fun r8 => ?_)
          refine wa_iconst ?_
          refine wa_icmpne (w_rg0 (by omega) (by omega)) (w_rg0 (by omega) (by omega)) ⟨_, rfl⟩ (fun c9 => ?_) (fun c9 => ?_)
          · skip
            exact absurd c9 (by omega)
          · skip
            refine wa_aload_n (n := 0) rfl ?_
            refine wb_gf4 215 rfl (wy_pr rfl) wt_215 wf_8_0 (v := 72) wl_215_0 ?_
            refine wb_gf4 72 rfl (wy_pr rfl) wt_72 wf_2_0 (v := 2) wl_72_0 ?_
            refine wa_aload_n (n := 0) rfl ?_
            refine wb_gf4 215 rfl (wy_pr rfl) wt_215 wf_8_3 (v := 216) wl_215_3 ?_
            refine wb_gf4 216 rfl (wy_pr rfl) wt_216 wf_7_1 (v := 218) wl_216_1 ?_
            refine wa_iload_n (n := 1) rfl ?_
            refine wb_lald 218 rfl (wy_pr rfl) wt_218 (n := (S 217 (-1))) (bl1) (by omega) (by omega) (v := vx) (hvx) (fun r10 => ?_)
            refine wa_aload_n (n := 0) rfl ?_
            refine wb_gf4 215 rfl (wy_pr rfl) wt_215 wf_8_3 (v := 216) wl_215_3 ?_
            refine wb_gf4 216 rfl (wy_pr rfl) wt_216 wf_7_1 (v := 218) wl_216_1 ?_
            refine wa_iload_n (n := 2) rfl ?_
            refine wb_lald 218 rfl (wy_pr rfl) wt_218 (n := (S 217 (-1))) (bl1) (by omega) (by omega) (v := vy) (hvy) (fun r11 => ?_)
            refine wa_cv 2 rfl (wy_pr rfl) wt_2 (M2 := fun _ => False) rfl at_XW_compare ⟨_, rfl⟩ rfl rfl ⟨(Or.inr ⟨wy_pr rfl, fun q => q⟩), trivial, trivial, trivial⟩ trivial (fun _ _ q => False.elim q) (cp_ok (S := S) hs1 hs2 hz e1 e2 hv1 hv2) (fun oq12 Sq12 hp13 q12 => ?_)
            rcases q12 with ⟨rfl, rfl⟩
            show wJ _ _ _ _ _ _ _ _ _ _
            refine wa_ifne (w_rg0 (by omega) (by omega)) ⟨_, rfl⟩ (fun c14 => ?_) (fun c14 => ?_)
            · skip
              refine wa_iconst ?_
              refine wa_fall ⟨_, rfl⟩ ?_
              refine wa_zreturn rfl (Or.inl rfl) ?_
              show wJ _ _ _ _ _ _ _ _ _ _
              refine wa_iload_n (n := 1) rfl ?_
              refine wa_bipush (w_rg2 (by omega) (by omega)) ?_
              refine wa_icmpne (w_rg0 (by omega) (by omega)) (w_rg0 (by omega) (by omega)) ⟨_, rfl⟩ (fun c15 => ?_) (fun c15 => ?_)
              · skip
                exact absurd c15 (by omega)
              · skip
                refine wa_iconst ?_
                refine wa_goto ⟨_, rfl⟩ ?_
                refine wa_icmpne (w_rg0 (by omega) (by omega)) (w_rg0 (by omega) (by omega)) ⟨_, rfl⟩ (fun c16 => ?_) (fun c16 => ?_)
                · skip
                  refine wb_lconst (m := 0) rfl ?_
                  refine wa_fall ⟨_, rfl⟩ ?_
                  refine wa_cv 215 rfl (wy_pr rfl) wt_215 (M2 := mS [217, 218]) rfl at_XK_give ⟨_, rfl⟩ rfl rfl ⟨trivial, (Or.inr ⟨wy_pr rfl, mS_no rfl⟩), trivial, trivial⟩ trivial (fun _ _ q => q) (gw_215 (S := S) (n := 2) (k := 1) (v := 0) (h := h) (c := c) (p := p) (ln := (S 217 (-1))) hC hI ⟨by omega, by omega⟩ ⟨by omega, by omega⟩ (bh) (bc) (bp) (rfl) (bl1) ⟨by omega, by omega⟩ ⟨by omega, by omega, by omega⟩ ⟨by omega, by omega⟩ ⟨by omega, by omega⟩) (fun oq17 Sq17 hp18 q17 => ?_)
                  rcases q17 with ⟨rfl, A17, ra17, rfl⟩
                  show wJ _ _ _ _ _ _ _ _ _ _
                  refine wa_goto ⟨_, rfl⟩ ?_
                  refine wa_return rfl ?_
                  refine ⟨rfl, A17, ?_, rfl⟩
                  repeat (first | rw [if_pos (by omega)] | rw [if_neg (by omega)])
                  exact ra17
                · skip
                  exact absurd c16 (by omega)
            · skip
              refine wa_iconst ?_
              refine wa_goto ⟨_, rfl⟩ ?_
              refine wa_zreturn rfl (Or.inr rfl) ?_
              show wJ _ _ _ _ _ _ _ _ _ _
              refine wa_iload_n (n := 1) rfl ?_
              refine wa_bipush (w_rg2 (by omega) (by omega)) ?_
              refine wa_icmpne (w_rg0 (by omega) (by omega)) (w_rg0 (by omega) (by omega)) ⟨_, rfl⟩ (fun c19 => ?_) (fun c19 => ?_)
              · skip
                exact absurd c19 (by omega)
              · skip
                refine wa_iconst ?_
                refine wa_goto ⟨_, rfl⟩ ?_
                refine wa_icmpne (w_rg0 (by omega) (by omega)) (w_rg0 (by omega) (by omega)) ⟨_, rfl⟩ (fun c20 => ?_) (fun c20 => ?_)
                · skip
                  exact absurd c20 (by omega)
                · skip
                  refine wb_lconst (m := 1) rfl ?_
                  refine wa_goto ⟨_, rfl⟩ ?_
                  refine wa_cv 215 rfl (wy_pr rfl) wt_215 (M2 := mS [217, 218]) rfl at_XK_give ⟨_, rfl⟩ rfl rfl ⟨trivial, (Or.inr ⟨wy_pr rfl, mS_no rfl⟩), trivial, trivial⟩ trivial (fun _ _ q => q) (gw_215 (S := S) (n := 2) (k := 1) (v := 1) (h := h) (c := c) (p := p) (ln := (S 217 (-1))) hC hI ⟨by omega, by omega⟩ ⟨by omega, by omega⟩ (bh) (bc) (bp) (rfl) (bl1) ⟨by omega, by omega⟩ ⟨by omega, by omega, by omega⟩ ⟨by omega, by omega⟩ ⟨by omega, by omega⟩) (fun oq21 Sq21 hp22 q21 => ?_)
                  rcases q21 with ⟨rfl, A21, ra21, rfl⟩
                  show wJ _ _ _ _ _ _ _ _ _ _
                  refine wa_goto ⟨_, rfl⟩ ?_
                  refine wa_return rfl ?_
                  refine ⟨rfl, A21, ?_, rfl⟩
                  repeat (first | rw [if_pos (by omega)] | rw [if_neg (by omega)])
                  exact ra21
        · skip
          exact absurd c7 (by omega)
      · skip
        exact absurd c4 (by omega)
    · skip
      exact absurd c3 (by omega)
  · skip
    exact absurd c2 (by omega)
theorem x15t_215 {c p h vx vy s1 s2 : Int} (hP : xP 215 c p h S) (hky : S 217 (h - 1) = 3) (hvy : S 218 (h - 1) = vy) (hkx : S 217 (h - 1 - 1) = 3) (hvx : S 218 (h - 1 - 1) = vx) (hh1 : 2 ≤ h) (hs1 : 0 ≤ s1 ∧ s1 + (l1.length : Int) ≤ S 3 (-1)) (hs2 : 0 ≤ s2 ∧ s2 + (l2.length : Int) ≤ S 3 (-1)) (hz : S 3 (-1) ≤ 10000000) (e1 : ∀ i : Nat, i < l1.length → S 3 (s1 + (i : Int)) = l1.getD i 0) (e2 : ∀ i : Nat, i < l2.length → S 3 (s2 + (i : Int)) = l2.getD i 0) (hv1 : vx = s1 * 4294967296 + (l1.length : Int)) (hv2 : vy = s2 * 4294967296 + (l2.length : Int)) (hr : -1000000 ≤ cmpL l1 l2 ∧ cmpL l1 l2 ≤ 1000000) : wJ (pe_GA xs) wY0 (mS [217, 218]) (d + 11) t_XK_operate ((pe_at t_XK_operate.bl 0).getD (0, [])).2 [(0, (2, 215)), (1, (0, 15))] [] S (fun o Z => o = .inl none ∧ sO 215 h c p (2) (1) (if cmpL l1 l2 = 0 then 0 else 1) S Z) := by
  obtain ⟨⟨hC, hI⟩, ⟨bc, bc0, bc1⟩, ⟨bp, bp0, bp1⟩, ⟨bh, bh0, bh1, bh2⟩, bl1, bl2, bl3⟩ := hP
  replace bp : S 220 (c - 1) = p := bp
  replace bh : S 216 2 = h := bh
  replace bh2 : h ≤ S 217 (-1) := bh2
  replace bl1 : S 218 (-1) = S 217 (-1) := bl1
  replace bl2 : 64 ≤ S 217 (-1) := bl2
  replace bl3 : S 217 (-1) ≤ 4095 := bl3
  refine wa_aload_n (n := 0) rfl ?_
  refine wb_gf4 215 rfl (wy_pr rfl) wt_215 wf_8_3 (v := 216) wl_215_3 ?_
  refine wb_gfi 216 rfl (wy_pr rfl) wt_216 wf_7_2 (v := h) (bh) (fun r1 => ?_)
  refine wa_iconst ?_
  refine wa_isub ?_
  refine wa_istore_n (n := 2) rfl ?_
  refine wa_iload_n (n := 1) rfl ?_
  refine wa_bipush (w_rg2 (by omega) (by omega)) ?_
  refine wa_icmpne (w_rg0 (by omega) (by omega)) (w_rg0 (by omega) (by omega)) ⟨_, rfl⟩ (fun c2 => ?_) (fun c2 => ?_)
  · skip
    refine wa_iload_n (n := 1) rfl ?_
    refine wa_bipush (w_rg2 (by omega) (by omega)) ?_
    refine wa_icmpne (w_rg0 (by omega) (by omega)) (w_rg0 (by omega) (by omega)) ⟨_, rfl⟩ (fun c3 => ?_) (fun c3 => ?_)
    · skip
      refine wa_iload_n (n := 1) rfl ?_
      refine wa_bipush (w_rg2 (by omega) (by omega)) ?_
      refine wa_icmpeq (w_rg0 (by omega) (by omega)) (w_rg0 (by omega) (by omega)) ⟨_, rfl⟩ (fun c4 => ?_) (fun c4 => ?_)
      · skip
        exact absurd c4 (by omega)
      · skip
        refine wa_iload_n (n := 1) rfl ?_
        refine wa_bipush (w_rg2 (by omega) (by omega)) ?_
        refine wa_icmpne (w_rg0 (by omega) (by omega)) (w_rg0 (by omega) (by omega)) ⟨_, rfl⟩ (fun c5 => ?_) (fun c5 => ?_)
        · skip
          exact absurd c5 (by omega)
        · skip
          refine wa_fall ⟨_, rfl⟩ ?_
          refine wa_aload_n (n := 0) rfl ?_
          refine wa_iconst ?_
          refine wa_iconst ?_
          refine wa_aload_n (n := 0) rfl ?_
          refine wa_iload_n (n := 2) rfl ?_
          refine wa_iconst ?_
          refine wa_isub ?_
          refine wa_iload_n (n := 2) rfl ?_
          refine wa_cv 215 rfl (wy_pr rfl) wt_215 (M2 := mS [217, 218]) rfl at_XK_areEqual ⟨_, rfl⟩ rfl rfl ⟨trivial, (Or.inr ⟨wy_pr rfl, mS_no rfl⟩), trivial, trivial⟩ ⟨trivial, trivial, (Or.inr ⟨wy_pr rfl, mS_no rfl⟩), trivial⟩ (fun _ _ q => q) ?_ (fun _ _ _ q => q)
          refine wa_aload_n (n := 0) rfl ?_
          refine wb_gf4 215 rfl (wy_pr rfl) wt_215 wf_8_3 (v := 216) wl_215_3 ?_
          refine wb_gf4 216 rfl (wy_pr rfl) wt_216 wf_7_0 (v := 217) wl_216_0 ?_
          refine wa_iload_n (n := 1) rfl ?_
          refine wb_bald 217 rfl (wy_pr rfl) wt_217 (n := (S 217 (-1))) (rfl) (by omega) (by omega) (v := 3) (hkx) (fun r6 => ?_)
          refine wa_aload_n (n := 0) rfl ?_
          refine wb_gf4 215 rfl (wy_pr rfl) wt_215 wf_8_3 (v := 216) wl_215_3 ?_
          refine wb_gf4 216 rfl (wy_pr rfl) wt_216 wf_7_0 (v := 217) wl_216_0 ?_
          refine wa_iload_n (n := 2) rfl ?_
          refine wb_bald 217 rfl (wy_pr rfl) wt_217 (n := (S 217 (-1))) (rfl) (by omega) (by omega) (v := 3) (hky) (fun r7 => ?_)
          refine wa_icmpeq (w_rg0 (by omega) (by omega)) (w_rg0 (by omega) (by omega)) ⟨_, rfl⟩ (fun c8 => ?_) (fun c8 => ?_)
          · skip
            refine wa_aload_n (n := 0) rfl ?_
            refine wb_gf4 215 rfl (wy_pr rfl) wt_215 wf_8_3 (v := 216) wl_215_3 ?_
            refine wb_gf4 216 rfl (wy_pr rfl) wt_216 wf_7_0 (v := 217) wl_216_0 ?_
            refine wa_iload_n (n := 1) rfl ?_
            refine wb_bald 217 rfl (wy_pr rfl) wt_217 (n := (S 217 (-1))) (rfl) (by omega) (by omega) (v := 3) (hkx) (fun r9 => ?_)
            refine wa_iconst ?_
            refine wa_icmpne (w_rg0 (by omega) (by omega)) (w_rg0 (by omega) (by omega)) ⟨_, rfl⟩ (fun c10 => ?_) (fun c10 => ?_)
            · skip
              exact absurd c10 (by omega)
            · skip
              refine wa_aload_n (n := 0) rfl ?_
              refine wb_gf4 215 rfl (wy_pr rfl) wt_215 wf_8_0 (v := 72) wl_215_0 ?_
              refine wb_gf4 72 rfl (wy_pr rfl) wt_72 wf_2_0 (v := 2) wl_72_0 ?_
              refine wa_aload_n (n := 0) rfl ?_
              refine wb_gf4 215 rfl (wy_pr rfl) wt_215 wf_8_3 (v := 216) wl_215_3 ?_
              refine wb_gf4 216 rfl (wy_pr rfl) wt_216 wf_7_1 (v := 218) wl_216_1 ?_
              refine wa_iload_n (n := 1) rfl ?_
              refine wb_lald 218 rfl (wy_pr rfl) wt_218 (n := (S 217 (-1))) (bl1) (by omega) (by omega) (v := vx) (hvx) (fun r11 => ?_)
              refine wa_aload_n (n := 0) rfl ?_
              refine wb_gf4 215 rfl (wy_pr rfl) wt_215 wf_8_3 (v := 216) wl_215_3 ?_
              refine wb_gf4 216 rfl (wy_pr rfl) wt_216 wf_7_1 (v := 218) wl_216_1 ?_
              refine wa_iload_n (n := 2) rfl ?_
              refine wb_lald 218 rfl (wy_pr rfl) wt_218 (n := (S 217 (-1))) (bl1) (by omega) (by omega) (v := vy) (hvy) (fun r12 => ?_)
              refine wa_cv 2 rfl (wy_pr rfl) wt_2 (M2 := fun _ => False) rfl at_XW_compare ⟨_, rfl⟩ rfl rfl ⟨(Or.inr ⟨wy_pr rfl, fun q => q⟩), trivial, trivial, trivial⟩ trivial (fun _ _ q => False.elim q) (cp_ok (S := S) hs1 hs2 hz e1 e2 hv1 hv2) (fun oq13 Sq13 hp14 q13 => ?_)
              rcases q13 with ⟨rfl, rfl⟩
              show wJ _ _ _ _ _ _ _ _ _ _
              refine wa_ifne (w_rg0 (by omega) (by omega)) ⟨_, rfl⟩ (fun c15 => ?_) (fun c15 => ?_)
              · skip
                refine wa_iconst ?_
                refine wa_fall ⟨_, rfl⟩ ?_
                refine wa_zreturn rfl (Or.inl rfl) ?_
                show wJ _ _ _ _ _ _ _ _ _ _
                refine wa_iload_n (n := 1) rfl ?_
                refine wa_bipush (w_rg2 (by omega) (by omega)) ?_
                refine wa_icmpne (w_rg0 (by omega) (by omega)) (w_rg0 (by omega) (by omega)) ⟨_, rfl⟩ (fun c16 => ?_) (fun c16 => ?_)
                · skip
                  refine wa_iconst ?_
                  refine wa_fall ⟨_, rfl⟩ ?_
                  refine wa_icmpne (w_rg0 (by omega) (by omega)) (w_rg0 (by omega) (by omega)) ⟨_, rfl⟩ (fun c17 => ?_) (fun c17 => ?_)
                  · skip
                    exact absurd c17 (by omega)
                  · skip
                    refine wb_lconst (m := 1) rfl ?_
                    refine wa_goto ⟨_, rfl⟩ ?_
                    refine wa_cv 215 rfl (wy_pr rfl) wt_215 (M2 := mS [217, 218]) rfl at_XK_give ⟨_, rfl⟩ rfl rfl ⟨trivial, (Or.inr ⟨wy_pr rfl, mS_no rfl⟩), trivial, trivial⟩ trivial (fun _ _ q => q) (gw_215 (S := S) (n := 2) (k := 1) (v := 1) (h := h) (c := c) (p := p) (ln := (S 217 (-1))) hC hI ⟨by omega, by omega⟩ ⟨by omega, by omega⟩ (bh) (bc) (bp) (rfl) (bl1) ⟨by omega, by omega⟩ ⟨by omega, by omega, by omega⟩ ⟨by omega, by omega⟩ ⟨by omega, by omega⟩) (fun oq18 Sq18 hp19 q18 => ?_)
                    rcases q18 with ⟨rfl, A18, ra18, rfl⟩
                    show wJ _ _ _ _ _ _ _ _ _ _
                    refine wa_goto ⟨_, rfl⟩ ?_
                    refine wa_return rfl ?_
                    refine ⟨rfl, A18, ?_, rfl⟩
                    repeat (first | rw [if_pos (by omega)] | rw [if_neg (by omega)])
                    exact ra18
                · skip
                  exact absurd c16 (by omega)
              · skip
                refine wa_iconst ?_
                refine wa_goto ⟨_, rfl⟩ ?_
                refine wa_zreturn rfl (Or.inr rfl) ?_
                show wJ _ _ _ _ _ _ _ _ _ _
                refine wa_iload_n (n := 1) rfl ?_
                refine wa_bipush (w_rg2 (by omega) (by omega)) ?_
                refine wa_icmpne (w_rg0 (by omega) (by omega)) (w_rg0 (by omega) (by omega)) ⟨_, rfl⟩ (fun c20 => ?_) (fun c20 => ?_)
                · skip
                  refine wa_iconst ?_
                  refine wa_fall ⟨_, rfl⟩ ?_
                  refine wa_icmpne (w_rg0 (by omega) (by omega)) (w_rg0 (by omega) (by omega)) ⟨_, rfl⟩ (fun c21 => ?_) (fun c21 => ?_)
                  · skip
                    refine wb_lconst (m := 0) rfl ?_
                    refine wa_fall ⟨_, rfl⟩ ?_
                    refine wa_cv 215 rfl (wy_pr rfl) wt_215 (M2 := mS [217, 218]) rfl at_XK_give ⟨_, rfl⟩ rfl rfl ⟨trivial, (Or.inr ⟨wy_pr rfl, mS_no rfl⟩), trivial, trivial⟩ trivial (fun _ _ q => q) (gw_215 (S := S) (n := 2) (k := 1) (v := 0) (h := h) (c := c) (p := p) (ln := (S 217 (-1))) hC hI ⟨by omega, by omega⟩ ⟨by omega, by omega⟩ (bh) (bc) (bp) (rfl) (bl1) ⟨by omega, by omega⟩ ⟨by omega, by omega, by omega⟩ ⟨by omega, by omega⟩ ⟨by omega, by omega⟩) (fun oq22 Sq22 hp23 q22 => ?_)
                    rcases q22 with ⟨rfl, A22, ra22, rfl⟩
                    show wJ _ _ _ _ _ _ _ _ _ _
                    refine wa_goto ⟨_, rfl⟩ ?_
                    refine wa_return rfl ?_
                    refine ⟨rfl, A22, ?_, rfl⟩
                    repeat (first | rw [if_pos (by omega)] | rw [if_neg (by omega)])
                    exact ra22
                  · skip
                    exact absurd c21 (by omega)
                · skip
                  exact absurd c20 (by omega)
          · skip
            exact absurd c8 (by omega)
    · skip
      exact absurd c3 (by omega)
  · skip
    exact absurd c2 (by omega)
theorem x16t_215 {c p h vx vy s1 s2 : Int} (hP : xP 215 c p h S) (hky : S 217 (h - 1) = 3) (hvy : S 218 (h - 1) = vy) (hkx : S 217 (h - 1 - 1) = 3) (hvx : S 218 (h - 1 - 1) = vx) (hh1 : 2 ≤ h) (hs1 : 0 ≤ s1 ∧ s1 + (l1.length : Int) ≤ S 3 (-1)) (hs2 : 0 ≤ s2 ∧ s2 + (l2.length : Int) ≤ S 3 (-1)) (hz : S 3 (-1) ≤ 10000000) (e1 : ∀ i : Nat, i < l1.length → S 3 (s1 + (i : Int)) = l1.getD i 0) (e2 : ∀ i : Nat, i < l2.length → S 3 (s2 + (i : Int)) = l2.getD i 0) (hv1 : vx = s1 * 4294967296 + (l1.length : Int)) (hv2 : vy = s2 * 4294967296 + (l2.length : Int)) (hr : -1000000 ≤ cmpL l1 l2 ∧ cmpL l1 l2 ≤ 1000000) : wJ (pe_GA xs) wY0 (mS [217, 218]) (d + 11) t_XK_operate ((pe_at t_XK_operate.bl 0).getD (0, [])).2 [(0, (2, 215)), (1, (0, 16))] [] S (fun o Z => o = .inl none ∧ sO 215 h c p (2) (1) (if cmpL l1 l2 < 0 then 1 else 0) S Z) := by
  obtain ⟨⟨hC, hI⟩, ⟨bc, bc0, bc1⟩, ⟨bp, bp0, bp1⟩, ⟨bh, bh0, bh1, bh2⟩, bl1, bl2, bl3⟩ := hP
  replace bp : S 220 (c - 1) = p := bp
  replace bh : S 216 2 = h := bh
  replace bh2 : h ≤ S 217 (-1) := bh2
  replace bl1 : S 218 (-1) = S 217 (-1) := bl1
  replace bl2 : 64 ≤ S 217 (-1) := bl2
  replace bl3 : S 217 (-1) ≤ 4095 := bl3
  refine wa_aload_n (n := 0) rfl ?_
  refine wb_gf4 215 rfl (wy_pr rfl) wt_215 wf_8_3 (v := 216) wl_215_3 ?_
  refine wb_gfi 216 rfl (wy_pr rfl) wt_216 wf_7_2 (v := h) (bh) (fun r1 => ?_)
  refine wa_iconst ?_
  refine wa_isub ?_
  refine wa_istore_n (n := 2) rfl ?_
  refine wa_iload_n (n := 1) rfl ?_
  refine wa_bipush (w_rg2 (by omega) (by omega)) ?_
  refine wa_icmpne (w_rg0 (by omega) (by omega)) (w_rg0 (by omega) (by omega)) ⟨_, rfl⟩ (fun c2 => ?_) (fun c2 => ?_)
  · skip
    refine wa_iload_n (n := 1) rfl ?_
    refine wa_bipush (w_rg2 (by omega) (by omega)) ?_
    refine wa_icmpne (w_rg0 (by omega) (by omega)) (w_rg0 (by omega) (by omega)) ⟨_, rfl⟩ (fun c3 => ?_) (fun c3 => ?_)
    · skip
      refine wa_iload_n (n := 1) rfl ?_
      refine wa_bipush (w_rg2 (by omega) (by omega)) ?_
      refine wa_icmpeq (w_rg0 (by omega) (by omega)) (w_rg0 (by omega) (by omega)) ⟨_, rfl⟩ (fun c4 => ?_) (fun c4 => ?_)
      · skip
        exact absurd c4 (by omega)
      · skip
        refine wa_iload_n (n := 1) rfl ?_
        refine wa_bipush (w_rg2 (by omega) (by omega)) ?_
        refine wa_icmpne (w_rg0 (by omega) (by omega)) (w_rg0 (by omega) (by omega)) ⟨_, rfl⟩ (fun c5 => ?_) (fun c5 => ?_)
        · skip
          refine wa_aload_n (n := 0) rfl ?_
          refine wb_gf4 215 rfl (wy_pr rfl) wt_215 wf_8_3 (v := 216) wl_215_3 ?_
          refine wb_gf4 216 rfl (wy_pr rfl) wt_216 wf_7_0 (v := 217) wl_216_0 ?_
          refine wa_iload_n (n := 2) rfl ?_
          refine wb_bald 217 rfl (wy_pr rfl) wt_217 (n := (S 217 (-1))) (rfl) (by omega) (by omega) (v := 3) (hky) (fun r6 => ?_)
          refine wa_iconst ?_
          refine wa_icmpne (w_rg0 (by omega) (by omega)) (w_rg0 (by omega) (by omega)) ⟨_, rfl⟩ (fun c7 => ?_) (fun c7 => ?_)
          · skip
            refine wa_iload_n (n := 1) rfl ?_
            refine wa_bipush (w_rg2 (by omega) (by omega)) ?_
            refine wa_icmpne (w_rg0 (by omega) (by omega)) (w_rg0 (by omega) (by omega)) ⟨_, rfl⟩ (fun c8 => ?_) (fun c8 => ?_)
            · skip
              refine wa_iload_n (n := 1) rfl ?_
              refine wa_bipush (w_rg2 (by omega) (by omega)) ?_
              refine wa_icmplt (w_rg0 (by omega) (by omega)) (w_rg0 (by omega) (by omega)) ⟨_, rfl⟩ (fun c9 => ?_) (fun c9 => ?_)
              · skip
                exact absurd c9 (by omega)
              · skip
                refine wa_aload_n (n := 0) rfl ?_
                refine wb_gf4 215 rfl (wy_pr rfl) wt_215 wf_8_3 (v := 216) wl_215_3 ?_
                refine wb_gf4 216 rfl (wy_pr rfl) wt_216 wf_7_0 (v := 217) wl_216_0 ?_
                refine wa_iload_n (n := 2) rfl ?_
                refine wb_bald 217 rfl (wy_pr rfl) wt_217 (n := (S 217 (-1))) (rfl) (by omega) (by omega) (v := 3) (hky) (fun r10 => ?_)
                refine wa_iconst ?_
                refine wa_icmpne (w_rg0 (by omega) (by omega)) (w_rg0 (by omega) (by omega)) ⟨_, rfl⟩ (fun c11 => ?_) (fun c11 => ?_)
                · skip
                  exact absurd c11 (by omega)
                · skip
                  refine wa_aload_n (n := 0) rfl ?_
                  refine wb_gf4 215 rfl (wy_pr rfl) wt_215 wf_8_3 (v := 216) wl_215_3 ?_
                  refine wb_gf4 216 rfl (wy_pr rfl) wt_216 wf_7_0 (v := 217) wl_216_0 ?_
                  refine wa_iload_n (n := 2) rfl ?_
                  refine wa_iconst ?_
                  refine wa_isub ?_
                  refine wb_bald 217 rfl (wy_pr rfl) wt_217 (n := (S 217 (-1))) (rfl) (by omega) (by omega) (v := 3) (hkx) (fun r12 => ?_)
                  refine wa_iconst ?_
                  refine wa_icmpne (w_rg0 (by omega) (by omega)) (w_rg0 (by omega) (by omega)) ⟨_, rfl⟩ (fun c13 => ?_) (fun c13 => ?_)
                  · skip
                    exact absurd c13 (by omega)
                  · skip
                    refine wa_aload_n (n := 0) rfl ?_
                    refine wb_gf4 215 rfl (wy_pr rfl) wt_215 wf_8_0 (v := 72) wl_215_0 ?_
                    refine wb_gf4 72 rfl (wy_pr rfl) wt_72 wf_2_0 (v := 2) wl_72_0 ?_
                    refine wa_aload_n (n := 0) rfl ?_
                    refine wb_gf4 215 rfl (wy_pr rfl) wt_215 wf_8_3 (v := 216) wl_215_3 ?_
                    refine wb_gf4 216 rfl (wy_pr rfl) wt_216 wf_7_1 (v := 218) wl_216_1 ?_
                    refine wa_iload_n (n := 2) rfl ?_
                    refine wa_iconst ?_
                    refine wa_isub ?_
                    refine wb_lald 218 rfl (wy_pr rfl) wt_218 (n := (S 217 (-1))) (bl1) (by omega) (by omega) (v := vx) (hvx) (fun r14 => ?_)
                    refine wa_aload_n (n := 0) rfl ?_
                    refine wb_gf4 215 rfl (wy_pr rfl) wt_215 wf_8_3 (v := 216) wl_215_3 ?_
                    refine wb_gf4 216 rfl (wy_pr rfl) wt_216 wf_7_1 (v := 218) wl_216_1 ?_
                    refine wa_iload_n (n := 2) rfl ?_
                    refine wb_lald 218 rfl (wy_pr rfl) wt_218 (n := (S 217 (-1))) (bl1) (by omega) (by omega) (v := vy) (hvy) (fun r15 => ?_)
                    refine wa_cv 2 rfl (wy_pr rfl) wt_2 (M2 := fun _ => False) rfl at_XW_compare ⟨_, rfl⟩ rfl rfl ⟨trivial, (Or.inr ⟨wy_pr rfl, fun q => q⟩), trivial, trivial⟩ trivial (fun _ _ q => False.elim q) (cp_ok (S := S) hs1 hs2 hz e1 e2 hv1 hv2) (fun oq16 Sq16 hp17 q16 => ?_)
                    rcases q16 with ⟨rfl, rfl⟩
                    show wJ _ _ _ _ _ _ _ _ _ _
                    refine wa_istore_n (n := 3) rfl ?_
                    refine wa_aload_n (n := 0) rfl ?_
                    refine wa_iconst ?_
                    refine wa_iconst ?_
                    refine wa_iload_n (n := 1) rfl ?_
                    refine wa_fall ⟨_, rfl⟩ ?_
                    refine wa_iload_n (n := 3) rfl ?_
                    refine wa_cs (M2 := mS [217, 218]) rfl at_XK_isOrdered ⟨_, rfl⟩ rfl rfl ⟨trivial, trivial, (Or.inr ⟨wy_pr rfl, mS_no rfl⟩), trivial, trivial⟩ ⟨trivial, trivial, (Or.inr ⟨wy_pr rfl, mS_no rfl⟩), trivial⟩ (fun _ _ q => q) ?_ (fun _ _ _ q => q)
                    refine wa_iload_n (n := 0) rfl ?_
                    refine wb_sw (w_rg0 (by omega) (by omega)) (tb := 1) rfl ⟨_, rfl⟩ ?_
                    refine wa_iload_n (n := 1) rfl ?_
                    refine wa_ifge (w_rg0 (by omega) (by omega)) ⟨_, rfl⟩ (fun c18 => ?_) (fun c18 => ?_)
                    · skip
                      refine wa_iconst ?_
                      refine wa_fall ⟨_, rfl⟩ ?_
                      refine wa_zreturn rfl (Or.inl rfl) ?_
                      show wJ _ _ _ _ _ _ _ _ _ _
                      refine wa_ifeq (w_rg0 (by omega) (by omega)) ⟨_, rfl⟩ (fun c19 => ?_) (fun c19 => ?_)
                      · skip
                        refine wb_lconst (m := 0) rfl ?_
                        refine wa_fall ⟨_, rfl⟩ ?_
                        refine wa_cv 215 rfl (wy_pr rfl) wt_215 (M2 := mS [217, 218]) rfl at_XK_give ⟨_, rfl⟩ rfl rfl ⟨trivial, trivial, (Or.inr ⟨wy_pr rfl, mS_no rfl⟩), trivial, trivial⟩ trivial (fun _ _ q => q) (gw_215 (S := S) (n := 2) (k := 1) (v := 0) (h := h) (c := c) (p := p) (ln := (S 217 (-1))) hC hI ⟨by omega, by omega⟩ ⟨by omega, by omega⟩ (bh) (bc) (bp) (rfl) (bl1) ⟨by omega, by omega⟩ ⟨by omega, by omega, by omega⟩ ⟨by omega, by omega⟩ ⟨by omega, by omega⟩) (fun oq20 Sq20 hp21 q20 => ?_)
                        rcases q20 with ⟨rfl, A20, ra20, rfl⟩
                        show wJ _ _ _ _ _ _ _ _ _ _
                        refine wa_goto ⟨_, rfl⟩ ?_
                        refine wa_return rfl ?_
                        refine ⟨rfl, A20, ?_, rfl⟩
                        repeat (first | rw [if_pos (by omega)] | rw [if_neg (by omega)])
                        exact ra20
                      · skip
                        exact absurd c19 (by omega)
                    · skip
                      refine wa_iconst ?_
                      refine wa_goto ⟨_, rfl⟩ ?_
                      refine wa_zreturn rfl (Or.inr rfl) ?_
                      show wJ _ _ _ _ _ _ _ _ _ _
                      refine wa_ifeq (w_rg0 (by omega) (by omega)) ⟨_, rfl⟩ (fun c22 => ?_) (fun c22 => ?_)
                      · skip
                        exact absurd c22 (by omega)
                      · skip
                        refine wb_lconst (m := 1) rfl ?_
                        refine wa_goto ⟨_, rfl⟩ ?_
                        refine wa_cv 215 rfl (wy_pr rfl) wt_215 (M2 := mS [217, 218]) rfl at_XK_give ⟨_, rfl⟩ rfl rfl ⟨trivial, trivial, (Or.inr ⟨wy_pr rfl, mS_no rfl⟩), trivial, trivial⟩ trivial (fun _ _ q => q) (gw_215 (S := S) (n := 2) (k := 1) (v := 1) (h := h) (c := c) (p := p) (ln := (S 217 (-1))) hC hI ⟨by omega, by omega⟩ ⟨by omega, by omega⟩ (bh) (bc) (bp) (rfl) (bl1) ⟨by omega, by omega⟩ ⟨by omega, by omega, by omega⟩ ⟨by omega, by omega⟩ ⟨by omega, by omega⟩) (fun oq23 Sq23 hp24 q23 => ?_)
                        rcases q23 with ⟨rfl, A23, ra23, rfl⟩
                        show wJ _ _ _ _ _ _ _ _ _ _
                        refine wa_goto ⟨_, rfl⟩ ?_
                        refine wa_return rfl ?_
                        refine ⟨rfl, A23, ?_, rfl⟩
                        repeat (first | rw [if_pos (by omega)] | rw [if_neg (by omega)])
                        exact ra23
            · skip
              exact absurd c8 (by omega)
          · skip
            exact absurd c7 (by omega)
        · skip
          exact absurd c5 (by omega)
    · skip
      exact absurd c3 (by omega)
  · skip
    exact absurd c2 (by omega)
theorem x17t_215 {c p h vx vy s1 s2 : Int} (hP : xP 215 c p h S) (hky : S 217 (h - 1) = 3) (hvy : S 218 (h - 1) = vy) (hkx : S 217 (h - 1 - 1) = 3) (hvx : S 218 (h - 1 - 1) = vx) (hh1 : 2 ≤ h) (hs1 : 0 ≤ s1 ∧ s1 + (l1.length : Int) ≤ S 3 (-1)) (hs2 : 0 ≤ s2 ∧ s2 + (l2.length : Int) ≤ S 3 (-1)) (hz : S 3 (-1) ≤ 10000000) (e1 : ∀ i : Nat, i < l1.length → S 3 (s1 + (i : Int)) = l1.getD i 0) (e2 : ∀ i : Nat, i < l2.length → S 3 (s2 + (i : Int)) = l2.getD i 0) (hv1 : vx = s1 * 4294967296 + (l1.length : Int)) (hv2 : vy = s2 * 4294967296 + (l2.length : Int)) (hr : -1000000 ≤ cmpL l1 l2 ∧ cmpL l1 l2 ≤ 1000000) : wJ (pe_GA xs) wY0 (mS [217, 218]) (d + 11) t_XK_operate ((pe_at t_XK_operate.bl 0).getD (0, [])).2 [(0, (2, 215)), (1, (0, 17))] [] S (fun o Z => o = .inl none ∧ sO 215 h c p (2) (1) (if cmpL l1 l2 ≤ 0 then 1 else 0) S Z) := by
  obtain ⟨⟨hC, hI⟩, ⟨bc, bc0, bc1⟩, ⟨bp, bp0, bp1⟩, ⟨bh, bh0, bh1, bh2⟩, bl1, bl2, bl3⟩ := hP
  replace bp : S 220 (c - 1) = p := bp
  replace bh : S 216 2 = h := bh
  replace bh2 : h ≤ S 217 (-1) := bh2
  replace bl1 : S 218 (-1) = S 217 (-1) := bl1
  replace bl2 : 64 ≤ S 217 (-1) := bl2
  replace bl3 : S 217 (-1) ≤ 4095 := bl3
  refine wa_aload_n (n := 0) rfl ?_
  refine wb_gf4 215 rfl (wy_pr rfl) wt_215 wf_8_3 (v := 216) wl_215_3 ?_
  refine wb_gfi 216 rfl (wy_pr rfl) wt_216 wf_7_2 (v := h) (bh) (fun r1 => ?_)
  refine wa_iconst ?_
  refine wa_isub ?_
  refine wa_istore_n (n := 2) rfl ?_
  refine wa_iload_n (n := 1) rfl ?_
  refine wa_bipush (w_rg2 (by omega) (by omega)) ?_
  refine wa_icmpne (w_rg0 (by omega) (by omega)) (w_rg0 (by omega) (by omega)) ⟨_, rfl⟩ (fun c2 => ?_) (fun c2 => ?_)
  · skip
    refine wa_iload_n (n := 1) rfl ?_
    refine wa_bipush (w_rg2 (by omega) (by omega)) ?_
    refine wa_icmpne (w_rg0 (by omega) (by omega)) (w_rg0 (by omega) (by omega)) ⟨_, rfl⟩ (fun c3 => ?_) (fun c3 => ?_)
    · skip
      refine wa_iload_n (n := 1) rfl ?_
      refine wa_bipush (w_rg2 (by omega) (by omega)) ?_
      refine wa_icmpeq (w_rg0 (by omega) (by omega)) (w_rg0 (by omega) (by omega)) ⟨_, rfl⟩ (fun c4 => ?_) (fun c4 => ?_)
      · skip
        exact absurd c4 (by omega)
      · skip
        refine wa_iload_n (n := 1) rfl ?_
        refine wa_bipush (w_rg2 (by omega) (by omega)) ?_
        refine wa_icmpne (w_rg0 (by omega) (by omega)) (w_rg0 (by omega) (by omega)) ⟨_, rfl⟩ (fun c5 => ?_) (fun c5 => ?_)
        · skip
          refine wa_aload_n (n := 0) rfl ?_
          refine wb_gf4 215 rfl (wy_pr rfl) wt_215 wf_8_3 (v := 216) wl_215_3 ?_
          refine wb_gf4 216 rfl (wy_pr rfl) wt_216 wf_7_0 (v := 217) wl_216_0 ?_
          refine wa_iload_n (n := 2) rfl ?_
          refine wb_bald 217 rfl (wy_pr rfl) wt_217 (n := (S 217 (-1))) (rfl) (by omega) (by omega) (v := 3) (hky) (fun r6 => ?_)
          refine wa_iconst ?_
          refine wa_icmpne (w_rg0 (by omega) (by omega)) (w_rg0 (by omega) (by omega)) ⟨_, rfl⟩ (fun c7 => ?_) (fun c7 => ?_)
          · skip
            refine wa_iload_n (n := 1) rfl ?_
            refine wa_bipush (w_rg2 (by omega) (by omega)) ?_
            refine wa_icmpne (w_rg0 (by omega) (by omega)) (w_rg0 (by omega) (by omega)) ⟨_, rfl⟩ (fun c8 => ?_) (fun c8 => ?_)
            · skip
              refine wa_iload_n (n := 1) rfl ?_
              refine wa_bipush (w_rg2 (by omega) (by omega)) ?_
              refine wa_icmplt (w_rg0 (by omega) (by omega)) (w_rg0 (by omega) (by omega)) ⟨_, rfl⟩ (fun c9 => ?_) (fun c9 => ?_)
              · skip
                exact absurd c9 (by omega)
              · skip
                refine wa_aload_n (n := 0) rfl ?_
                refine wb_gf4 215 rfl (wy_pr rfl) wt_215 wf_8_3 (v := 216) wl_215_3 ?_
                refine wb_gf4 216 rfl (wy_pr rfl) wt_216 wf_7_0 (v := 217) wl_216_0 ?_
                refine wa_iload_n (n := 2) rfl ?_
                refine wb_bald 217 rfl (wy_pr rfl) wt_217 (n := (S 217 (-1))) (rfl) (by omega) (by omega) (v := 3) (hky) (fun r10 => ?_)
                refine wa_iconst ?_
                refine wa_icmpne (w_rg0 (by omega) (by omega)) (w_rg0 (by omega) (by omega)) ⟨_, rfl⟩ (fun c11 => ?_) (fun c11 => ?_)
                · skip
                  exact absurd c11 (by omega)
                · skip
                  refine wa_aload_n (n := 0) rfl ?_
                  refine wb_gf4 215 rfl (wy_pr rfl) wt_215 wf_8_3 (v := 216) wl_215_3 ?_
                  refine wb_gf4 216 rfl (wy_pr rfl) wt_216 wf_7_0 (v := 217) wl_216_0 ?_
                  refine wa_iload_n (n := 2) rfl ?_
                  refine wa_iconst ?_
                  refine wa_isub ?_
                  refine wb_bald 217 rfl (wy_pr rfl) wt_217 (n := (S 217 (-1))) (rfl) (by omega) (by omega) (v := 3) (hkx) (fun r12 => ?_)
                  refine wa_iconst ?_
                  refine wa_icmpne (w_rg0 (by omega) (by omega)) (w_rg0 (by omega) (by omega)) ⟨_, rfl⟩ (fun c13 => ?_) (fun c13 => ?_)
                  · skip
                    exact absurd c13 (by omega)
                  · skip
                    refine wa_aload_n (n := 0) rfl ?_
                    refine wb_gf4 215 rfl (wy_pr rfl) wt_215 wf_8_0 (v := 72) wl_215_0 ?_
                    refine wb_gf4 72 rfl (wy_pr rfl) wt_72 wf_2_0 (v := 2) wl_72_0 ?_
                    refine wa_aload_n (n := 0) rfl ?_
                    refine wb_gf4 215 rfl (wy_pr rfl) wt_215 wf_8_3 (v := 216) wl_215_3 ?_
                    refine wb_gf4 216 rfl (wy_pr rfl) wt_216 wf_7_1 (v := 218) wl_216_1 ?_
                    refine wa_iload_n (n := 2) rfl ?_
                    refine wa_iconst ?_
                    refine wa_isub ?_
                    refine wb_lald 218 rfl (wy_pr rfl) wt_218 (n := (S 217 (-1))) (bl1) (by omega) (by omega) (v := vx) (hvx) (fun r14 => ?_)
                    refine wa_aload_n (n := 0) rfl ?_
                    refine wb_gf4 215 rfl (wy_pr rfl) wt_215 wf_8_3 (v := 216) wl_215_3 ?_
                    refine wb_gf4 216 rfl (wy_pr rfl) wt_216 wf_7_1 (v := 218) wl_216_1 ?_
                    refine wa_iload_n (n := 2) rfl ?_
                    refine wb_lald 218 rfl (wy_pr rfl) wt_218 (n := (S 217 (-1))) (bl1) (by omega) (by omega) (v := vy) (hvy) (fun r15 => ?_)
                    refine wa_cv 2 rfl (wy_pr rfl) wt_2 (M2 := fun _ => False) rfl at_XW_compare ⟨_, rfl⟩ rfl rfl ⟨trivial, (Or.inr ⟨wy_pr rfl, fun q => q⟩), trivial, trivial⟩ trivial (fun _ _ q => False.elim q) (cp_ok (S := S) hs1 hs2 hz e1 e2 hv1 hv2) (fun oq16 Sq16 hp17 q16 => ?_)
                    rcases q16 with ⟨rfl, rfl⟩
                    show wJ _ _ _ _ _ _ _ _ _ _
                    refine wa_istore_n (n := 3) rfl ?_
                    refine wa_aload_n (n := 0) rfl ?_
                    refine wa_iconst ?_
                    refine wa_iconst ?_
                    refine wa_iload_n (n := 1) rfl ?_
                    refine wa_fall ⟨_, rfl⟩ ?_
                    refine wa_iload_n (n := 3) rfl ?_
                    refine wa_cs (M2 := mS [217, 218]) rfl at_XK_isOrdered ⟨_, rfl⟩ rfl rfl ⟨trivial, trivial, (Or.inr ⟨wy_pr rfl, mS_no rfl⟩), trivial, trivial⟩ ⟨trivial, trivial, (Or.inr ⟨wy_pr rfl, mS_no rfl⟩), trivial⟩ (fun _ _ q => q) ?_ (fun _ _ _ q => q)
                    refine wa_iload_n (n := 0) rfl ?_
                    refine wb_sw (w_rg0 (by omega) (by omega)) (tb := 4) rfl ⟨_, rfl⟩ ?_
                    refine wa_iload_n (n := 1) rfl ?_
                    refine wa_ifgt (w_rg0 (by omega) (by omega)) ⟨_, rfl⟩ (fun c18 => ?_) (fun c18 => ?_)
                    · skip
                      refine wa_iconst ?_
                      refine wa_fall ⟨_, rfl⟩ ?_
                      refine wa_zreturn rfl (Or.inl rfl) ?_
                      show wJ _ _ _ _ _ _ _ _ _ _
                      refine wa_ifeq (w_rg0 (by omega) (by omega)) ⟨_, rfl⟩ (fun c19 => ?_) (fun c19 => ?_)
                      · skip
                        refine wb_lconst (m := 0) rfl ?_
                        refine wa_fall ⟨_, rfl⟩ ?_
                        refine wa_cv 215 rfl (wy_pr rfl) wt_215 (M2 := mS [217, 218]) rfl at_XK_give ⟨_, rfl⟩ rfl rfl ⟨trivial, trivial, (Or.inr ⟨wy_pr rfl, mS_no rfl⟩), trivial, trivial⟩ trivial (fun _ _ q => q) (gw_215 (S := S) (n := 2) (k := 1) (v := 0) (h := h) (c := c) (p := p) (ln := (S 217 (-1))) hC hI ⟨by omega, by omega⟩ ⟨by omega, by omega⟩ (bh) (bc) (bp) (rfl) (bl1) ⟨by omega, by omega⟩ ⟨by omega, by omega, by omega⟩ ⟨by omega, by omega⟩ ⟨by omega, by omega⟩) (fun oq20 Sq20 hp21 q20 => ?_)
                        rcases q20 with ⟨rfl, A20, ra20, rfl⟩
                        show wJ _ _ _ _ _ _ _ _ _ _
                        refine wa_goto ⟨_, rfl⟩ ?_
                        refine wa_return rfl ?_
                        refine ⟨rfl, A20, ?_, rfl⟩
                        repeat (first | rw [if_pos (by omega)] | rw [if_neg (by omega)])
                        exact ra20
                      · skip
                        exact absurd c19 (by omega)
                    · skip
                      refine wa_iconst ?_
                      refine wa_goto ⟨_, rfl⟩ ?_
                      refine wa_zreturn rfl (Or.inr rfl) ?_
                      show wJ _ _ _ _ _ _ _ _ _ _
                      refine wa_ifeq (w_rg0 (by omega) (by omega)) ⟨_, rfl⟩ (fun c22 => ?_) (fun c22 => ?_)
                      · skip
                        exact absurd c22 (by omega)
                      · skip
                        refine wb_lconst (m := 1) rfl ?_
                        refine wa_goto ⟨_, rfl⟩ ?_
                        refine wa_cv 215 rfl (wy_pr rfl) wt_215 (M2 := mS [217, 218]) rfl at_XK_give ⟨_, rfl⟩ rfl rfl ⟨trivial, trivial, (Or.inr ⟨wy_pr rfl, mS_no rfl⟩), trivial, trivial⟩ trivial (fun _ _ q => q) (gw_215 (S := S) (n := 2) (k := 1) (v := 1) (h := h) (c := c) (p := p) (ln := (S 217 (-1))) hC hI ⟨by omega, by omega⟩ ⟨by omega, by omega⟩ (bh) (bc) (bp) (rfl) (bl1) ⟨by omega, by omega⟩ ⟨by omega, by omega, by omega⟩ ⟨by omega, by omega⟩ ⟨by omega, by omega⟩) (fun oq23 Sq23 hp24 q23 => ?_)
                        rcases q23 with ⟨rfl, A23, ra23, rfl⟩
                        show wJ _ _ _ _ _ _ _ _ _ _
                        refine wa_goto ⟨_, rfl⟩ ?_
                        refine wa_return rfl ?_
                        refine ⟨rfl, A23, ?_, rfl⟩
                        repeat (first | rw [if_pos (by omega)] | rw [if_neg (by omega)])
                        exact ra23
            · skip
              exact absurd c8 (by omega)
          · skip
            exact absurd c7 (by omega)
        · skip
          exact absurd c5 (by omega)
    · skip
      exact absurd c3 (by omega)
  · skip
    exact absurd c2 (by omega)
theorem x18t_215 {c p h vx vy s1 s2 : Int} (hP : xP 215 c p h S) (hky : S 217 (h - 1) = 3) (hvy : S 218 (h - 1) = vy) (hkx : S 217 (h - 1 - 1) = 3) (hvx : S 218 (h - 1 - 1) = vx) (hh1 : 2 ≤ h) (hs1 : 0 ≤ s1 ∧ s1 + (l1.length : Int) ≤ S 3 (-1)) (hs2 : 0 ≤ s2 ∧ s2 + (l2.length : Int) ≤ S 3 (-1)) (hz : S 3 (-1) ≤ 10000000) (e1 : ∀ i : Nat, i < l1.length → S 3 (s1 + (i : Int)) = l1.getD i 0) (e2 : ∀ i : Nat, i < l2.length → S 3 (s2 + (i : Int)) = l2.getD i 0) (hv1 : vx = s1 * 4294967296 + (l1.length : Int)) (hv2 : vy = s2 * 4294967296 + (l2.length : Int)) (hr : -1000000 ≤ cmpL l1 l2 ∧ cmpL l1 l2 ≤ 1000000) : wJ (pe_GA xs) wY0 (mS [217, 218]) (d + 11) t_XK_operate ((pe_at t_XK_operate.bl 0).getD (0, [])).2 [(0, (2, 215)), (1, (0, 18))] [] S (fun o Z => o = .inl none ∧ sO 215 h c p (2) (1) (if 0 < cmpL l1 l2 then 1 else 0) S Z) := by
  obtain ⟨⟨hC, hI⟩, ⟨bc, bc0, bc1⟩, ⟨bp, bp0, bp1⟩, ⟨bh, bh0, bh1, bh2⟩, bl1, bl2, bl3⟩ := hP
  replace bp : S 220 (c - 1) = p := bp
  replace bh : S 216 2 = h := bh
  replace bh2 : h ≤ S 217 (-1) := bh2
  replace bl1 : S 218 (-1) = S 217 (-1) := bl1
  replace bl2 : 64 ≤ S 217 (-1) := bl2
  replace bl3 : S 217 (-1) ≤ 4095 := bl3
  refine wa_aload_n (n := 0) rfl ?_
  refine wb_gf4 215 rfl (wy_pr rfl) wt_215 wf_8_3 (v := 216) wl_215_3 ?_
  refine wb_gfi 216 rfl (wy_pr rfl) wt_216 wf_7_2 (v := h) (bh) (fun r1 => ?_)
  refine wa_iconst ?_
  refine wa_isub ?_
  refine wa_istore_n (n := 2) rfl ?_
  refine wa_iload_n (n := 1) rfl ?_
  refine wa_bipush (w_rg2 (by omega) (by omega)) ?_
  refine wa_icmpne (w_rg0 (by omega) (by omega)) (w_rg0 (by omega) (by omega)) ⟨_, rfl⟩ (fun c2 => ?_) (fun c2 => ?_)
  · skip
    refine wa_iload_n (n := 1) rfl ?_
    refine wa_bipush (w_rg2 (by omega) (by omega)) ?_
    refine wa_icmpne (w_rg0 (by omega) (by omega)) (w_rg0 (by omega) (by omega)) ⟨_, rfl⟩ (fun c3 => ?_) (fun c3 => ?_)
    · skip
      refine wa_iload_n (n := 1) rfl ?_
      refine wa_bipush (w_rg2 (by omega) (by omega)) ?_
      refine wa_icmpeq (w_rg0 (by omega) (by omega)) (w_rg0 (by omega) (by omega)) ⟨_, rfl⟩ (fun c4 => ?_) (fun c4 => ?_)
      · skip
        exact absurd c4 (by omega)
      · skip
        refine wa_iload_n (n := 1) rfl ?_
        refine wa_bipush (w_rg2 (by omega) (by omega)) ?_
        refine wa_icmpne (w_rg0 (by omega) (by omega)) (w_rg0 (by omega) (by omega)) ⟨_, rfl⟩ (fun c5 => ?_) (fun c5 => ?_)
        · skip
          refine wa_aload_n (n := 0) rfl ?_
          refine wb_gf4 215 rfl (wy_pr rfl) wt_215 wf_8_3 (v := 216) wl_215_3 ?_
          refine wb_gf4 216 rfl (wy_pr rfl) wt_216 wf_7_0 (v := 217) wl_216_0 ?_
          refine wa_iload_n (n := 2) rfl ?_
          refine wb_bald 217 rfl (wy_pr rfl) wt_217 (n := (S 217 (-1))) (rfl) (by omega) (by omega) (v := 3) (hky) (fun r6 => ?_)
          refine wa_iconst ?_
          refine wa_icmpne (w_rg0 (by omega) (by omega)) (w_rg0 (by omega) (by omega)) ⟨_, rfl⟩ (fun c7 => ?_) (fun c7 => ?_)
          · skip
            refine wa_iload_n (n := 1) rfl ?_
            refine wa_bipush (w_rg2 (by omega) (by omega)) ?_
            refine wa_icmpne (w_rg0 (by omega) (by omega)) (w_rg0 (by omega) (by omega)) ⟨_, rfl⟩ (fun c8 => ?_) (fun c8 => ?_)
            · skip
              refine wa_iload_n (n := 1) rfl ?_
              refine wa_bipush (w_rg2 (by omega) (by omega)) ?_
              refine wa_icmplt (w_rg0 (by omega) (by omega)) (w_rg0 (by omega) (by omega)) ⟨_, rfl⟩ (fun c9 => ?_) (fun c9 => ?_)
              · skip
                exact absurd c9 (by omega)
              · skip
                refine wa_aload_n (n := 0) rfl ?_
                refine wb_gf4 215 rfl (wy_pr rfl) wt_215 wf_8_3 (v := 216) wl_215_3 ?_
                refine wb_gf4 216 rfl (wy_pr rfl) wt_216 wf_7_0 (v := 217) wl_216_0 ?_
                refine wa_iload_n (n := 2) rfl ?_
                refine wb_bald 217 rfl (wy_pr rfl) wt_217 (n := (S 217 (-1))) (rfl) (by omega) (by omega) (v := 3) (hky) (fun r10 => ?_)
                refine wa_iconst ?_
                refine wa_icmpne (w_rg0 (by omega) (by omega)) (w_rg0 (by omega) (by omega)) ⟨_, rfl⟩ (fun c11 => ?_) (fun c11 => ?_)
                · skip
                  exact absurd c11 (by omega)
                · skip
                  refine wa_aload_n (n := 0) rfl ?_
                  refine wb_gf4 215 rfl (wy_pr rfl) wt_215 wf_8_3 (v := 216) wl_215_3 ?_
                  refine wb_gf4 216 rfl (wy_pr rfl) wt_216 wf_7_0 (v := 217) wl_216_0 ?_
                  refine wa_iload_n (n := 2) rfl ?_
                  refine wa_iconst ?_
                  refine wa_isub ?_
                  refine wb_bald 217 rfl (wy_pr rfl) wt_217 (n := (S 217 (-1))) (rfl) (by omega) (by omega) (v := 3) (hkx) (fun r12 => ?_)
                  refine wa_iconst ?_
                  refine wa_icmpne (w_rg0 (by omega) (by omega)) (w_rg0 (by omega) (by omega)) ⟨_, rfl⟩ (fun c13 => ?_) (fun c13 => ?_)
                  · skip
                    exact absurd c13 (by omega)
                  · skip
                    refine wa_aload_n (n := 0) rfl ?_
                    refine wb_gf4 215 rfl (wy_pr rfl) wt_215 wf_8_0 (v := 72) wl_215_0 ?_
                    refine wb_gf4 72 rfl (wy_pr rfl) wt_72 wf_2_0 (v := 2) wl_72_0 ?_
                    refine wa_aload_n (n := 0) rfl ?_
                    refine wb_gf4 215 rfl (wy_pr rfl) wt_215 wf_8_3 (v := 216) wl_215_3 ?_
                    refine wb_gf4 216 rfl (wy_pr rfl) wt_216 wf_7_1 (v := 218) wl_216_1 ?_
                    refine wa_iload_n (n := 2) rfl ?_
                    refine wa_iconst ?_
                    refine wa_isub ?_
                    refine wb_lald 218 rfl (wy_pr rfl) wt_218 (n := (S 217 (-1))) (bl1) (by omega) (by omega) (v := vx) (hvx) (fun r14 => ?_)
                    refine wa_aload_n (n := 0) rfl ?_
                    refine wb_gf4 215 rfl (wy_pr rfl) wt_215 wf_8_3 (v := 216) wl_215_3 ?_
                    refine wb_gf4 216 rfl (wy_pr rfl) wt_216 wf_7_1 (v := 218) wl_216_1 ?_
                    refine wa_iload_n (n := 2) rfl ?_
                    refine wb_lald 218 rfl (wy_pr rfl) wt_218 (n := (S 217 (-1))) (bl1) (by omega) (by omega) (v := vy) (hvy) (fun r15 => ?_)
                    refine wa_cv 2 rfl (wy_pr rfl) wt_2 (M2 := fun _ => False) rfl at_XW_compare ⟨_, rfl⟩ rfl rfl ⟨trivial, (Or.inr ⟨wy_pr rfl, fun q => q⟩), trivial, trivial⟩ trivial (fun _ _ q => False.elim q) (cp_ok (S := S) hs1 hs2 hz e1 e2 hv1 hv2) (fun oq16 Sq16 hp17 q16 => ?_)
                    rcases q16 with ⟨rfl, rfl⟩
                    show wJ _ _ _ _ _ _ _ _ _ _
                    refine wa_istore_n (n := 3) rfl ?_
                    refine wa_aload_n (n := 0) rfl ?_
                    refine wa_iconst ?_
                    refine wa_iconst ?_
                    refine wa_iload_n (n := 1) rfl ?_
                    refine wa_fall ⟨_, rfl⟩ ?_
                    refine wa_iload_n (n := 3) rfl ?_
                    refine wa_cs (M2 := mS [217, 218]) rfl at_XK_isOrdered ⟨_, rfl⟩ rfl rfl ⟨trivial, trivial, (Or.inr ⟨wy_pr rfl, mS_no rfl⟩), trivial, trivial⟩ ⟨trivial, trivial, (Or.inr ⟨wy_pr rfl, mS_no rfl⟩), trivial⟩ (fun _ _ q => q) ?_ (fun _ _ _ q => q)
                    refine wa_iload_n (n := 0) rfl ?_
                    refine wb_sw (w_rg0 (by omega) (by omega)) (tb := 7) rfl ⟨_, rfl⟩ ?_
                    refine wa_iload_n (n := 1) rfl ?_
                    refine wa_ifle (w_rg0 (by omega) (by omega)) ⟨_, rfl⟩ (fun c18 => ?_) (fun c18 => ?_)
                    · skip
                      refine wa_iconst ?_
                      refine wa_fall ⟨_, rfl⟩ ?_
                      refine wa_zreturn rfl (Or.inl rfl) ?_
                      show wJ _ _ _ _ _ _ _ _ _ _
                      refine wa_ifeq (w_rg0 (by omega) (by omega)) ⟨_, rfl⟩ (fun c19 => ?_) (fun c19 => ?_)
                      · skip
                        refine wb_lconst (m := 0) rfl ?_
                        refine wa_fall ⟨_, rfl⟩ ?_
                        refine wa_cv 215 rfl (wy_pr rfl) wt_215 (M2 := mS [217, 218]) rfl at_XK_give ⟨_, rfl⟩ rfl rfl ⟨trivial, trivial, (Or.inr ⟨wy_pr rfl, mS_no rfl⟩), trivial, trivial⟩ trivial (fun _ _ q => q) (gw_215 (S := S) (n := 2) (k := 1) (v := 0) (h := h) (c := c) (p := p) (ln := (S 217 (-1))) hC hI ⟨by omega, by omega⟩ ⟨by omega, by omega⟩ (bh) (bc) (bp) (rfl) (bl1) ⟨by omega, by omega⟩ ⟨by omega, by omega, by omega⟩ ⟨by omega, by omega⟩ ⟨by omega, by omega⟩) (fun oq20 Sq20 hp21 q20 => ?_)
                        rcases q20 with ⟨rfl, A20, ra20, rfl⟩
                        show wJ _ _ _ _ _ _ _ _ _ _
                        refine wa_goto ⟨_, rfl⟩ ?_
                        refine wa_return rfl ?_
                        refine ⟨rfl, A20, ?_, rfl⟩
                        repeat (first | rw [if_pos (by omega)] | rw [if_neg (by omega)])
                        exact ra20
                      · skip
                        exact absurd c19 (by omega)
                    · skip
                      refine wa_iconst ?_
                      refine wa_goto ⟨_, rfl⟩ ?_
                      refine wa_zreturn rfl (Or.inr rfl) ?_
                      show wJ _ _ _ _ _ _ _ _ _ _
                      refine wa_ifeq (w_rg0 (by omega) (by omega)) ⟨_, rfl⟩ (fun c22 => ?_) (fun c22 => ?_)
                      · skip
                        exact absurd c22 (by omega)
                      · skip
                        refine wb_lconst (m := 1) rfl ?_
                        refine wa_goto ⟨_, rfl⟩ ?_
                        refine wa_cv 215 rfl (wy_pr rfl) wt_215 (M2 := mS [217, 218]) rfl at_XK_give ⟨_, rfl⟩ rfl rfl ⟨trivial, trivial, (Or.inr ⟨wy_pr rfl, mS_no rfl⟩), trivial, trivial⟩ trivial (fun _ _ q => q) (gw_215 (S := S) (n := 2) (k := 1) (v := 1) (h := h) (c := c) (p := p) (ln := (S 217 (-1))) hC hI ⟨by omega, by omega⟩ ⟨by omega, by omega⟩ (bh) (bc) (bp) (rfl) (bl1) ⟨by omega, by omega⟩ ⟨by omega, by omega, by omega⟩ ⟨by omega, by omega⟩ ⟨by omega, by omega⟩) (fun oq23 Sq23 hp24 q23 => ?_)
                        rcases q23 with ⟨rfl, A23, ra23, rfl⟩
                        show wJ _ _ _ _ _ _ _ _ _ _
                        refine wa_goto ⟨_, rfl⟩ ?_
                        refine wa_return rfl ?_
                        refine ⟨rfl, A23, ?_, rfl⟩
                        repeat (first | rw [if_pos (by omega)] | rw [if_neg (by omega)])
                        exact ra23
            · skip
              exact absurd c8 (by omega)
          · skip
            exact absurd c7 (by omega)
        · skip
          exact absurd c5 (by omega)
    · skip
      exact absurd c3 (by omega)
  · skip
    exact absurd c2 (by omega)
theorem x19t_215 {c p h vx vy s1 s2 : Int} (hP : xP 215 c p h S) (hky : S 217 (h - 1) = 3) (hvy : S 218 (h - 1) = vy) (hkx : S 217 (h - 1 - 1) = 3) (hvx : S 218 (h - 1 - 1) = vx) (hh1 : 2 ≤ h) (hs1 : 0 ≤ s1 ∧ s1 + (l1.length : Int) ≤ S 3 (-1)) (hs2 : 0 ≤ s2 ∧ s2 + (l2.length : Int) ≤ S 3 (-1)) (hz : S 3 (-1) ≤ 10000000) (e1 : ∀ i : Nat, i < l1.length → S 3 (s1 + (i : Int)) = l1.getD i 0) (e2 : ∀ i : Nat, i < l2.length → S 3 (s2 + (i : Int)) = l2.getD i 0) (hv1 : vx = s1 * 4294967296 + (l1.length : Int)) (hv2 : vy = s2 * 4294967296 + (l2.length : Int)) (hr : -1000000 ≤ cmpL l1 l2 ∧ cmpL l1 l2 ≤ 1000000) : wJ (pe_GA xs) wY0 (mS [217, 218]) (d + 11) t_XK_operate ((pe_at t_XK_operate.bl 0).getD (0, [])).2 [(0, (2, 215)), (1, (0, 19))] [] S (fun o Z => o = .inl none ∧ sO 215 h c p (2) (1) (if 0 ≤ cmpL l1 l2 then 1 else 0) S Z) := by
  obtain ⟨⟨hC, hI⟩, ⟨bc, bc0, bc1⟩, ⟨bp, bp0, bp1⟩, ⟨bh, bh0, bh1, bh2⟩, bl1, bl2, bl3⟩ := hP
  replace bp : S 220 (c - 1) = p := bp
  replace bh : S 216 2 = h := bh
  replace bh2 : h ≤ S 217 (-1) := bh2
  replace bl1 : S 218 (-1) = S 217 (-1) := bl1
  replace bl2 : 64 ≤ S 217 (-1) := bl2
  replace bl3 : S 217 (-1) ≤ 4095 := bl3
  refine wa_aload_n (n := 0) rfl ?_
  refine wb_gf4 215 rfl (wy_pr rfl) wt_215 wf_8_3 (v := 216) wl_215_3 ?_
  refine wb_gfi 216 rfl (wy_pr rfl) wt_216 wf_7_2 (v := h) (bh) (fun r1 => ?_)
  refine wa_iconst ?_
  refine wa_isub ?_
  refine wa_istore_n (n := 2) rfl ?_
  refine wa_iload_n (n := 1) rfl ?_
  refine wa_bipush (w_rg2 (by omega) (by omega)) ?_
  refine wa_icmpne (w_rg0 (by omega) (by omega)) (w_rg0 (by omega) (by omega)) ⟨_, rfl⟩ (fun c2 => ?_) (fun c2 => ?_)
  · skip
    refine wa_iload_n (n := 1) rfl ?_
    refine wa_bipush (w_rg2 (by omega) (by omega)) ?_
    refine wa_icmpne (w_rg0 (by omega) (by omega)) (w_rg0 (by omega) (by omega)) ⟨_, rfl⟩ (fun c3 => ?_) (fun c3 => ?_)
    · skip
      refine wa_iload_n (n := 1) rfl ?_
      refine wa_bipush (w_rg2 (by omega) (by omega)) ?_
      refine wa_icmpeq (w_rg0 (by omega) (by omega)) (w_rg0 (by omega) (by omega)) ⟨_, rfl⟩ (fun c4 => ?_) (fun c4 => ?_)
      · skip
        exact absurd c4 (by omega)
      · skip
        refine wa_iload_n (n := 1) rfl ?_
        refine wa_bipush (w_rg2 (by omega) (by omega)) ?_
        refine wa_icmpne (w_rg0 (by omega) (by omega)) (w_rg0 (by omega) (by omega)) ⟨_, rfl⟩ (fun c5 => ?_) (fun c5 => ?_)
        · skip
          refine wa_aload_n (n := 0) rfl ?_
          refine wb_gf4 215 rfl (wy_pr rfl) wt_215 wf_8_3 (v := 216) wl_215_3 ?_
          refine wb_gf4 216 rfl (wy_pr rfl) wt_216 wf_7_0 (v := 217) wl_216_0 ?_
          refine wa_iload_n (n := 2) rfl ?_
          refine wb_bald 217 rfl (wy_pr rfl) wt_217 (n := (S 217 (-1))) (rfl) (by omega) (by omega) (v := 3) (hky) (fun r6 => ?_)
          refine wa_iconst ?_
          refine wa_icmpne (w_rg0 (by omega) (by omega)) (w_rg0 (by omega) (by omega)) ⟨_, rfl⟩ (fun c7 => ?_) (fun c7 => ?_)
          · skip
            refine wa_iload_n (n := 1) rfl ?_
            refine wa_bipush (w_rg2 (by omega) (by omega)) ?_
            refine wa_icmpne (w_rg0 (by omega) (by omega)) (w_rg0 (by omega) (by omega)) ⟨_, rfl⟩ (fun c8 => ?_) (fun c8 => ?_)
            · skip
              refine wa_iload_n (n := 1) rfl ?_
              refine wa_bipush (w_rg2 (by omega) (by omega)) ?_
              refine wa_icmplt (w_rg0 (by omega) (by omega)) (w_rg0 (by omega) (by omega)) ⟨_, rfl⟩ (fun c9 => ?_) (fun c9 => ?_)
              · skip
                exact absurd c9 (by omega)
              · skip
                refine wa_aload_n (n := 0) rfl ?_
                refine wb_gf4 215 rfl (wy_pr rfl) wt_215 wf_8_3 (v := 216) wl_215_3 ?_
                refine wb_gf4 216 rfl (wy_pr rfl) wt_216 wf_7_0 (v := 217) wl_216_0 ?_
                refine wa_iload_n (n := 2) rfl ?_
                refine wb_bald 217 rfl (wy_pr rfl) wt_217 (n := (S 217 (-1))) (rfl) (by omega) (by omega) (v := 3) (hky) (fun r10 => ?_)
                refine wa_iconst ?_
                refine wa_icmpne (w_rg0 (by omega) (by omega)) (w_rg0 (by omega) (by omega)) ⟨_, rfl⟩ (fun c11 => ?_) (fun c11 => ?_)
                · skip
                  exact absurd c11 (by omega)
                · skip
                  refine wa_aload_n (n := 0) rfl ?_
                  refine wb_gf4 215 rfl (wy_pr rfl) wt_215 wf_8_3 (v := 216) wl_215_3 ?_
                  refine wb_gf4 216 rfl (wy_pr rfl) wt_216 wf_7_0 (v := 217) wl_216_0 ?_
                  refine wa_iload_n (n := 2) rfl ?_
                  refine wa_iconst ?_
                  refine wa_isub ?_
                  refine wb_bald 217 rfl (wy_pr rfl) wt_217 (n := (S 217 (-1))) (rfl) (by omega) (by omega) (v := 3) (hkx) (fun r12 => ?_)
                  refine wa_iconst ?_
                  refine wa_icmpne (w_rg0 (by omega) (by omega)) (w_rg0 (by omega) (by omega)) ⟨_, rfl⟩ (fun c13 => ?_) (fun c13 => ?_)
                  · skip
                    exact absurd c13 (by omega)
                  · skip
                    refine wa_aload_n (n := 0) rfl ?_
                    refine wb_gf4 215 rfl (wy_pr rfl) wt_215 wf_8_0 (v := 72) wl_215_0 ?_
                    refine wb_gf4 72 rfl (wy_pr rfl) wt_72 wf_2_0 (v := 2) wl_72_0 ?_
                    refine wa_aload_n (n := 0) rfl ?_
                    refine wb_gf4 215 rfl (wy_pr rfl) wt_215 wf_8_3 (v := 216) wl_215_3 ?_
                    refine wb_gf4 216 rfl (wy_pr rfl) wt_216 wf_7_1 (v := 218) wl_216_1 ?_
                    refine wa_iload_n (n := 2) rfl ?_
                    refine wa_iconst ?_
                    refine wa_isub ?_
                    refine wb_lald 218 rfl (wy_pr rfl) wt_218 (n := (S 217 (-1))) (bl1) (by omega) (by omega) (v := vx) (hvx) (fun r14 => ?_)
                    refine wa_aload_n (n := 0) rfl ?_
                    refine wb_gf4 215 rfl (wy_pr rfl) wt_215 wf_8_3 (v := 216) wl_215_3 ?_
                    refine wb_gf4 216 rfl (wy_pr rfl) wt_216 wf_7_1 (v := 218) wl_216_1 ?_
                    refine wa_iload_n (n := 2) rfl ?_
                    refine wb_lald 218 rfl (wy_pr rfl) wt_218 (n := (S 217 (-1))) (bl1) (by omega) (by omega) (v := vy) (hvy) (fun r15 => ?_)
                    refine wa_cv 2 rfl (wy_pr rfl) wt_2 (M2 := fun _ => False) rfl at_XW_compare ⟨_, rfl⟩ rfl rfl ⟨trivial, (Or.inr ⟨wy_pr rfl, fun q => q⟩), trivial, trivial⟩ trivial (fun _ _ q => False.elim q) (cp_ok (S := S) hs1 hs2 hz e1 e2 hv1 hv2) (fun oq16 Sq16 hp17 q16 => ?_)
                    rcases q16 with ⟨rfl, rfl⟩
                    show wJ _ _ _ _ _ _ _ _ _ _
                    refine wa_istore_n (n := 3) rfl ?_
                    refine wa_aload_n (n := 0) rfl ?_
                    refine wa_iconst ?_
                    refine wa_iconst ?_
                    refine wa_iload_n (n := 1) rfl ?_
                    refine wa_fall ⟨_, rfl⟩ ?_
                    refine wa_iload_n (n := 3) rfl ?_
                    refine wa_cs (M2 := mS [217, 218]) rfl at_XK_isOrdered ⟨_, rfl⟩ rfl rfl ⟨trivial, trivial, (Or.inr ⟨wy_pr rfl, mS_no rfl⟩), trivial, trivial⟩ ⟨trivial, trivial, (Or.inr ⟨wy_pr rfl, mS_no rfl⟩), trivial⟩ (fun _ _ q => q) ?_ (fun _ _ _ q => q)
                    refine wa_iload_n (n := 0) rfl ?_
                    refine wb_sw (w_rg0 (by omega) (by omega)) (tb := 10) rfl ⟨_, rfl⟩ ?_
                    refine wa_iload_n (n := 1) rfl ?_
                    refine wa_iflt (w_rg0 (by omega) (by omega)) ⟨_, rfl⟩ (fun c18 => ?_) (fun c18 => ?_)
                    · skip
                      refine wa_iconst ?_
                      refine wa_fall ⟨_, rfl⟩ ?_
                      refine wa_zreturn rfl (Or.inl rfl) ?_
                      show wJ _ _ _ _ _ _ _ _ _ _
                      refine wa_ifeq (w_rg0 (by omega) (by omega)) ⟨_, rfl⟩ (fun c19 => ?_) (fun c19 => ?_)
                      · skip
                        refine wb_lconst (m := 0) rfl ?_
                        refine wa_fall ⟨_, rfl⟩ ?_
                        refine wa_cv 215 rfl (wy_pr rfl) wt_215 (M2 := mS [217, 218]) rfl at_XK_give ⟨_, rfl⟩ rfl rfl ⟨trivial, trivial, (Or.inr ⟨wy_pr rfl, mS_no rfl⟩), trivial, trivial⟩ trivial (fun _ _ q => q) (gw_215 (S := S) (n := 2) (k := 1) (v := 0) (h := h) (c := c) (p := p) (ln := (S 217 (-1))) hC hI ⟨by omega, by omega⟩ ⟨by omega, by omega⟩ (bh) (bc) (bp) (rfl) (bl1) ⟨by omega, by omega⟩ ⟨by omega, by omega, by omega⟩ ⟨by omega, by omega⟩ ⟨by omega, by omega⟩) (fun oq20 Sq20 hp21 q20 => ?_)
                        rcases q20 with ⟨rfl, A20, ra20, rfl⟩
                        show wJ _ _ _ _ _ _ _ _ _ _
                        refine wa_goto ⟨_, rfl⟩ ?_
                        refine wa_return rfl ?_
                        refine ⟨rfl, A20, ?_, rfl⟩
                        repeat (first | rw [if_pos (by omega)] | rw [if_neg (by omega)])
                        exact ra20
                      · skip
                        exact absurd c19 (by omega)
                    · skip
                      refine wa_iconst ?_
                      refine wa_goto ⟨_, rfl⟩ ?_
                      refine wa_zreturn rfl (Or.inr rfl) ?_
                      show wJ _ _ _ _ _ _ _ _ _ _
                      refine wa_ifeq (w_rg0 (by omega) (by omega)) ⟨_, rfl⟩ (fun c22 => ?_) (fun c22 => ?_)
                      · skip
                        exact absurd c22 (by omega)
                      · skip
                        refine wb_lconst (m := 1) rfl ?_
                        refine wa_goto ⟨_, rfl⟩ ?_
                        refine wa_cv 215 rfl (wy_pr rfl) wt_215 (M2 := mS [217, 218]) rfl at_XK_give ⟨_, rfl⟩ rfl rfl ⟨trivial, trivial, (Or.inr ⟨wy_pr rfl, mS_no rfl⟩), trivial, trivial⟩ trivial (fun _ _ q => q) (gw_215 (S := S) (n := 2) (k := 1) (v := 1) (h := h) (c := c) (p := p) (ln := (S 217 (-1))) hC hI ⟨by omega, by omega⟩ ⟨by omega, by omega⟩ (bh) (bc) (bp) (rfl) (bl1) ⟨by omega, by omega⟩ ⟨by omega, by omega, by omega⟩ ⟨by omega, by omega⟩ ⟨by omega, by omega⟩) (fun oq23 Sq23 hp24 q23 => ?_)
                        rcases q23 with ⟨rfl, A23, ra23, rfl⟩
                        show wJ _ _ _ _ _ _ _ _ _ _
                        refine wa_goto ⟨_, rfl⟩ ?_
                        refine wa_return rfl ?_
                        refine ⟨rfl, A23, ?_, rfl⟩
                        repeat (first | rw [if_pos (by omega)] | rw [if_neg (by omega)])
                        exact ra23
            · skip
              exact absurd c8 (by omega)
          · skip
            exact absurd c7 (by omega)
        · skip
          exact absurd c5 (by omega)
    · skip
      exact absurd c3 (by omega)
  · skip
    exact absurd c2 (by omega)
theorem x14t_226 {c p h vx vy s1 s2 : Int} (hP : xP 226 c p h S) (hky : S 228 (h - 1) = 3) (hvy : S 229 (h - 1) = vy) (hkx : S 228 (h - 1 - 1) = 3) (hvx : S 229 (h - 1 - 1) = vx) (hh1 : 2 ≤ h) (hs1 : 0 ≤ s1 ∧ s1 + (l1.length : Int) ≤ S 3 (-1)) (hs2 : 0 ≤ s2 ∧ s2 + (l2.length : Int) ≤ S 3 (-1)) (hz : S 3 (-1) ≤ 10000000) (e1 : ∀ i : Nat, i < l1.length → S 3 (s1 + (i : Int)) = l1.getD i 0) (e2 : ∀ i : Nat, i < l2.length → S 3 (s2 + (i : Int)) = l2.getD i 0) (hv1 : vx = s1 * 4294967296 + (l1.length : Int)) (hv2 : vy = s2 * 4294967296 + (l2.length : Int)) (hr : -1000000 ≤ cmpL l1 l2 ∧ cmpL l1 l2 ≤ 1000000) : wJ (pe_GA xs) wY0 (mS [228, 229]) (d + 11) t_XK_operate ((pe_at t_XK_operate.bl 0).getD (0, [])).2 [(0, (2, 226)), (1, (0, 14))] [] S (fun o Z => o = .inl none ∧ sO 226 h c p (2) (1) (if cmpL l1 l2 = 0 then 1 else 0) S Z) := by
  obtain ⟨⟨hC, hI⟩, ⟨bc, bc0, bc1⟩, ⟨bp, bp0, bp1⟩, ⟨bh, bh0, bh1, bh2⟩, bl1, bl2, bl3⟩ := hP
  replace bp : S 231 (c - 1) = p := bp
  replace bh : S 227 2 = h := bh
  replace bh2 : h ≤ S 228 (-1) := bh2
  replace bl1 : S 229 (-1) = S 228 (-1) := bl1
  replace bl2 : 64 ≤ S 228 (-1) := bl2
  replace bl3 : S 228 (-1) ≤ 4095 := bl3
  refine wa_aload_n (n := 0) rfl ?_
  refine wb_gf4 226 rfl (wy_pr rfl) wt_226 wf_8_3 (v := 227) wl_226_3 ?_
  refine wb_gfi 227 rfl (wy_pr rfl) wt_227 wf_7_2 (v := h) (bh) (fun r1 => ?_)
  refine wa_iconst ?_
  refine wa_isub ?_
  refine wa_istore_n (n := 2) rfl ?_
  refine wa_iload_n (n := 1) rfl ?_
  refine wa_bipush (w_rg2 (by omega) (by omega)) ?_
  refine wa_icmpne (w_rg0 (by omega) (by omega)) (w_rg0 (by omega) (by omega)) ⟨_, rfl⟩ (fun c2 => ?_) (fun c2 => ?_)
  · skip
    refine wa_iload_n (n := 1) rfl ?_
    refine wa_bipush (w_rg2 (by omega) (by omega)) ?_
    refine wa_icmpne (w_rg0 (by omega) (by omega)) (w_rg0 (by omega) (by omega)) ⟨_, rfl⟩ (fun c3 => ?_) (fun c3 => ?_)
    · skip
      refine wa_iload_n (n := 1) rfl ?_
      refine wa_bipush (w_rg2 (by omega) (by omega)) ?_
      refine wa_icmpeq (w_rg0 (by omega) (by omega)) (w_rg0 (by omega) (by omega)) ⟨_, rfl⟩ (fun c4 => ?_) (fun c4 => ?_)
      · skip
        refine wa_aload_n (n := 0) rfl ?_
        refine wa_iconst ?_
        refine wa_iconst ?_
        refine wa_aload_n (n := 0) rfl ?_
        refine wa_iload_n (n := 2) rfl ?_
        refine wa_iconst ?_
        refine wa_isub ?_
        refine wa_iload_n (n := 2) rfl ?_
        refine wa_cv 226 rfl (wy_pr rfl) wt_226 (M2 := mS [228, 229]) rfl at_XK_areEqual ⟨_, rfl⟩ rfl rfl ⟨trivial, (Or.inr ⟨wy_pr rfl, mS_no rfl⟩), trivial, trivial⟩ ⟨trivial, trivial, (Or.inr ⟨wy_pr rfl, mS_no rfl⟩), trivial⟩ (fun _ _ q => q) ?_ (fun _ _ _ q => q)
        refine wa_aload_n (n := 0) rfl ?_
        refine wb_gf4 226 rfl (wy_pr rfl) wt_226 wf_8_3 (v := 227) wl_226_3 ?_
        refine wb_gf4 227 rfl (wy_pr rfl) wt_227 wf_7_0 (v := 228) wl_227_0 ?_
        refine wa_iload_n (n := 1) rfl ?_
        refine wb_bald 228 rfl (wy_pr rfl) wt_228 (n := (S 228 (-1))) (rfl) (by omega) (by omega) (v := 3) (hkx) (fun r5 => ?_)
        refine wa_aload_n (n := 0) rfl ?_
        refine wb_gf4 226 rfl (wy_pr rfl) wt_226 wf_8_3 (v := 227) wl_226_3 ?_
        refine wb_gf4 227 rfl (wy_pr rfl) wt_227 wf_7_0 (v := 228) wl_227_0 ?_
        refine wa_iload_n (n := 2) rfl ?_
        refine wb_bald 228 rfl (wy_pr rfl) wt_228 (n := (S 228 (-1))) (rfl) (by omega) (by omega) (v := 3) (hky) (fun r6 => ?_)
        refine wa_icmpeq (w_rg0 (by omega) (by omega)) (w_rg0 (by omega) (by omega)) ⟨_, rfl⟩ (fun c7 => ?_) (fun c7 => ?_)
        · skip
          refine wa_aload_n (n := 0) rfl ?_
          refine wb_gf4 226 rfl (wy_pr rfl) wt_226 wf_8_3 (v := 227) wl_226_3 ?_
          refine wb_gf4 227 rfl (wy_pr rfl) wt_227 wf_7_0 (v := 228) wl_227_0 ?_
          refine wa_iload_n (n := 1) rfl ?_
          refine wb_bald 228 rfl (wy_pr rfl) wt_228 (n := (S 228 (-1))) (rfl) (by omega) (by omega) (v := 3) (hkx) (fun r8 => ?_)
          refine wa_iconst ?_
          refine wa_icmpne (w_rg0 (by omega) (by omega)) (w_rg0 (by omega) (by omega)) ⟨_, rfl⟩ (fun c9 => ?_) (fun c9 => ?_)
          · skip
            exact absurd c9 (by omega)
          · skip
            refine wa_aload_n (n := 0) rfl ?_
            refine wb_gf4 226 rfl (wy_pr rfl) wt_226 wf_8_0 (v := 72) wl_226_0 ?_
            refine wb_gf4 72 rfl (wy_pr rfl) wt_72 wf_2_0 (v := 2) wl_72_0 ?_
            refine wa_aload_n (n := 0) rfl ?_
            refine wb_gf4 226 rfl (wy_pr rfl) wt_226 wf_8_3 (v := 227) wl_226_3 ?_
            refine wb_gf4 227 rfl (wy_pr rfl) wt_227 wf_7_1 (v := 229) wl_227_1 ?_
            refine wa_iload_n (n := 1) rfl ?_
            refine wb_lald 229 rfl (wy_pr rfl) wt_229 (n := (S 228 (-1))) (bl1) (by omega) (by omega) (v := vx) (hvx) (fun r10 => ?_)
            refine wa_aload_n (n := 0) rfl ?_
            refine wb_gf4 226 rfl (wy_pr rfl) wt_226 wf_8_3 (v := 227) wl_226_3 ?_
            refine wb_gf4 227 rfl (wy_pr rfl) wt_227 wf_7_1 (v := 229) wl_227_1 ?_
            refine wa_iload_n (n := 2) rfl ?_
            refine wb_lald 229 rfl (wy_pr rfl) wt_229 (n := (S 228 (-1))) (bl1) (by omega) (by omega) (v := vy) (hvy) (fun r11 => ?_)
            refine wa_cv 2 rfl (wy_pr rfl) wt_2 (M2 := fun _ => False) rfl at_XW_compare ⟨_, rfl⟩ rfl rfl ⟨(Or.inr ⟨wy_pr rfl, fun q => q⟩), trivial, trivial, trivial⟩ trivial (fun _ _ q => False.elim q) (cp_ok (S := S) hs1 hs2 hz e1 e2 hv1 hv2) (fun oq12 Sq12 hp13 q12 => ?_)
            rcases q12 with ⟨rfl, rfl⟩
            show wJ _ _ _ _ _ _ _ _ _ _
            refine wa_ifne (w_rg0 (by omega) (by omega)) ⟨_, rfl⟩ (fun c14 => ?_) (fun c14 => ?_)
            · skip
              refine wa_iconst ?_
              refine wa_fall ⟨_, rfl⟩ ?_
              refine wa_zreturn rfl (Or.inl rfl) ?_
              show wJ _ _ _ _ _ _ _ _ _ _
              refine wa_iload_n (n := 1) rfl ?_
              refine wa_bipush (w_rg2 (by omega) (by omega)) ?_
              refine wa_icmpne (w_rg0 (by omega) (by omega)) (w_rg0 (by omega) (by omega)) ⟨_, rfl⟩ (fun c15 => ?_) (fun c15 => ?_)
              · skip
                exact absurd c15 (by omega)
              · skip
                refine wa_iconst ?_
                refine wa_goto ⟨_, rfl⟩ ?_
                refine wa_icmpne (w_rg0 (by omega) (by omega)) (w_rg0 (by omega) (by omega)) ⟨_, rfl⟩ (fun c16 => ?_) (fun c16 => ?_)
                · skip
                  refine wb_lconst (m := 0) rfl ?_
                  refine wa_fall ⟨_, rfl⟩ ?_
                  refine wa_cv 226 rfl (wy_pr rfl) wt_226 (M2 := mS [228, 229]) rfl at_XK_give ⟨_, rfl⟩ rfl rfl ⟨trivial, (Or.inr ⟨wy_pr rfl, mS_no rfl⟩), trivial, trivial⟩ trivial (fun _ _ q => q) (gw_226 (S := S) (n := 2) (k := 1) (v := 0) (h := h) (c := c) (p := p) (ln := (S 228 (-1))) hC hI ⟨by omega, by omega⟩ ⟨by omega, by omega⟩ (bh) (bc) (bp) (rfl) (bl1) ⟨by omega, by omega⟩ ⟨by omega, by omega, by omega⟩ ⟨by omega, by omega⟩ ⟨by omega, by omega⟩) (fun oq17 Sq17 hp18 q17 => ?_)
                  rcases q17 with ⟨rfl, A17, ra17, rfl⟩
                  show wJ _ _ _ _ _ _ _ _ _ _
                  refine wa_goto ⟨_, rfl⟩ ?_
                  refine wa_return rfl ?_
                  refine ⟨rfl, A17, ?_, rfl⟩
                  repeat (first | rw [if_pos (by omega)] | rw [if_neg (by omega)])
                  exact ra17
                · skip
                  exact absurd c16 (by omega)
            · skip
              refine wa_iconst ?_
              refine wa_goto ⟨_, rfl⟩ ?_
              refine wa_zreturn rfl (Or.inr rfl) ?_
              show wJ _ _ _ _ _ _ _ _ _ _
              refine wa_iload_n (n := 1) rfl ?_
              refine wa_bipush (w_rg2 (by omega) (by omega)) ?_
              refine wa_icmpne (w_rg0 (by omega) (by omega)) (w_rg0 (by omega) (by omega)) ⟨_, rfl⟩ (fun c19 => ?_) (fun c19 => ?_)
              · skip
                exact absurd c19 (by omega)
              · skip
                refine wa_iconst ?_
                refine wa_goto ⟨_, rfl⟩ ?_
                refine wa_icmpne (w_rg0 (by omega) (by omega)) (w_rg0 (by omega) (by omega)) ⟨_, rfl⟩ (fun c20 => ?_) (fun c20 => ?_)
                · skip
                  exact absurd c20 (by omega)
                · skip
                  refine wb_lconst (m := 1) rfl ?_
                  refine wa_goto ⟨_, rfl⟩ ?_
                  refine wa_cv 226 rfl (wy_pr rfl) wt_226 (M2 := mS [228, 229]) rfl at_XK_give ⟨_, rfl⟩ rfl rfl ⟨trivial, (Or.inr ⟨wy_pr rfl, mS_no rfl⟩), trivial, trivial⟩ trivial (fun _ _ q => q) (gw_226 (S := S) (n := 2) (k := 1) (v := 1) (h := h) (c := c) (p := p) (ln := (S 228 (-1))) hC hI ⟨by omega, by omega⟩ ⟨by omega, by omega⟩ (bh) (bc) (bp) (rfl) (bl1) ⟨by omega, by omega⟩ ⟨by omega, by omega, by omega⟩ ⟨by omega, by omega⟩ ⟨by omega, by omega⟩) (fun oq21 Sq21 hp22 q21 => ?_)
                  rcases q21 with ⟨rfl, A21, ra21, rfl⟩
                  show wJ _ _ _ _ _ _ _ _ _ _
                  refine wa_goto ⟨_, rfl⟩ ?_
                  refine wa_return rfl ?_
                  refine ⟨rfl, A21, ?_, rfl⟩
                  repeat (first | rw [if_pos (by omega)] | rw [if_neg (by omega)])
                  exact ra21
        · skip
          exact absurd c7 (by omega)
      · skip
        exact absurd c4 (by omega)
    · skip
      exact absurd c3 (by omega)
  · skip
    exact absurd c2 (by omega)
theorem x15t_226 {c p h vx vy s1 s2 : Int} (hP : xP 226 c p h S) (hky : S 228 (h - 1) = 3) (hvy : S 229 (h - 1) = vy) (hkx : S 228 (h - 1 - 1) = 3) (hvx : S 229 (h - 1 - 1) = vx) (hh1 : 2 ≤ h) (hs1 : 0 ≤ s1 ∧ s1 + (l1.length : Int) ≤ S 3 (-1)) (hs2 : 0 ≤ s2 ∧ s2 + (l2.length : Int) ≤ S 3 (-1)) (hz : S 3 (-1) ≤ 10000000) (e1 : ∀ i : Nat, i < l1.length → S 3 (s1 + (i : Int)) = l1.getD i 0) (e2 : ∀ i : Nat, i < l2.length → S 3 (s2 + (i : Int)) = l2.getD i 0) (hv1 : vx = s1 * 4294967296 + (l1.length : Int)) (hv2 : vy = s2 * 4294967296 + (l2.length : Int)) (hr : -1000000 ≤ cmpL l1 l2 ∧ cmpL l1 l2 ≤ 1000000) : wJ (pe_GA xs) wY0 (mS [228, 229]) (d + 11) t_XK_operate ((pe_at t_XK_operate.bl 0).getD (0, [])).2 [(0, (2, 226)), (1, (0, 15))] [] S (fun o Z => o = .inl none ∧ sO 226 h c p (2) (1) (if cmpL l1 l2 = 0 then 0 else 1) S Z) := by
  obtain ⟨⟨hC, hI⟩, ⟨bc, bc0, bc1⟩, ⟨bp, bp0, bp1⟩, ⟨bh, bh0, bh1, bh2⟩, bl1, bl2, bl3⟩ := hP
  replace bp : S 231 (c - 1) = p := bp
  replace bh : S 227 2 = h := bh
  replace bh2 : h ≤ S 228 (-1) := bh2
  replace bl1 : S 229 (-1) = S 228 (-1) := bl1
  replace bl2 : 64 ≤ S 228 (-1) := bl2
  replace bl3 : S 228 (-1) ≤ 4095 := bl3
  refine wa_aload_n (n := 0) rfl ?_
  refine wb_gf4 226 rfl (wy_pr rfl) wt_226 wf_8_3 (v := 227) wl_226_3 ?_
  refine wb_gfi 227 rfl (wy_pr rfl) wt_227 wf_7_2 (v := h) (bh) (fun r1 => ?_)
  refine wa_iconst ?_
  refine wa_isub ?_
  refine wa_istore_n (n := 2) rfl ?_
  refine wa_iload_n (n := 1) rfl ?_
  refine wa_bipush (w_rg2 (by omega) (by omega)) ?_
  refine wa_icmpne (w_rg0 (by omega) (by omega)) (w_rg0 (by omega) (by omega)) ⟨_, rfl⟩ (fun c2 => ?_) (fun c2 => ?_)
  · skip
    refine wa_iload_n (n := 1) rfl ?_
    refine wa_bipush (w_rg2 (by omega) (by omega)) ?_
    refine wa_icmpne (w_rg0 (by omega) (by omega)) (w_rg0 (by omega) (by omega)) ⟨_, rfl⟩ (fun c3 => ?_) (fun c3 => ?_)
    · skip
      refine wa_iload_n (n := 1) rfl ?_
      refine wa_bipush (w_rg2 (by omega) (by omega)) ?_
      refine wa_icmpeq (w_rg0 (by omega) (by omega)) (w_rg0 (by omega) (by omega)) ⟨_, rfl⟩ (fun c4 => ?_) (fun c4 => ?_)
      · skip
        exact absurd c4 (by omega)
      · skip
        refine wa_iload_n (n := 1) rfl ?_
        refine wa_bipush (w_rg2 (by omega) (by omega)) ?_
        refine wa_icmpne (w_rg0 (by omega) (by omega)) (w_rg0 (by omega) (by omega)) ⟨_, rfl⟩ (fun c5 => ?_) (fun c5 => ?_)
        · skip
          exact absurd c5 (by omega)
        · skip
          refine wa_fall ⟨_, rfl⟩ ?_
          refine wa_aload_n (n := 0) rfl ?_
          refine wa_iconst ?_
          refine wa_iconst ?_
          refine wa_aload_n (n := 0) rfl ?_
          refine wa_iload_n (n := 2) rfl ?_
          refine wa_iconst ?_
          refine wa_isub ?_
          refine wa_iload_n (n := 2) rfl ?_
          refine wa_cv 226 rfl (wy_pr rfl) wt_226 (M2 := mS [228, 229]) rfl at_XK_areEqual ⟨_, rfl⟩ rfl rfl ⟨trivial, (Or.inr ⟨wy_pr rfl, mS_no rfl⟩), trivial, trivial⟩ ⟨trivial, trivial, (Or.inr ⟨wy_pr rfl, mS_no rfl⟩), trivial⟩ (fun _ _ q => q) ?_ (fun _ _ _ q => q)
          refine wa_aload_n (n := 0) rfl ?_
          refine wb_gf4 226 rfl (wy_pr rfl) wt_226 wf_8_3 (v := 227) wl_226_3 ?_
          refine wb_gf4 227 rfl (wy_pr rfl) wt_227 wf_7_0 (v := 228) wl_227_0 ?_
          refine wa_iload_n (n := 1) rfl ?_
          refine wb_bald 228 rfl (wy_pr rfl) wt_228 (n := (S 228 (-1))) (rfl) (by omega) (by omega) (v := 3) (hkx) (fun r6 => ?_)
          refine wa_aload_n (n := 0) rfl ?_
          refine wb_gf4 226 rfl (wy_pr rfl) wt_226 wf_8_3 (v := 227) wl_226_3 ?_
          refine wb_gf4 227 rfl (wy_pr rfl) wt_227 wf_7_0 (v := 228) wl_227_0 ?_
          refine wa_iload_n (n := 2) rfl ?_
          refine wb_bald 228 rfl (wy_pr rfl) wt_228 (n := (S 228 (-1))) (rfl) (by omega) (by omega) (v := 3) (hky) (fun r7 => ?_)
          refine wa_icmpeq (w_rg0 (by omega) (by omega)) (w_rg0 (by omega) (by omega)) ⟨_, rfl⟩ (fun c8 => ?_) (fun c8 => ?_)
          · skip
            refine wa_aload_n (n := 0) rfl ?_
            refine wb_gf4 226 rfl (wy_pr rfl) wt_226 wf_8_3 (v := 227) wl_226_3 ?_
            refine wb_gf4 227 rfl (wy_pr rfl) wt_227 wf_7_0 (v := 228) wl_227_0 ?_
            refine wa_iload_n (n := 1) rfl ?_
            refine wb_bald 228 rfl (wy_pr rfl) wt_228 (n := (S 228 (-1))) (rfl) (by omega) (by omega) (v := 3) (hkx) (fun r9 => ?_)
            refine wa_iconst ?_
            refine wa_icmpne (w_rg0 (by omega) (by omega)) (w_rg0 (by omega) (by omega)) ⟨_, rfl⟩ (fun c10 => ?_) (fun c10 => ?_)
            · skip
              exact absurd c10 (by omega)
            · skip
              refine wa_aload_n (n := 0) rfl ?_
              refine wb_gf4 226 rfl (wy_pr rfl) wt_226 wf_8_0 (v := 72) wl_226_0 ?_
              refine wb_gf4 72 rfl (wy_pr rfl) wt_72 wf_2_0 (v := 2) wl_72_0 ?_
              refine wa_aload_n (n := 0) rfl ?_
              refine wb_gf4 226 rfl (wy_pr rfl) wt_226 wf_8_3 (v := 227) wl_226_3 ?_
              refine wb_gf4 227 rfl (wy_pr rfl) wt_227 wf_7_1 (v := 229) wl_227_1 ?_
              refine wa_iload_n (n := 1) rfl ?_
              refine wb_lald 229 rfl (wy_pr rfl) wt_229 (n := (S 228 (-1))) (bl1) (by omega) (by omega) (v := vx) (hvx) (fun r11 => ?_)
              refine wa_aload_n (n := 0) rfl ?_
              refine wb_gf4 226 rfl (wy_pr rfl) wt_226 wf_8_3 (v := 227) wl_226_3 ?_
              refine wb_gf4 227 rfl (wy_pr rfl) wt_227 wf_7_1 (v := 229) wl_227_1 ?_
              refine wa_iload_n (n := 2) rfl ?_
              refine wb_lald 229 rfl (wy_pr rfl) wt_229 (n := (S 228 (-1))) (bl1) (by omega) (by omega) (v := vy) (hvy) (fun r12 => ?_)
              refine wa_cv 2 rfl (wy_pr rfl) wt_2 (M2 := fun _ => False) rfl at_XW_compare ⟨_, rfl⟩ rfl rfl ⟨(Or.inr ⟨wy_pr rfl, fun q => q⟩), trivial, trivial, trivial⟩ trivial (fun _ _ q => False.elim q) (cp_ok (S := S) hs1 hs2 hz e1 e2 hv1 hv2) (fun oq13 Sq13 hp14 q13 => ?_)
              rcases q13 with ⟨rfl, rfl⟩
              show wJ _ _ _ _ _ _ _ _ _ _
              refine wa_ifne (w_rg0 (by omega) (by omega)) ⟨_, rfl⟩ (fun c15 => ?_) (fun c15 => ?_)
              · skip
                refine wa_iconst ?_
                refine wa_fall ⟨_, rfl⟩ ?_
                refine wa_zreturn rfl (Or.inl rfl) ?_
                show wJ _ _ _ _ _ _ _ _ _ _
                refine wa_iload_n (n := 1) rfl ?_
                refine wa_bipush (w_rg2 (by omega) (by omega)) ?_
                refine wa_icmpne (w_rg0 (by omega) (by omega)) (w_rg0 (by omega) (by omega)) ⟨_, rfl⟩ (fun c16 => ?_) (fun c16 => ?_)
                · skip
                  refine wa_iconst ?_
                  refine wa_fall ⟨_, rfl⟩ ?_
                  refine wa_icmpne (w_rg0 (by omega) (by omega)) (w_rg0 (by omega) (by omega)) ⟨_, rfl⟩ (fun c17 => ?_) (fun c17 => ?_)
                  · skip
                    exact absurd c17 (by omega)
                  · skip
                    refine wb_lconst (m := 1) rfl ?_
                    refine wa_goto ⟨_, rfl⟩ ?_
                    refine wa_cv 226 rfl (wy_pr rfl) wt_226 (M2 := mS [228, 229]) rfl at_XK_give ⟨_, rfl⟩ rfl rfl ⟨trivial, (Or.inr ⟨wy_pr rfl, mS_no rfl⟩), trivial, trivial⟩ trivial (fun _ _ q => q) (gw_226 (S := S) (n := 2) (k := 1) (v := 1) (h := h) (c := c) (p := p) (ln := (S 228 (-1))) hC hI ⟨by omega, by omega⟩ ⟨by omega, by omega⟩ (bh) (bc) (bp) (rfl) (bl1) ⟨by omega, by omega⟩ ⟨by omega, by omega, by omega⟩ ⟨by omega, by omega⟩ ⟨by omega, by omega⟩) (fun oq18 Sq18 hp19 q18 => ?_)
                    rcases q18 with ⟨rfl, A18, ra18, rfl⟩
                    show wJ _ _ _ _ _ _ _ _ _ _
                    refine wa_goto ⟨_, rfl⟩ ?_
                    refine wa_return rfl ?_
                    refine ⟨rfl, A18, ?_, rfl⟩
                    repeat (first | rw [if_pos (by omega)] | rw [if_neg (by omega)])
                    exact ra18
                · skip
                  exact absurd c16 (by omega)
              · skip
                refine wa_iconst ?_
                refine wa_goto ⟨_, rfl⟩ ?_
                refine wa_zreturn rfl (Or.inr rfl) ?_
                show wJ _ _ _ _ _ _ _ _ _ _
                refine wa_iload_n (n := 1) rfl ?_
                refine wa_bipush (w_rg2 (by omega) (by omega)) ?_
                refine wa_icmpne (w_rg0 (by omega) (by omega)) (w_rg0 (by omega) (by omega)) ⟨_, rfl⟩ (fun c20 => ?_) (fun c20 => ?_)
                · skip
                  refine wa_iconst ?_
                  refine wa_fall ⟨_, rfl⟩ ?_
                  refine wa_icmpne (w_rg0 (by omega) (by omega)) (w_rg0 (by omega) (by omega)) ⟨_, rfl⟩ (fun c21 => ?_) (fun c21 => ?_)
                  · skip
                    refine wb_lconst (m := 0) rfl ?_
                    refine wa_fall ⟨_, rfl⟩ ?_
                    refine wa_cv 226 rfl (wy_pr rfl) wt_226 (M2 := mS [228, 229]) rfl at_XK_give ⟨_, rfl⟩ rfl rfl ⟨trivial, (Or.inr ⟨wy_pr rfl, mS_no rfl⟩), trivial, trivial⟩ trivial (fun _ _ q => q) (gw_226 (S := S) (n := 2) (k := 1) (v := 0) (h := h) (c := c) (p := p) (ln := (S 228 (-1))) hC hI ⟨by omega, by omega⟩ ⟨by omega, by omega⟩ (bh) (bc) (bp) (rfl) (bl1) ⟨by omega, by omega⟩ ⟨by omega, by omega, by omega⟩ ⟨by omega, by omega⟩ ⟨by omega, by omega⟩) (fun oq22 Sq22 hp23 q22 => ?_)
                    rcases q22 with ⟨rfl, A22, ra22, rfl⟩
                    show wJ _ _ _ _ _ _ _ _ _ _
                    refine wa_goto ⟨_, rfl⟩ ?_
                    refine wa_return rfl ?_
                    refine ⟨rfl, A22, ?_, rfl⟩
                    repeat (first | rw [if_pos (by omega)] | rw [if_neg (by omega)])
                    exact ra22
                  · skip
                    exact absurd c21 (by omega)
                · skip
                  exact absurd c20 (by omega)
          · skip
            exact absurd c8 (by omega)
    · skip
      exact absurd c3 (by omega)
  · skip
    exact absurd c2 (by omega)
theorem x16t_226 {c p h vx vy s1 s2 : Int} (hP : xP 226 c p h S) (hky : S 228 (h - 1) = 3) (hvy : S 229 (h - 1) = vy) (hkx : S 228 (h - 1 - 1) = 3) (hvx : S 229 (h - 1 - 1) = vx) (hh1 : 2 ≤ h) (hs1 : 0 ≤ s1 ∧ s1 + (l1.length : Int) ≤ S 3 (-1)) (hs2 : 0 ≤ s2 ∧ s2 + (l2.length : Int) ≤ S 3 (-1)) (hz : S 3 (-1) ≤ 10000000) (e1 : ∀ i : Nat, i < l1.length → S 3 (s1 + (i : Int)) = l1.getD i 0) (e2 : ∀ i : Nat, i < l2.length → S 3 (s2 + (i : Int)) = l2.getD i 0) (hv1 : vx = s1 * 4294967296 + (l1.length : Int)) (hv2 : vy = s2 * 4294967296 + (l2.length : Int)) (hr : -1000000 ≤ cmpL l1 l2 ∧ cmpL l1 l2 ≤ 1000000) : wJ (pe_GA xs) wY0 (mS [228, 229]) (d + 11) t_XK_operate ((pe_at t_XK_operate.bl 0).getD (0, [])).2 [(0, (2, 226)), (1, (0, 16))] [] S (fun o Z => o = .inl none ∧ sO 226 h c p (2) (1) (if cmpL l1 l2 < 0 then 1 else 0) S Z) := by
  obtain ⟨⟨hC, hI⟩, ⟨bc, bc0, bc1⟩, ⟨bp, bp0, bp1⟩, ⟨bh, bh0, bh1, bh2⟩, bl1, bl2, bl3⟩ := hP
  replace bp : S 231 (c - 1) = p := bp
  replace bh : S 227 2 = h := bh
  replace bh2 : h ≤ S 228 (-1) := bh2
  replace bl1 : S 229 (-1) = S 228 (-1) := bl1
  replace bl2 : 64 ≤ S 228 (-1) := bl2
  replace bl3 : S 228 (-1) ≤ 4095 := bl3
  refine wa_aload_n (n := 0) rfl ?_
  refine wb_gf4 226 rfl (wy_pr rfl) wt_226 wf_8_3 (v := 227) wl_226_3 ?_
  refine wb_gfi 227 rfl (wy_pr rfl) wt_227 wf_7_2 (v := h) (bh) (fun r1 => ?_)
  refine wa_iconst ?_
  refine wa_isub ?_
  refine wa_istore_n (n := 2) rfl ?_
  refine wa_iload_n (n := 1) rfl ?_
  refine wa_bipush (w_rg2 (by omega) (by omega)) ?_
  refine wa_icmpne (w_rg0 (by omega) (by omega)) (w_rg0 (by omega) (by omega)) ⟨_, rfl⟩ (fun c2 => ?_) (fun c2 => ?_)
  · skip
    refine wa_iload_n (n := 1) rfl ?_
    refine wa_bipush (w_rg2 (by omega) (by omega)) ?_
    refine wa_icmpne (w_rg0 (by omega) (by omega)) (w_rg0 (by omega) (by omega)) ⟨_, rfl⟩ (fun c3 => ?_) (fun c3 => ?_)
    · skip
      refine wa_iload_n (n := 1) rfl ?_
      refine wa_bipush (w_rg2 (by omega) (by omega)) ?_
      refine wa_icmpeq (w_rg0 (by omega) (by omega)) (w_rg0 (by omega) (by omega)) ⟨_, rfl⟩ (fun c4 => ?_) (fun c4 => ?_)
      · skip
        exact absurd c4 (by omega)
      · skip
        refine wa_iload_n (n := 1) rfl ?_
        refine wa_bipush (w_rg2 (by omega) (by omega)) ?_
        refine wa_icmpne (w_rg0 (by omega) (by omega)) (w_rg0 (by omega) (by omega)) ⟨_, rfl⟩ (fun c5 => ?_) (fun c5 => ?_)
        · skip
          refine wa_aload_n (n := 0) rfl ?_
          refine wb_gf4 226 rfl (wy_pr rfl) wt_226 wf_8_3 (v := 227) wl_226_3 ?_
          refine wb_gf4 227 rfl (wy_pr rfl) wt_227 wf_7_0 (v := 228) wl_227_0 ?_
          refine wa_iload_n (n := 2) rfl ?_
          refine wb_bald 228 rfl (wy_pr rfl) wt_228 (n := (S 228 (-1))) (rfl) (by omega) (by omega) (v := 3) (hky) (fun r6 => ?_)
          refine wa_iconst ?_
          refine wa_icmpne (w_rg0 (by omega) (by omega)) (w_rg0 (by omega) (by omega)) ⟨_, rfl⟩ (fun c7 => ?_) (fun c7 => ?_)
          · skip
            refine wa_iload_n (n := 1) rfl ?_
            refine wa_bipush (w_rg2 (by omega) (by omega)) ?_
            refine wa_icmpne (w_rg0 (by omega) (by omega)) (w_rg0 (by omega) (by omega)) ⟨_, rfl⟩ (fun c8 => ?_) (fun c8 => ?_)
            · skip
              refine wa_iload_n (n := 1) rfl ?_
              refine wa_bipush (w_rg2 (by omega) (by omega)) ?_
              refine wa_icmplt (w_rg0 (by omega) (by omega)) (w_rg0 (by omega) (by omega)) ⟨_, rfl⟩ (fun c9 => ?_) (fun c9 => ?_)
              · skip
                exact absurd c9 (by omega)
              · skip
                refine wa_aload_n (n := 0) rfl ?_
                refine wb_gf4 226 rfl (wy_pr rfl) wt_226 wf_8_3 (v := 227) wl_226_3 ?_
                refine wb_gf4 227 rfl (wy_pr rfl) wt_227 wf_7_0 (v := 228) wl_227_0 ?_
                refine wa_iload_n (n := 2) rfl ?_
                refine wb_bald 228 rfl (wy_pr rfl) wt_228 (n := (S 228 (-1))) (rfl) (by omega) (by omega) (v := 3) (hky) (fun r10 => ?_)
                refine wa_iconst ?_
                refine wa_icmpne (w_rg0 (by omega) (by omega)) (w_rg0 (by omega) (by omega)) ⟨_, rfl⟩ (fun c11 => ?_) (fun c11 => ?_)
                · skip
                  exact absurd c11 (by omega)
                · skip
                  refine wa_aload_n (n := 0) rfl ?_
                  refine wb_gf4 226 rfl (wy_pr rfl) wt_226 wf_8_3 (v := 227) wl_226_3 ?_
                  refine wb_gf4 227 rfl (wy_pr rfl) wt_227 wf_7_0 (v := 228) wl_227_0 ?_
                  refine wa_iload_n (n := 2) rfl ?_
                  refine wa_iconst ?_
                  refine wa_isub ?_
                  refine wb_bald 228 rfl (wy_pr rfl) wt_228 (n := (S 228 (-1))) (rfl) (by omega) (by omega) (v := 3) (hkx) (fun r12 => ?_)
                  refine wa_iconst ?_
                  refine wa_icmpne (w_rg0 (by omega) (by omega)) (w_rg0 (by omega) (by omega)) ⟨_, rfl⟩ (fun c13 => ?_) (fun c13 => ?_)
                  · skip
                    exact absurd c13 (by omega)
                  · skip
                    refine wa_aload_n (n := 0) rfl ?_
                    refine wb_gf4 226 rfl (wy_pr rfl) wt_226 wf_8_0 (v := 72) wl_226_0 ?_
                    refine wb_gf4 72 rfl (wy_pr rfl) wt_72 wf_2_0 (v := 2) wl_72_0 ?_
                    refine wa_aload_n (n := 0) rfl ?_
                    refine wb_gf4 226 rfl (wy_pr rfl) wt_226 wf_8_3 (v := 227) wl_226_3 ?_
                    refine wb_gf4 227 rfl (wy_pr rfl) wt_227 wf_7_1 (v := 229) wl_227_1 ?_
                    refine wa_iload_n (n := 2) rfl ?_
                    refine wa_iconst ?_
                    refine wa_isub ?_
                    refine wb_lald 229 rfl (wy_pr rfl) wt_229 (n := (S 228 (-1))) (bl1) (by omega) (by omega) (v := vx) (hvx) (fun r14 => ?_)
                    refine wa_aload_n (n := 0) rfl ?_
                    refine wb_gf4 226 rfl (wy_pr rfl) wt_226 wf_8_3 (v := 227) wl_226_3 ?_
                    refine wb_gf4 227 rfl (wy_pr rfl) wt_227 wf_7_1 (v := 229) wl_227_1 ?_
                    refine wa_iload_n (n := 2) rfl ?_
                    refine wb_lald 229 rfl (wy_pr rfl) wt_229 (n := (S 228 (-1))) (bl1) (by omega) (by omega) (v := vy) (hvy) (fun r15 => ?_)
                    refine wa_cv 2 rfl (wy_pr rfl) wt_2 (M2 := fun _ => False) rfl at_XW_compare ⟨_, rfl⟩ rfl rfl ⟨trivial, (Or.inr ⟨wy_pr rfl, fun q => q⟩), trivial, trivial⟩ trivial (fun _ _ q => False.elim q) (cp_ok (S := S) hs1 hs2 hz e1 e2 hv1 hv2) (fun oq16 Sq16 hp17 q16 => ?_)
                    rcases q16 with ⟨rfl, rfl⟩
                    show wJ _ _ _ _ _ _ _ _ _ _
                    refine wa_istore_n (n := 3) rfl ?_
                    refine wa_aload_n (n := 0) rfl ?_
                    refine wa_iconst ?_
                    refine wa_iconst ?_
                    refine wa_iload_n (n := 1) rfl ?_
                    refine wa_fall ⟨_, rfl⟩ ?_
                    refine wa_iload_n (n := 3) rfl ?_
                    refine wa_cs (M2 := mS [228, 229]) rfl at_XK_isOrdered ⟨_, rfl⟩ rfl rfl ⟨trivial, trivial, (Or.inr ⟨wy_pr rfl, mS_no rfl⟩), trivial, trivial⟩ ⟨trivial, trivial, (Or.inr ⟨wy_pr rfl, mS_no rfl⟩), trivial⟩ (fun _ _ q => q) ?_ (fun _ _ _ q => q)
                    refine wa_iload_n (n := 0) rfl ?_
                    refine wb_sw (w_rg0 (by omega) (by omega)) (tb := 1) rfl ⟨_, rfl⟩ ?_
                    refine wa_iload_n (n := 1) rfl ?_
                    refine wa_ifge (w_rg0 (by omega) (by omega)) ⟨_, rfl⟩ (fun c18 => ?_) (fun c18 => ?_)
                    · skip
                      refine wa_iconst ?_
                      refine wa_fall ⟨_, rfl⟩ ?_
                      refine wa_zreturn rfl (Or.inl rfl) ?_
                      show wJ _ _ _ _ _ _ _ _ _ _
                      refine wa_ifeq (w_rg0 (by omega) (by omega)) ⟨_, rfl⟩ (fun c19 => ?_) (fun c19 => ?_)
                      · skip
                        refine wb_lconst (m := 0) rfl ?_
                        refine wa_fall ⟨_, rfl⟩ ?_
                        refine wa_cv 226 rfl (wy_pr rfl) wt_226 (M2 := mS [228, 229]) rfl at_XK_give ⟨_, rfl⟩ rfl rfl ⟨trivial, trivial, (Or.inr ⟨wy_pr rfl, mS_no rfl⟩), trivial, trivial⟩ trivial (fun _ _ q => q) (gw_226 (S := S) (n := 2) (k := 1) (v := 0) (h := h) (c := c) (p := p) (ln := (S 228 (-1))) hC hI ⟨by omega, by omega⟩ ⟨by omega, by omega⟩ (bh) (bc) (bp) (rfl) (bl1) ⟨by omega, by omega⟩ ⟨by omega, by omega, by omega⟩ ⟨by omega, by omega⟩ ⟨by omega, by omega⟩) (fun oq20 Sq20 hp21 q20 => ?_)
                        rcases q20 with ⟨rfl, A20, ra20, rfl⟩
                        show wJ _ _ _ _ _ _ _ _ _ _
                        refine wa_goto ⟨_, rfl⟩ ?_
                        refine wa_return rfl ?_
                        refine ⟨rfl, A20, ?_, rfl⟩
                        repeat (first | rw [if_pos (by omega)] | rw [if_neg (by omega)])
                        exact ra20
                      · skip
                        exact absurd c19 (by omega)
                    · skip
                      refine wa_iconst ?_
                      refine wa_goto ⟨_, rfl⟩ ?_
                      refine wa_zreturn rfl (Or.inr rfl) ?_
                      show wJ _ _ _ _ _ _ _ _ _ _
                      refine wa_ifeq (w_rg0 (by omega) (by omega)) ⟨_, rfl⟩ (fun c22 => ?_) (fun c22 => ?_)
                      · skip
                        exact absurd c22 (by omega)
                      · skip
                        refine wb_lconst (m := 1) rfl ?_
                        refine wa_goto ⟨_, rfl⟩ ?_
                        refine wa_cv 226 rfl (wy_pr rfl) wt_226 (M2 := mS [228, 229]) rfl at_XK_give ⟨_, rfl⟩ rfl rfl ⟨trivial, trivial, (Or.inr ⟨wy_pr rfl, mS_no rfl⟩), trivial, trivial⟩ trivial (fun _ _ q => q) (gw_226 (S := S) (n := 2) (k := 1) (v := 1) (h := h) (c := c) (p := p) (ln := (S 228 (-1))) hC hI ⟨by omega, by omega⟩ ⟨by omega, by omega⟩ (bh) (bc) (bp) (rfl) (bl1) ⟨by omega, by omega⟩ ⟨by omega, by omega, by omega⟩ ⟨by omega, by omega⟩ ⟨by omega, by omega⟩) (fun oq23 Sq23 hp24 q23 => ?_)
                        rcases q23 with ⟨rfl, A23, ra23, rfl⟩
                        show wJ _ _ _ _ _ _ _ _ _ _
                        refine wa_goto ⟨_, rfl⟩ ?_
                        refine wa_return rfl ?_
                        refine ⟨rfl, A23, ?_, rfl⟩
                        repeat (first | rw [if_pos (by omega)] | rw [if_neg (by omega)])
                        exact ra23
            · skip
              exact absurd c8 (by omega)
          · skip
            exact absurd c7 (by omega)
        · skip
          exact absurd c5 (by omega)
    · skip
      exact absurd c3 (by omega)
  · skip
    exact absurd c2 (by omega)
theorem x17t_226 {c p h vx vy s1 s2 : Int} (hP : xP 226 c p h S) (hky : S 228 (h - 1) = 3) (hvy : S 229 (h - 1) = vy) (hkx : S 228 (h - 1 - 1) = 3) (hvx : S 229 (h - 1 - 1) = vx) (hh1 : 2 ≤ h) (hs1 : 0 ≤ s1 ∧ s1 + (l1.length : Int) ≤ S 3 (-1)) (hs2 : 0 ≤ s2 ∧ s2 + (l2.length : Int) ≤ S 3 (-1)) (hz : S 3 (-1) ≤ 10000000) (e1 : ∀ i : Nat, i < l1.length → S 3 (s1 + (i : Int)) = l1.getD i 0) (e2 : ∀ i : Nat, i < l2.length → S 3 (s2 + (i : Int)) = l2.getD i 0) (hv1 : vx = s1 * 4294967296 + (l1.length : Int)) (hv2 : vy = s2 * 4294967296 + (l2.length : Int)) (hr : -1000000 ≤ cmpL l1 l2 ∧ cmpL l1 l2 ≤ 1000000) : wJ (pe_GA xs) wY0 (mS [228, 229]) (d + 11) t_XK_operate ((pe_at t_XK_operate.bl 0).getD (0, [])).2 [(0, (2, 226)), (1, (0, 17))] [] S (fun o Z => o = .inl none ∧ sO 226 h c p (2) (1) (if cmpL l1 l2 ≤ 0 then 1 else 0) S Z) := by
  obtain ⟨⟨hC, hI⟩, ⟨bc, bc0, bc1⟩, ⟨bp, bp0, bp1⟩, ⟨bh, bh0, bh1, bh2⟩, bl1, bl2, bl3⟩ := hP
  replace bp : S 231 (c - 1) = p := bp
  replace bh : S 227 2 = h := bh
  replace bh2 : h ≤ S 228 (-1) := bh2
  replace bl1 : S 229 (-1) = S 228 (-1) := bl1
  replace bl2 : 64 ≤ S 228 (-1) := bl2
  replace bl3 : S 228 (-1) ≤ 4095 := bl3
  refine wa_aload_n (n := 0) rfl ?_
  refine wb_gf4 226 rfl (wy_pr rfl) wt_226 wf_8_3 (v := 227) wl_226_3 ?_
  refine wb_gfi 227 rfl (wy_pr rfl) wt_227 wf_7_2 (v := h) (bh) (fun r1 => ?_)
  refine wa_iconst ?_
  refine wa_isub ?_
  refine wa_istore_n (n := 2) rfl ?_
  refine wa_iload_n (n := 1) rfl ?_
  refine wa_bipush (w_rg2 (by omega) (by omega)) ?_
  refine wa_icmpne (w_rg0 (by omega) (by omega)) (w_rg0 (by omega) (by omega)) ⟨_, rfl⟩ (fun c2 => ?_) (fun c2 => ?_)
  · skip
    refine wa_iload_n (n := 1) rfl ?_
    refine wa_bipush (w_rg2 (by omega) (by omega)) ?_
    refine wa_icmpne (w_rg0 (by omega) (by omega)) (w_rg0 (by omega) (by omega)) ⟨_, rfl⟩ (fun c3 => ?_) (fun c3 => ?_)
    · skip
      refine wa_iload_n (n := 1) rfl ?_
      refine wa_bipush (w_rg2 (by omega) (by omega)) ?_
      refine wa_icmpeq (w_rg0 (by omega) (by omega)) (w_rg0 (by omega) (by omega)) ⟨_, rfl⟩ (fun c4 => ?_) (fun c4 => ?_)
      · skip
        exact absurd c4 (by omega)
      · skip
        refine wa_iload_n (n := 1) rfl ?_
        refine wa_bipush (w_rg2 (by omega) (by omega)) ?_
        refine wa_icmpne (w_rg0 (by omega) (by omega)) (w_rg0 (by omega) (by omega)) ⟨_, rfl⟩ (fun c5 => ?_) (fun c5 => ?_)
        · skip
          refine wa_aload_n (n := 0) rfl ?_
          refine wb_gf4 226 rfl (wy_pr rfl) wt_226 wf_8_3 (v := 227) wl_226_3 ?_
          refine wb_gf4 227 rfl (wy_pr rfl) wt_227 wf_7_0 (v := 228) wl_227_0 ?_
          refine wa_iload_n (n := 2) rfl ?_
          refine wb_bald 228 rfl (wy_pr rfl) wt_228 (n := (S 228 (-1))) (rfl) (by omega) (by omega) (v := 3) (hky) (fun r6 => ?_)
          refine wa_iconst ?_
          refine wa_icmpne (w_rg0 (by omega) (by omega)) (w_rg0 (by omega) (by omega)) ⟨_, rfl⟩ (fun c7 => ?_) (fun c7 => ?_)
          · skip
            refine wa_iload_n (n := 1) rfl ?_
            refine wa_bipush (w_rg2 (by omega) (by omega)) ?_
            refine wa_icmpne (w_rg0 (by omega) (by omega)) (w_rg0 (by omega) (by omega)) ⟨_, rfl⟩ (fun c8 => ?_) (fun c8 => ?_)
            · skip
              refine wa_iload_n (n := 1) rfl ?_
              refine wa_bipush (w_rg2 (by omega) (by omega)) ?_
              refine wa_icmplt (w_rg0 (by omega) (by omega)) (w_rg0 (by omega) (by omega)) ⟨_, rfl⟩ (fun c9 => ?_) (fun c9 => ?_)
              · skip
                exact absurd c9 (by omega)
              · skip
                refine wa_aload_n (n := 0) rfl ?_
                refine wb_gf4 226 rfl (wy_pr rfl) wt_226 wf_8_3 (v := 227) wl_226_3 ?_
                refine wb_gf4 227 rfl (wy_pr rfl) wt_227 wf_7_0 (v := 228) wl_227_0 ?_
                refine wa_iload_n (n := 2) rfl ?_
                refine wb_bald 228 rfl (wy_pr rfl) wt_228 (n := (S 228 (-1))) (rfl) (by omega) (by omega) (v := 3) (hky) (fun r10 => ?_)
                refine wa_iconst ?_
                refine wa_icmpne (w_rg0 (by omega) (by omega)) (w_rg0 (by omega) (by omega)) ⟨_, rfl⟩ (fun c11 => ?_) (fun c11 => ?_)
                · skip
                  exact absurd c11 (by omega)
                · skip
                  refine wa_aload_n (n := 0) rfl ?_
                  refine wb_gf4 226 rfl (wy_pr rfl) wt_226 wf_8_3 (v := 227) wl_226_3 ?_
                  refine wb_gf4 227 rfl (wy_pr rfl) wt_227 wf_7_0 (v := 228) wl_227_0 ?_
                  refine wa_iload_n (n := 2) rfl ?_
                  refine wa_iconst ?_
                  refine wa_isub ?_
                  refine wb_bald 228 rfl (wy_pr rfl) wt_228 (n := (S 228 (-1))) (rfl) (by omega) (by omega) (v := 3) (hkx) (fun r12 => ?_)
                  refine wa_iconst ?_
                  refine wa_icmpne (w_rg0 (by omega) (by omega)) (w_rg0 (by omega) (by omega)) ⟨_, rfl⟩ (fun c13 => ?_) (fun c13 => ?_)
                  · skip
                    exact absurd c13 (by omega)
                  · skip
                    refine wa_aload_n (n := 0) rfl ?_
                    refine wb_gf4 226 rfl (wy_pr rfl) wt_226 wf_8_0 (v := 72) wl_226_0 ?_
                    refine wb_gf4 72 rfl (wy_pr rfl) wt_72 wf_2_0 (v := 2) wl_72_0 ?_
                    refine wa_aload_n (n := 0) rfl ?_
                    refine wb_gf4 226 rfl (wy_pr rfl) wt_226 wf_8_3 (v := 227) wl_226_3 ?_
                    refine wb_gf4 227 rfl (wy_pr rfl) wt_227 wf_7_1 (v := 229) wl_227_1 ?_
                    refine wa_iload_n (n := 2) rfl ?_
                    refine wa_iconst ?_
                    refine wa_isub ?_
                    refine wb_lald 229 rfl (wy_pr rfl) wt_229 (n := (S 228 (-1))) (bl1) (by omega) (by omega) (v := vx) (hvx) (fun r14 => ?_)
                    refine wa_aload_n (n := 0) rfl ?_
                    refine wb_gf4 226 rfl (wy_pr rfl) wt_226 wf_8_3 (v := 227) wl_226_3 ?_
                    refine wb_gf4 227 rfl (wy_pr rfl) wt_227 wf_7_1 (v := 229) wl_227_1 ?_
                    refine wa_iload_n (n := 2) rfl ?_
                    refine wb_lald 229 rfl (wy_pr rfl) wt_229 (n := (S 228 (-1))) (bl1) (by omega) (by omega) (v := vy) (hvy) (fun r15 => ?_)
                    refine wa_cv 2 rfl (wy_pr rfl) wt_2 (M2 := fun _ => False) rfl at_XW_compare ⟨_, rfl⟩ rfl rfl ⟨trivial, (Or.inr ⟨wy_pr rfl, fun q => q⟩), trivial, trivial⟩ trivial (fun _ _ q => False.elim q) (cp_ok (S := S) hs1 hs2 hz e1 e2 hv1 hv2) (fun oq16 Sq16 hp17 q16 => ?_)
                    rcases q16 with ⟨rfl, rfl⟩
                    show wJ _ _ _ _ _ _ _ _ _ _
                    refine wa_istore_n (n := 3) rfl ?_
                    refine wa_aload_n (n := 0) rfl ?_
                    refine wa_iconst ?_
                    refine wa_iconst ?_
                    refine wa_iload_n (n := 1) rfl ?_
                    refine wa_fall ⟨_, rfl⟩ ?_
                    refine wa_iload_n (n := 3) rfl ?_
                    refine wa_cs (M2 := mS [228, 229]) rfl at_XK_isOrdered ⟨_, rfl⟩ rfl rfl ⟨trivial, trivial, (Or.inr ⟨wy_pr rfl, mS_no rfl⟩), trivial, trivial⟩ ⟨trivial, trivial, (Or.inr ⟨wy_pr rfl, mS_no rfl⟩), trivial⟩ (fun _ _ q => q) ?_ (fun _ _ _ q => q)
                    refine wa_iload_n (n := 0) rfl ?_
                    refine wb_sw (w_rg0 (by omega) (by omega)) (tb := 4) rfl ⟨_, rfl⟩ ?_
                    refine wa_iload_n (n := 1) rfl ?_
                    refine wa_ifgt (w_rg0 (by omega) (by omega)) ⟨_, rfl⟩ (fun c18 => ?_) (fun c18 => ?_)
                    · skip
                      refine wa_iconst ?_
                      refine wa_fall ⟨_, rfl⟩ ?_
                      refine wa_zreturn rfl (Or.inl rfl) ?_
                      show wJ _ _ _ _ _ _ _ _ _ _
                      refine wa_ifeq (w_rg0 (by omega) (by omega)) ⟨_, rfl⟩ (fun c19 => ?_) (fun c19 => ?_)
                      · skip
                        refine wb_lconst (m := 0) rfl ?_
                        refine wa_fall ⟨_, rfl⟩ ?_
                        refine wa_cv 226 rfl (wy_pr rfl) wt_226 (M2 := mS [228, 229]) rfl at_XK_give ⟨_, rfl⟩ rfl rfl ⟨trivial, trivial, (Or.inr ⟨wy_pr rfl, mS_no rfl⟩), trivial, trivial⟩ trivial (fun _ _ q => q) (gw_226 (S := S) (n := 2) (k := 1) (v := 0) (h := h) (c := c) (p := p) (ln := (S 228 (-1))) hC hI ⟨by omega, by omega⟩ ⟨by omega, by omega⟩ (bh) (bc) (bp) (rfl) (bl1) ⟨by omega, by omega⟩ ⟨by omega, by omega, by omega⟩ ⟨by omega, by omega⟩ ⟨by omega, by omega⟩) (fun oq20 Sq20 hp21 q20 => ?_)
                        rcases q20 with ⟨rfl, A20, ra20, rfl⟩
                        show wJ _ _ _ _ _ _ _ _ _ _
                        refine wa_goto ⟨_, rfl⟩ ?_
                        refine wa_return rfl ?_
                        refine ⟨rfl, A20, ?_, rfl⟩
                        repeat (first | rw [if_pos (by omega)] | rw [if_neg (by omega)])
                        exact ra20
                      · skip
                        exact absurd c19 (by omega)
                    · skip
                      refine wa_iconst ?_
                      refine wa_goto ⟨_, rfl⟩ ?_
                      refine wa_zreturn rfl (Or.inr rfl) ?_
                      show wJ _ _ _ _ _ _ _ _ _ _
                      refine wa_ifeq (w_rg0 (by omega) (by omega)) ⟨_, rfl⟩ (fun c22 => ?_) (fun c22 => ?_)
                      · skip
                        exact absurd c22 (by omega)
                      · skip
                        refine wb_lconst (m := 1) rfl ?_
                        refine wa_goto ⟨_, rfl⟩ ?_
                        refine wa_cv 226 rfl (wy_pr rfl) wt_226 (M2 := mS [228, 229]) rfl at_XK_give ⟨_, rfl⟩ rfl rfl ⟨trivial, trivial, (Or.inr ⟨wy_pr rfl, mS_no rfl⟩), trivial, trivial⟩ trivial (fun _ _ q => q) (gw_226 (S := S) (n := 2) (k := 1) (v := 1) (h := h) (c := c) (p := p) (ln := (S 228 (-1))) hC hI ⟨by omega, by omega⟩ ⟨by omega, by omega⟩ (bh) (bc) (bp) (rfl) (bl1) ⟨by omega, by omega⟩ ⟨by omega, by omega, by omega⟩ ⟨by omega, by omega⟩ ⟨by omega, by omega⟩) (fun oq23 Sq23 hp24 q23 => ?_)
                        rcases q23 with ⟨rfl, A23, ra23, rfl⟩
                        show wJ _ _ _ _ _ _ _ _ _ _
                        refine wa_goto ⟨_, rfl⟩ ?_
                        refine wa_return rfl ?_
                        refine ⟨rfl, A23, ?_, rfl⟩
                        repeat (first | rw [if_pos (by omega)] | rw [if_neg (by omega)])
                        exact ra23
            · skip
              exact absurd c8 (by omega)
          · skip
            exact absurd c7 (by omega)
        · skip
          exact absurd c5 (by omega)
    · skip
      exact absurd c3 (by omega)
  · skip
    exact absurd c2 (by omega)
theorem x18t_226 {c p h vx vy s1 s2 : Int} (hP : xP 226 c p h S) (hky : S 228 (h - 1) = 3) (hvy : S 229 (h - 1) = vy) (hkx : S 228 (h - 1 - 1) = 3) (hvx : S 229 (h - 1 - 1) = vx) (hh1 : 2 ≤ h) (hs1 : 0 ≤ s1 ∧ s1 + (l1.length : Int) ≤ S 3 (-1)) (hs2 : 0 ≤ s2 ∧ s2 + (l2.length : Int) ≤ S 3 (-1)) (hz : S 3 (-1) ≤ 10000000) (e1 : ∀ i : Nat, i < l1.length → S 3 (s1 + (i : Int)) = l1.getD i 0) (e2 : ∀ i : Nat, i < l2.length → S 3 (s2 + (i : Int)) = l2.getD i 0) (hv1 : vx = s1 * 4294967296 + (l1.length : Int)) (hv2 : vy = s2 * 4294967296 + (l2.length : Int)) (hr : -1000000 ≤ cmpL l1 l2 ∧ cmpL l1 l2 ≤ 1000000) : wJ (pe_GA xs) wY0 (mS [228, 229]) (d + 11) t_XK_operate ((pe_at t_XK_operate.bl 0).getD (0, [])).2 [(0, (2, 226)), (1, (0, 18))] [] S (fun o Z => o = .inl none ∧ sO 226 h c p (2) (1) (if 0 < cmpL l1 l2 then 1 else 0) S Z) := by
  obtain ⟨⟨hC, hI⟩, ⟨bc, bc0, bc1⟩, ⟨bp, bp0, bp1⟩, ⟨bh, bh0, bh1, bh2⟩, bl1, bl2, bl3⟩ := hP
  replace bp : S 231 (c - 1) = p := bp
  replace bh : S 227 2 = h := bh
  replace bh2 : h ≤ S 228 (-1) := bh2
  replace bl1 : S 229 (-1) = S 228 (-1) := bl1
  replace bl2 : 64 ≤ S 228 (-1) := bl2
  replace bl3 : S 228 (-1) ≤ 4095 := bl3
  refine wa_aload_n (n := 0) rfl ?_
  refine wb_gf4 226 rfl (wy_pr rfl) wt_226 wf_8_3 (v := 227) wl_226_3 ?_
  refine wb_gfi 227 rfl (wy_pr rfl) wt_227 wf_7_2 (v := h) (bh) (fun r1 => ?_)
  refine wa_iconst ?_
  refine wa_isub ?_
  refine wa_istore_n (n := 2) rfl ?_
  refine wa_iload_n (n := 1) rfl ?_
  refine wa_bipush (w_rg2 (by omega) (by omega)) ?_
  refine wa_icmpne (w_rg0 (by omega) (by omega)) (w_rg0 (by omega) (by omega)) ⟨_, rfl⟩ (fun c2 => ?_) (fun c2 => ?_)
  · skip
    refine wa_iload_n (n := 1) rfl ?_
    refine wa_bipush (w_rg2 (by omega) (by omega)) ?_
    refine wa_icmpne (w_rg0 (by omega) (by omega)) (w_rg0 (by omega) (by omega)) ⟨_, rfl⟩ (fun c3 => ?_) (fun c3 => ?_)
    · skip
      refine wa_iload_n (n := 1) rfl ?_
      refine wa_bipush (w_rg2 (by omega) (by omega)) ?_
      refine wa_icmpeq (w_rg0 (by omega) (by omega)) (w_rg0 (by omega) (by omega)) ⟨_, rfl⟩ (fun c4 => ?_) (fun c4 => ?_)
      · skip
        exact absurd c4 (by omega)
      · skip
        refine wa_iload_n (n := 1) rfl ?_
        refine wa_bipush (w_rg2 (by omega) (by omega)) ?_
        refine wa_icmpne (w_rg0 (by omega) (by omega)) (w_rg0 (by omega) (by omega)) ⟨_, rfl⟩ (fun c5 => ?_) (fun c5 => ?_)
        · skip
          refine wa_aload_n (n := 0) rfl ?_
          refine wb_gf4 226 rfl (wy_pr rfl) wt_226 wf_8_3 (v := 227) wl_226_3 ?_
          refine wb_gf4 227 rfl (wy_pr rfl) wt_227 wf_7_0 (v := 228) wl_227_0 ?_
          refine wa_iload_n (n := 2) rfl ?_
          refine wb_bald 228 rfl (wy_pr rfl) wt_228 (n := (S 228 (-1))) (rfl) (by omega) (by omega) (v := 3) (hky) (fun r6 => ?_)
          refine wa_iconst ?_
          refine wa_icmpne (w_rg0 (by omega) (by omega)) (w_rg0 (by omega) (by omega)) ⟨_, rfl⟩ (fun c7 => ?_) (fun c7 => ?_)
          · skip
            refine wa_iload_n (n := 1) rfl ?_
            refine wa_bipush (w_rg2 (by omega) (by omega)) ?_
            refine wa_icmpne (w_rg0 (by omega) (by omega)) (w_rg0 (by omega) (by omega)) ⟨_, rfl⟩ (fun c8 => ?_) (fun c8 => ?_)
            · skip
              refine wa_iload_n (n := 1) rfl ?_
              refine wa_bipush (w_rg2 (by omega) (by omega)) ?_
              refine wa_icmplt (w_rg0 (by omega) (by omega)) (w_rg0 (by omega) (by omega)) ⟨_, rfl⟩ (fun c9 => ?_) (fun c9 => ?_)
              · skip
                exact absurd c9 (by omega)
              · skip
                refine wa_aload_n (n := 0) rfl ?_
                refine wb_gf4 226 rfl (wy_pr rfl) wt_226 wf_8_3 (v := 227) wl_226_3 ?_
                refine wb_gf4 227 rfl (wy_pr rfl) wt_227 wf_7_0 (v := 228) wl_227_0 ?_
                refine wa_iload_n (n := 2) rfl ?_
                refine wb_bald 228 rfl (wy_pr rfl) wt_228 (n := (S 228 (-1))) (rfl) (by omega) (by omega) (v := 3) (hky) (fun r10 => ?_)
                refine wa_iconst ?_
                refine wa_icmpne (w_rg0 (by omega) (by omega)) (w_rg0 (by omega) (by omega)) ⟨_, rfl⟩ (fun c11 => ?_) (fun c11 => ?_)
                · skip
                  exact absurd c11 (by omega)
                · skip
                  refine wa_aload_n (n := 0) rfl ?_
                  refine wb_gf4 226 rfl (wy_pr rfl) wt_226 wf_8_3 (v := 227) wl_226_3 ?_
                  refine wb_gf4 227 rfl (wy_pr rfl) wt_227 wf_7_0 (v := 228) wl_227_0 ?_
                  refine wa_iload_n (n := 2) rfl ?_
                  refine wa_iconst ?_
                  refine wa_isub ?_
                  refine wb_bald 228 rfl (wy_pr rfl) wt_228 (n := (S 228 (-1))) (rfl) (by omega) (by omega) (v := 3) (hkx) (fun r12 => ?_)
                  refine wa_iconst ?_
                  refine wa_icmpne (w_rg0 (by omega) (by omega)) (w_rg0 (by omega) (by omega)) ⟨_, rfl⟩ (fun c13 => ?_) (fun c13 => ?_)
                  · skip
                    exact absurd c13 (by omega)
                  · skip
                    refine wa_aload_n (n := 0) rfl ?_
                    refine wb_gf4 226 rfl (wy_pr rfl) wt_226 wf_8_0 (v := 72) wl_226_0 ?_
                    refine wb_gf4 72 rfl (wy_pr rfl) wt_72 wf_2_0 (v := 2) wl_72_0 ?_
                    refine wa_aload_n (n := 0) rfl ?_
                    refine wb_gf4 226 rfl (wy_pr rfl) wt_226 wf_8_3 (v := 227) wl_226_3 ?_
                    refine wb_gf4 227 rfl (wy_pr rfl) wt_227 wf_7_1 (v := 229) wl_227_1 ?_
                    refine wa_iload_n (n := 2) rfl ?_
                    refine wa_iconst ?_
                    refine wa_isub ?_
                    refine wb_lald 229 rfl (wy_pr rfl) wt_229 (n := (S 228 (-1))) (bl1) (by omega) (by omega) (v := vx) (hvx) (fun r14 => ?_)
                    refine wa_aload_n (n := 0) rfl ?_
                    refine wb_gf4 226 rfl (wy_pr rfl) wt_226 wf_8_3 (v := 227) wl_226_3 ?_
                    refine wb_gf4 227 rfl (wy_pr rfl) wt_227 wf_7_1 (v := 229) wl_227_1 ?_
                    refine wa_iload_n (n := 2) rfl ?_
                    refine wb_lald 229 rfl (wy_pr rfl) wt_229 (n := (S 228 (-1))) (bl1) (by omega) (by omega) (v := vy) (hvy) (fun r15 => ?_)
                    refine wa_cv 2 rfl (wy_pr rfl) wt_2 (M2 := fun _ => False) rfl at_XW_compare ⟨_, rfl⟩ rfl rfl ⟨trivial, (Or.inr ⟨wy_pr rfl, fun q => q⟩), trivial, trivial⟩ trivial (fun _ _ q => False.elim q) (cp_ok (S := S) hs1 hs2 hz e1 e2 hv1 hv2) (fun oq16 Sq16 hp17 q16 => ?_)
                    rcases q16 with ⟨rfl, rfl⟩
                    show wJ _ _ _ _ _ _ _ _ _ _
                    refine wa_istore_n (n := 3) rfl ?_
                    refine wa_aload_n (n := 0) rfl ?_
                    refine wa_iconst ?_
                    refine wa_iconst ?_
                    refine wa_iload_n (n := 1) rfl ?_
                    refine wa_fall ⟨_, rfl⟩ ?_
                    refine wa_iload_n (n := 3) rfl ?_
                    refine wa_cs (M2 := mS [228, 229]) rfl at_XK_isOrdered ⟨_, rfl⟩ rfl rfl ⟨trivial, trivial, (Or.inr ⟨wy_pr rfl, mS_no rfl⟩), trivial, trivial⟩ ⟨trivial, trivial, (Or.inr ⟨wy_pr rfl, mS_no rfl⟩), trivial⟩ (fun _ _ q => q) ?_ (fun _ _ _ q => q)
                    refine wa_iload_n (n := 0) rfl ?_
                    refine wb_sw (w_rg0 (by omega) (by omega)) (tb := 7) rfl ⟨_, rfl⟩ ?_
                    refine wa_iload_n (n := 1) rfl ?_
                    refine wa_ifle (w_rg0 (by omega) (by omega)) ⟨_, rfl⟩ (fun c18 => ?_) (fun c18 => ?_)
                    · skip
                      refine wa_iconst ?_
                      refine wa_fall ⟨_, rfl⟩ ?_
                      refine wa_zreturn rfl (Or.inl rfl) ?_
                      show wJ _ _ _ _ _ _ _ _ _ _
                      refine wa_ifeq (w_rg0 (by omega) (by omega)) ⟨_, rfl⟩ (fun c19 => ?_) (fun c19 => ?_)
                      · skip
                        refine wb_lconst (m := 0) rfl ?_
                        refine wa_fall ⟨_, rfl⟩ ?_
                        refine wa_cv 226 rfl (wy_pr rfl) wt_226 (M2 := mS [228, 229]) rfl at_XK_give ⟨_, rfl⟩ rfl rfl ⟨trivial, trivial, (Or.inr ⟨wy_pr rfl, mS_no rfl⟩), trivial, trivial⟩ trivial (fun _ _ q => q) (gw_226 (S := S) (n := 2) (k := 1) (v := 0) (h := h) (c := c) (p := p) (ln := (S 228 (-1))) hC hI ⟨by omega, by omega⟩ ⟨by omega, by omega⟩ (bh) (bc) (bp) (rfl) (bl1) ⟨by omega, by omega⟩ ⟨by omega, by omega, by omega⟩ ⟨by omega, by omega⟩ ⟨by omega, by omega⟩) (fun oq20 Sq20 hp21 q20 => ?_)
                        rcases q20 with ⟨rfl, A20, ra20, rfl⟩
                        show wJ _ _ _ _ _ _ _ _ _ _
                        refine wa_goto ⟨_, rfl⟩ ?_
                        refine wa_return rfl ?_
                        refine ⟨rfl, A20, ?_, rfl⟩
                        repeat (first | rw [if_pos (by omega)] | rw [if_neg (by omega)])
                        exact ra20
                      · skip
                        exact absurd c19 (by omega)
                    · skip
                      refine wa_iconst ?_
                      refine wa_goto ⟨_, rfl⟩ ?_
                      refine wa_zreturn rfl (Or.inr rfl) ?_
                      show wJ _ _ _ _ _ _ _ _ _ _
                      refine wa_ifeq (w_rg0 (by omega) (by omega)) ⟨_, rfl⟩ (fun c22 => ?_) (fun c22 => ?_)
                      · skip
                        exact absurd c22 (by omega)
                      · skip
                        refine wb_lconst (m := 1) rfl ?_
                        refine wa_goto ⟨_, rfl⟩ ?_
                        refine wa_cv 226 rfl (wy_pr rfl) wt_226 (M2 := mS [228, 229]) rfl at_XK_give ⟨_, rfl⟩ rfl rfl ⟨trivial, trivial, (Or.inr ⟨wy_pr rfl, mS_no rfl⟩), trivial, trivial⟩ trivial (fun _ _ q => q) (gw_226 (S := S) (n := 2) (k := 1) (v := 1) (h := h) (c := c) (p := p) (ln := (S 228 (-1))) hC hI ⟨by omega, by omega⟩ ⟨by omega, by omega⟩ (bh) (bc) (bp) (rfl) (bl1) ⟨by omega, by omega⟩ ⟨by omega, by omega, by omega⟩ ⟨by omega, by omega⟩ ⟨by omega, by omega⟩) (fun oq23 Sq23 hp24 q23 => ?_)
                        rcases q23 with ⟨rfl, A23, ra23, rfl⟩
                        show wJ _ _ _ _ _ _ _ _ _ _
                        refine wa_goto ⟨_, rfl⟩ ?_
                        refine wa_return rfl ?_
                        refine ⟨rfl, A23, ?_, rfl⟩
                        repeat (first | rw [if_pos (by omega)] | rw [if_neg (by omega)])
                        exact ra23
            · skip
              exact absurd c8 (by omega)
          · skip
            exact absurd c7 (by omega)
        · skip
          exact absurd c5 (by omega)
    · skip
      exact absurd c3 (by omega)
  · skip
    exact absurd c2 (by omega)
theorem x19t_226 {c p h vx vy s1 s2 : Int} (hP : xP 226 c p h S) (hky : S 228 (h - 1) = 3) (hvy : S 229 (h - 1) = vy) (hkx : S 228 (h - 1 - 1) = 3) (hvx : S 229 (h - 1 - 1) = vx) (hh1 : 2 ≤ h) (hs1 : 0 ≤ s1 ∧ s1 + (l1.length : Int) ≤ S 3 (-1)) (hs2 : 0 ≤ s2 ∧ s2 + (l2.length : Int) ≤ S 3 (-1)) (hz : S 3 (-1) ≤ 10000000) (e1 : ∀ i : Nat, i < l1.length → S 3 (s1 + (i : Int)) = l1.getD i 0) (e2 : ∀ i : Nat, i < l2.length → S 3 (s2 + (i : Int)) = l2.getD i 0) (hv1 : vx = s1 * 4294967296 + (l1.length : Int)) (hv2 : vy = s2 * 4294967296 + (l2.length : Int)) (hr : -1000000 ≤ cmpL l1 l2 ∧ cmpL l1 l2 ≤ 1000000) : wJ (pe_GA xs) wY0 (mS [228, 229]) (d + 11) t_XK_operate ((pe_at t_XK_operate.bl 0).getD (0, [])).2 [(0, (2, 226)), (1, (0, 19))] [] S (fun o Z => o = .inl none ∧ sO 226 h c p (2) (1) (if 0 ≤ cmpL l1 l2 then 1 else 0) S Z) := by
  obtain ⟨⟨hC, hI⟩, ⟨bc, bc0, bc1⟩, ⟨bp, bp0, bp1⟩, ⟨bh, bh0, bh1, bh2⟩, bl1, bl2, bl3⟩ := hP
  replace bp : S 231 (c - 1) = p := bp
  replace bh : S 227 2 = h := bh
  replace bh2 : h ≤ S 228 (-1) := bh2
  replace bl1 : S 229 (-1) = S 228 (-1) := bl1
  replace bl2 : 64 ≤ S 228 (-1) := bl2
  replace bl3 : S 228 (-1) ≤ 4095 := bl3
  refine wa_aload_n (n := 0) rfl ?_
  refine wb_gf4 226 rfl (wy_pr rfl) wt_226 wf_8_3 (v := 227) wl_226_3 ?_
  refine wb_gfi 227 rfl (wy_pr rfl) wt_227 wf_7_2 (v := h) (bh) (fun r1 => ?_)
  refine wa_iconst ?_
  refine wa_isub ?_
  refine wa_istore_n (n := 2) rfl ?_
  refine wa_iload_n (n := 1) rfl ?_
  refine wa_bipush (w_rg2 (by omega) (by omega)) ?_
  refine wa_icmpne (w_rg0 (by omega) (by omega)) (w_rg0 (by omega) (by omega)) ⟨_, rfl⟩ (fun c2 => ?_) (fun c2 => ?_)
  · skip
    refine wa_iload_n (n := 1) rfl ?_
    refine wa_bipush (w_rg2 (by omega) (by omega)) ?_
    refine wa_icmpne (w_rg0 (by omega) (by omega)) (w_rg0 (by omega) (by omega)) ⟨_, rfl⟩ (fun c3 => ?_) (fun c3 => ?_)
    · skip
      refine wa_iload_n (n := 1) rfl ?_
      refine wa_bipush (w_rg2 (by omega) (by omega)) ?_
      refine wa_icmpeq (w_rg0 (by omega) (by omega)) (w_rg0 (by omega) (by omega)) ⟨_, rfl⟩ (fun c4 => ?_) (fun c4 => ?_)
      · skip
        exact absurd c4 (by omega)
      · skip
        refine wa_iload_n (n := 1) rfl ?_
        refine wa_bipush (w_rg2 (by omega) (by omega)) ?_
        refine wa_icmpne (w_rg0 (by omega) (by omega)) (w_rg0 (by omega) (by omega)) ⟨_, rfl⟩ (fun c5 => ?_) (fun c5 => ?_)
        · skip
          refine wa_aload_n (n := 0) rfl ?_
          refine wb_gf4 226 rfl (wy_pr rfl) wt_226 wf_8_3 (v := 227) wl_226_3 ?_
          refine wb_gf4 227 rfl (wy_pr rfl) wt_227 wf_7_0 (v := 228) wl_227_0 ?_
          refine wa_iload_n (n := 2) rfl ?_
          refine wb_bald 228 rfl (wy_pr rfl) wt_228 (n := (S 228 (-1))) (rfl) (by omega) (by omega) (v := 3) (hky) (fun r6 => ?_)
          refine wa_iconst ?_
          refine wa_icmpne (w_rg0 (by omega) (by omega)) (w_rg0 (by omega) (by omega)) ⟨_, rfl⟩ (fun c7 => ?_) (fun c7 => ?_)
          · skip
            refine wa_iload_n (n := 1) rfl ?_
            refine wa_bipush (w_rg2 (by omega) (by omega)) ?_
            refine wa_icmpne (w_rg0 (by omega) (by omega)) (w_rg0 (by omega) (by omega)) ⟨_, rfl⟩ (fun c8 => ?_) (fun c8 => ?_)
            · skip
              refine wa_iload_n (n := 1) rfl ?_
              refine wa_bipush (w_rg2 (by omega) (by omega)) ?_
              refine wa_icmplt (w_rg0 (by omega) (by omega)) (w_rg0 (by omega) (by omega)) ⟨_, rfl⟩ (fun c9 => ?_) (fun c9 => ?_)
              · skip
                exact absurd c9 (by omega)
              · skip
                refine wa_aload_n (n := 0) rfl ?_
                refine wb_gf4 226 rfl (wy_pr rfl) wt_226 wf_8_3 (v := 227) wl_226_3 ?_
                refine wb_gf4 227 rfl (wy_pr rfl) wt_227 wf_7_0 (v := 228) wl_227_0 ?_
                refine wa_iload_n (n := 2) rfl ?_
                refine wb_bald 228 rfl (wy_pr rfl) wt_228 (n := (S 228 (-1))) (rfl) (by omega) (by omega) (v := 3) (hky) (fun r10 => ?_)
                refine wa_iconst ?_
                refine wa_icmpne (w_rg0 (by omega) (by omega)) (w_rg0 (by omega) (by omega)) ⟨_, rfl⟩ (fun c11 => ?_) (fun c11 => ?_)
                · skip
                  exact absurd c11 (by omega)
                · skip
                  refine wa_aload_n (n := 0) rfl ?_
                  refine wb_gf4 226 rfl (wy_pr rfl) wt_226 wf_8_3 (v := 227) wl_226_3 ?_
                  refine wb_gf4 227 rfl (wy_pr rfl) wt_227 wf_7_0 (v := 228) wl_227_0 ?_
                  refine wa_iload_n (n := 2) rfl ?_
                  refine wa_iconst ?_
                  refine wa_isub ?_
                  refine wb_bald 228 rfl (wy_pr rfl) wt_228 (n := (S 228 (-1))) (rfl) (by omega) (by omega) (v := 3) (hkx) (fun r12 => ?_)
                  refine wa_iconst ?_
                  refine wa_icmpne (w_rg0 (by omega) (by omega)) (w_rg0 (by omega) (by omega)) ⟨_, rfl⟩ (fun c13 => ?_) (fun c13 => ?_)
                  · skip
                    exact absurd c13 (by omega)
                  · skip
                    refine wa_aload_n (n := 0) rfl ?_
                    refine wb_gf4 226 rfl (wy_pr rfl) wt_226 wf_8_0 (v := 72) wl_226_0 ?_
                    refine wb_gf4 72 rfl (wy_pr rfl) wt_72 wf_2_0 (v := 2) wl_72_0 ?_
                    refine wa_aload_n (n := 0) rfl ?_
                    refine wb_gf4 226 rfl (wy_pr rfl) wt_226 wf_8_3 (v := 227) wl_226_3 ?_
                    refine wb_gf4 227 rfl (wy_pr rfl) wt_227 wf_7_1 (v := 229) wl_227_1 ?_
                    refine wa_iload_n (n := 2) rfl ?_
                    refine wa_iconst ?_
                    refine wa_isub ?_
                    refine wb_lald 229 rfl (wy_pr rfl) wt_229 (n := (S 228 (-1))) (bl1) (by omega) (by omega) (v := vx) (hvx) (fun r14 => ?_)
                    refine wa_aload_n (n := 0) rfl ?_
                    refine wb_gf4 226 rfl (wy_pr rfl) wt_226 wf_8_3 (v := 227) wl_226_3 ?_
                    refine wb_gf4 227 rfl (wy_pr rfl) wt_227 wf_7_1 (v := 229) wl_227_1 ?_
                    refine wa_iload_n (n := 2) rfl ?_
                    refine wb_lald 229 rfl (wy_pr rfl) wt_229 (n := (S 228 (-1))) (bl1) (by omega) (by omega) (v := vy) (hvy) (fun r15 => ?_)
                    refine wa_cv 2 rfl (wy_pr rfl) wt_2 (M2 := fun _ => False) rfl at_XW_compare ⟨_, rfl⟩ rfl rfl ⟨trivial, (Or.inr ⟨wy_pr rfl, fun q => q⟩), trivial, trivial⟩ trivial (fun _ _ q => False.elim q) (cp_ok (S := S) hs1 hs2 hz e1 e2 hv1 hv2) (fun oq16 Sq16 hp17 q16 => ?_)
                    rcases q16 with ⟨rfl, rfl⟩
                    show wJ _ _ _ _ _ _ _ _ _ _
                    refine wa_istore_n (n := 3) rfl ?_
                    refine wa_aload_n (n := 0) rfl ?_
                    refine wa_iconst ?_
                    refine wa_iconst ?_
                    refine wa_iload_n (n := 1) rfl ?_
                    refine wa_fall ⟨_, rfl⟩ ?_
                    refine wa_iload_n (n := 3) rfl ?_
                    refine wa_cs (M2 := mS [228, 229]) rfl at_XK_isOrdered ⟨_, rfl⟩ rfl rfl ⟨trivial, trivial, (Or.inr ⟨wy_pr rfl, mS_no rfl⟩), trivial, trivial⟩ ⟨trivial, trivial, (Or.inr ⟨wy_pr rfl, mS_no rfl⟩), trivial⟩ (fun _ _ q => q) ?_ (fun _ _ _ q => q)
                    refine wa_iload_n (n := 0) rfl ?_
                    refine wb_sw (w_rg0 (by omega) (by omega)) (tb := 10) rfl ⟨_, rfl⟩ ?_
                    refine wa_iload_n (n := 1) rfl ?_
                    refine wa_iflt (w_rg0 (by omega) (by omega)) ⟨_, rfl⟩ (fun c18 => ?_) (fun c18 => ?_)
                    · skip
                      refine wa_iconst ?_
                      refine wa_fall ⟨_, rfl⟩ ?_
                      refine wa_zreturn rfl (Or.inl rfl) ?_
                      show wJ _ _ _ _ _ _ _ _ _ _
                      refine wa_ifeq (w_rg0 (by omega) (by omega)) ⟨_, rfl⟩ (fun c19 => ?_) (fun c19 => ?_)
                      · skip
                        refine wb_lconst (m := 0) rfl ?_
                        refine wa_fall ⟨_, rfl⟩ ?_
                        refine wa_cv 226 rfl (wy_pr rfl) wt_226 (M2 := mS [228, 229]) rfl at_XK_give ⟨_, rfl⟩ rfl rfl ⟨trivial, trivial, (Or.inr ⟨wy_pr rfl, mS_no rfl⟩), trivial, trivial⟩ trivial (fun _ _ q => q) (gw_226 (S := S) (n := 2) (k := 1) (v := 0) (h := h) (c := c) (p := p) (ln := (S 228 (-1))) hC hI ⟨by omega, by omega⟩ ⟨by omega, by omega⟩ (bh) (bc) (bp) (rfl) (bl1) ⟨by omega, by omega⟩ ⟨by omega, by omega, by omega⟩ ⟨by omega, by omega⟩ ⟨by omega, by omega⟩) (fun oq20 Sq20 hp21 q20 => ?_)
                        rcases q20 with ⟨rfl, A20, ra20, rfl⟩
                        show wJ _ _ _ _ _ _ _ _ _ _
                        refine wa_goto ⟨_, rfl⟩ ?_
                        refine wa_return rfl ?_
                        refine ⟨rfl, A20, ?_, rfl⟩
                        repeat (first | rw [if_pos (by omega)] | rw [if_neg (by omega)])
                        exact ra20
                      · skip
                        exact absurd c19 (by omega)
                    · skip
                      refine wa_iconst ?_
                      refine wa_goto ⟨_, rfl⟩ ?_
                      refine wa_zreturn rfl (Or.inr rfl) ?_
                      show wJ _ _ _ _ _ _ _ _ _ _
                      refine wa_ifeq (w_rg0 (by omega) (by omega)) ⟨_, rfl⟩ (fun c22 => ?_) (fun c22 => ?_)
                      · skip
                        exact absurd c22 (by omega)
                      · skip
                        refine wb_lconst (m := 1) rfl ?_
                        refine wa_goto ⟨_, rfl⟩ ?_
                        refine wa_cv 226 rfl (wy_pr rfl) wt_226 (M2 := mS [228, 229]) rfl at_XK_give ⟨_, rfl⟩ rfl rfl ⟨trivial, trivial, (Or.inr ⟨wy_pr rfl, mS_no rfl⟩), trivial, trivial⟩ trivial (fun _ _ q => q) (gw_226 (S := S) (n := 2) (k := 1) (v := 1) (h := h) (c := c) (p := p) (ln := (S 228 (-1))) hC hI ⟨by omega, by omega⟩ ⟨by omega, by omega⟩ (bh) (bc) (bp) (rfl) (bl1) ⟨by omega, by omega⟩ ⟨by omega, by omega, by omega⟩ ⟨by omega, by omega⟩ ⟨by omega, by omega⟩) (fun oq23 Sq23 hp24 q23 => ?_)
                        rcases q23 with ⟨rfl, A23, ra23, rfl⟩
                        show wJ _ _ _ _ _ _ _ _ _ _
                        refine wa_goto ⟨_, rfl⟩ ?_
                        refine wa_return rfl ?_
                        refine ⟨rfl, A23, ?_, rfl⟩
                        repeat (first | rw [if_pos (by omega)] | rw [if_neg (by omega)])
                        exact ra23
            · skip
              exact absurd c8 (by omega)
          · skip
            exact absurd c7 (by omega)
        · skip
          exact absurd c5 (by omega)
    · skip
      exact absurd c3 (by omega)
  · skip
    exact absurd c2 (by omega)
theorem y14t {t c p h tp vx vy : Int} (hP : mP t c p h tp S) (hky : S 363 (2100 * t + h - 1) = 3) (hvy : S 364 (2100 * t + h - 1) = vy) (hkx : S 363 (2100 * t + h - 1 - 1) = 3) (hvx : S 364 (2100 * t + h - 1 - 1) = vx) (hh1 : 2 ≤ h) (ha : 0 ≤ vx ∧ vx < 16000) (hb : 0 ≤ vy ∧ vy < 16000) (n1 : S 285 vx = (l1.length : Int)) (n2 : S 285 vy = (l2.length : Int)) (hs1 : 0 ≤ S 284 vx ∧ S 284 vx + (l1.length : Int) ≤ 269632) (hs2 : 0 ≤ S 284 vy ∧ S 284 vy + (l2.length : Int) ≤ 269632) (e1 : ∀ i : Nat, i < l1.length → S 283 (S 284 vx + (i : Int)) = l1.getD i 0) (e2 : ∀ i : Nat, i < l2.length → S 283 (S 284 vy + (i : Int)) = l2.getD i 0) (hr : -1000000 ≤ cmpL l1 l2 ∧ cmpL l1 l2 ≤ 1000000) : wJ (pe_GA xs) wY0 M (d + 11) t_M_operators ((pe_at t_M_operators.bl 0).getD (0, [])).2 [(0, (2, 237)), (1, (0, 14))] [] S (fun o Z => o = .inl none ∧ pXZ t h 1 (if cmpL l1 l2 = 0 then 1 else 0) S = Z) := by
  obtain ⟨hM, ⟨mt, mt0, mt1⟩, mp, mf, ⟨mc, mc0, mc1⟩, ⟨mtp, mtq⟩, ⟨mpa, mp0, mp1⟩, mh, mh0, mh1⟩ := hP
  refine wa_aload_n (n := 0) rfl ?_
  refine wa_cv 237 rfl (wy_pr rfl) wt_237 (M2 := fun _ => False) rfl at_M_h ⟨_, rfl⟩ rfl rfl ⟨(Or.inr ⟨wy_pr rfl, fun q => q⟩), trivial, trivial⟩ trivial (fun _ _ q => False.elim q) ?_ (fun _ _ _ q => q)
  refine wa_aload_n (n := 0) rfl ?_
  refine wb_gfi 237 rfl (wy_pr rfl) wt_237 wf_15_152 (v := (2100 * t)) (mp) (fun r1 => ?_)
  refine wa_aload_n (n := 0) rfl ?_
  refine wb_gf4 237 rfl (wy_pr rfl) wt_237 wf_15_134 (v := 359) wl_237_134 ?_
  refine wa_aload_n (n := 0) rfl ?_
  refine wb_gfi 237 rfl (wy_pr rfl) wt_237 wf_15_151 (v := t) (mt) (fun r2 => ?_)
  refine wb_iald 359 rfl (wy_pr rfl) wt_359 (n := 2) ((ml_359 hM)) (by omega) (by omega) (v := h) (mh) (fun r3 => ?_)
  refine wa_iadd ?_
  refine wa_ireturn rfl ?_
  show wJ _ _ _ _ _ _ _ _ _ _
  refine wa_iconst ?_
  refine wa_isub ?_
  refine wa_istore_n (n := 2) rfl ?_
  refine wa_iload_n (n := 2) rfl ?_
  refine wa_iconst ?_
  refine wa_isub ?_
  refine wa_istore_n (n := 3) rfl ?_
  refine wa_iload_n (n := 1) rfl ?_
  refine wa_iconst ?_
  refine wa_icmpne (w_rg0 (by omega) (by omega)) (w_rg0 (by omega) (by omega)) ⟨_, rfl⟩ (fun c4 => ?_) (fun c4 => ?_)
  · skip
    refine wa_iload_n (n := 1) rfl ?_
    refine wa_bipush (w_rg2 (by omega) (by omega)) ?_
    refine wa_icmpne (w_rg0 (by omega) (by omega)) (w_rg0 (by omega) (by omega)) ⟨_, rfl⟩ (fun c5 => ?_) (fun c5 => ?_)
    · skip
      refine wa_iload_n (n := 1) rfl ?_
      refine wa_bipush (w_rg2 (by omega) (by omega)) ?_
      refine wa_icmpne (w_rg0 (by omega) (by omega)) (w_rg0 (by omega) (by omega)) ⟨_, rfl⟩ (fun c6 => ?_) (fun c6 => ?_)
      · skip
        refine wa_iload_n (n := 1) rfl ?_
        refine wa_bipush (w_rg2 (by omega) (by omega)) ?_
        refine wa_icmpne (w_rg0 (by omega) (by omega)) (w_rg0 (by omega) (by omega)) ⟨_, rfl⟩ (fun c7 => ?_) (fun c7 => ?_)
        · skip
          refine wa_iload_n (n := 1) rfl ?_
          refine wa_bipush (w_rg2 (by omega) (by omega)) ?_
          refine wa_icmpge (w_rg0 (by omega) (by omega)) (w_rg0 (by omega) (by omega)) ⟨_, rfl⟩ (fun c8 => ?_) (fun c8 => ?_)
          · skip
            refine wa_aload_n (n := 0) rfl ?_
            refine wa_iload_n (n := 1) rfl ?_
            refine wa_iload_n (n := 3) rfl ?_
            refine wa_iload_n (n := 2) rfl ?_
            refine wa_cv 237 rfl (wy_pr rfl) wt_237 (M2 := fun _ => False) rfl at_M_compares ⟨_, rfl⟩ rfl rfl ⟨trivial, trivial, (Or.inr ⟨wy_pr rfl, fun q => q⟩), trivial, trivial⟩ trivial (fun _ _ q => False.elim q) ?_ (fun _ _ _ q => q)
            refine wa_iload_n (n := 1) rfl ?_
            refine wa_bipush (w_rg2 (by omega) (by omega)) ?_
            refine wa_icmpeq (w_rg0 (by omega) (by omega)) (w_rg0 (by omega) (by omega)) ⟨_, rfl⟩ (fun c9 => ?_) (fun c9 => ?_)
            · skip
              refine wa_aload_n (n := 0) rfl ?_
              refine wa_aload_n (n := 0) rfl ?_
              refine wb_gf4 237 rfl (wy_pr rfl) wt_237 wf_15_138 (v := 363) wl_237_138 ?_
              refine wa_iload_n (n := 2) rfl ?_
              refine wb_iald 363 rfl (wy_pr rfl) wt_363 (n := 4200) ((ml_363 hM)) (by omega) (by omega) (v := 3) (hkx) (fun r10 => ?_)
              refine wa_aload_n (n := 0) rfl ?_
              refine wb_gf4 237 rfl (wy_pr rfl) wt_237 wf_15_139 (v := 364) wl_237_139 ?_
              refine wa_iload_n (n := 2) rfl ?_
              refine wb_lald 364 rfl (wy_pr rfl) wt_364 (n := 4200) ((ml_364 hM)) (by omega) (by omega) (v := vx) (hvx) (fun r11 => ?_)
              refine wa_aload_n (n := 0) rfl ?_
              refine wb_gf4 237 rfl (wy_pr rfl) wt_237 wf_15_138 (v := 363) wl_237_138 ?_
              refine wa_iload_n (n := 3) rfl ?_
              refine wb_iald 363 rfl (wy_pr rfl) wt_363 (n := 4200) ((ml_363 hM)) (by omega) (by omega) (v := 3) (hky) (fun r12 => ?_)
              refine wa_aload_n (n := 0) rfl ?_
              refine wb_gf4 237 rfl (wy_pr rfl) wt_237 wf_15_139 (v := 364) wl_237_139 ?_
              refine wa_iload_n (n := 3) rfl ?_
              refine wb_lald 364 rfl (wy_pr rfl) wt_364 (n := 4200) ((ml_364 hM)) (by omega) (by omega) (v := vy) (hvy) (fun r13 => ?_)
              refine wa_cv 237 rfl (wy_pr rfl) wt_237 (M2 := fun _ => False) rfl at_M_alike ⟨_, rfl⟩ rfl rfl ⟨(Or.inr ⟨wy_pr rfl, fun q => q⟩), trivial, trivial, trivial, trivial⟩ trivial (fun _ _ q => False.elim q) ?_ (fun _ _ _ q => q)
              refine wa_iload_n (n := 1) rfl ?_
              refine wa_iconst ?_
              refine wa_icmpne (w_rg0 (by omega) (by omega)) (w_rg0 (by omega) (by omega)) ⟨_, rfl⟩ (fun c14 => ?_) (fun c14 => ?_)
              · skip
                exact absurd c14 (by omega)
              · skip
                refine wa_iload (n := 4) rfl ?_
                refine wa_iconst ?_
                refine wa_icmpne (w_rg0 (by omega) (by omega)) (w_rg0 (by omega) (by omega)) ⟨_, rfl⟩ (fun c15 => ?_) (fun c15 => ?_)
                · skip
                  exact absurd c15 (by omega)
                · skip
                  refine wa_aload_n (n := 0) rfl ?_
                  refine wa_lload_n (n := 2) rfl ?_
                  refine wb_l2i_r (wb_l2i_id ⟨(by omega), (by omega)⟩) ?_
                  refine wa_lload (n := 5) rfl ?_
                  refine wb_l2i_r (wb_l2i_id ⟨(by omega), (by omega)⟩) ?_
                  refine wa_cv 237 rfl (wy_pr rfl) wt_237 (M2 := fun _ => False) rfl at_M_compareTexts ⟨_, rfl⟩ rfl rfl ⟨(Or.inr ⟨wy_pr rfl, fun q => q⟩), trivial, trivial, trivial, trivial, trivial⟩ trivial (fun _ _ q => False.elim q) (ct_ok (S := S) hM ha hb n1 n2 rfl rfl hs1 hs2 e1 e2) (fun oq16 Sq16 hp17 q16 => ?_)
                  rcases q16 with ⟨rfl, rfl⟩
                  show wJ _ _ _ _ _ _ _ _ _ _
                  refine wa_ifne (w_rg0 (by omega) (by omega)) ⟨_, rfl⟩ (fun c18 => ?_) (fun c18 => ?_)
                  · skip
                    refine wa_iconst ?_
                    refine wa_goto ⟨_, rfl⟩ ?_
                    refine wa_zreturn rfl (Or.inl rfl) ?_
                    show wJ _ _ _ _ _ _ _ _ _ _
                    refine wa_istore (n := 4) rfl ?_
                    refine wa_aload_n (n := 0) rfl ?_
                    refine wa_iconst ?_
                    refine wa_iload (n := 4) rfl ?_
                    refine wa_iload_n (n := 1) rfl ?_
                    refine wa_bipush (w_rg2 (by omega) (by omega)) ?_
                    refine wa_icmpne (w_rg0 (by omega) (by omega)) (w_rg0 (by omega) (by omega)) ⟨_, rfl⟩ (fun c19 => ?_) (fun c19 => ?_)
                    · skip
                      exact absurd c19 (by omega)
                    · skip
                      refine wa_iconst ?_
                      refine wa_goto ⟨_, rfl⟩ ?_
                      refine wa_icmpne (w_rg0 (by omega) (by omega)) (w_rg0 (by omega) (by omega)) ⟨_, rfl⟩ (fun c20 => ?_) (fun c20 => ?_)
                      · skip
                        refine wb_lconst (m := 0) rfl ?_
                        refine wa_fall ⟨_, rfl⟩ ?_
                        refine wa_cv 237 rfl (wy_pr rfl) wt_237 (M2 := fun _ => False) rfl at_M_is ⟨_, rfl⟩ rfl rfl ⟨trivial, (Or.inr ⟨wy_pr rfl, fun q => q⟩), trivial, trivial, trivial, trivial⟩ trivial (fun _ _ q => False.elim q) ?_ (fun _ _ _ q => q)
                        refine wa_aload_n (n := 0) rfl ?_
                        refine wa_iload_n (n := 1) rfl ?_
                        refine wb_pfi 237 rfl (wy_pr rfl) wt_237 wf_15_110 (n := 110) rfl ⟨(by omega), (by omega)⟩ ?_
                        refine wa_aload_n (n := 0) rfl ?_
                        refine wa_lload_n (n := 2) rfl ?_
                        refine wb_pfl 237 rfl (wy_pr rfl) wt_237 wf_15_111 (n := 111) rfl ⟨(by omega), (by omega)⟩ ?_
                        refine wa_return rfl ?_
                        show wJ _ _ _ _ _ _ _ _ _ _
                        refine wa_return rfl ?_
                        show wJ _ _ _ _ _ _ _ _ _ _
                        refine wa_fall ⟨_, rfl⟩ ?_
                        refine wa_aload_n (n := 0) rfl ?_
                        refine wb_gf4 237 rfl (wy_pr rfl) wt_237 wf_15_134 (v := 359) wl_237_134 ?_
                        refine wa_aload_n (n := 0) rfl ?_
                        refine wb_gfi 237 rfl (wy_pr rfl) wt_237 wf_15_151 (v := t) ((w_up_at (by decide)).trans ((w_up_at (by decide)).trans (mt))) (fun r21 => ?_)
                        refine wa_dup2 (by decide) (by decide) ?_
                        refine wb_iald 359 rfl (wy_pr rfl) wt_359 (n := 2) ((w_up_slot (by decide)).trans ((w_up_slot (by decide)).trans ((ml_359 hM)))) (by omega) (by omega) (v := h) ((w_up_slot (by decide)).trans ((w_up_slot (by decide)).trans (mh))) (fun r22 => ?_)
                        refine wa_iconst ?_
                        refine wa_isub ?_
                        refine wb_iast 359 rfl (wy_pr rfl) wt_359 (n := 2) ((w_up_slot (by decide)).trans ((w_up_slot (by decide)).trans ((ml_359 hM)))) (by omega) (by omega) ⟨(by omega), (by omega)⟩ ?_
                        refine wa_aload_n (n := 0) rfl ?_
                        refine wb_gf4 237 rfl (wy_pr rfl) wt_237 wf_15_138 (v := 363) wl_237_138 ?_
                        refine wa_iload_n (n := 3) rfl ?_
                        refine wa_aload_n (n := 0) rfl ?_
                        refine wb_gfi 237 rfl (wy_pr rfl) wt_237 wf_15_110 (v := 1) ((w_up_slot (by decide)).trans ((w_up_at (by decide)).trans (w_up_same _ _ _ _))) (fun r23 => ?_)
                        refine wb_iast 363 rfl (wy_pr rfl) wt_363 (n := 4200) ((w_up_slot (by decide)).trans ((w_up_slot (by decide)).trans ((w_up_slot (by decide)).trans ((ml_363 hM))))) (by omega) (by omega) ⟨(by omega), (by omega)⟩ ?_
                        refine wa_aload_n (n := 0) rfl ?_
                        refine wb_gf4 237 rfl (wy_pr rfl) wt_237 wf_15_139 (v := 364) wl_237_139 ?_
                        refine wa_iload_n (n := 3) rfl ?_
                        refine wa_aload_n (n := 0) rfl ?_
                        refine wb_gfl 237 rfl (wy_pr rfl) wt_237 wf_15_111 (v := 0) ((w_up_slot (by decide)).trans ((w_up_slot (by decide)).trans (w_up_same _ _ _ _))) (fun r24 => ?_)
                        refine wb_last 364 rfl (wy_pr rfl) wt_364 (n := 4200) ((w_up_slot (by decide)).trans ((w_up_slot (by decide)).trans ((w_up_slot (by decide)).trans ((w_up_slot (by decide)).trans ((ml_364 hM)))))) (by omega) (by omega) ⟨(by omega), (by omega)⟩ ?_
                        refine wa_fall ⟨_, rfl⟩ ?_
                        refine wa_return rfl ?_
                        refine ⟨rfl, ?_⟩
                        first
                          | (exfalso; omega)
                          | (rw [if_pos (by omega)]; rfl)
                          | (rw [if_neg (by omega)]; rfl)
                      · skip
                        exact absurd c20 (by omega)
                  · skip
                    refine wa_iconst ?_
                    refine wa_goto ⟨_, rfl⟩ ?_
                    refine wa_zreturn rfl (Or.inr rfl) ?_
                    show wJ _ _ _ _ _ _ _ _ _ _
                    refine wa_istore (n := 4) rfl ?_
                    refine wa_aload_n (n := 0) rfl ?_
                    refine wa_iconst ?_
                    refine wa_iload (n := 4) rfl ?_
                    refine wa_iload_n (n := 1) rfl ?_
                    refine wa_bipush (w_rg2 (by omega) (by omega)) ?_
                    refine wa_icmpne (w_rg0 (by omega) (by omega)) (w_rg0 (by omega) (by omega)) ⟨_, rfl⟩ (fun c25 => ?_) (fun c25 => ?_)
                    · skip
                      exact absurd c25 (by omega)
                    · skip
                      refine wa_iconst ?_
                      refine wa_goto ⟨_, rfl⟩ ?_
                      refine wa_icmpne (w_rg0 (by omega) (by omega)) (w_rg0 (by omega) (by omega)) ⟨_, rfl⟩ (fun c26 => ?_) (fun c26 => ?_)
                      · skip
                        exact absurd c26 (by omega)
                      · skip
                        refine wb_lconst (m := 1) rfl ?_
                        refine wa_goto ⟨_, rfl⟩ ?_
                        refine wa_cv 237 rfl (wy_pr rfl) wt_237 (M2 := fun _ => False) rfl at_M_is ⟨_, rfl⟩ rfl rfl ⟨trivial, (Or.inr ⟨wy_pr rfl, fun q => q⟩), trivial, trivial, trivial, trivial⟩ trivial (fun _ _ q => False.elim q) ?_ (fun _ _ _ q => q)
                        refine wa_aload_n (n := 0) rfl ?_
                        refine wa_iload_n (n := 1) rfl ?_
                        refine wb_pfi 237 rfl (wy_pr rfl) wt_237 wf_15_110 (n := 110) rfl ⟨(by omega), (by omega)⟩ ?_
                        refine wa_aload_n (n := 0) rfl ?_
                        refine wa_lload_n (n := 2) rfl ?_
                        refine wb_pfl 237 rfl (wy_pr rfl) wt_237 wf_15_111 (n := 111) rfl ⟨(by omega), (by omega)⟩ ?_
                        refine wa_return rfl ?_
                        show wJ _ _ _ _ _ _ _ _ _ _
                        refine wa_return rfl ?_
                        show wJ _ _ _ _ _ _ _ _ _ _
                        refine wa_fall ⟨_, rfl⟩ ?_
                        refine wa_aload_n (n := 0) rfl ?_
                        refine wb_gf4 237 rfl (wy_pr rfl) wt_237 wf_15_134 (v := 359) wl_237_134 ?_
                        refine wa_aload_n (n := 0) rfl ?_
                        refine wb_gfi 237 rfl (wy_pr rfl) wt_237 wf_15_151 (v := t) ((w_up_at (by decide)).trans ((w_up_at (by decide)).trans (mt))) (fun r27 => ?_)
                        refine wa_dup2 (by decide) (by decide) ?_
                        refine wb_iald 359 rfl (wy_pr rfl) wt_359 (n := 2) ((w_up_slot (by decide)).trans ((w_up_slot (by decide)).trans ((ml_359 hM)))) (by omega) (by omega) (v := h) ((w_up_slot (by decide)).trans ((w_up_slot (by decide)).trans (mh))) (fun r28 => ?_)
                        refine wa_iconst ?_
                        refine wa_isub ?_
                        refine wb_iast 359 rfl (wy_pr rfl) wt_359 (n := 2) ((w_up_slot (by decide)).trans ((w_up_slot (by decide)).trans ((ml_359 hM)))) (by omega) (by omega) ⟨(by omega), (by omega)⟩ ?_
                        refine wa_aload_n (n := 0) rfl ?_
                        refine wb_gf4 237 rfl (wy_pr rfl) wt_237 wf_15_138 (v := 363) wl_237_138 ?_
                        refine wa_iload_n (n := 3) rfl ?_
                        refine wa_aload_n (n := 0) rfl ?_
                        refine wb_gfi 237 rfl (wy_pr rfl) wt_237 wf_15_110 (v := 1) ((w_up_slot (by decide)).trans ((w_up_at (by decide)).trans (w_up_same _ _ _ _))) (fun r29 => ?_)
                        refine wb_iast 363 rfl (wy_pr rfl) wt_363 (n := 4200) ((w_up_slot (by decide)).trans ((w_up_slot (by decide)).trans ((w_up_slot (by decide)).trans ((ml_363 hM))))) (by omega) (by omega) ⟨(by omega), (by omega)⟩ ?_
                        refine wa_aload_n (n := 0) rfl ?_
                        refine wb_gf4 237 rfl (wy_pr rfl) wt_237 wf_15_139 (v := 364) wl_237_139 ?_
                        refine wa_iload_n (n := 3) rfl ?_
                        refine wa_aload_n (n := 0) rfl ?_
                        refine wb_gfl 237 rfl (wy_pr rfl) wt_237 wf_15_111 (v := 1) ((w_up_slot (by decide)).trans ((w_up_slot (by decide)).trans (w_up_same _ _ _ _))) (fun r30 => ?_)
                        refine wb_last 364 rfl (wy_pr rfl) wt_364 (n := 4200) ((w_up_slot (by decide)).trans ((w_up_slot (by decide)).trans ((w_up_slot (by decide)).trans ((w_up_slot (by decide)).trans ((ml_364 hM)))))) (by omega) (by omega) ⟨(by omega), (by omega)⟩ ?_
                        refine wa_fall ⟨_, rfl⟩ ?_
                        refine wa_return rfl ?_
                        refine ⟨rfl, ?_⟩
                        first
                          | (exfalso; omega)
                          | (rw [if_pos (by omega)]; rfl)
                          | (rw [if_neg (by omega)]; rfl)
            · skip
              exact absurd c9 (by omega)
          · skip
            exact absurd c8 (by omega)
        · skip
          exact absurd c7 (by omega)
      · skip
        exact absurd c6 (by omega)
    · skip
      exact absurd c5 (by omega)
  · skip
    exact absurd c4 (by omega)
theorem y15t {t c p h tp vx vy : Int} (hP : mP t c p h tp S) (hky : S 363 (2100 * t + h - 1) = 3) (hvy : S 364 (2100 * t + h - 1) = vy) (hkx : S 363 (2100 * t + h - 1 - 1) = 3) (hvx : S 364 (2100 * t + h - 1 - 1) = vx) (hh1 : 2 ≤ h) (ha : 0 ≤ vx ∧ vx < 16000) (hb : 0 ≤ vy ∧ vy < 16000) (n1 : S 285 vx = (l1.length : Int)) (n2 : S 285 vy = (l2.length : Int)) (hs1 : 0 ≤ S 284 vx ∧ S 284 vx + (l1.length : Int) ≤ 269632) (hs2 : 0 ≤ S 284 vy ∧ S 284 vy + (l2.length : Int) ≤ 269632) (e1 : ∀ i : Nat, i < l1.length → S 283 (S 284 vx + (i : Int)) = l1.getD i 0) (e2 : ∀ i : Nat, i < l2.length → S 283 (S 284 vy + (i : Int)) = l2.getD i 0) (hr : -1000000 ≤ cmpL l1 l2 ∧ cmpL l1 l2 ≤ 1000000) : wJ (pe_GA xs) wY0 M (d + 11) t_M_operators ((pe_at t_M_operators.bl 0).getD (0, [])).2 [(0, (2, 237)), (1, (0, 15))] [] S (fun o Z => o = .inl none ∧ pXZ t h 1 (if cmpL l1 l2 = 0 then 0 else 1) S = Z) := by
  obtain ⟨hM, ⟨mt, mt0, mt1⟩, mp, mf, ⟨mc, mc0, mc1⟩, ⟨mtp, mtq⟩, ⟨mpa, mp0, mp1⟩, mh, mh0, mh1⟩ := hP
  refine wa_aload_n (n := 0) rfl ?_
  refine wa_cv 237 rfl (wy_pr rfl) wt_237 (M2 := fun _ => False) rfl at_M_h ⟨_, rfl⟩ rfl rfl ⟨(Or.inr ⟨wy_pr rfl, fun q => q⟩), trivial, trivial⟩ trivial (fun _ _ q => False.elim q) ?_ (fun _ _ _ q => q)
  refine wa_aload_n (n := 0) rfl ?_
  refine wb_gfi 237 rfl (wy_pr rfl) wt_237 wf_15_152 (v := (2100 * t)) (mp) (fun r1 => ?_)
  refine wa_aload_n (n := 0) rfl ?_
  refine wb_gf4 237 rfl (wy_pr rfl) wt_237 wf_15_134 (v := 359) wl_237_134 ?_
  refine wa_aload_n (n := 0) rfl ?_
  refine wb_gfi 237 rfl (wy_pr rfl) wt_237 wf_15_151 (v := t) (mt) (fun r2 => ?_)
  refine wb_iald 359 rfl (wy_pr rfl) wt_359 (n := 2) ((ml_359 hM)) (by omega) (by omega) (v := h) (mh) (fun r3 => ?_)
  refine wa_iadd ?_
  refine wa_ireturn rfl ?_
  show wJ _ _ _ _ _ _ _ _ _ _
  refine wa_iconst ?_
  refine wa_isub ?_
  refine wa_istore_n (n := 2) rfl ?_
  refine wa_iload_n (n := 2) rfl ?_
  refine wa_iconst ?_
  refine wa_isub ?_
  refine wa_istore_n (n := 3) rfl ?_
  refine wa_iload_n (n := 1) rfl ?_
  refine wa_iconst ?_
  refine wa_icmpne (w_rg0 (by omega) (by omega)) (w_rg0 (by omega) (by omega)) ⟨_, rfl⟩ (fun c4 => ?_) (fun c4 => ?_)
  · skip
    refine wa_iload_n (n := 1) rfl ?_
    refine wa_bipush (w_rg2 (by omega) (by omega)) ?_
    refine wa_icmpne (w_rg0 (by omega) (by omega)) (w_rg0 (by omega) (by omega)) ⟨_, rfl⟩ (fun c5 => ?_) (fun c5 => ?_)
    · skip
      refine wa_iload_n (n := 1) rfl ?_
      refine wa_bipush (w_rg2 (by omega) (by omega)) ?_
      refine wa_icmpne (w_rg0 (by omega) (by omega)) (w_rg0 (by omega) (by omega)) ⟨_, rfl⟩ (fun c6 => ?_) (fun c6 => ?_)
      · skip
        refine wa_iload_n (n := 1) rfl ?_
        refine wa_bipush (w_rg2 (by omega) (by omega)) ?_
        refine wa_icmpne (w_rg0 (by omega) (by omega)) (w_rg0 (by omega) (by omega)) ⟨_, rfl⟩ (fun c7 => ?_) (fun c7 => ?_)
        · skip
          refine wa_iload_n (n := 1) rfl ?_
          refine wa_bipush (w_rg2 (by omega) (by omega)) ?_
          refine wa_icmpge (w_rg0 (by omega) (by omega)) (w_rg0 (by omega) (by omega)) ⟨_, rfl⟩ (fun c8 => ?_) (fun c8 => ?_)
          · skip
            refine wa_aload_n (n := 0) rfl ?_
            refine wa_iload_n (n := 1) rfl ?_
            refine wa_iload_n (n := 3) rfl ?_
            refine wa_iload_n (n := 2) rfl ?_
            refine wa_cv 237 rfl (wy_pr rfl) wt_237 (M2 := fun _ => False) rfl at_M_compares ⟨_, rfl⟩ rfl rfl ⟨trivial, trivial, (Or.inr ⟨wy_pr rfl, fun q => q⟩), trivial, trivial⟩ trivial (fun _ _ q => False.elim q) ?_ (fun _ _ _ q => q)
            refine wa_iload_n (n := 1) rfl ?_
            refine wa_bipush (w_rg2 (by omega) (by omega)) ?_
            refine wa_icmpeq (w_rg0 (by omega) (by omega)) (w_rg0 (by omega) (by omega)) ⟨_, rfl⟩ (fun c9 => ?_) (fun c9 => ?_)
            · skip
              exact absurd c9 (by omega)
            · skip
              refine wa_iload_n (n := 1) rfl ?_
              refine wa_bipush (w_rg2 (by omega) (by omega)) ?_
              refine wa_icmpne (w_rg0 (by omega) (by omega)) (w_rg0 (by omega) (by omega)) ⟨_, rfl⟩ (fun c10 => ?_) (fun c10 => ?_)
              · skip
                exact absurd c10 (by omega)
              · skip
                refine wa_fall ⟨_, rfl⟩ ?_
                refine wa_aload_n (n := 0) rfl ?_
                refine wa_aload_n (n := 0) rfl ?_
                refine wb_gf4 237 rfl (wy_pr rfl) wt_237 wf_15_138 (v := 363) wl_237_138 ?_
                refine wa_iload_n (n := 2) rfl ?_
                refine wb_iald 363 rfl (wy_pr rfl) wt_363 (n := 4200) ((ml_363 hM)) (by omega) (by omega) (v := 3) (hkx) (fun r11 => ?_)
                refine wa_aload_n (n := 0) rfl ?_
                refine wb_gf4 237 rfl (wy_pr rfl) wt_237 wf_15_139 (v := 364) wl_237_139 ?_
                refine wa_iload_n (n := 2) rfl ?_
                refine wb_lald 364 rfl (wy_pr rfl) wt_364 (n := 4200) ((ml_364 hM)) (by omega) (by omega) (v := vx) (hvx) (fun r12 => ?_)
                refine wa_aload_n (n := 0) rfl ?_
                refine wb_gf4 237 rfl (wy_pr rfl) wt_237 wf_15_138 (v := 363) wl_237_138 ?_
                refine wa_iload_n (n := 3) rfl ?_
                refine wb_iald 363 rfl (wy_pr rfl) wt_363 (n := 4200) ((ml_363 hM)) (by omega) (by omega) (v := 3) (hky) (fun r13 => ?_)
                refine wa_aload_n (n := 0) rfl ?_
                refine wb_gf4 237 rfl (wy_pr rfl) wt_237 wf_15_139 (v := 364) wl_237_139 ?_
                refine wa_iload_n (n := 3) rfl ?_
                refine wb_lald 364 rfl (wy_pr rfl) wt_364 (n := 4200) ((ml_364 hM)) (by omega) (by omega) (v := vy) (hvy) (fun r14 => ?_)
                refine wa_cv 237 rfl (wy_pr rfl) wt_237 (M2 := fun _ => False) rfl at_M_alike ⟨_, rfl⟩ rfl rfl ⟨(Or.inr ⟨wy_pr rfl, fun q => q⟩), trivial, trivial, trivial, trivial⟩ trivial (fun _ _ q => False.elim q) ?_ (fun _ _ _ q => q)
                refine wa_iload_n (n := 1) rfl ?_
                refine wa_iconst ?_
                refine wa_icmpne (w_rg0 (by omega) (by omega)) (w_rg0 (by omega) (by omega)) ⟨_, rfl⟩ (fun c15 => ?_) (fun c15 => ?_)
                · skip
                  exact absurd c15 (by omega)
                · skip
                  refine wa_iload (n := 4) rfl ?_
                  refine wa_iconst ?_
                  refine wa_icmpne (w_rg0 (by omega) (by omega)) (w_rg0 (by omega) (by omega)) ⟨_, rfl⟩ (fun c16 => ?_) (fun c16 => ?_)
                  · skip
                    exact absurd c16 (by omega)
                  · skip
                    refine wa_aload_n (n := 0) rfl ?_
                    refine wa_lload_n (n := 2) rfl ?_
                    refine wb_l2i_r (wb_l2i_id ⟨(by omega), (by omega)⟩) ?_
                    refine wa_lload (n := 5) rfl ?_
                    refine wb_l2i_r (wb_l2i_id ⟨(by omega), (by omega)⟩) ?_
                    refine wa_cv 237 rfl (wy_pr rfl) wt_237 (M2 := fun _ => False) rfl at_M_compareTexts ⟨_, rfl⟩ rfl rfl ⟨(Or.inr ⟨wy_pr rfl, fun q => q⟩), trivial, trivial, trivial, trivial, trivial⟩ trivial (fun _ _ q => False.elim q) (ct_ok (S := S) hM ha hb n1 n2 rfl rfl hs1 hs2 e1 e2) (fun oq17 Sq17 hp18 q17 => ?_)
                    rcases q17 with ⟨rfl, rfl⟩
                    show wJ _ _ _ _ _ _ _ _ _ _
                    refine wa_ifne (w_rg0 (by omega) (by omega)) ⟨_, rfl⟩ (fun c19 => ?_) (fun c19 => ?_)
                    · skip
                      refine wa_iconst ?_
                      refine wa_goto ⟨_, rfl⟩ ?_
                      refine wa_zreturn rfl (Or.inl rfl) ?_
                      show wJ _ _ _ _ _ _ _ _ _ _
                      refine wa_istore (n := 4) rfl ?_
                      refine wa_aload_n (n := 0) rfl ?_
                      refine wa_iconst ?_
                      refine wa_iload (n := 4) rfl ?_
                      refine wa_iload_n (n := 1) rfl ?_
                      refine wa_bipush (w_rg2 (by omega) (by omega)) ?_
                      refine wa_icmpne (w_rg0 (by omega) (by omega)) (w_rg0 (by omega) (by omega)) ⟨_, rfl⟩ (fun c20 => ?_) (fun c20 => ?_)
                      · skip
                        refine wa_iconst ?_
                        refine wa_fall ⟨_, rfl⟩ ?_
                        refine wa_icmpne (w_rg0 (by omega) (by omega)) (w_rg0 (by omega) (by omega)) ⟨_, rfl⟩ (fun c21 => ?_) (fun c21 => ?_)
                        · skip
                          exact absurd c21 (by omega)
                        · skip
                          refine wb_lconst (m := 1) rfl ?_
                          refine wa_goto ⟨_, rfl⟩ ?_
                          refine wa_cv 237 rfl (wy_pr rfl) wt_237 (M2 := fun _ => False) rfl at_M_is ⟨_, rfl⟩ rfl rfl ⟨trivial, (Or.inr ⟨wy_pr rfl, fun q => q⟩), trivial, trivial, trivial, trivial⟩ trivial (fun _ _ q => False.elim q) ?_ (fun _ _ _ q => q)
                          refine wa_aload_n (n := 0) rfl ?_
                          refine wa_iload_n (n := 1) rfl ?_
                          refine wb_pfi 237 rfl (wy_pr rfl) wt_237 wf_15_110 (n := 110) rfl ⟨(by omega), (by omega)⟩ ?_
                          refine wa_aload_n (n := 0) rfl ?_
                          refine wa_lload_n (n := 2) rfl ?_
                          refine wb_pfl 237 rfl (wy_pr rfl) wt_237 wf_15_111 (n := 111) rfl ⟨(by omega), (by omega)⟩ ?_
                          refine wa_return rfl ?_
                          show wJ _ _ _ _ _ _ _ _ _ _
                          refine wa_return rfl ?_
                          show wJ _ _ _ _ _ _ _ _ _ _
                          refine wa_fall ⟨_, rfl⟩ ?_
                          refine wa_aload_n (n := 0) rfl ?_
                          refine wb_gf4 237 rfl (wy_pr rfl) wt_237 wf_15_134 (v := 359) wl_237_134 ?_
                          refine wa_aload_n (n := 0) rfl ?_
                          refine wb_gfi 237 rfl (wy_pr rfl) wt_237 wf_15_151 (v := t) ((w_up_at (by decide)).trans ((w_up_at (by decide)).trans (mt))) (fun r22 => ?_)
                          refine wa_dup2 (by decide) (by decide) ?_
                          refine wb_iald 359 rfl (wy_pr rfl) wt_359 (n := 2) ((w_up_slot (by decide)).trans ((w_up_slot (by decide)).trans ((ml_359 hM)))) (by omega) (by omega) (v := h) ((w_up_slot (by decide)).trans ((w_up_slot (by decide)).trans (mh))) (fun r23 => ?_)
                          refine wa_iconst ?_
                          refine wa_isub ?_
                          refine wb_iast 359 rfl (wy_pr rfl) wt_359 (n := 2) ((w_up_slot (by decide)).trans ((w_up_slot (by decide)).trans ((ml_359 hM)))) (by omega) (by omega) ⟨(by omega), (by omega)⟩ ?_
                          refine wa_aload_n (n := 0) rfl ?_
                          refine wb_gf4 237 rfl (wy_pr rfl) wt_237 wf_15_138 (v := 363) wl_237_138 ?_
                          refine wa_iload_n (n := 3) rfl ?_
                          refine wa_aload_n (n := 0) rfl ?_
                          refine wb_gfi 237 rfl (wy_pr rfl) wt_237 wf_15_110 (v := 1) ((w_up_slot (by decide)).trans ((w_up_at (by decide)).trans (w_up_same _ _ _ _))) (fun r24 => ?_)
                          refine wb_iast 363 rfl (wy_pr rfl) wt_363 (n := 4200) ((w_up_slot (by decide)).trans ((w_up_slot (by decide)).trans ((w_up_slot (by decide)).trans ((ml_363 hM))))) (by omega) (by omega) ⟨(by omega), (by omega)⟩ ?_
                          refine wa_aload_n (n := 0) rfl ?_
                          refine wb_gf4 237 rfl (wy_pr rfl) wt_237 wf_15_139 (v := 364) wl_237_139 ?_
                          refine wa_iload_n (n := 3) rfl ?_
                          refine wa_aload_n (n := 0) rfl ?_
                          refine wb_gfl 237 rfl (wy_pr rfl) wt_237 wf_15_111 (v := 1) ((w_up_slot (by decide)).trans ((w_up_slot (by decide)).trans (w_up_same _ _ _ _))) (fun r25 => ?_)
                          refine wb_last 364 rfl (wy_pr rfl) wt_364 (n := 4200) ((w_up_slot (by decide)).trans ((w_up_slot (by decide)).trans ((w_up_slot (by decide)).trans ((w_up_slot (by decide)).trans ((ml_364 hM)))))) (by omega) (by omega) ⟨(by omega), (by omega)⟩ ?_
                          refine wa_fall ⟨_, rfl⟩ ?_
                          refine wa_return rfl ?_
                          refine ⟨rfl, ?_⟩
                          first
                            | (exfalso; omega)
                            | (rw [if_pos (by omega)]; rfl)
                            | (rw [if_neg (by omega)]; rfl)
                      · skip
                        exact absurd c20 (by omega)
                    · skip
                      refine wa_iconst ?_
                      refine wa_goto ⟨_, rfl⟩ ?_
                      refine wa_zreturn rfl (Or.inr rfl) ?_
                      show wJ _ _ _ _ _ _ _ _ _ _
                      refine wa_istore (n := 4) rfl ?_
                      refine wa_aload_n (n := 0) rfl ?_
                      refine wa_iconst ?_
                      refine wa_iload (n := 4) rfl ?_
                      refine wa_iload_n (n := 1) rfl ?_
                      refine wa_bipush (w_rg2 (by omega) (by omega)) ?_
                      refine wa_icmpne (w_rg0 (by omega) (by omega)) (w_rg0 (by omega) (by omega)) ⟨_, rfl⟩ (fun c26 => ?_) (fun c26 => ?_)
                      · skip
                        refine wa_iconst ?_
                        refine wa_fall ⟨_, rfl⟩ ?_
                        refine wa_icmpne (w_rg0 (by omega) (by omega)) (w_rg0 (by omega) (by omega)) ⟨_, rfl⟩ (fun c27 => ?_) (fun c27 => ?_)
                        · skip
                          refine wb_lconst (m := 0) rfl ?_
                          refine wa_fall ⟨_, rfl⟩ ?_
                          refine wa_cv 237 rfl (wy_pr rfl) wt_237 (M2 := fun _ => False) rfl at_M_is ⟨_, rfl⟩ rfl rfl ⟨trivial, (Or.inr ⟨wy_pr rfl, fun q => q⟩), trivial, trivial, trivial, trivial⟩ trivial (fun _ _ q => False.elim q) ?_ (fun _ _ _ q => q)
                          refine wa_aload_n (n := 0) rfl ?_
                          refine wa_iload_n (n := 1) rfl ?_
                          refine wb_pfi 237 rfl (wy_pr rfl) wt_237 wf_15_110 (n := 110) rfl ⟨(by omega), (by omega)⟩ ?_
                          refine wa_aload_n (n := 0) rfl ?_
                          refine wa_lload_n (n := 2) rfl ?_
                          refine wb_pfl 237 rfl (wy_pr rfl) wt_237 wf_15_111 (n := 111) rfl ⟨(by omega), (by omega)⟩ ?_
                          refine wa_return rfl ?_
                          show wJ _ _ _ _ _ _ _ _ _ _
                          refine wa_return rfl ?_
                          show wJ _ _ _ _ _ _ _ _ _ _
                          refine wa_fall ⟨_, rfl⟩ ?_
                          refine wa_aload_n (n := 0) rfl ?_
                          refine wb_gf4 237 rfl (wy_pr rfl) wt_237 wf_15_134 (v := 359) wl_237_134 ?_
                          refine wa_aload_n (n := 0) rfl ?_
                          refine wb_gfi 237 rfl (wy_pr rfl) wt_237 wf_15_151 (v := t) ((w_up_at (by decide)).trans ((w_up_at (by decide)).trans (mt))) (fun r28 => ?_)
                          refine wa_dup2 (by decide) (by decide) ?_
                          refine wb_iald 359 rfl (wy_pr rfl) wt_359 (n := 2) ((w_up_slot (by decide)).trans ((w_up_slot (by decide)).trans ((ml_359 hM)))) (by omega) (by omega) (v := h) ((w_up_slot (by decide)).trans ((w_up_slot (by decide)).trans (mh))) (fun r29 => ?_)
                          refine wa_iconst ?_
                          refine wa_isub ?_
                          refine wb_iast 359 rfl (wy_pr rfl) wt_359 (n := 2) ((w_up_slot (by decide)).trans ((w_up_slot (by decide)).trans ((ml_359 hM)))) (by omega) (by omega) ⟨(by omega), (by omega)⟩ ?_
                          refine wa_aload_n (n := 0) rfl ?_
                          refine wb_gf4 237 rfl (wy_pr rfl) wt_237 wf_15_138 (v := 363) wl_237_138 ?_
                          refine wa_iload_n (n := 3) rfl ?_
                          refine wa_aload_n (n := 0) rfl ?_
                          refine wb_gfi 237 rfl (wy_pr rfl) wt_237 wf_15_110 (v := 1) ((w_up_slot (by decide)).trans ((w_up_at (by decide)).trans (w_up_same _ _ _ _))) (fun r30 => ?_)
                          refine wb_iast 363 rfl (wy_pr rfl) wt_363 (n := 4200) ((w_up_slot (by decide)).trans ((w_up_slot (by decide)).trans ((w_up_slot (by decide)).trans ((ml_363 hM))))) (by omega) (by omega) ⟨(by omega), (by omega)⟩ ?_
                          refine wa_aload_n (n := 0) rfl ?_
                          refine wb_gf4 237 rfl (wy_pr rfl) wt_237 wf_15_139 (v := 364) wl_237_139 ?_
                          refine wa_iload_n (n := 3) rfl ?_
                          refine wa_aload_n (n := 0) rfl ?_
                          refine wb_gfl 237 rfl (wy_pr rfl) wt_237 wf_15_111 (v := 0) ((w_up_slot (by decide)).trans ((w_up_slot (by decide)).trans (w_up_same _ _ _ _))) (fun r31 => ?_)
                          refine wb_last 364 rfl (wy_pr rfl) wt_364 (n := 4200) ((w_up_slot (by decide)).trans ((w_up_slot (by decide)).trans ((w_up_slot (by decide)).trans ((w_up_slot (by decide)).trans ((ml_364 hM)))))) (by omega) (by omega) ⟨(by omega), (by omega)⟩ ?_
                          refine wa_fall ⟨_, rfl⟩ ?_
                          refine wa_return rfl ?_
                          refine ⟨rfl, ?_⟩
                          first
                            | (exfalso; omega)
                            | (rw [if_pos (by omega)]; rfl)
                            | (rw [if_neg (by omega)]; rfl)
                        · skip
                          exact absurd c27 (by omega)
                      · skip
                        exact absurd c26 (by omega)
          · skip
            exact absurd c8 (by omega)
        · skip
          exact absurd c7 (by omega)
      · skip
        exact absurd c6 (by omega)
    · skip
      exact absurd c5 (by omega)
  · skip
    exact absurd c4 (by omega)
theorem y16t {t c p h tp vx vy : Int} (hP : mP t c p h tp S) (hky : S 363 (2100 * t + h - 1) = 3) (hvy : S 364 (2100 * t + h - 1) = vy) (hkx : S 363 (2100 * t + h - 1 - 1) = 3) (hvx : S 364 (2100 * t + h - 1 - 1) = vx) (hh1 : 2 ≤ h) (ha : 0 ≤ vx ∧ vx < 16000) (hb : 0 ≤ vy ∧ vy < 16000) (n1 : S 285 vx = (l1.length : Int)) (n2 : S 285 vy = (l2.length : Int)) (hs1 : 0 ≤ S 284 vx ∧ S 284 vx + (l1.length : Int) ≤ 269632) (hs2 : 0 ≤ S 284 vy ∧ S 284 vy + (l2.length : Int) ≤ 269632) (e1 : ∀ i : Nat, i < l1.length → S 283 (S 284 vx + (i : Int)) = l1.getD i 0) (e2 : ∀ i : Nat, i < l2.length → S 283 (S 284 vy + (i : Int)) = l2.getD i 0) (hr : -1000000 ≤ cmpL l1 l2 ∧ cmpL l1 l2 ≤ 1000000) : wJ (pe_GA xs) wY0 M (d + 11) t_M_operators ((pe_at t_M_operators.bl 0).getD (0, [])).2 [(0, (2, 237)), (1, (0, 16))] [] S (fun o Z => o = .inl none ∧ pXZ t h 1 (if cmpL l1 l2 < 0 then 1 else 0) S = Z) := by
  obtain ⟨hM, ⟨mt, mt0, mt1⟩, mp, mf, ⟨mc, mc0, mc1⟩, ⟨mtp, mtq⟩, ⟨mpa, mp0, mp1⟩, mh, mh0, mh1⟩ := hP
  refine wa_aload_n (n := 0) rfl ?_
  refine wa_cv 237 rfl (wy_pr rfl) wt_237 (M2 := fun _ => False) rfl at_M_h ⟨_, rfl⟩ rfl rfl ⟨(Or.inr ⟨wy_pr rfl, fun q => q⟩), trivial, trivial⟩ trivial (fun _ _ q => False.elim q) ?_ (fun _ _ _ q => q)
  refine wa_aload_n (n := 0) rfl ?_
  refine wb_gfi 237 rfl (wy_pr rfl) wt_237 wf_15_152 (v := (2100 * t)) (mp) (fun r1 => ?_)
  refine wa_aload_n (n := 0) rfl ?_
  refine wb_gf4 237 rfl (wy_pr rfl) wt_237 wf_15_134 (v := 359) wl_237_134 ?_
  refine wa_aload_n (n := 0) rfl ?_
  refine wb_gfi 237 rfl (wy_pr rfl) wt_237 wf_15_151 (v := t) (mt) (fun r2 => ?_)
  refine wb_iald 359 rfl (wy_pr rfl) wt_359 (n := 2) ((ml_359 hM)) (by omega) (by omega) (v := h) (mh) (fun r3 => ?_)
  refine wa_iadd ?_
  refine wa_ireturn rfl ?_
  show wJ _ _ _ _ _ _ _ _ _ _
  refine wa_iconst ?_
  refine wa_isub ?_
  refine wa_istore_n (n := 2) rfl ?_
  refine wa_iload_n (n := 2) rfl ?_
  refine wa_iconst ?_
  refine wa_isub ?_
  refine wa_istore_n (n := 3) rfl ?_
  refine wa_iload_n (n := 1) rfl ?_
  refine wa_iconst ?_
  refine wa_icmpne (w_rg0 (by omega) (by omega)) (w_rg0 (by omega) (by omega)) ⟨_, rfl⟩ (fun c4 => ?_) (fun c4 => ?_)
  · skip
    refine wa_iload_n (n := 1) rfl ?_
    refine wa_bipush (w_rg2 (by omega) (by omega)) ?_
    refine wa_icmpne (w_rg0 (by omega) (by omega)) (w_rg0 (by omega) (by omega)) ⟨_, rfl⟩ (fun c5 => ?_) (fun c5 => ?_)
    · skip
      refine wa_iload_n (n := 1) rfl ?_
      refine wa_bipush (w_rg2 (by omega) (by omega)) ?_
      refine wa_icmpne (w_rg0 (by omega) (by omega)) (w_rg0 (by omega) (by omega)) ⟨_, rfl⟩ (fun c6 => ?_) (fun c6 => ?_)
      · skip
        refine wa_iload_n (n := 1) rfl ?_
        refine wa_bipush (w_rg2 (by omega) (by omega)) ?_
        refine wa_icmpne (w_rg0 (by omega) (by omega)) (w_rg0 (by omega) (by omega)) ⟨_, rfl⟩ (fun c7 => ?_) (fun c7 => ?_)
        · skip
          refine wa_iload_n (n := 1) rfl ?_
          refine wa_bipush (w_rg2 (by omega) (by omega)) ?_
          refine wa_icmpge (w_rg0 (by omega) (by omega)) (w_rg0 (by omega) (by omega)) ⟨_, rfl⟩ (fun c8 => ?_) (fun c8 => ?_)
          · skip
            refine wa_aload_n (n := 0) rfl ?_
            refine wa_iload_n (n := 1) rfl ?_
            refine wa_iload_n (n := 3) rfl ?_
            refine wa_iload_n (n := 2) rfl ?_
            refine wa_cv 237 rfl (wy_pr rfl) wt_237 (M2 := fun _ => False) rfl at_M_compares ⟨_, rfl⟩ rfl rfl ⟨trivial, trivial, (Or.inr ⟨wy_pr rfl, fun q => q⟩), trivial, trivial⟩ trivial (fun _ _ q => False.elim q) ?_ (fun _ _ _ q => q)
            refine wa_iload_n (n := 1) rfl ?_
            refine wa_bipush (w_rg2 (by omega) (by omega)) ?_
            refine wa_icmpeq (w_rg0 (by omega) (by omega)) (w_rg0 (by omega) (by omega)) ⟨_, rfl⟩ (fun c9 => ?_) (fun c9 => ?_)
            · skip
              exact absurd c9 (by omega)
            · skip
              refine wa_iload_n (n := 1) rfl ?_
              refine wa_bipush (w_rg2 (by omega) (by omega)) ?_
              refine wa_icmpne (w_rg0 (by omega) (by omega)) (w_rg0 (by omega) (by omega)) ⟨_, rfl⟩ (fun c10 => ?_) (fun c10 => ?_)
              · skip
                refine wa_aload_n (n := 0) rfl ?_
                refine wb_gf4 237 rfl (wy_pr rfl) wt_237 wf_15_138 (v := 363) wl_237_138 ?_
                refine wa_iload_n (n := 2) rfl ?_
                refine wb_iald 363 rfl (wy_pr rfl) wt_363 (n := 4200) ((ml_363 hM)) (by omega) (by omega) (v := 3) (hkx) (fun r11 => ?_)
                refine wa_aload_n (n := 0) rfl ?_
                refine wb_gf4 237 rfl (wy_pr rfl) wt_237 wf_15_138 (v := 363) wl_237_138 ?_
                refine wa_iload_n (n := 3) rfl ?_
                refine wb_iald 363 rfl (wy_pr rfl) wt_363 (n := 4200) ((ml_363 hM)) (by omega) (by omega) (v := 3) (hky) (fun r12 => ?_)
                refine wa_icmpne (w_rg0 (by omega) (by omega)) (w_rg0 (by omega) (by omega)) ⟨_, rfl⟩ (fun c13 => ?_) (fun c13 => ?_)
                · skip
                  exact absurd c13 (by omega)
                · skip
                  refine wa_aload_n (n := 0) rfl ?_
                  refine wb_gf4 237 rfl (wy_pr rfl) wt_237 wf_15_138 (v := 363) wl_237_138 ?_
                  refine wa_iload_n (n := 2) rfl ?_
                  refine wb_iald 363 rfl (wy_pr rfl) wt_363 (n := 4200) ((ml_363 hM)) (by omega) (by omega) (v := 3) (hkx) (fun r14 => ?_)
                  refine wa_iconst ?_
                  refine wa_icmpeq (w_rg0 (by omega) (by omega)) (w_rg0 (by omega) (by omega)) ⟨_, rfl⟩ (fun c15 => ?_) (fun c15 => ?_)
                  · skip
                    exact absurd c15 (by omega)
                  · skip
                    refine wa_aload_n (n := 0) rfl ?_
                    refine wb_gf4 237 rfl (wy_pr rfl) wt_237 wf_15_138 (v := 363) wl_237_138 ?_
                    refine wa_iload_n (n := 2) rfl ?_
                    refine wb_iald 363 rfl (wy_pr rfl) wt_363 (n := 4200) ((ml_363 hM)) (by omega) (by omega) (v := 3) (hkx) (fun r16 => ?_)
                    refine wa_iconst ?_
                    refine wa_icmpne (w_rg0 (by omega) (by omega)) (w_rg0 (by omega) (by omega)) ⟨_, rfl⟩ (fun c17 => ?_) (fun c17 => ?_)
                    · skip
                      exact absurd c17 (by omega)
                    · skip
                      refine wa_fall ⟨_, rfl⟩ ?_
                      refine wa_iconst ?_
                      refine wa_goto ⟨_, rfl⟩ ?_
                      refine wa_istore (n := 4) rfl ?_
                      refine wa_iload (n := 4) rfl ?_
                      refine wa_ifne (w_rg0 (by omega) (by omega)) ⟨_, rfl⟩ (fun c18 => ?_) (fun c18 => ?_)
                      · skip
                        refine wa_aload_n (n := 0) rfl ?_
                        refine wb_gf4 237 rfl (wy_pr rfl) wt_237 wf_15_138 (v := 363) wl_237_138 ?_
                        refine wa_iload_n (n := 2) rfl ?_
                        refine wb_iald 363 rfl (wy_pr rfl) wt_363 (n := 4200) ((ml_363 hM)) (by omega) (by omega) (v := 3) (hkx) (fun r19 => ?_)
                        refine wa_iconst ?_
                        refine wa_icmpne (w_rg0 (by omega) (by omega)) (w_rg0 (by omega) (by omega)) ⟨_, rfl⟩ (fun c20 => ?_) (fun c20 => ?_)
                        · skip
                          refine wa_aload_n (n := 0) rfl ?_
                          refine wa_aload_n (n := 0) rfl ?_
                          refine wb_gf4 237 rfl (wy_pr rfl) wt_237 wf_15_139 (v := 364) wl_237_139 ?_
                          refine wa_iload_n (n := 2) rfl ?_
                          refine wb_lald 364 rfl (wy_pr rfl) wt_364 (n := 4200) ((ml_364 hM)) (by omega) (by omega) (v := vx) (hvx) (fun r21 => ?_)
                          refine wb_l2i_r (wb_l2i_id ⟨(by omega), (by omega)⟩) ?_
                          refine wa_aload_n (n := 0) rfl ?_
                          refine wb_gf4 237 rfl (wy_pr rfl) wt_237 wf_15_139 (v := 364) wl_237_139 ?_
                          refine wa_iload_n (n := 3) rfl ?_
                          refine wb_lald 364 rfl (wy_pr rfl) wt_364 (n := 4200) ((ml_364 hM)) (by omega) (by omega) (v := vy) (hvy) (fun r22 => ?_)
                          refine wb_l2i_r (wb_l2i_id ⟨(by omega), (by omega)⟩) ?_
                          refine wa_cv 237 rfl (wy_pr rfl) wt_237 (M2 := fun _ => False) rfl at_M_compareTexts ⟨_, rfl⟩ rfl rfl ⟨trivial, (Or.inr ⟨wy_pr rfl, fun q => q⟩), trivial, trivial, trivial, trivial⟩ trivial (fun _ _ q => False.elim q) (ct_ok (S := S) hM ha hb n1 n2 rfl rfl hs1 hs2 e1 e2) (fun oq23 Sq23 hp24 q23 => ?_)
                          rcases q23 with ⟨rfl, rfl⟩
                          show wJ _ _ _ _ _ _ _ _ _ _
                          refine wa_fall ⟨_, rfl⟩ ?_
                          refine wa_istore (n := 5) rfl ?_
                          refine wa_iload_n (n := 1) rfl ?_
                          refine wa_bipush (w_rg2 (by omega) (by omega)) ?_
                          refine wa_icmpne (w_rg0 (by omega) (by omega)) (w_rg0 (by omega) (by omega)) ⟨_, rfl⟩ (fun c25 => ?_) (fun c25 => ?_)
                          · skip
                            exact absurd c25 (by omega)
                          · skip
                            refine wa_iload (n := 5) rfl ?_
                            refine wa_ifge (w_rg0 (by omega) (by omega)) ⟨_, rfl⟩ (fun c26 => ?_) (fun c26 => ?_)
                            · skip
                              refine wa_iconst ?_
                              refine wa_goto ⟨_, rfl⟩ ?_
                              refine wa_istore (n := 6) rfl ?_
                              refine wa_aload_n (n := 0) rfl ?_
                              refine wa_iconst ?_
                              refine wa_iload (n := 6) rfl ?_
                              refine wa_ifeq (w_rg0 (by omega) (by omega)) ⟨_, rfl⟩ (fun c27 => ?_) (fun c27 => ?_)
                              · skip
                                refine wb_lconst (m := 0) rfl ?_
                                refine wa_fall ⟨_, rfl⟩ ?_
                                refine wa_cv 237 rfl (wy_pr rfl) wt_237 (M2 := fun _ => False) rfl at_M_is ⟨_, rfl⟩ rfl rfl ⟨trivial, trivial, trivial, (Or.inr ⟨wy_pr rfl, fun q => q⟩), trivial, trivial, trivial, trivial⟩ trivial (fun _ _ q => False.elim q) ?_ (fun _ _ _ q => q)
                                refine wa_aload_n (n := 0) rfl ?_
                                refine wa_iload_n (n := 1) rfl ?_
                                refine wb_pfi 237 rfl (wy_pr rfl) wt_237 wf_15_110 (n := 110) rfl ⟨(by omega), (by omega)⟩ ?_
                                refine wa_aload_n (n := 0) rfl ?_
                                refine wa_lload_n (n := 2) rfl ?_
                                refine wb_pfl 237 rfl (wy_pr rfl) wt_237 wf_15_111 (n := 111) rfl ⟨(by omega), (by omega)⟩ ?_
                                refine wa_return rfl ?_
                                show wJ _ _ _ _ _ _ _ _ _ _
                                refine wa_return rfl ?_
                                show wJ _ _ _ _ _ _ _ _ _ _
                                refine wa_fall ⟨_, rfl⟩ ?_
                                refine wa_aload_n (n := 0) rfl ?_
                                refine wb_gf4 237 rfl (wy_pr rfl) wt_237 wf_15_134 (v := 359) wl_237_134 ?_
                                refine wa_aload_n (n := 0) rfl ?_
                                refine wb_gfi 237 rfl (wy_pr rfl) wt_237 wf_15_151 (v := t) ((w_up_at (by decide)).trans ((w_up_at (by decide)).trans (mt))) (fun r28 => ?_)
                                refine wa_dup2 (by decide) (by decide) ?_
                                refine wb_iald 359 rfl (wy_pr rfl) wt_359 (n := 2) ((w_up_slot (by decide)).trans ((w_up_slot (by decide)).trans ((ml_359 hM)))) (by omega) (by omega) (v := h) ((w_up_slot (by decide)).trans ((w_up_slot (by decide)).trans (mh))) (fun r29 => ?_)
                                refine wa_iconst ?_
                                refine wa_isub ?_
                                refine wb_iast 359 rfl (wy_pr rfl) wt_359 (n := 2) ((w_up_slot (by decide)).trans ((w_up_slot (by decide)).trans ((ml_359 hM)))) (by omega) (by omega) ⟨(by omega), (by omega)⟩ ?_
                                refine wa_aload_n (n := 0) rfl ?_
                                refine wb_gf4 237 rfl (wy_pr rfl) wt_237 wf_15_138 (v := 363) wl_237_138 ?_
                                refine wa_iload_n (n := 3) rfl ?_
                                refine wa_aload_n (n := 0) rfl ?_
                                refine wb_gfi 237 rfl (wy_pr rfl) wt_237 wf_15_110 (v := 1) ((w_up_slot (by decide)).trans ((w_up_at (by decide)).trans (w_up_same _ _ _ _))) (fun r30 => ?_)
                                refine wb_iast 363 rfl (wy_pr rfl) wt_363 (n := 4200) ((w_up_slot (by decide)).trans ((w_up_slot (by decide)).trans ((w_up_slot (by decide)).trans ((ml_363 hM))))) (by omega) (by omega) ⟨(by omega), (by omega)⟩ ?_
                                refine wa_aload_n (n := 0) rfl ?_
                                refine wb_gf4 237 rfl (wy_pr rfl) wt_237 wf_15_139 (v := 364) wl_237_139 ?_
                                refine wa_iload_n (n := 3) rfl ?_
                                refine wa_aload_n (n := 0) rfl ?_
                                refine wb_gfl 237 rfl (wy_pr rfl) wt_237 wf_15_111 (v := 0) ((w_up_slot (by decide)).trans ((w_up_slot (by decide)).trans (w_up_same _ _ _ _))) (fun r31 => ?_)
                                refine wb_last 364 rfl (wy_pr rfl) wt_364 (n := 4200) ((w_up_slot (by decide)).trans ((w_up_slot (by decide)).trans ((w_up_slot (by decide)).trans ((w_up_slot (by decide)).trans ((ml_364 hM)))))) (by omega) (by omega) ⟨(by omega), (by omega)⟩ ?_
                                refine wa_fall ⟨_, rfl⟩ ?_
                                refine wa_return rfl ?_
                                refine ⟨rfl, ?_⟩
                                first
                                  | (exfalso; omega)
                                  | (rw [if_pos (by omega)]; rfl)
                                  | (rw [if_neg (by omega)]; rfl)
                              · skip
                                exact absurd c27 (by omega)
                            · skip
                              refine wa_iconst ?_
                              refine wa_goto ⟨_, rfl⟩ ?_
                              refine wa_istore (n := 6) rfl ?_
                              refine wa_aload_n (n := 0) rfl ?_
                              refine wa_iconst ?_
                              refine wa_iload (n := 6) rfl ?_
                              refine wa_ifeq (w_rg0 (by omega) (by omega)) ⟨_, rfl⟩ (fun c32 => ?_) (fun c32 => ?_)
                              · skip
                                exact absurd c32 (by omega)
                              · skip
                                refine wb_lconst (m := 1) rfl ?_
                                refine wa_goto ⟨_, rfl⟩ ?_
                                refine wa_cv 237 rfl (wy_pr rfl) wt_237 (M2 := fun _ => False) rfl at_M_is ⟨_, rfl⟩ rfl rfl ⟨trivial, trivial, trivial, (Or.inr ⟨wy_pr rfl, fun q => q⟩), trivial, trivial, trivial, trivial⟩ trivial (fun _ _ q => False.elim q) ?_ (fun _ _ _ q => q)
                                refine wa_aload_n (n := 0) rfl ?_
                                refine wa_iload_n (n := 1) rfl ?_
                                refine wb_pfi 237 rfl (wy_pr rfl) wt_237 wf_15_110 (n := 110) rfl ⟨(by omega), (by omega)⟩ ?_
                                refine wa_aload_n (n := 0) rfl ?_
                                refine wa_lload_n (n := 2) rfl ?_
                                refine wb_pfl 237 rfl (wy_pr rfl) wt_237 wf_15_111 (n := 111) rfl ⟨(by omega), (by omega)⟩ ?_
                                refine wa_return rfl ?_
                                show wJ _ _ _ _ _ _ _ _ _ _
                                refine wa_return rfl ?_
                                show wJ _ _ _ _ _ _ _ _ _ _
                                refine wa_fall ⟨_, rfl⟩ ?_
                                refine wa_aload_n (n := 0) rfl ?_
                                refine wb_gf4 237 rfl (wy_pr rfl) wt_237 wf_15_134 (v := 359) wl_237_134 ?_
                                refine wa_aload_n (n := 0) rfl ?_
                                refine wb_gfi 237 rfl (wy_pr rfl) wt_237 wf_15_151 (v := t) ((w_up_at (by decide)).trans ((w_up_at (by decide)).trans (mt))) (fun r33 => ?_)
                                refine wa_dup2 (by decide) (by decide) ?_
                                refine wb_iald 359 rfl (wy_pr rfl) wt_359 (n := 2) ((w_up_slot (by decide)).trans ((w_up_slot (by decide)).trans ((ml_359 hM)))) (by omega) (by omega) (v := h) ((w_up_slot (by decide)).trans ((w_up_slot (by decide)).trans (mh))) (fun r34 => ?_)
                                refine wa_iconst ?_
                                refine wa_isub ?_
                                refine wb_iast 359 rfl (wy_pr rfl) wt_359 (n := 2) ((w_up_slot (by decide)).trans ((w_up_slot (by decide)).trans ((ml_359 hM)))) (by omega) (by omega) ⟨(by omega), (by omega)⟩ ?_
                                refine wa_aload_n (n := 0) rfl ?_
                                refine wb_gf4 237 rfl (wy_pr rfl) wt_237 wf_15_138 (v := 363) wl_237_138 ?_
                                refine wa_iload_n (n := 3) rfl ?_
                                refine wa_aload_n (n := 0) rfl ?_
                                refine wb_gfi 237 rfl (wy_pr rfl) wt_237 wf_15_110 (v := 1) ((w_up_slot (by decide)).trans ((w_up_at (by decide)).trans (w_up_same _ _ _ _))) (fun r35 => ?_)
                                refine wb_iast 363 rfl (wy_pr rfl) wt_363 (n := 4200) ((w_up_slot (by decide)).trans ((w_up_slot (by decide)).trans ((w_up_slot (by decide)).trans ((ml_363 hM))))) (by omega) (by omega) ⟨(by omega), (by omega)⟩ ?_
                                refine wa_aload_n (n := 0) rfl ?_
                                refine wb_gf4 237 rfl (wy_pr rfl) wt_237 wf_15_139 (v := 364) wl_237_139 ?_
                                refine wa_iload_n (n := 3) rfl ?_
                                refine wa_aload_n (n := 0) rfl ?_
                                refine wb_gfl 237 rfl (wy_pr rfl) wt_237 wf_15_111 (v := 1) ((w_up_slot (by decide)).trans ((w_up_slot (by decide)).trans (w_up_same _ _ _ _))) (fun r36 => ?_)
                                refine wb_last 364 rfl (wy_pr rfl) wt_364 (n := 4200) ((w_up_slot (by decide)).trans ((w_up_slot (by decide)).trans ((w_up_slot (by decide)).trans ((w_up_slot (by decide)).trans ((ml_364 hM)))))) (by omega) (by omega) ⟨(by omega), (by omega)⟩ ?_
                                refine wa_fall ⟨_, rfl⟩ ?_
                                refine wa_return rfl ?_
                                refine ⟨rfl, ?_⟩
                                first
                                  | (exfalso; omega)
                                  | (rw [if_pos (by omega)]; rfl)
                                  | (rw [if_neg (by omega)]; rfl)
                        · skip
                          exact absurd c20 (by omega)
                      · skip
                        exact absurd c18 (by omega)
              · skip
                exact absurd c10 (by omega)
          · skip
            exact absurd c8 (by omega)
        · skip
          exact absurd c7 (by omega)
      · skip
        exact absurd c6 (by omega)
    · skip
      exact absurd c5 (by omega)
  · skip
    exact absurd c4 (by omega)
theorem y17t {t c p h tp vx vy : Int} (hP : mP t c p h tp S) (hky : S 363 (2100 * t + h - 1) = 3) (hvy : S 364 (2100 * t + h - 1) = vy) (hkx : S 363 (2100 * t + h - 1 - 1) = 3) (hvx : S 364 (2100 * t + h - 1 - 1) = vx) (hh1 : 2 ≤ h) (ha : 0 ≤ vx ∧ vx < 16000) (hb : 0 ≤ vy ∧ vy < 16000) (n1 : S 285 vx = (l1.length : Int)) (n2 : S 285 vy = (l2.length : Int)) (hs1 : 0 ≤ S 284 vx ∧ S 284 vx + (l1.length : Int) ≤ 269632) (hs2 : 0 ≤ S 284 vy ∧ S 284 vy + (l2.length : Int) ≤ 269632) (e1 : ∀ i : Nat, i < l1.length → S 283 (S 284 vx + (i : Int)) = l1.getD i 0) (e2 : ∀ i : Nat, i < l2.length → S 283 (S 284 vy + (i : Int)) = l2.getD i 0) (hr : -1000000 ≤ cmpL l1 l2 ∧ cmpL l1 l2 ≤ 1000000) : wJ (pe_GA xs) wY0 M (d + 11) t_M_operators ((pe_at t_M_operators.bl 0).getD (0, [])).2 [(0, (2, 237)), (1, (0, 17))] [] S (fun o Z => o = .inl none ∧ pXZ t h 1 (if cmpL l1 l2 ≤ 0 then 1 else 0) S = Z) := by
  obtain ⟨hM, ⟨mt, mt0, mt1⟩, mp, mf, ⟨mc, mc0, mc1⟩, ⟨mtp, mtq⟩, ⟨mpa, mp0, mp1⟩, mh, mh0, mh1⟩ := hP
  refine wa_aload_n (n := 0) rfl ?_
  refine wa_cv 237 rfl (wy_pr rfl) wt_237 (M2 := fun _ => False) rfl at_M_h ⟨_, rfl⟩ rfl rfl ⟨(Or.inr ⟨wy_pr rfl, fun q => q⟩), trivial, trivial⟩ trivial (fun _ _ q => False.elim q) ?_ (fun _ _ _ q => q)
  refine wa_aload_n (n := 0) rfl ?_
  refine wb_gfi 237 rfl (wy_pr rfl) wt_237 wf_15_152 (v := (2100 * t)) (mp) (fun r1 => ?_)
  refine wa_aload_n (n := 0) rfl ?_
  refine wb_gf4 237 rfl (wy_pr rfl) wt_237 wf_15_134 (v := 359) wl_237_134 ?_
  refine wa_aload_n (n := 0) rfl ?_
  refine wb_gfi 237 rfl (wy_pr rfl) wt_237 wf_15_151 (v := t) (mt) (fun r2 => ?_)
  refine wb_iald 359 rfl (wy_pr rfl) wt_359 (n := 2) ((ml_359 hM)) (by omega) (by omega) (v := h) (mh) (fun r3 => ?_)
  refine wa_iadd ?_
  refine wa_ireturn rfl ?_
  show wJ _ _ _ _ _ _ _ _ _ _
  refine wa_iconst ?_
  refine wa_isub ?_
  refine wa_istore_n (n := 2) rfl ?_
  refine wa_iload_n (n := 2) rfl ?_
  refine wa_iconst ?_
  refine wa_isub ?_
  refine wa_istore_n (n := 3) rfl ?_
  refine wa_iload_n (n := 1) rfl ?_
  refine wa_iconst ?_
  refine wa_icmpne (w_rg0 (by omega) (by omega)) (w_rg0 (by omega) (by omega)) ⟨_, rfl⟩ (fun c4 => ?_) (fun c4 => ?_)
  · skip
    refine wa_iload_n (n := 1) rfl ?_
    refine wa_bipush (w_rg2 (by omega) (by omega)) ?_
    refine wa_icmpne (w_rg0 (by omega) (by omega)) (w_rg0 (by omega) (by omega)) ⟨_, rfl⟩ (fun c5 => ?_) (fun c5 => ?_)
    · skip
      refine wa_iload_n (n := 1) rfl ?_
      refine wa_bipush (w_rg2 (by omega) (by omega)) ?_
      refine wa_icmpne (w_rg0 (by omega) (by omega)) (w_rg0 (by omega) (by omega)) ⟨_, rfl⟩ (fun c6 => ?_) (fun c6 => ?_)
      · skip
        refine wa_iload_n (n := 1) rfl ?_
        refine wa_bipush (w_rg2 (by omega) (by omega)) ?_
        refine wa_icmpne (w_rg0 (by omega) (by omega)) (w_rg0 (by omega) (by omega)) ⟨_, rfl⟩ (fun c7 => ?_) (fun c7 => ?_)
        · skip
          refine wa_iload_n (n := 1) rfl ?_
          refine wa_bipush (w_rg2 (by omega) (by omega)) ?_
          refine wa_icmpge (w_rg0 (by omega) (by omega)) (w_rg0 (by omega) (by omega)) ⟨_, rfl⟩ (fun c8 => ?_) (fun c8 => ?_)
          · skip
            refine wa_aload_n (n := 0) rfl ?_
            refine wa_iload_n (n := 1) rfl ?_
            refine wa_iload_n (n := 3) rfl ?_
            refine wa_iload_n (n := 2) rfl ?_
            refine wa_cv 237 rfl (wy_pr rfl) wt_237 (M2 := fun _ => False) rfl at_M_compares ⟨_, rfl⟩ rfl rfl ⟨trivial, trivial, (Or.inr ⟨wy_pr rfl, fun q => q⟩), trivial, trivial⟩ trivial (fun _ _ q => False.elim q) ?_ (fun _ _ _ q => q)
            refine wa_iload_n (n := 1) rfl ?_
            refine wa_bipush (w_rg2 (by omega) (by omega)) ?_
            refine wa_icmpeq (w_rg0 (by omega) (by omega)) (w_rg0 (by omega) (by omega)) ⟨_, rfl⟩ (fun c9 => ?_) (fun c9 => ?_)
            · skip
              exact absurd c9 (by omega)
            · skip
              refine wa_iload_n (n := 1) rfl ?_
              refine wa_bipush (w_rg2 (by omega) (by omega)) ?_
              refine wa_icmpne (w_rg0 (by omega) (by omega)) (w_rg0 (by omega) (by omega)) ⟨_, rfl⟩ (fun c10 => ?_) (fun c10 => ?_)
              · skip
                refine wa_aload_n (n := 0) rfl ?_
                refine wb_gf4 237 rfl (wy_pr rfl) wt_237 wf_15_138 (v := 363) wl_237_138 ?_
                refine wa_iload_n (n := 2) rfl ?_
                refine wb_iald 363 rfl (wy_pr rfl) wt_363 (n := 4200) ((ml_363 hM)) (by omega) (by omega) (v := 3) (hkx) (fun r11 => ?_)
                refine wa_aload_n (n := 0) rfl ?_
                refine wb_gf4 237 rfl (wy_pr rfl) wt_237 wf_15_138 (v := 363) wl_237_138 ?_
                refine wa_iload_n (n := 3) rfl ?_
                refine wb_iald 363 rfl (wy_pr rfl) wt_363 (n := 4200) ((ml_363 hM)) (by omega) (by omega) (v := 3) (hky) (fun r12 => ?_)
                refine wa_icmpne (w_rg0 (by omega) (by omega)) (w_rg0 (by omega) (by omega)) ⟨_, rfl⟩ (fun c13 => ?_) (fun c13 => ?_)
                · skip
                  exact absurd c13 (by omega)
                · skip
                  refine wa_aload_n (n := 0) rfl ?_
                  refine wb_gf4 237 rfl (wy_pr rfl) wt_237 wf_15_138 (v := 363) wl_237_138 ?_
                  refine wa_iload_n (n := 2) rfl ?_
                  refine wb_iald 363 rfl (wy_pr rfl) wt_363 (n := 4200) ((ml_363 hM)) (by omega) (by omega) (v := 3) (hkx) (fun r14 => ?_)
                  refine wa_iconst ?_
                  refine wa_icmpeq (w_rg0 (by omega) (by omega)) (w_rg0 (by omega) (by omega)) ⟨_, rfl⟩ (fun c15 => ?_) (fun c15 => ?_)
                  · skip
                    exact absurd c15 (by omega)
                  · skip
                    refine wa_aload_n (n := 0) rfl ?_
                    refine wb_gf4 237 rfl (wy_pr rfl) wt_237 wf_15_138 (v := 363) wl_237_138 ?_
                    refine wa_iload_n (n := 2) rfl ?_
                    refine wb_iald 363 rfl (wy_pr rfl) wt_363 (n := 4200) ((ml_363 hM)) (by omega) (by omega) (v := 3) (hkx) (fun r16 => ?_)
                    refine wa_iconst ?_
                    refine wa_icmpne (w_rg0 (by omega) (by omega)) (w_rg0 (by omega) (by omega)) ⟨_, rfl⟩ (fun c17 => ?_) (fun c17 => ?_)
                    · skip
                      exact absurd c17 (by omega)
                    · skip
                      refine wa_fall ⟨_, rfl⟩ ?_
                      refine wa_iconst ?_
                      refine wa_goto ⟨_, rfl⟩ ?_
                      refine wa_istore (n := 4) rfl ?_
                      refine wa_iload (n := 4) rfl ?_
                      refine wa_ifne (w_rg0 (by omega) (by omega)) ⟨_, rfl⟩ (fun c18 => ?_) (fun c18 => ?_)
                      · skip
                        refine wa_aload_n (n := 0) rfl ?_
                        refine wb_gf4 237 rfl (wy_pr rfl) wt_237 wf_15_138 (v := 363) wl_237_138 ?_
                        refine wa_iload_n (n := 2) rfl ?_
                        refine wb_iald 363 rfl (wy_pr rfl) wt_363 (n := 4200) ((ml_363 hM)) (by omega) (by omega) (v := 3) (hkx) (fun r19 => ?_)
                        refine wa_iconst ?_
                        refine wa_icmpne (w_rg0 (by omega) (by omega)) (w_rg0 (by omega) (by omega)) ⟨_, rfl⟩ (fun c20 => ?_) (fun c20 => ?_)
                        · skip
                          refine wa_aload_n (n := 0) rfl ?_
                          refine wa_aload_n (n := 0) rfl ?_
                          refine wb_gf4 237 rfl (wy_pr rfl) wt_237 wf_15_139 (v := 364) wl_237_139 ?_
                          refine wa_iload_n (n := 2) rfl ?_
                          refine wb_lald 364 rfl (wy_pr rfl) wt_364 (n := 4200) ((ml_364 hM)) (by omega) (by omega) (v := vx) (hvx) (fun r21 => ?_)
                          refine wb_l2i_r (wb_l2i_id ⟨(by omega), (by omega)⟩) ?_
                          refine wa_aload_n (n := 0) rfl ?_
                          refine wb_gf4 237 rfl (wy_pr rfl) wt_237 wf_15_139 (v := 364) wl_237_139 ?_
                          refine wa_iload_n (n := 3) rfl ?_
                          refine wb_lald 364 rfl (wy_pr rfl) wt_364 (n := 4200) ((ml_364 hM)) (by omega) (by omega) (v := vy) (hvy) (fun r22 => ?_)
                          refine wb_l2i_r (wb_l2i_id ⟨(by omega), (by omega)⟩) ?_
                          refine wa_cv 237 rfl (wy_pr rfl) wt_237 (M2 := fun _ => False) rfl at_M_compareTexts ⟨_, rfl⟩ rfl rfl ⟨trivial, (Or.inr ⟨wy_pr rfl, fun q => q⟩), trivial, trivial, trivial, trivial⟩ trivial (fun _ _ q => False.elim q) (ct_ok (S := S) hM ha hb n1 n2 rfl rfl hs1 hs2 e1 e2) (fun oq23 Sq23 hp24 q23 => ?_)
                          rcases q23 with ⟨rfl, rfl⟩
                          show wJ _ _ _ _ _ _ _ _ _ _
                          refine wa_fall ⟨_, rfl⟩ ?_
                          refine wa_istore (n := 5) rfl ?_
                          refine wa_iload_n (n := 1) rfl ?_
                          refine wa_bipush (w_rg2 (by omega) (by omega)) ?_
                          refine wa_icmpne (w_rg0 (by omega) (by omega)) (w_rg0 (by omega) (by omega)) ⟨_, rfl⟩ (fun c25 => ?_) (fun c25 => ?_)
                          · skip
                            refine wa_iload_n (n := 1) rfl ?_
                            refine wa_bipush (w_rg2 (by omega) (by omega)) ?_
                            refine wa_icmpne (w_rg0 (by omega) (by omega)) (w_rg0 (by omega) (by omega)) ⟨_, rfl⟩ (fun c26 => ?_) (fun c26 => ?_)
                            · skip
                              exact absurd c26 (by omega)
                            · skip
                              refine wa_iload (n := 5) rfl ?_
                              refine wa_ifgt (w_rg0 (by omega) (by omega)) ⟨_, rfl⟩ (fun c27 => ?_) (fun c27 => ?_)
                              · skip
                                refine wa_iconst ?_
                                refine wa_goto ⟨_, rfl⟩ ?_
                                refine wa_istore (n := 6) rfl ?_
                                refine wa_aload_n (n := 0) rfl ?_
                                refine wa_iconst ?_
                                refine wa_iload (n := 6) rfl ?_
                                refine wa_ifeq (w_rg0 (by omega) (by omega)) ⟨_, rfl⟩ (fun c28 => ?_) (fun c28 => ?_)
                                · skip
                                  refine wb_lconst (m := 0) rfl ?_
                                  refine wa_fall ⟨_, rfl⟩ ?_
                                  refine wa_cv 237 rfl (wy_pr rfl) wt_237 (M2 := fun _ => False) rfl at_M_is ⟨_, rfl⟩ rfl rfl ⟨trivial, trivial, trivial, (Or.inr ⟨wy_pr rfl, fun q => q⟩), trivial, trivial, trivial, trivial⟩ trivial (fun _ _ q => False.elim q) ?_ (fun _ _ _ q => q)
                                  refine wa_aload_n (n := 0) rfl ?_
                                  refine wa_iload_n (n := 1) rfl ?_
                                  refine wb_pfi 237 rfl (wy_pr rfl) wt_237 wf_15_110 (n := 110) rfl ⟨(by omega), (by omega)⟩ ?_
                                  refine wa_aload_n (n := 0) rfl ?_
                                  refine wa_lload_n (n := 2) rfl ?_
                                  refine wb_pfl 237 rfl (wy_pr rfl) wt_237 wf_15_111 (n := 111) rfl ⟨(by omega), (by omega)⟩ ?_
                                  refine wa_return rfl ?_
                                  show wJ _ _ _ _ _ _ _ _ _ _
                                  refine wa_return rfl ?_
                                  show wJ _ _ _ _ _ _ _ _ _ _
                                  refine wa_fall ⟨_, rfl⟩ ?_
                                  refine wa_aload_n (n := 0) rfl ?_
                                  refine wb_gf4 237 rfl (wy_pr rfl) wt_237 wf_15_134 (v := 359) wl_237_134 ?_
                                  refine wa_aload_n (n := 0) rfl ?_
                                  refine wb_gfi 237 rfl (wy_pr rfl) wt_237 wf_15_151 (v := t) ((w_up_at (by decide)).trans ((w_up_at (by decide)).trans (mt))) (fun r29 => ?_)
                                  refine wa_dup2 (by decide) (by decide) ?_
                                  refine wb_iald 359 rfl (wy_pr rfl) wt_359 (n := 2) ((w_up_slot (by decide)).trans ((w_up_slot (by decide)).trans ((ml_359 hM)))) (by omega) (by omega) (v := h) ((w_up_slot (by decide)).trans ((w_up_slot (by decide)).trans (mh))) (fun r30 => ?_)
                                  refine wa_iconst ?_
                                  refine wa_isub ?_
                                  refine wb_iast 359 rfl (wy_pr rfl) wt_359 (n := 2) ((w_up_slot (by decide)).trans ((w_up_slot (by decide)).trans ((ml_359 hM)))) (by omega) (by omega) ⟨(by omega), (by omega)⟩ ?_
                                  refine wa_aload_n (n := 0) rfl ?_
                                  refine wb_gf4 237 rfl (wy_pr rfl) wt_237 wf_15_138 (v := 363) wl_237_138 ?_
                                  refine wa_iload_n (n := 3) rfl ?_
                                  refine wa_aload_n (n := 0) rfl ?_
                                  refine wb_gfi 237 rfl (wy_pr rfl) wt_237 wf_15_110 (v := 1) ((w_up_slot (by decide)).trans ((w_up_at (by decide)).trans (w_up_same _ _ _ _))) (fun r31 => ?_)
                                  refine wb_iast 363 rfl (wy_pr rfl) wt_363 (n := 4200) ((w_up_slot (by decide)).trans ((w_up_slot (by decide)).trans ((w_up_slot (by decide)).trans ((ml_363 hM))))) (by omega) (by omega) ⟨(by omega), (by omega)⟩ ?_
                                  refine wa_aload_n (n := 0) rfl ?_
                                  refine wb_gf4 237 rfl (wy_pr rfl) wt_237 wf_15_139 (v := 364) wl_237_139 ?_
                                  refine wa_iload_n (n := 3) rfl ?_
                                  refine wa_aload_n (n := 0) rfl ?_
                                  refine wb_gfl 237 rfl (wy_pr rfl) wt_237 wf_15_111 (v := 0) ((w_up_slot (by decide)).trans ((w_up_slot (by decide)).trans (w_up_same _ _ _ _))) (fun r32 => ?_)
                                  refine wb_last 364 rfl (wy_pr rfl) wt_364 (n := 4200) ((w_up_slot (by decide)).trans ((w_up_slot (by decide)).trans ((w_up_slot (by decide)).trans ((w_up_slot (by decide)).trans ((ml_364 hM)))))) (by omega) (by omega) ⟨(by omega), (by omega)⟩ ?_
                                  refine wa_fall ⟨_, rfl⟩ ?_
                                  refine wa_return rfl ?_
                                  refine ⟨rfl, ?_⟩
                                  first
                                    | (exfalso; omega)
                                    | (rw [if_pos (by omega)]; rfl)
                                    | (rw [if_neg (by omega)]; rfl)
                                · skip
                                  exact absurd c28 (by omega)
                              · skip
                                refine wa_iconst ?_
                                refine wa_goto ⟨_, rfl⟩ ?_
                                refine wa_istore (n := 6) rfl ?_
                                refine wa_aload_n (n := 0) rfl ?_
                                refine wa_iconst ?_
                                refine wa_iload (n := 6) rfl ?_
                                refine wa_ifeq (w_rg0 (by omega) (by omega)) ⟨_, rfl⟩ (fun c33 => ?_) (fun c33 => ?_)
                                · skip
                                  exact absurd c33 (by omega)
                                · skip
                                  refine wb_lconst (m := 1) rfl ?_
                                  refine wa_goto ⟨_, rfl⟩ ?_
                                  refine wa_cv 237 rfl (wy_pr rfl) wt_237 (M2 := fun _ => False) rfl at_M_is ⟨_, rfl⟩ rfl rfl ⟨trivial, trivial, trivial, (Or.inr ⟨wy_pr rfl, fun q => q⟩), trivial, trivial, trivial, trivial⟩ trivial (fun _ _ q => False.elim q) ?_ (fun _ _ _ q => q)
                                  refine wa_aload_n (n := 0) rfl ?_
                                  refine wa_iload_n (n := 1) rfl ?_
                                  refine wb_pfi 237 rfl (wy_pr rfl) wt_237 wf_15_110 (n := 110) rfl ⟨(by omega), (by omega)⟩ ?_
                                  refine wa_aload_n (n := 0) rfl ?_
                                  refine wa_lload_n (n := 2) rfl ?_
                                  refine wb_pfl 237 rfl (wy_pr rfl) wt_237 wf_15_111 (n := 111) rfl ⟨(by omega), (by omega)⟩ ?_
                                  refine wa_return rfl ?_
                                  show wJ _ _ _ _ _ _ _ _ _ _
                                  refine wa_return rfl ?_
                                  show wJ _ _ _ _ _ _ _ _ _ _
                                  refine wa_fall ⟨_, rfl⟩ ?_
                                  refine wa_aload_n (n := 0) rfl ?_
                                  refine wb_gf4 237 rfl (wy_pr rfl) wt_237 wf_15_134 (v := 359) wl_237_134 ?_
                                  refine wa_aload_n (n := 0) rfl ?_
                                  refine wb_gfi 237 rfl (wy_pr rfl) wt_237 wf_15_151 (v := t) ((w_up_at (by decide)).trans ((w_up_at (by decide)).trans (mt))) (fun r34 => ?_)
                                  refine wa_dup2 (by decide) (by decide) ?_
                                  refine wb_iald 359 rfl (wy_pr rfl) wt_359 (n := 2) ((w_up_slot (by decide)).trans ((w_up_slot (by decide)).trans ((ml_359 hM)))) (by omega) (by omega) (v := h) ((w_up_slot (by decide)).trans ((w_up_slot (by decide)).trans (mh))) (fun r35 => ?_)
                                  refine wa_iconst ?_
                                  refine wa_isub ?_
                                  refine wb_iast 359 rfl (wy_pr rfl) wt_359 (n := 2) ((w_up_slot (by decide)).trans ((w_up_slot (by decide)).trans ((ml_359 hM)))) (by omega) (by omega) ⟨(by omega), (by omega)⟩ ?_
                                  refine wa_aload_n (n := 0) rfl ?_
                                  refine wb_gf4 237 rfl (wy_pr rfl) wt_237 wf_15_138 (v := 363) wl_237_138 ?_
                                  refine wa_iload_n (n := 3) rfl ?_
                                  refine wa_aload_n (n := 0) rfl ?_
                                  refine wb_gfi 237 rfl (wy_pr rfl) wt_237 wf_15_110 (v := 1) ((w_up_slot (by decide)).trans ((w_up_at (by decide)).trans (w_up_same _ _ _ _))) (fun r36 => ?_)
                                  refine wb_iast 363 rfl (wy_pr rfl) wt_363 (n := 4200) ((w_up_slot (by decide)).trans ((w_up_slot (by decide)).trans ((w_up_slot (by decide)).trans ((ml_363 hM))))) (by omega) (by omega) ⟨(by omega), (by omega)⟩ ?_
                                  refine wa_aload_n (n := 0) rfl ?_
                                  refine wb_gf4 237 rfl (wy_pr rfl) wt_237 wf_15_139 (v := 364) wl_237_139 ?_
                                  refine wa_iload_n (n := 3) rfl ?_
                                  refine wa_aload_n (n := 0) rfl ?_
                                  refine wb_gfl 237 rfl (wy_pr rfl) wt_237 wf_15_111 (v := 1) ((w_up_slot (by decide)).trans ((w_up_slot (by decide)).trans (w_up_same _ _ _ _))) (fun r37 => ?_)
                                  refine wb_last 364 rfl (wy_pr rfl) wt_364 (n := 4200) ((w_up_slot (by decide)).trans ((w_up_slot (by decide)).trans ((w_up_slot (by decide)).trans ((w_up_slot (by decide)).trans ((ml_364 hM)))))) (by omega) (by omega) ⟨(by omega), (by omega)⟩ ?_
                                  refine wa_fall ⟨_, rfl⟩ ?_
                                  refine wa_return rfl ?_
                                  refine ⟨rfl, ?_⟩
                                  first
                                    | (exfalso; omega)
                                    | (rw [if_pos (by omega)]; rfl)
                                    | (rw [if_neg (by omega)]; rfl)
                          · skip
                            exact absurd c25 (by omega)
                        · skip
                          exact absurd c20 (by omega)
                      · skip
                        exact absurd c18 (by omega)
              · skip
                exact absurd c10 (by omega)
          · skip
            exact absurd c8 (by omega)
        · skip
          exact absurd c7 (by omega)
      · skip
        exact absurd c6 (by omega)
    · skip
      exact absurd c5 (by omega)
  · skip
    exact absurd c4 (by omega)
theorem y18t {t c p h tp vx vy : Int} (hP : mP t c p h tp S) (hky : S 363 (2100 * t + h - 1) = 3) (hvy : S 364 (2100 * t + h - 1) = vy) (hkx : S 363 (2100 * t + h - 1 - 1) = 3) (hvx : S 364 (2100 * t + h - 1 - 1) = vx) (hh1 : 2 ≤ h) (ha : 0 ≤ vx ∧ vx < 16000) (hb : 0 ≤ vy ∧ vy < 16000) (n1 : S 285 vx = (l1.length : Int)) (n2 : S 285 vy = (l2.length : Int)) (hs1 : 0 ≤ S 284 vx ∧ S 284 vx + (l1.length : Int) ≤ 269632) (hs2 : 0 ≤ S 284 vy ∧ S 284 vy + (l2.length : Int) ≤ 269632) (e1 : ∀ i : Nat, i < l1.length → S 283 (S 284 vx + (i : Int)) = l1.getD i 0) (e2 : ∀ i : Nat, i < l2.length → S 283 (S 284 vy + (i : Int)) = l2.getD i 0) (hr : -1000000 ≤ cmpL l1 l2 ∧ cmpL l1 l2 ≤ 1000000) : wJ (pe_GA xs) wY0 M (d + 11) t_M_operators ((pe_at t_M_operators.bl 0).getD (0, [])).2 [(0, (2, 237)), (1, (0, 18))] [] S (fun o Z => o = .inl none ∧ pXZ t h 1 (if 0 < cmpL l1 l2 then 1 else 0) S = Z) := by
  obtain ⟨hM, ⟨mt, mt0, mt1⟩, mp, mf, ⟨mc, mc0, mc1⟩, ⟨mtp, mtq⟩, ⟨mpa, mp0, mp1⟩, mh, mh0, mh1⟩ := hP
  refine wa_aload_n (n := 0) rfl ?_
  refine wa_cv 237 rfl (wy_pr rfl) wt_237 (M2 := fun _ => False) rfl at_M_h ⟨_, rfl⟩ rfl rfl ⟨(Or.inr ⟨wy_pr rfl, fun q => q⟩), trivial, trivial⟩ trivial (fun _ _ q => False.elim q) ?_ (fun _ _ _ q => q)
  refine wa_aload_n (n := 0) rfl ?_
  refine wb_gfi 237 rfl (wy_pr rfl) wt_237 wf_15_152 (v := (2100 * t)) (mp) (fun r1 => ?_)
  refine wa_aload_n (n := 0) rfl ?_
  refine wb_gf4 237 rfl (wy_pr rfl) wt_237 wf_15_134 (v := 359) wl_237_134 ?_
  refine wa_aload_n (n := 0) rfl ?_
  refine wb_gfi 237 rfl (wy_pr rfl) wt_237 wf_15_151 (v := t) (mt) (fun r2 => ?_)
  refine wb_iald 359 rfl (wy_pr rfl) wt_359 (n := 2) ((ml_359 hM)) (by omega) (by omega) (v := h) (mh) (fun r3 => ?_)
  refine wa_iadd ?_
  refine wa_ireturn rfl ?_
  show wJ _ _ _ _ _ _ _ _ _ _
  refine wa_iconst ?_
  refine wa_isub ?_
  refine wa_istore_n (n := 2) rfl ?_
  refine wa_iload_n (n := 2) rfl ?_
  refine wa_iconst ?_
  refine wa_isub ?_
  refine wa_istore_n (n := 3) rfl ?_
  refine wa_iload_n (n := 1) rfl ?_
  refine wa_iconst ?_
  refine wa_icmpne (w_rg0 (by omega) (by omega)) (w_rg0 (by omega) (by omega)) ⟨_, rfl⟩ (fun c4 => ?_) (fun c4 => ?_)
  · skip
    refine wa_iload_n (n := 1) rfl ?_
    refine wa_bipush (w_rg2 (by omega) (by omega)) ?_
    refine wa_icmpne (w_rg0 (by omega) (by omega)) (w_rg0 (by omega) (by omega)) ⟨_, rfl⟩ (fun c5 => ?_) (fun c5 => ?_)
    · skip
      refine wa_iload_n (n := 1) rfl ?_
      refine wa_bipush (w_rg2 (by omega) (by omega)) ?_
      refine wa_icmpne (w_rg0 (by omega) (by omega)) (w_rg0 (by omega) (by omega)) ⟨_, rfl⟩ (fun c6 => ?_) (fun c6 => ?_)
      · skip
        refine wa_iload_n (n := 1) rfl ?_
        refine wa_bipush (w_rg2 (by omega) (by omega)) ?_
        refine wa_icmpne (w_rg0 (by omega) (by omega)) (w_rg0 (by omega) (by omega)) ⟨_, rfl⟩ (fun c7 => ?_) (fun c7 => ?_)
        · skip
          refine wa_iload_n (n := 1) rfl ?_
          refine wa_bipush (w_rg2 (by omega) (by omega)) ?_
          refine wa_icmpge (w_rg0 (by omega) (by omega)) (w_rg0 (by omega) (by omega)) ⟨_, rfl⟩ (fun c8 => ?_) (fun c8 => ?_)
          · skip
            refine wa_aload_n (n := 0) rfl ?_
            refine wa_iload_n (n := 1) rfl ?_
            refine wa_iload_n (n := 3) rfl ?_
            refine wa_iload_n (n := 2) rfl ?_
            refine wa_cv 237 rfl (wy_pr rfl) wt_237 (M2 := fun _ => False) rfl at_M_compares ⟨_, rfl⟩ rfl rfl ⟨trivial, trivial, (Or.inr ⟨wy_pr rfl, fun q => q⟩), trivial, trivial⟩ trivial (fun _ _ q => False.elim q) ?_ (fun _ _ _ q => q)
            refine wa_iload_n (n := 1) rfl ?_
            refine wa_bipush (w_rg2 (by omega) (by omega)) ?_
            refine wa_icmpeq (w_rg0 (by omega) (by omega)) (w_rg0 (by omega) (by omega)) ⟨_, rfl⟩ (fun c9 => ?_) (fun c9 => ?_)
            · skip
              exact absurd c9 (by omega)
            · skip
              refine wa_iload_n (n := 1) rfl ?_
              refine wa_bipush (w_rg2 (by omega) (by omega)) ?_
              refine wa_icmpne (w_rg0 (by omega) (by omega)) (w_rg0 (by omega) (by omega)) ⟨_, rfl⟩ (fun c10 => ?_) (fun c10 => ?_)
              · skip
                refine wa_aload_n (n := 0) rfl ?_
                refine wb_gf4 237 rfl (wy_pr rfl) wt_237 wf_15_138 (v := 363) wl_237_138 ?_
                refine wa_iload_n (n := 2) rfl ?_
                refine wb_iald 363 rfl (wy_pr rfl) wt_363 (n := 4200) ((ml_363 hM)) (by omega) (by omega) (v := 3) (hkx) (fun r11 => ?_)
                refine wa_aload_n (n := 0) rfl ?_
                refine wb_gf4 237 rfl (wy_pr rfl) wt_237 wf_15_138 (v := 363) wl_237_138 ?_
                refine wa_iload_n (n := 3) rfl ?_
                refine wb_iald 363 rfl (wy_pr rfl) wt_363 (n := 4200) ((ml_363 hM)) (by omega) (by omega) (v := 3) (hky) (fun r12 => ?_)
                refine wa_icmpne (w_rg0 (by omega) (by omega)) (w_rg0 (by omega) (by omega)) ⟨_, rfl⟩ (fun c13 => ?_) (fun c13 => ?_)
                · skip
                  exact absurd c13 (by omega)
                · skip
                  refine wa_aload_n (n := 0) rfl ?_
                  refine wb_gf4 237 rfl (wy_pr rfl) wt_237 wf_15_138 (v := 363) wl_237_138 ?_
                  refine wa_iload_n (n := 2) rfl ?_
                  refine wb_iald 363 rfl (wy_pr rfl) wt_363 (n := 4200) ((ml_363 hM)) (by omega) (by omega) (v := 3) (hkx) (fun r14 => ?_)
                  refine wa_iconst ?_
                  refine wa_icmpeq (w_rg0 (by omega) (by omega)) (w_rg0 (by omega) (by omega)) ⟨_, rfl⟩ (fun c15 => ?_) (fun c15 => ?_)
                  · skip
                    exact absurd c15 (by omega)
                  · skip
                    refine wa_aload_n (n := 0) rfl ?_
                    refine wb_gf4 237 rfl (wy_pr rfl) wt_237 wf_15_138 (v := 363) wl_237_138 ?_
                    refine wa_iload_n (n := 2) rfl ?_
                    refine wb_iald 363 rfl (wy_pr rfl) wt_363 (n := 4200) ((ml_363 hM)) (by omega) (by omega) (v := 3) (hkx) (fun r16 => ?_)
                    refine wa_iconst ?_
                    refine wa_icmpne (w_rg0 (by omega) (by omega)) (w_rg0 (by omega) (by omega)) ⟨_, rfl⟩ (fun c17 => ?_) (fun c17 => ?_)
                    · skip
                      exact absurd c17 (by omega)
                    · skip
                      refine wa_fall ⟨_, rfl⟩ ?_
                      refine wa_iconst ?_
                      refine wa_goto ⟨_, rfl⟩ ?_
                      refine wa_istore (n := 4) rfl ?_
                      refine wa_iload (n := 4) rfl ?_
                      refine wa_ifne (w_rg0 (by omega) (by omega)) ⟨_, rfl⟩ (fun c18 => ?_) (fun c18 => ?_)
                      · skip
                        refine wa_aload_n (n := 0) rfl ?_
                        refine wb_gf4 237 rfl (wy_pr rfl) wt_237 wf_15_138 (v := 363) wl_237_138 ?_
                        refine wa_iload_n (n := 2) rfl ?_
                        refine wb_iald 363 rfl (wy_pr rfl) wt_363 (n := 4200) ((ml_363 hM)) (by omega) (by omega) (v := 3) (hkx) (fun r19 => ?_)
                        refine wa_iconst ?_
                        refine wa_icmpne (w_rg0 (by omega) (by omega)) (w_rg0 (by omega) (by omega)) ⟨_, rfl⟩ (fun c20 => ?_) (fun c20 => ?_)
                        · skip
                          refine wa_aload_n (n := 0) rfl ?_
                          refine wa_aload_n (n := 0) rfl ?_
                          refine wb_gf4 237 rfl (wy_pr rfl) wt_237 wf_15_139 (v := 364) wl_237_139 ?_
                          refine wa_iload_n (n := 2) rfl ?_
                          refine wb_lald 364 rfl (wy_pr rfl) wt_364 (n := 4200) ((ml_364 hM)) (by omega) (by omega) (v := vx) (hvx) (fun r21 => ?_)
                          refine wb_l2i_r (wb_l2i_id ⟨(by omega), (by omega)⟩) ?_
                          refine wa_aload_n (n := 0) rfl ?_
                          refine wb_gf4 237 rfl (wy_pr rfl) wt_237 wf_15_139 (v := 364) wl_237_139 ?_
                          refine wa_iload_n (n := 3) rfl ?_
                          refine wb_lald 364 rfl (wy_pr rfl) wt_364 (n := 4200) ((ml_364 hM)) (by omega) (by omega) (v := vy) (hvy) (fun r22 => ?_)
                          refine wb_l2i_r (wb_l2i_id ⟨(by omega), (by omega)⟩) ?_
                          refine wa_cv 237 rfl (wy_pr rfl) wt_237 (M2 := fun _ => False) rfl at_M_compareTexts ⟨_, rfl⟩ rfl rfl ⟨trivial, (Or.inr ⟨wy_pr rfl, fun q => q⟩), trivial, trivial, trivial, trivial⟩ trivial (fun _ _ q => False.elim q) (ct_ok (S := S) hM ha hb n1 n2 rfl rfl hs1 hs2 e1 e2) (fun oq23 Sq23 hp24 q23 => ?_)
                          rcases q23 with ⟨rfl, rfl⟩
                          show wJ _ _ _ _ _ _ _ _ _ _
                          refine wa_fall ⟨_, rfl⟩ ?_
                          refine wa_istore (n := 5) rfl ?_
                          refine wa_iload_n (n := 1) rfl ?_
                          refine wa_bipush (w_rg2 (by omega) (by omega)) ?_
                          refine wa_icmpne (w_rg0 (by omega) (by omega)) (w_rg0 (by omega) (by omega)) ⟨_, rfl⟩ (fun c25 => ?_) (fun c25 => ?_)
                          · skip
                            refine wa_iload_n (n := 1) rfl ?_
                            refine wa_bipush (w_rg2 (by omega) (by omega)) ?_
                            refine wa_icmpne (w_rg0 (by omega) (by omega)) (w_rg0 (by omega) (by omega)) ⟨_, rfl⟩ (fun c26 => ?_) (fun c26 => ?_)
                            · skip
                              refine wa_iload_n (n := 1) rfl ?_
                              refine wa_bipush (w_rg2 (by omega) (by omega)) ?_
                              refine wa_icmpne (w_rg0 (by omega) (by omega)) (w_rg0 (by omega) (by omega)) ⟨_, rfl⟩ (fun c27 => ?_) (fun c27 => ?_)
                              · skip
                                exact absurd c27 (by omega)
                              · skip
                                refine wa_iload (n := 5) rfl ?_
                                refine wa_ifle (w_rg0 (by omega) (by omega)) ⟨_, rfl⟩ (fun c28 => ?_) (fun c28 => ?_)
                                · skip
                                  refine wa_iconst ?_
                                  refine wa_goto ⟨_, rfl⟩ ?_
                                  refine wa_istore (n := 6) rfl ?_
                                  refine wa_aload_n (n := 0) rfl ?_
                                  refine wa_iconst ?_
                                  refine wa_iload (n := 6) rfl ?_
                                  refine wa_ifeq (w_rg0 (by omega) (by omega)) ⟨_, rfl⟩ (fun c29 => ?_) (fun c29 => ?_)
                                  · skip
                                    refine wb_lconst (m := 0) rfl ?_
                                    refine wa_fall ⟨_, rfl⟩ ?_
                                    refine wa_cv 237 rfl (wy_pr rfl) wt_237 (M2 := fun _ => False) rfl at_M_is ⟨_, rfl⟩ rfl rfl ⟨trivial, trivial, trivial, (Or.inr ⟨wy_pr rfl, fun q => q⟩), trivial, trivial, trivial, trivial⟩ trivial (fun _ _ q => False.elim q) ?_ (fun _ _ _ q => q)
                                    refine wa_aload_n (n := 0) rfl ?_
                                    refine wa_iload_n (n := 1) rfl ?_
                                    refine wb_pfi 237 rfl (wy_pr rfl) wt_237 wf_15_110 (n := 110) rfl ⟨(by omega), (by omega)⟩ ?_
                                    refine wa_aload_n (n := 0) rfl ?_
                                    refine wa_lload_n (n := 2) rfl ?_
                                    refine wb_pfl 237 rfl (wy_pr rfl) wt_237 wf_15_111 (n := 111) rfl ⟨(by omega), (by omega)⟩ ?_
                                    refine wa_return rfl ?_
                                    show wJ _ _ _ _ _ _ _ _ _ _
                                    refine wa_return rfl ?_
                                    show wJ _ _ _ _ _ _ _ _ _ _
                                    refine wa_fall ⟨_, rfl⟩ ?_
                                    refine wa_aload_n (n := 0) rfl ?_
                                    refine wb_gf4 237 rfl (wy_pr rfl) wt_237 wf_15_134 (v := 359) wl_237_134 ?_
                                    refine wa_aload_n (n := 0) rfl ?_
                                    refine wb_gfi 237 rfl (wy_pr rfl) wt_237 wf_15_151 (v := t) ((w_up_at (by decide)).trans ((w_up_at (by decide)).trans (mt))) (fun r30 => ?_)
                                    refine wa_dup2 (by decide) (by decide) ?_
                                    refine wb_iald 359 rfl (wy_pr rfl) wt_359 (n := 2) ((w_up_slot (by decide)).trans ((w_up_slot (by decide)).trans ((ml_359 hM)))) (by omega) (by omega) (v := h) ((w_up_slot (by decide)).trans ((w_up_slot (by decide)).trans (mh))) (fun r31 => ?_)
                                    refine wa_iconst ?_
                                    refine wa_isub ?_
                                    refine wb_iast 359 rfl (wy_pr rfl) wt_359 (n := 2) ((w_up_slot (by decide)).trans ((w_up_slot (by decide)).trans ((ml_359 hM)))) (by omega) (by omega) ⟨(by omega), (by omega)⟩ ?_
                                    refine wa_aload_n (n := 0) rfl ?_
                                    refine wb_gf4 237 rfl (wy_pr rfl) wt_237 wf_15_138 (v := 363) wl_237_138 ?_
                                    refine wa_iload_n (n := 3) rfl ?_
                                    refine wa_aload_n (n := 0) rfl ?_
                                    refine wb_gfi 237 rfl (wy_pr rfl) wt_237 wf_15_110 (v := 1) ((w_up_slot (by decide)).trans ((w_up_at (by decide)).trans (w_up_same _ _ _ _))) (fun r32 => ?_)
                                    refine wb_iast 363 rfl (wy_pr rfl) wt_363 (n := 4200) ((w_up_slot (by decide)).trans ((w_up_slot (by decide)).trans ((w_up_slot (by decide)).trans ((ml_363 hM))))) (by omega) (by omega) ⟨(by omega), (by omega)⟩ ?_
                                    refine wa_aload_n (n := 0) rfl ?_
                                    refine wb_gf4 237 rfl (wy_pr rfl) wt_237 wf_15_139 (v := 364) wl_237_139 ?_
                                    refine wa_iload_n (n := 3) rfl ?_
                                    refine wa_aload_n (n := 0) rfl ?_
                                    refine wb_gfl 237 rfl (wy_pr rfl) wt_237 wf_15_111 (v := 0) ((w_up_slot (by decide)).trans ((w_up_slot (by decide)).trans (w_up_same _ _ _ _))) (fun r33 => ?_)
                                    refine wb_last 364 rfl (wy_pr rfl) wt_364 (n := 4200) ((w_up_slot (by decide)).trans ((w_up_slot (by decide)).trans ((w_up_slot (by decide)).trans ((w_up_slot (by decide)).trans ((ml_364 hM)))))) (by omega) (by omega) ⟨(by omega), (by omega)⟩ ?_
                                    refine wa_fall ⟨_, rfl⟩ ?_
                                    refine wa_return rfl ?_
                                    refine ⟨rfl, ?_⟩
                                    first
                                      | (exfalso; omega)
                                      | (rw [if_pos (by omega)]; rfl)
                                      | (rw [if_neg (by omega)]; rfl)
                                  · skip
                                    exact absurd c29 (by omega)
                                · skip
                                  refine wa_iconst ?_
                                  refine wa_goto ⟨_, rfl⟩ ?_
                                  refine wa_istore (n := 6) rfl ?_
                                  refine wa_aload_n (n := 0) rfl ?_
                                  refine wa_iconst ?_
                                  refine wa_iload (n := 6) rfl ?_
                                  refine wa_ifeq (w_rg0 (by omega) (by omega)) ⟨_, rfl⟩ (fun c34 => ?_) (fun c34 => ?_)
                                  · skip
                                    exact absurd c34 (by omega)
                                  · skip
                                    refine wb_lconst (m := 1) rfl ?_
                                    refine wa_goto ⟨_, rfl⟩ ?_
                                    refine wa_cv 237 rfl (wy_pr rfl) wt_237 (M2 := fun _ => False) rfl at_M_is ⟨_, rfl⟩ rfl rfl ⟨trivial, trivial, trivial, (Or.inr ⟨wy_pr rfl, fun q => q⟩), trivial, trivial, trivial, trivial⟩ trivial (fun _ _ q => False.elim q) ?_ (fun _ _ _ q => q)
                                    refine wa_aload_n (n := 0) rfl ?_
                                    refine wa_iload_n (n := 1) rfl ?_
                                    refine wb_pfi 237 rfl (wy_pr rfl) wt_237 wf_15_110 (n := 110) rfl ⟨(by omega), (by omega)⟩ ?_
                                    refine wa_aload_n (n := 0) rfl ?_
                                    refine wa_lload_n (n := 2) rfl ?_
                                    refine wb_pfl 237 rfl (wy_pr rfl) wt_237 wf_15_111 (n := 111) rfl ⟨(by omega), (by omega)⟩ ?_
                                    refine wa_return rfl ?_
                                    show wJ _ _ _ _ _ _ _ _ _ _
                                    refine wa_return rfl ?_
                                    show wJ _ _ _ _ _ _ _ _ _ _
                                    refine wa_fall ⟨_, rfl⟩ ?_
                                    refine wa_aload_n (n := 0) rfl ?_
                                    refine wb_gf4 237 rfl (wy_pr rfl) wt_237 wf_15_134 (v := 359) wl_237_134 ?_
                                    refine wa_aload_n (n := 0) rfl ?_
                                    refine wb_gfi 237 rfl (wy_pr rfl) wt_237 wf_15_151 (v := t) ((w_up_at (by decide)).trans ((w_up_at (by decide)).trans (mt))) (fun r35 => ?_)
                                    refine wa_dup2 (by decide) (by decide) ?_
                                    refine wb_iald 359 rfl (wy_pr rfl) wt_359 (n := 2) ((w_up_slot (by decide)).trans ((w_up_slot (by decide)).trans ((ml_359 hM)))) (by omega) (by omega) (v := h) ((w_up_slot (by decide)).trans ((w_up_slot (by decide)).trans (mh))) (fun r36 => ?_)
                                    refine wa_iconst ?_
                                    refine wa_isub ?_
                                    refine wb_iast 359 rfl (wy_pr rfl) wt_359 (n := 2) ((w_up_slot (by decide)).trans ((w_up_slot (by decide)).trans ((ml_359 hM)))) (by omega) (by omega) ⟨(by omega), (by omega)⟩ ?_
                                    refine wa_aload_n (n := 0) rfl ?_
                                    refine wb_gf4 237 rfl (wy_pr rfl) wt_237 wf_15_138 (v := 363) wl_237_138 ?_
                                    refine wa_iload_n (n := 3) rfl ?_
                                    refine wa_aload_n (n := 0) rfl ?_
                                    refine wb_gfi 237 rfl (wy_pr rfl) wt_237 wf_15_110 (v := 1) ((w_up_slot (by decide)).trans ((w_up_at (by decide)).trans (w_up_same _ _ _ _))) (fun r37 => ?_)
                                    refine wb_iast 363 rfl (wy_pr rfl) wt_363 (n := 4200) ((w_up_slot (by decide)).trans ((w_up_slot (by decide)).trans ((w_up_slot (by decide)).trans ((ml_363 hM))))) (by omega) (by omega) ⟨(by omega), (by omega)⟩ ?_
                                    refine wa_aload_n (n := 0) rfl ?_
                                    refine wb_gf4 237 rfl (wy_pr rfl) wt_237 wf_15_139 (v := 364) wl_237_139 ?_
                                    refine wa_iload_n (n := 3) rfl ?_
                                    refine wa_aload_n (n := 0) rfl ?_
                                    refine wb_gfl 237 rfl (wy_pr rfl) wt_237 wf_15_111 (v := 1) ((w_up_slot (by decide)).trans ((w_up_slot (by decide)).trans (w_up_same _ _ _ _))) (fun r38 => ?_)
                                    refine wb_last 364 rfl (wy_pr rfl) wt_364 (n := 4200) ((w_up_slot (by decide)).trans ((w_up_slot (by decide)).trans ((w_up_slot (by decide)).trans ((w_up_slot (by decide)).trans ((ml_364 hM)))))) (by omega) (by omega) ⟨(by omega), (by omega)⟩ ?_
                                    refine wa_fall ⟨_, rfl⟩ ?_
                                    refine wa_return rfl ?_
                                    refine ⟨rfl, ?_⟩
                                    first
                                      | (exfalso; omega)
                                      | (rw [if_pos (by omega)]; rfl)
                                      | (rw [if_neg (by omega)]; rfl)
                            · skip
                              exact absurd c26 (by omega)
                          · skip
                            exact absurd c25 (by omega)
                        · skip
                          exact absurd c20 (by omega)
                      · skip
                        exact absurd c18 (by omega)
              · skip
                exact absurd c10 (by omega)
          · skip
            exact absurd c8 (by omega)
        · skip
          exact absurd c7 (by omega)
      · skip
        exact absurd c6 (by omega)
    · skip
      exact absurd c5 (by omega)
  · skip
    exact absurd c4 (by omega)
theorem y19t {t c p h tp vx vy : Int} (hP : mP t c p h tp S) (hky : S 363 (2100 * t + h - 1) = 3) (hvy : S 364 (2100 * t + h - 1) = vy) (hkx : S 363 (2100 * t + h - 1 - 1) = 3) (hvx : S 364 (2100 * t + h - 1 - 1) = vx) (hh1 : 2 ≤ h) (ha : 0 ≤ vx ∧ vx < 16000) (hb : 0 ≤ vy ∧ vy < 16000) (n1 : S 285 vx = (l1.length : Int)) (n2 : S 285 vy = (l2.length : Int)) (hs1 : 0 ≤ S 284 vx ∧ S 284 vx + (l1.length : Int) ≤ 269632) (hs2 : 0 ≤ S 284 vy ∧ S 284 vy + (l2.length : Int) ≤ 269632) (e1 : ∀ i : Nat, i < l1.length → S 283 (S 284 vx + (i : Int)) = l1.getD i 0) (e2 : ∀ i : Nat, i < l2.length → S 283 (S 284 vy + (i : Int)) = l2.getD i 0) (hr : -1000000 ≤ cmpL l1 l2 ∧ cmpL l1 l2 ≤ 1000000) : wJ (pe_GA xs) wY0 M (d + 11) t_M_operators ((pe_at t_M_operators.bl 0).getD (0, [])).2 [(0, (2, 237)), (1, (0, 19))] [] S (fun o Z => o = .inl none ∧ pXZ t h 1 (if 0 ≤ cmpL l1 l2 then 1 else 0) S = Z) := by
  obtain ⟨hM, ⟨mt, mt0, mt1⟩, mp, mf, ⟨mc, mc0, mc1⟩, ⟨mtp, mtq⟩, ⟨mpa, mp0, mp1⟩, mh, mh0, mh1⟩ := hP
  refine wa_aload_n (n := 0) rfl ?_
  refine wa_cv 237 rfl (wy_pr rfl) wt_237 (M2 := fun _ => False) rfl at_M_h ⟨_, rfl⟩ rfl rfl ⟨(Or.inr ⟨wy_pr rfl, fun q => q⟩), trivial, trivial⟩ trivial (fun _ _ q => False.elim q) ?_ (fun _ _ _ q => q)
  refine wa_aload_n (n := 0) rfl ?_
  refine wb_gfi 237 rfl (wy_pr rfl) wt_237 wf_15_152 (v := (2100 * t)) (mp) (fun r1 => ?_)
  refine wa_aload_n (n := 0) rfl ?_
  refine wb_gf4 237 rfl (wy_pr rfl) wt_237 wf_15_134 (v := 359) wl_237_134 ?_
  refine wa_aload_n (n := 0) rfl ?_
  refine wb_gfi 237 rfl (wy_pr rfl) wt_237 wf_15_151 (v := t) (mt) (fun r2 => ?_)
  refine wb_iald 359 rfl (wy_pr rfl) wt_359 (n := 2) ((ml_359 hM)) (by omega) (by omega) (v := h) (mh) (fun r3 => ?_)
  refine wa_iadd ?_
  refine wa_ireturn rfl ?_
  show wJ _ _ _ _ _ _ _ _ _ _
  refine wa_iconst ?_
  refine wa_isub ?_
  refine wa_istore_n (n := 2) rfl ?_
  refine wa_iload_n (n := 2) rfl ?_
  refine wa_iconst ?_
  refine wa_isub ?_
  refine wa_istore_n (n := 3) rfl ?_
  refine wa_iload_n (n := 1) rfl ?_
  refine wa_iconst ?_
  refine wa_icmpne (w_rg0 (by omega) (by omega)) (w_rg0 (by omega) (by omega)) ⟨_, rfl⟩ (fun c4 => ?_) (fun c4 => ?_)
  · skip
    refine wa_iload_n (n := 1) rfl ?_
    refine wa_bipush (w_rg2 (by omega) (by omega)) ?_
    refine wa_icmpne (w_rg0 (by omega) (by omega)) (w_rg0 (by omega) (by omega)) ⟨_, rfl⟩ (fun c5 => ?_) (fun c5 => ?_)
    · skip
      refine wa_iload_n (n := 1) rfl ?_
      refine wa_bipush (w_rg2 (by omega) (by omega)) ?_
      refine wa_icmpne (w_rg0 (by omega) (by omega)) (w_rg0 (by omega) (by omega)) ⟨_, rfl⟩ (fun c6 => ?_) (fun c6 => ?_)
      · skip
        refine wa_iload_n (n := 1) rfl ?_
        refine wa_bipush (w_rg2 (by omega) (by omega)) ?_
        refine wa_icmpne (w_rg0 (by omega) (by omega)) (w_rg0 (by omega) (by omega)) ⟨_, rfl⟩ (fun c7 => ?_) (fun c7 => ?_)
        · skip
          refine wa_iload_n (n := 1) rfl ?_
          refine wa_bipush (w_rg2 (by omega) (by omega)) ?_
          refine wa_icmpge (w_rg0 (by omega) (by omega)) (w_rg0 (by omega) (by omega)) ⟨_, rfl⟩ (fun c8 => ?_) (fun c8 => ?_)
          · skip
            refine wa_aload_n (n := 0) rfl ?_
            refine wa_iload_n (n := 1) rfl ?_
            refine wa_iload_n (n := 3) rfl ?_
            refine wa_iload_n (n := 2) rfl ?_
            refine wa_cv 237 rfl (wy_pr rfl) wt_237 (M2 := fun _ => False) rfl at_M_compares ⟨_, rfl⟩ rfl rfl ⟨trivial, trivial, (Or.inr ⟨wy_pr rfl, fun q => q⟩), trivial, trivial⟩ trivial (fun _ _ q => False.elim q) ?_ (fun _ _ _ q => q)
            refine wa_iload_n (n := 1) rfl ?_
            refine wa_bipush (w_rg2 (by omega) (by omega)) ?_
            refine wa_icmpeq (w_rg0 (by omega) (by omega)) (w_rg0 (by omega) (by omega)) ⟨_, rfl⟩ (fun c9 => ?_) (fun c9 => ?_)
            · skip
              exact absurd c9 (by omega)
            · skip
              refine wa_iload_n (n := 1) rfl ?_
              refine wa_bipush (w_rg2 (by omega) (by omega)) ?_
              refine wa_icmpne (w_rg0 (by omega) (by omega)) (w_rg0 (by omega) (by omega)) ⟨_, rfl⟩ (fun c10 => ?_) (fun c10 => ?_)
              · skip
                refine wa_aload_n (n := 0) rfl ?_
                refine wb_gf4 237 rfl (wy_pr rfl) wt_237 wf_15_138 (v := 363) wl_237_138 ?_
                refine wa_iload_n (n := 2) rfl ?_
                refine wb_iald 363 rfl (wy_pr rfl) wt_363 (n := 4200) ((ml_363 hM)) (by omega) (by omega) (v := 3) (hkx) (fun r11 => ?_)
                refine wa_aload_n (n := 0) rfl ?_
                refine wb_gf4 237 rfl (wy_pr rfl) wt_237 wf_15_138 (v := 363) wl_237_138 ?_
                refine wa_iload_n (n := 3) rfl ?_
                refine wb_iald 363 rfl (wy_pr rfl) wt_363 (n := 4200) ((ml_363 hM)) (by omega) (by omega) (v := 3) (hky) (fun r12 => ?_)
                refine wa_icmpne (w_rg0 (by omega) (by omega)) (w_rg0 (by omega) (by omega)) ⟨_, rfl⟩ (fun c13 => ?_) (fun c13 => ?_)
                · skip
                  exact absurd c13 (by omega)
                · skip
                  refine wa_aload_n (n := 0) rfl ?_
                  refine wb_gf4 237 rfl (wy_pr rfl) wt_237 wf_15_138 (v := 363) wl_237_138 ?_
                  refine wa_iload_n (n := 2) rfl ?_
                  refine wb_iald 363 rfl (wy_pr rfl) wt_363 (n := 4200) ((ml_363 hM)) (by omega) (by omega) (v := 3) (hkx) (fun r14 => ?_)
                  refine wa_iconst ?_
                  refine wa_icmpeq (w_rg0 (by omega) (by omega)) (w_rg0 (by omega) (by omega)) ⟨_, rfl⟩ (fun c15 => ?_) (fun c15 => ?_)
                  · skip
                    exact absurd c15 (by omega)
                  · skip
                    refine wa_aload_n (n := 0) rfl ?_
                    refine wb_gf4 237 rfl (wy_pr rfl) wt_237 wf_15_138 (v := 363) wl_237_138 ?_
                    refine wa_iload_n (n := 2) rfl ?_
                    refine wb_iald 363 rfl (wy_pr rfl) wt_363 (n := 4200) ((ml_363 hM)) (by omega) (by omega) (v := 3) (hkx) (fun r16 => ?_)
                    refine wa_iconst ?_
                    refine wa_icmpne (w_rg0 (by omega) (by omega)) (w_rg0 (by omega) (by omega)) ⟨_, rfl⟩ (fun c17 => ?_) (fun c17 => ?_)
                    · skip
                      exact absurd c17 (by omega)
                    · skip
                      refine wa_fall ⟨_, rfl⟩ ?_
                      refine wa_iconst ?_
                      refine wa_goto ⟨_, rfl⟩ ?_
                      refine wa_istore (n := 4) rfl ?_
                      refine wa_iload (n := 4) rfl ?_
                      refine wa_ifne (w_rg0 (by omega) (by omega)) ⟨_, rfl⟩ (fun c18 => ?_) (fun c18 => ?_)
                      · skip
                        refine wa_aload_n (n := 0) rfl ?_
                        refine wb_gf4 237 rfl (wy_pr rfl) wt_237 wf_15_138 (v := 363) wl_237_138 ?_
                        refine wa_iload_n (n := 2) rfl ?_
                        refine wb_iald 363 rfl (wy_pr rfl) wt_363 (n := 4200) ((ml_363 hM)) (by omega) (by omega) (v := 3) (hkx) (fun r19 => ?_)
                        refine wa_iconst ?_
                        refine wa_icmpne (w_rg0 (by omega) (by omega)) (w_rg0 (by omega) (by omega)) ⟨_, rfl⟩ (fun c20 => ?_) (fun c20 => ?_)
                        · skip
                          refine wa_aload_n (n := 0) rfl ?_
                          refine wa_aload_n (n := 0) rfl ?_
                          refine wb_gf4 237 rfl (wy_pr rfl) wt_237 wf_15_139 (v := 364) wl_237_139 ?_
                          refine wa_iload_n (n := 2) rfl ?_
                          refine wb_lald 364 rfl (wy_pr rfl) wt_364 (n := 4200) ((ml_364 hM)) (by omega) (by omega) (v := vx) (hvx) (fun r21 => ?_)
                          refine wb_l2i_r (wb_l2i_id ⟨(by omega), (by omega)⟩) ?_
                          refine wa_aload_n (n := 0) rfl ?_
                          refine wb_gf4 237 rfl (wy_pr rfl) wt_237 wf_15_139 (v := 364) wl_237_139 ?_
                          refine wa_iload_n (n := 3) rfl ?_
                          refine wb_lald 364 rfl (wy_pr rfl) wt_364 (n := 4200) ((ml_364 hM)) (by omega) (by omega) (v := vy) (hvy) (fun r22 => ?_)
                          refine wb_l2i_r (wb_l2i_id ⟨(by omega), (by omega)⟩) ?_
                          refine wa_cv 237 rfl (wy_pr rfl) wt_237 (M2 := fun _ => False) rfl at_M_compareTexts ⟨_, rfl⟩ rfl rfl ⟨trivial, (Or.inr ⟨wy_pr rfl, fun q => q⟩), trivial, trivial, trivial, trivial⟩ trivial (fun _ _ q => False.elim q) (ct_ok (S := S) hM ha hb n1 n2 rfl rfl hs1 hs2 e1 e2) (fun oq23 Sq23 hp24 q23 => ?_)
                          rcases q23 with ⟨rfl, rfl⟩
                          show wJ _ _ _ _ _ _ _ _ _ _
                          refine wa_fall ⟨_, rfl⟩ ?_
                          refine wa_istore (n := 5) rfl ?_
                          refine wa_iload_n (n := 1) rfl ?_
                          refine wa_bipush (w_rg2 (by omega) (by omega)) ?_
                          refine wa_icmpne (w_rg0 (by omega) (by omega)) (w_rg0 (by omega) (by omega)) ⟨_, rfl⟩ (fun c25 => ?_) (fun c25 => ?_)
                          · skip
                            refine wa_iload_n (n := 1) rfl ?_
                            refine wa_bipush (w_rg2 (by omega) (by omega)) ?_
                            refine wa_icmpne (w_rg0 (by omega) (by omega)) (w_rg0 (by omega) (by omega)) ⟨_, rfl⟩ (fun c26 => ?_) (fun c26 => ?_)
                            · skip
                              refine wa_iload_n (n := 1) rfl ?_
                              refine wa_bipush (w_rg2 (by omega) (by omega)) ?_
                              refine wa_icmpne (w_rg0 (by omega) (by omega)) (w_rg0 (by omega) (by omega)) ⟨_, rfl⟩ (fun c27 => ?_) (fun c27 => ?_)
                              · skip
                                refine wa_iload (n := 5) rfl ?_
                                refine wa_iflt (w_rg0 (by omega) (by omega)) ⟨_, rfl⟩ (fun c28 => ?_) (fun c28 => ?_)
                                · skip
                                  refine wa_iconst ?_
                                  refine wa_fall ⟨_, rfl⟩ ?_
                                  refine wa_istore (n := 6) rfl ?_
                                  refine wa_aload_n (n := 0) rfl ?_
                                  refine wa_iconst ?_
                                  refine wa_iload (n := 6) rfl ?_
                                  refine wa_ifeq (w_rg0 (by omega) (by omega)) ⟨_, rfl⟩ (fun c29 => ?_) (fun c29 => ?_)
                                  · skip
                                    refine wb_lconst (m := 0) rfl ?_
                                    refine wa_fall ⟨_, rfl⟩ ?_
                                    refine wa_cv 237 rfl (wy_pr rfl) wt_237 (M2 := fun _ => False) rfl at_M_is ⟨_, rfl⟩ rfl rfl ⟨trivial, trivial, trivial, (Or.inr ⟨wy_pr rfl, fun q => q⟩), trivial, trivial, trivial, trivial⟩ trivial (fun _ _ q => False.elim q) ?_ (fun _ _ _ q => q)
                                    refine wa_aload_n (n := 0) rfl ?_
                                    refine wa_iload_n (n := 1) rfl ?_
                                    refine wb_pfi 237 rfl (wy_pr rfl) wt_237 wf_15_110 (n := 110) rfl ⟨(by omega), (by omega)⟩ ?_
                                    refine wa_aload_n (n := 0) rfl ?_
                                    refine wa_lload_n (n := 2) rfl ?_
                                    refine wb_pfl 237 rfl (wy_pr rfl) wt_237 wf_15_111 (n := 111) rfl ⟨(by omega), (by omega)⟩ ?_
                                    refine wa_return rfl ?_
                                    show wJ _ _ _ _ _ _ _ _ _ _
                                    refine wa_return rfl ?_
                                    show wJ _ _ _ _ _ _ _ _ _ _
                                    refine wa_fall ⟨_, rfl⟩ ?_
                                    refine wa_aload_n (n := 0) rfl ?_
                                    refine wb_gf4 237 rfl (wy_pr rfl) wt_237 wf_15_134 (v := 359) wl_237_134 ?_
                                    refine wa_aload_n (n := 0) rfl ?_
                                    refine wb_gfi 237 rfl (wy_pr rfl) wt_237 wf_15_151 (v := t) ((w_up_at (by decide)).trans ((w_up_at (by decide)).trans (mt))) (fun r30 => ?_)
                                    refine wa_dup2 (by decide) (by decide) ?_
                                    refine wb_iald 359 rfl (wy_pr rfl) wt_359 (n := 2) ((w_up_slot (by decide)).trans ((w_up_slot (by decide)).trans ((ml_359 hM)))) (by omega) (by omega) (v := h) ((w_up_slot (by decide)).trans ((w_up_slot (by decide)).trans (mh))) (fun r31 => ?_)
                                    refine wa_iconst ?_
                                    refine wa_isub ?_
                                    refine wb_iast 359 rfl (wy_pr rfl) wt_359 (n := 2) ((w_up_slot (by decide)).trans ((w_up_slot (by decide)).trans ((ml_359 hM)))) (by omega) (by omega) ⟨(by omega), (by omega)⟩ ?_
                                    refine wa_aload_n (n := 0) rfl ?_
                                    refine wb_gf4 237 rfl (wy_pr rfl) wt_237 wf_15_138 (v := 363) wl_237_138 ?_
                                    refine wa_iload_n (n := 3) rfl ?_
                                    refine wa_aload_n (n := 0) rfl ?_
                                    refine wb_gfi 237 rfl (wy_pr rfl) wt_237 wf_15_110 (v := 1) ((w_up_slot (by decide)).trans ((w_up_at (by decide)).trans (w_up_same _ _ _ _))) (fun r32 => ?_)
                                    refine wb_iast 363 rfl (wy_pr rfl) wt_363 (n := 4200) ((w_up_slot (by decide)).trans ((w_up_slot (by decide)).trans ((w_up_slot (by decide)).trans ((ml_363 hM))))) (by omega) (by omega) ⟨(by omega), (by omega)⟩ ?_
                                    refine wa_aload_n (n := 0) rfl ?_
                                    refine wb_gf4 237 rfl (wy_pr rfl) wt_237 wf_15_139 (v := 364) wl_237_139 ?_
                                    refine wa_iload_n (n := 3) rfl ?_
                                    refine wa_aload_n (n := 0) rfl ?_
                                    refine wb_gfl 237 rfl (wy_pr rfl) wt_237 wf_15_111 (v := 0) ((w_up_slot (by decide)).trans ((w_up_slot (by decide)).trans (w_up_same _ _ _ _))) (fun r33 => ?_)
                                    refine wb_last 364 rfl (wy_pr rfl) wt_364 (n := 4200) ((w_up_slot (by decide)).trans ((w_up_slot (by decide)).trans ((w_up_slot (by decide)).trans ((w_up_slot (by decide)).trans ((ml_364 hM)))))) (by omega) (by omega) ⟨(by omega), (by omega)⟩ ?_
                                    refine wa_fall ⟨_, rfl⟩ ?_
                                    refine wa_return rfl ?_
                                    refine ⟨rfl, ?_⟩
                                    first
                                      | (exfalso; omega)
                                      | (rw [if_pos (by omega)]; rfl)
                                      | (rw [if_neg (by omega)]; rfl)
                                  · skip
                                    exact absurd c29 (by omega)
                                · skip
                                  refine wa_iconst ?_
                                  refine wa_goto ⟨_, rfl⟩ ?_
                                  refine wa_istore (n := 6) rfl ?_
                                  refine wa_aload_n (n := 0) rfl ?_
                                  refine wa_iconst ?_
                                  refine wa_iload (n := 6) rfl ?_
                                  refine wa_ifeq (w_rg0 (by omega) (by omega)) ⟨_, rfl⟩ (fun c34 => ?_) (fun c34 => ?_)
                                  · skip
                                    exact absurd c34 (by omega)
                                  · skip
                                    refine wb_lconst (m := 1) rfl ?_
                                    refine wa_goto ⟨_, rfl⟩ ?_
                                    refine wa_cv 237 rfl (wy_pr rfl) wt_237 (M2 := fun _ => False) rfl at_M_is ⟨_, rfl⟩ rfl rfl ⟨trivial, trivial, trivial, (Or.inr ⟨wy_pr rfl, fun q => q⟩), trivial, trivial, trivial, trivial⟩ trivial (fun _ _ q => False.elim q) ?_ (fun _ _ _ q => q)
                                    refine wa_aload_n (n := 0) rfl ?_
                                    refine wa_iload_n (n := 1) rfl ?_
                                    refine wb_pfi 237 rfl (wy_pr rfl) wt_237 wf_15_110 (n := 110) rfl ⟨(by omega), (by omega)⟩ ?_
                                    refine wa_aload_n (n := 0) rfl ?_
                                    refine wa_lload_n (n := 2) rfl ?_
                                    refine wb_pfl 237 rfl (wy_pr rfl) wt_237 wf_15_111 (n := 111) rfl ⟨(by omega), (by omega)⟩ ?_
                                    refine wa_return rfl ?_
                                    show wJ _ _ _ _ _ _ _ _ _ _
                                    refine wa_return rfl ?_
                                    show wJ _ _ _ _ _ _ _ _ _ _
                                    refine wa_fall ⟨_, rfl⟩ ?_
                                    refine wa_aload_n (n := 0) rfl ?_
                                    refine wb_gf4 237 rfl (wy_pr rfl) wt_237 wf_15_134 (v := 359) wl_237_134 ?_
                                    refine wa_aload_n (n := 0) rfl ?_
                                    refine wb_gfi 237 rfl (wy_pr rfl) wt_237 wf_15_151 (v := t) ((w_up_at (by decide)).trans ((w_up_at (by decide)).trans (mt))) (fun r35 => ?_)
                                    refine wa_dup2 (by decide) (by decide) ?_
                                    refine wb_iald 359 rfl (wy_pr rfl) wt_359 (n := 2) ((w_up_slot (by decide)).trans ((w_up_slot (by decide)).trans ((ml_359 hM)))) (by omega) (by omega) (v := h) ((w_up_slot (by decide)).trans ((w_up_slot (by decide)).trans (mh))) (fun r36 => ?_)
                                    refine wa_iconst ?_
                                    refine wa_isub ?_
                                    refine wb_iast 359 rfl (wy_pr rfl) wt_359 (n := 2) ((w_up_slot (by decide)).trans ((w_up_slot (by decide)).trans ((ml_359 hM)))) (by omega) (by omega) ⟨(by omega), (by omega)⟩ ?_
                                    refine wa_aload_n (n := 0) rfl ?_
                                    refine wb_gf4 237 rfl (wy_pr rfl) wt_237 wf_15_138 (v := 363) wl_237_138 ?_
                                    refine wa_iload_n (n := 3) rfl ?_
                                    refine wa_aload_n (n := 0) rfl ?_
                                    refine wb_gfi 237 rfl (wy_pr rfl) wt_237 wf_15_110 (v := 1) ((w_up_slot (by decide)).trans ((w_up_at (by decide)).trans (w_up_same _ _ _ _))) (fun r37 => ?_)
                                    refine wb_iast 363 rfl (wy_pr rfl) wt_363 (n := 4200) ((w_up_slot (by decide)).trans ((w_up_slot (by decide)).trans ((w_up_slot (by decide)).trans ((ml_363 hM))))) (by omega) (by omega) ⟨(by omega), (by omega)⟩ ?_
                                    refine wa_aload_n (n := 0) rfl ?_
                                    refine wb_gf4 237 rfl (wy_pr rfl) wt_237 wf_15_139 (v := 364) wl_237_139 ?_
                                    refine wa_iload_n (n := 3) rfl ?_
                                    refine wa_aload_n (n := 0) rfl ?_
                                    refine wb_gfl 237 rfl (wy_pr rfl) wt_237 wf_15_111 (v := 1) ((w_up_slot (by decide)).trans ((w_up_slot (by decide)).trans (w_up_same _ _ _ _))) (fun r38 => ?_)
                                    refine wb_last 364 rfl (wy_pr rfl) wt_364 (n := 4200) ((w_up_slot (by decide)).trans ((w_up_slot (by decide)).trans ((w_up_slot (by decide)).trans ((w_up_slot (by decide)).trans ((ml_364 hM)))))) (by omega) (by omega) ⟨(by omega), (by omega)⟩ ?_
                                    refine wa_fall ⟨_, rfl⟩ ?_
                                    refine wa_return rfl ?_
                                    refine ⟨rfl, ?_⟩
                                    first
                                      | (exfalso; omega)
                                      | (rw [if_pos (by omega)]; rfl)
                                      | (rw [if_neg (by omega)]; rfl)
                              · skip
                                exact absurd c27 (by omega)
                            · skip
                              exact absurd c26 (by omega)
                          · skip
                            exact absurd c25 (by omega)
                        · skip
                          exact absurd c20 (by omega)
                      · skip
                        exact absurd c18 (by omega)
              · skip
                exact absurd c10 (by omega)
          · skip
            exact absurd c8 (by omega)
        · skip
          exact absurd c7 (by omega)
      · skip
        exact absurd c6 (by omega)
    · skip
      exact absurd c5 (by omega)
  · skip
    exact absurd c4 (by omega)
end Wep
