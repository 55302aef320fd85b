/-! PART er: PUSH of a text. -/
section Wer
variable {xs : List (Nat × List Int32)} {d : Nat} {S Z : wS} {K : aK} {a b t : Int} {X : List (List Int)}
theorem x0t_215 {c p h a b wd st sz : Int} (hP : xP 215 c p h S) (hab : (-2147483648 ≤ a ∧ a ≤ 2147483647) ∧ (-2147483648 ≤ b ∧ b ≤ 2147483647)) (ha4 : a = 4) (hb0 : 0 ≤ b ∧ b < S 10 (-1)) (hwd : S 10 b = wd) (hw0 : 0 ≤ wd ∧ wd < S 4 (-1)) (hl4 : S 5 (-1) = S 4 (-1)) (hst : S 4 wd = st) (hsz : S 5 wd = sz) (hst0 : 0 ≤ st ∧ st < 2147483648) (hsz0 : 0 ≤ sz ∧ sz < 2147483648) (hln : S 4 (-1) ≤ 2147483647 ∧ S 10 (-1) ≤ 8192) : wJ (pe_GA xs) wY0 (mS [217, 218]) (d + 11) t_XK_perform ((pe_at t_XK_perform.bl 0).getD (0, [])).2 [(0, (2, 215)), (1, (0, 0)), (2, (0, a)), (3, (0, b))] [] S (fun o Z => o = .inl none ∧ sO 215 h c p (0) (3) (st * 4294967296 + sz) S Z) := by
  obtain ⟨⟨hC, hI⟩, ⟨bc, bc0, bc1⟩, ⟨bp, bp0, bp1⟩, ⟨bh, bh0, bh1, bh2⟩, bl1, bl2, bl3⟩ := hP
  replace bp : S 220 (c - 1) = p := bp
  replace bh : S 216 2 = h := bh
  replace bh2 : h ≤ S 217 (-1) := bh2
  replace bl1 : S 218 (-1) = S 217 (-1) := bl1
  replace bl2 : 64 ≤ S 217 (-1) := bl2
  replace bl3 : S 217 (-1) ≤ 4095 := bl3
  refine wa_aload_n (n := 0) rfl ?_
  refine wb_gf4 215 rfl (wy_pr rfl) wt_215 wf_8_3 (v := 216) wl_215_3 ?_
  refine wb_gfi 216 rfl (wy_pr rfl) wt_216 wf_7_2 (v := h) (bh) (fun r1 => ?_)
  refine wa_iconst ?_
  refine wa_isub ?_
  refine wa_istore (n := 4) rfl ?_
  refine wa_iload_n (n := 1) rfl ?_
  refine wb_sw (w_rg0 (by omega) (by omega)) (tb := 1) rfl ⟨_, rfl⟩ ?_
  refine wa_aload_n (n := 0) rfl ?_
  refine wa_iload_n (n := 2) rfl ?_
  refine wa_iload_n (n := 3) rfl ?_
  refine wa_cv 215 rfl (wy_pr rfl) wt_215 (M2 := mS [217, 218]) rfl at_XK_pushConstant ⟨_, rfl⟩ rfl rfl ⟨trivial, (Or.inr ⟨wy_pr rfl, mS_no rfl⟩), trivial, trivial, trivial, trivial⟩ trivial (fun _ _ q => q) ?_ (fun _ _ _ q => q)
  refine wa_iload_n (n := 1) rfl ?_
  refine wa_iconst ?_
  refine wa_icmpne (w_rg0 (by omega) (by omega)) (w_rg0 (by omega) (by omega)) ⟨_, rfl⟩ (fun c2 => ?_) (fun c2 => ?_)
  · skip
    refine wa_iload_n (n := 1) rfl ?_
    refine wa_iconst ?_
    refine wa_icmpne (w_rg0 (by omega) (by omega)) (w_rg0 (by omega) (by omega)) ⟨_, rfl⟩ (fun c3 => ?_) (fun c3 => ?_)
    · skip
      exact absurd c3 (by omega)
    · skip
      refine wa_aload_n (n := 0) rfl ?_
      refine wa_iconst ?_
      refine wa_iconst ?_
      refine wa_aload_n (n := 0) rfl ?_
      refine wb_gf4 215 rfl (wy_pr rfl) wt_215 wf_8_0 (v := 72) wl_215_0 ?_
      refine wb_gf4 72 rfl (wy_pr rfl) wt_72 wf_2_0 (v := 2) wl_72_0 ?_
      refine wa_aload_n (n := 0) rfl ?_
      refine wb_gf4 215 rfl (wy_pr rfl) wt_215 wf_8_0 (v := 72) wl_215_0 ?_
      refine wb_gf4 72 rfl (wy_pr rfl) wt_72 wf_2_0 (v := 2) wl_72_0 ?_
      refine wb_gf4 2 rfl (wy_pr rfl) wt_2 wf_9_11 (v := 10) wl_2_11 ?_
      refine wa_iload_n (n := 2) rfl ?_
      refine wb_iald 10 rfl (wy_pr rfl) wt_10 (n := (S 10 (-1))) (rfl) (by omega) (by omega) (v := wd) (hwd) (fun r4 => ?_)
      refine wa_cv 2 rfl (wy_pr rfl) wt_2 (M2 := mS [217, 218]) rfl at_XW_sliceOf ⟨_, rfl⟩ rfl rfl ⟨(Or.inr ⟨wy_pr rfl, mS_no rfl⟩), trivial, trivial, trivial⟩ ⟨trivial, trivial, (Or.inr ⟨wy_pr rfl, mS_no rfl⟩), trivial⟩ (fun _ _ q => q) ?_ (fun _ _ _ q => q)
      refine wa_aload_n (n := 0) rfl ?_
      refine wb_gf4 2 rfl (wy_pr rfl) wt_2 wf_9_2 (v := 4) wl_2_2 ?_
      refine wa_iload_n (n := 1) rfl ?_
      refine wb_iald 4 rfl (wy_pr rfl) wt_4 (n := (S 4 (-1))) (rfl) (by omega) (by omega) (v := st) (hst) (fun r5 => ?_)
      refine wa_aload_n (n := 0) rfl ?_
      refine wb_gf4 2 rfl (wy_pr rfl) wt_2 wf_9_3 (v := 5) wl_2_3 ?_
      refine wa_iload_n (n := 1) rfl ?_
      refine wb_iald 5 rfl (wy_pr rfl) wt_5 (n := (S 4 (-1))) (hl4) (by omega) (by omega) (v := sz) (hsz) (fun r6 => ?_)
      refine wa_cs (M2 := mS [217, 218]) rfl at_X_slice ⟨_, rfl⟩ rfl rfl ⟨(Or.inr ⟨wy_pr rfl, mS_no rfl⟩), trivial, trivial⟩ trivial (fun _ _ q => q) ?_ (fun _ _ _ q => q)
      refine wa_iload_n (n := 0) rfl ?_
      refine wa_i2l (w_rg0 (by omega) (by omega)) ?_
      refine wa_bipush (w_rg2 (by omega) (by omega)) ?_
      refine wa_lshl ?_
      refine wa_iload_n (n := 1) rfl ?_
      refine wa_i2l (w_rg0 (by omega) (by omega)) ?_
      refine wa_lor ?_
      refine wa_lreturn rfl ?_
      show wJ _ _ _ _ _ _ _ _ _ _
      refine wa_lreturn rfl ?_
      show wJ _ _ _ _ _ _ _ _ _ _
      rw [sl_mk hst0 hsz0]
      have hw := sl_rg hst0 hsz0
      refine wa_cv 215 rfl (wy_pr rfl) wt_215 (M2 := mS [217, 218]) rfl at_XK_give ⟨_, rfl⟩ rfl rfl ⟨(Or.inr ⟨wy_pr rfl, mS_no rfl⟩), trivial, trivial, trivial⟩ trivial (fun _ _ q => q) (gw_215 (S := S) (n := 0) (k := 3) (v := (st * 4294967296 + sz)) (h := h) (c := c) (p := p) (ln := (S 217 (-1))) hC hI ⟨by omega, by omega⟩ ⟨by omega, by omega⟩ (bh) (bc) (bp) (rfl) (bl1) ⟨by omega, by omega⟩ ⟨by omega, by omega, by omega⟩ ⟨by omega, by omega⟩ ⟨by omega, by omega⟩) (fun oq7 Sq7 hp8 q7 => ?_)
      rcases q7 with ⟨rfl, A7, ra7, rfl⟩
      show wJ _ _ _ _ _ _ _ _ _ _
      refine wa_goto ⟨_, rfl⟩ ?_
      refine wa_return rfl ?_
      show wJ _ _ _ _ _ _ _ _ _ _
      refine wa_goto ⟨_, rfl⟩ ?_
      refine wa_return rfl ?_
      exact ⟨rfl, A7, ra7, rfl⟩
  · skip
    exact absurd c2 (by omega)
theorem x0t_226 {c p h a b wd st sz : Int} (hP : xP 226 c p h S) (hab : (-2147483648 ≤ a ∧ a ≤ 2147483647) ∧ (-2147483648 ≤ b ∧ b ≤ 2147483647)) (ha4 : a = 4) (hb0 : 0 ≤ b ∧ b < S 10 (-1)) (hwd : S 10 b = wd) (hw0 : 0 ≤ wd ∧ wd < S 4 (-1)) (hl4 : S 5 (-1) = S 4 (-1)) (hst : S 4 wd = st) (hsz : S 5 wd = sz) (hst0 : 0 ≤ st ∧ st < 2147483648) (hsz0 : 0 ≤ sz ∧ sz < 2147483648) (hln : S 4 (-1) ≤ 2147483647 ∧ S 10 (-1) ≤ 8192) : wJ (pe_GA xs) wY0 (mS [228, 229]) (d + 11) t_XK_perform ((pe_at t_XK_perform.bl 0).getD (0, [])).2 [(0, (2, 226)), (1, (0, 0)), (2, (0, a)), (3, (0, b))] [] S (fun o Z => o = .inl none ∧ sO 226 h c p (0) (3) (st * 4294967296 + sz) S Z) := by
  obtain ⟨⟨hC, hI⟩, ⟨bc, bc0, bc1⟩, ⟨bp, bp0, bp1⟩, ⟨bh, bh0, bh1, bh2⟩, bl1, bl2, bl3⟩ := hP
  replace bp : S 231 (c - 1) = p := bp
  replace bh : S 227 2 = h := bh
  replace bh2 : h ≤ S 228 (-1) := bh2
  replace bl1 : S 229 (-1) = S 228 (-1) := bl1
  replace bl2 : 64 ≤ S 228 (-1) := bl2
  replace bl3 : S 228 (-1) ≤ 4095 := bl3
  refine wa_aload_n (n := 0) rfl ?_
  refine wb_gf4 226 rfl (wy_pr rfl) wt_226 wf_8_3 (v := 227) wl_226_3 ?_
  refine wb_gfi 227 rfl (wy_pr rfl) wt_227 wf_7_2 (v := h) (bh) (fun r1 => ?_)
  refine wa_iconst ?_
  refine wa_isub ?_
  refine wa_istore (n := 4) rfl ?_
  refine wa_iload_n (n := 1) rfl ?_
  refine wb_sw (w_rg0 (by omega) (by omega)) (tb := 1) rfl ⟨_, rfl⟩ ?_
  refine wa_aload_n (n := 0) rfl ?_
  refine wa_iload_n (n := 2) rfl ?_
  refine wa_iload_n (n := 3) rfl ?_
  refine wa_cv 226 rfl (wy_pr rfl) wt_226 (M2 := mS [228, 229]) rfl at_XK_pushConstant ⟨_, rfl⟩ rfl rfl ⟨trivial, (Or.inr ⟨wy_pr rfl, mS_no rfl⟩), trivial, trivial, trivial, trivial⟩ trivial (fun _ _ q => q) ?_ (fun _ _ _ q => q)
  refine wa_iload_n (n := 1) rfl ?_
  refine wa_iconst ?_
  refine wa_icmpne (w_rg0 (by omega) (by omega)) (w_rg0 (by omega) (by omega)) ⟨_, rfl⟩ (fun c2 => ?_) (fun c2 => ?_)
  · skip
    refine wa_iload_n (n := 1) rfl ?_
    refine wa_iconst ?_
    refine wa_icmpne (w_rg0 (by omega) (by omega)) (w_rg0 (by omega) (by omega)) ⟨_, rfl⟩ (fun c3 => ?_) (fun c3 => ?_)
    · skip
      exact absurd c3 (by omega)
    · skip
      refine wa_aload_n (n := 0) rfl ?_
      refine wa_iconst ?_
      refine wa_iconst ?_
      refine wa_aload_n (n := 0) rfl ?_
      refine wb_gf4 226 rfl (wy_pr rfl) wt_226 wf_8_0 (v := 72) wl_226_0 ?_
      refine wb_gf4 72 rfl (wy_pr rfl) wt_72 wf_2_0 (v := 2) wl_72_0 ?_
      refine wa_aload_n (n := 0) rfl ?_
      refine wb_gf4 226 rfl (wy_pr rfl) wt_226 wf_8_0 (v := 72) wl_226_0 ?_
      refine wb_gf4 72 rfl (wy_pr rfl) wt_72 wf_2_0 (v := 2) wl_72_0 ?_
      refine wb_gf4 2 rfl (wy_pr rfl) wt_2 wf_9_11 (v := 10) wl_2_11 ?_
      refine wa_iload_n (n := 2) rfl ?_
      refine wb_iald 10 rfl (wy_pr rfl) wt_10 (n := (S 10 (-1))) (rfl) (by omega) (by omega) (v := wd) (hwd) (fun r4 => ?_)
      refine wa_cv 2 rfl (wy_pr rfl) wt_2 (M2 := mS [228, 229]) rfl at_XW_sliceOf ⟨_, rfl⟩ rfl rfl ⟨(Or.inr ⟨wy_pr rfl, mS_no rfl⟩), trivial, trivial, trivial⟩ ⟨trivial, trivial, (Or.inr ⟨wy_pr rfl, mS_no rfl⟩), trivial⟩ (fun _ _ q => q) ?_ (fun _ _ _ q => q)
      refine wa_aload_n (n := 0) rfl ?_
      refine wb_gf4 2 rfl (wy_pr rfl) wt_2 wf_9_2 (v := 4) wl_2_2 ?_
      refine wa_iload_n (n := 1) rfl ?_
      refine wb_iald 4 rfl (wy_pr rfl) wt_4 (n := (S 4 (-1))) (rfl) (by omega) (by omega) (v := st) (hst) (fun r5 => ?_)
      refine wa_aload_n (n := 0) rfl ?_
      refine wb_gf4 2 rfl (wy_pr rfl) wt_2 wf_9_3 (v := 5) wl_2_3 ?_
      refine wa_iload_n (n := 1) rfl ?_
      refine wb_iald 5 rfl (wy_pr rfl) wt_5 (n := (S 4 (-1))) (hl4) (by omega) (by omega) (v := sz) (hsz) (fun r6 => ?_)
      refine wa_cs (M2 := mS [228, 229]) rfl at_X_slice ⟨_, rfl⟩ rfl rfl ⟨(Or.inr ⟨wy_pr rfl, mS_no rfl⟩), trivial, trivial⟩ trivial (fun _ _ q => q) ?_ (fun _ _ _ q => q)
      refine wa_iload_n (n := 0) rfl ?_
      refine wa_i2l (w_rg0 (by omega) (by omega)) ?_
      refine wa_bipush (w_rg2 (by omega) (by omega)) ?_
      refine wa_lshl ?_
      refine wa_iload_n (n := 1) rfl ?_
      refine wa_i2l (w_rg0 (by omega) (by omega)) ?_
      refine wa_lor ?_
      refine wa_lreturn rfl ?_
      show wJ _ _ _ _ _ _ _ _ _ _
      refine wa_lreturn rfl ?_
      show wJ _ _ _ _ _ _ _ _ _ _
      rw [sl_mk hst0 hsz0]
      have hw := sl_rg hst0 hsz0
      refine wa_cv 226 rfl (wy_pr rfl) wt_226 (M2 := mS [228, 229]) rfl at_XK_give ⟨_, rfl⟩ rfl rfl ⟨(Or.inr ⟨wy_pr rfl, mS_no rfl⟩), trivial, trivial, trivial⟩ trivial (fun _ _ q => q) (gw_226 (S := S) (n := 0) (k := 3) (v := (st * 4294967296 + sz)) (h := h) (c := c) (p := p) (ln := (S 228 (-1))) hC hI ⟨by omega, by omega⟩ ⟨by omega, by omega⟩ (bh) (bc) (bp) (rfl) (bl1) ⟨by omega, by omega⟩ ⟨by omega, by omega, by omega⟩ ⟨by omega, by omega⟩ ⟨by omega, by omega⟩) (fun oq7 Sq7 hp8 q7 => ?_)
      rcases q7 with ⟨rfl, A7, ra7, rfl⟩
      show wJ _ _ _ _ _ _ _ _ _ _
      refine wa_goto ⟨_, rfl⟩ ?_
      refine wa_return rfl ?_
      show wJ _ _ _ _ _ _ _ _ _ _
      refine wa_goto ⟨_, rfl⟩ ?_
      refine wa_return rfl ?_
      exact ⟨rfl, A7, ra7, rfl⟩
  · skip
    exact absurd c2 (by omega)
theorem z0t_215 (h : stC 215 S K) (hi : cIn S K 0 a b) (hab : (-2147483648 ≤ a ∧ a ≤ 2147483647) ∧ (-2147483648 ≤ b ∧ b ≤ 2147483647)) (ha4 : a = 4) (hX : cL 10 12 X S) (hw : wd_at S 2 1024) (hL : wd_L S 2 1024) (hV : wv_L S 2) (hb : 0 ≤ b ∧ b < (X.length : Int)) (hh : K.1.length < 2000) : cSt xs d 215 S (kP K 0 (3, 0, X.getD b.toNat [])) := by
  obtain ⟨⟨q1, q2⟩, ⟨q3, q4⟩, q5, -⟩ := (show wd_I 1024 (S 3) (S 4) (S 5) (S 6) (S 12) (S 2 1) (S 3 (-1)) (S 2 7) (S 4 (-1)) from hw)
  have l5 : S 5 (-1) = S 4 (-1) := hL.2.1
  have l4 : S 4 (-1) ≤ 2147483647 := hL.2.2.2.2.2.2.2.1
  have l3 : S 3 (-1) ≤ 2147483647 := hL.2.2.2.2.2.2.2.2
  have v1 : S 2 12 ≤ S 10 (-1) := hV.2.2.2.1
  have v2 : S 10 (-1) ≤ 8192 := hV.2.2.2.2.2.1.2
  obtain ⟨x0, x1⟩ := hX
  obtain ⟨⟨c1, c2⟩, c3, c4⟩ := x1 b.toNat (by omega)
  rw [show ((b.toNat : Nat) : Int) = b by omega] at c1 c2 c3 c4
  obtain ⟨g1, g2, g3, g4⟩ := q5 (S 10 b) c1 c2
  have es : ∀ (j : Nat) (x : Int), j ≠ 215 → (w_up S 215 16 0) j x = S j x := fun j x hj => w_up_slot hj
  have hv : cVl S 3 (S 4 (S 10 b) * 4294967296 + S 5 (S 10 b)) (3, 0, X.getD b.toNat []) := by
    refine ⟨rfl, fun q => absurd rfl q, fun _ => ⟨rfl, S 4 (S 10 b), by rw [c3], g1, (show S 4 (S 10 b) + ((X.getD b.toNat []).length : Int) ≤ S 2 1 by omega), fun i hi => ?_⟩⟩
    have := c4 i (by rw [Int.toNat_natCast]; exact hi)
    rw [this]
    show (X.getD b.toNat []).getD ((0 : Int) + (i : Int)).toNat 0 = (X.getD b.toNat []).getD i 0
    rw [show ((0 : Int) + (i : Int)).toNat = i by omega]
  exact cs_p_215 (m := 0) h hi.1 hi.2.1 hi.2.2 (by decide) (fun q => by omega) (fun x hx => hx) (by unfold mS; decide) (x0t_215 (xP_of (Or.inl rfl) h) hab ha4 ⟨hb.1, by rw [es 10 _ (by decide)]; omega⟩ (es 10 b (by decide)) ⟨c1, by rw [es 4 _ (by decide)]; omega⟩ (by rw [es 5 _ (by decide), es 4 _ (by decide)]; exact l5) (es 4 _ (by decide)) (es 5 _ (by decide)) ⟨g1, by omega⟩ ⟨g2, by omega⟩ ⟨by rw [es 4 _ (by decide)]; exact l4, by rw [es 10 _ (by decide)]; exact v2⟩) rfl (by omega) hv
theorem z0t_226 (h : stC 226 S K) (hi : cIn S K 0 a b) (hab : (-2147483648 ≤ a ∧ a ≤ 2147483647) ∧ (-2147483648 ≤ b ∧ b ≤ 2147483647)) (ha4 : a = 4) (hX : cL 10 12 X S) (hw : wd_at S 2 1024) (hL : wd_L S 2 1024) (hV : wv_L S 2) (hb : 0 ≤ b ∧ b < (X.length : Int)) (hh : K.1.length < 2000) : cSt xs d 226 S (kP K 0 (3, 0, X.getD b.toNat [])) := by
  obtain ⟨⟨q1, q2⟩, ⟨q3, q4⟩, q5, -⟩ := (show wd_I 1024 (S 3) (S 4) (S 5) (S 6) (S 12) (S 2 1) (S 3 (-1)) (S 2 7) (S 4 (-1)) from hw)
  have l5 : S 5 (-1) = S 4 (-1) := hL.2.1
  have l4 : S 4 (-1) ≤ 2147483647 := hL.2.2.2.2.2.2.2.1
  have l3 : S 3 (-1) ≤ 2147483647 := hL.2.2.2.2.2.2.2.2
  have v1 : S 2 12 ≤ S 10 (-1) := hV.2.2.2.1
  have v2 : S 10 (-1) ≤ 8192 := hV.2.2.2.2.2.1.2
  obtain ⟨x0, x1⟩ := hX
  obtain ⟨⟨c1, c2⟩, c3, c4⟩ := x1 b.toNat (by omega)
  rw [show ((b.toNat : Nat) : Int) = b by omega] at c1 c2 c3 c4
  obtain ⟨g1, g2, g3, g4⟩ := q5 (S 10 b) c1 c2
  have es : ∀ (j : Nat) (x : Int), j ≠ 226 → (w_up S 226 16 0) j x = S j x := fun j x hj => w_up_slot hj
  have hv : cVl S 3 (S 4 (S 10 b) * 4294967296 + S 5 (S 10 b)) (3, 0, X.getD b.toNat []) := by
    refine ⟨rfl, fun q => absurd rfl q, fun _ => ⟨rfl, S 4 (S 10 b), by rw [c3], g1, (show S 4 (S 10 b) + ((X.getD b.toNat []).length : Int) ≤ S 2 1 by omega), fun i hi => ?_⟩⟩
    have := c4 i (by rw [Int.toNat_natCast]; exact hi)
    rw [this]
    show (X.getD b.toNat []).getD ((0 : Int) + (i : Int)).toNat 0 = (X.getD b.toNat []).getD i 0
    rw [show ((0 : Int) + (i : Int)).toNat = i by omega]
  exact cs_p_226 (m := 0) h hi.1 hi.2.1 hi.2.2 (by decide) (fun q => by omega) (fun x hx => hx) (by unfold mS; decide) (x0t_226 (xP_of (Or.inr rfl) h) hab ha4 ⟨hb.1, by rw [es 10 _ (by decide)]; omega⟩ (es 10 b (by decide)) ⟨c1, by rw [es 4 _ (by decide)]; omega⟩ (by rw [es 5 _ (by decide), es 4 _ (by decide)]; exact l5) (es 4 _ (by decide)) (es 5 _ (by decide)) ⟨g1, by omega⟩ ⟨g2, by omega⟩ ⟨by rw [es 4 _ (by decide)]; exact l4, by rw [es 10 _ (by decide)]; exact v2⟩) rfl (by omega) hv
theorem rn0t (h : stR t S K) (hs : S 357 t = 1) (hi : rIn S K 0 a b) (hab : (-2147483648 ≤ a ∧ a ≤ 2147483647) ∧ (-2147483648 ≤ b ∧ b ≤ 2147483647)) (ha4 : a = 4) (hX : mX X S) (hb : 0 ≤ b ∧ b < (X.length : Int)) (hh : K.1.length < 2000) : rSt xs d t S (kP K 0 (3, 0, X.getD b.toNat [])) := by
  obtain ⟨x0, -, -, x1⟩ := hX
  obtain ⟨c1, c2, c3, c4⟩ := x1 b.toNat (by omega)
  rw [show ((b.toNat : Nat) : Int) = b by omega] at c1 c2
  have hv : rVl S 3 b (3, 0, X.getD b.toNat []) := ⟨rfl, fun q => absurd rfl q, fun _ => ⟨rfl, Or.inl ⟨hb.1, by omega⟩, c2, fun i hi => by rw [c1]; exact c4 i hi⟩⟩
  exact rg_v h hs hi.1 hi.2.1 hi.2.2 (by decide) (wJ_mono (y0 (mP_of h) hab (by omega)) (fun _ _ => ite_p (by omega))) (fun Z hz => by
    subst hz
    rw [if_neg (show ¬ a = 0 by omega), if_neg (show ¬ a = 3 by omega), if_pos ha4, if_neg (show ¬ a = 2 by omega), if_neg (show ¬ a = 3 by omega), if_pos ha4]
    exact rp_U h hv)
theorem rn0w (h : stR t S K) (hs : S 357 t = 1) (hi : rIn S K 0 a b) (hab : (-2147483648 ≤ a ∧ a ≤ 2147483647) ∧ (-2147483648 ≤ b ∧ b ≤ 2147483647)) (ha4 : 0 ≤ a ∧ a ≤ 4) (hh : 2000 ≤ K.1.length) : rSt xs d t S (kTh K (2, 11, [])) :=
  rx_v h hs hi.1 hi.2.1 hi.2.2 (by decide) (by decide) (wJ_mono (y0 (mP_of h) hab ha4) (fun _ _ => ite_n (by omega)))
end Wer
