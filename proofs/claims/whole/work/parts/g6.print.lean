/-! PART g6: the builtin print of the class. -/
section Wg6
variable {xs : List (Nat × List Int32)} {M : Nat → Prop} {d : Nat} {S Z A : wS} {K : aK} {k v on b : Int} {l : List Int} {w : Nat}
/-- nothing but what is shown has changed -/
def prN (S Z : wS) : Prop := (∀ (j : Nat) (x : Int), (j ≠ 157 ∨ x < 0) → (j ≠ 72 ∨ x ≠ 19) → Z j x = S j x) ∧ gI Z ∧ rmR S Z
theorem prN_s (h : shA l 64 (w_up S 72 19 64) Z) (hl : l.length ≤ 64) : prN S Z := by
  obtain ⟨-, -, h3, h4, h5⟩ := h
  exact ⟨fun j x j0 j1 => (h3 j x (by omega) j1).trans (w_up_no (by omega)), h4, rmR_tr (rmR_up (rmR_rfl S) (by first | decide | omega) (by first | decide | omega)) h5⟩
theorem prN_t (hI : gI S) : prN S (w_up S 72 19 64) := ⟨fun j x _ j1 => w_up_no (by omega), gI_up hI (by first | decide | omega) (by first | decide | omega) (by first | decide | omega), rmR_up (rmR_rfl S) (by first | decide | omega) (by first | decide | omega)⟩
theorem co_cl (hC : w_CL S) (h : coA on l S Z) : w_CL Z := fun q hq => by
  have hg : wG = 1000000 := rfl
  have h1 : ∀ q ∈ wz_n, q.1 < 237 ∧ q.1 ≠ 151 := by decide
  exact (h.2.2.2.2.1 q.1 (-1) (by have := (h1 q hq).1; omega) (by have := (h1 q hq).1; omega) (h1 q hq).2 (Or.inr (by first | decide | omega)) (Or.inr (by first | decide | omega))).trans (hC q hq)
theorem xb0_215 {c p h ky vy : Int} (hP : xP 215 c p h S) (hky : S 217 (h - 1) = ky) (hvy : S 218 (h - 1) = vy) (hh1 : 1 ≤ h) (hpr : wJ (pe_GA xs) wY0 (mS [151]) (d + 9) t_XH_print ((pe_at t_XH_print.bl 0).getD (0, [])).2 [(0, (2, 72)), (1, (0, ky)), (2, (1, vy))] [] S (fun o Z => (65536 < on + (l.length : Int) + 1 ∧ o = .inl (some (0, 0)) ∧ prN S Z) ∨ (on + (l.length : Int) + 1 ≤ 65536 ∧ o = .inl (some (0, 1)) ∧ coA on l S Z))) : wJ (pe_GA xs) wY0 (mS [217, 218, 151]) (d + 11) t_XK_callBuiltin ((pe_at t_XK_callBuiltin.bl 0).getD (0, [])).2 [(0, (2, 215)), (1, (0, 0))] [] S (fun o Z => o = .inl none ∧ ((65536 < on + (l.length : Int) + 1 ∧ ∃ A : wS, prN S A ∧ w_up A 215 16 99 = Z) ∨ (on + (l.length : Int) + 1 ≤ 65536 ∧ ∃ A : wS, coA on l S A ∧ sO 215 h c p 1 0 0 A Z))) := by
  obtain ⟨⟨hC, hI⟩, ⟨bc, bc0, bc1⟩, ⟨bp, bp0, bp1⟩, ⟨bh, bh0, bh1, bh2⟩, bl1, bl2, bl3⟩ := hP
  replace bp : S 220 (c - 1) = p := bp
  replace bh : S 216 2 = h := bh
  replace bh2 : h ≤ S 217 (-1) := bh2
  replace bl1 : S 218 (-1) = S 217 (-1) := bl1
  replace bl2 : 64 ≤ S 217 (-1) := bl2
  replace bl3 : S 217 (-1) ≤ 4095 := bl3
  have hg : wG = 1000000 := rfl
  refine wa_aload_n (n := 0) rfl ?_
  refine wb_gf4 215 rfl (wy_pr rfl) wt_215 wf_8_3 (v := 216) wl_215_3 ?_
  refine wb_gfi 216 rfl (wy_pr rfl) wt_216 wf_7_2 (v := h) (bh) (fun r1 => ?_)
  refine wa_iconst ?_
  refine wa_isub ?_
  refine wa_istore_n (n := 2) rfl ?_
  refine wa_aload_n (n := 0) rfl ?_
  refine wb_gf4 215 rfl (wy_pr rfl) wt_215 wf_8_3 (v := 216) wl_215_3 ?_
  refine wb_gf4 216 rfl (wy_pr rfl) wt_216 wf_7_0 (v := 217) wl_216_0 ?_
  refine wa_iload_n (n := 2) rfl ?_
  refine wb_bald 217 rfl (wy_pr rfl) wt_217 (n := (S 217 (-1))) (rfl) (by omega) (by omega) (v := ky) (hky) (fun r2 => ?_)
  refine wa_istore_n (n := 3) rfl ?_
  refine wa_aload_n (n := 0) rfl ?_
  refine wb_gf4 215 rfl (wy_pr rfl) wt_215 wf_8_3 (v := 216) wl_215_3 ?_
  refine wb_gf4 216 rfl (wy_pr rfl) wt_216 wf_7_1 (v := 218) wl_216_1 ?_
  refine wa_iload_n (n := 2) rfl ?_
  refine wb_lald 218 rfl (wy_pr rfl) wt_218 (n := (S 217 (-1))) (bl1) (by omega) (by omega) (v := vy) (hvy) (fun r3 => ?_)
  refine wa_lstore (n := 4) rfl ?_
  refine wa_iload_n (n := 1) rfl ?_
  refine wb_sw (w_rg0 (by omega) (by omega)) (tb := 1) rfl ⟨_, rfl⟩ ?_
  refine wa_aload_n (n := 0) rfl ?_
  refine wa_iload_n (n := 3) rfl ?_
  refine wa_lload (n := 4) rfl ?_
  refine wa_cv 215 rfl (wy_pr rfl) wt_215 (M2 := mS [217, 218, 151]) rfl at_XK_print ⟨_, rfl⟩ rfl rfl ⟨trivial, trivial, trivial, (Or.inr ⟨wy_pr rfl, mS_no rfl⟩), trivial, trivial⟩ trivial (fun _ _ q => q) ?_ (fun _ _ _ q => q)
  refine wa_aload_n (n := 0) rfl ?_
  refine wb_gf4 215 rfl (wy_pr rfl) wt_215 wf_8_0 (v := 72) wl_215_0 ?_
  refine wa_iload_n (n := 1) rfl ?_
  refine wa_lload_n (n := 2) rfl ?_
  refine wa_cv 72 rfl (wy_pr rfl) wt_72 (M2 := mS [151]) rfl at_XH_print ⟨_, rfl⟩ rfl rfl ⟨(Or.inr ⟨wy_pr rfl, mS_no rfl⟩), trivial, trivial, trivial⟩ trivial (fun _ _ q => mS_sub (by decide) q) (hpr) (fun oq4 Sq4 hp5 q4 => ?_)
  rcases q4 with ⟨hno, rfl, hpn⟩ | ⟨hyes, rfl, hco⟩
  · skip
    show wJ _ _ _ _ _ _ _ _ _ _
    refine wa_ifeq (w_rg0 (by omega) (by omega)) ⟨_, rfl⟩ (fun c6 => ?_) (fun c6 => ?_)
    · skip
      refine wa_aload_n (n := 0) rfl ?_
      refine wa_bipush (w_rg2 (by omega) (by omega)) ?_
      refine wb_pfi 215 rfl (wy_pr rfl) wt_215 wf_8_16 (n := 16) rfl ⟨(by omega), (by omega)⟩ ?_
      refine wa_fall ⟨_, rfl⟩ ?_
      refine wa_return rfl ?_
      show wJ _ _ _ _ _ _ _ _ _ _
      refine wa_goto ⟨_, rfl⟩ ?_
      refine wa_return rfl ?_
      exact ⟨rfl, Or.inl ⟨hno, Sq4, hpn, rfl⟩⟩
    · skip
      exact absurd c6 (by omega)
  · skip
    show wJ _ _ _ _ _ _ _ _ _ _
    refine wa_ifeq (w_rg0 (by omega) (by omega)) ⟨_, rfl⟩ (fun c7 => ?_) (fun c7 => ?_)
    · skip
      exact absurd c7 (by omega)
    · skip
      refine wa_aload_n (n := 0) rfl ?_
      refine wa_iconst ?_
      refine wa_iconst ?_
      refine wb_lconst (m := 0) rfl ?_
      refine wa_cv 215 rfl (wy_pr rfl) wt_215 (M2 := mS [217, 218]) rfl at_XK_give ⟨_, rfl⟩ rfl rfl ⟨(Or.inr ⟨wy_pr rfl, mS_no rfl⟩), trivial, trivial, trivial⟩ trivial (fun _ _ q => mS_sub (by decide) q) (gw_215 (S := Sq4) (n := 1) (k := 0) (v := 0) (h := h) (c := c) (p := p) (ln := (S 217 (-1))) (co_cl hC hco) hco.2.2.2.2.2.2.1 ⟨by omega, by omega⟩ ⟨by omega, by omega⟩ (((hco.2.2.2.2.1 216 2 (by decide) (by decide) (by decide) (Or.inl (by decide)) (Or.inl (by decide))).trans (bh))) (((hco.2.2.2.2.1 215 4 (by decide) (by decide) (by decide) (Or.inl (by decide)) (Or.inl (by decide))).trans (bc))) (((hco.2.2.2.2.1 220 (c - 1) (by decide) (by decide) (by decide) (Or.inl (by decide)) (Or.inl (by decide))).trans (bp))) (((hco.2.2.2.2.1 217 (-1) (by decide) (by decide) (by decide) (Or.inl (by decide)) (Or.inl (by decide))).trans (rfl))) (((hco.2.2.2.2.1 218 (-1) (by decide) (by decide) (by decide) (Or.inl (by decide)) (Or.inl (by decide))).trans (bl1))) ⟨by omega, by omega⟩ ⟨by omega, by omega, by omega⟩ ⟨by omega, by omega⟩ ⟨by omega, by omega⟩) (fun oq8 Sq8 hp9 q8 => ?_)
      rcases q8 with ⟨rfl, A8, ra8, rfl⟩
      show wJ _ _ _ _ _ _ _ _ _ _
      refine wa_goto ⟨_, rfl⟩ ?_
      refine wa_return rfl ?_
      show wJ _ _ _ _ _ _ _ _ _ _
      refine wa_goto ⟨_, rfl⟩ ?_
      refine wa_return rfl ?_
      exact ⟨rfl, Or.inr ⟨hyes, Sq4, hco, A8, ra8, rfl⟩⟩
theorem xb0_226 {c p h ky vy : Int} (hP : xP 226 c p h S) (hky : S 228 (h - 1) = ky) (hvy : S 229 (h - 1) = vy) (hh1 : 1 ≤ h) (hpr : wJ (pe_GA xs) wY0 (mS [151]) (d + 9) t_XH_print ((pe_at t_XH_print.bl 0).getD (0, [])).2 [(0, (2, 72)), (1, (0, ky)), (2, (1, vy))] [] S (fun o Z => (65536 < on + (l.length : Int) + 1 ∧ o = .inl (some (0, 0)) ∧ prN S Z) ∨ (on + (l.length : Int) + 1 ≤ 65536 ∧ o = .inl (some (0, 1)) ∧ coA on l S Z))) : wJ (pe_GA xs) wY0 (mS [228, 229, 151]) (d + 11) t_XK_callBuiltin ((pe_at t_XK_callBuiltin.bl 0).getD (0, [])).2 [(0, (2, 226)), (1, (0, 0))] [] S (fun o Z => o = .inl none ∧ ((65536 < on + (l.length : Int) + 1 ∧ ∃ A : wS, prN S A ∧ w_up A 226 16 99 = Z) ∨ (on + (l.length : Int) + 1 ≤ 65536 ∧ ∃ A : wS, coA on l S A ∧ sO 226 h c p 1 0 0 A Z))) := by
  obtain ⟨⟨hC, hI⟩, ⟨bc, bc0, bc1⟩, ⟨bp, bp0, bp1⟩, ⟨bh, bh0, bh1, bh2⟩, bl1, bl2, bl3⟩ := hP
  replace bp : S 231 (c - 1) = p := bp
  replace bh : S 227 2 = h := bh
  replace bh2 : h ≤ S 228 (-1) := bh2
  replace bl1 : S 229 (-1) = S 228 (-1) := bl1
  replace bl2 : 64 ≤ S 228 (-1) := bl2
  replace bl3 : S 228 (-1) ≤ 4095 := bl3
  have hg : wG = 1000000 := rfl
  refine wa_aload_n (n := 0) rfl ?_
  refine wb_gf4 226 rfl (wy_pr rfl) wt_226 wf_8_3 (v := 227) wl_226_3 ?_
  refine wb_gfi 227 rfl (wy_pr rfl) wt_227 wf_7_2 (v := h) (bh) (fun r1 => ?_)
  refine wa_iconst ?_
  refine wa_isub ?_
  refine wa_istore_n (n := 2) rfl ?_
  refine wa_aload_n (n := 0) rfl ?_
  refine wb_gf4 226 rfl (wy_pr rfl) wt_226 wf_8_3 (v := 227) wl_226_3 ?_
  refine wb_gf4 227 rfl (wy_pr rfl) wt_227 wf_7_0 (v := 228) wl_227_0 ?_
  refine wa_iload_n (n := 2) rfl ?_
  refine wb_bald 228 rfl (wy_pr rfl) wt_228 (n := (S 228 (-1))) (rfl) (by omega) (by omega) (v := ky) (hky) (fun r2 => ?_)
  refine wa_istore_n (n := 3) rfl ?_
  refine wa_aload_n (n := 0) rfl ?_
  refine wb_gf4 226 rfl (wy_pr rfl) wt_226 wf_8_3 (v := 227) wl_226_3 ?_
  refine wb_gf4 227 rfl (wy_pr rfl) wt_227 wf_7_1 (v := 229) wl_227_1 ?_
  refine wa_iload_n (n := 2) rfl ?_
  refine wb_lald 229 rfl (wy_pr rfl) wt_229 (n := (S 228 (-1))) (bl1) (by omega) (by omega) (v := vy) (hvy) (fun r3 => ?_)
  refine wa_lstore (n := 4) rfl ?_
  refine wa_iload_n (n := 1) rfl ?_
  refine wb_sw (w_rg0 (by omega) (by omega)) (tb := 1) rfl ⟨_, rfl⟩ ?_
  refine wa_aload_n (n := 0) rfl ?_
  refine wa_iload_n (n := 3) rfl ?_
  refine wa_lload (n := 4) rfl ?_
  refine wa_cv 226 rfl (wy_pr rfl) wt_226 (M2 := mS [228, 229, 151]) rfl at_XK_print ⟨_, rfl⟩ rfl rfl ⟨trivial, trivial, trivial, (Or.inr ⟨wy_pr rfl, mS_no rfl⟩), trivial, trivial⟩ trivial (fun _ _ q => q) ?_ (fun _ _ _ q => q)
  refine wa_aload_n (n := 0) rfl ?_
  refine wb_gf4 226 rfl (wy_pr rfl) wt_226 wf_8_0 (v := 72) wl_226_0 ?_
  refine wa_iload_n (n := 1) rfl ?_
  refine wa_lload_n (n := 2) rfl ?_
  refine wa_cv 72 rfl (wy_pr rfl) wt_72 (M2 := mS [151]) rfl at_XH_print ⟨_, rfl⟩ rfl rfl ⟨(Or.inr ⟨wy_pr rfl, mS_no rfl⟩), trivial, trivial, trivial⟩ trivial (fun _ _ q => mS_sub (by decide) q) (hpr) (fun oq4 Sq4 hp5 q4 => ?_)
  rcases q4 with ⟨hno, rfl, hpn⟩ | ⟨hyes, rfl, hco⟩
  · skip
    show wJ _ _ _ _ _ _ _ _ _ _
    refine wa_ifeq (w_rg0 (by omega) (by omega)) ⟨_, rfl⟩ (fun c6 => ?_) (fun c6 => ?_)
    · skip
      refine wa_aload_n (n := 0) rfl ?_
      refine wa_bipush (w_rg2 (by omega) (by omega)) ?_
      refine wb_pfi 226 rfl (wy_pr rfl) wt_226 wf_8_16 (n := 16) rfl ⟨(by omega), (by omega)⟩ ?_
      refine wa_fall ⟨_, rfl⟩ ?_
      refine wa_return rfl ?_
      show wJ _ _ _ _ _ _ _ _ _ _
      refine wa_goto ⟨_, rfl⟩ ?_
      refine wa_return rfl ?_
      exact ⟨rfl, Or.inl ⟨hno, Sq4, hpn, rfl⟩⟩
    · skip
      exact absurd c6 (by omega)
  · skip
    show wJ _ _ _ _ _ _ _ _ _ _
    refine wa_ifeq (w_rg0 (by omega) (by omega)) ⟨_, rfl⟩ (fun c7 => ?_) (fun c7 => ?_)
    · skip
      exact absurd c7 (by omega)
    · skip
      refine wa_aload_n (n := 0) rfl ?_
      refine wa_iconst ?_
      refine wa_iconst ?_
      refine wb_lconst (m := 0) rfl ?_
      refine wa_cv 226 rfl (wy_pr rfl) wt_226 (M2 := mS [228, 229]) rfl at_XK_give ⟨_, rfl⟩ rfl rfl ⟨(Or.inr ⟨wy_pr rfl, mS_no rfl⟩), trivial, trivial, trivial⟩ trivial (fun _ _ q => mS_sub (by decide) q) (gw_226 (S := Sq4) (n := 1) (k := 0) (v := 0) (h := h) (c := c) (p := p) (ln := (S 228 (-1))) (co_cl hC hco) hco.2.2.2.2.2.2.1 ⟨by omega, by omega⟩ ⟨by omega, by omega⟩ (((hco.2.2.2.2.1 227 2 (by decide) (by decide) (by decide) (Or.inl (by decide)) (Or.inl (by decide))).trans (bh))) (((hco.2.2.2.2.1 226 4 (by decide) (by decide) (by decide) (Or.inl (by decide)) (Or.inl (by decide))).trans (bc))) (((hco.2.2.2.2.1 231 (c - 1) (by decide) (by decide) (by decide) (Or.inl (by decide)) (Or.inl (by decide))).trans (bp))) (((hco.2.2.2.2.1 228 (-1) (by decide) (by decide) (by decide) (Or.inl (by decide)) (Or.inl (by decide))).trans (rfl))) (((hco.2.2.2.2.1 229 (-1) (by decide) (by decide) (by decide) (Or.inl (by decide)) (Or.inl (by decide))).trans (bl1))) ⟨by omega, by omega⟩ ⟨by omega, by omega, by omega⟩ ⟨by omega, by omega⟩ ⟨by omega, by omega⟩) (fun oq8 Sq8 hp9 q8 => ?_)
      rcases q8 with ⟨rfl, A8, ra8, rfl⟩
      show wJ _ _ _ _ _ _ _ _ _ _
      refine wa_goto ⟨_, rfl⟩ ?_
      refine wa_return rfl ?_
      show wJ _ _ _ _ _ _ _ _ _ _
      refine wa_goto ⟨_, rfl⟩ ?_
      refine wa_return rfl ?_
      exact ⟨rfl, Or.inr ⟨hyes, Sq4, hco, A8, ra8, rfl⟩⟩
end Wg6
