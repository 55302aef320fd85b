/-! PART dx: instructions of the class: TRY, RETURN. -/
section Wdx
variable {xs : List (Nat × List Int32)} {d : Nat} {S Z A B : wS}
/-- the row of tries has room for one more -/
def tr_ag (w : Nat) (z : Int) (S A : wS) : Prop := (∀ i : Int, 0 ≤ i → i < z → A (w + 10) i = S (w + 10) i) ∧ (∀ (j : Nat) (i : Int), j < 4000000 → j ≠ wG → j ≠ w + 10 → A j i = S j i) ∧ (z + 3 ≤ A (w + 10) (-1) ∧ S (w + 10) (-1) ≤ A (w + 10) (-1) ∧ A (w + 10) (-1) ≤ 60000) ∧ gI A ∧ rmR S A
/-- tries of one call are forgotten -/
def td (B : Int → Int) (c : Int) : Nat → Int → Int
  | 0, z => z
  | f + 1, z => if 0 < z ∧ B (z - 3) = c then td B c f (z - 3) else z
theorem w_up_up {S : wS} {j : Nat} {i x y : Int} : w_up (w_up S j i x) j i y = w_up S j i y := by
  funext k n
  unfold w_up
  split <;> rfl
theorem w_up_eta {S : wS} {j : Nat} {i x : Int} (h : S j i = x) : S = w_up S j i x := by
  funext k n
  unfold w_up
  split
  · rename_i q; rw [q.1, q.2, h]
  · rfl
theorem x31_215 {c p h a b z : Int} (hP : xP 215 c p h S) (hab : (-2147483648 ≤ a ∧ a ≤ 2147483647) ∧ (-2147483648 ≤ b ∧ b ≤ 2147483647)) (bz : S 215 12 = z) (bz0 : 0 ≤ z ∧ z ≤ 29997 ∧ z ≤ S 225 (-1)) (bz1 : 48 ≤ S 225 (-1) ∧ S 225 (-1) ≤ 60000) : wJ (pe_GA xs) wY0 (mS [225]) (d + 11) t_XK_perform ((pe_at t_XK_perform.bl 0).getD (0, [])).2 [(0, (2, 215)), (1, (0, 31)), (2, (0, a)), (3, (0, b))] [] S (fun o Z => o = .inl none ∧ ∃ A : wS, tr_ag 215 z S A ∧ w_up (w_up (w_up (w_up (w_up A 225 z c) 225 (z + 1) a) 225 (z + 2) h) 215 12 (z + 3)) 220 (c - 1) (p + 1) = Z) := by
  obtain ⟨⟨hC, hI⟩, ⟨bc, bc0, bc1⟩, ⟨bp, bp0, bp1⟩, ⟨bh, bh0, bh1, bh2⟩, bl1, bl2, bl3⟩ := hP
  replace bp : S 220 (c - 1) = p := bp
  replace bh : S 216 2 = h := bh
  replace bh2 : h ≤ S 217 (-1) := bh2
  replace bl1 : S 218 (-1) = S 217 (-1) := bl1
  replace bl2 : 64 ≤ S 217 (-1) := bl2
  replace bl3 : S 217 (-1) ≤ 4095 := bl3
  have hRm := rmR_rfl S
  refine wa_aload_n (n := 0) rfl ?_
  refine wb_gf4 215 rfl (wy_pr rfl) wt_215 wf_8_3 (v := 216) wl_215_3 ?_
  refine wb_gfi 216 rfl (wy_pr rfl) wt_216 wf_7_2 (v := h) (bh) (fun r1 => ?_)
  refine wa_iconst ?_
  refine wa_isub ?_
  refine wa_istore (n := 4) rfl ?_
  refine wa_iload_n (n := 1) rfl ?_
  refine wb_sw (w_rg0 (by omega) (by omega)) (tb := 12) rfl ⟨_, rfl⟩ ?_
  refine wa_aload_n (n := 0) rfl ?_
  refine wa_iload_n (n := 1) rfl ?_
  refine wa_iload_n (n := 2) rfl ?_
  refine wa_cv 215 rfl (wy_pr rfl) wt_215 (M2 := mS [225]) rfl at_XK_goOn ⟨_, rfl⟩ rfl rfl ⟨trivial, (Or.inr ⟨wy_pr rfl, mS_no rfl⟩), trivial, trivial, trivial, trivial⟩ trivial (fun _ _ q => q) ?_ (fun _ _ _ q => q)
  refine wa_aload_n (n := 0) rfl ?_
  refine wb_gf4 215 rfl (wy_pr rfl) wt_215 wf_8_3 (v := 216) wl_215_3 ?_
  refine wb_gfi 216 rfl (wy_pr rfl) wt_216 wf_7_2 (v := h) (bh) (fun r2 => ?_)
  refine wa_iconst ?_
  refine wa_isub ?_
  refine wa_istore_n (n := 3) rfl ?_
  refine wa_aload_n (n := 0) rfl ?_
  refine wb_gfi 215 rfl (wy_pr rfl) wt_215 wf_8_4 (v := c) (bc) (fun r3 => ?_)
  refine wa_iconst ?_
  refine wa_isub ?_
  refine wa_istore (n := 4) rfl ?_
  refine wa_iload_n (n := 1) rfl ?_
  refine wb_sw (w_rg0 (by omega) (by omega)) (tb := 11) rfl ⟨_, rfl⟩ ?_
  refine wa_aload_n (n := 0) rfl ?_
  refine wa_iload_n (n := 2) rfl ?_
  refine wa_cv 215 rfl (wy_pr rfl) wt_215 (M2 := mS [225]) rfl at_XK_noteTry ⟨_, rfl⟩ rfl rfl ⟨trivial, trivial, (Or.inr ⟨wy_pr rfl, mS_no rfl⟩), trivial, trivial, trivial⟩ trivial (fun _ _ q => q) ?_ (fun _ _ _ q => q)
  refine wa_aload_n (n := 0) rfl ?_
  refine wb_gfi 215 rfl (wy_pr rfl) wt_215 wf_8_12 (v := z) (bz) (fun r4 => ?_)
  refine wa_iconst ?_
  refine wa_iadd ?_
  refine wa_aload_n (n := 0) rfl ?_
  refine wb_gf4 215 rfl (wy_pr rfl) wt_215 wf_8_11 (v := 225) wl_215_11 ?_
  refine wb_alen 225 rfl (wy_pr rfl) (by rw [wt_225]; rfl) (v := (S 225 (-1))) (rfl) (fun r5 => ?_)
  refine wa_icmple (w_rg0 (by omega) (by omega)) (w_rg0 (by omega) (by omega)) ⟨_, rfl⟩ (fun c6 => ?_) (fun c6 => ?_)
  · skip
    refine wa_aload_n (n := 0) rfl ?_
    refine wb_gf4 215 rfl (wy_pr rfl) wt_215 wf_8_11 (v := 225) wl_215_11 ?_
    refine wa_aload_n (n := 0) rfl ?_
    refine wb_gfi 215 rfl (wy_pr rfl) wt_215 wf_8_12 (v := z) (bz) (fun r7 => ?_)
    refine wa_aload_n (n := 0) rfl ?_
    refine wb_gfi 215 rfl (wy_pr rfl) wt_215 wf_8_4 (v := c) (bc) (fun r8 => ?_)
    refine wb_iast 225 rfl (wy_pr rfl) wt_225 (n := (S 225 (-1))) (rfl) (by omega) (by omega) ⟨(by omega), (by omega)⟩ ?_
    refine wa_aload_n (n := 0) rfl ?_
    refine wb_gf4 215 rfl (wy_pr rfl) wt_215 wf_8_11 (v := 225) wl_215_11 ?_
    refine wa_aload_n (n := 0) rfl ?_
    refine wb_gfi 215 rfl (wy_pr rfl) wt_215 wf_8_12 (v := z) ((w_up_slot (by decide)).trans (bz)) (fun r9 => ?_)
    refine wa_iconst ?_
    refine wa_iadd ?_
    refine wa_iload_n (n := 1) rfl ?_
    refine wb_iast 225 rfl (wy_pr rfl) wt_225 (n := (S 225 (-1))) ((w_up_at (by omega)).trans (rfl)) (by omega) (by omega) ⟨(by omega), (by omega)⟩ ?_
    refine wa_aload_n (n := 0) rfl ?_
    refine wb_gf4 215 rfl (wy_pr rfl) wt_215 wf_8_11 (v := 225) wl_215_11 ?_
    refine wa_aload_n (n := 0) rfl ?_
    refine wb_gfi 215 rfl (wy_pr rfl) wt_215 wf_8_12 (v := z) ((w_up_slot (by decide)).trans ((w_up_slot (by decide)).trans (bz))) (fun r10 => ?_)
    refine wa_iconst ?_
    refine wa_iadd ?_
    refine wa_aload_n (n := 0) rfl ?_
    refine wb_gf4 215 rfl (wy_pr rfl) wt_215 wf_8_3 (v := 216) wl_215_3 ?_
    refine wb_gfi 216 rfl (wy_pr rfl) wt_216 wf_7_2 (v := h) ((w_up_slot (by decide)).trans ((w_up_slot (by decide)).trans (bh))) (fun r11 => ?_)
    refine wb_iast 225 rfl (wy_pr rfl) wt_225 (n := (S 225 (-1))) ((w_up_at (by omega)).trans ((w_up_at (by omega)).trans (rfl))) (by omega) (by omega) ⟨(by omega), (by omega)⟩ ?_
    refine wa_aload_n (n := 0) rfl ?_
    refine wa_dup (by decide) ?_
    refine wb_gfi 215 rfl (wy_pr rfl) wt_215 wf_8_12 (v := z) ((w_up_slot (by decide)).trans ((w_up_slot (by decide)).trans ((w_up_slot (by decide)).trans (bz)))) (fun r12 => ?_)
    refine wa_iconst ?_
    refine wa_iadd ?_
    refine wb_pfi 215 rfl (wy_pr rfl) wt_215 wf_8_12 (n := 12) rfl ⟨(by omega), (by omega)⟩ ?_
    refine wa_return rfl ?_
    show wJ _ _ _ _ _ _ _ _ _ _
    refine wa_aload_n (n := 0) rfl ?_
    refine wb_gf4 215 rfl (wy_pr rfl) wt_215 wf_8_6 (v := 220) wl_215_6 ?_
    refine wa_iload (n := 4) rfl ?_
    refine wa_dup2 (by decide) (by decide) ?_
    refine wb_iald 220 rfl (wy_pr rfl) wt_220 (n := 200) ((w_up_slot (by decide)).trans ((w_up_slot (by decide)).trans ((w_up_slot (by decide)).trans ((w_up_slot (by decide)).trans ((cl_220 hC)))))) (by omega) (by omega) (v := p) ((w_up_slot (by decide)).trans ((w_up_slot (by decide)).trans ((w_up_slot (by decide)).trans ((w_up_slot (by decide)).trans (bp))))) (fun r13 => ?_)
    refine wa_iconst ?_
    refine wa_iadd ?_
    refine wb_iast 220 rfl (wy_pr rfl) wt_220 (n := 200) ((w_up_slot (by decide)).trans ((w_up_slot (by decide)).trans ((w_up_slot (by decide)).trans ((w_up_slot (by decide)).trans ((cl_220 hC)))))) (by omega) (by omega) ⟨(by omega), (by omega)⟩ ?_
    refine wa_goto ⟨_, rfl⟩ ?_
    refine wa_return rfl ?_
    show wJ _ _ _ _ _ _ _ _ _ _
    refine wa_fall ⟨_, rfl⟩ ?_
    refine wa_return rfl ?_
    exact ⟨rfl, S, ⟨fun _ _ _ => rfl, fun _ _ _ _ _ => rfl, ⟨by show z + 3 ≤ S 225 (-1); omega, by show S 225 (-1) ≤ S 225 (-1); omega, by show S 225 (-1) ≤ 60000; omega⟩, hI, hRm⟩, rfl⟩
  · skip
    refine wa_aload_n (n := 0) rfl ?_
    refine wa_aload_n (n := 0) rfl ?_
    refine wb_gf4 215 rfl (wy_pr rfl) wt_215 wf_8_11 (v := 225) wl_215_11 ?_
    refine wa_aload_n (n := 0) rfl ?_
    refine wb_gf4 215 rfl (wy_pr rfl) wt_215 wf_8_11 (v := 225) wl_215_11 ?_
    refine wb_alen 225 rfl (wy_pr rfl) (by rw [wt_225]; rfl) (v := (S 225 (-1))) (rfl) (fun r14 => ?_)
    refine wa_iconst ?_
    refine wa_imul ?_
    refine wa_cs (M2 := fun _ => False) rfl at_JA_copyOf_2 ⟨_, rfl⟩ rfl rfl ⟨(Or.inr ⟨wy_pr rfl, fun q => q⟩), trivial, trivial⟩ ⟨(Or.inr ⟨wy_pr rfl, fun q => q⟩), trivial⟩ (fun _ _ q => False.elim q) (cp_I (S := S) (a := 225) (n := ((S 225 (-1)) * 2)) (len := (S 225 (-1))) (wy_pr rfl) wt_225 (rfl) ⟨by omega, by omega, by omega⟩) (fun oq15 Sq15 _ q15 => ?_)
    rcases q15 with ⟨rfl, rfl⟩
    show wJ _ _ _ _ _ _ _ _ _ _
    refine wg_pf (S := S) (len := (S 225 (-1))) 0 215 225 rfl rfl rfl wt_215 wf_8_11 wl_215_11 (by decide +kernel) wt_225 (by decide) (by decide +kernel) hI (fun q => absurd q (by decide)) (by decide) ⟨by omega, by omega⟩ (rfl) (fun _ => ⟨Or.inr (by decide), Or.inl (nN_ge _)⟩) ⟨(Or.inr ⟨wy_pr rfl, mS_no rfl⟩), trivial, trivial⟩ trivial (fun Z16 g17 gi18 => ?_)
    have rm19 := rmR_gr hRm g17 (by decide +kernel) (len := (S 225 (-1))) (rfl) ⟨by omega, by omega⟩ ⟨fun q => by first | omega | exact absurd q (by decide), by show _ ≤ (100000000 : Int); omega⟩
    refine wa_fall ⟨_, rfl⟩ ?_
    refine wa_aload_n (n := 0) rfl ?_
    refine wb_gf4 215 rfl (wy_pr rfl) wt_215 wf_8_11 (v := 225) wl_215_11 ?_
    refine wa_aload_n (n := 0) rfl ?_
    refine wb_gfi 215 rfl (wy_pr rfl) wt_215 wf_8_12 (v := z) (((congrFun (g17.2.2.1 215 (by decide) (by decide) (by decide)) 12).trans (bz))) (fun r20 => ?_)
    refine wa_aload_n (n := 0) rfl ?_
    refine wb_gfi 215 rfl (wy_pr rfl) wt_215 wf_8_4 (v := c) (((congrFun (g17.2.2.1 215 (by decide) (by decide) (by decide)) 4).trans (bc))) (fun r21 => ?_)
    refine wb_iast 225 rfl (wy_pr rfl) wt_225 (n := ((S 225 (-1)) * 2)) (g17.1) (by omega) (by omega) ⟨(by omega), (by omega)⟩ ?_
    refine wa_aload_n (n := 0) rfl ?_
    refine wb_gf4 215 rfl (wy_pr rfl) wt_215 wf_8_11 (v := 225) wl_215_11 ?_
    refine wa_aload_n (n := 0) rfl ?_
    refine wb_gfi 215 rfl (wy_pr rfl) wt_215 wf_8_12 (v := z) ((w_up_slot (by decide)).trans (((congrFun (g17.2.2.1 215 (by decide) (by decide) (by decide)) 12).trans (bz)))) (fun r22 => ?_)
    refine wa_iconst ?_
    refine wa_iadd ?_
    refine wa_iload_n (n := 1) rfl ?_
    refine wb_iast 225 rfl (wy_pr rfl) wt_225 (n := ((S 225 (-1)) * 2)) ((w_up_at (by omega)).trans (g17.1)) (by omega) (by omega) ⟨(by omega), (by omega)⟩ ?_
    refine wa_aload_n (n := 0) rfl ?_
    refine wb_gf4 215 rfl (wy_pr rfl) wt_215 wf_8_11 (v := 225) wl_215_11 ?_
    refine wa_aload_n (n := 0) rfl ?_
    refine wb_gfi 215 rfl (wy_pr rfl) wt_215 wf_8_12 (v := z) ((w_up_slot (by decide)).trans ((w_up_slot (by decide)).trans (((congrFun (g17.2.2.1 215 (by decide) (by decide) (by decide)) 12).trans (bz))))) (fun r23 => ?_)
    refine wa_iconst ?_
    refine wa_iadd ?_
    refine wa_aload_n (n := 0) rfl ?_
    refine wb_gf4 215 rfl (wy_pr rfl) wt_215 wf_8_3 (v := 216) wl_215_3 ?_
    refine wb_gfi 216 rfl (wy_pr rfl) wt_216 wf_7_2 (v := h) ((w_up_slot (by decide)).trans ((w_up_slot (by decide)).trans (((congrFun (g17.2.2.1 216 (by decide) (by decide) (by decide)) 2).trans (bh))))) (fun r24 => ?_)
    refine wb_iast 225 rfl (wy_pr rfl) wt_225 (n := ((S 225 (-1)) * 2)) ((w_up_at (by omega)).trans ((w_up_at (by omega)).trans (g17.1))) (by omega) (by omega) ⟨(by omega), (by omega)⟩ ?_
    refine wa_aload_n (n := 0) rfl ?_
    refine wa_dup (by decide) ?_
    refine wb_gfi 215 rfl (wy_pr rfl) wt_215 wf_8_12 (v := z) ((w_up_slot (by decide)).trans ((w_up_slot (by decide)).trans ((w_up_slot (by decide)).trans (((congrFun (g17.2.2.1 215 (by decide) (by decide) (by decide)) 12).trans (bz)))))) (fun r25 => ?_)
    refine wa_iconst ?_
    refine wa_iadd ?_
    refine wb_pfi 215 rfl (wy_pr rfl) wt_215 wf_8_12 (n := 12) rfl ⟨(by omega), (by omega)⟩ ?_
    refine wa_return rfl ?_
    show wJ _ _ _ _ _ _ _ _ _ _
    refine wa_aload_n (n := 0) rfl ?_
    refine wb_gf4 215 rfl (wy_pr rfl) wt_215 wf_8_6 (v := 220) wl_215_6 ?_
    refine wa_iload (n := 4) rfl ?_
    refine wa_dup2 (by decide) (by decide) ?_
    refine wb_iald 220 rfl (wy_pr rfl) wt_220 (n := 200) ((w_up_slot (by decide)).trans ((w_up_slot (by decide)).trans ((w_up_slot (by decide)).trans ((w_up_slot (by decide)).trans (((congrFun (g17.2.2.1 220 (by decide) (by decide) (by decide)) (-1)).trans ((cl_220 hC)))))))) (by omega) (by omega) (v := p) ((w_up_slot (by decide)).trans ((w_up_slot (by decide)).trans ((w_up_slot (by decide)).trans ((w_up_slot (by decide)).trans (((congrFun (g17.2.2.1 220 (by decide) (by decide) (by decide)) (c - 1)).trans (bp))))))) (fun r26 => ?_)
    refine wa_iconst ?_
    refine wa_iadd ?_
    refine wb_iast 220 rfl (wy_pr rfl) wt_220 (n := 200) ((w_up_slot (by decide)).trans ((w_up_slot (by decide)).trans ((w_up_slot (by decide)).trans ((w_up_slot (by decide)).trans (((congrFun (g17.2.2.1 220 (by decide) (by decide) (by decide)) (-1)).trans ((cl_220 hC)))))))) (by omega) (by omega) ⟨(by omega), (by omega)⟩ ?_
    refine wa_goto ⟨_, rfl⟩ ?_
    refine wa_return rfl ?_
    show wJ _ _ _ _ _ _ _ _ _ _
    refine wa_fall ⟨_, rfl⟩ ?_
    refine wa_return rfl ?_
    have yl := g17.1
    exact ⟨rfl, Z16, ⟨fun i i0 i1 => g17.2.1 i i0 (by omega), fun j i j0 j1 j2 => congrFun (g17.2.2.1 j j2 j0 j1) i, ⟨by show z + 3 ≤ Z16 225 (-1); omega, by show S 225 (-1) ≤ Z16 225 (-1); omega, by show Z16 225 (-1) ≤ 60000; omega⟩, gi18, rm19⟩, rfl⟩
theorem cl_b_215 {M : Nat → Prop} {c k1 v1 : Int} {Q : wO → wS → Prop} (hC : w_CL S) (bc : S 215 4 = c) (bz1 : S 225 (-1) ≤ 60000) : ∀ (f : Nat) (q : Nat), q ≤ f → 3 * (q : Int) ≤ S 225 (-1) → wJ (pe_GA xs) wY0 M d t_XK_comeBack ((pe_at t_XK_comeBack.bl 3).getD (0, [])).2 [(0, (2, 215)), (1, (0, c - 1)), (2, (0, k1)), (3, (1, v1))] [] (w_up S 215 12 (td (S 225) c f (3 * (q : Int)))) Q → wJ (pe_GA xs) wY0 M d t_XK_comeBack ((pe_at t_XK_comeBack.bl 2).getD (0, [])).2 [(0, (2, 215)), (1, (0, c - 1)), (2, (0, k1)), (3, (1, v1))] [] (w_up S 215 12 (3 * (q : Int))) Q := by
  intro f
  induction f with
  | zero =>
    intro q h1 h2 hk
    have hq : q = 0 := by omega
    subst hq
    refine wa_aload_n (n := 0) rfl ?_
    refine wb_gfi 215 rfl (wy_pr rfl) wt_215 wf_8_12 (v := (3 * ((0 : Nat) : Int))) (w_up_same _ _ _ _) (fun r51 => ?_)
    refine wa_ifle (w_rg0 (by omega) (by omega)) ⟨_, rfl⟩ (fun c52 => ?_) (fun c52 => ?_)
    · skip
      exact wJ_S hk ⟨rfl, rfl, rfl, rfl, trivial⟩
    · skip
      exfalso; omega
  | succ f ih =>
    intro q h1 h2 hk
    refine wa_aload_n (n := 0) rfl ?_
    refine wb_gfi 215 rfl (wy_pr rfl) wt_215 wf_8_12 (v := (3 * (q : Int))) (w_up_same _ _ _ _) (fun r51 => ?_)
    refine wa_ifle (w_rg0 (by omega) (by omega)) ⟨_, rfl⟩ (fun c52 => ?_) (fun c52 => ?_)
    · skip
      rw [show td (S 225) c (f + 1) (3 * (q : Int)) = 3 * (q : Int) from if_neg (by omega)] at hk
      exact wJ_S hk ⟨rfl, rfl, rfl, rfl, trivial⟩
    · skip
      refine wa_aload_n (n := 0) rfl ?_
      refine wb_gf4 215 rfl (wy_pr rfl) wt_215 wf_8_11 (v := 225) wl_215_11 ?_
      refine wa_aload_n (n := 0) rfl ?_
      refine wb_gfi 215 rfl (wy_pr rfl) wt_215 wf_8_12 (v := (3 * (q : Int))) (w_up_same _ _ _ _) (fun r53 => ?_)
      refine wa_iconst ?_
      refine wa_isub ?_
      refine wb_iald 225 rfl (wy_pr rfl) wt_225 (n := (S 225 (-1))) ((w_up_slot (by decide)).trans (rfl)) (by omega) (by omega) (v := (S 225 ((3 * (q : Int)) - 3))) (w_up_slot (by decide)) (fun r54 => ?_)
      refine wa_aload_n (n := 0) rfl ?_
      refine wb_gfi 215 rfl (wy_pr rfl) wt_215 wf_8_4 (v := c) ((w_up_at (by decide)).trans (bc)) (fun r55 => ?_)
      refine wa_icmpne (w_rg0 (by omega) (by omega)) (w_rg0 (by omega) (by omega)) ⟨_, rfl⟩ (fun c56 => ?_) (fun c56 => ?_)
      · skip
        rw [show td (S 225) c (f + 1) (3 * (q : Int)) = 3 * (q : Int) from if_neg (by omega)] at hk
        exact wJ_S hk ⟨rfl, rfl, rfl, rfl, trivial⟩
      · skip
        refine wa_aload_n (n := 0) rfl ?_
        refine wa_dup (by decide) ?_
        refine wb_gfi 215 rfl (wy_pr rfl) wt_215 wf_8_12 (v := (3 * (q : Int))) (w_up_same _ _ _ _) (fun r57 => ?_)
        refine wa_iconst ?_
        refine wa_isub ?_
        refine wb_pfi 215 rfl (wy_pr rfl) wt_215 wf_8_12 (n := 12) rfl ⟨(by omega), (by omega)⟩ ?_
        refine wa_goto ⟨_, rfl⟩ ?_
        obtain ⟨q, rfl⟩ : ∃ g, q = g + 1 := ⟨q - 1, by omega⟩
        have e3 : 3 * ((q + 1 : Nat) : Int) - 3 = 3 * (q : Int) := by omega
        rw [show td (S 225) c (f + 1) (3 * ((q + 1 : Nat) : Int)) = td (S 225) c f (3 * (q : Int)) from (if_pos ⟨by omega, by omega⟩).trans (by rw [e3])] at hk
        rw [w_up_up, e3]
        exact wJ_S (ih q (by omega) (by omega) hk) ⟨rfl, rfl, rfl, rfl, trivial⟩
theorem cl_c_215 {M : Nat → Prop} {c k1 v1 : Int} {q : Nat} {Q : wO → wS → Prop} (hC : w_CL S) (bc : S 215 4 = c) (bz1 : S 225 (-1) ≤ 60000) (bz : S 215 12 = 3 * (q : Int)) (bz0 : 3 * (q : Int) ≤ S 225 (-1)) (hk : wJ (pe_GA xs) wY0 M d t_XK_comeBack ((pe_at t_XK_comeBack.bl 3).getD (0, [])).2 [(0, (2, 215)), (1, (0, c - 1)), (2, (0, k1)), (3, (1, v1))] [] (w_up S 215 12 (td (S 225) c q (3 * (q : Int)))) Q) : wJ (pe_GA xs) wY0 M d t_XK_comeBack ((pe_at t_XK_comeBack.bl 2).getD (0, [])).2 [(0, (2, 215)), (1, (0, c - 1)), (2, (0, k1)), (3, (1, v1))] [] S Q := by
  rw [w_up_eta bz]
  exact cl_b_215 hC bc bz1 q q (Nat.le_refl _) bz0 hk
theorem x29_215 {c p h a b ky vy nw tk tv : Int} {q : Nat} (hP : xP 215 c p h S) (hab : (-2147483648 ≤ a ∧ a ≤ 2147483647) ∧ (-2147483648 ≤ b ∧ b ≤ 2147483647)) (hky : S 217 (h - 1) = ky) (hvy : S 218 (h - 1) = vy) (hh1 : 1 ≤ h) (bz : S 215 12 = 3 * (q : Int)) (bz0 : 3 * (q : Int) ≤ S 225 (-1)) (bz1 : S 225 (-1) ≤ 60000) (hnw : S 224 (c - 1) = nw) (htk : S 222 (c - 1) = tk) (htv : S 223 (c - 1) = tv) : wJ (pe_GA xs) wY0 (mS [217, 218]) (d + 11) t_XK_perform ((pe_at t_XK_perform.bl 0).getD (0, [])).2 [(0, (2, 215)), (1, (0, 29)), (2, (0, a)), (3, (0, b))] [] S (fun o Z => o = .inl none ∧ ∃ k1 v1 : Int, (((nw ≠ 0 ∧ ky ≠ 4) ∧ k1 = tk ∧ v1 = tv) ∨ (¬ (nw ≠ 0 ∧ ky ≠ 4) ∧ k1 = ky ∧ v1 = vy)) ∧ ((c = 1 ∧ w_up (w_up (w_up (w_up (w_up (w_up (w_up (w_up (w_up (w_up S 216 2 (h - 1)) 215 12 (td (S 225) c q (3 * (q : Int)))) 215 4 (c - 1)) 215 13 0) 215 4 0) 216 2 0) 215 12 0) 215 13 2) 215 14 k1) 215 15 v1 = Z) ∨ (c ≠ 1 ∧ ra_ag 216 217 218 (w_up (w_up (w_up S 216 2 (h - 1)) 215 12 (td (S 225) c q (3 * (q : Int)))) 215 4 (c - 1)) Z k1 v1))) := by
  obtain ⟨⟨hC, hI⟩, ⟨bc, bc0, bc1⟩, ⟨bp, bp0, bp1⟩, ⟨bh, bh0, bh1, bh2⟩, bl1, bl2, bl3⟩ := hP
  replace bp : S 220 (c - 1) = p := bp
  replace bh : S 216 2 = h := bh
  replace bh2 : h ≤ S 217 (-1) := bh2
  replace bl1 : S 218 (-1) = S 217 (-1) := bl1
  replace bl2 : 64 ≤ S 217 (-1) := bl2
  replace bl3 : S 217 (-1) ≤ 4095 := bl3
  refine wa_aload_n (n := 0) rfl ?_
  refine wb_gf4 215 rfl (wy_pr rfl) wt_215 wf_8_3 (v := 216) wl_215_3 ?_
  refine wb_gfi 216 rfl (wy_pr rfl) wt_216 wf_7_2 (v := h) (bh) (fun r1 => ?_)
  refine wa_iconst ?_
  refine wa_isub ?_
  refine wa_istore (n := 4) rfl ?_
  refine wa_iload_n (n := 1) rfl ?_
  refine wb_sw (w_rg0 (by omega) (by omega)) (tb := 12) rfl ⟨_, rfl⟩ ?_
  refine wa_aload_n (n := 0) rfl ?_
  refine wa_iload_n (n := 1) rfl ?_
  refine wa_iload_n (n := 2) rfl ?_
  refine wa_cv 215 rfl (wy_pr rfl) wt_215 (M2 := mS [217, 218]) rfl at_XK_goOn ⟨_, rfl⟩ rfl rfl ⟨trivial, (Or.inr ⟨wy_pr rfl, mS_no rfl⟩), trivial, trivial, trivial, trivial⟩ trivial (fun _ _ q => q) ?_ (fun _ _ _ q => q)
  refine wa_aload_n (n := 0) rfl ?_
  refine wb_gf4 215 rfl (wy_pr rfl) wt_215 wf_8_3 (v := 216) wl_215_3 ?_
  refine wb_gfi 216 rfl (wy_pr rfl) wt_216 wf_7_2 (v := h) (bh) (fun r2 => ?_)
  refine wa_iconst ?_
  refine wa_isub ?_
  refine wa_istore_n (n := 3) rfl ?_
  refine wa_aload_n (n := 0) rfl ?_
  refine wb_gfi 215 rfl (wy_pr rfl) wt_215 wf_8_4 (v := c) (bc) (fun r3 => ?_)
  refine wa_iconst ?_
  refine wa_isub ?_
  refine wa_istore (n := 4) rfl ?_
  refine wa_iload_n (n := 1) rfl ?_
  refine wb_sw (w_rg0 (by omega) (by omega)) (tb := 9) rfl ⟨_, rfl⟩ ?_
  refine wa_aload_n (n := 0) rfl ?_
  refine wa_cv 215 rfl (wy_pr rfl) wt_215 (M2 := mS [217, 218]) rfl at_XK_comeBack ⟨_, rfl⟩ rfl rfl ⟨trivial, trivial, (Or.inr ⟨wy_pr rfl, mS_no rfl⟩), trivial, trivial, trivial⟩ trivial (fun _ _ q => q) ?_ (fun _ _ _ q => q)
  refine wa_aload_n (n := 0) rfl ?_
  refine wb_gfi 215 rfl (wy_pr rfl) wt_215 wf_8_4 (v := c) (bc) (fun r4 => ?_)
  refine wa_iconst ?_
  refine wa_isub ?_
  refine wa_istore_n (n := 1) rfl ?_
  refine wa_aload_n (n := 0) rfl ?_
  refine wb_gf4 215 rfl (wy_pr rfl) wt_215 wf_8_3 (v := 216) wl_215_3 ?_
  refine wa_dup (by decide) ?_
  refine wb_gfi 216 rfl (wy_pr rfl) wt_216 wf_7_2 (v := h) (bh) (fun r5 => ?_)
  refine wa_iconst ?_
  refine wa_isub ?_
  refine wb_pfi 216 rfl (wy_pr rfl) wt_216 wf_7_2 (n := 2) rfl ⟨(by omega), (by omega)⟩ ?_
  refine wa_aload_n (n := 0) rfl ?_
  refine wb_gf4 215 rfl (wy_pr rfl) wt_215 wf_8_3 (v := 216) wl_215_3 ?_
  refine wb_gf4 216 rfl (wy_pr rfl) wt_216 wf_7_0 (v := 217) wl_216_0 ?_
  refine wa_aload_n (n := 0) rfl ?_
  refine wb_gf4 215 rfl (wy_pr rfl) wt_215 wf_8_3 (v := 216) wl_215_3 ?_
  refine wb_gfi 216 rfl (wy_pr rfl) wt_216 wf_7_2 (v := (h - 1)) (w_up_same _ _ _ _) (fun r6 => ?_)
  refine wb_bald 217 rfl (wy_pr rfl) wt_217 (n := (S 217 (-1))) ((w_up_slot (by decide)).trans (rfl)) (by omega) (by omega) (v := ky) ((w_up_slot (by decide)).trans (hky)) (fun r7 => ?_)
  refine wa_istore_n (n := 2) rfl ?_
  refine wa_aload_n (n := 0) rfl ?_
  refine wb_gf4 215 rfl (wy_pr rfl) wt_215 wf_8_3 (v := 216) wl_215_3 ?_
  refine wb_gf4 216 rfl (wy_pr rfl) wt_216 wf_7_1 (v := 218) wl_216_1 ?_
  refine wa_aload_n (n := 0) rfl ?_
  refine wb_gf4 215 rfl (wy_pr rfl) wt_215 wf_8_3 (v := 216) wl_215_3 ?_
  refine wb_gfi 216 rfl (wy_pr rfl) wt_216 wf_7_2 (v := (h - 1)) (w_up_same _ _ _ _) (fun r8 => ?_)
  refine wb_lald 218 rfl (wy_pr rfl) wt_218 (n := (S 217 (-1))) ((w_up_slot (by decide)).trans (bl1)) (by omega) (by omega) (v := vy) ((w_up_slot (by decide)).trans (hvy)) (fun r9 => ?_)
  refine wa_lstore_n (n := 3) rfl ?_
  refine wa_aload_n (n := 0) rfl ?_
  refine wb_gf4 215 rfl (wy_pr rfl) wt_215 wf_8_10 (v := 224) wl_215_10 ?_
  refine wa_iload_n (n := 1) rfl ?_
  refine wb_zald 224 rfl (wy_pr rfl) wt_224 (n := 200) ((w_up_slot (by decide)).trans ((cl_224 hC))) (by omega) (by omega) (v := nw) ((w_up_slot (by decide)).trans (hnw)) (fun r10 => ?_)
  refine wa_ifeq (w_rg0 (by omega) (by omega)) ⟨_, rfl⟩ (fun c11 => ?_) (fun c11 => ?_)
  · skip
    have hW : w_CL (w_up S 216 2 (h - 1)) := (w_CL_up hC (by omega))
    have hGI : gI (w_up S 216 2 (h - 1)) := (gI_up hI (by omega) (by omega) (by omega))
    refine wJ_S (cl_c_215 (S := (w_up S 216 2 (h - 1))) (c := c) (k1 := ky) (v1 := vy) (q := q) hW (((w_up_slot (by decide)).trans (bc))) (by show S 225 (-1) ≤ 60000; omega) (((w_up_slot (by decide)).trans (bz))) (by show 3 * (q : Int) ≤ S 225 (-1); omega) ?_) ⟨rfl, rfl, rfl, rfl, trivial⟩
    show wJ _ _ _ _ _ _ _ _ (w_up (w_up S 216 2 (h - 1)) 215 12 (td (S 225) c q (3 * (q : Int)))) _
    refine wa_aload_n (n := 0) rfl ?_
    refine wa_dup (by decide) ?_
    refine wb_gfi 215 rfl (wy_pr rfl) wt_215 wf_8_4 (v := c) ((w_up_at (by decide)).trans ((w_up_slot (by decide)).trans (bc))) (fun r12 => ?_)
    refine wa_iconst ?_
    refine wa_isub ?_
    refine wb_pfi 215 rfl (wy_pr rfl) wt_215 wf_8_4 (n := 4) rfl ⟨(by omega), (by omega)⟩ ?_
    refine wa_aload_n (n := 0) rfl ?_
    refine wb_gfi 215 rfl (wy_pr rfl) wt_215 wf_8_4 (v := (c - 1)) (w_up_same _ _ _ _) (fun r13 => ?_)
    refine wa_ifne (w_rg0 (by omega) (by omega)) ⟨_, rfl⟩ (fun c14 => ?_) (fun c14 => ?_)
    · skip
      refine wa_aload_n (n := 0) rfl ?_
      refine wb_gf4 215 rfl (wy_pr rfl) wt_215 wf_8_3 (v := 216) wl_215_3 ?_
      refine wa_iload_n (n := 2) rfl ?_
      refine wa_lload_n (n := 3) rfl ?_
      refine wa_cv 216 rfl (wy_pr rfl) wt_216 (M2 := mS [217, 218]) rfl at_XV_add ⟨_, rfl⟩ rfl rfl ⟨(Or.inr ⟨wy_pr rfl, mS_no rfl⟩), trivial, trivial, trivial, trivial⟩ trivial (fun _ _ q => q) (ra_216 (S := (w_up (w_up (w_up S 216 2 (h - 1)) 215 12 (td (S 225) c q (3 * (q : Int)))) 215 4 (c - 1))) (k := ky) (v := vy) (gI_up (gI_up (gI_up hI (by omega) (by omega) (by omega)) (by omega) (by omega) (by omega)) (by omega) (by omega) (by omega)) ⟨by omega, by omega⟩ ⟨by omega, by omega⟩ (rw_L_mk (S := (w_up (w_up (w_up S 216 2 (h - 1)) 215 12 (td (S 225) c q (3 * (q : Int)))) 215 4 (c - 1))) (r := 216) (a := 217) (b := 218) (h := (h - 1)) (n := (S 217 (-1))) ((w_up_slot (by decide)).trans ((w_up_slot (by decide)).trans (w_up_same _ _ _ _))) ((w_up_slot (by decide)).trans ((w_up_slot (by decide)).trans ((w_up_slot (by decide)).trans (rfl)))) ((w_up_slot (by decide)).trans ((w_up_slot (by decide)).trans ((w_up_slot (by decide)).trans (bl1)))) (by omega) (by omega) (by omega) (by omega))) (fun oq15 Sq15 hp16 q15 => ?_)
      rcases q15 with ⟨rfl, ra15⟩
      show wJ _ _ _ _ _ _ _ _ _ _
      refine wa_fall ⟨_, rfl⟩ ?_
      refine wa_return rfl ?_
      show wJ _ _ _ _ _ _ _ _ _ _
      refine wa_goto ⟨_, rfl⟩ ?_
      refine wa_return rfl ?_
      show wJ _ _ _ _ _ _ _ _ _ _
      refine wa_fall ⟨_, rfl⟩ ?_
      refine wa_return rfl ?_
      exact ⟨rfl, ky, vy, Or.inr ⟨by omega, rfl, rfl⟩, Or.inr ⟨by omega, ra15⟩⟩
    · skip
      refine wa_aload_n (n := 0) rfl ?_
      refine wa_iconst ?_
      refine wa_iload_n (n := 2) rfl ?_
      refine wa_lload_n (n := 3) rfl ?_
      refine wa_cv 215 rfl (wy_pr rfl) wt_215 (M2 := mS [217, 218]) rfl at_XK_end ⟨_, rfl⟩ rfl rfl ⟨(Or.inr ⟨wy_pr rfl, mS_no rfl⟩), trivial, trivial, trivial, trivial⟩ trivial (fun _ _ q => q) ?_ (fun _ _ _ q => q)
      refine wa_aload_n (n := 0) rfl ?_
      refine wa_cv 215 rfl (wy_pr rfl) wt_215 (M2 := mS [217, 218]) rfl at_XK_clear ⟨_, rfl⟩ rfl rfl ⟨(Or.inr ⟨wy_pr rfl, mS_no rfl⟩), trivial, trivial, trivial, trivial⟩ trivial (fun _ _ q => q) ?_ (fun _ _ _ q => q)
      refine wa_aload_n (n := 0) rfl ?_
      refine wa_iconst ?_
      refine wb_pfi 215 rfl (wy_pr rfl) wt_215 wf_8_13 (n := 13) rfl ⟨(by omega), (by omega)⟩ ?_
      refine wa_aload_n (n := 0) rfl ?_
      refine wa_iconst ?_
      refine wb_pfi 215 rfl (wy_pr rfl) wt_215 wf_8_4 (n := 4) rfl ⟨(by omega), (by omega)⟩ ?_
      refine wa_aload_n (n := 0) rfl ?_
      refine wb_gf4 215 rfl (wy_pr rfl) wt_215 wf_8_3 (v := 216) wl_215_3 ?_
      refine wa_iconst ?_
      refine wb_pfi 216 rfl (wy_pr rfl) wt_216 wf_7_2 (n := 2) rfl ⟨(by omega), (by omega)⟩ ?_
      refine wa_aload_n (n := 0) rfl ?_
      refine wa_iconst ?_
      refine wb_pfi 215 rfl (wy_pr rfl) wt_215 wf_8_12 (n := 12) rfl ⟨(by omega), (by omega)⟩ ?_
      refine wa_return rfl ?_
      show wJ _ _ _ _ _ _ _ _ _ _
      refine wa_aload_n (n := 0) rfl ?_
      refine wa_iload_n (n := 1) rfl ?_
      refine wb_pfi 215 rfl (wy_pr rfl) wt_215 wf_8_13 (n := 13) rfl ⟨(by omega), (by omega)⟩ ?_
      refine wa_aload_n (n := 0) rfl ?_
      refine wa_iload_n (n := 2) rfl ?_
      refine wb_pfi 215 rfl (wy_pr rfl) wt_215 wf_8_14 (n := 14) rfl ⟨(by omega), (by omega)⟩ ?_
      refine wa_aload_n (n := 0) rfl ?_
      refine wa_lload_n (n := 3) rfl ?_
      refine wb_pfl 215 rfl (wy_pr rfl) wt_215 wf_8_15 (n := 15) rfl ⟨(by omega), (by omega)⟩ ?_
      refine wa_return rfl ?_
      show wJ _ _ _ _ _ _ _ _ _ _
      refine wa_goto ⟨_, rfl⟩ ?_
      refine wa_return rfl ?_
      show wJ _ _ _ _ _ _ _ _ _ _
      refine wa_goto ⟨_, rfl⟩ ?_
      refine wa_return rfl ?_
      show wJ _ _ _ _ _ _ _ _ _ _
      refine wa_fall ⟨_, rfl⟩ ?_
      refine wa_return rfl ?_
      exact ⟨rfl, ky, vy, Or.inr ⟨by omega, rfl, rfl⟩, Or.inl ⟨by omega, rfl⟩⟩
  · skip
    refine wa_iload_n (n := 2) rfl ?_
    refine wa_iconst ?_
    refine wa_icmpeq (w_rg0 (by omega) (by omega)) (w_rg0 (by omega) (by omega)) ⟨_, rfl⟩ (fun c17 => ?_) (fun c17 => ?_)
    · skip
      have hW : w_CL (w_up S 216 2 (h - 1)) := (w_CL_up hC (by omega))
      have hGI : gI (w_up S 216 2 (h - 1)) := (gI_up hI (by omega) (by omega) (by omega))
      refine wJ_S (cl_c_215 (S := (w_up S 216 2 (h - 1))) (c := c) (k1 := ky) (v1 := vy) (q := q) hW (((w_up_slot (by decide)).trans (bc))) (by show S 225 (-1) ≤ 60000; omega) (((w_up_slot (by decide)).trans (bz))) (by show 3 * (q : Int) ≤ S 225 (-1); omega) ?_) ⟨rfl, rfl, rfl, rfl, trivial⟩
      show wJ _ _ _ _ _ _ _ _ (w_up (w_up S 216 2 (h - 1)) 215 12 (td (S 225) c q (3 * (q : Int)))) _
      refine wa_aload_n (n := 0) rfl ?_
      refine wa_dup (by decide) ?_
      refine wb_gfi 215 rfl (wy_pr rfl) wt_215 wf_8_4 (v := c) ((w_up_at (by decide)).trans ((w_up_slot (by decide)).trans (bc))) (fun r18 => ?_)
      refine wa_iconst ?_
      refine wa_isub ?_
      refine wb_pfi 215 rfl (wy_pr rfl) wt_215 wf_8_4 (n := 4) rfl ⟨(by omega), (by omega)⟩ ?_
      refine wa_aload_n (n := 0) rfl ?_
      refine wb_gfi 215 rfl (wy_pr rfl) wt_215 wf_8_4 (v := (c - 1)) (w_up_same _ _ _ _) (fun r19 => ?_)
      refine wa_ifne (w_rg0 (by omega) (by omega)) ⟨_, rfl⟩ (fun c20 => ?_) (fun c20 => ?_)
      · skip
        refine wa_aload_n (n := 0) rfl ?_
        refine wb_gf4 215 rfl (wy_pr rfl) wt_215 wf_8_3 (v := 216) wl_215_3 ?_
        refine wa_iload_n (n := 2) rfl ?_
        refine wa_lload_n (n := 3) rfl ?_
        refine wa_cv 216 rfl (wy_pr rfl) wt_216 (M2 := mS [217, 218]) rfl at_XV_add ⟨_, rfl⟩ rfl rfl ⟨(Or.inr ⟨wy_pr rfl, mS_no rfl⟩), trivial, trivial, trivial, trivial⟩ trivial (fun _ _ q => q) (ra_216 (S := (w_up (w_up (w_up S 216 2 (h - 1)) 215 12 (td (S 225) c q (3 * (q : Int)))) 215 4 (c - 1))) (k := ky) (v := vy) (gI_up (gI_up (gI_up hI (by omega) (by omega) (by omega)) (by omega) (by omega) (by omega)) (by omega) (by omega) (by omega)) ⟨by omega, by omega⟩ ⟨by omega, by omega⟩ (rw_L_mk (S := (w_up (w_up (w_up S 216 2 (h - 1)) 215 12 (td (S 225) c q (3 * (q : Int)))) 215 4 (c - 1))) (r := 216) (a := 217) (b := 218) (h := (h - 1)) (n := (S 217 (-1))) ((w_up_slot (by decide)).trans ((w_up_slot (by decide)).trans (w_up_same _ _ _ _))) ((w_up_slot (by decide)).trans ((w_up_slot (by decide)).trans ((w_up_slot (by decide)).trans (rfl)))) ((w_up_slot (by decide)).trans ((w_up_slot (by decide)).trans ((w_up_slot (by decide)).trans (bl1)))) (by omega) (by omega) (by omega) (by omega))) (fun oq21 Sq21 hp22 q21 => ?_)
        rcases q21 with ⟨rfl, ra21⟩
        show wJ _ _ _ _ _ _ _ _ _ _
        refine wa_fall ⟨_, rfl⟩ ?_
        refine wa_return rfl ?_
        show wJ _ _ _ _ _ _ _ _ _ _
        refine wa_goto ⟨_, rfl⟩ ?_
        refine wa_return rfl ?_
        show wJ _ _ _ _ _ _ _ _ _ _
        refine wa_fall ⟨_, rfl⟩ ?_
        refine wa_return rfl ?_
        exact ⟨rfl, ky, vy, Or.inr ⟨by omega, rfl, rfl⟩, Or.inr ⟨by omega, ra21⟩⟩
      · skip
        refine wa_aload_n (n := 0) rfl ?_
        refine wa_iconst ?_
        refine wa_iload_n (n := 2) rfl ?_
        refine wa_lload_n (n := 3) rfl ?_
        refine wa_cv 215 rfl (wy_pr rfl) wt_215 (M2 := mS [217, 218]) rfl at_XK_end ⟨_, rfl⟩ rfl rfl ⟨(Or.inr ⟨wy_pr rfl, mS_no rfl⟩), trivial, trivial, trivial, trivial⟩ trivial (fun _ _ q => q) ?_ (fun _ _ _ q => q)
        refine wa_aload_n (n := 0) rfl ?_
        refine wa_cv 215 rfl (wy_pr rfl) wt_215 (M2 := mS [217, 218]) rfl at_XK_clear ⟨_, rfl⟩ rfl rfl ⟨(Or.inr ⟨wy_pr rfl, mS_no rfl⟩), trivial, trivial, trivial, trivial⟩ trivial (fun _ _ q => q) ?_ (fun _ _ _ q => q)
        refine wa_aload_n (n := 0) rfl ?_
        refine wa_iconst ?_
        refine wb_pfi 215 rfl (wy_pr rfl) wt_215 wf_8_13 (n := 13) rfl ⟨(by omega), (by omega)⟩ ?_
        refine wa_aload_n (n := 0) rfl ?_
        refine wa_iconst ?_
        refine wb_pfi 215 rfl (wy_pr rfl) wt_215 wf_8_4 (n := 4) rfl ⟨(by omega), (by omega)⟩ ?_
        refine wa_aload_n (n := 0) rfl ?_
        refine wb_gf4 215 rfl (wy_pr rfl) wt_215 wf_8_3 (v := 216) wl_215_3 ?_
        refine wa_iconst ?_
        refine wb_pfi 216 rfl (wy_pr rfl) wt_216 wf_7_2 (n := 2) rfl ⟨(by omega), (by omega)⟩ ?_
        refine wa_aload_n (n := 0) rfl ?_
        refine wa_iconst ?_
        refine wb_pfi 215 rfl (wy_pr rfl) wt_215 wf_8_12 (n := 12) rfl ⟨(by omega), (by omega)⟩ ?_
        refine wa_return rfl ?_
        show wJ _ _ _ _ _ _ _ _ _ _
        refine wa_aload_n (n := 0) rfl ?_
        refine wa_iload_n (n := 1) rfl ?_
        refine wb_pfi 215 rfl (wy_pr rfl) wt_215 wf_8_13 (n := 13) rfl ⟨(by omega), (by omega)⟩ ?_
        refine wa_aload_n (n := 0) rfl ?_
        refine wa_iload_n (n := 2) rfl ?_
        refine wb_pfi 215 rfl (wy_pr rfl) wt_215 wf_8_14 (n := 14) rfl ⟨(by omega), (by omega)⟩ ?_
        refine wa_aload_n (n := 0) rfl ?_
        refine wa_lload_n (n := 3) rfl ?_
        refine wb_pfl 215 rfl (wy_pr rfl) wt_215 wf_8_15 (n := 15) rfl ⟨(by omega), (by omega)⟩ ?_
        refine wa_return rfl ?_
        show wJ _ _ _ _ _ _ _ _ _ _
        refine wa_goto ⟨_, rfl⟩ ?_
        refine wa_return rfl ?_
        show wJ _ _ _ _ _ _ _ _ _ _
        refine wa_goto ⟨_, rfl⟩ ?_
        refine wa_return rfl ?_
        show wJ _ _ _ _ _ _ _ _ _ _
        refine wa_fall ⟨_, rfl⟩ ?_
        refine wa_return rfl ?_
        exact ⟨rfl, ky, vy, Or.inr ⟨by omega, rfl, rfl⟩, Or.inl ⟨by omega, rfl⟩⟩
    · skip
      refine wa_aload_n (n := 0) rfl ?_
      refine wb_gf4 215 rfl (wy_pr rfl) wt_215 wf_8_8 (v := 222) wl_215_8 ?_
      refine wa_iload_n (n := 1) rfl ?_
      refine wb_bald 222 rfl (wy_pr rfl) wt_222 (n := 200) ((w_up_slot (by decide)).trans ((cl_222 hC))) (by omega) (by omega) (v := tk) ((w_up_slot (by decide)).trans (htk)) (fun r23 => ?_)
      refine wa_fall ⟨_, rfl⟩ ?_
      refine wa_istore_n (n := 2) rfl ?_
      refine wa_aload_n (n := 0) rfl ?_
      refine wb_gf4 215 rfl (wy_pr rfl) wt_215 wf_8_9 (v := 223) wl_215_9 ?_
      refine wa_iload_n (n := 1) rfl ?_
      refine wb_lald 223 rfl (wy_pr rfl) wt_223 (n := 200) ((w_up_slot (by decide)).trans ((cl_223 hC))) (by omega) (by omega) (v := tv) ((w_up_slot (by decide)).trans (htv)) (fun r24 => ?_)
      refine wa_lstore_n (n := 3) rfl ?_
      refine wa_fall ⟨_, rfl⟩ ?_
      have hW : w_CL (w_up S 216 2 (h - 1)) := (w_CL_up hC (by omega))
      have hGI : gI (w_up S 216 2 (h - 1)) := (gI_up hI (by omega) (by omega) (by omega))
      refine wJ_S (cl_c_215 (S := (w_up S 216 2 (h - 1))) (c := c) (k1 := tk) (v1 := tv) (q := q) hW (((w_up_slot (by decide)).trans (bc))) (by show S 225 (-1) ≤ 60000; omega) (((w_up_slot (by decide)).trans (bz))) (by show 3 * (q : Int) ≤ S 225 (-1); omega) ?_) ⟨rfl, rfl, rfl, rfl, trivial⟩
      show wJ _ _ _ _ _ _ _ _ (w_up (w_up S 216 2 (h - 1)) 215 12 (td (S 225) c q (3 * (q : Int)))) _
      refine wa_aload_n (n := 0) rfl ?_
      refine wa_dup (by decide) ?_
      refine wb_gfi 215 rfl (wy_pr rfl) wt_215 wf_8_4 (v := c) ((w_up_at (by decide)).trans ((w_up_slot (by decide)).trans (bc))) (fun r25 => ?_)
      refine wa_iconst ?_
      refine wa_isub ?_
      refine wb_pfi 215 rfl (wy_pr rfl) wt_215 wf_8_4 (n := 4) rfl ⟨(by omega), (by omega)⟩ ?_
      refine wa_aload_n (n := 0) rfl ?_
      refine wb_gfi 215 rfl (wy_pr rfl) wt_215 wf_8_4 (v := (c - 1)) (w_up_same _ _ _ _) (fun r26 => ?_)
      refine wa_ifne (w_rg0 (by omega) (by omega)) ⟨_, rfl⟩ (fun c27 => ?_) (fun c27 => ?_)
      · skip
        refine wa_aload_n (n := 0) rfl ?_
        refine wb_gf4 215 rfl (wy_pr rfl) wt_215 wf_8_3 (v := 216) wl_215_3 ?_
        refine wa_iload_n (n := 2) rfl ?_
        refine wa_lload_n (n := 3) rfl ?_
        refine wa_cv 216 rfl (wy_pr rfl) wt_216 (M2 := mS [217, 218]) rfl at_XV_add ⟨_, rfl⟩ rfl rfl ⟨(Or.inr ⟨wy_pr rfl, mS_no rfl⟩), trivial, trivial, trivial, trivial⟩ trivial (fun _ _ q => q) (ra_216 (S := (w_up (w_up (w_up S 216 2 (h - 1)) 215 12 (td (S 225) c q (3 * (q : Int)))) 215 4 (c - 1))) (k := tk) (v := tv) (gI_up (gI_up (gI_up hI (by omega) (by omega) (by omega)) (by omega) (by omega) (by omega)) (by omega) (by omega) (by omega)) ⟨by omega, by omega⟩ ⟨by omega, by omega⟩ (rw_L_mk (S := (w_up (w_up (w_up S 216 2 (h - 1)) 215 12 (td (S 225) c q (3 * (q : Int)))) 215 4 (c - 1))) (r := 216) (a := 217) (b := 218) (h := (h - 1)) (n := (S 217 (-1))) ((w_up_slot (by decide)).trans ((w_up_slot (by decide)).trans (w_up_same _ _ _ _))) ((w_up_slot (by decide)).trans ((w_up_slot (by decide)).trans ((w_up_slot (by decide)).trans (rfl)))) ((w_up_slot (by decide)).trans ((w_up_slot (by decide)).trans ((w_up_slot (by decide)).trans (bl1)))) (by omega) (by omega) (by omega) (by omega))) (fun oq28 Sq28 hp29 q28 => ?_)
        rcases q28 with ⟨rfl, ra28⟩
        show wJ _ _ _ _ _ _ _ _ _ _
        refine wa_fall ⟨_, rfl⟩ ?_
        refine wa_return rfl ?_
        show wJ _ _ _ _ _ _ _ _ _ _
        refine wa_goto ⟨_, rfl⟩ ?_
        refine wa_return rfl ?_
        show wJ _ _ _ _ _ _ _ _ _ _
        refine wa_fall ⟨_, rfl⟩ ?_
        refine wa_return rfl ?_
        exact ⟨rfl, tk, tv, Or.inl ⟨by omega, rfl, rfl⟩, Or.inr ⟨by omega, ra28⟩⟩
      · skip
        refine wa_aload_n (n := 0) rfl ?_
        refine wa_iconst ?_
        refine wa_iload_n (n := 2) rfl ?_
        refine wa_lload_n (n := 3) rfl ?_
        refine wa_cv 215 rfl (wy_pr rfl) wt_215 (M2 := mS [217, 218]) rfl at_XK_end ⟨_, rfl⟩ rfl rfl ⟨(Or.inr ⟨wy_pr rfl, mS_no rfl⟩), trivial, trivial, trivial, trivial⟩ trivial (fun _ _ q => q) ?_ (fun _ _ _ q => q)
        refine wa_aload_n (n := 0) rfl ?_
        refine wa_cv 215 rfl (wy_pr rfl) wt_215 (M2 := mS [217, 218]) rfl at_XK_clear ⟨_, rfl⟩ rfl rfl ⟨(Or.inr ⟨wy_pr rfl, mS_no rfl⟩), trivial, trivial, trivial, trivial⟩ trivial (fun _ _ q => q) ?_ (fun _ _ _ q => q)
        refine wa_aload_n (n := 0) rfl ?_
        refine wa_iconst ?_
        refine wb_pfi 215 rfl (wy_pr rfl) wt_215 wf_8_13 (n := 13) rfl ⟨(by omega), (by omega)⟩ ?_
        refine wa_aload_n (n := 0) rfl ?_
        refine wa_iconst ?_
        refine wb_pfi 215 rfl (wy_pr rfl) wt_215 wf_8_4 (n := 4) rfl ⟨(by omega), (by omega)⟩ ?_
        refine wa_aload_n (n := 0) rfl ?_
        refine wb_gf4 215 rfl (wy_pr rfl) wt_215 wf_8_3 (v := 216) wl_215_3 ?_
        refine wa_iconst ?_
        refine wb_pfi 216 rfl (wy_pr rfl) wt_216 wf_7_2 (n := 2) rfl ⟨(by omega), (by omega)⟩ ?_
        refine wa_aload_n (n := 0) rfl ?_
        refine wa_iconst ?_
        refine wb_pfi 215 rfl (wy_pr rfl) wt_215 wf_8_12 (n := 12) rfl ⟨(by omega), (by omega)⟩ ?_
        refine wa_return rfl ?_
        show wJ _ _ _ _ _ _ _ _ _ _
        refine wa_aload_n (n := 0) rfl ?_
        refine wa_iload_n (n := 1) rfl ?_
        refine wb_pfi 215 rfl (wy_pr rfl) wt_215 wf_8_13 (n := 13) rfl ⟨(by omega), (by omega)⟩ ?_
        refine wa_aload_n (n := 0) rfl ?_
        refine wa_iload_n (n := 2) rfl ?_
        refine wb_pfi 215 rfl (wy_pr rfl) wt_215 wf_8_14 (n := 14) rfl ⟨(by omega), (by omega)⟩ ?_
        refine wa_aload_n (n := 0) rfl ?_
        refine wa_lload_n (n := 3) rfl ?_
        refine wb_pfl 215 rfl (wy_pr rfl) wt_215 wf_8_15 (n := 15) rfl ⟨(by omega), (by omega)⟩ ?_
        refine wa_return rfl ?_
        show wJ _ _ _ _ _ _ _ _ _ _
        refine wa_goto ⟨_, rfl⟩ ?_
        refine wa_return rfl ?_
        show wJ _ _ _ _ _ _ _ _ _ _
        refine wa_goto ⟨_, rfl⟩ ?_
        refine wa_return rfl ?_
        show wJ _ _ _ _ _ _ _ _ _ _
        refine wa_fall ⟨_, rfl⟩ ?_
        refine wa_return rfl ?_
        exact ⟨rfl, tk, tv, Or.inl ⟨by omega, rfl, rfl⟩, Or.inl ⟨by omega, rfl⟩⟩
theorem x31_226 {c p h a b z : Int} (hP : xP 226 c p h S) (hab : (-2147483648 ≤ a ∧ a ≤ 2147483647) ∧ (-2147483648 ≤ b ∧ b ≤ 2147483647)) (bz : S 226 12 = z) (bz0 : 0 ≤ z ∧ z ≤ 29997 ∧ z ≤ S 236 (-1)) (bz1 : 48 ≤ S 236 (-1) ∧ S 236 (-1) ≤ 60000) : wJ (pe_GA xs) wY0 (mS [236]) (d + 11) t_XK_perform ((pe_at t_XK_perform.bl 0).getD (0, [])).2 [(0, (2, 226)), (1, (0, 31)), (2, (0, a)), (3, (0, b))] [] S (fun o Z => o = .inl none ∧ ∃ A : wS, tr_ag 226 z S A ∧ w_up (w_up (w_up (w_up (w_up A 236 z c) 236 (z + 1) a) 236 (z + 2) h) 226 12 (z + 3)) 231 (c - 1) (p + 1) = Z) := by
  obtain ⟨⟨hC, hI⟩, ⟨bc, bc0, bc1⟩, ⟨bp, bp0, bp1⟩, ⟨bh, bh0, bh1, bh2⟩, bl1, bl2, bl3⟩ := hP
  replace bp : S 231 (c - 1) = p := bp
  replace bh : S 227 2 = h := bh
  replace bh2 : h ≤ S 228 (-1) := bh2
  replace bl1 : S 229 (-1) = S 228 (-1) := bl1
  replace bl2 : 64 ≤ S 228 (-1) := bl2
  replace bl3 : S 228 (-1) ≤ 4095 := bl3
  have hRm := rmR_rfl S
  refine wa_aload_n (n := 0) rfl ?_
  refine wb_gf4 226 rfl (wy_pr rfl) wt_226 wf_8_3 (v := 227) wl_226_3 ?_
  refine wb_gfi 227 rfl (wy_pr rfl) wt_227 wf_7_2 (v := h) (bh) (fun r1 => ?_)
  refine wa_iconst ?_
  refine wa_isub ?_
  refine wa_istore (n := 4) rfl ?_
  refine wa_iload_n (n := 1) rfl ?_
  refine wb_sw (w_rg0 (by omega) (by omega)) (tb := 12) rfl ⟨_, rfl⟩ ?_
  refine wa_aload_n (n := 0) rfl ?_
  refine wa_iload_n (n := 1) rfl ?_
  refine wa_iload_n (n := 2) rfl ?_
  refine wa_cv 226 rfl (wy_pr rfl) wt_226 (M2 := mS [236]) rfl at_XK_goOn ⟨_, rfl⟩ rfl rfl ⟨trivial, (Or.inr ⟨wy_pr rfl, mS_no rfl⟩), trivial, trivial, trivial, trivial⟩ trivial (fun _ _ q => q) ?_ (fun _ _ _ q => q)
  refine wa_aload_n (n := 0) rfl ?_
  refine wb_gf4 226 rfl (wy_pr rfl) wt_226 wf_8_3 (v := 227) wl_226_3 ?_
  refine wb_gfi 227 rfl (wy_pr rfl) wt_227 wf_7_2 (v := h) (bh) (fun r2 => ?_)
  refine wa_iconst ?_
  refine wa_isub ?_
  refine wa_istore_n (n := 3) rfl ?_
  refine wa_aload_n (n := 0) rfl ?_
  refine wb_gfi 226 rfl (wy_pr rfl) wt_226 wf_8_4 (v := c) (bc) (fun r3 => ?_)
  refine wa_iconst ?_
  refine wa_isub ?_
  refine wa_istore (n := 4) rfl ?_
  refine wa_iload_n (n := 1) rfl ?_
  refine wb_sw (w_rg0 (by omega) (by omega)) (tb := 11) rfl ⟨_, rfl⟩ ?_
  refine wa_aload_n (n := 0) rfl ?_
  refine wa_iload_n (n := 2) rfl ?_
  refine wa_cv 226 rfl (wy_pr rfl) wt_226 (M2 := mS [236]) rfl at_XK_noteTry ⟨_, rfl⟩ rfl rfl ⟨trivial, trivial, (Or.inr ⟨wy_pr rfl, mS_no rfl⟩), trivial, trivial, trivial⟩ trivial (fun _ _ q => q) ?_ (fun _ _ _ q => q)
  refine wa_aload_n (n := 0) rfl ?_
  refine wb_gfi 226 rfl (wy_pr rfl) wt_226 wf_8_12 (v := z) (bz) (fun r4 => ?_)
  refine wa_iconst ?_
  refine wa_iadd ?_
  refine wa_aload_n (n := 0) rfl ?_
  refine wb_gf4 226 rfl (wy_pr rfl) wt_226 wf_8_11 (v := 236) wl_226_11 ?_
  refine wb_alen 236 rfl (wy_pr rfl) (by rw [wt_236]; rfl) (v := (S 236 (-1))) (rfl) (fun r5 => ?_)
  refine wa_icmple (w_rg0 (by omega) (by omega)) (w_rg0 (by omega) (by omega)) ⟨_, rfl⟩ (fun c6 => ?_) (fun c6 => ?_)
  · skip
    refine wa_aload_n (n := 0) rfl ?_
    refine wb_gf4 226 rfl (wy_pr rfl) wt_226 wf_8_11 (v := 236) wl_226_11 ?_
    refine wa_aload_n (n := 0) rfl ?_
    refine wb_gfi 226 rfl (wy_pr rfl) wt_226 wf_8_12 (v := z) (bz) (fun r7 => ?_)
    refine wa_aload_n (n := 0) rfl ?_
    refine wb_gfi 226 rfl (wy_pr rfl) wt_226 wf_8_4 (v := c) (bc) (fun r8 => ?_)
    refine wb_iast 236 rfl (wy_pr rfl) wt_236 (n := (S 236 (-1))) (rfl) (by omega) (by omega) ⟨(by omega), (by omega)⟩ ?_
    refine wa_aload_n (n := 0) rfl ?_
    refine wb_gf4 226 rfl (wy_pr rfl) wt_226 wf_8_11 (v := 236) wl_226_11 ?_
    refine wa_aload_n (n := 0) rfl ?_
    refine wb_gfi 226 rfl (wy_pr rfl) wt_226 wf_8_12 (v := z) ((w_up_slot (by decide)).trans (bz)) (fun r9 => ?_)
    refine wa_iconst ?_
    refine wa_iadd ?_
    refine wa_iload_n (n := 1) rfl ?_
    refine wb_iast 236 rfl (wy_pr rfl) wt_236 (n := (S 236 (-1))) ((w_up_at (by omega)).trans (rfl)) (by omega) (by omega) ⟨(by omega), (by omega)⟩ ?_
    refine wa_aload_n (n := 0) rfl ?_
    refine wb_gf4 226 rfl (wy_pr rfl) wt_226 wf_8_11 (v := 236) wl_226_11 ?_
    refine wa_aload_n (n := 0) rfl ?_
    refine wb_gfi 226 rfl (wy_pr rfl) wt_226 wf_8_12 (v := z) ((w_up_slot (by decide)).trans ((w_up_slot (by decide)).trans (bz))) (fun r10 => ?_)
    refine wa_iconst ?_
    refine wa_iadd ?_
    refine wa_aload_n (n := 0) rfl ?_
    refine wb_gf4 226 rfl (wy_pr rfl) wt_226 wf_8_3 (v := 227) wl_226_3 ?_
    refine wb_gfi 227 rfl (wy_pr rfl) wt_227 wf_7_2 (v := h) ((w_up_slot (by decide)).trans ((w_up_slot (by decide)).trans (bh))) (fun r11 => ?_)
    refine wb_iast 236 rfl (wy_pr rfl) wt_236 (n := (S 236 (-1))) ((w_up_at (by omega)).trans ((w_up_at (by omega)).trans (rfl))) (by omega) (by omega) ⟨(by omega), (by omega)⟩ ?_
    refine wa_aload_n (n := 0) rfl ?_
    refine wa_dup (by decide) ?_
    refine wb_gfi 226 rfl (wy_pr rfl) wt_226 wf_8_12 (v := z) ((w_up_slot (by decide)).trans ((w_up_slot (by decide)).trans ((w_up_slot (by decide)).trans (bz)))) (fun r12 => ?_)
    refine wa_iconst ?_
    refine wa_iadd ?_
    refine wb_pfi 226 rfl (wy_pr rfl) wt_226 wf_8_12 (n := 12) rfl ⟨(by omega), (by omega)⟩ ?_
    refine wa_return rfl ?_
    show wJ _ _ _ _ _ _ _ _ _ _
    refine wa_aload_n (n := 0) rfl ?_
    refine wb_gf4 226 rfl (wy_pr rfl) wt_226 wf_8_6 (v := 231) wl_226_6 ?_
    refine wa_iload (n := 4) rfl ?_
    refine wa_dup2 (by decide) (by decide) ?_
    refine wb_iald 231 rfl (wy_pr rfl) wt_231 (n := 200) ((w_up_slot (by decide)).trans ((w_up_slot (by decide)).trans ((w_up_slot (by decide)).trans ((w_up_slot (by decide)).trans ((cl_231 hC)))))) (by omega) (by omega) (v := p) ((w_up_slot (by decide)).trans ((w_up_slot (by decide)).trans ((w_up_slot (by decide)).trans ((w_up_slot (by decide)).trans (bp))))) (fun r13 => ?_)
    refine wa_iconst ?_
    refine wa_iadd ?_
    refine wb_iast 231 rfl (wy_pr rfl) wt_231 (n := 200) ((w_up_slot (by decide)).trans ((w_up_slot (by decide)).trans ((w_up_slot (by decide)).trans ((w_up_slot (by decide)).trans ((cl_231 hC)))))) (by omega) (by omega) ⟨(by omega), (by omega)⟩ ?_
    refine wa_goto ⟨_, rfl⟩ ?_
    refine wa_return rfl ?_
    show wJ _ _ _ _ _ _ _ _ _ _
    refine wa_fall ⟨_, rfl⟩ ?_
    refine wa_return rfl ?_
    exact ⟨rfl, S, ⟨fun _ _ _ => rfl, fun _ _ _ _ _ => rfl, ⟨by show z + 3 ≤ S 236 (-1); omega, by show S 236 (-1) ≤ S 236 (-1); omega, by show S 236 (-1) ≤ 60000; omega⟩, hI, hRm⟩, rfl⟩
  · skip
    refine wa_aload_n (n := 0) rfl ?_
    refine wa_aload_n (n := 0) rfl ?_
    refine wb_gf4 226 rfl (wy_pr rfl) wt_226 wf_8_11 (v := 236) wl_226_11 ?_
    refine wa_aload_n (n := 0) rfl ?_
    refine wb_gf4 226 rfl (wy_pr rfl) wt_226 wf_8_11 (v := 236) wl_226_11 ?_
    refine wb_alen 236 rfl (wy_pr rfl) (by rw [wt_236]; rfl) (v := (S 236 (-1))) (rfl) (fun r14 => ?_)
    refine wa_iconst ?_
    refine wa_imul ?_
    refine wa_cs (M2 := fun _ => False) rfl at_JA_copyOf_2 ⟨_, rfl⟩ rfl rfl ⟨(Or.inr ⟨wy_pr rfl, fun q => q⟩), trivial, trivial⟩ ⟨(Or.inr ⟨wy_pr rfl, fun q => q⟩), trivial⟩ (fun _ _ q => False.elim q) (cp_I (S := S) (a := 236) (n := ((S 236 (-1)) * 2)) (len := (S 236 (-1))) (wy_pr rfl) wt_236 (rfl) ⟨by omega, by omega, by omega⟩) (fun oq15 Sq15 _ q15 => ?_)
    rcases q15 with ⟨rfl, rfl⟩
    show wJ _ _ _ _ _ _ _ _ _ _
    refine wg_pf (S := S) (len := (S 236 (-1))) 0 226 236 rfl rfl rfl wt_226 wf_8_11 wl_226_11 (by decide +kernel) wt_236 (by decide) (by decide +kernel) hI (fun q => absurd q (by decide)) (by decide) ⟨by omega, by omega⟩ (rfl) (fun _ => ⟨Or.inr (by decide), Or.inl (nN_ge _)⟩) ⟨(Or.inr ⟨wy_pr rfl, mS_no rfl⟩), trivial, trivial⟩ trivial (fun Z16 g17 gi18 => ?_)
    have rm19 := rmR_gr hRm g17 (by decide +kernel) (len := (S 236 (-1))) (rfl) ⟨by omega, by omega⟩ ⟨fun q => by first | omega | exact absurd q (by decide), by show _ ≤ (100000000 : Int); omega⟩
    refine wa_fall ⟨_, rfl⟩ ?_
    refine wa_aload_n (n := 0) rfl ?_
    refine wb_gf4 226 rfl (wy_pr rfl) wt_226 wf_8_11 (v := 236) wl_226_11 ?_
    refine wa_aload_n (n := 0) rfl ?_
    refine wb_gfi 226 rfl (wy_pr rfl) wt_226 wf_8_12 (v := z) (((congrFun (g17.2.2.1 226 (by decide) (by decide) (by decide)) 12).trans (bz))) (fun r20 => ?_)
    refine wa_aload_n (n := 0) rfl ?_
    refine wb_gfi 226 rfl (wy_pr rfl) wt_226 wf_8_4 (v := c) (((congrFun (g17.2.2.1 226 (by decide) (by decide) (by decide)) 4).trans (bc))) (fun r21 => ?_)
    refine wb_iast 236 rfl (wy_pr rfl) wt_236 (n := ((S 236 (-1)) * 2)) (g17.1) (by omega) (by omega) ⟨(by omega), (by omega)⟩ ?_
    refine wa_aload_n (n := 0) rfl ?_
    refine wb_gf4 226 rfl (wy_pr rfl) wt_226 wf_8_11 (v := 236) wl_226_11 ?_
    refine wa_aload_n (n := 0) rfl ?_
    refine wb_gfi 226 rfl (wy_pr rfl) wt_226 wf_8_12 (v := z) ((w_up_slot (by decide)).trans (((congrFun (g17.2.2.1 226 (by decide) (by decide) (by decide)) 12).trans (bz)))) (fun r22 => ?_)
    refine wa_iconst ?_
    refine wa_iadd ?_
    refine wa_iload_n (n := 1) rfl ?_
    refine wb_iast 236 rfl (wy_pr rfl) wt_236 (n := ((S 236 (-1)) * 2)) ((w_up_at (by omega)).trans (g17.1)) (by omega) (by omega) ⟨(by omega), (by omega)⟩ ?_
    refine wa_aload_n (n := 0) rfl ?_
    refine wb_gf4 226 rfl (wy_pr rfl) wt_226 wf_8_11 (v := 236) wl_226_11 ?_
    refine wa_aload_n (n := 0) rfl ?_
    refine wb_gfi 226 rfl (wy_pr rfl) wt_226 wf_8_12 (v := z) ((w_up_slot (by decide)).trans ((w_up_slot (by decide)).trans (((congrFun (g17.2.2.1 226 (by decide) (by decide) (by decide)) 12).trans (bz))))) (fun r23 => ?_)
    refine wa_iconst ?_
    refine wa_iadd ?_
    refine wa_aload_n (n := 0) rfl ?_
    refine wb_gf4 226 rfl (wy_pr rfl) wt_226 wf_8_3 (v := 227) wl_226_3 ?_
    refine wb_gfi 227 rfl (wy_pr rfl) wt_227 wf_7_2 (v := h) ((w_up_slot (by decide)).trans ((w_up_slot (by decide)).trans (((congrFun (g17.2.2.1 227 (by decide) (by decide) (by decide)) 2).trans (bh))))) (fun r24 => ?_)
    refine wb_iast 236 rfl (wy_pr rfl) wt_236 (n := ((S 236 (-1)) * 2)) ((w_up_at (by omega)).trans ((w_up_at (by omega)).trans (g17.1))) (by omega) (by omega) ⟨(by omega), (by omega)⟩ ?_
    refine wa_aload_n (n := 0) rfl ?_
    refine wa_dup (by decide) ?_
    refine wb_gfi 226 rfl (wy_pr rfl) wt_226 wf_8_12 (v := z) ((w_up_slot (by decide)).trans ((w_up_slot (by decide)).trans ((w_up_slot (by decide)).trans (((congrFun (g17.2.2.1 226 (by decide) (by decide) (by decide)) 12).trans (bz)))))) (fun r25 => ?_)
    refine wa_iconst ?_
    refine wa_iadd ?_
    refine wb_pfi 226 rfl (wy_pr rfl) wt_226 wf_8_12 (n := 12) rfl ⟨(by omega), (by omega)⟩ ?_
    refine wa_return rfl ?_
    show wJ _ _ _ _ _ _ _ _ _ _
    refine wa_aload_n (n := 0) rfl ?_
    refine wb_gf4 226 rfl (wy_pr rfl) wt_226 wf_8_6 (v := 231) wl_226_6 ?_
    refine wa_iload (n := 4) rfl ?_
    refine wa_dup2 (by decide) (by decide) ?_
    refine wb_iald 231 rfl (wy_pr rfl) wt_231 (n := 200) ((w_up_slot (by decide)).trans ((w_up_slot (by decide)).trans ((w_up_slot (by decide)).trans ((w_up_slot (by decide)).trans (((congrFun (g17.2.2.1 231 (by decide) (by decide) (by decide)) (-1)).trans ((cl_231 hC)))))))) (by omega) (by omega) (v := p) ((w_up_slot (by decide)).trans ((w_up_slot (by decide)).trans ((w_up_slot (by decide)).trans ((w_up_slot (by decide)).trans (((congrFun (g17.2.2.1 231 (by decide) (by decide) (by decide)) (c - 1)).trans (bp))))))) (fun r26 => ?_)
    refine wa_iconst ?_
    refine wa_iadd ?_
    refine wb_iast 231 rfl (wy_pr rfl) wt_231 (n := 200) ((w_up_slot (by decide)).trans ((w_up_slot (by decide)).trans ((w_up_slot (by decide)).trans ((w_up_slot (by decide)).trans (((congrFun (g17.2.2.1 231 (by decide) (by decide) (by decide)) (-1)).trans ((cl_231 hC)))))))) (by omega) (by omega) ⟨(by omega), (by omega)⟩ ?_
    refine wa_goto ⟨_, rfl⟩ ?_
    refine wa_return rfl ?_
    show wJ _ _ _ _ _ _ _ _ _ _
    refine wa_fall ⟨_, rfl⟩ ?_
    refine wa_return rfl ?_
    have yl := g17.1
    exact ⟨rfl, Z16, ⟨fun i i0 i1 => g17.2.1 i i0 (by omega), fun j i j0 j1 j2 => congrFun (g17.2.2.1 j j2 j0 j1) i, ⟨by show z + 3 ≤ Z16 236 (-1); omega, by show S 236 (-1) ≤ Z16 236 (-1); omega, by show Z16 236 (-1) ≤ 60000; omega⟩, gi18, rm19⟩, rfl⟩
theorem cl_b_226 {M : Nat → Prop} {c k1 v1 : Int} {Q : wO → wS → Prop} (hC : w_CL S) (bc : S 226 4 = c) (bz1 : S 236 (-1) ≤ 60000) : ∀ (f : Nat) (q : Nat), q ≤ f → 3 * (q : Int) ≤ S 236 (-1) → wJ (pe_GA xs) wY0 M d t_XK_comeBack ((pe_at t_XK_comeBack.bl 3).getD (0, [])).2 [(0, (2, 226)), (1, (0, c - 1)), (2, (0, k1)), (3, (1, v1))] [] (w_up S 226 12 (td (S 236) c f (3 * (q : Int)))) Q → wJ (pe_GA xs) wY0 M d t_XK_comeBack ((pe_at t_XK_comeBack.bl 2).getD (0, [])).2 [(0, (2, 226)), (1, (0, c - 1)), (2, (0, k1)), (3, (1, v1))] [] (w_up S 226 12 (3 * (q : Int))) Q := by
  intro f
  induction f with
  | zero =>
    intro q h1 h2 hk
    have hq : q = 0 := by omega
    subst hq
    refine wa_aload_n (n := 0) rfl ?_
    refine wb_gfi 226 rfl (wy_pr rfl) wt_226 wf_8_12 (v := (3 * ((0 : Nat) : Int))) (w_up_same _ _ _ _) (fun r51 => ?_)
    refine wa_ifle (w_rg0 (by omega) (by omega)) ⟨_, rfl⟩ (fun c52 => ?_) (fun c52 => ?_)
    · skip
      exact wJ_S hk ⟨rfl, rfl, rfl, rfl, trivial⟩
    · skip
      exfalso; omega
  | succ f ih =>
    intro q h1 h2 hk
    refine wa_aload_n (n := 0) rfl ?_
    refine wb_gfi 226 rfl (wy_pr rfl) wt_226 wf_8_12 (v := (3 * (q : Int))) (w_up_same _ _ _ _) (fun r51 => ?_)
    refine wa_ifle (w_rg0 (by omega) (by omega)) ⟨_, rfl⟩ (fun c52 => ?_) (fun c52 => ?_)
    · skip
      rw [show td (S 236) c (f + 1) (3 * (q : Int)) = 3 * (q : Int) from if_neg (by omega)] at hk
      exact wJ_S hk ⟨rfl, rfl, rfl, rfl, trivial⟩
    · skip
      refine wa_aload_n (n := 0) rfl ?_
      refine wb_gf4 226 rfl (wy_pr rfl) wt_226 wf_8_11 (v := 236) wl_226_11 ?_
      refine wa_aload_n (n := 0) rfl ?_
      refine wb_gfi 226 rfl (wy_pr rfl) wt_226 wf_8_12 (v := (3 * (q : Int))) (w_up_same _ _ _ _) (fun r53 => ?_)
      refine wa_iconst ?_
      refine wa_isub ?_
      refine wb_iald 236 rfl (wy_pr rfl) wt_236 (n := (S 236 (-1))) ((w_up_slot (by decide)).trans (rfl)) (by omega) (by omega) (v := (S 236 ((3 * (q : Int)) - 3))) (w_up_slot (by decide)) (fun r54 => ?_)
      refine wa_aload_n (n := 0) rfl ?_
      refine wb_gfi 226 rfl (wy_pr rfl) wt_226 wf_8_4 (v := c) ((w_up_at (by decide)).trans (bc)) (fun r55 => ?_)
      refine wa_icmpne (w_rg0 (by omega) (by omega)) (w_rg0 (by omega) (by omega)) ⟨_, rfl⟩ (fun c56 => ?_) (fun c56 => ?_)
      · skip
        rw [show td (S 236) c (f + 1) (3 * (q : Int)) = 3 * (q : Int) from if_neg (by omega)] at hk
        exact wJ_S hk ⟨rfl, rfl, rfl, rfl, trivial⟩
      · skip
        refine wa_aload_n (n := 0) rfl ?_
        refine wa_dup (by decide) ?_
        refine wb_gfi 226 rfl (wy_pr rfl) wt_226 wf_8_12 (v := (3 * (q : Int))) (w_up_same _ _ _ _) (fun r57 => ?_)
        refine wa_iconst ?_
        refine wa_isub ?_
        refine wb_pfi 226 rfl (wy_pr rfl) wt_226 wf_8_12 (n := 12) rfl ⟨(by omega), (by omega)⟩ ?_
        refine wa_goto ⟨_, rfl⟩ ?_
        obtain ⟨q, rfl⟩ : ∃ g, q = g + 1 := ⟨q - 1, by omega⟩
        have e3 : 3 * ((q + 1 : Nat) : Int) - 3 = 3 * (q : Int) := by omega
        rw [show td (S 236) c (f + 1) (3 * ((q + 1 : Nat) : Int)) = td (S 236) c f (3 * (q : Int)) from (if_pos ⟨by omega, by omega⟩).trans (by rw [e3])] at hk
        rw [w_up_up, e3]
        exact wJ_S (ih q (by omega) (by omega) hk) ⟨rfl, rfl, rfl, rfl, trivial⟩
theorem cl_c_226 {M : Nat → Prop} {c k1 v1 : Int} {q : Nat} {Q : wO → wS → Prop} (hC : w_CL S) (bc : S 226 4 = c) (bz1 : S 236 (-1) ≤ 60000) (bz : S 226 12 = 3 * (q : Int)) (bz0 : 3 * (q : Int) ≤ S 236 (-1)) (hk : wJ (pe_GA xs) wY0 M d t_XK_comeBack ((pe_at t_XK_comeBack.bl 3).getD (0, [])).2 [(0, (2, 226)), (1, (0, c - 1)), (2, (0, k1)), (3, (1, v1))] [] (w_up S 226 12 (td (S 236) c q (3 * (q : Int)))) Q) : wJ (pe_GA xs) wY0 M d t_XK_comeBack ((pe_at t_XK_comeBack.bl 2).getD (0, [])).2 [(0, (2, 226)), (1, (0, c - 1)), (2, (0, k1)), (3, (1, v1))] [] S Q := by
  rw [w_up_eta bz]
  exact cl_b_226 hC bc bz1 q q (Nat.le_refl _) bz0 hk
theorem x29_226 {c p h a b ky vy nw tk tv : Int} {q : Nat} (hP : xP 226 c p h S) (hab : (-2147483648 ≤ a ∧ a ≤ 2147483647) ∧ (-2147483648 ≤ b ∧ b ≤ 2147483647)) (hky : S 228 (h - 1) = ky) (hvy : S 229 (h - 1) = vy) (hh1 : 1 ≤ h) (bz : S 226 12 = 3 * (q : Int)) (bz0 : 3 * (q : Int) ≤ S 236 (-1)) (bz1 : S 236 (-1) ≤ 60000) (hnw : S 235 (c - 1) = nw) (htk : S 233 (c - 1) = tk) (htv : S 234 (c - 1) = tv) : wJ (pe_GA xs) wY0 (mS [228, 229]) (d + 11) t_XK_perform ((pe_at t_XK_perform.bl 0).getD (0, [])).2 [(0, (2, 226)), (1, (0, 29)), (2, (0, a)), (3, (0, b))] [] S (fun o Z => o = .inl none ∧ ∃ k1 v1 : Int, (((nw ≠ 0 ∧ ky ≠ 4) ∧ k1 = tk ∧ v1 = tv) ∨ (¬ (nw ≠ 0 ∧ ky ≠ 4) ∧ k1 = ky ∧ v1 = vy)) ∧ ((c = 1 ∧ w_up (w_up (w_up (w_up (w_up (w_up (w_up (w_up (w_up (w_up S 227 2 (h - 1)) 226 12 (td (S 236) c q (3 * (q : Int)))) 226 4 (c - 1)) 226 13 0) 226 4 0) 227 2 0) 226 12 0) 226 13 2) 226 14 k1) 226 15 v1 = Z) ∨ (c ≠ 1 ∧ ra_ag 227 228 229 (w_up (w_up (w_up S 227 2 (h - 1)) 226 12 (td (S 236) c q (3 * (q : Int)))) 226 4 (c - 1)) Z k1 v1))) := by
  obtain ⟨⟨hC, hI⟩, ⟨bc, bc0, bc1⟩, ⟨bp, bp0, bp1⟩, ⟨bh, bh0, bh1, bh2⟩, bl1, bl2, bl3⟩ := hP
  replace bp : S 231 (c - 1) = p := bp
  replace bh : S 227 2 = h := bh
  replace bh2 : h ≤ S 228 (-1) := bh2
  replace bl1 : S 229 (-1) = S 228 (-1) := bl1
  replace bl2 : 64 ≤ S 228 (-1) := bl2
  replace bl3 : S 228 (-1) ≤ 4095 := bl3
  refine wa_aload_n (n := 0) rfl ?_
  refine wb_gf4 226 rfl (wy_pr rfl) wt_226 wf_8_3 (v := 227) wl_226_3 ?_
  refine wb_gfi 227 rfl (wy_pr rfl) wt_227 wf_7_2 (v := h) (bh) (fun r1 => ?_)
  refine wa_iconst ?_
  refine wa_isub ?_
  refine wa_istore (n := 4) rfl ?_
  refine wa_iload_n (n := 1) rfl ?_
  refine wb_sw (w_rg0 (by omega) (by omega)) (tb := 12) rfl ⟨_, rfl⟩ ?_
  refine wa_aload_n (n := 0) rfl ?_
  refine wa_iload_n (n := 1) rfl ?_
  refine wa_iload_n (n := 2) rfl ?_
  refine wa_cv 226 rfl (wy_pr rfl) wt_226 (M2 := mS [228, 229]) rfl at_XK_goOn ⟨_, rfl⟩ rfl rfl ⟨trivial, (Or.inr ⟨wy_pr rfl, mS_no rfl⟩), trivial, trivial, trivial, trivial⟩ trivial (fun _ _ q => q) ?_ (fun _ _ _ q => q)
  refine wa_aload_n (n := 0) rfl ?_
  refine wb_gf4 226 rfl (wy_pr rfl) wt_226 wf_8_3 (v := 227) wl_226_3 ?_
  refine wb_gfi 227 rfl (wy_pr rfl) wt_227 wf_7_2 (v := h) (bh) (fun r2 => ?_)
  refine wa_iconst ?_
  refine wa_isub ?_
  refine wa_istore_n (n := 3) rfl ?_
  refine wa_aload_n (n := 0) rfl ?_
  refine wb_gfi 226 rfl (wy_pr rfl) wt_226 wf_8_4 (v := c) (bc) (fun r3 => ?_)
  refine wa_iconst ?_
  refine wa_isub ?_
  refine wa_istore (n := 4) rfl ?_
  refine wa_iload_n (n := 1) rfl ?_
  refine wb_sw (w_rg0 (by omega) (by omega)) (tb := 9) rfl ⟨_, rfl⟩ ?_
  refine wa_aload_n (n := 0) rfl ?_
  refine wa_cv 226 rfl (wy_pr rfl) wt_226 (M2 := mS [228, 229]) rfl at_XK_comeBack ⟨_, rfl⟩ rfl rfl ⟨trivial, trivial, (Or.inr ⟨wy_pr rfl, mS_no rfl⟩), trivial, trivial, trivial⟩ trivial (fun _ _ q => q) ?_ (fun _ _ _ q => q)
  refine wa_aload_n (n := 0) rfl ?_
  refine wb_gfi 226 rfl (wy_pr rfl) wt_226 wf_8_4 (v := c) (bc) (fun r4 => ?_)
  refine wa_iconst ?_
  refine wa_isub ?_
  refine wa_istore_n (n := 1) rfl ?_
  refine wa_aload_n (n := 0) rfl ?_
  refine wb_gf4 226 rfl (wy_pr rfl) wt_226 wf_8_3 (v := 227) wl_226_3 ?_
  refine wa_dup (by decide) ?_
  refine wb_gfi 227 rfl (wy_pr rfl) wt_227 wf_7_2 (v := h) (bh) (fun r5 => ?_)
  refine wa_iconst ?_
  refine wa_isub ?_
  refine wb_pfi 227 rfl (wy_pr rfl) wt_227 wf_7_2 (n := 2) rfl ⟨(by omega), (by omega)⟩ ?_
  refine wa_aload_n (n := 0) rfl ?_
  refine wb_gf4 226 rfl (wy_pr rfl) wt_226 wf_8_3 (v := 227) wl_226_3 ?_
  refine wb_gf4 227 rfl (wy_pr rfl) wt_227 wf_7_0 (v := 228) wl_227_0 ?_
  refine wa_aload_n (n := 0) rfl ?_
  refine wb_gf4 226 rfl (wy_pr rfl) wt_226 wf_8_3 (v := 227) wl_226_3 ?_
  refine wb_gfi 227 rfl (wy_pr rfl) wt_227 wf_7_2 (v := (h - 1)) (w_up_same _ _ _ _) (fun r6 => ?_)
  refine wb_bald 228 rfl (wy_pr rfl) wt_228 (n := (S 228 (-1))) ((w_up_slot (by decide)).trans (rfl)) (by omega) (by omega) (v := ky) ((w_up_slot (by decide)).trans (hky)) (fun r7 => ?_)
  refine wa_istore_n (n := 2) rfl ?_
  refine wa_aload_n (n := 0) rfl ?_
  refine wb_gf4 226 rfl (wy_pr rfl) wt_226 wf_8_3 (v := 227) wl_226_3 ?_
  refine wb_gf4 227 rfl (wy_pr rfl) wt_227 wf_7_1 (v := 229) wl_227_1 ?_
  refine wa_aload_n (n := 0) rfl ?_
  refine wb_gf4 226 rfl (wy_pr rfl) wt_226 wf_8_3 (v := 227) wl_226_3 ?_
  refine wb_gfi 227 rfl (wy_pr rfl) wt_227 wf_7_2 (v := (h - 1)) (w_up_same _ _ _ _) (fun r8 => ?_)
  refine wb_lald 229 rfl (wy_pr rfl) wt_229 (n := (S 228 (-1))) ((w_up_slot (by decide)).trans (bl1)) (by omega) (by omega) (v := vy) ((w_up_slot (by decide)).trans (hvy)) (fun r9 => ?_)
  refine wa_lstore_n (n := 3) rfl ?_
  refine wa_aload_n (n := 0) rfl ?_
  refine wb_gf4 226 rfl (wy_pr rfl) wt_226 wf_8_10 (v := 235) wl_226_10 ?_
  refine wa_iload_n (n := 1) rfl ?_
  refine wb_zald 235 rfl (wy_pr rfl) wt_235 (n := 200) ((w_up_slot (by decide)).trans ((cl_235 hC))) (by omega) (by omega) (v := nw) ((w_up_slot (by decide)).trans (hnw)) (fun r10 => ?_)
  refine wa_ifeq (w_rg0 (by omega) (by omega)) ⟨_, rfl⟩ (fun c11 => ?_) (fun c11 => ?_)
  · skip
    have hW : w_CL (w_up S 227 2 (h - 1)) := (w_CL_up hC (by omega))
    have hGI : gI (w_up S 227 2 (h - 1)) := (gI_up hI (by omega) (by omega) (by omega))
    refine wJ_S (cl_c_226 (S := (w_up S 227 2 (h - 1))) (c := c) (k1 := ky) (v1 := vy) (q := q) hW (((w_up_slot (by decide)).trans (bc))) (by show S 236 (-1) ≤ 60000; omega) (((w_up_slot (by decide)).trans (bz))) (by show 3 * (q : Int) ≤ S 236 (-1); omega) ?_) ⟨rfl, rfl, rfl, rfl, trivial⟩
    show wJ _ _ _ _ _ _ _ _ (w_up (w_up S 227 2 (h - 1)) 226 12 (td (S 236) c q (3 * (q : Int)))) _
    refine wa_aload_n (n := 0) rfl ?_
    refine wa_dup (by decide) ?_
    refine wb_gfi 226 rfl (wy_pr rfl) wt_226 wf_8_4 (v := c) ((w_up_at (by decide)).trans ((w_up_slot (by decide)).trans (bc))) (fun r12 => ?_)
    refine wa_iconst ?_
    refine wa_isub ?_
    refine wb_pfi 226 rfl (wy_pr rfl) wt_226 wf_8_4 (n := 4) rfl ⟨(by omega), (by omega)⟩ ?_
    refine wa_aload_n (n := 0) rfl ?_
    refine wb_gfi 226 rfl (wy_pr rfl) wt_226 wf_8_4 (v := (c - 1)) (w_up_same _ _ _ _) (fun r13 => ?_)
    refine wa_ifne (w_rg0 (by omega) (by omega)) ⟨_, rfl⟩ (fun c14 => ?_) (fun c14 => ?_)
    · skip
      refine wa_aload_n (n := 0) rfl ?_
      refine wb_gf4 226 rfl (wy_pr rfl) wt_226 wf_8_3 (v := 227) wl_226_3 ?_
      refine wa_iload_n (n := 2) rfl ?_
      refine wa_lload_n (n := 3) rfl ?_
      refine wa_cv 227 rfl (wy_pr rfl) wt_227 (M2 := mS [228, 229]) rfl at_XV_add ⟨_, rfl⟩ rfl rfl ⟨(Or.inr ⟨wy_pr rfl, mS_no rfl⟩), trivial, trivial, trivial, trivial⟩ trivial (fun _ _ q => q) (ra_227 (S := (w_up (w_up (w_up S 227 2 (h - 1)) 226 12 (td (S 236) c q (3 * (q : Int)))) 226 4 (c - 1))) (k := ky) (v := vy) (gI_up (gI_up (gI_up hI (by omega) (by omega) (by omega)) (by omega) (by omega) (by omega)) (by omega) (by omega) (by omega)) ⟨by omega, by omega⟩ ⟨by omega, by omega⟩ (rw_L_mk (S := (w_up (w_up (w_up S 227 2 (h - 1)) 226 12 (td (S 236) c q (3 * (q : Int)))) 226 4 (c - 1))) (r := 227) (a := 228) (b := 229) (h := (h - 1)) (n := (S 228 (-1))) ((w_up_slot (by decide)).trans ((w_up_slot (by decide)).trans (w_up_same _ _ _ _))) ((w_up_slot (by decide)).trans ((w_up_slot (by decide)).trans ((w_up_slot (by decide)).trans (rfl)))) ((w_up_slot (by decide)).trans ((w_up_slot (by decide)).trans ((w_up_slot (by decide)).trans (bl1)))) (by omega) (by omega) (by omega) (by omega))) (fun oq15 Sq15 hp16 q15 => ?_)
      rcases q15 with ⟨rfl, ra15⟩
      show wJ _ _ _ _ _ _ _ _ _ _
      refine wa_fall ⟨_, rfl⟩ ?_
      refine wa_return rfl ?_
      show wJ _ _ _ _ _ _ _ _ _ _
      refine wa_goto ⟨_, rfl⟩ ?_
      refine wa_return rfl ?_
      show wJ _ _ _ _ _ _ _ _ _ _
      refine wa_fall ⟨_, rfl⟩ ?_
      refine wa_return rfl ?_
      exact ⟨rfl, ky, vy, Or.inr ⟨by omega, rfl, rfl⟩, Or.inr ⟨by omega, ra15⟩⟩
    · skip
      refine wa_aload_n (n := 0) rfl ?_
      refine wa_iconst ?_
      refine wa_iload_n (n := 2) rfl ?_
      refine wa_lload_n (n := 3) rfl ?_
      refine wa_cv 226 rfl (wy_pr rfl) wt_226 (M2 := mS [228, 229]) rfl at_XK_end ⟨_, rfl⟩ rfl rfl ⟨(Or.inr ⟨wy_pr rfl, mS_no rfl⟩), trivial, trivial, trivial, trivial⟩ trivial (fun _ _ q => q) ?_ (fun _ _ _ q => q)
      refine wa_aload_n (n := 0) rfl ?_
      refine wa_cv 226 rfl (wy_pr rfl) wt_226 (M2 := mS [228, 229]) rfl at_XK_clear ⟨_, rfl⟩ rfl rfl ⟨(Or.inr ⟨wy_pr rfl, mS_no rfl⟩), trivial, trivial, trivial, trivial⟩ trivial (fun _ _ q => q) ?_ (fun _ _ _ q => q)
      refine wa_aload_n (n := 0) rfl ?_
      refine wa_iconst ?_
      refine wb_pfi 226 rfl (wy_pr rfl) wt_226 wf_8_13 (n := 13) rfl ⟨(by omega), (by omega)⟩ ?_
      refine wa_aload_n (n := 0) rfl ?_
      refine wa_iconst ?_
      refine wb_pfi 226 rfl (wy_pr rfl) wt_226 wf_8_4 (n := 4) rfl ⟨(by omega), (by omega)⟩ ?_
      refine wa_aload_n (n := 0) rfl ?_
      refine wb_gf4 226 rfl (wy_pr rfl) wt_226 wf_8_3 (v := 227) wl_226_3 ?_
      refine wa_iconst ?_
      refine wb_pfi 227 rfl (wy_pr rfl) wt_227 wf_7_2 (n := 2) rfl ⟨(by omega), (by omega)⟩ ?_
      refine wa_aload_n (n := 0) rfl ?_
      refine wa_iconst ?_
      refine wb_pfi 226 rfl (wy_pr rfl) wt_226 wf_8_12 (n := 12) rfl ⟨(by omega), (by omega)⟩ ?_
      refine wa_return rfl ?_
      show wJ _ _ _ _ _ _ _ _ _ _
      refine wa_aload_n (n := 0) rfl ?_
      refine wa_iload_n (n := 1) rfl ?_
      refine wb_pfi 226 rfl (wy_pr rfl) wt_226 wf_8_13 (n := 13) rfl ⟨(by omega), (by omega)⟩ ?_
      refine wa_aload_n (n := 0) rfl ?_
      refine wa_iload_n (n := 2) rfl ?_
      refine wb_pfi 226 rfl (wy_pr rfl) wt_226 wf_8_14 (n := 14) rfl ⟨(by omega), (by omega)⟩ ?_
      refine wa_aload_n (n := 0) rfl ?_
      refine wa_lload_n (n := 3) rfl ?_
      refine wb_pfl 226 rfl (wy_pr rfl) wt_226 wf_8_15 (n := 15) rfl ⟨(by omega), (by omega)⟩ ?_
      refine wa_return rfl ?_
      show wJ _ _ _ _ _ _ _ _ _ _
      refine wa_goto ⟨_, rfl⟩ ?_
      refine wa_return rfl ?_
      show wJ _ _ _ _ _ _ _ _ _ _
      refine wa_goto ⟨_, rfl⟩ ?_
      refine wa_return rfl ?_
      show wJ _ _ _ _ _ _ _ _ _ _
      refine wa_fall ⟨_, rfl⟩ ?_
      refine wa_return rfl ?_
      exact ⟨rfl, ky, vy, Or.inr ⟨by omega, rfl, rfl⟩, Or.inl ⟨by omega, rfl⟩⟩
  · skip
    refine wa_iload_n (n := 2) rfl ?_
    refine wa_iconst ?_
    refine wa_icmpeq (w_rg0 (by omega) (by omega)) (w_rg0 (by omega) (by omega)) ⟨_, rfl⟩ (fun c17 => ?_) (fun c17 => ?_)
    · skip
      have hW : w_CL (w_up S 227 2 (h - 1)) := (w_CL_up hC (by omega))
      have hGI : gI (w_up S 227 2 (h - 1)) := (gI_up hI (by omega) (by omega) (by omega))
      refine wJ_S (cl_c_226 (S := (w_up S 227 2 (h - 1))) (c := c) (k1 := ky) (v1 := vy) (q := q) hW (((w_up_slot (by decide)).trans (bc))) (by show S 236 (-1) ≤ 60000; omega) (((w_up_slot (by decide)).trans (bz))) (by show 3 * (q : Int) ≤ S 236 (-1); omega) ?_) ⟨rfl, rfl, rfl, rfl, trivial⟩
      show wJ _ _ _ _ _ _ _ _ (w_up (w_up S 227 2 (h - 1)) 226 12 (td (S 236) c q (3 * (q : Int)))) _
      refine wa_aload_n (n := 0) rfl ?_
      refine wa_dup (by decide) ?_
      refine wb_gfi 226 rfl (wy_pr rfl) wt_226 wf_8_4 (v := c) ((w_up_at (by decide)).trans ((w_up_slot (by decide)).trans (bc))) (fun r18 => ?_)
      refine wa_iconst ?_
      refine wa_isub ?_
      refine wb_pfi 226 rfl (wy_pr rfl) wt_226 wf_8_4 (n := 4) rfl ⟨(by omega), (by omega)⟩ ?_
      refine wa_aload_n (n := 0) rfl ?_
      refine wb_gfi 226 rfl (wy_pr rfl) wt_226 wf_8_4 (v := (c - 1)) (w_up_same _ _ _ _) (fun r19 => ?_)
      refine wa_ifne (w_rg0 (by omega) (by omega)) ⟨_, rfl⟩ (fun c20 => ?_) (fun c20 => ?_)
      · skip
        refine wa_aload_n (n := 0) rfl ?_
        refine wb_gf4 226 rfl (wy_pr rfl) wt_226 wf_8_3 (v := 227) wl_226_3 ?_
        refine wa_iload_n (n := 2) rfl ?_
        refine wa_lload_n (n := 3) rfl ?_
        refine wa_cv 227 rfl (wy_pr rfl) wt_227 (M2 := mS [228, 229]) rfl at_XV_add ⟨_, rfl⟩ rfl rfl ⟨(Or.inr ⟨wy_pr rfl, mS_no rfl⟩), trivial, trivial, trivial, trivial⟩ trivial (fun _ _ q => q) (ra_227 (S := (w_up (w_up (w_up S 227 2 (h - 1)) 226 12 (td (S 236) c q (3 * (q : Int)))) 226 4 (c - 1))) (k := ky) (v := vy) (gI_up (gI_up (gI_up hI (by omega) (by omega) (by omega)) (by omega) (by omega) (by omega)) (by omega) (by omega) (by omega)) ⟨by omega, by omega⟩ ⟨by omega, by omega⟩ (rw_L_mk (S := (w_up (w_up (w_up S 227 2 (h - 1)) 226 12 (td (S 236) c q (3 * (q : Int)))) 226 4 (c - 1))) (r := 227) (a := 228) (b := 229) (h := (h - 1)) (n := (S 228 (-1))) ((w_up_slot (by decide)).trans ((w_up_slot (by decide)).trans (w_up_same _ _ _ _))) ((w_up_slot (by decide)).trans ((w_up_slot (by decide)).trans ((w_up_slot (by decide)).trans (rfl)))) ((w_up_slot (by decide)).trans ((w_up_slot (by decide)).trans ((w_up_slot (by decide)).trans (bl1)))) (by omega) (by omega) (by omega) (by omega))) (fun oq21 Sq21 hp22 q21 => ?_)
        rcases q21 with ⟨rfl, ra21⟩
        show wJ _ _ _ _ _ _ _ _ _ _
        refine wa_fall ⟨_, rfl⟩ ?_
        refine wa_return rfl ?_
        show wJ _ _ _ _ _ _ _ _ _ _
        refine wa_goto ⟨_, rfl⟩ ?_
        refine wa_return rfl ?_
        show wJ _ _ _ _ _ _ _ _ _ _
        refine wa_fall ⟨_, rfl⟩ ?_
        refine wa_return rfl ?_
        exact ⟨rfl, ky, vy, Or.inr ⟨by omega, rfl, rfl⟩, Or.inr ⟨by omega, ra21⟩⟩
      · skip
        refine wa_aload_n (n := 0) rfl ?_
        refine wa_iconst ?_
        refine wa_iload_n (n := 2) rfl ?_
        refine wa_lload_n (n := 3) rfl ?_
        refine wa_cv 226 rfl (wy_pr rfl) wt_226 (M2 := mS [228, 229]) rfl at_XK_end ⟨_, rfl⟩ rfl rfl ⟨(Or.inr ⟨wy_pr rfl, mS_no rfl⟩), trivial, trivial, trivial, trivial⟩ trivial (fun _ _ q => q) ?_ (fun _ _ _ q => q)
        refine wa_aload_n (n := 0) rfl ?_
        refine wa_cv 226 rfl (wy_pr rfl) wt_226 (M2 := mS [228, 229]) rfl at_XK_clear ⟨_, rfl⟩ rfl rfl ⟨(Or.inr ⟨wy_pr rfl, mS_no rfl⟩), trivial, trivial, trivial, trivial⟩ trivial (fun _ _ q => q) ?_ (fun _ _ _ q => q)
        refine wa_aload_n (n := 0) rfl ?_
        refine wa_iconst ?_
        refine wb_pfi 226 rfl (wy_pr rfl) wt_226 wf_8_13 (n := 13) rfl ⟨(by omega), (by omega)⟩ ?_
        refine wa_aload_n (n := 0) rfl ?_
        refine wa_iconst ?_
        refine wb_pfi 226 rfl (wy_pr rfl) wt_226 wf_8_4 (n := 4) rfl ⟨(by omega), (by omega)⟩ ?_
        refine wa_aload_n (n := 0) rfl ?_
        refine wb_gf4 226 rfl (wy_pr rfl) wt_226 wf_8_3 (v := 227) wl_226_3 ?_
        refine wa_iconst ?_
        refine wb_pfi 227 rfl (wy_pr rfl) wt_227 wf_7_2 (n := 2) rfl ⟨(by omega), (by omega)⟩ ?_
        refine wa_aload_n (n := 0) rfl ?_
        refine wa_iconst ?_
        refine wb_pfi 226 rfl (wy_pr rfl) wt_226 wf_8_12 (n := 12) rfl ⟨(by omega), (by omega)⟩ ?_
        refine wa_return rfl ?_
        show wJ _ _ _ _ _ _ _ _ _ _
        refine wa_aload_n (n := 0) rfl ?_
        refine wa_iload_n (n := 1) rfl ?_
        refine wb_pfi 226 rfl (wy_pr rfl) wt_226 wf_8_13 (n := 13) rfl ⟨(by omega), (by omega)⟩ ?_
        refine wa_aload_n (n := 0) rfl ?_
        refine wa_iload_n (n := 2) rfl ?_
        refine wb_pfi 226 rfl (wy_pr rfl) wt_226 wf_8_14 (n := 14) rfl ⟨(by omega), (by omega)⟩ ?_
        refine wa_aload_n (n := 0) rfl ?_
        refine wa_lload_n (n := 3) rfl ?_
        refine wb_pfl 226 rfl (wy_pr rfl) wt_226 wf_8_15 (n := 15) rfl ⟨(by omega), (by omega)⟩ ?_
        refine wa_return rfl ?_
        show wJ _ _ _ _ _ _ _ _ _ _
        refine wa_goto ⟨_, rfl⟩ ?_
        refine wa_return rfl ?_
        show wJ _ _ _ _ _ _ _ _ _ _
        refine wa_goto ⟨_, rfl⟩ ?_
        refine wa_return rfl ?_
        show wJ _ _ _ _ _ _ _ _ _ _
        refine wa_fall ⟨_, rfl⟩ ?_
        refine wa_return rfl ?_
        exact ⟨rfl, ky, vy, Or.inr ⟨by omega, rfl, rfl⟩, Or.inl ⟨by omega, rfl⟩⟩
    · skip
      refine wa_aload_n (n := 0) rfl ?_
      refine wb_gf4 226 rfl (wy_pr rfl) wt_226 wf_8_8 (v := 233) wl_226_8 ?_
      refine wa_iload_n (n := 1) rfl ?_
      refine wb_bald 233 rfl (wy_pr rfl) wt_233 (n := 200) ((w_up_slot (by decide)).trans ((cl_233 hC))) (by omega) (by omega) (v := tk) ((w_up_slot (by decide)).trans (htk)) (fun r23 => ?_)
      refine wa_fall ⟨_, rfl⟩ ?_
      refine wa_istore_n (n := 2) rfl ?_
      refine wa_aload_n (n := 0) rfl ?_
      refine wb_gf4 226 rfl (wy_pr rfl) wt_226 wf_8_9 (v := 234) wl_226_9 ?_
      refine wa_iload_n (n := 1) rfl ?_
      refine wb_lald 234 rfl (wy_pr rfl) wt_234 (n := 200) ((w_up_slot (by decide)).trans ((cl_234 hC))) (by omega) (by omega) (v := tv) ((w_up_slot (by decide)).trans (htv)) (fun r24 => ?_)
      refine wa_lstore_n (n := 3) rfl ?_
      refine wa_fall ⟨_, rfl⟩ ?_
      have hW : w_CL (w_up S 227 2 (h - 1)) := (w_CL_up hC (by omega))
      have hGI : gI (w_up S 227 2 (h - 1)) := (gI_up hI (by omega) (by omega) (by omega))
      refine wJ_S (cl_c_226 (S := (w_up S 227 2 (h - 1))) (c := c) (k1 := tk) (v1 := tv) (q := q) hW (((w_up_slot (by decide)).trans (bc))) (by show S 236 (-1) ≤ 60000; omega) (((w_up_slot (by decide)).trans (bz))) (by show 3 * (q : Int) ≤ S 236 (-1); omega) ?_) ⟨rfl, rfl, rfl, rfl, trivial⟩
      show wJ _ _ _ _ _ _ _ _ (w_up (w_up S 227 2 (h - 1)) 226 12 (td (S 236) c q (3 * (q : Int)))) _
      refine wa_aload_n (n := 0) rfl ?_
      refine wa_dup (by decide) ?_
      refine wb_gfi 226 rfl (wy_pr rfl) wt_226 wf_8_4 (v := c) ((w_up_at (by decide)).trans ((w_up_slot (by decide)).trans (bc))) (fun r25 => ?_)
      refine wa_iconst ?_
      refine wa_isub ?_
      refine wb_pfi 226 rfl (wy_pr rfl) wt_226 wf_8_4 (n := 4) rfl ⟨(by omega), (by omega)⟩ ?_
      refine wa_aload_n (n := 0) rfl ?_
      refine wb_gfi 226 rfl (wy_pr rfl) wt_226 wf_8_4 (v := (c - 1)) (w_up_same _ _ _ _) (fun r26 => ?_)
      refine wa_ifne (w_rg0 (by omega) (by omega)) ⟨_, rfl⟩ (fun c27 => ?_) (fun c27 => ?_)
      · skip
        refine wa_aload_n (n := 0) rfl ?_
        refine wb_gf4 226 rfl (wy_pr rfl) wt_226 wf_8_3 (v := 227) wl_226_3 ?_
        refine wa_iload_n (n := 2) rfl ?_
        refine wa_lload_n (n := 3) rfl ?_
        refine wa_cv 227 rfl (wy_pr rfl) wt_227 (M2 := mS [228, 229]) rfl at_XV_add ⟨_, rfl⟩ rfl rfl ⟨(Or.inr ⟨wy_pr rfl, mS_no rfl⟩), trivial, trivial, trivial, trivial⟩ trivial (fun _ _ q => q) (ra_227 (S := (w_up (w_up (w_up S 227 2 (h - 1)) 226 12 (td (S 236) c q (3 * (q : Int)))) 226 4 (c - 1))) (k := tk) (v := tv) (gI_up (gI_up (gI_up hI (by omega) (by omega) (by omega)) (by omega) (by omega) (by omega)) (by omega) (by omega) (by omega)) ⟨by omega, by omega⟩ ⟨by omega, by omega⟩ (rw_L_mk (S := (w_up (w_up (w_up S 227 2 (h - 1)) 226 12 (td (S 236) c q (3 * (q : Int)))) 226 4 (c - 1))) (r := 227) (a := 228) (b := 229) (h := (h - 1)) (n := (S 228 (-1))) ((w_up_slot (by decide)).trans ((w_up_slot (by decide)).trans (w_up_same _ _ _ _))) ((w_up_slot (by decide)).trans ((w_up_slot (by decide)).trans ((w_up_slot (by decide)).trans (rfl)))) ((w_up_slot (by decide)).trans ((w_up_slot (by decide)).trans ((w_up_slot (by decide)).trans (bl1)))) (by omega) (by omega) (by omega) (by omega))) (fun oq28 Sq28 hp29 q28 => ?_)
        rcases q28 with ⟨rfl, ra28⟩
        show wJ _ _ _ _ _ _ _ _ _ _
        refine wa_fall ⟨_, rfl⟩ ?_
        refine wa_return rfl ?_
        show wJ _ _ _ _ _ _ _ _ _ _
        refine wa_goto ⟨_, rfl⟩ ?_
        refine wa_return rfl ?_
        show wJ _ _ _ _ _ _ _ _ _ _
        refine wa_fall ⟨_, rfl⟩ ?_
        refine wa_return rfl ?_
        exact ⟨rfl, tk, tv, Or.inl ⟨by omega, rfl, rfl⟩, Or.inr ⟨by omega, ra28⟩⟩
      · skip
        refine wa_aload_n (n := 0) rfl ?_
        refine wa_iconst ?_
        refine wa_iload_n (n := 2) rfl ?_
        refine wa_lload_n (n := 3) rfl ?_
        refine wa_cv 226 rfl (wy_pr rfl) wt_226 (M2 := mS [228, 229]) rfl at_XK_end ⟨_, rfl⟩ rfl rfl ⟨(Or.inr ⟨wy_pr rfl, mS_no rfl⟩), trivial, trivial, trivial, trivial⟩ trivial (fun _ _ q => q) ?_ (fun _ _ _ q => q)
        refine wa_aload_n (n := 0) rfl ?_
        refine wa_cv 226 rfl (wy_pr rfl) wt_226 (M2 := mS [228, 229]) rfl at_XK_clear ⟨_, rfl⟩ rfl rfl ⟨(Or.inr ⟨wy_pr rfl, mS_no rfl⟩), trivial, trivial, trivial, trivial⟩ trivial (fun _ _ q => q) ?_ (fun _ _ _ q => q)
        refine wa_aload_n (n := 0) rfl ?_
        refine wa_iconst ?_
        refine wb_pfi 226 rfl (wy_pr rfl) wt_226 wf_8_13 (n := 13) rfl ⟨(by omega), (by omega)⟩ ?_
        refine wa_aload_n (n := 0) rfl ?_
        refine wa_iconst ?_
        refine wb_pfi 226 rfl (wy_pr rfl) wt_226 wf_8_4 (n := 4) rfl ⟨(by omega), (by omega)⟩ ?_
        refine wa_aload_n (n := 0) rfl ?_
        refine wb_gf4 226 rfl (wy_pr rfl) wt_226 wf_8_3 (v := 227) wl_226_3 ?_
        refine wa_iconst ?_
        refine wb_pfi 227 rfl (wy_pr rfl) wt_227 wf_7_2 (n := 2) rfl ⟨(by omega), (by omega)⟩ ?_
        refine wa_aload_n (n := 0) rfl ?_
        refine wa_iconst ?_
        refine wb_pfi 226 rfl (wy_pr rfl) wt_226 wf_8_12 (n := 12) rfl ⟨(by omega), (by omega)⟩ ?_
        refine wa_return rfl ?_
        show wJ _ _ _ _ _ _ _ _ _ _
        refine wa_aload_n (n := 0) rfl ?_
        refine wa_iload_n (n := 1) rfl ?_
        refine wb_pfi 226 rfl (wy_pr rfl) wt_226 wf_8_13 (n := 13) rfl ⟨(by omega), (by omega)⟩ ?_
        refine wa_aload_n (n := 0) rfl ?_
        refine wa_iload_n (n := 2) rfl ?_
        refine wb_pfi 226 rfl (wy_pr rfl) wt_226 wf_8_14 (n := 14) rfl ⟨(by omega), (by omega)⟩ ?_
        refine wa_aload_n (n := 0) rfl ?_
        refine wa_lload_n (n := 3) rfl ?_
        refine wb_pfl 226 rfl (wy_pr rfl) wt_226 wf_8_15 (n := 15) rfl ⟨(by omega), (by omega)⟩ ?_
        refine wa_return rfl ?_
        show wJ _ _ _ _ _ _ _ _ _ _
        refine wa_goto ⟨_, rfl⟩ ?_
        refine wa_return rfl ?_
        show wJ _ _ _ _ _ _ _ _ _ _
        refine wa_goto ⟨_, rfl⟩ ?_
        refine wa_return rfl ?_
        show wJ _ _ _ _ _ _ _ _ _ _
        refine wa_fall ⟨_, rfl⟩ ?_
        refine wa_return rfl ?_
        exact ⟨rfl, tk, tv, Or.inl ⟨by omega, rfl, rfl⟩, Or.inl ⟨by omega, rfl⟩⟩
end Wdx
