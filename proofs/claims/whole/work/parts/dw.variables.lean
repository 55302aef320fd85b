/-! PART dw: instructions of the class: variables, globals, tries, RETURN. -/
section Wdw
variable {xs : List (Nat × List Int32)} {d : Nat} {S Z A B : wS}
/-- calls further out -/
def cO (B : Int → Int) : Nat → Int → Int
  | 0, x => x
  | n + 1, x => cO B n (B x)
/-- globals that have no value yet come to the row -/
def gs_ag (a : Int) (S Z : wS) : Prop := (Z 153 2 = if S 153 2 ≤ a then a + 1 else S 153 2) ∧ (∀ i : Int, 0 ≤ i → i < S 153 2 → Z 154 i = S 154 i ∧ Z 155 i = S 155 i) ∧ (∀ i : Int, S 153 2 ≤ i → i < Z 153 2 → Z 154 i = -1 ∧ Z 155 i = 0) ∧ (∀ (j : Nat) (i : Int), j < 4000000 → j ≠ wG → j ≠ 154 → j ≠ 155 → (j ≠ 153 ∨ i ≠ 2) → Z j i = S j i) ∧ (Z 155 (-1) = Z 154 (-1) ∧ Z 153 2 ≤ Z 154 (-1) ∧ S 154 (-1) ≤ Z 154 (-1) ∧ (Z 154 (-1) = S 154 (-1) ∨ Z 154 (-1) ≤ 2 * a)) ∧ gI Z ∧ rmR S Z
theorem gs_0 {a : Int} (h : a < S 153 2) (hI : gI S) (hl : S 155 (-1) = S 154 (-1)) (hn : S 153 2 ≤ S 154 (-1)) : gs_ag a S S := ⟨by rw [if_neg (by omega)], fun _ _ _ => ⟨rfl, rfl⟩, fun i q1 q2 => by omega, fun _ _ _ _ _ _ _ => rfl, ⟨hl, hn, Int.le_refl _, Or.inl rfl⟩, hI, rmR_rfl _⟩
theorem gs_s {a : Int} (h : S 153 2 ≤ a) (h0 : 0 ≤ S 153 2) (r : ra_ag 153 154 155 S A (-1) 0) (g : gs_ag a A Z) : gs_ag a S Z := by
  obtain ⟨r1, ⟨r2, r3⟩, r4, r5, ⟨r6, r7, r8⟩, r9, r10⟩ := r
  obtain ⟨g1, g2, g3, g4, ⟨g5, g6, g7, g8⟩, g9, g10⟩ := g
  rw [r1] at g1 g2 g3
  have hz : Z 153 2 = a + 1 := by rw [g1]; split <;> omega
  refine ⟨by rw [hz, if_pos h], fun i i0 i1 => ?_, fun i i0 i1 => ?_, fun j i j0 j1 j2 j3 j4 => (g4 j i j0 j1 j2 j3 j4).trans (r5 j i j0 j1 j2 j3 j4), ⟨g5, g6, ?_, ?_⟩, g9, rmR_tr r10 g10⟩
  · obtain ⟨a1, a2⟩ := g2 i i0 (by omega)
    obtain ⟨b1, b2⟩ := r4 i i0 i1
    exact ⟨a1.trans b1, a2.trans b2⟩
  · by_cases e : i = S 153 2
    · subst e
      obtain ⟨a1, a2⟩ := g2 (S 153 2) h0 (by omega)
      exact ⟨a1.trans r2, a2.trans r3⟩
    · exact g3 i (by omega) i1
  · omega
  · omega
theorem vl_215 {M : Nat → Prop} {a m : Int} (hC : w_CL S) (hm : 0 ≤ m ∧ m ≤ S 138 (-1)) (hl : S 139 (-1) = S 138 (-1)) (ha : 0 ≤ a ∧ a ≤ 100000) : ∀ (n : Nat) (x i : Int), i + (n : Int) = a → 0 ≤ i → (∀ j : Nat, j ≤ n → 0 ≤ cO (S 139) j x ∧ cO (S 139) j x < m) → wJ (pe_GA xs) wY0 M d t_XK_variablesOut ((pe_at t_XK_variablesOut.bl 1).getD (0, [])).2 [(0, (2, 215)), (1, (0, a)), (2, (0, x)), (3, (0, i))] [] S (fun o Z => S = Z ∧ o = .inl (some (0, S 138 (cO (S 139) n x)))) := by
  intro n
  induction n with
  | zero =>
    intro x i h1 h2 hj
    have hx0 : 0 ≤ x ∧ x < m := hj 0 (Nat.le_refl _)
    refine wa_iload_n (n := 3) rfl ?_
    refine wa_iload_n (n := 1) rfl ?_
    refine wa_icmpge (w_rg0 (by omega) (by omega)) (w_rg0 (by omega) (by omega)) ⟨_, rfl⟩ (fun c1 => ?_) (fun c1 => ?_)
    · skip
      refine wa_aload_n (n := 0) rfl ?_
      refine wb_gf4 215 rfl (wy_pr rfl) wt_215 wf_8_0 (v := 72) wl_215_0 ?_
      refine wb_gf4 72 rfl (wy_pr rfl) wt_72 wf_2_4 (v := 137) wl_72_4 ?_
      refine wa_iconst ?_
      refine wb_aald5 137 0 rfl rfl (wy_pr rfl) wt_137 (by rw [show _ = _ from ((cl_137 hC))]; omega) wl_137_0 ?_
      refine wa_iload_n (n := 2) rfl ?_
      refine wb_iald 138 rfl (wy_pr rfl) wt_138 (n := (S 138 (-1))) (rfl) (by omega) (by omega) (v := (S 138 x)) rfl (fun r2 => ?_)
      refine wa_ireturn rfl ?_
      exact ⟨rfl, rfl⟩
    · skip
      exfalso; omega
  | succ n ih =>
    intro x i h1 h2 hj
    have hx0 : 0 ≤ x ∧ x < m := hj 0 (Nat.zero_le _)
    have hx1 : 0 ≤ S 139 x ∧ S 139 x < m := hj 1 (by omega)
    refine wa_iload_n (n := 3) rfl ?_
    refine wa_iload_n (n := 1) rfl ?_
    refine wa_icmpge (w_rg0 (by omega) (by omega)) (w_rg0 (by omega) (by omega)) ⟨_, rfl⟩ (fun c1 => ?_) (fun c1 => ?_)
    · skip
      exfalso; omega
    · skip
      refine wa_aload_n (n := 0) rfl ?_
      refine wb_gf4 215 rfl (wy_pr rfl) wt_215 wf_8_0 (v := 72) wl_215_0 ?_
      refine wb_gf4 72 rfl (wy_pr rfl) wt_72 wf_2_4 (v := 137) wl_72_4 ?_
      refine wa_iconst ?_
      refine wb_aald5 137 1 rfl rfl (wy_pr rfl) wt_137 (by rw [show _ = _ from ((cl_137 hC))]; omega) wl_137_1 ?_
      refine wa_iload_n (n := 2) rfl ?_
      refine wb_iald 139 rfl (wy_pr rfl) wt_139 (n := (S 138 (-1))) (hl) (by omega) (by omega) (v := (S 139 x)) rfl (fun r2 => ?_)
      refine wa_iconst ?_
      refine wa_icmpeq (w_rg0 (by omega) (by omega)) (w_rg0 (by omega) (by omega)) ⟨_, rfl⟩ (fun c3 => ?_) (fun c3 => ?_)
      · skip
        exfalso; omega
      · skip
        refine wa_aload_n (n := 0) rfl ?_
        refine wb_gf4 215 rfl (wy_pr rfl) wt_215 wf_8_0 (v := 72) wl_215_0 ?_
        refine wb_gf4 72 rfl (wy_pr rfl) wt_72 wf_2_4 (v := 137) wl_72_4 ?_
        refine wa_iconst ?_
        refine wb_aald5 137 1 rfl rfl (wy_pr rfl) wt_137 (by rw [show _ = _ from ((cl_137 hC))]; omega) wl_137_1 ?_
        refine wa_iload_n (n := 2) rfl ?_
        refine wb_iald 139 rfl (wy_pr rfl) wt_139 (n := (S 138 (-1))) (hl) (by omega) (by omega) (v := (S 139 x)) rfl (fun r4 => ?_)
        refine wa_istore_n (n := 2) rfl ?_
        refine wa_iinc rfl rfl ?_
        refine wa_goto ⟨_, rfl⟩ ?_
        exact wJ_S (ih (S 139 x) (i + 1) (by omega) (by omega) (fun j hj2 => hj (j + 1) (by omega))) ⟨rfl, rfl, rfl, rfl, trivial⟩
theorem vo_215 {M : Nat → Prop} {a m c x u : Int} (hC : w_CL S) (bc : S 215 4 = c) (bc0 : 1 ≤ c ∧ c ≤ 200) (hx : S 221 (c - 1) = x) (hm : 0 ≤ m ∧ m ≤ S 138 (-1)) (hl : S 139 (-1) = S 138 (-1)) (ha : 0 ≤ a ∧ a ≤ 100000) (hj : ∀ j : Nat, j ≤ a.toNat → 0 ≤ cO (S 139) j x ∧ cO (S 139) j x < m) (hu : S 138 (cO (S 139) a.toNat x) = u) : wJ (pe_GA xs) wY0 M d t_XK_variablesOut ((pe_at t_XK_variablesOut.bl 0).getD (0, [])).2 [(0, (2, 215)), (1, (0, a))] [] S (fun o Z => S = Z ∧ o = .inl (some (0, u))) := by
  subst hu
  refine wa_aload_n (n := 0) rfl ?_
  refine wb_gf4 215 rfl (wy_pr rfl) wt_215 wf_8_7 (v := 221) wl_215_7 ?_
  refine wa_aload_n (n := 0) rfl ?_
  refine wb_gfi 215 rfl (wy_pr rfl) wt_215 wf_8_4 (v := c) (bc) (fun r1 => ?_)
  refine wa_iconst ?_
  refine wa_isub ?_
  refine wb_iald 221 rfl (wy_pr rfl) wt_221 (n := 200) ((cl_221 hC)) (by omega) (by omega) (v := x) (hx) (fun r2 => ?_)
  refine wa_istore_n (n := 2) rfl ?_
  refine wa_iconst ?_
  refine wa_istore_n (n := 3) rfl ?_
  refine wa_fall ⟨_, rfl⟩ ?_
  exact wJ_S (vl_215 hC hm hl ha a.toNat x 0 (by omega) (by omega) hj) ⟨rfl, rfl, rfl, rfl, trivial⟩
theorem x1_215 {c p h a b x m u ky vy : Int} (hP : xP 215 c p h S) (hab : (-2147483648 ≤ a ∧ a ≤ 2147483647) ∧ (-2147483648 ≤ b ∧ b ≤ 2147483647)) (hx : S 221 (c - 1) = x) (hm : 0 ≤ m ∧ m ≤ S 138 (-1)) (hl : S 139 (-1) = S 138 (-1)) (ha : 0 ≤ a ∧ a ≤ 100000) (hb : 0 ≤ b ∧ b ≤ 100000) (hj : ∀ j : Nat, j ≤ a.toNat → 0 ≤ cO (S 139) j x ∧ cO (S 139) j x < m) (hu : S 138 (cO (S 139) a.toNat x) = u) (hu1 : 0 ≤ u ∧ u + b < S 141 (-1)) (hl2 : S 142 (-1) = S 141 (-1)) (hl3 : S 141 (-1) ≤ 8388608) (hky : S 141 (u + b) = ky) (hvy : S 142 (u + b) = vy) : wJ (pe_GA xs) wY0 (mS [217, 218]) (d + 11) t_XK_perform ((pe_at t_XK_perform.bl 0).getD (0, [])).2 [(0, (2, 215)), (1, (0, 1)), (2, (0, a)), (3, (0, b))] [] S (fun o Z => o = .inl none ∧ sO 215 h c p (0) (ky) (vy) S Z) := by
  obtain ⟨⟨hC, hI⟩, ⟨bc, bc0, bc1⟩, ⟨bp, bp0, bp1⟩, ⟨bh, bh0, bh1, bh2⟩, bl1, bl2, bl3⟩ := hP
  replace bp : S 220 (c - 1) = p := bp
  replace bh : S 216 2 = h := bh
  replace bh2 : h ≤ S 217 (-1) := bh2
  replace bl1 : S 218 (-1) = S 217 (-1) := bl1
  replace bl2 : 64 ≤ S 217 (-1) := bl2
  replace bl3 : S 217 (-1) ≤ 4095 := bl3
  refine wa_aload_n (n := 0) rfl ?_
  refine wb_gf4 215 rfl (wy_pr rfl) wt_215 wf_8_3 (v := 216) wl_215_3 ?_
  refine wb_gfi 216 rfl (wy_pr rfl) wt_216 wf_7_2 (v := h) (bh) (fun r1 => ?_)
  refine wa_iconst ?_
  refine wa_isub ?_
  refine wa_istore (n := 4) rfl ?_
  refine wa_iload_n (n := 1) rfl ?_
  refine wb_sw (w_rg0 (by omega) (by omega)) (tb := 2) rfl ⟨_, rfl⟩ ?_
  refine wa_aload_n (n := 0) rfl ?_
  refine wa_iload_n (n := 2) rfl ?_
  refine wa_cv 215 rfl (wy_pr rfl) wt_215 (M2 := fun _ => False) rfl at_XK_variablesOut ⟨_, rfl⟩ rfl rfl ⟨trivial, (Or.inr ⟨wy_pr rfl, fun q => q⟩), trivial, trivial, trivial, trivial⟩ trivial (fun _ _ q => False.elim q) (vo_215 (S := S) hC bc ⟨bc0, bc1⟩ hx hm hl ha hj hu) (fun oq2 Sq2 hp3 q2 => ?_)
  rcases q2 with ⟨rfl, rfl⟩
  show wJ _ _ _ _ _ _ _ _ _ _
  refine wa_iload_n (n := 3) rfl ?_
  refine wa_iadd ?_
  refine wa_istore (n := 5) rfl ?_
  refine wa_aload_n (n := 0) rfl ?_
  refine wa_iconst ?_
  refine wa_aload_n (n := 0) rfl ?_
  refine wb_gf4 215 rfl (wy_pr rfl) wt_215 wf_8_0 (v := 72) wl_215_0 ?_
  refine wb_gf4 72 rfl (wy_pr rfl) wt_72 wf_2_6 (v := 140) wl_72_6 ?_
  refine wb_gf4 140 rfl (wy_pr rfl) wt_140 wf_7_0 (v := 141) wl_140_0 ?_
  refine wa_iload (n := 5) rfl ?_
  refine wb_bald 141 rfl (wy_pr rfl) wt_141 (n := (S 141 (-1))) (rfl) (by omega) (by omega) (v := ky) (hky) (fun r4 => ?_)
  refine wa_aload_n (n := 0) rfl ?_
  refine wb_gf4 215 rfl (wy_pr rfl) wt_215 wf_8_0 (v := 72) wl_215_0 ?_
  refine wb_gf4 72 rfl (wy_pr rfl) wt_72 wf_2_6 (v := 140) wl_72_6 ?_
  refine wb_gf4 140 rfl (wy_pr rfl) wt_140 wf_7_1 (v := 142) wl_140_1 ?_
  refine wa_iload (n := 5) rfl ?_
  refine wb_lald 142 rfl (wy_pr rfl) wt_142 (n := (S 141 (-1))) (hl2) (by omega) (by omega) (v := vy) (hvy) (fun r5 => ?_)
  refine wa_cv 215 rfl (wy_pr rfl) wt_215 (M2 := mS [217, 218]) rfl at_XK_give ⟨_, rfl⟩ rfl rfl ⟨trivial, trivial, (Or.inr ⟨wy_pr rfl, mS_no rfl⟩), trivial, trivial, trivial, trivial⟩ trivial (fun _ _ q => q) (gw_215 (S := S) (n := 0) (k := ky) (v := vy) (h := h) (c := c) (p := p) (ln := (S 217 (-1))) hC hI ⟨by omega, by omega⟩ ⟨by omega, by omega⟩ (bh) (bc) (bp) (rfl) (bl1) ⟨by omega, by omega⟩ ⟨by omega, by omega, by omega⟩ ⟨by omega, by omega⟩ ⟨by omega, by omega⟩) (fun oq6 Sq6 hp7 q6 => ?_)
  rcases q6 with ⟨rfl, A6, ra6, rfl⟩
  show wJ _ _ _ _ _ _ _ _ _ _
  refine wa_goto ⟨_, rfl⟩ ?_
  refine wa_return rfl ?_
  exact ⟨rfl, A6, ra6, rfl⟩
theorem x2_215 {c p h a b x m u ky vy : Int} (hP : xP 215 c p h S) (hab : (-2147483648 ≤ a ∧ a ≤ 2147483647) ∧ (-2147483648 ≤ b ∧ b ≤ 2147483647)) (hx : S 221 (c - 1) = x) (hm : 0 ≤ m ∧ m ≤ S 138 (-1)) (hl : S 139 (-1) = S 138 (-1)) (ha : 0 ≤ a ∧ a ≤ 100000) (hb : 0 ≤ b ∧ b ≤ 100000) (hj : ∀ j : Nat, j ≤ a.toNat → 0 ≤ cO (S 139) j x ∧ cO (S 139) j x < m) (hu : S 138 (cO (S 139) a.toNat x) = u) (hu1 : 0 ≤ u ∧ u + b < S 141 (-1)) (hl2 : S 142 (-1) = S 141 (-1)) (hl3 : S 141 (-1) ≤ 8388608) (hky : S 217 (h - 1) = ky) (hvy : S 218 (h - 1) = vy) (hh1 : 1 ≤ h) : wJ (pe_GA xs) wY0 (mS [217, 218]) (d + 11) t_XK_perform ((pe_at t_XK_perform.bl 0).getD (0, [])).2 [(0, (2, 215)), (1, (0, 2)), (2, (0, a)), (3, (0, b))] [] S (fun o Z => o = .inl none ∧ w_up (w_up (w_up S 141 (u + b) ky) 142 (u + b) vy) 220 (c - 1) (p + 1) = Z) := by
  obtain ⟨⟨hC, hI⟩, ⟨bc, bc0, bc1⟩, ⟨bp, bp0, bp1⟩, ⟨bh, bh0, bh1, bh2⟩, bl1, bl2, bl3⟩ := hP
  replace bp : S 220 (c - 1) = p := bp
  replace bh : S 216 2 = h := bh
  replace bh2 : h ≤ S 217 (-1) := bh2
  replace bl1 : S 218 (-1) = S 217 (-1) := bl1
  replace bl2 : 64 ≤ S 217 (-1) := bl2
  replace bl3 : S 217 (-1) ≤ 4095 := bl3
  refine wa_aload_n (n := 0) rfl ?_
  refine wb_gf4 215 rfl (wy_pr rfl) wt_215 wf_8_3 (v := 216) wl_215_3 ?_
  refine wb_gfi 216 rfl (wy_pr rfl) wt_216 wf_7_2 (v := h) (bh) (fun r1 => ?_)
  refine wa_iconst ?_
  refine wa_isub ?_
  refine wa_istore (n := 4) rfl ?_
  refine wa_iload_n (n := 1) rfl ?_
  refine wb_sw (w_rg0 (by omega) (by omega)) (tb := 3) rfl ⟨_, rfl⟩ ?_
  refine wa_aload_n (n := 0) rfl ?_
  refine wb_gf4 215 rfl (wy_pr rfl) wt_215 wf_8_0 (v := 72) wl_215_0 ?_
  refine wb_gf4 72 rfl (wy_pr rfl) wt_72 wf_2_6 (v := 140) wl_72_6 ?_
  refine wa_aload_n (n := 0) rfl ?_
  refine wa_iload_n (n := 2) rfl ?_
  refine wa_cv 215 rfl (wy_pr rfl) wt_215 (M2 := fun _ => False) rfl at_XK_variablesOut ⟨_, rfl⟩ rfl rfl ⟨trivial, (Or.inr ⟨wy_pr rfl, fun q => q⟩), trivial, trivial, trivial, trivial⟩ ⟨(Or.inr ⟨wy_pr rfl, fun q => q⟩), trivial⟩ (fun _ _ q => False.elim q) (vo_215 (S := S) hC bc ⟨bc0, bc1⟩ hx hm hl ha hj hu) (fun oq2 Sq2 hp3 q2 => ?_)
  rcases q2 with ⟨rfl, rfl⟩
  show wJ _ _ _ _ _ _ _ _ _ _
  refine wa_iload_n (n := 3) rfl ?_
  refine wa_iadd ?_
  refine wa_aload_n (n := 0) rfl ?_
  refine wb_gf4 215 rfl (wy_pr rfl) wt_215 wf_8_3 (v := 216) wl_215_3 ?_
  refine wb_gf4 216 rfl (wy_pr rfl) wt_216 wf_7_0 (v := 217) wl_216_0 ?_
  refine wa_iload (n := 4) rfl ?_
  refine wb_bald 217 rfl (wy_pr rfl) wt_217 (n := (S 217 (-1))) (rfl) (by omega) (by omega) (v := ky) (hky) (fun r4 => ?_)
  refine wa_aload_n (n := 0) rfl ?_
  refine wb_gf4 215 rfl (wy_pr rfl) wt_215 wf_8_3 (v := 216) wl_215_3 ?_
  refine wb_gf4 216 rfl (wy_pr rfl) wt_216 wf_7_1 (v := 218) wl_216_1 ?_
  refine wa_iload (n := 4) rfl ?_
  refine wb_lald 218 rfl (wy_pr rfl) wt_218 (n := (S 217 (-1))) (bl1) (by omega) (by omega) (v := vy) (hvy) (fun r5 => ?_)
  refine wa_cv 140 rfl (wy_pr rfl) wt_140 (M2 := mS [217, 218]) rfl at_XV_put ⟨_, rfl⟩ rfl rfl ⟨trivial, (Or.inr ⟨wy_pr rfl, mS_no rfl⟩), trivial, trivial, trivial, trivial⟩ trivial (fun _ _ q => q) ?_ (fun _ _ _ q => q)
  refine wa_aload_n (n := 0) rfl ?_
  refine wb_gf4 140 rfl (wy_pr rfl) wt_140 wf_7_0 (v := 141) wl_140_0 ?_
  refine wa_iload_n (n := 1) rfl ?_
  refine wa_iload_n (n := 2) rfl ?_
  refine wb_i2b_r (wb_i2b_id ⟨(by omega), (by omega)⟩) ?_
  refine wb_bast 141 rfl (wy_pr rfl) wt_141 (n := (S 141 (-1))) (rfl) (by omega) (by omega) ⟨(by omega), (by omega)⟩ ?_
  refine wa_aload_n (n := 0) rfl ?_
  refine wb_gf4 140 rfl (wy_pr rfl) wt_140 wf_7_1 (v := 142) wl_140_1 ?_
  refine wa_iload_n (n := 1) rfl ?_
  refine wa_lload_n (n := 3) rfl ?_
  refine wb_last 142 rfl (wy_pr rfl) wt_142 (n := (S 141 (-1))) ((w_up_slot (by decide)).trans (hl2)) (by omega) (by omega) ⟨(by omega), (by omega)⟩ ?_
  refine wa_return rfl ?_
  show wJ _ _ _ _ _ _ _ _ _ _
  refine wa_aload_n (n := 0) rfl ?_
  refine wb_gf4 215 rfl (wy_pr rfl) wt_215 wf_8_6 (v := 220) wl_215_6 ?_
  refine wa_aload_n (n := 0) rfl ?_
  refine wb_gfi 215 rfl (wy_pr rfl) wt_215 wf_8_4 (v := c) ((w_up_slot (by decide)).trans ((w_up_slot (by decide)).trans (bc))) (fun r6 => ?_)
  refine wa_iconst ?_
  refine wa_isub ?_
  refine wa_dup2 (by decide) (by decide) ?_
  refine wb_iald 220 rfl (wy_pr rfl) wt_220 (n := 200) ((w_up_slot (by decide)).trans ((w_up_slot (by decide)).trans ((cl_220 hC)))) (by omega) (by omega) (v := p) ((w_up_slot (by decide)).trans ((w_up_slot (by decide)).trans (bp))) (fun r7 => ?_)
  refine wa_iconst ?_
  refine wa_iadd ?_
  refine wb_iast 220 rfl (wy_pr rfl) wt_220 (n := 200) ((w_up_slot (by decide)).trans ((w_up_slot (by decide)).trans ((cl_220 hC)))) (by omega) (by omega) ⟨(by omega), (by omega)⟩ ?_
  refine wa_goto ⟨_, rfl⟩ ?_
  refine wa_return rfl ?_
  exact ⟨rfl, rfl⟩
theorem x3_215 {c p h a b gs kg vg : Int} (hP : xP 215 c p h S) (hab : (-2147483648 ≤ a ∧ a ≤ 2147483647) ∧ (-2147483648 ≤ b ∧ b ≤ 2147483647)) (hg : S 153 2 = gs) (hg1 : 0 ≤ gs ∧ gs ≤ S 154 (-1) ∧ S 154 (-1) ≤ 8388608) (hg2 : S 155 (-1) = S 154 (-1)) (ha : 0 ≤ a) (hkg : S 154 a = kg) (hvg : S 155 a = vg) : wJ (pe_GA xs) wY0 (mS [217, 218]) (d + 11) t_XK_perform ((pe_at t_XK_perform.bl 0).getD (0, [])).2 [(0, (2, 215)), (1, (0, 3)), (2, (0, a)), (3, (0, b))] [] S (fun o Z => o = .inl none ∧ (if gs ≤ a ∨ kg = -1 then w_up S 215 16 10 = Z else sO 215 h c p (0) (kg) (vg) S Z)) := by
  obtain ⟨⟨hC, hI⟩, ⟨bc, bc0, bc1⟩, ⟨bp, bp0, bp1⟩, ⟨bh, bh0, bh1, bh2⟩, bl1, bl2, bl3⟩ := hP
  replace bp : S 220 (c - 1) = p := bp
  replace bh : S 216 2 = h := bh
  replace bh2 : h ≤ S 217 (-1) := bh2
  replace bl1 : S 218 (-1) = S 217 (-1) := bl1
  replace bl2 : 64 ≤ S 217 (-1) := bl2
  replace bl3 : S 217 (-1) ≤ 4095 := bl3
  refine wa_aload_n (n := 0) rfl ?_
  refine wb_gf4 215 rfl (wy_pr rfl) wt_215 wf_8_3 (v := 216) wl_215_3 ?_
  refine wb_gfi 216 rfl (wy_pr rfl) wt_216 wf_7_2 (v := h) (bh) (fun r1 => ?_)
  refine wa_iconst ?_
  refine wa_isub ?_
  refine wa_istore (n := 4) rfl ?_
  refine wa_iload_n (n := 1) rfl ?_
  refine wb_sw (w_rg0 (by omega) (by omega)) (tb := 4) rfl ⟨_, rfl⟩ ?_
  refine wa_aload_n (n := 0) rfl ?_
  refine wa_iload_n (n := 2) rfl ?_
  refine wa_cv 215 rfl (wy_pr rfl) wt_215 (M2 := mS [217, 218]) rfl at_XK_loadGlobal ⟨_, rfl⟩ rfl rfl ⟨trivial, (Or.inr ⟨wy_pr rfl, mS_no rfl⟩), trivial, trivial, trivial, trivial⟩ trivial (fun _ _ q => q) ?_ (fun _ _ _ q => q)
  refine wa_aload_n (n := 0) rfl ?_
  refine wb_gf4 215 rfl (wy_pr rfl) wt_215 wf_8_0 (v := 72) wl_215_0 ?_
  refine wb_gf4 72 rfl (wy_pr rfl) wt_72 wf_2_16 (v := 153) wl_72_16 ?_
  refine wa_astore_n (n := 2) rfl ?_
  refine wa_iload_n (n := 1) rfl ?_
  refine wa_aload_n (n := 2) rfl ?_
  refine wb_gfi 153 rfl (wy_pr rfl) wt_153 wf_7_2 (v := gs) (hg) (fun r2 => ?_)
  refine wa_icmpge (w_rg0 (by omega) (by omega)) (w_rg0 (by omega) (by omega)) ⟨_, rfl⟩ (fun c3 => ?_) (fun c3 => ?_)
  · skip
    refine wa_aload_n (n := 0) rfl ?_
    refine wa_bipush (w_rg2 (by omega) (by omega)) ?_
    refine wb_pfi 215 rfl (wy_pr rfl) wt_215 wf_8_16 (n := 16) rfl ⟨(by omega), (by omega)⟩ ?_
    refine wa_goto ⟨_, rfl⟩ ?_
    refine wa_return rfl ?_
    show wJ _ _ _ _ _ _ _ _ _ _
    refine wa_goto ⟨_, rfl⟩ ?_
    refine wa_return rfl ?_
    refine ⟨rfl, ?_⟩
    rw [if_pos (by omega)]
  · skip
    refine wa_aload_n (n := 2) rfl ?_
    refine wb_gf4 153 rfl (wy_pr rfl) wt_153 wf_7_0 (v := 154) wl_153_0 ?_
    refine wa_iload_n (n := 1) rfl ?_
    refine wb_bald 154 rfl (wy_pr rfl) wt_154 (n := (S 154 (-1))) (rfl) (by omega) (by omega) (v := kg) (hkg) (fun r4 => ?_)
    refine wa_iconst ?_
    refine wa_icmpne (w_rg0 (by omega) (by omega)) (w_rg0 (by omega) (by omega)) ⟨_, rfl⟩ (fun c5 => ?_) (fun c5 => ?_)
    · skip
      refine wa_aload_n (n := 0) rfl ?_
      refine wa_iconst ?_
      refine wa_aload_n (n := 2) rfl ?_
      refine wb_gf4 153 rfl (wy_pr rfl) wt_153 wf_7_0 (v := 154) wl_153_0 ?_
      refine wa_iload_n (n := 1) rfl ?_
      refine wb_bald 154 rfl (wy_pr rfl) wt_154 (n := (S 154 (-1))) (rfl) (by omega) (by omega) (v := kg) (hkg) (fun r6 => ?_)
      refine wa_aload_n (n := 2) rfl ?_
      refine wb_gf4 153 rfl (wy_pr rfl) wt_153 wf_7_1 (v := 155) wl_153_1 ?_
      refine wa_iload_n (n := 1) rfl ?_
      refine wb_lald 155 rfl (wy_pr rfl) wt_155 (n := (S 154 (-1))) (hg2) (by omega) (by omega) (v := vg) (hvg) (fun r7 => ?_)
      refine wa_cv 215 rfl (wy_pr rfl) wt_215 (M2 := mS [217, 218]) rfl at_XK_give ⟨_, rfl⟩ rfl rfl ⟨(Or.inr ⟨wy_pr rfl, mS_no rfl⟩), (Or.inr ⟨wy_pr rfl, mS_no rfl⟩), trivial, trivial⟩ trivial (fun _ _ q => q) (gw_215 (S := S) (n := 0) (k := kg) (v := vg) (h := h) (c := c) (p := p) (ln := (S 217 (-1))) hC hI ⟨by omega, by omega⟩ ⟨by omega, by omega⟩ (bh) (bc) (bp) (rfl) (bl1) ⟨by omega, by omega⟩ ⟨by omega, by omega, by omega⟩ ⟨by omega, by omega⟩ ⟨by omega, by omega⟩) (fun oq8 Sq8 hp9 q8 => ?_)
      rcases q8 with ⟨rfl, A8, ra8, rfl⟩
      show wJ _ _ _ _ _ _ _ _ _ _
      refine wa_fall ⟨_, rfl⟩ ?_
      refine wa_return rfl ?_
      show wJ _ _ _ _ _ _ _ _ _ _
      refine wa_goto ⟨_, rfl⟩ ?_
      refine wa_return rfl ?_
      refine ⟨rfl, ?_⟩
      rw [if_neg (by omega)]
      exact ⟨A8, ra8, rfl⟩
    · skip
      refine wa_fall ⟨_, rfl⟩ ?_
      refine wa_aload_n (n := 0) rfl ?_
      refine wa_bipush (w_rg2 (by omega) (by omega)) ?_
      refine wb_pfi 215 rfl (wy_pr rfl) wt_215 wf_8_16 (n := 16) rfl ⟨(by omega), (by omega)⟩ ?_
      refine wa_goto ⟨_, rfl⟩ ?_
      refine wa_return rfl ?_
      show wJ _ _ _ _ _ _ _ _ _ _
      refine wa_goto ⟨_, rfl⟩ ?_
      refine wa_return rfl ?_
      refine ⟨rfl, ?_⟩
      rw [if_pos (by omega)]
theorem gl_s_215 {a : Int} {Q : wO → wS → Prop} {d : Nat} (ha : 0 ≤ a ∧ a ≤ 4000) : ∀ (f : Nat) (i : Int) (S : wS), a - i < f → S 153 2 = i → 0 ≤ i → i ≤ S 154 (-1) → 16 ≤ S 154 (-1) ∧ S 154 (-1) ≤ 8191 → S 155 (-1) = S 154 (-1) → gI S → (∀ (Z : wS) (q : Int), gs_ag a S Z → wJ (pe_GA xs) wY0 (mS [154, 155]) (d + 4) t_XK_storeGlobal ((pe_at t_XK_storeGlobal.bl 2).getD (0, [])).2 [(0, (2, 215)), (1, (0, a)), (2, (2, 153))] [] Z Q) → wJ (pe_GA xs) wY0 (mS [154, 155]) (d + 4) t_XK_storeGlobal ((pe_at t_XK_storeGlobal.bl 1).getD (0, [])).2 [(0, (2, 215)), (1, (0, a)), (2, (2, 153)), (3, (0, i))] [] S Q := by
  intro f
  induction f with
  | zero =>
    intro i S h1 h2 h3 h4 h5 h6 hI hk
    refine wa_iload_n (n := 3) rfl ?_
    refine wa_iload_n (n := 1) rfl ?_
    refine wa_icmpgt (w_rg0 (by omega) (by omega)) (w_rg0 (by omega) (by omega)) ⟨_, rfl⟩ (fun c1 => ?_) (fun c1 => ?_)
    · skip
      exact wJ_S (hk S i (gs_0 (by omega) hI h6 (by omega))) ⟨rfl, rfl, rfl, trivial⟩
    · skip
      exfalso; omega
  | succ f ih =>
    intro i S h1 h2 h3 h4 h5 h6 hI hk
    refine wa_iload_n (n := 3) rfl ?_
    refine wa_iload_n (n := 1) rfl ?_
    refine wa_icmpgt (w_rg0 (by omega) (by omega)) (w_rg0 (by omega) (by omega)) ⟨_, rfl⟩ (fun c1 => ?_) (fun c1 => ?_)
    · skip
      exact wJ_S (hk S i (gs_0 (by omega) hI h6 (by omega))) ⟨rfl, rfl, rfl, trivial⟩
    · skip
      refine wa_aload_n (n := 2) rfl ?_
      refine wa_iconst ?_
      refine wb_lconst (m := 0) rfl ?_
      refine wa_cv 153 rfl (wy_pr rfl) wt_153 (M2 := mS [154, 155]) rfl at_XV_add ⟨_, rfl⟩ rfl rfl ⟨(Or.inr ⟨wy_pr rfl, mS_no rfl⟩), trivial, (Or.inr ⟨wy_pr rfl, mS_no rfl⟩), trivial, trivial⟩ trivial (fun _ _ q => q) (ra_153 (S := S) (k := (-1)) (v := 0) hI ⟨by omega, by omega⟩ ⟨by omega, by omega⟩ (rw_L_mk (S := S) (r := 153) (a := 154) (b := 155) (h := i) (n := (S 154 (-1))) (h2) (rfl) (h6) (by omega) (by omega) (by omega) (by omega))) (fun oq2 Sq2 hp3 q2 => ?_)
      rcases q2 with ⟨rfl, ra2⟩
      show wJ _ _ _ _ _ _ _ _ _ _
      refine wa_iinc rfl rfl ?_
      refine wa_goto ⟨_, rfl⟩ ?_
      obtain ⟨y1, y2, y3, y4, ⟨y5, y6, y7⟩, y8, y9⟩ := id ra2
      exact wJ_S (ih (i + 1) Sq2 (by omega) (by omega) (by omega) (by omega) (by omega) y5 y8 (fun Z2 q g => hk Z2 q (gs_s (by omega) (by omega) ra2 g))) ⟨rfl, rfl, rfl, rfl, trivial⟩
theorem x4_215 {c p h a b gs ky vy : Int} (hP : xP 215 c p h S) (hab : (-2147483648 ≤ a ∧ a ≤ 2147483647) ∧ (-2147483648 ≤ b ∧ b ≤ 2147483647)) (hg : S 153 2 = gs) (hg1 : 0 ≤ gs ∧ gs ≤ S 154 (-1) ∧ S 154 (-1) ≤ 8388608) (hg2 : S 155 (-1) = S 154 (-1)) (ha : 0 ≤ a) (ha4 : a ≤ 4000 ∧ 16 ≤ S 154 (-1) ∧ S 154 (-1) ≤ 8191) (hky : S 217 (h - 1) = ky) (hvy : S 218 (h - 1) = vy) (hh1 : 1 ≤ h) : wJ (pe_GA xs) wY0 (mS [154, 155]) (d + 11) t_XK_perform ((pe_at t_XK_perform.bl 0).getD (0, [])).2 [(0, (2, 215)), (1, (0, 4)), (2, (0, a)), (3, (0, b))] [] S (fun o Z => o = .inl none ∧ ∃ B : wS, gs_ag a S B ∧ w_up (w_up (w_up B 154 a ky) 155 a vy) 220 (c - 1) (p + 1) = Z) := by
  obtain ⟨⟨hC, hI⟩, ⟨bc, bc0, bc1⟩, ⟨bp, bp0, bp1⟩, ⟨bh, bh0, bh1, bh2⟩, bl1, bl2, bl3⟩ := hP
  replace bp : S 220 (c - 1) = p := bp
  replace bh : S 216 2 = h := bh
  replace bh2 : h ≤ S 217 (-1) := bh2
  replace bl1 : S 218 (-1) = S 217 (-1) := bl1
  replace bl2 : 64 ≤ S 217 (-1) := bl2
  replace bl3 : S 217 (-1) ≤ 4095 := bl3
  refine wa_aload_n (n := 0) rfl ?_
  refine wb_gf4 215 rfl (wy_pr rfl) wt_215 wf_8_3 (v := 216) wl_215_3 ?_
  refine wb_gfi 216 rfl (wy_pr rfl) wt_216 wf_7_2 (v := h) (bh) (fun r1 => ?_)
  refine wa_iconst ?_
  refine wa_isub ?_
  refine wa_istore (n := 4) rfl ?_
  refine wa_iload_n (n := 1) rfl ?_
  refine wb_sw (w_rg0 (by omega) (by omega)) (tb := 5) rfl ⟨_, rfl⟩ ?_
  refine wa_aload_n (n := 0) rfl ?_
  refine wa_iload_n (n := 2) rfl ?_
  refine wa_cv 215 rfl (wy_pr rfl) wt_215 (M2 := mS [154, 155]) rfl at_XK_storeGlobal ⟨_, rfl⟩ rfl rfl ⟨trivial, (Or.inr ⟨wy_pr rfl, mS_no rfl⟩), trivial, trivial, trivial, trivial⟩ trivial (fun _ _ q => q) ?_ (fun _ _ _ q => q)
  refine wa_aload_n (n := 0) rfl ?_
  refine wb_gf4 215 rfl (wy_pr rfl) wt_215 wf_8_0 (v := 72) wl_215_0 ?_
  refine wb_gf4 72 rfl (wy_pr rfl) wt_72 wf_2_16 (v := 153) wl_72_16 ?_
  refine wa_astore_n (n := 2) rfl ?_
  refine wa_aload_n (n := 2) rfl ?_
  refine wb_gfi 153 rfl (wy_pr rfl) wt_153 wf_7_2 (v := gs) (hg) (fun r2 => ?_)
  refine wa_istore_n (n := 3) rfl ?_
  refine wa_fall ⟨_, rfl⟩ ?_
  refine wJ_S (gl_s_215 ⟨by omega, by omega⟩ (a - gs + 1).toNat gs S (by omega) hg (by omega) (by omega) ⟨by omega, by omega⟩ hg2 hI (fun Zg q hgs => ?_)) ⟨rfl, rfl, rfl, rfl, trivial⟩
  have z6 := hgs.2.2.2.2.1
  have z1 := hgs.1
  have zz : a < Zg 153 2 := by rw [z1, hg]; split <;> omega
  refine wa_aload_n (n := 2) rfl ?_
  refine wa_iload_n (n := 1) rfl ?_
  refine wa_aload_n (n := 0) rfl ?_
  refine wb_gf4 215 rfl (wy_pr rfl) wt_215 wf_8_3 (v := 216) wl_215_3 ?_
  refine wb_gf4 216 rfl (wy_pr rfl) wt_216 wf_7_0 (v := 217) wl_216_0 ?_
  refine wa_aload_n (n := 0) rfl ?_
  refine wb_gf4 215 rfl (wy_pr rfl) wt_215 wf_8_3 (v := 216) wl_215_3 ?_
  refine wb_gfi 216 rfl (wy_pr rfl) wt_216 wf_7_2 (v := h) (((hgs.2.2.2.1 216 2 (by decide) (by decide) (by decide) (by decide) (Or.inl (by decide))).trans (bh))) (fun r3 => ?_)
  refine wa_iconst ?_
  refine wa_isub ?_
  refine wb_bald 217 rfl (wy_pr rfl) wt_217 (n := (S 217 (-1))) (((hgs.2.2.2.1 217 (-1) (by decide) (by decide) (by decide) (by decide) (Or.inl (by decide))).trans (rfl))) (by omega) (by omega) (v := ky) (((hgs.2.2.2.1 217 (h - 1) (by decide) (by decide) (by decide) (by decide) (Or.inl (by decide))).trans (hky))) (fun r4 => ?_)
  refine wa_aload_n (n := 0) rfl ?_
  refine wb_gf4 215 rfl (wy_pr rfl) wt_215 wf_8_3 (v := 216) wl_215_3 ?_
  refine wb_gf4 216 rfl (wy_pr rfl) wt_216 wf_7_1 (v := 218) wl_216_1 ?_
  refine wa_aload_n (n := 0) rfl ?_
  refine wb_gf4 215 rfl (wy_pr rfl) wt_215 wf_8_3 (v := 216) wl_215_3 ?_
  refine wb_gfi 216 rfl (wy_pr rfl) wt_216 wf_7_2 (v := h) (((hgs.2.2.2.1 216 2 (by decide) (by decide) (by decide) (by decide) (Or.inl (by decide))).trans (bh))) (fun r5 => ?_)
  refine wa_iconst ?_
  refine wa_isub ?_
  refine wb_lald 218 rfl (wy_pr rfl) wt_218 (n := (S 217 (-1))) (((hgs.2.2.2.1 218 (-1) (by decide) (by decide) (by decide) (by decide) (Or.inl (by decide))).trans (bl1))) (by omega) (by omega) (v := vy) (((hgs.2.2.2.1 218 (h - 1) (by decide) (by decide) (by decide) (by decide) (Or.inl (by decide))).trans (hvy))) (fun r6 => ?_)
  refine wa_cv 153 rfl (wy_pr rfl) wt_153 (M2 := mS [154, 155]) rfl at_XV_put ⟨_, rfl⟩ rfl rfl ⟨(Or.inr ⟨wy_pr rfl, mS_no rfl⟩), trivial, (Or.inr ⟨wy_pr rfl, mS_no rfl⟩), trivial⟩ trivial (fun _ _ q => q) ?_ (fun _ _ _ q => q)
  refine wa_aload_n (n := 0) rfl ?_
  refine wb_gf4 153 rfl (wy_pr rfl) wt_153 wf_7_0 (v := 154) wl_153_0 ?_
  refine wa_iload_n (n := 1) rfl ?_
  refine wa_iload_n (n := 2) rfl ?_
  refine wb_i2b_r (wb_i2b_id ⟨(by omega), (by omega)⟩) ?_
  refine wb_bast 154 rfl (wy_pr rfl) wt_154 (n := (Zg 154 (-1))) (rfl) (by omega) (by omega) ⟨(by omega), (by omega)⟩ ?_
  refine wa_aload_n (n := 0) rfl ?_
  refine wb_gf4 153 rfl (wy_pr rfl) wt_153 wf_7_1 (v := 155) wl_153_1 ?_
  refine wa_iload_n (n := 1) rfl ?_
  refine wa_lload_n (n := 3) rfl ?_
  refine wb_last 155 rfl (wy_pr rfl) wt_155 (n := (Zg 154 (-1))) ((w_up_slot (by decide)).trans (z6.1)) (by omega) (by omega) ⟨(by omega), (by omega)⟩ ?_
  refine wa_return rfl ?_
  show wJ _ _ _ _ _ _ _ _ _ _
  refine wa_aload_n (n := 0) rfl ?_
  refine wb_gf4 215 rfl (wy_pr rfl) wt_215 wf_8_6 (v := 220) wl_215_6 ?_
  refine wa_aload_n (n := 0) rfl ?_
  refine wb_gfi 215 rfl (wy_pr rfl) wt_215 wf_8_4 (v := c) ((w_up_slot (by decide)).trans ((w_up_slot (by decide)).trans (((hgs.2.2.2.1 215 4 (by decide) (by decide) (by decide) (by decide) (Or.inl (by decide))).trans (bc))))) (fun r7 => ?_)
  refine wa_iconst ?_
  refine wa_isub ?_
  refine wa_dup2 (by decide) (by decide) ?_
  refine wb_iald 220 rfl (wy_pr rfl) wt_220 (n := 200) ((w_up_slot (by decide)).trans ((w_up_slot (by decide)).trans (((hgs.2.2.2.1 220 (-1) (by decide) (by decide) (by decide) (by decide) (Or.inl (by decide))).trans ((cl_220 hC)))))) (by omega) (by omega) (v := p) ((w_up_slot (by decide)).trans ((w_up_slot (by decide)).trans (((hgs.2.2.2.1 220 (c - 1) (by decide) (by decide) (by decide) (by decide) (Or.inl (by decide))).trans (bp))))) (fun r8 => ?_)
  refine wa_iconst ?_
  refine wa_iadd ?_
  refine wb_iast 220 rfl (wy_pr rfl) wt_220 (n := 200) ((w_up_slot (by decide)).trans ((w_up_slot (by decide)).trans (((hgs.2.2.2.1 220 (-1) (by decide) (by decide) (by decide) (by decide) (Or.inl (by decide))).trans ((cl_220 hC)))))) (by omega) (by omega) ⟨(by omega), (by omega)⟩ ?_
  refine wa_return rfl ?_
  show wJ _ _ _ _ _ _ _ _ _ _
  refine wa_goto ⟨_, rfl⟩ ?_
  refine wa_return rfl ?_
  exact ⟨rfl, Zg, hgs, rfl⟩
theorem vl_226 {M : Nat → Prop} {a m : Int} (hC : w_CL S) (hm : 0 ≤ m ∧ m ≤ S 138 (-1)) (hl : S 139 (-1) = S 138 (-1)) (ha : 0 ≤ a ∧ a ≤ 100000) : ∀ (n : Nat) (x i : Int), i + (n : Int) = a → 0 ≤ i → (∀ j : Nat, j ≤ n → 0 ≤ cO (S 139) j x ∧ cO (S 139) j x < m) → wJ (pe_GA xs) wY0 M d t_XK_variablesOut ((pe_at t_XK_variablesOut.bl 1).getD (0, [])).2 [(0, (2, 226)), (1, (0, a)), (2, (0, x)), (3, (0, i))] [] S (fun o Z => S = Z ∧ o = .inl (some (0, S 138 (cO (S 139) n x)))) := by
  intro n
  induction n with
  | zero =>
    intro x i h1 h2 hj
    have hx0 : 0 ≤ x ∧ x < m := hj 0 (Nat.le_refl _)
    refine wa_iload_n (n := 3) rfl ?_
    refine wa_iload_n (n := 1) rfl ?_
    refine wa_icmpge (w_rg0 (by omega) (by omega)) (w_rg0 (by omega) (by omega)) ⟨_, rfl⟩ (fun c1 => ?_) (fun c1 => ?_)
    · skip
      refine wa_aload_n (n := 0) rfl ?_
      refine wb_gf4 226 rfl (wy_pr rfl) wt_226 wf_8_0 (v := 72) wl_226_0 ?_
      refine wb_gf4 72 rfl (wy_pr rfl) wt_72 wf_2_4 (v := 137) wl_72_4 ?_
      refine wa_iconst ?_
      refine wb_aald5 137 0 rfl rfl (wy_pr rfl) wt_137 (by rw [show _ = _ from ((cl_137 hC))]; omega) wl_137_0 ?_
      refine wa_iload_n (n := 2) rfl ?_
      refine wb_iald 138 rfl (wy_pr rfl) wt_138 (n := (S 138 (-1))) (rfl) (by omega) (by omega) (v := (S 138 x)) rfl (fun r2 => ?_)
      refine wa_ireturn rfl ?_
      exact ⟨rfl, rfl⟩
    · skip
      exfalso; omega
  | succ n ih =>
    intro x i h1 h2 hj
    have hx0 : 0 ≤ x ∧ x < m := hj 0 (Nat.zero_le _)
    have hx1 : 0 ≤ S 139 x ∧ S 139 x < m := hj 1 (by omega)
    refine wa_iload_n (n := 3) rfl ?_
    refine wa_iload_n (n := 1) rfl ?_
    refine wa_icmpge (w_rg0 (by omega) (by omega)) (w_rg0 (by omega) (by omega)) ⟨_, rfl⟩ (fun c1 => ?_) (fun c1 => ?_)
    · skip
      exfalso; omega
    · skip
      refine wa_aload_n (n := 0) rfl ?_
      refine wb_gf4 226 rfl (wy_pr rfl) wt_226 wf_8_0 (v := 72) wl_226_0 ?_
      refine wb_gf4 72 rfl (wy_pr rfl) wt_72 wf_2_4 (v := 137) wl_72_4 ?_
      refine wa_iconst ?_
      refine wb_aald5 137 1 rfl rfl (wy_pr rfl) wt_137 (by rw [show _ = _ from ((cl_137 hC))]; omega) wl_137_1 ?_
      refine wa_iload_n (n := 2) rfl ?_
      refine wb_iald 139 rfl (wy_pr rfl) wt_139 (n := (S 138 (-1))) (hl) (by omega) (by omega) (v := (S 139 x)) rfl (fun r2 => ?_)
      refine wa_iconst ?_
      refine wa_icmpeq (w_rg0 (by omega) (by omega)) (w_rg0 (by omega) (by omega)) ⟨_, rfl⟩ (fun c3 => ?_) (fun c3 => ?_)
      · skip
        exfalso; omega
      · skip
        refine wa_aload_n (n := 0) rfl ?_
        refine wb_gf4 226 rfl (wy_pr rfl) wt_226 wf_8_0 (v := 72) wl_226_0 ?_
        refine wb_gf4 72 rfl (wy_pr rfl) wt_72 wf_2_4 (v := 137) wl_72_4 ?_
        refine wa_iconst ?_
        refine wb_aald5 137 1 rfl rfl (wy_pr rfl) wt_137 (by rw [show _ = _ from ((cl_137 hC))]; omega) wl_137_1 ?_
        refine wa_iload_n (n := 2) rfl ?_
        refine wb_iald 139 rfl (wy_pr rfl) wt_139 (n := (S 138 (-1))) (hl) (by omega) (by omega) (v := (S 139 x)) rfl (fun r4 => ?_)
        refine wa_istore_n (n := 2) rfl ?_
        refine wa_iinc rfl rfl ?_
        refine wa_goto ⟨_, rfl⟩ ?_
        exact wJ_S (ih (S 139 x) (i + 1) (by omega) (by omega) (fun j hj2 => hj (j + 1) (by omega))) ⟨rfl, rfl, rfl, rfl, trivial⟩
theorem vo_226 {M : Nat → Prop} {a m c x u : Int} (hC : w_CL S) (bc : S 226 4 = c) (bc0 : 1 ≤ c ∧ c ≤ 200) (hx : S 232 (c - 1) = x) (hm : 0 ≤ m ∧ m ≤ S 138 (-1)) (hl : S 139 (-1) = S 138 (-1)) (ha : 0 ≤ a ∧ a ≤ 100000) (hj : ∀ j : Nat, j ≤ a.toNat → 0 ≤ cO (S 139) j x ∧ cO (S 139) j x < m) (hu : S 138 (cO (S 139) a.toNat x) = u) : wJ (pe_GA xs) wY0 M d t_XK_variablesOut ((pe_at t_XK_variablesOut.bl 0).getD (0, [])).2 [(0, (2, 226)), (1, (0, a))] [] S (fun o Z => S = Z ∧ o = .inl (some (0, u))) := by
  subst hu
  refine wa_aload_n (n := 0) rfl ?_
  refine wb_gf4 226 rfl (wy_pr rfl) wt_226 wf_8_7 (v := 232) wl_226_7 ?_
  refine wa_aload_n (n := 0) rfl ?_
  refine wb_gfi 226 rfl (wy_pr rfl) wt_226 wf_8_4 (v := c) (bc) (fun r1 => ?_)
  refine wa_iconst ?_
  refine wa_isub ?_
  refine wb_iald 232 rfl (wy_pr rfl) wt_232 (n := 200) ((cl_232 hC)) (by omega) (by omega) (v := x) (hx) (fun r2 => ?_)
  refine wa_istore_n (n := 2) rfl ?_
  refine wa_iconst ?_
  refine wa_istore_n (n := 3) rfl ?_
  refine wa_fall ⟨_, rfl⟩ ?_
  exact wJ_S (vl_226 hC hm hl ha a.toNat x 0 (by omega) (by omega) hj) ⟨rfl, rfl, rfl, rfl, trivial⟩
theorem x1_226 {c p h a b x m u ky vy : Int} (hP : xP 226 c p h S) (hab : (-2147483648 ≤ a ∧ a ≤ 2147483647) ∧ (-2147483648 ≤ b ∧ b ≤ 2147483647)) (hx : S 232 (c - 1) = x) (hm : 0 ≤ m ∧ m ≤ S 138 (-1)) (hl : S 139 (-1) = S 138 (-1)) (ha : 0 ≤ a ∧ a ≤ 100000) (hb : 0 ≤ b ∧ b ≤ 100000) (hj : ∀ j : Nat, j ≤ a.toNat → 0 ≤ cO (S 139) j x ∧ cO (S 139) j x < m) (hu : S 138 (cO (S 139) a.toNat x) = u) (hu1 : 0 ≤ u ∧ u + b < S 141 (-1)) (hl2 : S 142 (-1) = S 141 (-1)) (hl3 : S 141 (-1) ≤ 8388608) (hky : S 141 (u + b) = ky) (hvy : S 142 (u + b) = vy) : wJ (pe_GA xs) wY0 (mS [228, 229]) (d + 11) t_XK_perform ((pe_at t_XK_perform.bl 0).getD (0, [])).2 [(0, (2, 226)), (1, (0, 1)), (2, (0, a)), (3, (0, b))] [] S (fun o Z => o = .inl none ∧ sO 226 h c p (0) (ky) (vy) S Z) := by
  obtain ⟨⟨hC, hI⟩, ⟨bc, bc0, bc1⟩, ⟨bp, bp0, bp1⟩, ⟨bh, bh0, bh1, bh2⟩, bl1, bl2, bl3⟩ := hP
  replace bp : S 231 (c - 1) = p := bp
  replace bh : S 227 2 = h := bh
  replace bh2 : h ≤ S 228 (-1) := bh2
  replace bl1 : S 229 (-1) = S 228 (-1) := bl1
  replace bl2 : 64 ≤ S 228 (-1) := bl2
  replace bl3 : S 228 (-1) ≤ 4095 := bl3
  refine wa_aload_n (n := 0) rfl ?_
  refine wb_gf4 226 rfl (wy_pr rfl) wt_226 wf_8_3 (v := 227) wl_226_3 ?_
  refine wb_gfi 227 rfl (wy_pr rfl) wt_227 wf_7_2 (v := h) (bh) (fun r1 => ?_)
  refine wa_iconst ?_
  refine wa_isub ?_
  refine wa_istore (n := 4) rfl ?_
  refine wa_iload_n (n := 1) rfl ?_
  refine wb_sw (w_rg0 (by omega) (by omega)) (tb := 2) rfl ⟨_, rfl⟩ ?_
  refine wa_aload_n (n := 0) rfl ?_
  refine wa_iload_n (n := 2) rfl ?_
  refine wa_cv 226 rfl (wy_pr rfl) wt_226 (M2 := fun _ => False) rfl at_XK_variablesOut ⟨_, rfl⟩ rfl rfl ⟨trivial, (Or.inr ⟨wy_pr rfl, fun q => q⟩), trivial, trivial, trivial, trivial⟩ trivial (fun _ _ q => False.elim q) (vo_226 (S := S) hC bc ⟨bc0, bc1⟩ hx hm hl ha hj hu) (fun oq2 Sq2 hp3 q2 => ?_)
  rcases q2 with ⟨rfl, rfl⟩
  show wJ _ _ _ _ _ _ _ _ _ _
  refine wa_iload_n (n := 3) rfl ?_
  refine wa_iadd ?_
  refine wa_istore (n := 5) rfl ?_
  refine wa_aload_n (n := 0) rfl ?_
  refine wa_iconst ?_
  refine wa_aload_n (n := 0) rfl ?_
  refine wb_gf4 226 rfl (wy_pr rfl) wt_226 wf_8_0 (v := 72) wl_226_0 ?_
  refine wb_gf4 72 rfl (wy_pr rfl) wt_72 wf_2_6 (v := 140) wl_72_6 ?_
  refine wb_gf4 140 rfl (wy_pr rfl) wt_140 wf_7_0 (v := 141) wl_140_0 ?_
  refine wa_iload (n := 5) rfl ?_
  refine wb_bald 141 rfl (wy_pr rfl) wt_141 (n := (S 141 (-1))) (rfl) (by omega) (by omega) (v := ky) (hky) (fun r4 => ?_)
  refine wa_aload_n (n := 0) rfl ?_
  refine wb_gf4 226 rfl (wy_pr rfl) wt_226 wf_8_0 (v := 72) wl_226_0 ?_
  refine wb_gf4 72 rfl (wy_pr rfl) wt_72 wf_2_6 (v := 140) wl_72_6 ?_
  refine wb_gf4 140 rfl (wy_pr rfl) wt_140 wf_7_1 (v := 142) wl_140_1 ?_
  refine wa_iload (n := 5) rfl ?_
  refine wb_lald 142 rfl (wy_pr rfl) wt_142 (n := (S 141 (-1))) (hl2) (by omega) (by omega) (v := vy) (hvy) (fun r5 => ?_)
  refine wa_cv 226 rfl (wy_pr rfl) wt_226 (M2 := mS [228, 229]) rfl at_XK_give ⟨_, rfl⟩ rfl rfl ⟨trivial, trivial, (Or.inr ⟨wy_pr rfl, mS_no rfl⟩), trivial, trivial, trivial, trivial⟩ trivial (fun _ _ q => q) (gw_226 (S := S) (n := 0) (k := ky) (v := vy) (h := h) (c := c) (p := p) (ln := (S 228 (-1))) hC hI ⟨by omega, by omega⟩ ⟨by omega, by omega⟩ (bh) (bc) (bp) (rfl) (bl1) ⟨by omega, by omega⟩ ⟨by omega, by omega, by omega⟩ ⟨by omega, by omega⟩ ⟨by omega, by omega⟩) (fun oq6 Sq6 hp7 q6 => ?_)
  rcases q6 with ⟨rfl, A6, ra6, rfl⟩
  show wJ _ _ _ _ _ _ _ _ _ _
  refine wa_goto ⟨_, rfl⟩ ?_
  refine wa_return rfl ?_
  exact ⟨rfl, A6, ra6, rfl⟩
theorem x2_226 {c p h a b x m u ky vy : Int} (hP : xP 226 c p h S) (hab : (-2147483648 ≤ a ∧ a ≤ 2147483647) ∧ (-2147483648 ≤ b ∧ b ≤ 2147483647)) (hx : S 232 (c - 1) = x) (hm : 0 ≤ m ∧ m ≤ S 138 (-1)) (hl : S 139 (-1) = S 138 (-1)) (ha : 0 ≤ a ∧ a ≤ 100000) (hb : 0 ≤ b ∧ b ≤ 100000) (hj : ∀ j : Nat, j ≤ a.toNat → 0 ≤ cO (S 139) j x ∧ cO (S 139) j x < m) (hu : S 138 (cO (S 139) a.toNat x) = u) (hu1 : 0 ≤ u ∧ u + b < S 141 (-1)) (hl2 : S 142 (-1) = S 141 (-1)) (hl3 : S 141 (-1) ≤ 8388608) (hky : S 228 (h - 1) = ky) (hvy : S 229 (h - 1) = vy) (hh1 : 1 ≤ h) : wJ (pe_GA xs) wY0 (mS [228, 229]) (d + 11) t_XK_perform ((pe_at t_XK_perform.bl 0).getD (0, [])).2 [(0, (2, 226)), (1, (0, 2)), (2, (0, a)), (3, (0, b))] [] S (fun o Z => o = .inl none ∧ w_up (w_up (w_up S 141 (u + b) ky) 142 (u + b) vy) 231 (c - 1) (p + 1) = Z) := by
  obtain ⟨⟨hC, hI⟩, ⟨bc, bc0, bc1⟩, ⟨bp, bp0, bp1⟩, ⟨bh, bh0, bh1, bh2⟩, bl1, bl2, bl3⟩ := hP
  replace bp : S 231 (c - 1) = p := bp
  replace bh : S 227 2 = h := bh
  replace bh2 : h ≤ S 228 (-1) := bh2
  replace bl1 : S 229 (-1) = S 228 (-1) := bl1
  replace bl2 : 64 ≤ S 228 (-1) := bl2
  replace bl3 : S 228 (-1) ≤ 4095 := bl3
  refine wa_aload_n (n := 0) rfl ?_
  refine wb_gf4 226 rfl (wy_pr rfl) wt_226 wf_8_3 (v := 227) wl_226_3 ?_
  refine wb_gfi 227 rfl (wy_pr rfl) wt_227 wf_7_2 (v := h) (bh) (fun r1 => ?_)
  refine wa_iconst ?_
  refine wa_isub ?_
  refine wa_istore (n := 4) rfl ?_
  refine wa_iload_n (n := 1) rfl ?_
  refine wb_sw (w_rg0 (by omega) (by omega)) (tb := 3) rfl ⟨_, rfl⟩ ?_
  refine wa_aload_n (n := 0) rfl ?_
  refine wb_gf4 226 rfl (wy_pr rfl) wt_226 wf_8_0 (v := 72) wl_226_0 ?_
  refine wb_gf4 72 rfl (wy_pr rfl) wt_72 wf_2_6 (v := 140) wl_72_6 ?_
  refine wa_aload_n (n := 0) rfl ?_
  refine wa_iload_n (n := 2) rfl ?_
  refine wa_cv 226 rfl (wy_pr rfl) wt_226 (M2 := fun _ => False) rfl at_XK_variablesOut ⟨_, rfl⟩ rfl rfl ⟨trivial, (Or.inr ⟨wy_pr rfl, fun q => q⟩), trivial, trivial, trivial, trivial⟩ ⟨(Or.inr ⟨wy_pr rfl, fun q => q⟩), trivial⟩ (fun _ _ q => False.elim q) (vo_226 (S := S) hC bc ⟨bc0, bc1⟩ hx hm hl ha hj hu) (fun oq2 Sq2 hp3 q2 => ?_)
  rcases q2 with ⟨rfl, rfl⟩
  show wJ _ _ _ _ _ _ _ _ _ _
  refine wa_iload_n (n := 3) rfl ?_
  refine wa_iadd ?_
  refine wa_aload_n (n := 0) rfl ?_
  refine wb_gf4 226 rfl (wy_pr rfl) wt_226 wf_8_3 (v := 227) wl_226_3 ?_
  refine wb_gf4 227 rfl (wy_pr rfl) wt_227 wf_7_0 (v := 228) wl_227_0 ?_
  refine wa_iload (n := 4) rfl ?_
  refine wb_bald 228 rfl (wy_pr rfl) wt_228 (n := (S 228 (-1))) (rfl) (by omega) (by omega) (v := ky) (hky) (fun r4 => ?_)
  refine wa_aload_n (n := 0) rfl ?_
  refine wb_gf4 226 rfl (wy_pr rfl) wt_226 wf_8_3 (v := 227) wl_226_3 ?_
  refine wb_gf4 227 rfl (wy_pr rfl) wt_227 wf_7_1 (v := 229) wl_227_1 ?_
  refine wa_iload (n := 4) rfl ?_
  refine wb_lald 229 rfl (wy_pr rfl) wt_229 (n := (S 228 (-1))) (bl1) (by omega) (by omega) (v := vy) (hvy) (fun r5 => ?_)
  refine wa_cv 140 rfl (wy_pr rfl) wt_140 (M2 := mS [228, 229]) rfl at_XV_put ⟨_, rfl⟩ rfl rfl ⟨trivial, (Or.inr ⟨wy_pr rfl, mS_no rfl⟩), trivial, trivial, trivial, trivial⟩ trivial (fun _ _ q => q) ?_ (fun _ _ _ q => q)
  refine wa_aload_n (n := 0) rfl ?_
  refine wb_gf4 140 rfl (wy_pr rfl) wt_140 wf_7_0 (v := 141) wl_140_0 ?_
  refine wa_iload_n (n := 1) rfl ?_
  refine wa_iload_n (n := 2) rfl ?_
  refine wb_i2b_r (wb_i2b_id ⟨(by omega), (by omega)⟩) ?_
  refine wb_bast 141 rfl (wy_pr rfl) wt_141 (n := (S 141 (-1))) (rfl) (by omega) (by omega) ⟨(by omega), (by omega)⟩ ?_
  refine wa_aload_n (n := 0) rfl ?_
  refine wb_gf4 140 rfl (wy_pr rfl) wt_140 wf_7_1 (v := 142) wl_140_1 ?_
  refine wa_iload_n (n := 1) rfl ?_
  refine wa_lload_n (n := 3) rfl ?_
  refine wb_last 142 rfl (wy_pr rfl) wt_142 (n := (S 141 (-1))) ((w_up_slot (by decide)).trans (hl2)) (by omega) (by omega) ⟨(by omega), (by omega)⟩ ?_
  refine wa_return rfl ?_
  show wJ _ _ _ _ _ _ _ _ _ _
  refine wa_aload_n (n := 0) rfl ?_
  refine wb_gf4 226 rfl (wy_pr rfl) wt_226 wf_8_6 (v := 231) wl_226_6 ?_
  refine wa_aload_n (n := 0) rfl ?_
  refine wb_gfi 226 rfl (wy_pr rfl) wt_226 wf_8_4 (v := c) ((w_up_slot (by decide)).trans ((w_up_slot (by decide)).trans (bc))) (fun r6 => ?_)
  refine wa_iconst ?_
  refine wa_isub ?_
  refine wa_dup2 (by decide) (by decide) ?_
  refine wb_iald 231 rfl (wy_pr rfl) wt_231 (n := 200) ((w_up_slot (by decide)).trans ((w_up_slot (by decide)).trans ((cl_231 hC)))) (by omega) (by omega) (v := p) ((w_up_slot (by decide)).trans ((w_up_slot (by decide)).trans (bp))) (fun r7 => ?_)
  refine wa_iconst ?_
  refine wa_iadd ?_
  refine wb_iast 231 rfl (wy_pr rfl) wt_231 (n := 200) ((w_up_slot (by decide)).trans ((w_up_slot (by decide)).trans ((cl_231 hC)))) (by omega) (by omega) ⟨(by omega), (by omega)⟩ ?_
  refine wa_goto ⟨_, rfl⟩ ?_
  refine wa_return rfl ?_
  exact ⟨rfl, rfl⟩
theorem x3_226 {c p h a b gs kg vg : Int} (hP : xP 226 c p h S) (hab : (-2147483648 ≤ a ∧ a ≤ 2147483647) ∧ (-2147483648 ≤ b ∧ b ≤ 2147483647)) (hg : S 153 2 = gs) (hg1 : 0 ≤ gs ∧ gs ≤ S 154 (-1) ∧ S 154 (-1) ≤ 8388608) (hg2 : S 155 (-1) = S 154 (-1)) (ha : 0 ≤ a) (hkg : S 154 a = kg) (hvg : S 155 a = vg) : wJ (pe_GA xs) wY0 (mS [228, 229]) (d + 11) t_XK_perform ((pe_at t_XK_perform.bl 0).getD (0, [])).2 [(0, (2, 226)), (1, (0, 3)), (2, (0, a)), (3, (0, b))] [] S (fun o Z => o = .inl none ∧ (if gs ≤ a ∨ kg = -1 then w_up S 226 16 10 = Z else sO 226 h c p (0) (kg) (vg) S Z)) := by
  obtain ⟨⟨hC, hI⟩, ⟨bc, bc0, bc1⟩, ⟨bp, bp0, bp1⟩, ⟨bh, bh0, bh1, bh2⟩, bl1, bl2, bl3⟩ := hP
  replace bp : S 231 (c - 1) = p := bp
  replace bh : S 227 2 = h := bh
  replace bh2 : h ≤ S 228 (-1) := bh2
  replace bl1 : S 229 (-1) = S 228 (-1) := bl1
  replace bl2 : 64 ≤ S 228 (-1) := bl2
  replace bl3 : S 228 (-1) ≤ 4095 := bl3
  refine wa_aload_n (n := 0) rfl ?_
  refine wb_gf4 226 rfl (wy_pr rfl) wt_226 wf_8_3 (v := 227) wl_226_3 ?_
  refine wb_gfi 227 rfl (wy_pr rfl) wt_227 wf_7_2 (v := h) (bh) (fun r1 => ?_)
  refine wa_iconst ?_
  refine wa_isub ?_
  refine wa_istore (n := 4) rfl ?_
  refine wa_iload_n (n := 1) rfl ?_
  refine wb_sw (w_rg0 (by omega) (by omega)) (tb := 4) rfl ⟨_, rfl⟩ ?_
  refine wa_aload_n (n := 0) rfl ?_
  refine wa_iload_n (n := 2) rfl ?_
  refine wa_cv 226 rfl (wy_pr rfl) wt_226 (M2 := mS [228, 229]) rfl at_XK_loadGlobal ⟨_, rfl⟩ rfl rfl ⟨trivial, (Or.inr ⟨wy_pr rfl, mS_no rfl⟩), trivial, trivial, trivial, trivial⟩ trivial (fun _ _ q => q) ?_ (fun _ _ _ q => q)
  refine wa_aload_n (n := 0) rfl ?_
  refine wb_gf4 226 rfl (wy_pr rfl) wt_226 wf_8_0 (v := 72) wl_226_0 ?_
  refine wb_gf4 72 rfl (wy_pr rfl) wt_72 wf_2_16 (v := 153) wl_72_16 ?_
  refine wa_astore_n (n := 2) rfl ?_
  refine wa_iload_n (n := 1) rfl ?_
  refine wa_aload_n (n := 2) rfl ?_
  refine wb_gfi 153 rfl (wy_pr rfl) wt_153 wf_7_2 (v := gs) (hg) (fun r2 => ?_)
  refine wa_icmpge (w_rg0 (by omega) (by omega)) (w_rg0 (by omega) (by omega)) ⟨_, rfl⟩ (fun c3 => ?_) (fun c3 => ?_)
  · skip
    refine wa_aload_n (n := 0) rfl ?_
    refine wa_bipush (w_rg2 (by omega) (by omega)) ?_
    refine wb_pfi 226 rfl (wy_pr rfl) wt_226 wf_8_16 (n := 16) rfl ⟨(by omega), (by omega)⟩ ?_
    refine wa_goto ⟨_, rfl⟩ ?_
    refine wa_return rfl ?_
    show wJ _ _ _ _ _ _ _ _ _ _
    refine wa_goto ⟨_, rfl⟩ ?_
    refine wa_return rfl ?_
    refine ⟨rfl, ?_⟩
    rw [if_pos (by omega)]
  · skip
    refine wa_aload_n (n := 2) rfl ?_
    refine wb_gf4 153 rfl (wy_pr rfl) wt_153 wf_7_0 (v := 154) wl_153_0 ?_
    refine wa_iload_n (n := 1) rfl ?_
    refine wb_bald 154 rfl (wy_pr rfl) wt_154 (n := (S 154 (-1))) (rfl) (by omega) (by omega) (v := kg) (hkg) (fun r4 => ?_)
    refine wa_iconst ?_
    refine wa_icmpne (w_rg0 (by omega) (by omega)) (w_rg0 (by omega) (by omega)) ⟨_, rfl⟩ (fun c5 => ?_) (fun c5 => ?_)
    · skip
      refine wa_aload_n (n := 0) rfl ?_
      refine wa_iconst ?_
      refine wa_aload_n (n := 2) rfl ?_
      refine wb_gf4 153 rfl (wy_pr rfl) wt_153 wf_7_0 (v := 154) wl_153_0 ?_
      refine wa_iload_n (n := 1) rfl ?_
      refine wb_bald 154 rfl (wy_pr rfl) wt_154 (n := (S 154 (-1))) (rfl) (by omega) (by omega) (v := kg) (hkg) (fun r6 => ?_)
      refine wa_aload_n (n := 2) rfl ?_
      refine wb_gf4 153 rfl (wy_pr rfl) wt_153 wf_7_1 (v := 155) wl_153_1 ?_
      refine wa_iload_n (n := 1) rfl ?_
      refine wb_lald 155 rfl (wy_pr rfl) wt_155 (n := (S 154 (-1))) (hg2) (by omega) (by omega) (v := vg) (hvg) (fun r7 => ?_)
      refine wa_cv 226 rfl (wy_pr rfl) wt_226 (M2 := mS [228, 229]) rfl at_XK_give ⟨_, rfl⟩ rfl rfl ⟨(Or.inr ⟨wy_pr rfl, mS_no rfl⟩), (Or.inr ⟨wy_pr rfl, mS_no rfl⟩), trivial, trivial⟩ trivial (fun _ _ q => q) (gw_226 (S := S) (n := 0) (k := kg) (v := vg) (h := h) (c := c) (p := p) (ln := (S 228 (-1))) hC hI ⟨by omega, by omega⟩ ⟨by omega, by omega⟩ (bh) (bc) (bp) (rfl) (bl1) ⟨by omega, by omega⟩ ⟨by omega, by omega, by omega⟩ ⟨by omega, by omega⟩ ⟨by omega, by omega⟩) (fun oq8 Sq8 hp9 q8 => ?_)
      rcases q8 with ⟨rfl, A8, ra8, rfl⟩
      show wJ _ _ _ _ _ _ _ _ _ _
      refine wa_fall ⟨_, rfl⟩ ?_
      refine wa_return rfl ?_
      show wJ _ _ _ _ _ _ _ _ _ _
      refine wa_goto ⟨_, rfl⟩ ?_
      refine wa_return rfl ?_
      refine ⟨rfl, ?_⟩
      rw [if_neg (by omega)]
      exact ⟨A8, ra8, rfl⟩
    · skip
      refine wa_fall ⟨_, rfl⟩ ?_
      refine wa_aload_n (n := 0) rfl ?_
      refine wa_bipush (w_rg2 (by omega) (by omega)) ?_
      refine wb_pfi 226 rfl (wy_pr rfl) wt_226 wf_8_16 (n := 16) rfl ⟨(by omega), (by omega)⟩ ?_
      refine wa_goto ⟨_, rfl⟩ ?_
      refine wa_return rfl ?_
      show wJ _ _ _ _ _ _ _ _ _ _
      refine wa_goto ⟨_, rfl⟩ ?_
      refine wa_return rfl ?_
      refine ⟨rfl, ?_⟩
      rw [if_pos (by omega)]
theorem gl_s_226 {a : Int} {Q : wO → wS → Prop} {d : Nat} (ha : 0 ≤ a ∧ a ≤ 4000) : ∀ (f : Nat) (i : Int) (S : wS), a - i < f → S 153 2 = i → 0 ≤ i → i ≤ S 154 (-1) → 16 ≤ S 154 (-1) ∧ S 154 (-1) ≤ 8191 → S 155 (-1) = S 154 (-1) → gI S → (∀ (Z : wS) (q : Int), gs_ag a S Z → wJ (pe_GA xs) wY0 (mS [154, 155]) (d + 4) t_XK_storeGlobal ((pe_at t_XK_storeGlobal.bl 2).getD (0, [])).2 [(0, (2, 226)), (1, (0, a)), (2, (2, 153))] [] Z Q) → wJ (pe_GA xs) wY0 (mS [154, 155]) (d + 4) t_XK_storeGlobal ((pe_at t_XK_storeGlobal.bl 1).getD (0, [])).2 [(0, (2, 226)), (1, (0, a)), (2, (2, 153)), (3, (0, i))] [] S Q := by
  intro f
  induction f with
  | zero =>
    intro i S h1 h2 h3 h4 h5 h6 hI hk
    refine wa_iload_n (n := 3) rfl ?_
    refine wa_iload_n (n := 1) rfl ?_
    refine wa_icmpgt (w_rg0 (by omega) (by omega)) (w_rg0 (by omega) (by omega)) ⟨_, rfl⟩ (fun c1 => ?_) (fun c1 => ?_)
    · skip
      exact wJ_S (hk S i (gs_0 (by omega) hI h6 (by omega))) ⟨rfl, rfl, rfl, trivial⟩
    · skip
      exfalso; omega
  | succ f ih =>
    intro i S h1 h2 h3 h4 h5 h6 hI hk
    refine wa_iload_n (n := 3) rfl ?_
    refine wa_iload_n (n := 1) rfl ?_
    refine wa_icmpgt (w_rg0 (by omega) (by omega)) (w_rg0 (by omega) (by omega)) ⟨_, rfl⟩ (fun c1 => ?_) (fun c1 => ?_)
    · skip
      exact wJ_S (hk S i (gs_0 (by omega) hI h6 (by omega))) ⟨rfl, rfl, rfl, trivial⟩
    · skip
      refine wa_aload_n (n := 2) rfl ?_
      refine wa_iconst ?_
      refine wb_lconst (m := 0) rfl ?_
      refine wa_cv 153 rfl (wy_pr rfl) wt_153 (M2 := mS [154, 155]) rfl at_XV_add ⟨_, rfl⟩ rfl rfl ⟨(Or.inr ⟨wy_pr rfl, mS_no rfl⟩), trivial, (Or.inr ⟨wy_pr rfl, mS_no rfl⟩), trivial, trivial⟩ trivial (fun _ _ q => q) (ra_153 (S := S) (k := (-1)) (v := 0) hI ⟨by omega, by omega⟩ ⟨by omega, by omega⟩ (rw_L_mk (S := S) (r := 153) (a := 154) (b := 155) (h := i) (n := (S 154 (-1))) (h2) (rfl) (h6) (by omega) (by omega) (by omega) (by omega))) (fun oq2 Sq2 hp3 q2 => ?_)
      rcases q2 with ⟨rfl, ra2⟩
      show wJ _ _ _ _ _ _ _ _ _ _
      refine wa_iinc rfl rfl ?_
      refine wa_goto ⟨_, rfl⟩ ?_
      obtain ⟨y1, y2, y3, y4, ⟨y5, y6, y7⟩, y8, y9⟩ := id ra2
      exact wJ_S (ih (i + 1) Sq2 (by omega) (by omega) (by omega) (by omega) (by omega) y5 y8 (fun Z2 q g => hk Z2 q (gs_s (by omega) (by omega) ra2 g))) ⟨rfl, rfl, rfl, rfl, trivial⟩
theorem x4_226 {c p h a b gs ky vy : Int} (hP : xP 226 c p h S) (hab : (-2147483648 ≤ a ∧ a ≤ 2147483647) ∧ (-2147483648 ≤ b ∧ b ≤ 2147483647)) (hg : S 153 2 = gs) (hg1 : 0 ≤ gs ∧ gs ≤ S 154 (-1) ∧ S 154 (-1) ≤ 8388608) (hg2 : S 155 (-1) = S 154 (-1)) (ha : 0 ≤ a) (ha4 : a ≤ 4000 ∧ 16 ≤ S 154 (-1) ∧ S 154 (-1) ≤ 8191) (hky : S 228 (h - 1) = ky) (hvy : S 229 (h - 1) = vy) (hh1 : 1 ≤ h) : wJ (pe_GA xs) wY0 (mS [154, 155]) (d + 11) t_XK_perform ((pe_at t_XK_perform.bl 0).getD (0, [])).2 [(0, (2, 226)), (1, (0, 4)), (2, (0, a)), (3, (0, b))] [] S (fun o Z => o = .inl none ∧ ∃ B : wS, gs_ag a S B ∧ w_up (w_up (w_up B 154 a ky) 155 a vy) 231 (c - 1) (p + 1) = Z) := by
  obtain ⟨⟨hC, hI⟩, ⟨bc, bc0, bc1⟩, ⟨bp, bp0, bp1⟩, ⟨bh, bh0, bh1, bh2⟩, bl1, bl2, bl3⟩ := hP
  replace bp : S 231 (c - 1) = p := bp
  replace bh : S 227 2 = h := bh
  replace bh2 : h ≤ S 228 (-1) := bh2
  replace bl1 : S 229 (-1) = S 228 (-1) := bl1
  replace bl2 : 64 ≤ S 228 (-1) := bl2
  replace bl3 : S 228 (-1) ≤ 4095 := bl3
  refine wa_aload_n (n := 0) rfl ?_
  refine wb_gf4 226 rfl (wy_pr rfl) wt_226 wf_8_3 (v := 227) wl_226_3 ?_
  refine wb_gfi 227 rfl (wy_pr rfl) wt_227 wf_7_2 (v := h) (bh) (fun r1 => ?_)
  refine wa_iconst ?_
  refine wa_isub ?_
  refine wa_istore (n := 4) rfl ?_
  refine wa_iload_n (n := 1) rfl ?_
  refine wb_sw (w_rg0 (by omega) (by omega)) (tb := 5) rfl ⟨_, rfl⟩ ?_
  refine wa_aload_n (n := 0) rfl ?_
  refine wa_iload_n (n := 2) rfl ?_
  refine wa_cv 226 rfl (wy_pr rfl) wt_226 (M2 := mS [154, 155]) rfl at_XK_storeGlobal ⟨_, rfl⟩ rfl rfl ⟨trivial, (Or.inr ⟨wy_pr rfl, mS_no rfl⟩), trivial, trivial, trivial, trivial⟩ trivial (fun _ _ q => q) ?_ (fun _ _ _ q => q)
  refine wa_aload_n (n := 0) rfl ?_
  refine wb_gf4 226 rfl (wy_pr rfl) wt_226 wf_8_0 (v := 72) wl_226_0 ?_
  refine wb_gf4 72 rfl (wy_pr rfl) wt_72 wf_2_16 (v := 153) wl_72_16 ?_
  refine wa_astore_n (n := 2) rfl ?_
  refine wa_aload_n (n := 2) rfl ?_
  refine wb_gfi 153 rfl (wy_pr rfl) wt_153 wf_7_2 (v := gs) (hg) (fun r2 => ?_)
  refine wa_istore_n (n := 3) rfl ?_
  refine wa_fall ⟨_, rfl⟩ ?_
  refine wJ_S (gl_s_226 ⟨by omega, by omega⟩ (a - gs + 1).toNat gs S (by omega) hg (by omega) (by omega) ⟨by omega, by omega⟩ hg2 hI (fun Zg q hgs => ?_)) ⟨rfl, rfl, rfl, rfl, trivial⟩
  have z6 := hgs.2.2.2.2.1
  have z1 := hgs.1
  have zz : a < Zg 153 2 := by rw [z1, hg]; split <;> omega
  refine wa_aload_n (n := 2) rfl ?_
  refine wa_iload_n (n := 1) rfl ?_
  refine wa_aload_n (n := 0) rfl ?_
  refine wb_gf4 226 rfl (wy_pr rfl) wt_226 wf_8_3 (v := 227) wl_226_3 ?_
  refine wb_gf4 227 rfl (wy_pr rfl) wt_227 wf_7_0 (v := 228) wl_227_0 ?_
  refine wa_aload_n (n := 0) rfl ?_
  refine wb_gf4 226 rfl (wy_pr rfl) wt_226 wf_8_3 (v := 227) wl_226_3 ?_
  refine wb_gfi 227 rfl (wy_pr rfl) wt_227 wf_7_2 (v := h) (((hgs.2.2.2.1 227 2 (by decide) (by decide) (by decide) (by decide) (Or.inl (by decide))).trans (bh))) (fun r3 => ?_)
  refine wa_iconst ?_
  refine wa_isub ?_
  refine wb_bald 228 rfl (wy_pr rfl) wt_228 (n := (S 228 (-1))) (((hgs.2.2.2.1 228 (-1) (by decide) (by decide) (by decide) (by decide) (Or.inl (by decide))).trans (rfl))) (by omega) (by omega) (v := ky) (((hgs.2.2.2.1 228 (h - 1) (by decide) (by decide) (by decide) (by decide) (Or.inl (by decide))).trans (hky))) (fun r4 => ?_)
  refine wa_aload_n (n := 0) rfl ?_
  refine wb_gf4 226 rfl (wy_pr rfl) wt_226 wf_8_3 (v := 227) wl_226_3 ?_
  refine wb_gf4 227 rfl (wy_pr rfl) wt_227 wf_7_1 (v := 229) wl_227_1 ?_
  refine wa_aload_n (n := 0) rfl ?_
  refine wb_gf4 226 rfl (wy_pr rfl) wt_226 wf_8_3 (v := 227) wl_226_3 ?_
  refine wb_gfi 227 rfl (wy_pr rfl) wt_227 wf_7_2 (v := h) (((hgs.2.2.2.1 227 2 (by decide) (by decide) (by decide) (by decide) (Or.inl (by decide))).trans (bh))) (fun r5 => ?_)
  refine wa_iconst ?_
  refine wa_isub ?_
  refine wb_lald 229 rfl (wy_pr rfl) wt_229 (n := (S 228 (-1))) (((hgs.2.2.2.1 229 (-1) (by decide) (by decide) (by decide) (by decide) (Or.inl (by decide))).trans (bl1))) (by omega) (by omega) (v := vy) (((hgs.2.2.2.1 229 (h - 1) (by decide) (by decide) (by decide) (by decide) (Or.inl (by decide))).trans (hvy))) (fun r6 => ?_)
  refine wa_cv 153 rfl (wy_pr rfl) wt_153 (M2 := mS [154, 155]) rfl at_XV_put ⟨_, rfl⟩ rfl rfl ⟨(Or.inr ⟨wy_pr rfl, mS_no rfl⟩), trivial, (Or.inr ⟨wy_pr rfl, mS_no rfl⟩), trivial⟩ trivial (fun _ _ q => q) ?_ (fun _ _ _ q => q)
  refine wa_aload_n (n := 0) rfl ?_
  refine wb_gf4 153 rfl (wy_pr rfl) wt_153 wf_7_0 (v := 154) wl_153_0 ?_
  refine wa_iload_n (n := 1) rfl ?_
  refine wa_iload_n (n := 2) rfl ?_
  refine wb_i2b_r (wb_i2b_id ⟨(by omega), (by omega)⟩) ?_
  refine wb_bast 154 rfl (wy_pr rfl) wt_154 (n := (Zg 154 (-1))) (rfl) (by omega) (by omega) ⟨(by omega), (by omega)⟩ ?_
  refine wa_aload_n (n := 0) rfl ?_
  refine wb_gf4 153 rfl (wy_pr rfl) wt_153 wf_7_1 (v := 155) wl_153_1 ?_
  refine wa_iload_n (n := 1) rfl ?_
  refine wa_lload_n (n := 3) rfl ?_
  refine wb_last 155 rfl (wy_pr rfl) wt_155 (n := (Zg 154 (-1))) ((w_up_slot (by decide)).trans (z6.1)) (by omega) (by omega) ⟨(by omega), (by omega)⟩ ?_
  refine wa_return rfl ?_
  show wJ _ _ _ _ _ _ _ _ _ _
  refine wa_aload_n (n := 0) rfl ?_
  refine wb_gf4 226 rfl (wy_pr rfl) wt_226 wf_8_6 (v := 231) wl_226_6 ?_
  refine wa_aload_n (n := 0) rfl ?_
  refine wb_gfi 226 rfl (wy_pr rfl) wt_226 wf_8_4 (v := c) ((w_up_slot (by decide)).trans ((w_up_slot (by decide)).trans (((hgs.2.2.2.1 226 4 (by decide) (by decide) (by decide) (by decide) (Or.inl (by decide))).trans (bc))))) (fun r7 => ?_)
  refine wa_iconst ?_
  refine wa_isub ?_
  refine wa_dup2 (by decide) (by decide) ?_
  refine wb_iald 231 rfl (wy_pr rfl) wt_231 (n := 200) ((w_up_slot (by decide)).trans ((w_up_slot (by decide)).trans (((hgs.2.2.2.1 231 (-1) (by decide) (by decide) (by decide) (by decide) (Or.inl (by decide))).trans ((cl_231 hC)))))) (by omega) (by omega) (v := p) ((w_up_slot (by decide)).trans ((w_up_slot (by decide)).trans (((hgs.2.2.2.1 231 (c - 1) (by decide) (by decide) (by decide) (by decide) (Or.inl (by decide))).trans (bp))))) (fun r8 => ?_)
  refine wa_iconst ?_
  refine wa_iadd ?_
  refine wb_iast 231 rfl (wy_pr rfl) wt_231 (n := 200) ((w_up_slot (by decide)).trans ((w_up_slot (by decide)).trans (((hgs.2.2.2.1 231 (-1) (by decide) (by decide) (by decide) (by decide) (Or.inl (by decide))).trans ((cl_231 hC)))))) (by omega) (by omega) ⟨(by omega), (by omega)⟩ ?_
  refine wa_return rfl ?_
  show wJ _ _ _ _ _ _ _ _ _ _
  refine wa_goto ⟨_, rfl⟩ ?_
  refine wa_return rfl ?_
  exact ⟨rfl, Zg, hgs, rfl⟩
end Wdw
