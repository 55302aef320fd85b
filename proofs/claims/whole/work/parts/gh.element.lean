/-! PART gh: elementName of the class's linker. -/
section Wgh
variable {xs : List (Nat × List Int32)} {M : Nat → Prop} {d : Nat} {S Z A : wS} {N X : List (List Int)} {x : List Int} {ba k v s : Int}
/-- names and texts of the class, at rest -/
def cNt (N X : List (List Int)) (S : wS) : Prop := (cN N X S ∧ rd_L S) ∧ (S 2 7 ≤ 500000 ∧ S 2 1 ≤ 5000000 ∧ S 4 (-1) ≤ 1000000 ∧ S 3 (-1) ≤ 10000000)
/-- a name has come -/
def nmQ (N X : List (List Int)) (x : List Int) (S Z : wS) : Prop := (cN (N ++ [x]) X Z ∧ rd_L Z) ∧ (Z 2 7 ≤ S 2 7 + 1 ∧ S 2 7 ≤ Z 2 7 ∧ Z 2 1 ≤ S 2 1 + (x.length : Int) ∧ S 2 1 ≤ Z 2 1) ∧ ((Z 4 (-1) ≤ S 4 (-1) ∨ Z 4 (-1) ≤ 2 * Z 2 7) ∧ (Z 3 (-1) ≤ S 3 (-1) ∨ Z 3 (-1) ≤ 2 * Z 2 1)) ∧ (∀ i : Int, 0 ≤ i → i < S 2 1 → Z 3 i = S 3 i) ∧ (∀ k : Int, 0 ≤ k → k < S 2 7 → Z 4 k = S 4 k ∧ Z 5 k = S 5 k) ∧ (∀ (j : Nat) (i : Int), j < 4000000 → j ≠ wG → (j < 2 ∨ 12 < j ∨ j = 11) → Z j i = S j i) ∧ gI Z ∧ rmR S Z
theorem cN_rp {N2 X2 : List (List Int)} (h : cN N X S) (rp : rp_ag S Z) (c1 : cL 9 10 N2 Z) (c2 : cL 10 12 X2 Z) : cN N2 X2 Z := by
  obtain ⟨⟨h1, h2, h3, ⟨h4, h5⟩, ⟨h6, h7⟩, h8, h9⟩, h10, -, -⟩ := h
  have r2 := r2_ag h1 h6 h10 rp
  obtain ⟨q1, q2, -, -, -, -, -, q8, q9, q10, q11, q12, q13, -⟩ := rp
  refine ⟨⟨q9, q10, q11, ⟨(q8 2 14 (by first | decide | omega) (by first | decide | omega) (by omega)).trans h4, (q8 2 15 (by first | decide | omega) (by first | decide | omega) (by omega)).trans h5⟩, ⟨by omega, by omega⟩, (q8 11 (-1) (by first | decide | omega) (by first | decide | omega) (by omega)).trans h8, fun k k0 k1 => ?_⟩, r2, c1, c2⟩
  rw [(q2 k k0 (by omega)).1, (q2 k k0 (by omega)).2]
  exact h9 k k0 k1
theorem cNt_ag (h : cNt N X S) (e : ∀ j : Nat, j < 19 → Z j = S j) : cNt N X Z := by
  obtain ⟨⟨⟨a1, a2, a3, a4⟩, a5⟩, a6⟩ := h
  have e2 : ∀ x : Nat, x ≤ 10 → Z (2 + x) = S (2 + x) := fun x hx => e _ (by omega)
  refine ⟨⟨⟨w2_ag a1 e2, fun k hk => wqL_eq (a2 k hk) ⟨e 3 (by first | decide | omega), e 4 (by first | decide | omega), e 5 (by first | decide | omega)⟩, cL_eq a3 e2 (Or.inl rfl), cL_eq a4 e2 (Or.inr rfl)⟩, ?_⟩, by rw [e 2 (by first | decide | omega), e 4 (by first | decide | omega), e 3 (by first | decide | omega)]; exact a6⟩
  unfold rd_L
  rw [e 14 (by first | decide | omega), e 15 (by first | decide | omega), e 16 (by first | decide | omega), e 17 (by first | decide | omega)]
  exact a5
theorem nmQ_o {k : Int} (hb : cNt N X S) (hk : 0 ≤ k ∧ k < S 2 7) (hq : wqL S x k) (hn : S 7 k = -1 ∧ S 2 10 < 4000) (g : nf_ag 7 9 10 k S Z) : nmQ N X x S Z := by
  have hg : wG = 1000000 := rfl
  obtain ⟨⟨hcn, h4⟩, h7⟩ := hb
  obtain ⟨⟨h1, h2, h3, -⟩, -, h5, h6⟩ := id hcn
  have rp := rp_nf h1 h2 h3 h4 ⟨hk, hn⟩ g
  have hf := cL_nf h1 h5 rp g hk hq
  have hx : cL 10 12 X Z := cL_ag h1 h6 rp (fun i _ _ => g.2.2.2.1 10 i (by first | decide | omega) (by first | decide | omega) (by first | decide | omega) (Or.inl (by first | decide | omega)) (Or.inl (by first | decide | omega))) (g.2.2.2.1 2 12 (by first | decide | omega) (by first | decide | omega) (by first | decide | omega) (Or.inl (by first | decide | omega)) (Or.inr (by first | decide | omega)))
  have e7 : Z 2 7 = S 2 7 := g.2.2.2.1 2 7 (by first | decide | omega) (by first | decide | omega) (by first | decide | omega) (Or.inl (by first | decide | omega)) (Or.inr (by first | decide | omega))
  have e1 : Z 2 1 = S 2 1 := g.2.2.2.1 2 1 (by first | decide | omega) (by first | decide | omega) (by first | decide | omega) (Or.inl (by first | decide | omega)) (Or.inr (by first | decide | omega))
  obtain ⟨r1, r2, r3, r4, r5, r6, ⟨r7, r7b, r7c⟩, r8, r9, r10, r11, r12, r13, r14⟩ := id rp
  exact ⟨⟨cN_rp hcn rp hf hx, r12⟩, ⟨by omega, by omega, by omega, by omega⟩, ⟨r7, r7b⟩, r3, r2, fun j i j0 j1 j2 => g.2.2.2.1 j i j0 j1 (by omega) (Or.inl (by omega)) (Or.inl (by omega)), r13, r14⟩
theorem nmQ_n {Z2 : wS} (hb : cNt N X S) (hm : 0 ≤ (x.length : Int) ∧ (x.length : Int) ≤ 60) (g : wn_ag 2 3 1024 s (x.length : Int) S A) (hz : wd_at A 2 1024) (hq : wqL A x (S 2 7)) (hn : S 2 10 < 4000) (g2 : nf_ag 7 9 10 (S 2 7) A Z2) : nmQ N X x S Z2 := by
  have hg : wG = 1000000 := rfl
  obtain ⟨⟨hcn, h4⟩, h7⟩ := hb
  obtain ⟨⟨h1, h2, h3, -⟩, -, h5, h6⟩ := id hcn
  have rp := rp_wn h1 h2 h3 h4 ⟨h7.1, h7.2.1⟩ hm g hz
  have fA : ∀ (j : Nat) (i : Int), j < 4000000 → j ≠ wG → (j < 2 ∨ 12 < j ∨ (j = 2 ∧ i ≠ 1 ∧ i ≠ 7) ∨ j = 9 ∨ j = 10 ∨ j = 11) → A j i = S j i := fun j i j0 j1 j2 => g.2.2.2.2.2.2.1 j i j0 j1 (by omega)
  have c9 : cL 9 10 N A := cL_ag h1 h5 rp (fun i _ _ => fA 9 i (by first | decide | omega) (by first | decide | omega) (by omega)) (fA 2 10 (by first | decide | omega) (by first | decide | omega) (by omega))
  have c10 : cL 10 12 X A := cL_ag h1 h6 rp (fun i _ _ => fA 10 i (by first | decide | omega) (by first | decide | omega) (by omega)) (fA 2 12 (by first | decide | omega) (by first | decide | omega) (by omega))
  obtain ⟨⟨a1, a7⟩, -, ⟨-, -, -, an, -⟩, -⟩ := id g
  have e10 : A 2 10 = S 2 10 := fA 2 10 (by first | decide | omega) (by first | decide | omega) (by omega)
  have h10 : 0 ≤ S 2 7 := h1.1.1
  obtain ⟨q1, q2, q3, q4, q5, q6, ⟨q7, q7b, q7c⟩, q8, q9, q10, q11, q12, q13, q14⟩ := id rp
  have rp2 := rp_nf q9 q10 q11 q12 ⟨⟨h10, by show S 2 7 < A 2 7; rw [show A 2 7 = S 2 7 + 1 from a7]; omega⟩, an, by rw [e10]; exact hn⟩ g2
  have hf := cL_nf q9 c9 rp2 g2 ⟨h10, by rw [show A 2 7 = S 2 7 + 1 from a7]; omega⟩ hq
  have hx : cL 10 12 X Z2 := cL_ag q9 c10 rp2 (fun i _ _ => g2.2.2.2.1 10 i (by first | decide | omega) (by first | decide | omega) (by first | decide | omega) (Or.inl (by first | decide | omega)) (Or.inl (by first | decide | omega))) (g2.2.2.2.1 2 12 (by first | decide | omega) (by first | decide | omega) (by first | decide | omega) (Or.inl (by first | decide | omega)) (Or.inr (by first | decide | omega)))
  have e7 : Z2 2 7 = A 2 7 := g2.2.2.2.1 2 7 (by first | decide | omega) (by first | decide | omega) (by first | decide | omega) (Or.inl (by first | decide | omega)) (Or.inr (by first | decide | omega))
  have e1 : Z2 2 1 = A 2 1 := g2.2.2.2.1 2 1 (by first | decide | omega) (by first | decide | omega) (by first | decide | omega) (Or.inl (by first | decide | omega)) (Or.inr (by first | decide | omega))
  have e4 : Z2 4 (-1) = A 4 (-1) := g2.2.2.2.1 4 (-1) (by first | decide | omega) (by first | decide | omega) (by first | decide | omega) (Or.inl (by first | decide | omega)) (Or.inl (by first | decide | omega))
  have e3 : Z2 3 (-1) = A 3 (-1) := g2.2.2.2.1 3 (-1) (by first | decide | omega) (by first | decide | omega) (by first | decide | omega) (Or.inl (by first | decide | omega)) (Or.inl (by first | decide | omega))
  have y1 : A 2 1 = S 2 1 + (x.length : Int) := a1
  have y7 : A 2 7 = S 2 7 + 1 := a7
  obtain ⟨r1, r2, r3, r4, r5, r6, r7, r8, r9, r10, r11, r12, r13, r14⟩ := id rp2
  have i0 : 0 ≤ S 2 1 := by have := hcn.1.2.2.2.2.1.2; omega
  exact ⟨⟨cN_rp (cN_rp hcn rp c9 c10) rp2 hf hx, r12⟩, ⟨by omega, by omega, by omega, by omega⟩, ⟨by rw [e4, e7]; exact q7, by rw [e3, e1]; exact q7b⟩, fun i i0 i1 => (r3 i i0 (by omega)).trans (q3 i i0 i1), fun k k0 k1 => ⟨((r2 k k0 (by omega)).1).trans (q2 k k0 k1).1, ((r2 k k0 (by omega)).2).trans (q2 k k0 k1).2⟩, fun j i j0 j1 j2 => (g2.2.2.2.1 j i j0 j1 (by omega) (Or.inl (by omega)) (Or.inl (by omega))).trans (fA j i j0 j1 (by omega)), r13, rmR_tr q14 r14⟩
theorem nmQ_r (h : nmQ N X x S Z) : cTx S Z := ⟨h.2.1.2.2.2, h.2.2.2.1⟩
/-- what elementName of a text tells, and leaves -/
def enQ (w : Nat) (N X : List (List Int)) (x : List Int) (S : wS) (r : Int) (Z : wS) : Prop := ((x.length < 1 ∨ 60 < x.length) ∧ r = -1 ∧ S = Z) ∨ ((1 ≤ x.length ∧ x.length ≤ 60) ∧ ((x ∈ N ∧ r = ixL N x ∧ S = Z) ∨ (x ∉ N ∧ 4000 ≤ N.length ∧ r = -1 ∧ w_up S w 16 99 = Z) ∨ (x ∉ N ∧ N.length < 4000 ∧ r = (N.length : Int) ∧ nmQ N X x S Z)))
theorem ela_215 (l4 : S 158 4 = 215) (l5 : S 158 5 = 216) (l8 : S 158 8 = ba) (hba : 0 ≤ ba ∧ ba + 1 < S 217 (-1)) (hb2 : S 218 (-1) = S 217 (-1)) (hln : S 217 (-1) ≤ 4095) (hk : S 217 (ba + 1) = k) (hv : S 218 (ba + 1) = v) (hk3 : k ≠ 3) : wJ (pe_GA xs) wY0 M (d + 6) t_XL_elementName ((pe_at t_XL_elementName.bl 0).getD (0, [])).2 [(0, (2, 158))] [] S (fun o Z => o = .inl (some (0, -1)) ∧ S = Z) := by
  have hlr := wb_l2i_rg v
  refine wa_aload_n (n := 0) rfl ?_
  refine wb_gf4 158 rfl (wy_pr rfl) wt_158 wf_5_0 (v := 72) wl_158_0 ?_
  refine wb_gf4 72 rfl (wy_pr rfl) wt_72 wf_2_0 (v := 2) wl_72_0 ?_
  refine wa_astore_n (n := 1) rfl ?_
  refine wa_aload_n (n := 0) rfl ?_
  refine wb_gf5 158 rfl (wy_pr rfl) wt_158 wf_5_5 (v := 216) (l5) (fun r1 => ?_)
  refine wb_gf4 216 rfl (wy_pr rfl) wt_216 wf_7_1 (v := 218) wl_216_1 ?_
  refine wa_aload_n (n := 0) rfl ?_
  refine wb_gfi 158 rfl (wy_pr rfl) wt_158 wf_5_8 (v := ba) (l8) (fun r2 => ?_)
  refine wa_iconst ?_
  refine wa_iadd ?_
  refine wb_lald 218 rfl (wy_pr rfl) wt_218 (n := (S 217 (-1))) (hb2) (by omega) (by omega) (v := v) (hv) (fun r3 => ?_)
  refine wa_lstore_n (n := 2) rfl ?_
  refine wa_lload_n (n := 2) rfl ?_
  refine wa_cs (M2 := fun _ => False) rfl at_X_sliceSize ⟨_, rfl⟩ rfl rfl ⟨trivial, (Or.inr ⟨wy_pr rfl, fun q => q⟩), (Or.inr ⟨wy_pr rfl, fun q => q⟩), trivial⟩ trivial (fun _ _ q => False.elim q) ?_ (fun _ _ _ q => q)
  refine wa_lload_n (n := 0) rfl ?_
  refine wa_l2i ?_
  refine wa_ireturn rfl ?_
  show wJ _ _ _ _ _ _ _ _ _ _
  refine wa_istore (n := 4) rfl ?_
  refine wa_aload_n (n := 0) rfl ?_
  refine wb_gf5 158 rfl (wy_pr rfl) wt_158 wf_5_5 (v := 216) (l5) (fun r4 => ?_)
  refine wb_gf4 216 rfl (wy_pr rfl) wt_216 wf_7_0 (v := 217) wl_216_0 ?_
  refine wa_aload_n (n := 0) rfl ?_
  refine wb_gfi 158 rfl (wy_pr rfl) wt_158 wf_5_8 (v := ba) (l8) (fun r5 => ?_)
  refine wa_iconst ?_
  refine wa_iadd ?_
  refine wb_bald 217 rfl (wy_pr rfl) wt_217 (n := (S 217 (-1))) (rfl) (by omega) (by omega) (v := k) (hk) (fun r6 => ?_)
  refine wa_iconst ?_
  refine wa_icmpne (w_rg0 (by omega) (by omega)) (w_rg0 (by omega) (by omega)) ⟨_, rfl⟩ (fun c7 => ?_) (fun c7 => ?_)
  · skip
    refine wa_iconst ?_
    refine wa_ireturn rfl ?_
    exact ⟨rfl, rfl⟩
  · skip
    exfalso; omega
set_option maxHeartbeats 4000000 in
theorem elt_215 (l4 : S 158 4 = 215) (l5 : S 158 5 = 216) (l8 : S 158 8 = ba) (hba : 0 ≤ ba ∧ ba + 1 < S 217 (-1)) (hb2 : S 218 (-1) = S 217 (-1)) (hln : S 217 (-1) ≤ 4095) (hk : S 217 (ba + 1) = 3) (hv : S 218 (ba + 1) = v) (hI : gI S) (hb : cNt N X S) (hvy : v = s * 4294967296 + (x.length : Int)) (hs : 0 ≤ s ∧ s + (x.length : Int) ≤ S 2 1) (he : ∀ i : Nat, i < x.length → S 3 (s + (i : Int)) = x.getD i 0) : wJ (pe_GA xs) wY0 (mS [3, 4, 5, 6, 7, 8, 9]) (d + 6) t_XL_elementName ((pe_at t_XL_elementName.bl 0).getD (0, [])).2 [(0, (2, 158))] [] S (fun o Z => ∃ r : Int, o = .inl (some (0, r)) ∧ enQ 215 N X x S r Z) := by
  obtain ⟨⟨⟨⟨hWd, hWL, hWv, -⟩, -, hN, hXc⟩, hRd⟩, hb7, hb1, hb4, hb3⟩ := id hb
  have hp3 : S 2 1 ≤ S 3 (-1) ∧ S 3 (-1) ≤ 10000000 := ⟨hWd.2.1.2, hb3⟩
  have h21 : 0 ≤ S 2 1 := hWd.2.1.1
  have h1024 : 1024 ≤ S 3 (-1) := hWL.2.2.2.2.2.2.1
  have hc7 : 0 ≤ S 2 7 ∧ S 2 7 ≤ S 4 (-1) := hWd.1
  obtain ⟨nx, hnx⟩ : ∃ n : Int, n = ixL N x := ⟨_, rfl⟩
  have hnr : -1 ≤ nx ∧ nx ≤ 4000 := by have := @ixL_rr N x; have := hN.1; have := hWv.2.2.2.2.2.2.1; omega
  have h10 : S 2 10 = (N.length : Int) := hN.1
  have hxx := sl_x he
  refine wa_aload_n (n := 0) rfl ?_
  refine wb_gf4 158 rfl (wy_pr rfl) wt_158 wf_5_0 (v := 72) wl_158_0 ?_
  refine wb_gf4 72 rfl (wy_pr rfl) wt_72 wf_2_0 (v := 2) wl_72_0 ?_
  refine wa_astore_n (n := 1) rfl ?_
  refine wa_aload_n (n := 0) rfl ?_
  refine wb_gf5 158 rfl (wy_pr rfl) wt_158 wf_5_5 (v := 216) (l5) (fun r301 => ?_)
  refine wb_gf4 216 rfl (wy_pr rfl) wt_216 wf_7_1 (v := 218) wl_216_1 ?_
  refine wa_aload_n (n := 0) rfl ?_
  refine wb_gfi 158 rfl (wy_pr rfl) wt_158 wf_5_8 (v := ba) (l8) (fun r302 => ?_)
  refine wa_iconst ?_
  refine wa_iadd ?_
  refine wb_lald 218 rfl (wy_pr rfl) wt_218 (n := (S 217 (-1))) (hb2) (by omega) (by omega) (v := v) (hv) (fun r303 => ?_)
  refine wa_lstore_n (n := 2) rfl ?_
  refine wa_lload_n (n := 2) rfl ?_
  refine wa_cs (M2 := fun _ => False) rfl at_X_sliceSize ⟨_, rfl⟩ rfl rfl ⟨trivial, (Or.inr ⟨wy_pr rfl, fun q => q⟩), (Or.inr ⟨wy_pr rfl, fun q => q⟩), trivial⟩ trivial (fun _ _ q => False.elim q) ?_ (fun _ _ _ q => q)
  refine wa_lload_n (n := 0) rfl ?_
  refine wb_l2i_r (y := (x.length : Int)) (by rw [hvy]; exact sl_z ⟨by omega, by omega⟩ ⟨by omega, by omega⟩) ?_
  refine wa_ireturn rfl ?_
  show wJ _ _ _ _ _ _ _ _ _ _
  refine wa_istore (n := 4) rfl ?_
  refine wa_aload_n (n := 0) rfl ?_
  refine wb_gf5 158 rfl (wy_pr rfl) wt_158 wf_5_5 (v := 216) (l5) (fun r304 => ?_)
  refine wb_gf4 216 rfl (wy_pr rfl) wt_216 wf_7_0 (v := 217) wl_216_0 ?_
  refine wa_aload_n (n := 0) rfl ?_
  refine wb_gfi 158 rfl (wy_pr rfl) wt_158 wf_5_8 (v := ba) (l8) (fun r305 => ?_)
  refine wa_iconst ?_
  refine wa_iadd ?_
  refine wb_bald 217 rfl (wy_pr rfl) wt_217 (n := (S 217 (-1))) (rfl) (by omega) (by omega) (v := 3) (hk) (fun r306 => ?_)
  refine wa_iconst ?_
  refine wa_icmpne (w_rg0 (by omega) (by omega)) (w_rg0 (by omega) (by omega)) ⟨_, rfl⟩ (fun c307 => ?_) (fun c307 => ?_)
  · skip
    exact absurd c307 (by omega)
  · skip
    refine wa_iload (n := 4) rfl ?_
    refine wa_iconst ?_
    refine wa_icmplt (w_rg0 (by omega) (by omega)) (w_rg0 (by omega) (by omega)) ⟨_, rfl⟩ (fun c308 => ?_) (fun c308 => ?_)
    · skip
      refine wa_iconst ?_
      refine wa_ireturn rfl ?_
      exact ⟨-1, rfl, Or.inl ⟨by omega, rfl, rfl⟩⟩
    · skip
      refine wa_iload (n := 4) rfl ?_
      refine wa_bipush (w_rg2 (by omega) (by omega)) ?_
      refine wa_icmple (w_rg0 (by omega) (by omega)) (w_rg0 (by omega) (by omega)) ⟨_, rfl⟩ (fun c309 => ?_) (fun c309 => ?_)
      · skip
        refine wa_aload_n (n := 1) rfl ?_
        refine wa_aload_n (n := 1) rfl ?_
        refine wb_gf4 2 rfl (wy_pr rfl) wt_2 wf_9_0 (v := 3) wl_2_0 ?_
        refine wa_lload_n (n := 2) rfl ?_
        refine wa_cs (M2 := fun _ => False) rfl at_X_sliceStart ⟨_, rfl⟩ rfl rfl ⟨trivial, trivial, (Or.inr ⟨wy_pr rfl, fun q => q⟩), (Or.inr ⟨wy_pr rfl, fun q => q⟩), trivial⟩ ⟨(Or.inr ⟨wy_pr rfl, fun q => q⟩), (Or.inr ⟨wy_pr rfl, fun q => q⟩), trivial⟩ (fun _ _ q => False.elim q) ?_ (fun _ _ _ q => q)
        refine wa_lload_n (n := 0) rfl ?_
        refine wa_bipush (w_rg2 (by omega) (by omega)) ?_
        refine wa_lushr ?_
        refine wb_l2i_r (y := s) (by rw [hvy]; exact sl_s ⟨by omega, by omega⟩ ⟨by omega, by omega⟩) ?_
        refine wa_ireturn rfl ?_
        show wJ _ _ _ _ _ _ _ _ _ _
        refine wa_iload (n := 4) rfl ?_
        refine wa_cv 2 rfl (wy_pr rfl) wt_2 (M2 := mS []) rfl at_XW_nameAt ⟨_, rfl⟩ rfl rfl ⟨trivial, trivial, (Or.inr ⟨wy_pr rfl, mS_no rfl⟩), (Or.inr ⟨wy_pr rfl, mS_no rfl⟩), trivial⟩ trivial (fun _ _ q => mS_sub (by decide) q) (wJ_mono (c_nm hWd hWL hWv hN hs hp3 he) (fun o Z hz => (⟨hz.1, by rw [hnx]; exact hz.2⟩ : S = Z ∧ o = .inl (some (0, nx))))) (fun oq310 Sq310 hp311 q310 => ?_)
        rcases q310 with ⟨rfl, rfl⟩
        show wJ _ _ _ _ _ _ _ _ _ _
        refine wa_istore (n := 5) rfl ?_
        refine wa_iload (n := 5) rfl ?_
        refine wa_iconst ?_
        refine wa_icmpne (w_rg0 (by omega) (by omega)) (w_rg0 (by omega) (by omega)) ⟨_, rfl⟩ (fun c312 => ?_) (fun c312 => ?_)
        · skip
          refine wa_iload (n := 5) rfl ?_
          refine wa_iconst ?_
          refine wa_icmpne (w_rg0 (by omega) (by omega)) (w_rg0 (by omega) (by omega)) ⟨_, rfl⟩ (fun c313 => ?_) (fun c313 => ?_)
          · skip
            refine wa_iload (n := 5) rfl ?_
            refine wa_ireturn rfl ?_
            exact ⟨nx, rfl, Or.inr ⟨⟨by omega, by omega⟩, Or.inl ⟨Classical.byContradiction (fun z => by have := ixL_no.mpr z; omega), hnx, rfl⟩⟩⟩
          · skip
            exact absurd c313 (by omega)
        · skip
          refine wa_aload_n (n := 1) rfl ?_
          refine wb_gfi 2 rfl (wy_pr rfl) wt_2 wf_9_10 (v := (S 2 10)) rfl (fun r314 => ?_)
          refine wa_sipush (by omega) ?_
          refine wa_icmpge (w_rg0 (by omega) (by omega)) (w_rg0 (by omega) (by omega)) ⟨_, rfl⟩ (fun c315 => ?_) (fun c315 => ?_)
          · skip
            refine wa_iload (n := 5) rfl ?_
            refine wa_iconst ?_
            refine wa_icmpne (w_rg0 (by omega) (by omega)) (w_rg0 (by omega) (by omega)) ⟨_, rfl⟩ (fun c316 => ?_) (fun c316 => ?_)
            · skip
              exact absurd c316 (by omega)
            · skip
              refine wa_aload_n (n := 0) rfl ?_
              refine wb_gf5 158 rfl (wy_pr rfl) wt_158 wf_5_4 (v := 215) (l4) (fun r317 => ?_)
              refine wa_bipush (w_rg2 (by omega) (by omega)) ?_
              refine wb_pfi 215 rfl (wy_pr rfl) wt_215 wf_8_16 (n := 16) rfl ⟨(by omega), (by omega)⟩ ?_
              refine wa_fall ⟨_, rfl⟩ ?_
              refine wa_iload (n := 5) rfl ?_
              refine wa_ireturn rfl ?_
              exact ⟨nx, rfl, Or.inr ⟨⟨by omega, by omega⟩, Or.inr (Or.inl ⟨ixL_no.mp (by rw [← hnx]; omega), by omega, by omega, rfl⟩)⟩⟩
          · skip
            refine wa_aload_n (n := 1) rfl ?_
            refine wa_aload_n (n := 1) rfl ?_
            refine wa_aload_n (n := 1) rfl ?_
            refine wb_gf4 2 rfl (wy_pr rfl) wt_2 wf_9_0 (v := 3) wl_2_0 ?_
            refine wa_lload_n (n := 2) rfl ?_
            refine wa_cs (M2 := fun _ => False) rfl at_X_sliceStart ⟨_, rfl⟩ rfl rfl ⟨trivial, trivial, trivial, (Or.inr ⟨wy_pr rfl, fun q => q⟩), (Or.inr ⟨wy_pr rfl, fun q => q⟩), trivial⟩ ⟨(Or.inr ⟨wy_pr rfl, fun q => q⟩), (Or.inr ⟨wy_pr rfl, fun q => q⟩), (Or.inr ⟨wy_pr rfl, fun q => q⟩), trivial⟩ (fun _ _ q => False.elim q) ?_ (fun _ _ _ q => q)
            refine wa_lload_n (n := 0) rfl ?_
            refine wa_bipush (w_rg2 (by omega) (by omega)) ?_
            refine wa_lushr ?_
            refine wb_l2i_r (y := s) (by rw [hvy]; exact sl_s ⟨by omega, by omega⟩ ⟨by omega, by omega⟩) ?_
            refine wa_ireturn rfl ?_
            show wJ _ _ _ _ _ _ _ _ _ _
            refine wa_iload (n := 4) rfl ?_
            have hno : x ∉ N := ixL_no.mp (by rw [← hnx]; omega)
            refine wa_cv 2 rfl (wy_pr rfl) wt_2 (M2 := mS [3, 4, 5, 6, 7, 8]) rfl at_XW_wordFor ⟨_, rfl⟩ rfl rfl ⟨trivial, trivial, trivial, (Or.inr ⟨wy_pr rfl, mS_no rfl⟩), (Or.inr ⟨wy_pr rfl, mS_no rfl⟩), trivial⟩ ⟨(Or.inr ⟨wy_pr rfl, mS_no rfl⟩), trivial⟩ (fun _ _ q => mS_sub (by decide) q) (wo_2_3 (S := S) (a0 := s) (n := (x.length : Int)) hI hWL ⟨by omega, by omega, by omega, by omega⟩ ⟨by omega, by omega⟩ ⟨by omega, by omega, by omega⟩ hWd (by omega)) (fun oq318 Sq318 hp319 q318 => ?_)
            rcases q318 with ⟨k1, rfl, hk0, hk1, hwq, rfl⟩ | ⟨rfl, hnw, hq1, hzI⟩
            · skip
              show wJ _ _ _ _ _ _ _ _ _ _
              have hwT : wqL S x k1 := by rw [← hxx]; exact (wqL_sl (by omega)).mp hwq
              have h7k : S 7 k1 = -1 := (ix_no hWd hWv.1 hN ⟨hk0, hk1⟩ hwT).trans (ixL_no.mpr hno)
              refine wa_cv 2 rfl (wy_pr rfl) wt_2 (M2 := mS [9]) rfl at_XW_nameFor ⟨_, rfl⟩ rfl rfl ⟨trivial, trivial, trivial, (Or.inr ⟨wy_pr rfl, mS_no rfl⟩), (Or.inr ⟨wy_pr rfl, mS_no rfl⟩), trivial⟩ trivial (fun _ _ q => mS_sub (by decide) q) (nf_2 (S := S) (k := k1) hI hWL hWv ⟨hk0, hk1, hc7.2⟩) (fun oq320 Sq320 hp321 q320 => ?_)
              rcases q320 with ⟨⟨hz | hz, -, -⟩⟩ | ⟨-, hnf, rfl⟩
              · skip
                exact absurd h7k hz
              · skip
                exfalso; omega
              · skip
                show wJ _ _ _ _ _ _ _ _ _ _
                have hfin := nmQ_o hb ⟨hk0, hk1⟩ hwT ⟨h7k, by omega⟩ hnf
                refine wa_istore (n := 5) rfl ?_
                refine wa_fall ⟨_, rfl⟩ ?_
                refine wa_iload (n := 5) rfl ?_
                refine wa_iconst ?_
                refine wa_icmpne (w_rg0 (by omega) (by omega)) (w_rg0 (by omega) (by omega)) ⟨_, rfl⟩ (fun c322 => ?_) (fun c322 => ?_)
                · skip
                  refine wa_iload (n := 5) rfl ?_
                  refine wa_ireturn rfl ?_
                  exact ⟨_, rfl, Or.inr ⟨⟨by omega, by omega⟩, Or.inr (Or.inr ⟨hno, by omega, by omega, hfin⟩)⟩⟩
                · skip
                  exact absurd c322 (by omega)
            · skip
              show wJ _ _ _ _ _ _ _ _ _ _
              have rpw := rp_wn hWd hWL hWv hRd ⟨hb7, hb1⟩ ⟨by omega, by omega⟩ hq1 hzI
              have a7 : Sq318 2 7 = S 2 7 + 1 := hq1.1.2
              have hcw : wd_at Sq318 2 1024 ∧ wd_L Sq318 2 1024 ∧ wv_L Sq318 2 ∧ rd_L Sq318 ∧ gI Sq318 := ⟨rpw.2.2.2.2.2.2.2.2.1, rpw.2.2.2.2.2.2.2.2.2.1, rpw.2.2.2.2.2.2.2.2.2.2.1, rpw.2.2.2.2.2.2.2.2.2.2.2.1, rpw.2.2.2.2.2.2.2.2.2.2.2.2.1⟩
              have h7w : Sq318 7 (S 2 7) = -1 := hq1.2.2.1.2.2.2.1
              have e10w : Sq318 2 10 = S 2 10 := hq1.2.2.2.2.2.2.1 2 10 (by first | decide | omega) (by first | decide | omega) (by omega)
              refine wa_cv 2 rfl (wy_pr rfl) wt_2 (M2 := mS [9]) rfl at_XW_nameFor ⟨_, rfl⟩ rfl rfl ⟨trivial, trivial, trivial, (Or.inr ⟨wy_pr rfl, mS_no rfl⟩), (Or.inr ⟨wy_pr rfl, mS_no rfl⟩), trivial⟩ trivial (fun _ _ q => mS_sub (by decide) q) (nf_2 (S := Sq318) (k := S 2 7) hcw.2.2.2.2 hcw.2.1 hcw.2.2.1 ⟨by omega, by omega, hcw.1.1.2⟩) (fun oq323 Sq323 hp324 q323 => ?_)
              rcases q323 with ⟨⟨hz | hz, -, -⟩⟩ | ⟨-, hnf, rfl⟩
              · skip
                exact absurd h7w hz
              · skip
                exfalso; omega
              · skip
                show wJ _ _ _ _ _ _ _ _ _ _
                have hwqA : wqL Sq318 x (S 2 7) := by
                  obtain ⟨-, -, ⟨w4, w5, -⟩, -, -, wp, -⟩ := id hq1
                  refine ⟨w5, fun i hi => ?_⟩
                  rw [show Sq318 4 (S 2 7) = S 2 1 from w4]
                  refine (wp (i : Int) (by omega) (by omega)).trans ((he i (by omega)).trans ?_)
                  show x.getD i 0 = x.getD ((0 : Int) + (i : Int)).toNat 0
                  rw [show ((0 : Int) + (i : Int)).toNat = i by omega]
                have hfin := nmQ_n (s := s) hb ⟨by omega, by omega⟩ hq1 hzI hwqA (by omega) hnf
                refine wa_istore (n := 5) rfl ?_
                refine wa_fall ⟨_, rfl⟩ ?_
                refine wa_iload (n := 5) rfl ?_
                refine wa_iconst ?_
                refine wa_icmpne (w_rg0 (by omega) (by omega)) (w_rg0 (by omega) (by omega)) ⟨_, rfl⟩ (fun c325 => ?_) (fun c325 => ?_)
                · skip
                  refine wa_iload (n := 5) rfl ?_
                  refine wa_ireturn rfl ?_
                  exact ⟨_, rfl, Or.inr ⟨⟨by omega, by omega⟩, Or.inr (Or.inr ⟨hno, by omega, by omega, hfin⟩)⟩⟩
                · skip
                  exact absurd c325 (by omega)
      · skip
        refine wa_fall ⟨_, rfl⟩ ?_
        refine wa_iconst ?_
        refine wa_ireturn rfl ?_
        exact ⟨-1, rfl, Or.inl ⟨by omega, rfl, rfl⟩⟩
theorem ela_226 (l4 : S 158 4 = 226) (l5 : S 158 5 = 227) (l8 : S 158 8 = ba) (hba : 0 ≤ ba ∧ ba + 1 < S 228 (-1)) (hb2 : S 229 (-1) = S 228 (-1)) (hln : S 228 (-1) ≤ 4095) (hk : S 228 (ba + 1) = k) (hv : S 229 (ba + 1) = v) (hk3 : k ≠ 3) : wJ (pe_GA xs) wY0 M (d + 6) t_XL_elementName ((pe_at t_XL_elementName.bl 0).getD (0, [])).2 [(0, (2, 158))] [] S (fun o Z => o = .inl (some (0, -1)) ∧ S = Z) := by
  have hlr := wb_l2i_rg v
  refine wa_aload_n (n := 0) rfl ?_
  refine wb_gf4 158 rfl (wy_pr rfl) wt_158 wf_5_0 (v := 72) wl_158_0 ?_
  refine wb_gf4 72 rfl (wy_pr rfl) wt_72 wf_2_0 (v := 2) wl_72_0 ?_
  refine wa_astore_n (n := 1) rfl ?_
  refine wa_aload_n (n := 0) rfl ?_
  refine wb_gf5 158 rfl (wy_pr rfl) wt_158 wf_5_5 (v := 227) (l5) (fun r1 => ?_)
  refine wb_gf4 227 rfl (wy_pr rfl) wt_227 wf_7_1 (v := 229) wl_227_1 ?_
  refine wa_aload_n (n := 0) rfl ?_
  refine wb_gfi 158 rfl (wy_pr rfl) wt_158 wf_5_8 (v := ba) (l8) (fun r2 => ?_)
  refine wa_iconst ?_
  refine wa_iadd ?_
  refine wb_lald 229 rfl (wy_pr rfl) wt_229 (n := (S 228 (-1))) (hb2) (by omega) (by omega) (v := v) (hv) (fun r3 => ?_)
  refine wa_lstore_n (n := 2) rfl ?_
  refine wa_lload_n (n := 2) rfl ?_
  refine wa_cs (M2 := fun _ => False) rfl at_X_sliceSize ⟨_, rfl⟩ rfl rfl ⟨trivial, (Or.inr ⟨wy_pr rfl, fun q => q⟩), (Or.inr ⟨wy_pr rfl, fun q => q⟩), trivial⟩ trivial (fun _ _ q => False.elim q) ?_ (fun _ _ _ q => q)
  refine wa_lload_n (n := 0) rfl ?_
  refine wa_l2i ?_
  refine wa_ireturn rfl ?_
  show wJ _ _ _ _ _ _ _ _ _ _
  refine wa_istore (n := 4) rfl ?_
  refine wa_aload_n (n := 0) rfl ?_
  refine wb_gf5 158 rfl (wy_pr rfl) wt_158 wf_5_5 (v := 227) (l5) (fun r4 => ?_)
  refine wb_gf4 227 rfl (wy_pr rfl) wt_227 wf_7_0 (v := 228) wl_227_0 ?_
  refine wa_aload_n (n := 0) rfl ?_
  refine wb_gfi 158 rfl (wy_pr rfl) wt_158 wf_5_8 (v := ba) (l8) (fun r5 => ?_)
  refine wa_iconst ?_
  refine wa_iadd ?_
  refine wb_bald 228 rfl (wy_pr rfl) wt_228 (n := (S 228 (-1))) (rfl) (by omega) (by omega) (v := k) (hk) (fun r6 => ?_)
  refine wa_iconst ?_
  refine wa_icmpne (w_rg0 (by omega) (by omega)) (w_rg0 (by omega) (by omega)) ⟨_, rfl⟩ (fun c7 => ?_) (fun c7 => ?_)
  · skip
    refine wa_iconst ?_
    refine wa_ireturn rfl ?_
    exact ⟨rfl, rfl⟩
  · skip
    exfalso; omega
set_option maxHeartbeats 4000000 in
theorem elt_226 (l4 : S 158 4 = 226) (l5 : S 158 5 = 227) (l8 : S 158 8 = ba) (hba : 0 ≤ ba ∧ ba + 1 < S 228 (-1)) (hb2 : S 229 (-1) = S 228 (-1)) (hln : S 228 (-1) ≤ 4095) (hk : S 228 (ba + 1) = 3) (hv : S 229 (ba + 1) = v) (hI : gI S) (hb : cNt N X S) (hvy : v = s * 4294967296 + (x.length : Int)) (hs : 0 ≤ s ∧ s + (x.length : Int) ≤ S 2 1) (he : ∀ i : Nat, i < x.length → S 3 (s + (i : Int)) = x.getD i 0) : wJ (pe_GA xs) wY0 (mS [3, 4, 5, 6, 7, 8, 9]) (d + 6) t_XL_elementName ((pe_at t_XL_elementName.bl 0).getD (0, [])).2 [(0, (2, 158))] [] S (fun o Z => ∃ r : Int, o = .inl (some (0, r)) ∧ enQ 226 N X x S r Z) := by
  obtain ⟨⟨⟨⟨hWd, hWL, hWv, -⟩, -, hN, hXc⟩, hRd⟩, hb7, hb1, hb4, hb3⟩ := id hb
  have hp3 : S 2 1 ≤ S 3 (-1) ∧ S 3 (-1) ≤ 10000000 := ⟨hWd.2.1.2, hb3⟩
  have h21 : 0 ≤ S 2 1 := hWd.2.1.1
  have h1024 : 1024 ≤ S 3 (-1) := hWL.2.2.2.2.2.2.1
  have hc7 : 0 ≤ S 2 7 ∧ S 2 7 ≤ S 4 (-1) := hWd.1
  obtain ⟨nx, hnx⟩ : ∃ n : Int, n = ixL N x := ⟨_, rfl⟩
  have hnr : -1 ≤ nx ∧ nx ≤ 4000 := by have := @ixL_rr N x; have := hN.1; have := hWv.2.2.2.2.2.2.1; omega
  have h10 : S 2 10 = (N.length : Int) := hN.1
  have hxx := sl_x he
  refine wa_aload_n (n := 0) rfl ?_
  refine wb_gf4 158 rfl (wy_pr rfl) wt_158 wf_5_0 (v := 72) wl_158_0 ?_
  refine wb_gf4 72 rfl (wy_pr rfl) wt_72 wf_2_0 (v := 2) wl_72_0 ?_
  refine wa_astore_n (n := 1) rfl ?_
  refine wa_aload_n (n := 0) rfl ?_
  refine wb_gf5 158 rfl (wy_pr rfl) wt_158 wf_5_5 (v := 227) (l5) (fun r301 => ?_)
  refine wb_gf4 227 rfl (wy_pr rfl) wt_227 wf_7_1 (v := 229) wl_227_1 ?_
  refine wa_aload_n (n := 0) rfl ?_
  refine wb_gfi 158 rfl (wy_pr rfl) wt_158 wf_5_8 (v := ba) (l8) (fun r302 => ?_)
  refine wa_iconst ?_
  refine wa_iadd ?_
  refine wb_lald 229 rfl (wy_pr rfl) wt_229 (n := (S 228 (-1))) (hb2) (by omega) (by omega) (v := v) (hv) (fun r303 => ?_)
  refine wa_lstore_n (n := 2) rfl ?_
  refine wa_lload_n (n := 2) rfl ?_
  refine wa_cs (M2 := fun _ => False) rfl at_X_sliceSize ⟨_, rfl⟩ rfl rfl ⟨trivial, (Or.inr ⟨wy_pr rfl, fun q => q⟩), (Or.inr ⟨wy_pr rfl, fun q => q⟩), trivial⟩ trivial (fun _ _ q => False.elim q) ?_ (fun _ _ _ q => q)
  refine wa_lload_n (n := 0) rfl ?_
  refine wb_l2i_r (y := (x.length : Int)) (by rw [hvy]; exact sl_z ⟨by omega, by omega⟩ ⟨by omega, by omega⟩) ?_
  refine wa_ireturn rfl ?_
  show wJ _ _ _ _ _ _ _ _ _ _
  refine wa_istore (n := 4) rfl ?_
  refine wa_aload_n (n := 0) rfl ?_
  refine wb_gf5 158 rfl (wy_pr rfl) wt_158 wf_5_5 (v := 227) (l5) (fun r304 => ?_)
  refine wb_gf4 227 rfl (wy_pr rfl) wt_227 wf_7_0 (v := 228) wl_227_0 ?_
  refine wa_aload_n (n := 0) rfl ?_
  refine wb_gfi 158 rfl (wy_pr rfl) wt_158 wf_5_8 (v := ba) (l8) (fun r305 => ?_)
  refine wa_iconst ?_
  refine wa_iadd ?_
  refine wb_bald 228 rfl (wy_pr rfl) wt_228 (n := (S 228 (-1))) (rfl) (by omega) (by omega) (v := 3) (hk) (fun r306 => ?_)
  refine wa_iconst ?_
  refine wa_icmpne (w_rg0 (by omega) (by omega)) (w_rg0 (by omega) (by omega)) ⟨_, rfl⟩ (fun c307 => ?_) (fun c307 => ?_)
  · skip
    exact absurd c307 (by omega)
  · skip
    refine wa_iload (n := 4) rfl ?_
    refine wa_iconst ?_
    refine wa_icmplt (w_rg0 (by omega) (by omega)) (w_rg0 (by omega) (by omega)) ⟨_, rfl⟩ (fun c308 => ?_) (fun c308 => ?_)
    · skip
      refine wa_iconst ?_
      refine wa_ireturn rfl ?_
      exact ⟨-1, rfl, Or.inl ⟨by omega, rfl, rfl⟩⟩
    · skip
      refine wa_iload (n := 4) rfl ?_
      refine wa_bipush (w_rg2 (by omega) (by omega)) ?_
      refine wa_icmple (w_rg0 (by omega) (by omega)) (w_rg0 (by omega) (by omega)) ⟨_, rfl⟩ (fun c309 => ?_) (fun c309 => ?_)
      · skip
        refine wa_aload_n (n := 1) rfl ?_
        refine wa_aload_n (n := 1) rfl ?_
        refine wb_gf4 2 rfl (wy_pr rfl) wt_2 wf_9_0 (v := 3) wl_2_0 ?_
        refine wa_lload_n (n := 2) rfl ?_
        refine wa_cs (M2 := fun _ => False) rfl at_X_sliceStart ⟨_, rfl⟩ rfl rfl ⟨trivial, trivial, (Or.inr ⟨wy_pr rfl, fun q => q⟩), (Or.inr ⟨wy_pr rfl, fun q => q⟩), trivial⟩ ⟨(Or.inr ⟨wy_pr rfl, fun q => q⟩), (Or.inr ⟨wy_pr rfl, fun q => q⟩), trivial⟩ (fun _ _ q => False.elim q) ?_ (fun _ _ _ q => q)
        refine wa_lload_n (n := 0) rfl ?_
        refine wa_bipush (w_rg2 (by omega) (by omega)) ?_
        refine wa_lushr ?_
        refine wb_l2i_r (y := s) (by rw [hvy]; exact sl_s ⟨by omega, by omega⟩ ⟨by omega, by omega⟩) ?_
        refine wa_ireturn rfl ?_
        show wJ _ _ _ _ _ _ _ _ _ _
        refine wa_iload (n := 4) rfl ?_
        refine wa_cv 2 rfl (wy_pr rfl) wt_2 (M2 := mS []) rfl at_XW_nameAt ⟨_, rfl⟩ rfl rfl ⟨trivial, trivial, (Or.inr ⟨wy_pr rfl, mS_no rfl⟩), (Or.inr ⟨wy_pr rfl, mS_no rfl⟩), trivial⟩ trivial (fun _ _ q => mS_sub (by decide) q) (wJ_mono (c_nm hWd hWL hWv hN hs hp3 he) (fun o Z hz => (⟨hz.1, by rw [hnx]; exact hz.2⟩ : S = Z ∧ o = .inl (some (0, nx))))) (fun oq310 Sq310 hp311 q310 => ?_)
        rcases q310 with ⟨rfl, rfl⟩
        show wJ _ _ _ _ _ _ _ _ _ _
        refine wa_istore (n := 5) rfl ?_
        refine wa_iload (n := 5) rfl ?_
        refine wa_iconst ?_
        refine wa_icmpne (w_rg0 (by omega) (by omega)) (w_rg0 (by omega) (by omega)) ⟨_, rfl⟩ (fun c312 => ?_) (fun c312 => ?_)
        · skip
          refine wa_iload (n := 5) rfl ?_
          refine wa_iconst ?_
          refine wa_icmpne (w_rg0 (by omega) (by omega)) (w_rg0 (by omega) (by omega)) ⟨_, rfl⟩ (fun c313 => ?_) (fun c313 => ?_)
          · skip
            refine wa_iload (n := 5) rfl ?_
            refine wa_ireturn rfl ?_
            exact ⟨nx, rfl, Or.inr ⟨⟨by omega, by omega⟩, Or.inl ⟨Classical.byContradiction (fun z => by have := ixL_no.mpr z; omega), hnx, rfl⟩⟩⟩
          · skip
            exact absurd c313 (by omega)
        · skip
          refine wa_aload_n (n := 1) rfl ?_
          refine wb_gfi 2 rfl (wy_pr rfl) wt_2 wf_9_10 (v := (S 2 10)) rfl (fun r314 => ?_)
          refine wa_sipush (by omega) ?_
          refine wa_icmpge (w_rg0 (by omega) (by omega)) (w_rg0 (by omega) (by omega)) ⟨_, rfl⟩ (fun c315 => ?_) (fun c315 => ?_)
          · skip
            refine wa_iload (n := 5) rfl ?_
            refine wa_iconst ?_
            refine wa_icmpne (w_rg0 (by omega) (by omega)) (w_rg0 (by omega) (by omega)) ⟨_, rfl⟩ (fun c316 => ?_) (fun c316 => ?_)
            · skip
              exact absurd c316 (by omega)
            · skip
              refine wa_aload_n (n := 0) rfl ?_
              refine wb_gf5 158 rfl (wy_pr rfl) wt_158 wf_5_4 (v := 226) (l4) (fun r317 => ?_)
              refine wa_bipush (w_rg2 (by omega) (by omega)) ?_
              refine wb_pfi 226 rfl (wy_pr rfl) wt_226 wf_8_16 (n := 16) rfl ⟨(by omega), (by omega)⟩ ?_
              refine wa_fall ⟨_, rfl⟩ ?_
              refine wa_iload (n := 5) rfl ?_
              refine wa_ireturn rfl ?_
              exact ⟨nx, rfl, Or.inr ⟨⟨by omega, by omega⟩, Or.inr (Or.inl ⟨ixL_no.mp (by rw [← hnx]; omega), by omega, by omega, rfl⟩)⟩⟩
          · skip
            refine wa_aload_n (n := 1) rfl ?_
            refine wa_aload_n (n := 1) rfl ?_
            refine wa_aload_n (n := 1) rfl ?_
            refine wb_gf4 2 rfl (wy_pr rfl) wt_2 wf_9_0 (v := 3) wl_2_0 ?_
            refine wa_lload_n (n := 2) rfl ?_
            refine wa_cs (M2 := fun _ => False) rfl at_X_sliceStart ⟨_, rfl⟩ rfl rfl ⟨trivial, trivial, trivial, (Or.inr ⟨wy_pr rfl, fun q => q⟩), (Or.inr ⟨wy_pr rfl, fun q => q⟩), trivial⟩ ⟨(Or.inr ⟨wy_pr rfl, fun q => q⟩), (Or.inr ⟨wy_pr rfl, fun q => q⟩), (Or.inr ⟨wy_pr rfl, fun q => q⟩), trivial⟩ (fun _ _ q => False.elim q) ?_ (fun _ _ _ q => q)
            refine wa_lload_n (n := 0) rfl ?_
            refine wa_bipush (w_rg2 (by omega) (by omega)) ?_
            refine wa_lushr ?_
            refine wb_l2i_r (y := s) (by rw [hvy]; exact sl_s ⟨by omega, by omega⟩ ⟨by omega, by omega⟩) ?_
            refine wa_ireturn rfl ?_
            show wJ _ _ _ _ _ _ _ _ _ _
            refine wa_iload (n := 4) rfl ?_
            have hno : x ∉ N := ixL_no.mp (by rw [← hnx]; omega)
            refine wa_cv 2 rfl (wy_pr rfl) wt_2 (M2 := mS [3, 4, 5, 6, 7, 8]) rfl at_XW_wordFor ⟨_, rfl⟩ rfl rfl ⟨trivial, trivial, trivial, (Or.inr ⟨wy_pr rfl, mS_no rfl⟩), (Or.inr ⟨wy_pr rfl, mS_no rfl⟩), trivial⟩ ⟨(Or.inr ⟨wy_pr rfl, mS_no rfl⟩), trivial⟩ (fun _ _ q => mS_sub (by decide) q) (wo_2_3 (S := S) (a0 := s) (n := (x.length : Int)) hI hWL ⟨by omega, by omega, by omega, by omega⟩ ⟨by omega, by omega⟩ ⟨by omega, by omega, by omega⟩ hWd (by omega)) (fun oq318 Sq318 hp319 q318 => ?_)
            rcases q318 with ⟨k1, rfl, hk0, hk1, hwq, rfl⟩ | ⟨rfl, hnw, hq1, hzI⟩
            · skip
              show wJ _ _ _ _ _ _ _ _ _ _
              have hwT : wqL S x k1 := by rw [← hxx]; exact (wqL_sl (by omega)).mp hwq
              have h7k : S 7 k1 = -1 := (ix_no hWd hWv.1 hN ⟨hk0, hk1⟩ hwT).trans (ixL_no.mpr hno)
              refine wa_cv 2 rfl (wy_pr rfl) wt_2 (M2 := mS [9]) rfl at_XW_nameFor ⟨_, rfl⟩ rfl rfl ⟨trivial, trivial, trivial, (Or.inr ⟨wy_pr rfl, mS_no rfl⟩), (Or.inr ⟨wy_pr rfl, mS_no rfl⟩), trivial⟩ trivial (fun _ _ q => mS_sub (by decide) q) (nf_2 (S := S) (k := k1) hI hWL hWv ⟨hk0, hk1, hc7.2⟩) (fun oq320 Sq320 hp321 q320 => ?_)
              rcases q320 with ⟨⟨hz | hz, -, -⟩⟩ | ⟨-, hnf, rfl⟩
              · skip
                exact absurd h7k hz
              · skip
                exfalso; omega
              · skip
                show wJ _ _ _ _ _ _ _ _ _ _
                have hfin := nmQ_o hb ⟨hk0, hk1⟩ hwT ⟨h7k, by omega⟩ hnf
                refine wa_istore (n := 5) rfl ?_
                refine wa_fall ⟨_, rfl⟩ ?_
                refine wa_iload (n := 5) rfl ?_
                refine wa_iconst ?_
                refine wa_icmpne (w_rg0 (by omega) (by omega)) (w_rg0 (by omega) (by omega)) ⟨_, rfl⟩ (fun c322 => ?_) (fun c322 => ?_)
                · skip
                  refine wa_iload (n := 5) rfl ?_
                  refine wa_ireturn rfl ?_
                  exact ⟨_, rfl, Or.inr ⟨⟨by omega, by omega⟩, Or.inr (Or.inr ⟨hno, by omega, by omega, hfin⟩)⟩⟩
                · skip
                  exact absurd c322 (by omega)
            · skip
              show wJ _ _ _ _ _ _ _ _ _ _
              have rpw := rp_wn hWd hWL hWv hRd ⟨hb7, hb1⟩ ⟨by omega, by omega⟩ hq1 hzI
              have a7 : Sq318 2 7 = S 2 7 + 1 := hq1.1.2
              have hcw : wd_at Sq318 2 1024 ∧ wd_L Sq318 2 1024 ∧ wv_L Sq318 2 ∧ rd_L Sq318 ∧ gI Sq318 := ⟨rpw.2.2.2.2.2.2.2.2.1, rpw.2.2.2.2.2.2.2.2.2.1, rpw.2.2.2.2.2.2.2.2.2.2.1, rpw.2.2.2.2.2.2.2.2.2.2.2.1, rpw.2.2.2.2.2.2.2.2.2.2.2.2.1⟩
              have h7w : Sq318 7 (S 2 7) = -1 := hq1.2.2.1.2.2.2.1
              have e10w : Sq318 2 10 = S 2 10 := hq1.2.2.2.2.2.2.1 2 10 (by first | decide | omega) (by first | decide | omega) (by omega)
              refine wa_cv 2 rfl (wy_pr rfl) wt_2 (M2 := mS [9]) rfl at_XW_nameFor ⟨_, rfl⟩ rfl rfl ⟨trivial, trivial, trivial, (Or.inr ⟨wy_pr rfl, mS_no rfl⟩), (Or.inr ⟨wy_pr rfl, mS_no rfl⟩), trivial⟩ trivial (fun _ _ q => mS_sub (by decide) q) (nf_2 (S := Sq318) (k := S 2 7) hcw.2.2.2.2 hcw.2.1 hcw.2.2.1 ⟨by omega, by omega, hcw.1.1.2⟩) (fun oq323 Sq323 hp324 q323 => ?_)
              rcases q323 with ⟨⟨hz | hz, -, -⟩⟩ | ⟨-, hnf, rfl⟩
              · skip
                exact absurd h7w hz
              · skip
                exfalso; omega
              · skip
                show wJ _ _ _ _ _ _ _ _ _ _
                have hwqA : wqL Sq318 x (S 2 7) := by
                  obtain ⟨-, -, ⟨w4, w5, -⟩, -, -, wp, -⟩ := id hq1
                  refine ⟨w5, fun i hi => ?_⟩
                  rw [show Sq318 4 (S 2 7) = S 2 1 from w4]
                  refine (wp (i : Int) (by omega) (by omega)).trans ((he i (by omega)).trans ?_)
                  show x.getD i 0 = x.getD ((0 : Int) + (i : Int)).toNat 0
                  rw [show ((0 : Int) + (i : Int)).toNat = i by omega]
                have hfin := nmQ_n (s := s) hb ⟨by omega, by omega⟩ hq1 hzI hwqA (by omega) hnf
                refine wa_istore (n := 5) rfl ?_
                refine wa_fall ⟨_, rfl⟩ ?_
                refine wa_iload (n := 5) rfl ?_
                refine wa_iconst ?_
                refine wa_icmpne (w_rg0 (by omega) (by omega)) (w_rg0 (by omega) (by omega)) ⟨_, rfl⟩ (fun c325 => ?_) (fun c325 => ?_)
                · skip
                  refine wa_iload (n := 5) rfl ?_
                  refine wa_ireturn rfl ?_
                  exact ⟨_, rfl, Or.inr ⟨⟨by omega, by omega⟩, Or.inr (Or.inr ⟨hno, by omega, by omega, hfin⟩)⟩⟩
                · skip
                  exact absurd c325 (by omega)
      · skip
        refine wa_fall ⟨_, rfl⟩ ?_
        refine wa_iconst ?_
        refine wa_ireturn rfl ?_
        exact ⟨-1, rfl, Or.inl ⟨by omega, rfl, rfl⟩⟩
end Wgh
