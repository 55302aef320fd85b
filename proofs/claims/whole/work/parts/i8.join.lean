/-! PART i8: texts joined, of the class, by tasks. -/
section Wi8
variable {xs : List (Nat × List Int32)} {M : Nat → Prop} {d : Nat} {S Z A B : wS} {K : aK} {a b : Int} {l : List Int} {w : Nat}
/-- what joining texts may change of the class -/
def cMj (j : Nat) (x : Int) : Prop := cMq j x ∨ (j = 150 ∧ (x = 2 ∨ x = 3)) ∨ j = 3 ∨ (j = 2 ∧ x = 1)
theorem as_fm (hw : w = 215 ∨ w = 226) (h : asQ l S Z) : cFm w cMj S Z := by
  have hg : wG = 1000000 := rfl
  obtain ⟨-, -, -, fr, -, g, r⟩ := h
  exact ⟨fun j x j0 j1 _ j3 => fr j x j0 j1 (by unfold cMj at j3; omega) (by unfold cMj at j3; omega) (by unfold cMj cMq at j3; omega) (by unfold cMj cMq at j3; omega), fun j j0 j1 => fr j (-1) (by omega) (by omega) (by omega) (by omega) (by omega) (by omega), g, r⟩
theorem cFm_wk {mk mk2 : Nat → Int → Prop} (h : cFm w mk S Z) (hk : ∀ (j : Nat) (x : Int), mk j x → mk2 j x) : cFm w mk2 S Z := ⟨fun j x j0 j1 j2 j3 => h.1 j x j0 j1 j2 (fun z => j3 (hk j x z)), h.2⟩
theorem cV_re {u : aV} {k v : Int} (h : cVl S k v u) : cVl S u.1 v u := ⟨rfl, h.2⟩
theorem xo7j_215 {c p h k1 k2 : Int} {R : wS → Prop} (hP : xP 215 c p h S) (hh2 : 2 ≤ h) (e1 : S 217 (h - 1 - 1) = k1) (e2 : S 217 (h - 1) = k2) (hn2 : ¬ (k1 = 2 ∧ k2 = 2)) (hk1 : -128 ≤ k1 ∧ k1 ≤ 127) (hk2 : -128 ≤ k2 ∧ k2 ≤ 127) (hcal : wJ (pe_GA xs) wY0 (mS [217, 218, 3]) (d + 10) t_XK_join ((pe_at t_XK_join.bl 0).getD (0, [])).2 [(0, (2, 215)), (1, (0, h - 1 - 1)), (2, (0, h - 1))] [] S (fun o Z => o = .inl none ∧ R Z)) : wJ (pe_GA xs) wY0 (mS [217, 218, 3]) (d + 11) t_XK_operate ((pe_at t_XK_operate.bl 0).getD (0, [])).2 [(0, (2, 215)), (1, (0, 7))] [] S (fun o Z => o = .inl none ∧ R Z) := by
  obtain ⟨⟨hC, hI⟩, ⟨bc, bc0, bc1⟩, ⟨bp, bp0, bp1⟩, ⟨bh, bh0, bh1, bh2⟩, bl1, bl2, bl3⟩ := hP
  replace bp : S 220 (c - 1) = p := bp
  replace bh : S 216 2 = h := bh
  replace bh2 : h ≤ S 217 (-1) := bh2
  replace bl1 : S 218 (-1) = S 217 (-1) := bl1
  replace bl2 : 64 ≤ S 217 (-1) := bl2
  replace bl3 : S 217 (-1) ≤ 4095 := bl3
  refine wa_aload_n (n := 0) rfl ?_
  refine wb_gf4 215 rfl (wy_pr rfl) wt_215 wf_8_3 (v := 216) wl_215_3 ?_
  refine wb_gfi 216 rfl (wy_pr rfl) wt_216 wf_7_2 (v := h) (bh) (fun r1 => ?_)
  refine wa_iconst ?_
  refine wa_isub ?_
  refine wa_istore_n (n := 2) rfl ?_
  refine wa_iload_n (n := 1) rfl ?_
  refine wa_bipush (w_rg2 (by omega) (by omega)) ?_
  refine wa_icmpne (w_rg0 (by omega) (by omega)) (w_rg0 (by omega) (by omega)) ⟨_, rfl⟩ (fun c2 => ?_) (fun c2 => ?_)
  · skip
    refine wa_iload_n (n := 1) rfl ?_
    refine wa_bipush (w_rg2 (by omega) (by omega)) ?_
    refine wa_icmpne (w_rg0 (by omega) (by omega)) (w_rg0 (by omega) (by omega)) ⟨_, rfl⟩ (fun c3 => ?_) (fun c3 => ?_)
    · skip
      refine wa_iload_n (n := 1) rfl ?_
      refine wa_bipush (w_rg2 (by omega) (by omega)) ?_
      refine wa_icmpeq (w_rg0 (by omega) (by omega)) (w_rg0 (by omega) (by omega)) ⟨_, rfl⟩ (fun c4 => ?_) (fun c4 => ?_)
      · skip
        exact absurd c4 (by omega)
      · skip
        refine wa_iload_n (n := 1) rfl ?_
        refine wa_bipush (w_rg2 (by omega) (by omega)) ?_
        refine wa_icmpne (w_rg0 (by omega) (by omega)) (w_rg0 (by omega) (by omega)) ⟨_, rfl⟩ (fun c5 => ?_) (fun c5 => ?_)
        · skip
          refine wa_aload_n (n := 0) rfl ?_
          refine wb_gf4 215 rfl (wy_pr rfl) wt_215 wf_8_3 (v := 216) wl_215_3 ?_
          refine wb_gf4 216 rfl (wy_pr rfl) wt_216 wf_7_0 (v := 217) wl_216_0 ?_
          refine wa_iload_n (n := 2) rfl ?_
          refine wb_bald 217 rfl (wy_pr rfl) wt_217 (n := (S 217 (-1))) (rfl) (by omega) (by omega) (v := k2) (e2) (fun r6 => ?_)
          refine wa_iconst ?_
          refine wa_icmpne (w_rg0 (by omega) (by omega)) (w_rg0 (by omega) (by omega)) ⟨_, rfl⟩ (fun c7 => ?_) (fun c7 => ?_)
          · skip
            refine wa_iload_n (n := 1) rfl ?_
            refine wa_bipush (w_rg2 (by omega) (by omega)) ?_
            refine wa_icmpne (w_rg0 (by omega) (by omega)) (w_rg0 (by omega) (by omega)) ⟨_, rfl⟩ (fun c8 => ?_) (fun c8 => ?_)
            · skip
              exact absurd c8 (by omega)
            · skip
              refine wa_aload_n (n := 0) rfl ?_
              refine wa_iload_n (n := 2) rfl ?_
              refine wa_iconst ?_
              refine wa_isub ?_
              refine wa_iload_n (n := 2) rfl ?_
              refine wa_cv 215 rfl (wy_pr rfl) wt_215 (M2 := mS [217, 218, 3]) rfl at_XK_join ⟨_, rfl⟩ rfl rfl ⟨trivial, (Or.inr ⟨wy_pr rfl, mS_no rfl⟩), trivial, trivial⟩ trivial (fun _ _ q => q) (hcal) (fun oq9 Sq9 hp10 q9 => ?_)
              rcases q9 with ⟨rfl, hr0⟩
              show wJ _ _ _ _ _ _ _ _ _ _
              refine wa_goto ⟨_, rfl⟩ ?_
              refine wa_return rfl ?_
              exact ⟨rfl, hr0⟩
          · skip
            refine wa_aload_n (n := 0) rfl ?_
            refine wb_gf4 215 rfl (wy_pr rfl) wt_215 wf_8_3 (v := 216) wl_215_3 ?_
            refine wb_gf4 216 rfl (wy_pr rfl) wt_216 wf_7_0 (v := 217) wl_216_0 ?_
            refine wa_iload_n (n := 2) rfl ?_
            refine wa_iconst ?_
            refine wa_isub ?_
            refine wb_bald 217 rfl (wy_pr rfl) wt_217 (n := (S 217 (-1))) (rfl) (by omega) (by omega) (v := k1) (e1) (fun r11 => ?_)
            refine wa_iconst ?_
            refine wa_icmpne (w_rg0 (by omega) (by omega)) (w_rg0 (by omega) (by omega)) ⟨_, rfl⟩ (fun c12 => ?_) (fun c12 => ?_)
            · skip
              refine wa_iload_n (n := 1) rfl ?_
              refine wa_bipush (w_rg2 (by omega) (by omega)) ?_
              refine wa_icmpne (w_rg0 (by omega) (by omega)) (w_rg0 (by omega) (by omega)) ⟨_, rfl⟩ (fun c13 => ?_) (fun c13 => ?_)
              · skip
                exact absurd c13 (by omega)
              · skip
                refine wa_aload_n (n := 0) rfl ?_
                refine wa_iload_n (n := 2) rfl ?_
                refine wa_iconst ?_
                refine wa_isub ?_
                refine wa_iload_n (n := 2) rfl ?_
                refine wa_cv 215 rfl (wy_pr rfl) wt_215 (M2 := mS [217, 218, 3]) rfl at_XK_join ⟨_, rfl⟩ rfl rfl ⟨trivial, (Or.inr ⟨wy_pr rfl, mS_no rfl⟩), trivial, trivial⟩ trivial (fun _ _ q => q) (hcal) (fun oq14 Sq14 hp15 q14 => ?_)
                rcases q14 with ⟨rfl, hr0⟩
                show wJ _ _ _ _ _ _ _ _ _ _
                refine wa_goto ⟨_, rfl⟩ ?_
                refine wa_return rfl ?_
                exact ⟨rfl, hr0⟩
            · skip
              exfalso; omega
        · skip
          exact absurd c5 (by omega)
    · skip
      exact absurd c3 (by omega)
  · skip
    exact absurd c2 (by omega)
theorem xjne_215 {c p h k1 k2 : Int} (hP : xP 215 c p h S) (hh2 : 2 ≤ h) (e1 : S 217 (h - 1 - 1) = k1) (e2 : S 217 (h - 1) = k2) (hn : 3 < k1 ∨ 3 < k2 ∨ (k1 ≠ 3 ∧ k2 ≠ 3)) : wJ (pe_GA xs) wY0 (mS [217, 218, 3]) (d + 10) t_XK_join ((pe_at t_XK_join.bl 0).getD (0, [])).2 [(0, (2, 215)), (1, (0, h - 1 - 1)), (2, (0, h - 1))] [] S (fun o Z => o = .inl none ∧ w_up S 215 16 1 = Z) := by
  obtain ⟨⟨hC, hI⟩, ⟨bc, bc0, bc1⟩, ⟨bp, bp0, bp1⟩, ⟨bh, bh0, bh1, bh2⟩, bl1, bl2, bl3⟩ := hP
  replace bp : S 220 (c - 1) = p := bp
  replace bh : S 216 2 = h := bh
  replace bh2 : h ≤ S 217 (-1) := bh2
  replace bl1 : S 218 (-1) = S 217 (-1) := bl1
  replace bl2 : 64 ≤ S 217 (-1) := bl2
  replace bl3 : S 217 (-1) ≤ 4095 := bl3
  refine wa_aload_n (n := 0) rfl ?_
  refine wb_gf4 215 rfl (wy_pr rfl) wt_215 wf_8_3 (v := 216) wl_215_3 ?_
  refine wb_gf4 216 rfl (wy_pr rfl) wt_216 wf_7_0 (v := 217) wl_216_0 ?_
  refine wa_iload_n (n := 1) rfl ?_
  refine wb_bald 217 rfl (wy_pr rfl) wt_217 (n := (S 217 (-1))) (rfl) (by omega) (by omega) (v := k1) (e1) (fun r1 => ?_)
  refine wa_istore_n (n := 3) rfl ?_
  refine wa_aload_n (n := 0) rfl ?_
  refine wb_gf4 215 rfl (wy_pr rfl) wt_215 wf_8_3 (v := 216) wl_215_3 ?_
  refine wb_gf4 216 rfl (wy_pr rfl) wt_216 wf_7_0 (v := 217) wl_216_0 ?_
  refine wa_iload_n (n := 2) rfl ?_
  refine wb_bald 217 rfl (wy_pr rfl) wt_217 (n := (S 217 (-1))) (rfl) (by omega) (by omega) (v := k2) (e2) (fun r2 => ?_)
  refine wa_istore (n := 4) rfl ?_
  refine wa_iload_n (n := 3) rfl ?_
  refine wa_iconst ?_
  refine wa_icmpgt (w_rg0 (by omega) (by omega)) (w_rg0 (by omega) (by omega)) ⟨_, rfl⟩ (fun c3 => ?_) (fun c3 => ?_)
  · skip
    refine wa_aload_n (n := 0) rfl ?_
    refine wa_iconst ?_
    refine wb_pfi 215 rfl (wy_pr rfl) wt_215 wf_8_16 (n := 16) rfl ⟨(by omega), (by omega)⟩ ?_
    refine wa_return rfl ?_
    exact ⟨rfl, rfl⟩
  · skip
    refine wa_iload (n := 4) rfl ?_
    refine wa_iconst ?_
    refine wa_icmpgt (w_rg0 (by omega) (by omega)) (w_rg0 (by omega) (by omega)) ⟨_, rfl⟩ (fun c4 => ?_) (fun c4 => ?_)
    · skip
      refine wa_aload_n (n := 0) rfl ?_
      refine wa_iconst ?_
      refine wb_pfi 215 rfl (wy_pr rfl) wt_215 wf_8_16 (n := 16) rfl ⟨(by omega), (by omega)⟩ ?_
      refine wa_return rfl ?_
      exact ⟨rfl, rfl⟩
    · skip
      refine wa_iload_n (n := 3) rfl ?_
      refine wa_iconst ?_
      refine wa_icmpeq (w_rg0 (by omega) (by omega)) (w_rg0 (by omega) (by omega)) ⟨_, rfl⟩ (fun c5 => ?_) (fun c5 => ?_)
      · skip
        exfalso; omega
      · skip
        refine wa_iload (n := 4) rfl ?_
        refine wa_iconst ?_
        refine wa_icmpeq (w_rg0 (by omega) (by omega)) (w_rg0 (by omega) (by omega)) ⟨_, rfl⟩ (fun c6 => ?_) (fun c6 => ?_)
        · skip
          exfalso; omega
        · skip
          refine wa_fall ⟨_, rfl⟩ ?_
          refine wa_aload_n (n := 0) rfl ?_
          refine wa_iconst ?_
          refine wb_pfi 215 rfl (wy_pr rfl) wt_215 wf_8_16 (n := 16) rfl ⟨(by omega), (by omega)⟩ ?_
          refine wa_return rfl ?_
          exact ⟨rfl, rfl⟩
theorem zj7_215 (h : stC 215 S K) (hi : cIn S K 7 a b) (hX : w_X xs) (hx1 : pe_at (pe_GA xs).xs 1 = some (1, tx_1)) (h57 : S 157 (-1) = 64) (h0 : 0 ≤ S 2 1 ∧ S 2 1 ≤ S 3 (-1) ∧ 1024 ≤ S 3 (-1) ∧ S 3 (-1) ≤ 8000000) (h21 : S 2 1 ≤ 4000000) (hh : 2 ≤ K.1.length) (hk1 : 0 ≤ (K.1.getD (K.1.length - 2) (0, 0, [])).1 ∧ (K.1.getD (K.1.length - 2) (0, 0, [])).1 ≤ 3) (hk2 : 0 ≤ (K.1.getD (K.1.length - 1) (0, 0, [])).1 ∧ (K.1.getD (K.1.length - 1) (0, 0, [])).1 ≤ 3) (h3 : (K.1.getD (K.1.length - 2) (0, 0, [])).1 = 3 ∨ (K.1.getD (K.1.length - 1) (0, 0, [])).1 = 3) (hv1 : -9223372036854775808 ≤ S 218 ((K.1.length : Int) - 1 - 1) ∧ S 218 ((K.1.length : Int) - 1 - 1) ≤ 9223372036854775807) (hv2 : -9223372036854775808 ≤ S 218 ((K.1.length : Int) - 1) ∧ S 218 ((K.1.length : Int) - 1) ≤ 9223372036854775807) (hl1 : (pL (K.1.getD (K.1.length - 2) (0, 0, []))).length ≤ 200000) (hl2 : (pL (K.1.getD (K.1.length - 1) (0, 0, []))).length ≤ 200000) (hq2 : 0 ≤ S 150 2 ∧ S 150 2 ≤ 12000) (hq3 : 0 ≤ S 150 3 ∧ S 150 3 ≤ 200000) (hm : S 150 2 < 12000 ∧ S 150 3 + (((pL (K.1.getD (K.1.length - 2) (0, 0, []))).length : Int) + ((pL (K.1.getD (K.1.length - 1) (0, 0, []))).length : Int)) ≤ 200000) : cSm xs d 215 [217, 218, 3] cMj S (kP K 2 (3, 0, pL (K.1.getD (K.1.length - 2) (0, 0, [])) ++ pL (K.1.getD (K.1.length - 1) (0, 0, [])))) (fun Z => (Z 150 2 = S 150 2 + 1 ∧ Z 150 3 = S 150 3 + (((pL (K.1.getD (K.1.length - 2) (0, 0, []))).length : Int) + ((pL (K.1.getD (K.1.length - 1) (0, 0, []))).length : Int))) ∧ (Z 2 1 = S 2 1 + (((pL (K.1.getD (K.1.length - 2) (0, 0, []))).length : Int) + ((pL (K.1.getD (K.1.length - 1) (0, 0, []))).length : Int)) ∧ (∀ x : Int, 0 ≤ x → x < S 2 1 → Z 3 x = S 3 x) ∧ S 3 (-1) ≤ Z 3 (-1) ∧ Z 2 1 ≤ Z 3 (-1) ∧ (Z 3 (-1) = S 3 (-1) ∨ Z 3 (-1) ≤ 2 * Z 2 1))) := by
  obtain ⟨h1, ⟨h2, h2b⟩, ⟨h3b, h4, h5⟩, -⟩ := id h
  have hk0 : cTk 215 (w_up S 215 16 0) K := cTk_16 h1 (Or.inl rfl)
  have hf : cFr 215 S (w_up S 215 16 0) := cFr_up (Or.inl rfl) (cFr_rfl h2b) (by first | decide | omega) (by omega)
  have hcx := c_at h1 (i := K.1.length - 2) (by omega) (j := ((K.1.length : Int) - 1 - 1)) (by omega)
  have hcy := c_at h1 (i := K.1.length - 1) (by omega) (j := ((K.1.length : Int) - 1)) (by omega)
  have ef : ∀ (j : Nat) (x : Int), j < 215 → (w_up S 215 16 0) j x = S j x := fun j x j0 => w_up_slot (by omega)
  have hTx : cTx S (w_up S 215 16 0) := cTx_of (ef 2 1 (by first | decide | omega)) (fun x => ef 3 x (by first | decide | omega))
  have hcal : wJ (pe_GA xs) wY0 (mS [217, 218, 3]) (d + 10) t_XK_join ((pe_at t_XK_join.bl 0).getD (0, [])).2 [(0, (2, 215)), (1, (0, (K.1.length : Int) - 1 - 1)), (2, (0, (K.1.length : Int) - 1))] [] (w_up S 215 16 0) (fun o Z => o = .inl none ∧ (((12000 ≤ S 150 2 ∨ 200000 < S 150 3 + (((pL (K.1.getD (K.1.length - 2) (0, 0, []))).length : Int) + ((pL (K.1.getD (K.1.length - 1) (0, 0, []))).length : Int))) ∧ ∃ A : wS, prN (w_up S 215 16 0) A ∧ w_up A 215 16 99 = Z) ∨ (S 150 2 < 12000 ∧ S 150 3 + (((pL (K.1.getD (K.1.length - 2) (0, 0, []))).length : Int) + ((pL (K.1.getD (K.1.length - 1) (0, 0, []))).length : Int)) ≤ 200000 ∧ ∃ A B : wS, prN (w_up S 215 16 0) A ∧ asQ (pL (K.1.getD (K.1.length - 2) (0, 0, [])) ++ pL (K.1.getD (K.1.length - 1) (0, 0, []))) (w_up (w_up A 150 2 (S 150 2 + 1)) 150 3 (S 150 3 + (((pL (K.1.getD (K.1.length - 2) (0, 0, []))).length : Int) + ((pL (K.1.getD (K.1.length - 1) (0, 0, []))).length : Int)))) B ∧ sO 215 (K.1.length : Int) (K.2.1.length : Int) (K.2.1.getD (K.2.1.length - 1) (0, 0, 0, (0, 0, []), 0, 0, 0)).2.1 2 3 ((w_up S 215 16 0) 2 1 * 4294967296 + (((pL (K.1.getD (K.1.length - 2) (0, 0, []))).length : Int) + ((pL (K.1.getD (K.1.length - 1) (0, 0, []))).length : Int))) B Z))) :=
    xjn_215 (d := d + 1) (u1 := (K.1.getD (K.1.length - 2) (0, 0, []))) (u2 := (K.1.getD (K.1.length - 1) (0, 0, []))) (xP_of (Or.inl rfl) h) hX hx1 ((ef 157 _ (by first | decide | omega)).trans h57) (by rw [ef 2 1 (by first | decide | omega), ef 3 (-1) (by first | decide | omega)]; exact h0) (by rw [ef 2 1 (by first | decide | omega)]; exact h21) (by omega) ((w_up_slot (by first | decide | omega)).trans hcx.1) (w_up_slot (by first | decide | omega)) ((w_up_slot (by first | decide | omega)).trans hcy.1) (w_up_slot (by first | decide | omega)) (cVl_mo (cV_re hcx) hTx) hk1 hv1 hl1 (cVl_mo (cV_re hcy) hTx) hk2 hv2 hl2 h3 (ef 150 2 (by first | decide | omega)) (ef 150 3 (by first | decide | omega)) hq2 hq3
  have hcal2 := xo7j_215 (d := d) (xP_of (Or.inl rfl) h) (by omega) ((w_up_slot (by first | decide | omega)).trans hcx.1) ((w_up_slot (by first | decide | omega)).trans hcy.1) (by omega) ⟨by omega, by omega⟩ ⟨by omega, by omega⟩ hcal
  have hg : wG = 1000000 := rfl
  refine cg_o_215 h hi.1 hi.2.1 hi.2.2 (by first | decide | omega) (fun q => by omega) (by first | decide | omega) (by unfold mS; decide) hcal2 (fun Z hz => ?_)
  rcases hz with ⟨z, -⟩ | ⟨-, -, A, B, hA, hB, hs⟩
  · omega
  have hlen : ((pL (K.1.getD (K.1.length - 2) (0, 0, [])) ++ pL (K.1.getD (K.1.length - 1) (0, 0, []))).length : Int) = ((pL (K.1.getD (K.1.length - 2) (0, 0, []))).length : Int) + ((pL (K.1.getD (K.1.length - 1) (0, 0, []))).length : Int) := by rw [List.length_append]; omega
  have fA : cFm 215 cMj (w_up S 215 16 0) A := cFm_wk (pr_fm (Or.inl rfl) hA) (fun j x z => Or.inl z)
  have fA2 : cFm 215 cMj (w_up S 215 16 0) (w_up (w_up A 150 2 (S 150 2 + 1)) 150 3 (S 150 3 + (((pL (K.1.getD (K.1.length - 2) (0, 0, []))).length : Int) + ((pL (K.1.getD (K.1.length - 1) (0, 0, []))).length : Int)))) := cFm_up (Or.inl rfl) (cFm_up (Or.inl rfl) fA (by first | decide | omega) (Or.inr (by unfold cMj; omega)) (by first | decide | omega)) (by first | decide | omega) (Or.inr (by unfold cMj; omega)) (by first | decide | omega)
  have fB := as_fm (w := 215) (Or.inl rfl) hB
  have fTB : cFm 215 cMj S B := cFm_tr (cFm_tr (cFm_r hf) fA2) fB
  obtain ⟨b1, b2, b3, b4, ⟨b5, b6, b7⟩, b8, b9⟩ := id hB
  have eA : ∀ (j : Nat) (x : Int), (j ≠ 157 ∨ x < 0) → (j ≠ 72 ∨ x ≠ 19) → (j ≠ 150 ∨ (x ≠ 2 ∧ x ≠ 3)) → (w_up (w_up A 150 2 (S 150 2 + 1)) 150 3 (S 150 3 + (((pL (K.1.getD (K.1.length - 2) (0, 0, []))).length : Int) + ((pL (K.1.getD (K.1.length - 1) (0, 0, []))).length : Int)))) j x = (w_up S 215 16 0) j x := fun j x j0 j1 j2 => (w_up_no (by omega)).trans ((w_up_no (by omega)).trans (hA.1 j x j0 j1))
  have eA1 := (eA 2 1 (Or.inl (by first | decide | omega)) (Or.inl (by first | decide | omega)) (Or.inl (by first | decide | omega))).trans (ef 2 1 (by first | decide | omega))
  have eA3 : ∀ x : Int, (w_up (w_up A 150 2 (S 150 2 + 1)) 150 3 (S 150 3 + (((pL (K.1.getD (K.1.length - 2) (0, 0, []))).length : Int) + ((pL (K.1.getD (K.1.length - 1) (0, 0, []))).length : Int)))) 3 x = S 3 x := fun x => (eA 3 x (Or.inl (by first | decide | omega)) (Or.inl (by first | decide | omega)) (Or.inl (by first | decide | omega))).trans (ef 3 x (by first | decide | omega))
  rw [eA1, hlen] at b1
  rw [eA1] at b2 b3
  rw [eA1, hlen] at b5 b7
  rw [eA3] at b6 b7
  have hTB : cTx (w_up S 215 16 0) B := ⟨by rw [ef 2 1 (by first | decide | omega)]; omega, fun x x0 x1 => by rw [ef 2 1 (by first | decide | omega)] at x1; rw [b2 x x0 x1, eA3 x, ef 3 x (by first | decide | omega)]⟩
  have hkB : cTk 215 B K := cTk_fr hk0 hTB (fun j y j0 j1 => (b4 j y (by omega) (by omega) (by omega) (by omega) (by omega) (by omega)).trans (eA j y (by omega) (by omega) (by omega)))
  have hv : cVl B 3 ((w_up S 215 16 0) 2 1 * 4294967296 + (((pL (K.1.getD (K.1.length - 2) (0, 0, []))).length : Int) + ((pL (K.1.getD (K.1.length - 1) (0, 0, []))).length : Int))) (3, 0, pL (K.1.getD (K.1.length - 2) (0, 0, [])) ++ pL (K.1.getD (K.1.length - 1) (0, 0, []))) := by
    rw [ef 2 1 (by first | decide | omega)]
    refine ⟨rfl, fun q => absurd rfl q, fun _ => ⟨rfl, S 2 1, ?_, h0.1, ?_, fun i hi2 => b3 i hi2⟩⟩
    · show _ = S 2 1 * 4294967296 + ((pL (K.1.getD (K.1.length - 2) (0, 0, [])) ++ pL (K.1.getD (K.1.length - 1) (0, 0, []))).length : Int)
      rw [hlen]
    · show S 2 1 + ((pL (K.1.getD (K.1.length - 2) (0, 0, [])) ++ pL (K.1.getD (K.1.length - 1) (0, 0, []))).length : Int) ≤ B 2 1
      rw [hlen]; omega
  have fZ := cFr_sO (Or.inl rfl) (cFr_rfl b8) (by omega) hs
  have z21 := fZ.1 2 1 (by first | decide | omega) (by first | decide | omega) (by first | decide | omega)
  have z31 := fZ.1 3 (-1) (by first | decide | omega) (by first | decide | omega) (by first | decide | omega)
  refine ⟨(sO_16 (Or.inl rfl) hs).trans (((b4 215 16 (by first | decide | omega) (by first | decide | omega) (by first | decide | omega) (by first | decide | omega) (by first | decide | omega) (by first | decide | omega)).trans (eA 215 16 (by first | decide | omega) (by first | decide | omega) (by first | decide | omega))).trans (w_up_same _ _ _ _)), cTk_sO hkB (Or.inl rfl) hs rfl rfl h3b rfl hh (by omega) hv, cFm_tr fTB (cFm_r fZ), ⟨?_, ?_⟩, by omega, fun x x0 x1 => (fZ.1 3 x (by first | decide | omega) (by first | decide | omega) (by first | decide | omega)).trans ((b2 x x0 x1).trans (eA3 x)), by omega, by omega, by omega⟩
  · exact (fZ.1 150 2 (by first | decide | omega) (by first | decide | omega) (by first | decide | omega)).trans ((b4 150 2 (by first | decide | omega) (by first | decide | omega) (by first | decide | omega) (by first | decide | omega) (by first | decide | omega) (by first | decide | omega)).trans ((w_up_at (by first | decide | omega)).trans (w_up_same _ _ _ _)))
  · exact (fZ.1 150 3 (by first | decide | omega) (by first | decide | omega) (by first | decide | omega)).trans ((b4 150 3 (by first | decide | omega) (by first | decide | omega) (by first | decide | omega) (by first | decide | omega) (by first | decide | omega) (by first | decide | omega)).trans (w_up_same _ _ _ _))
theorem zj7m_215 (h : stC 215 S K) (hi : cIn S K 7 a b) (hX : w_X xs) (hx1 : pe_at (pe_GA xs).xs 1 = some (1, tx_1)) (h57 : S 157 (-1) = 64) (h0 : 0 ≤ S 2 1 ∧ S 2 1 ≤ S 3 (-1) ∧ 1024 ≤ S 3 (-1) ∧ S 3 (-1) ≤ 8000000) (h21 : S 2 1 ≤ 4000000) (hh : 2 ≤ K.1.length) (hk1 : 0 ≤ (K.1.getD (K.1.length - 2) (0, 0, [])).1 ∧ (K.1.getD (K.1.length - 2) (0, 0, [])).1 ≤ 3) (hk2 : 0 ≤ (K.1.getD (K.1.length - 1) (0, 0, [])).1 ∧ (K.1.getD (K.1.length - 1) (0, 0, [])).1 ≤ 3) (h3 : (K.1.getD (K.1.length - 2) (0, 0, [])).1 = 3 ∨ (K.1.getD (K.1.length - 1) (0, 0, [])).1 = 3) (hv1 : -9223372036854775808 ≤ S 218 ((K.1.length : Int) - 1 - 1) ∧ S 218 ((K.1.length : Int) - 1 - 1) ≤ 9223372036854775807) (hv2 : -9223372036854775808 ≤ S 218 ((K.1.length : Int) - 1) ∧ S 218 ((K.1.length : Int) - 1) ≤ 9223372036854775807) (hl1 : (pL (K.1.getD (K.1.length - 2) (0, 0, []))).length ≤ 200000) (hl2 : (pL (K.1.getD (K.1.length - 1) (0, 0, []))).length ≤ 200000) (hq2 : 0 ≤ S 150 2 ∧ S 150 2 ≤ 12000) (hq3 : 0 ≤ S 150 3 ∧ S 150 3 ≤ 200000) (hm : 12000 ≤ S 150 2 ∨ 200000 < S 150 3 + (((pL (K.1.getD (K.1.length - 2) (0, 0, []))).length : Int) + ((pL (K.1.getD (K.1.length - 1) (0, 0, []))).length : Int))) : cSo xs d 215 [217, 218, 3] cMq S K := by
  obtain ⟨h1, ⟨h2, h2b⟩, ⟨h3b, h4, h5⟩, -⟩ := id h
  have hk0 : cTk 215 (w_up S 215 16 0) K := cTk_16 h1 (Or.inl rfl)
  have hf : cFr 215 S (w_up S 215 16 0) := cFr_up (Or.inl rfl) (cFr_rfl h2b) (by first | decide | omega) (by omega)
  have hcx := c_at h1 (i := K.1.length - 2) (by omega) (j := ((K.1.length : Int) - 1 - 1)) (by omega)
  have hcy := c_at h1 (i := K.1.length - 1) (by omega) (j := ((K.1.length : Int) - 1)) (by omega)
  have ef : ∀ (j : Nat) (x : Int), j < 215 → (w_up S 215 16 0) j x = S j x := fun j x j0 => w_up_slot (by omega)
  have hTx : cTx S (w_up S 215 16 0) := cTx_of (ef 2 1 (by first | decide | omega)) (fun x => ef 3 x (by first | decide | omega))
  have hcal : wJ (pe_GA xs) wY0 (mS [217, 218, 3]) (d + 10) t_XK_join ((pe_at t_XK_join.bl 0).getD (0, [])).2 [(0, (2, 215)), (1, (0, (K.1.length : Int) - 1 - 1)), (2, (0, (K.1.length : Int) - 1))] [] (w_up S 215 16 0) (fun o Z => o = .inl none ∧ (((12000 ≤ S 150 2 ∨ 200000 < S 150 3 + (((pL (K.1.getD (K.1.length - 2) (0, 0, []))).length : Int) + ((pL (K.1.getD (K.1.length - 1) (0, 0, []))).length : Int))) ∧ ∃ A : wS, prN (w_up S 215 16 0) A ∧ w_up A 215 16 99 = Z) ∨ (S 150 2 < 12000 ∧ S 150 3 + (((pL (K.1.getD (K.1.length - 2) (0, 0, []))).length : Int) + ((pL (K.1.getD (K.1.length - 1) (0, 0, []))).length : Int)) ≤ 200000 ∧ ∃ A B : wS, prN (w_up S 215 16 0) A ∧ asQ (pL (K.1.getD (K.1.length - 2) (0, 0, [])) ++ pL (K.1.getD (K.1.length - 1) (0, 0, []))) (w_up (w_up A 150 2 (S 150 2 + 1)) 150 3 (S 150 3 + (((pL (K.1.getD (K.1.length - 2) (0, 0, []))).length : Int) + ((pL (K.1.getD (K.1.length - 1) (0, 0, []))).length : Int)))) B ∧ sO 215 (K.1.length : Int) (K.2.1.length : Int) (K.2.1.getD (K.2.1.length - 1) (0, 0, 0, (0, 0, []), 0, 0, 0)).2.1 2 3 ((w_up S 215 16 0) 2 1 * 4294967296 + (((pL (K.1.getD (K.1.length - 2) (0, 0, []))).length : Int) + ((pL (K.1.getD (K.1.length - 1) (0, 0, []))).length : Int))) B Z))) :=
    xjn_215 (d := d + 1) (u1 := (K.1.getD (K.1.length - 2) (0, 0, []))) (u2 := (K.1.getD (K.1.length - 1) (0, 0, []))) (xP_of (Or.inl rfl) h) hX hx1 ((ef 157 _ (by first | decide | omega)).trans h57) (by rw [ef 2 1 (by first | decide | omega), ef 3 (-1) (by first | decide | omega)]; exact h0) (by rw [ef 2 1 (by first | decide | omega)]; exact h21) (by omega) ((w_up_slot (by first | decide | omega)).trans hcx.1) (w_up_slot (by first | decide | omega)) ((w_up_slot (by first | decide | omega)).trans hcy.1) (w_up_slot (by first | decide | omega)) (cVl_mo (cV_re hcx) hTx) hk1 hv1 hl1 (cVl_mo (cV_re hcy) hTx) hk2 hv2 hl2 h3 (ef 150 2 (by first | decide | omega)) (ef 150 3 (by first | decide | omega)) hq2 hq3
  have hcal2 := xo7j_215 (d := d) (xP_of (Or.inl rfl) h) (by omega) ((w_up_slot (by first | decide | omega)).trans hcx.1) ((w_up_slot (by first | decide | omega)).trans hcy.1) (by omega) ⟨by omega, by omega⟩ ⟨by omega, by omega⟩ hcal
  refine wJ_mono (cm_o_215 (R := fun Z => ∃ A : wS, prN (w_up S 215 16 0) A ∧ w_up A 215 16 99 = Z) h hi.1 hi.2.1 hi.2.2 (by first | decide | omega) (fun q => by omega) (by first | decide | omega) (by unfold mS; decide) (wJ_mono hcal2 (fun z Z hz => ⟨hz.1, by
    rcases hz.2 with ⟨-, z⟩ | ⟨z, z2, -⟩
    · exact z
    · omega⟩)) (fun Z hz => by obtain ⟨A, -, rfl⟩ := hz; exact w_up_same _ _ _ _)) (fun z Z2 hz => ?_)
  obtain ⟨hz0, Z, ⟨A, hA, rfl⟩, rfl⟩ := hz
  have hkA : cTk 215 A K := cTk_fr hk0 (cTx_of (hA.1 2 1 (by first | decide | omega) (by first | decide | omega)) (fun x => hA.1 3 x (Or.inl (by first | decide | omega)) (Or.inl (by first | decide | omega)))) (fun j y j0 j1 => hA.1 j y (by omega) (by omega))
  exact ⟨hz0, cTk_st (cTk_16 hkA (Or.inl rfl)) (Or.inl rfl), cFm_up (Or.inl rfl) (cFm_up (Or.inl rfl) (cFm_tr (cFm_r hf) (pr_fm (Or.inl rfl) hA)) (by first | decide | omega) (Or.inl (by omega)) (by first | decide | omega)) (by first | decide | omega) (Or.inl (by omega)) (by first | decide | omega)⟩
theorem zj7e_215 (h : stC 215 S K) (hi : cIn S K 7 a b) (hh : 2 ≤ K.1.length) (hn2 : ¬ ((K.1.getD (K.1.length - 2) (0, 0, [])).1 = 2 ∧ (K.1.getD (K.1.length - 1) (0, 0, [])).1 = 2)) (hk1 : 0 ≤ (K.1.getD (K.1.length - 2) (0, 0, [])).1 ∧ (K.1.getD (K.1.length - 2) (0, 0, [])).1 ≤ 8) (hk2 : 0 ≤ (K.1.getD (K.1.length - 1) (0, 0, [])).1 ∧ (K.1.getD (K.1.length - 1) (0, 0, [])).1 ≤ 8) (hn : 3 < (K.1.getD (K.1.length - 2) (0, 0, [])).1 ∨ 3 < (K.1.getD (K.1.length - 1) (0, 0, [])).1 ∨ ((K.1.getD (K.1.length - 2) (0, 0, [])).1 ≠ 3 ∧ (K.1.getD (K.1.length - 1) (0, 0, [])).1 ≠ 3)) : cSx xs d 215 [217, 218, 3] S (kTh K (2, 1, [])) := by
  obtain ⟨h1, -⟩ := id h
  have hcx := c_at h1 (i := K.1.length - 2) (by omega) (j := ((K.1.length : Int) - 1 - 1)) (by omega)
  have hcy := c_at h1 (i := K.1.length - 1) (by omega) (j := ((K.1.length : Int) - 1)) (by omega)
  exact cx_o_215 h hi.1 hi.2.1 hi.2.2 (by first | decide | omega) (fun q => by omega) (by first | decide | omega) (by unfold mS; decide) (by first | decide | omega) (xo7j_215 (R := fun Z => w_up (w_up S 215 16 0) 215 16 1 = Z) (xP_of (Or.inl rfl) h) (by omega) ((w_up_slot (by first | decide | omega)).trans hcx.1) ((w_up_slot (by first | decide | omega)).trans hcy.1) hn2 ⟨by omega, by omega⟩ ⟨by omega, by omega⟩ (xjne_215 (xP_of (Or.inl rfl) h) (by omega) ((w_up_slot (by first | decide | omega)).trans hcx.1) ((w_up_slot (by first | decide | omega)).trans hcy.1) hn))
theorem xo7j_226 {c p h k1 k2 : Int} {R : wS → Prop} (hP : xP 226 c p h S) (hh2 : 2 ≤ h) (e1 : S 228 (h - 1 - 1) = k1) (e2 : S 228 (h - 1) = k2) (hn2 : ¬ (k1 = 2 ∧ k2 = 2)) (hk1 : -128 ≤ k1 ∧ k1 ≤ 127) (hk2 : -128 ≤ k2 ∧ k2 ≤ 127) (hcal : wJ (pe_GA xs) wY0 (mS [228, 229, 3]) (d + 10) t_XK_join ((pe_at t_XK_join.bl 0).getD (0, [])).2 [(0, (2, 226)), (1, (0, h - 1 - 1)), (2, (0, h - 1))] [] S (fun o Z => o = .inl none ∧ R Z)) : wJ (pe_GA xs) wY0 (mS [228, 229, 3]) (d + 11) t_XK_operate ((pe_at t_XK_operate.bl 0).getD (0, [])).2 [(0, (2, 226)), (1, (0, 7))] [] S (fun o Z => o = .inl none ∧ R Z) := by
  obtain ⟨⟨hC, hI⟩, ⟨bc, bc0, bc1⟩, ⟨bp, bp0, bp1⟩, ⟨bh, bh0, bh1, bh2⟩, bl1, bl2, bl3⟩ := hP
  replace bp : S 231 (c - 1) = p := bp
  replace bh : S 227 2 = h := bh
  replace bh2 : h ≤ S 228 (-1) := bh2
  replace bl1 : S 229 (-1) = S 228 (-1) := bl1
  replace bl2 : 64 ≤ S 228 (-1) := bl2
  replace bl3 : S 228 (-1) ≤ 4095 := bl3
  refine wa_aload_n (n := 0) rfl ?_
  refine wb_gf4 226 rfl (wy_pr rfl) wt_226 wf_8_3 (v := 227) wl_226_3 ?_
  refine wb_gfi 227 rfl (wy_pr rfl) wt_227 wf_7_2 (v := h) (bh) (fun r1 => ?_)
  refine wa_iconst ?_
  refine wa_isub ?_
  refine wa_istore_n (n := 2) rfl ?_
  refine wa_iload_n (n := 1) rfl ?_
  refine wa_bipush (w_rg2 (by omega) (by omega)) ?_
  refine wa_icmpne (w_rg0 (by omega) (by omega)) (w_rg0 (by omega) (by omega)) ⟨_, rfl⟩ (fun c2 => ?_) (fun c2 => ?_)
  · skip
    refine wa_iload_n (n := 1) rfl ?_
    refine wa_bipush (w_rg2 (by omega) (by omega)) ?_
    refine wa_icmpne (w_rg0 (by omega) (by omega)) (w_rg0 (by omega) (by omega)) ⟨_, rfl⟩ (fun c3 => ?_) (fun c3 => ?_)
    · skip
      refine wa_iload_n (n := 1) rfl ?_
      refine wa_bipush (w_rg2 (by omega) (by omega)) ?_
      refine wa_icmpeq (w_rg0 (by omega) (by omega)) (w_rg0 (by omega) (by omega)) ⟨_, rfl⟩ (fun c4 => ?_) (fun c4 => ?_)
      · skip
        exact absurd c4 (by omega)
      · skip
        refine wa_iload_n (n := 1) rfl ?_
        refine wa_bipush (w_rg2 (by omega) (by omega)) ?_
        refine wa_icmpne (w_rg0 (by omega) (by omega)) (w_rg0 (by omega) (by omega)) ⟨_, rfl⟩ (fun c5 => ?_) (fun c5 => ?_)
        · skip
          refine wa_aload_n (n := 0) rfl ?_
          refine wb_gf4 226 rfl (wy_pr rfl) wt_226 wf_8_3 (v := 227) wl_226_3 ?_
          refine wb_gf4 227 rfl (wy_pr rfl) wt_227 wf_7_0 (v := 228) wl_227_0 ?_
          refine wa_iload_n (n := 2) rfl ?_
          refine wb_bald 228 rfl (wy_pr rfl) wt_228 (n := (S 228 (-1))) (rfl) (by omega) (by omega) (v := k2) (e2) (fun r6 => ?_)
          refine wa_iconst ?_
          refine wa_icmpne (w_rg0 (by omega) (by omega)) (w_rg0 (by omega) (by omega)) ⟨_, rfl⟩ (fun c7 => ?_) (fun c7 => ?_)
          · skip
            refine wa_iload_n (n := 1) rfl ?_
            refine wa_bipush (w_rg2 (by omega) (by omega)) ?_
            refine wa_icmpne (w_rg0 (by omega) (by omega)) (w_rg0 (by omega) (by omega)) ⟨_, rfl⟩ (fun c8 => ?_) (fun c8 => ?_)
            · skip
              exact absurd c8 (by omega)
            · skip
              refine wa_aload_n (n := 0) rfl ?_
              refine wa_iload_n (n := 2) rfl ?_
              refine wa_iconst ?_
              refine wa_isub ?_
              refine wa_iload_n (n := 2) rfl ?_
              refine wa_cv 226 rfl (wy_pr rfl) wt_226 (M2 := mS [228, 229, 3]) rfl at_XK_join ⟨_, rfl⟩ rfl rfl ⟨trivial, (Or.inr ⟨wy_pr rfl, mS_no rfl⟩), trivial, trivial⟩ trivial (fun _ _ q => q) (hcal) (fun oq9 Sq9 hp10 q9 => ?_)
              rcases q9 with ⟨rfl, hr0⟩
              show wJ _ _ _ _ _ _ _ _ _ _
              refine wa_goto ⟨_, rfl⟩ ?_
              refine wa_return rfl ?_
              exact ⟨rfl, hr0⟩
          · skip
            refine wa_aload_n (n := 0) rfl ?_
            refine wb_gf4 226 rfl (wy_pr rfl) wt_226 wf_8_3 (v := 227) wl_226_3 ?_
            refine wb_gf4 227 rfl (wy_pr rfl) wt_227 wf_7_0 (v := 228) wl_227_0 ?_
            refine wa_iload_n (n := 2) rfl ?_
            refine wa_iconst ?_
            refine wa_isub ?_
            refine wb_bald 228 rfl (wy_pr rfl) wt_228 (n := (S 228 (-1))) (rfl) (by omega) (by omega) (v := k1) (e1) (fun r11 => ?_)
            refine wa_iconst ?_
            refine wa_icmpne (w_rg0 (by omega) (by omega)) (w_rg0 (by omega) (by omega)) ⟨_, rfl⟩ (fun c12 => ?_) (fun c12 => ?_)
            · skip
              refine wa_iload_n (n := 1) rfl ?_
              refine wa_bipush (w_rg2 (by omega) (by omega)) ?_
              refine wa_icmpne (w_rg0 (by omega) (by omega)) (w_rg0 (by omega) (by omega)) ⟨_, rfl⟩ (fun c13 => ?_) (fun c13 => ?_)
              · skip
                exact absurd c13 (by omega)
              · skip
                refine wa_aload_n (n := 0) rfl ?_
                refine wa_iload_n (n := 2) rfl ?_
                refine wa_iconst ?_
                refine wa_isub ?_
                refine wa_iload_n (n := 2) rfl ?_
                refine wa_cv 226 rfl (wy_pr rfl) wt_226 (M2 := mS [228, 229, 3]) rfl at_XK_join ⟨_, rfl⟩ rfl rfl ⟨trivial, (Or.inr ⟨wy_pr rfl, mS_no rfl⟩), trivial, trivial⟩ trivial (fun _ _ q => q) (hcal) (fun oq14 Sq14 hp15 q14 => ?_)
                rcases q14 with ⟨rfl, hr0⟩
                show wJ _ _ _ _ _ _ _ _ _ _
                refine wa_goto ⟨_, rfl⟩ ?_
                refine wa_return rfl ?_
                exact ⟨rfl, hr0⟩
            · skip
              exfalso; omega
        · skip
          exact absurd c5 (by omega)
    · skip
      exact absurd c3 (by omega)
  · skip
    exact absurd c2 (by omega)
theorem xjne_226 {c p h k1 k2 : Int} (hP : xP 226 c p h S) (hh2 : 2 ≤ h) (e1 : S 228 (h - 1 - 1) = k1) (e2 : S 228 (h - 1) = k2) (hn : 3 < k1 ∨ 3 < k2 ∨ (k1 ≠ 3 ∧ k2 ≠ 3)) : wJ (pe_GA xs) wY0 (mS [228, 229, 3]) (d + 10) t_XK_join ((pe_at t_XK_join.bl 0).getD (0, [])).2 [(0, (2, 226)), (1, (0, h - 1 - 1)), (2, (0, h - 1))] [] S (fun o Z => o = .inl none ∧ w_up S 226 16 1 = Z) := by
  obtain ⟨⟨hC, hI⟩, ⟨bc, bc0, bc1⟩, ⟨bp, bp0, bp1⟩, ⟨bh, bh0, bh1, bh2⟩, bl1, bl2, bl3⟩ := hP
  replace bp : S 231 (c - 1) = p := bp
  replace bh : S 227 2 = h := bh
  replace bh2 : h ≤ S 228 (-1) := bh2
  replace bl1 : S 229 (-1) = S 228 (-1) := bl1
  replace bl2 : 64 ≤ S 228 (-1) := bl2
  replace bl3 : S 228 (-1) ≤ 4095 := bl3
  refine wa_aload_n (n := 0) rfl ?_
  refine wb_gf4 226 rfl (wy_pr rfl) wt_226 wf_8_3 (v := 227) wl_226_3 ?_
  refine wb_gf4 227 rfl (wy_pr rfl) wt_227 wf_7_0 (v := 228) wl_227_0 ?_
  refine wa_iload_n (n := 1) rfl ?_
  refine wb_bald 228 rfl (wy_pr rfl) wt_228 (n := (S 228 (-1))) (rfl) (by omega) (by omega) (v := k1) (e1) (fun r1 => ?_)
  refine wa_istore_n (n := 3) rfl ?_
  refine wa_aload_n (n := 0) rfl ?_
  refine wb_gf4 226 rfl (wy_pr rfl) wt_226 wf_8_3 (v := 227) wl_226_3 ?_
  refine wb_gf4 227 rfl (wy_pr rfl) wt_227 wf_7_0 (v := 228) wl_227_0 ?_
  refine wa_iload_n (n := 2) rfl ?_
  refine wb_bald 228 rfl (wy_pr rfl) wt_228 (n := (S 228 (-1))) (rfl) (by omega) (by omega) (v := k2) (e2) (fun r2 => ?_)
  refine wa_istore (n := 4) rfl ?_
  refine wa_iload_n (n := 3) rfl ?_
  refine wa_iconst ?_
  refine wa_icmpgt (w_rg0 (by omega) (by omega)) (w_rg0 (by omega) (by omega)) ⟨_, rfl⟩ (fun c3 => ?_) (fun c3 => ?_)
  · skip
    refine wa_aload_n (n := 0) rfl ?_
    refine wa_iconst ?_
    refine wb_pfi 226 rfl (wy_pr rfl) wt_226 wf_8_16 (n := 16) rfl ⟨(by omega), (by omega)⟩ ?_
    refine wa_return rfl ?_
    exact ⟨rfl, rfl⟩
  · skip
    refine wa_iload (n := 4) rfl ?_
    refine wa_iconst ?_
    refine wa_icmpgt (w_rg0 (by omega) (by omega)) (w_rg0 (by omega) (by omega)) ⟨_, rfl⟩ (fun c4 => ?_) (fun c4 => ?_)
    · skip
      refine wa_aload_n (n := 0) rfl ?_
      refine wa_iconst ?_
      refine wb_pfi 226 rfl (wy_pr rfl) wt_226 wf_8_16 (n := 16) rfl ⟨(by omega), (by omega)⟩ ?_
      refine wa_return rfl ?_
      exact ⟨rfl, rfl⟩
    · skip
      refine wa_iload_n (n := 3) rfl ?_
      refine wa_iconst ?_
      refine wa_icmpeq (w_rg0 (by omega) (by omega)) (w_rg0 (by omega) (by omega)) ⟨_, rfl⟩ (fun c5 => ?_) (fun c5 => ?_)
      · skip
        exfalso; omega
      · skip
        refine wa_iload (n := 4) rfl ?_
        refine wa_iconst ?_
        refine wa_icmpeq (w_rg0 (by omega) (by omega)) (w_rg0 (by omega) (by omega)) ⟨_, rfl⟩ (fun c6 => ?_) (fun c6 => ?_)
        · skip
          exfalso; omega
        · skip
          refine wa_fall ⟨_, rfl⟩ ?_
          refine wa_aload_n (n := 0) rfl ?_
          refine wa_iconst ?_
          refine wb_pfi 226 rfl (wy_pr rfl) wt_226 wf_8_16 (n := 16) rfl ⟨(by omega), (by omega)⟩ ?_
          refine wa_return rfl ?_
          exact ⟨rfl, rfl⟩
theorem zj7_226 (h : stC 226 S K) (hi : cIn S K 7 a b) (hX : w_X xs) (hx1 : pe_at (pe_GA xs).xs 1 = some (1, tx_1)) (h57 : S 157 (-1) = 64) (h0 : 0 ≤ S 2 1 ∧ S 2 1 ≤ S 3 (-1) ∧ 1024 ≤ S 3 (-1) ∧ S 3 (-1) ≤ 8000000) (h21 : S 2 1 ≤ 4000000) (hh : 2 ≤ K.1.length) (hk1 : 0 ≤ (K.1.getD (K.1.length - 2) (0, 0, [])).1 ∧ (K.1.getD (K.1.length - 2) (0, 0, [])).1 ≤ 3) (hk2 : 0 ≤ (K.1.getD (K.1.length - 1) (0, 0, [])).1 ∧ (K.1.getD (K.1.length - 1) (0, 0, [])).1 ≤ 3) (h3 : (K.1.getD (K.1.length - 2) (0, 0, [])).1 = 3 ∨ (K.1.getD (K.1.length - 1) (0, 0, [])).1 = 3) (hv1 : -9223372036854775808 ≤ S 229 ((K.1.length : Int) - 1 - 1) ∧ S 229 ((K.1.length : Int) - 1 - 1) ≤ 9223372036854775807) (hv2 : -9223372036854775808 ≤ S 229 ((K.1.length : Int) - 1) ∧ S 229 ((K.1.length : Int) - 1) ≤ 9223372036854775807) (hl1 : (pL (K.1.getD (K.1.length - 2) (0, 0, []))).length ≤ 200000) (hl2 : (pL (K.1.getD (K.1.length - 1) (0, 0, []))).length ≤ 200000) (hq2 : 0 ≤ S 150 2 ∧ S 150 2 ≤ 12000) (hq3 : 0 ≤ S 150 3 ∧ S 150 3 ≤ 200000) (hm : S 150 2 < 12000 ∧ S 150 3 + (((pL (K.1.getD (K.1.length - 2) (0, 0, []))).length : Int) + ((pL (K.1.getD (K.1.length - 1) (0, 0, []))).length : Int)) ≤ 200000) : cSm xs d 226 [228, 229, 3] cMj S (kP K 2 (3, 0, pL (K.1.getD (K.1.length - 2) (0, 0, [])) ++ pL (K.1.getD (K.1.length - 1) (0, 0, [])))) (fun Z => (Z 150 2 = S 150 2 + 1 ∧ Z 150 3 = S 150 3 + (((pL (K.1.getD (K.1.length - 2) (0, 0, []))).length : Int) + ((pL (K.1.getD (K.1.length - 1) (0, 0, []))).length : Int))) ∧ (Z 2 1 = S 2 1 + (((pL (K.1.getD (K.1.length - 2) (0, 0, []))).length : Int) + ((pL (K.1.getD (K.1.length - 1) (0, 0, []))).length : Int)) ∧ (∀ x : Int, 0 ≤ x → x < S 2 1 → Z 3 x = S 3 x) ∧ S 3 (-1) ≤ Z 3 (-1) ∧ Z 2 1 ≤ Z 3 (-1) ∧ (Z 3 (-1) = S 3 (-1) ∨ Z 3 (-1) ≤ 2 * Z 2 1))) := by
  obtain ⟨h1, ⟨h2, h2b⟩, ⟨h3b, h4, h5⟩, -⟩ := id h
  have hk0 : cTk 226 (w_up S 226 16 0) K := cTk_16 h1 (Or.inr rfl)
  have hf : cFr 226 S (w_up S 226 16 0) := cFr_up (Or.inr rfl) (cFr_rfl h2b) (by first | decide | omega) (by omega)
  have hcx := c_at h1 (i := K.1.length - 2) (by omega) (j := ((K.1.length : Int) - 1 - 1)) (by omega)
  have hcy := c_at h1 (i := K.1.length - 1) (by omega) (j := ((K.1.length : Int) - 1)) (by omega)
  have ef : ∀ (j : Nat) (x : Int), j < 215 → (w_up S 226 16 0) j x = S j x := fun j x j0 => w_up_slot (by omega)
  have hTx : cTx S (w_up S 226 16 0) := cTx_of (ef 2 1 (by first | decide | omega)) (fun x => ef 3 x (by first | decide | omega))
  have hcal : wJ (pe_GA xs) wY0 (mS [228, 229, 3]) (d + 10) t_XK_join ((pe_at t_XK_join.bl 0).getD (0, [])).2 [(0, (2, 226)), (1, (0, (K.1.length : Int) - 1 - 1)), (2, (0, (K.1.length : Int) - 1))] [] (w_up S 226 16 0) (fun o Z => o = .inl none ∧ (((12000 ≤ S 150 2 ∨ 200000 < S 150 3 + (((pL (K.1.getD (K.1.length - 2) (0, 0, []))).length : Int) + ((pL (K.1.getD (K.1.length - 1) (0, 0, []))).length : Int))) ∧ ∃ A : wS, prN (w_up S 226 16 0) A ∧ w_up A 226 16 99 = Z) ∨ (S 150 2 < 12000 ∧ S 150 3 + (((pL (K.1.getD (K.1.length - 2) (0, 0, []))).length : Int) + ((pL (K.1.getD (K.1.length - 1) (0, 0, []))).length : Int)) ≤ 200000 ∧ ∃ A B : wS, prN (w_up S 226 16 0) A ∧ asQ (pL (K.1.getD (K.1.length - 2) (0, 0, [])) ++ pL (K.1.getD (K.1.length - 1) (0, 0, []))) (w_up (w_up A 150 2 (S 150 2 + 1)) 150 3 (S 150 3 + (((pL (K.1.getD (K.1.length - 2) (0, 0, []))).length : Int) + ((pL (K.1.getD (K.1.length - 1) (0, 0, []))).length : Int)))) B ∧ sO 226 (K.1.length : Int) (K.2.1.length : Int) (K.2.1.getD (K.2.1.length - 1) (0, 0, 0, (0, 0, []), 0, 0, 0)).2.1 2 3 ((w_up S 226 16 0) 2 1 * 4294967296 + (((pL (K.1.getD (K.1.length - 2) (0, 0, []))).length : Int) + ((pL (K.1.getD (K.1.length - 1) (0, 0, []))).length : Int))) B Z))) :=
    xjn_226 (d := d + 1) (u1 := (K.1.getD (K.1.length - 2) (0, 0, []))) (u2 := (K.1.getD (K.1.length - 1) (0, 0, []))) (xP_of (Or.inr rfl) h) hX hx1 ((ef 157 _ (by first | decide | omega)).trans h57) (by rw [ef 2 1 (by first | decide | omega), ef 3 (-1) (by first | decide | omega)]; exact h0) (by rw [ef 2 1 (by first | decide | omega)]; exact h21) (by omega) ((w_up_slot (by first | decide | omega)).trans hcx.1) (w_up_slot (by first | decide | omega)) ((w_up_slot (by first | decide | omega)).trans hcy.1) (w_up_slot (by first | decide | omega)) (cVl_mo (cV_re hcx) hTx) hk1 hv1 hl1 (cVl_mo (cV_re hcy) hTx) hk2 hv2 hl2 h3 (ef 150 2 (by first | decide | omega)) (ef 150 3 (by first | decide | omega)) hq2 hq3
  have hcal2 := xo7j_226 (d := d) (xP_of (Or.inr rfl) h) (by omega) ((w_up_slot (by first | decide | omega)).trans hcx.1) ((w_up_slot (by first | decide | omega)).trans hcy.1) (by omega) ⟨by omega, by omega⟩ ⟨by omega, by omega⟩ hcal
  have hg : wG = 1000000 := rfl
  refine cg_o_226 h hi.1 hi.2.1 hi.2.2 (by first | decide | omega) (fun q => by omega) (by first | decide | omega) (by unfold mS; decide) hcal2 (fun Z hz => ?_)
  rcases hz with ⟨z, -⟩ | ⟨-, -, A, B, hA, hB, hs⟩
  · omega
  have hlen : ((pL (K.1.getD (K.1.length - 2) (0, 0, [])) ++ pL (K.1.getD (K.1.length - 1) (0, 0, []))).length : Int) = ((pL (K.1.getD (K.1.length - 2) (0, 0, []))).length : Int) + ((pL (K.1.getD (K.1.length - 1) (0, 0, []))).length : Int) := by rw [List.length_append]; omega
  have fA : cFm 226 cMj (w_up S 226 16 0) A := cFm_wk (pr_fm (Or.inr rfl) hA) (fun j x z => Or.inl z)
  have fA2 : cFm 226 cMj (w_up S 226 16 0) (w_up (w_up A 150 2 (S 150 2 + 1)) 150 3 (S 150 3 + (((pL (K.1.getD (K.1.length - 2) (0, 0, []))).length : Int) + ((pL (K.1.getD (K.1.length - 1) (0, 0, []))).length : Int)))) := cFm_up (Or.inr rfl) (cFm_up (Or.inr rfl) fA (by first | decide | omega) (Or.inr (by unfold cMj; omega)) (by first | decide | omega)) (by first | decide | omega) (Or.inr (by unfold cMj; omega)) (by first | decide | omega)
  have fB := as_fm (w := 226) (Or.inr rfl) hB
  have fTB : cFm 226 cMj S B := cFm_tr (cFm_tr (cFm_r hf) fA2) fB
  obtain ⟨b1, b2, b3, b4, ⟨b5, b6, b7⟩, b8, b9⟩ := id hB
  have eA : ∀ (j : Nat) (x : Int), (j ≠ 157 ∨ x < 0) → (j ≠ 72 ∨ x ≠ 19) → (j ≠ 150 ∨ (x ≠ 2 ∧ x ≠ 3)) → (w_up (w_up A 150 2 (S 150 2 + 1)) 150 3 (S 150 3 + (((pL (K.1.getD (K.1.length - 2) (0, 0, []))).length : Int) + ((pL (K.1.getD (K.1.length - 1) (0, 0, []))).length : Int)))) j x = (w_up S 226 16 0) j x := fun j x j0 j1 j2 => (w_up_no (by omega)).trans ((w_up_no (by omega)).trans (hA.1 j x j0 j1))
  have eA1 := (eA 2 1 (Or.inl (by first | decide | omega)) (Or.inl (by first | decide | omega)) (Or.inl (by first | decide | omega))).trans (ef 2 1 (by first | decide | omega))
  have eA3 : ∀ x : Int, (w_up (w_up A 150 2 (S 150 2 + 1)) 150 3 (S 150 3 + (((pL (K.1.getD (K.1.length - 2) (0, 0, []))).length : Int) + ((pL (K.1.getD (K.1.length - 1) (0, 0, []))).length : Int)))) 3 x = S 3 x := fun x => (eA 3 x (Or.inl (by first | decide | omega)) (Or.inl (by first | decide | omega)) (Or.inl (by first | decide | omega))).trans (ef 3 x (by first | decide | omega))
  rw [eA1, hlen] at b1
  rw [eA1] at b2 b3
  rw [eA1, hlen] at b5 b7
  rw [eA3] at b6 b7
  have hTB : cTx (w_up S 226 16 0) B := ⟨by rw [ef 2 1 (by first | decide | omega)]; omega, fun x x0 x1 => by rw [ef 2 1 (by first | decide | omega)] at x1; rw [b2 x x0 x1, eA3 x, ef 3 x (by first | decide | omega)]⟩
  have hkB : cTk 226 B K := cTk_fr hk0 hTB (fun j y j0 j1 => (b4 j y (by omega) (by omega) (by omega) (by omega) (by omega) (by omega)).trans (eA j y (by omega) (by omega) (by omega)))
  have hv : cVl B 3 ((w_up S 226 16 0) 2 1 * 4294967296 + (((pL (K.1.getD (K.1.length - 2) (0, 0, []))).length : Int) + ((pL (K.1.getD (K.1.length - 1) (0, 0, []))).length : Int))) (3, 0, pL (K.1.getD (K.1.length - 2) (0, 0, [])) ++ pL (K.1.getD (K.1.length - 1) (0, 0, []))) := by
    rw [ef 2 1 (by first | decide | omega)]
    refine ⟨rfl, fun q => absurd rfl q, fun _ => ⟨rfl, S 2 1, ?_, h0.1, ?_, fun i hi2 => b3 i hi2⟩⟩
    · show _ = S 2 1 * 4294967296 + ((pL (K.1.getD (K.1.length - 2) (0, 0, [])) ++ pL (K.1.getD (K.1.length - 1) (0, 0, []))).length : Int)
      rw [hlen]
    · show S 2 1 + ((pL (K.1.getD (K.1.length - 2) (0, 0, [])) ++ pL (K.1.getD (K.1.length - 1) (0, 0, []))).length : Int) ≤ B 2 1
      rw [hlen]; omega
  have fZ := cFr_sO (Or.inr rfl) (cFr_rfl b8) (by omega) hs
  have z21 := fZ.1 2 1 (by first | decide | omega) (by first | decide | omega) (by first | decide | omega)
  have z31 := fZ.1 3 (-1) (by first | decide | omega) (by first | decide | omega) (by first | decide | omega)
  refine ⟨(sO_16 (Or.inr rfl) hs).trans (((b4 226 16 (by first | decide | omega) (by first | decide | omega) (by first | decide | omega) (by first | decide | omega) (by first | decide | omega) (by first | decide | omega)).trans (eA 226 16 (by first | decide | omega) (by first | decide | omega) (by first | decide | omega))).trans (w_up_same _ _ _ _)), cTk_sO hkB (Or.inr rfl) hs rfl rfl h3b rfl hh (by omega) hv, cFm_tr fTB (cFm_r fZ), ⟨?_, ?_⟩, by omega, fun x x0 x1 => (fZ.1 3 x (by first | decide | omega) (by first | decide | omega) (by first | decide | omega)).trans ((b2 x x0 x1).trans (eA3 x)), by omega, by omega, by omega⟩
  · exact (fZ.1 150 2 (by first | decide | omega) (by first | decide | omega) (by first | decide | omega)).trans ((b4 150 2 (by first | decide | omega) (by first | decide | omega) (by first | decide | omega) (by first | decide | omega) (by first | decide | omega) (by first | decide | omega)).trans ((w_up_at (by first | decide | omega)).trans (w_up_same _ _ _ _)))
  · exact (fZ.1 150 3 (by first | decide | omega) (by first | decide | omega) (by first | decide | omega)).trans ((b4 150 3 (by first | decide | omega) (by first | decide | omega) (by first | decide | omega) (by first | decide | omega) (by first | decide | omega) (by first | decide | omega)).trans (w_up_same _ _ _ _))
theorem zj7m_226 (h : stC 226 S K) (hi : cIn S K 7 a b) (hX : w_X xs) (hx1 : pe_at (pe_GA xs).xs 1 = some (1, tx_1)) (h57 : S 157 (-1) = 64) (h0 : 0 ≤ S 2 1 ∧ S 2 1 ≤ S 3 (-1) ∧ 1024 ≤ S 3 (-1) ∧ S 3 (-1) ≤ 8000000) (h21 : S 2 1 ≤ 4000000) (hh : 2 ≤ K.1.length) (hk1 : 0 ≤ (K.1.getD (K.1.length - 2) (0, 0, [])).1 ∧ (K.1.getD (K.1.length - 2) (0, 0, [])).1 ≤ 3) (hk2 : 0 ≤ (K.1.getD (K.1.length - 1) (0, 0, [])).1 ∧ (K.1.getD (K.1.length - 1) (0, 0, [])).1 ≤ 3) (h3 : (K.1.getD (K.1.length - 2) (0, 0, [])).1 = 3 ∨ (K.1.getD (K.1.length - 1) (0, 0, [])).1 = 3) (hv1 : -9223372036854775808 ≤ S 229 ((K.1.length : Int) - 1 - 1) ∧ S 229 ((K.1.length : Int) - 1 - 1) ≤ 9223372036854775807) (hv2 : -9223372036854775808 ≤ S 229 ((K.1.length : Int) - 1) ∧ S 229 ((K.1.length : Int) - 1) ≤ 9223372036854775807) (hl1 : (pL (K.1.getD (K.1.length - 2) (0, 0, []))).length ≤ 200000) (hl2 : (pL (K.1.getD (K.1.length - 1) (0, 0, []))).length ≤ 200000) (hq2 : 0 ≤ S 150 2 ∧ S 150 2 ≤ 12000) (hq3 : 0 ≤ S 150 3 ∧ S 150 3 ≤ 200000) (hm : 12000 ≤ S 150 2 ∨ 200000 < S 150 3 + (((pL (K.1.getD (K.1.length - 2) (0, 0, []))).length : Int) + ((pL (K.1.getD (K.1.length - 1) (0, 0, []))).length : Int))) : cSo xs d 226 [228, 229, 3] cMq S K := by
  obtain ⟨h1, ⟨h2, h2b⟩, ⟨h3b, h4, h5⟩, -⟩ := id h
  have hk0 : cTk 226 (w_up S 226 16 0) K := cTk_16 h1 (Or.inr rfl)
  have hf : cFr 226 S (w_up S 226 16 0) := cFr_up (Or.inr rfl) (cFr_rfl h2b) (by first | decide | omega) (by omega)
  have hcx := c_at h1 (i := K.1.length - 2) (by omega) (j := ((K.1.length : Int) - 1 - 1)) (by omega)
  have hcy := c_at h1 (i := K.1.length - 1) (by omega) (j := ((K.1.length : Int) - 1)) (by omega)
  have ef : ∀ (j : Nat) (x : Int), j < 215 → (w_up S 226 16 0) j x = S j x := fun j x j0 => w_up_slot (by omega)
  have hTx : cTx S (w_up S 226 16 0) := cTx_of (ef 2 1 (by first | decide | omega)) (fun x => ef 3 x (by first | decide | omega))
  have hcal : wJ (pe_GA xs) wY0 (mS [228, 229, 3]) (d + 10) t_XK_join ((pe_at t_XK_join.bl 0).getD (0, [])).2 [(0, (2, 226)), (1, (0, (K.1.length : Int) - 1 - 1)), (2, (0, (K.1.length : Int) - 1))] [] (w_up S 226 16 0) (fun o Z => o = .inl none ∧ (((12000 ≤ S 150 2 ∨ 200000 < S 150 3 + (((pL (K.1.getD (K.1.length - 2) (0, 0, []))).length : Int) + ((pL (K.1.getD (K.1.length - 1) (0, 0, []))).length : Int))) ∧ ∃ A : wS, prN (w_up S 226 16 0) A ∧ w_up A 226 16 99 = Z) ∨ (S 150 2 < 12000 ∧ S 150 3 + (((pL (K.1.getD (K.1.length - 2) (0, 0, []))).length : Int) + ((pL (K.1.getD (K.1.length - 1) (0, 0, []))).length : Int)) ≤ 200000 ∧ ∃ A B : wS, prN (w_up S 226 16 0) A ∧ asQ (pL (K.1.getD (K.1.length - 2) (0, 0, [])) ++ pL (K.1.getD (K.1.length - 1) (0, 0, []))) (w_up (w_up A 150 2 (S 150 2 + 1)) 150 3 (S 150 3 + (((pL (K.1.getD (K.1.length - 2) (0, 0, []))).length : Int) + ((pL (K.1.getD (K.1.length - 1) (0, 0, []))).length : Int)))) B ∧ sO 226 (K.1.length : Int) (K.2.1.length : Int) (K.2.1.getD (K.2.1.length - 1) (0, 0, 0, (0, 0, []), 0, 0, 0)).2.1 2 3 ((w_up S 226 16 0) 2 1 * 4294967296 + (((pL (K.1.getD (K.1.length - 2) (0, 0, []))).length : Int) + ((pL (K.1.getD (K.1.length - 1) (0, 0, []))).length : Int))) B Z))) :=
    xjn_226 (d := d + 1) (u1 := (K.1.getD (K.1.length - 2) (0, 0, []))) (u2 := (K.1.getD (K.1.length - 1) (0, 0, []))) (xP_of (Or.inr rfl) h) hX hx1 ((ef 157 _ (by first | decide | omega)).trans h57) (by rw [ef 2 1 (by first | decide | omega), ef 3 (-1) (by first | decide | omega)]; exact h0) (by rw [ef 2 1 (by first | decide | omega)]; exact h21) (by omega) ((w_up_slot (by first | decide | omega)).trans hcx.1) (w_up_slot (by first | decide | omega)) ((w_up_slot (by first | decide | omega)).trans hcy.1) (w_up_slot (by first | decide | omega)) (cVl_mo (cV_re hcx) hTx) hk1 hv1 hl1 (cVl_mo (cV_re hcy) hTx) hk2 hv2 hl2 h3 (ef 150 2 (by first | decide | omega)) (ef 150 3 (by first | decide | omega)) hq2 hq3
  have hcal2 := xo7j_226 (d := d) (xP_of (Or.inr rfl) h) (by omega) ((w_up_slot (by first | decide | omega)).trans hcx.1) ((w_up_slot (by first | decide | omega)).trans hcy.1) (by omega) ⟨by omega, by omega⟩ ⟨by omega, by omega⟩ hcal
  refine wJ_mono (cm_o_226 (R := fun Z => ∃ A : wS, prN (w_up S 226 16 0) A ∧ w_up A 226 16 99 = Z) h hi.1 hi.2.1 hi.2.2 (by first | decide | omega) (fun q => by omega) (by first | decide | omega) (by unfold mS; decide) (wJ_mono hcal2 (fun z Z hz => ⟨hz.1, by
    rcases hz.2 with ⟨-, z⟩ | ⟨z, z2, -⟩
    · exact z
    · omega⟩)) (fun Z hz => by obtain ⟨A, -, rfl⟩ := hz; exact w_up_same _ _ _ _)) (fun z Z2 hz => ?_)
  obtain ⟨hz0, Z, ⟨A, hA, rfl⟩, rfl⟩ := hz
  have hkA : cTk 226 A K := cTk_fr hk0 (cTx_of (hA.1 2 1 (by first | decide | omega) (by first | decide | omega)) (fun x => hA.1 3 x (Or.inl (by first | decide | omega)) (Or.inl (by first | decide | omega)))) (fun j y j0 j1 => hA.1 j y (by omega) (by omega))
  exact ⟨hz0, cTk_st (cTk_16 hkA (Or.inr rfl)) (Or.inr rfl), cFm_up (Or.inr rfl) (cFm_up (Or.inr rfl) (cFm_tr (cFm_r hf) (pr_fm (Or.inr rfl) hA)) (by first | decide | omega) (Or.inl (by omega)) (by first | decide | omega)) (by first | decide | omega) (Or.inl (by omega)) (by first | decide | omega)⟩
theorem zj7e_226 (h : stC 226 S K) (hi : cIn S K 7 a b) (hh : 2 ≤ K.1.length) (hn2 : ¬ ((K.1.getD (K.1.length - 2) (0, 0, [])).1 = 2 ∧ (K.1.getD (K.1.length - 1) (0, 0, [])).1 = 2)) (hk1 : 0 ≤ (K.1.getD (K.1.length - 2) (0, 0, [])).1 ∧ (K.1.getD (K.1.length - 2) (0, 0, [])).1 ≤ 8) (hk2 : 0 ≤ (K.1.getD (K.1.length - 1) (0, 0, [])).1 ∧ (K.1.getD (K.1.length - 1) (0, 0, [])).1 ≤ 8) (hn : 3 < (K.1.getD (K.1.length - 2) (0, 0, [])).1 ∨ 3 < (K.1.getD (K.1.length - 1) (0, 0, [])).1 ∨ ((K.1.getD (K.1.length - 2) (0, 0, [])).1 ≠ 3 ∧ (K.1.getD (K.1.length - 1) (0, 0, [])).1 ≠ 3)) : cSx xs d 226 [228, 229, 3] S (kTh K (2, 1, [])) := by
  obtain ⟨h1, -⟩ := id h
  have hcx := c_at h1 (i := K.1.length - 2) (by omega) (j := ((K.1.length : Int) - 1 - 1)) (by omega)
  have hcy := c_at h1 (i := K.1.length - 1) (by omega) (j := ((K.1.length : Int) - 1)) (by omega)
  exact cx_o_226 h hi.1 hi.2.1 hi.2.2 (by first | decide | omega) (fun q => by omega) (by first | decide | omega) (by unfold mS; decide) (by first | decide | omega) (xo7j_226 (R := fun Z => w_up (w_up S 226 16 0) 226 16 1 = Z) (xP_of (Or.inr rfl) h) (by omega) ((w_up_slot (by first | decide | omega)).trans hcx.1) ((w_up_slot (by first | decide | omega)).trans hcy.1) hn2 ⟨by omega, by omega⟩ ⟨by omega, by omega⟩ (xjne_226 (xP_of (Or.inr rfl) h) (by omega) ((w_up_slot (by first | decide | omega)).trans hcx.1) ((w_up_slot (by first | decide | omega)).trans hcy.1) hn))
end Wi8
