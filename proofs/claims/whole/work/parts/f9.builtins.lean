/-! PART f9: makeObject of the class; the builtins make and proto. -/
section Wf9
variable {xs : List (Nat × List Int32)} {M : Nat → Prop} {d : Nat} {S Z A B : wS} {H : List aH} {T : List aO}
theorem CL_bs {m p : Int} (hC : w_CL S) (h : bs_ag m p S Z) : w_CL Z := by
  intro q hq
  have hg : wG = 1000000 := rfl
  have h1 : ∀ q ∈ wz_n, q.1 < 237 ∧ (q.1 < 144 ∨ 148 < q.1) ∧ q.1 ≠ 132 ∧ q.1 ≠ 130 := by decide
  obtain ⟨a1, a2, a3, a4⟩ := h1 q hq
  exact (h.2.2.2.2.1 q.1 (-1) (by omega) (by omega) a2 (Or.inl ⟨a3, a4⟩) (Or.inr (by first | decide | omega)) (Or.inr (by first | decide | omega))).trans (hC q hq)
theorem CL_ns {m pr be nm : Int} (hC : w_CL S) (h : ns_ag m pr be nm S Z) : w_CL Z := by
  intro q hq
  have hg : wG = 1000000 := rfl
  have hr := hsH_rg be nm
  have h1 : ∀ q ∈ wz_n, q.1 < 237 ∧ (q.1 < 144 ∨ 148 < q.1) := by decide
  obtain ⟨a1, a2⟩ := h1 q hq
  exact (h.2.2.2.2.1 q.1 (-1) (by omega) (by omega) a2 (Or.inr (by omega)) (Or.inr (by first | decide | omega)) (Or.inr (by first | decide | omega))).trans (hC q hq)
set_option maxHeartbeats 4000000 in
theorem mO0_215 {c p h cs n u0 tk : Int} (hP : xP 215 c p h S) (hx1 : pe_at (pe_GA xs).xs 1 = some (1, tx_1)) (h2 : S 140 2 = cs) (hcs : 0 ≤ cs ∧ cs ≤ S 141 (-1)) (hl : S 142 (-1) = S 141 (-1)) (hz : 16 ≤ S 141 (-1) ∧ S 141 (-1) ≤ 480400) (hth : ∀ x : Nat, x < 10 → S (127 + x) (-1) = S 127 (-1)) (hn : S 72 3 = n) (hn1 : 0 ≤ n ∧ n ≤ S 127 (-1)) (hn2 : 64 ≤ S 127 (-1) ∧ S 127 (-1) ≤ 16383) (hu0 : S 150 0 = u0) (hu1 : 0 ≤ u0 ∧ u0 ≤ 8000) (htk : 0 ≤ tk ∧ tk ≤ h ∧ h - tk < 2100) : wJ (pe_GA xs) wY0 (mS [217, 218, 127, 128, 129, 130, 131, 132, 133, 134, 135, 136, 141, 142]) (d + 10) t_XK_makeObject ((pe_at t_XK_makeObject.bl 0).getD (0, [])).2 [(0, (2, 215)), (1, (0, tk)), (2, (0, -1))] [] S (fun o Z => o = .inl none ∧ ((8000 ≤ u0 ∧ w_up S 215 16 99 = Z) ∨ (u0 < 8000 ∧ ∃ B : wS, at_ag 4 0 (-1) 0 S B ∧ sO 215 h c p tk 4 n B Z))) := by
  obtain ⟨⟨hC, hI⟩, ⟨bc, bc0, bc1⟩, ⟨bp, bp0, bp1⟩, ⟨bh, bh0, bh1, bh2⟩, bl1, bl2, bl3⟩ := id hP
  replace bp : S 220 (c - 1) = p := bp
  replace bh : S 216 2 = h := bh
  replace bh2 : h ≤ S 217 (-1) := bh2
  replace bl1 : S 218 (-1) = S 217 (-1) := bl1
  replace bl2 : 64 ≤ S 217 (-1) := bl2
  replace bl3 : S 217 (-1) ≤ 4095 := bl3
  refine wa_aload_n (n := 0) rfl ?_
  refine wb_gf4 215 rfl (wy_pr rfl) wt_215 wf_8_0 (v := 72) wl_215_0 ?_
  refine wa_iload_n (n := 2) rfl ?_
  refine wa_cv 72 rfl (wy_pr rfl) wt_72 (M2 := mS [217, 218, 127, 128, 129, 130, 131, 132, 133, 134, 135, 136, 141, 142]) rfl at_XH_hasObjectRoom ⟨_, rfl⟩ rfl rfl ⟨(Or.inr ⟨wy_pr rfl, mS_no rfl⟩), trivial, trivial, trivial⟩ trivial (fun _ _ q => q) ?_ (fun _ _ _ q => q)
  refine wa_iload_n (n := 1) rfl ?_
  refine wa_iconst ?_
  refine wa_icmpeq (w_rg0 (by omega) (by omega)) (w_rg0 (by omega) (by omega)) ⟨_, rfl⟩ (fun c1 => ?_) (fun c1 => ?_)
  · skip
    refine wa_iconst ?_
    refine wa_fall ⟨_, rfl⟩ ?_
    refine wa_istore_n (n := 2) rfl ?_
    refine wa_aload_n (n := 0) rfl ?_
    refine wa_iconst ?_
    refine wa_iconst ?_
    refine wa_cv 72 rfl (wy_pr rfl) wt_72 (M2 := mS [217, 218, 127, 128, 129, 130, 131, 132, 133, 134, 135, 136, 141, 142]) rfl at_XH_hasRoom ⟨_, rfl⟩ rfl rfl ⟨trivial, (Or.inr ⟨wy_pr rfl, mS_no rfl⟩), trivial, trivial⟩ trivial (fun _ _ q => q) ?_ (fun _ _ _ q => q)
    refine wa_aload_n (n := 0) rfl ?_
    refine wb_gf4 72 rfl (wy_pr rfl) wt_72 wf_2_10 (v := 150) wl_72_10 ?_
    refine wa_iload_n (n := 1) rfl ?_
    refine wb_iald 150 rfl (wy_pr rfl) wt_150 (n := 6) ((cl_150 hC)) (by omega) (by omega) (v := u0) (hu0) (fun r2 => ?_)
    refine wa_iload_n (n := 2) rfl ?_
    refine wa_iadd ?_
    refine wa_gs ?_
    refine wa_iload_n (n := 1) rfl ?_
    refine wb_xald 1 rfl hx1 (by decide) (by omega) (by decide) (v := 8000) (by decide) (fun r3 => ?_)
    refine wa_icmpgt (w_rg0 (by omega) (by omega)) (w_rg0 (by omega) (by omega)) ⟨_, rfl⟩ (fun c4 => ?_) (fun c4 => ?_)
    · skip
      refine wa_iconst ?_
      refine wa_fall ⟨_, rfl⟩ ?_
      refine wa_zreturn rfl (Or.inl rfl) ?_
      show wJ _ _ _ _ _ _ _ _ _ _
      refine wa_ifeq (w_rg0 (by omega) (by omega)) ⟨_, rfl⟩ (fun c5 => ?_) (fun c5 => ?_)
      · skip
        refine wa_iconst ?_
        refine wa_fall ⟨_, rfl⟩ ?_
        refine wa_zreturn rfl (Or.inl rfl) ?_
        show wJ _ _ _ _ _ _ _ _ _ _
        refine wa_ifne (w_rg0 (by omega) (by omega)) ⟨_, rfl⟩ (fun c6 => ?_) (fun c6 => ?_)
        · skip
          exact absurd c6 (by omega)
        · skip
          refine wa_aload_n (n := 0) rfl ?_
          refine wa_bipush (w_rg2 (by omega) (by omega)) ?_
          refine wb_pfi 215 rfl (wy_pr rfl) wt_215 wf_8_16 (n := 16) rfl ⟨(by omega), (by omega)⟩ ?_
          refine wa_return rfl ?_
          exact ⟨rfl, Or.inl ⟨by omega, rfl⟩⟩
      · skip
        exact absurd c5 (by omega)
    · skip
      refine wa_iconst ?_
      refine wa_goto ⟨_, rfl⟩ ?_
      refine wa_zreturn rfl (Or.inr rfl) ?_
      show wJ _ _ _ _ _ _ _ _ _ _
      refine wa_ifeq (w_rg0 (by omega) (by omega)) ⟨_, rfl⟩ (fun c7 => ?_) (fun c7 => ?_)
      · skip
        exact absurd c7 (by omega)
      · skip
        refine wa_iload_n (n := 2) rfl ?_
        refine wa_ifeq (w_rg0 (by omega) (by omega)) ⟨_, rfl⟩ (fun c8 => ?_) (fun c8 => ?_)
        · skip
          refine wa_iconst ?_
          refine wa_goto ⟨_, rfl⟩ ?_
          refine wa_zreturn rfl (Or.inr rfl) ?_
          show wJ _ _ _ _ _ _ _ _ _ _
          refine wa_ifne (w_rg0 (by omega) (by omega)) ⟨_, rfl⟩ (fun c9 => ?_) (fun c9 => ?_)
          · skip
            refine wa_aload_n (n := 0) rfl ?_
            refine wb_gf4 215 rfl (wy_pr rfl) wt_215 wf_8_0 (v := 72) wl_215_0 ?_
            refine wa_iload_n (n := 2) rfl ?_
            refine wa_cv 72 rfl (wy_pr rfl) wt_72 (M2 := mS []) rfl at_XH_bareShape ⟨_, rfl⟩ rfl rfl ⟨(Or.inr ⟨wy_pr rfl, mS_no rfl⟩), trivial, trivial, trivial⟩ trivial (fun _ _ q => mS_sub (by decide) q) (c_b0) (fun oq10 Sq10 hp11 q10 => ?_)
            rcases q10 with ⟨rfl, rfl⟩
            show wJ _ _ _ _ _ _ _ _ _ _
            refine wa_istore_n (n := 3) rfl ?_
            refine wa_aload_n (n := 0) rfl ?_
            refine wa_iload_n (n := 1) rfl ?_
            refine wa_iconst ?_
            refine wa_aload_n (n := 0) rfl ?_
            refine wb_gf4 215 rfl (wy_pr rfl) wt_215 wf_8_0 (v := 72) wl_215_0 ?_
            refine wa_iconst ?_
            refine wa_iload_n (n := 3) rfl ?_
            refine wa_iconst ?_
            refine wa_iconst ?_
            have at12a : S 141 (-1) = (S 141 (-1)) := (rfl)
            have at12b : S 142 (-1) = S 141 (-1) := ((hl) : S 142 (-1) = (S 141 (-1))).trans at12a.symm
            have at12c : S 127 (-1) = (S 127 (-1)) := (rfl)
            have at12d : ∀ x : Nat, x < 10 → S (127 + x) (-1) = S 127 (-1) := (hth)
            refine wa_cv 72 rfl (wy_pr rfl) wt_72 (M2 := mS [127, 128, 129, 130, 131, 132, 133, 134, 135, 136, 141, 142]) rfl at_XH_addThing ⟨_, rfl⟩ rfl rfl ⟨trivial, (Or.inr ⟨wy_pr rfl, mS_no rfl⟩), trivial, trivial, trivial⟩ ⟨trivial, trivial, (Or.inr ⟨wy_pr rfl, mS_no rfl⟩), trivial⟩ (fun _ _ q => mS_sub (by decide) q) (atH_ok (S := S) (kd := 4) (sh := 0) (fo := (-1)) (rm := 0) (cs := cs) (n := n) (u0 := u0) hC hI (h2) ⟨by omega, by omega⟩ at12b ⟨by omega, by omega⟩ at12d (hn) ⟨by omega, by omega⟩ ⟨by omega, by omega⟩ (hu0) ⟨by omega, by omega⟩ ⟨by omega, by omega⟩ ⟨by omega, by omega⟩ ⟨by omega, by omega⟩ ⟨by omega, by omega⟩) (fun oq12 Sq12 hp13 q12 => ?_)
            rcases q12 with ⟨rfl, at12⟩
            show wJ _ _ _ _ _ _ _ _ _ _
            have at12e := at12.2.2.2.2.2.2.1.2
            have at12f := at12.2.2.2.2.2.1
            refine wa_i2l (w_rg0 (by omega) (by omega)) ?_
            refine wa_cv 215 rfl (wy_pr rfl) wt_215 (M2 := mS [217, 218]) rfl at_XK_give ⟨_, rfl⟩ rfl rfl ⟨trivial, (Or.inr ⟨wy_pr rfl, mS_no rfl⟩), trivial, trivial, trivial⟩ trivial (fun _ _ q => mS_sub (by decide) q) (gw_215 (S := Sq12) (n := tk) (k := 4) (v := n) (h := h) (c := c) (p := p) (ln := (S 217 (-1))) (CL_at hC at12) at12.2.2.2.2.2.2.2.2.1 ⟨by omega, by omega⟩ ⟨by omega, by omega⟩ (((at12.2.2.2.2.2.2.2.1 216 2 (by decide) (by decide) (by decide) (by decide) (by decide) (Or.inl (by decide)) (Or.inl (by decide)) (Or.inl (by decide))).trans (bh))) (((at12.2.2.2.2.2.2.2.1 215 4 (by decide) (by decide) (by decide) (by decide) (by decide) (Or.inl (by decide)) (Or.inl (by decide)) (Or.inl (by decide))).trans (bc))) (((at12.2.2.2.2.2.2.2.1 220 (c - 1) (by decide) (by decide) (by decide) (by decide) (by decide) (Or.inl (by decide)) (Or.inl (by decide)) (Or.inl (by decide))).trans (bp))) (((at12.2.2.2.2.2.2.2.1 217 (-1) (by decide) (by decide) (by decide) (by decide) (by decide) (Or.inl (by decide)) (Or.inl (by decide)) (Or.inl (by decide))).trans (rfl))) (((at12.2.2.2.2.2.2.2.1 218 (-1) (by decide) (by decide) (by decide) (by decide) (by decide) (Or.inl (by decide)) (Or.inl (by decide)) (Or.inl (by decide))).trans (bl1))) ⟨by omega, by omega⟩ ⟨by omega, by omega, by omega⟩ ⟨by omega, by omega⟩ ⟨by omega, by omega⟩) (fun oq14 Sq14 hp15 q14 => ?_)
            rcases q14 with ⟨rfl, A14, ra14, rfl⟩
            show wJ _ _ _ _ _ _ _ _ _ _
            refine wa_return rfl ?_
            exact ⟨rfl, Or.inr ⟨by omega, Sq12, at12, A14, ra14, rfl⟩⟩
          · skip
            exact absurd c9 (by omega)
        · skip
          exact absurd c8 (by omega)
  · skip
    exact absurd c1 (by omega)
set_option maxHeartbeats 4000000 in
theorem mO1_215 {c p h cs n u0 tk q r : Int} (hP : xP 215 c p h S) (hx1 : pe_at (pe_GA xs).xs 1 = some (1, tx_1)) (h2 : S 140 2 = cs) (hcs : 0 ≤ cs ∧ cs ≤ S 141 (-1)) (hl : S 142 (-1) = S 141 (-1)) (hz : 16 ≤ S 141 (-1) ∧ S 141 (-1) ≤ 480400) (hth : ∀ x : Nat, x < 10 → S (127 + x) (-1) = S 127 (-1)) (hn : S 72 3 = n) (hn1 : 0 ≤ n ∧ n ≤ S 127 (-1)) (hn2 : 64 ≤ S 127 (-1) ∧ S 127 (-1) ≤ 16383) (hu0 : S 150 0 = u0) (hu1 : 0 ≤ u0 ∧ u0 ≤ 8000) (hsw : cSw S T H) (hlt : cLt S T) (hw : wSh T H) (hq : isO T q) (hr : r = aFs (-1) q (-1) H 0) (hu4 : 0 ≤ S 150 4 ∧ S 150 4 ≤ 4000) (htk : 0 ≤ tk ∧ tk ≤ h ∧ h - tk < 2100) : wJ (pe_GA xs) wY0 (mS [217, 218, 127, 128, 129, 130, 131, 132, 133, 134, 135, 136, 141, 142, 144, 145, 146, 147, 148]) (d + 10) t_XK_makeObject ((pe_at t_XK_makeObject.bl 0).getD (0, [])).2 [(0, (2, 215)), (1, (0, tk)), (2, (0, q))] [] S (fun o Z => o = .inl none ∧ (((8000 ≤ u0 ∨ (r = -1 ∧ 4000 ≤ S 150 4)) ∧ w_up S 215 16 99 = Z) ∨ (u0 < 8000 ∧ 0 ≤ r ∧ ∃ B : wS, at_ag 4 r (-1) 0 S B ∧ sO 215 h c p tk 4 n B Z) ∨ (u0 < 8000 ∧ r = -1 ∧ S 150 4 < 4000 ∧ ∃ A B : wS, bs_ag (H.length : Int) q S A ∧ at_ag 4 (H.length : Int) (-1) 0 A B ∧ sO 215 h c p tk 4 n B Z))) := by
  obtain ⟨⟨hC, hI⟩, ⟨bc, bc0, bc1⟩, ⟨bp, bp0, bp1⟩, ⟨bh, bh0, bh1, bh2⟩, bl1, bl2, bl3⟩ := id hP
  replace bp : S 220 (c - 1) = p := bp
  replace bh : S 216 2 = h := bh
  replace bh2 : h ≤ S 217 (-1) := bh2
  replace bl1 : S 218 (-1) = S 217 (-1) := bl1
  replace bl2 : 64 ≤ S 217 (-1) := bl2
  replace bl3 : S 217 (-1) ≤ 4095 := bl3
  have hg : wG = 1000000 := rfl
  obtain ⟨h1, ⟨l1, l2, l3, l4⟩, -, hb⟩ := id hsw
  have h8 := h1.1
  have hH := hw.1.2.1
  obtain ⟨⟨hp0, hp1⟩, -⟩ := id hq
  have ht2 := hlt.2.1
  have e132 := hb q hp0 hp1
  rw [← hr] at e132
  have hrr := aFs_rg (be := -1) (pr := q) (nm := -1) (H := H)
  rw [← hr] at hrr
  obtain ⟨u4, eu4⟩ : ∃ u4 : Int, S 150 4 = u4 := ⟨_, rfl⟩
  rw [eu4] at hu4 ⊢
  refine wa_aload_n (n := 0) rfl ?_
  refine wb_gf4 215 rfl (wy_pr rfl) wt_215 wf_8_0 (v := 72) wl_215_0 ?_
  refine wa_iload_n (n := 2) rfl ?_
  refine wa_cv 72 rfl (wy_pr rfl) wt_72 (M2 := mS [217, 218, 127, 128, 129, 130, 131, 132, 133, 134, 135, 136, 141, 142, 144, 145, 146, 147, 148]) rfl at_XH_hasObjectRoom ⟨_, rfl⟩ rfl rfl ⟨(Or.inr ⟨wy_pr rfl, mS_no rfl⟩), trivial, trivial, trivial⟩ trivial (fun _ _ q => q) ?_ (fun _ _ _ q => q)
  refine wa_iload_n (n := 1) rfl ?_
  refine wa_iconst ?_
  refine wa_icmpeq (w_rg0 (by omega) (by omega)) (w_rg0 (by omega) (by omega)) ⟨_, rfl⟩ (fun c1 => ?_) (fun c1 => ?_)
  · skip
    refine wa_iconst ?_
    refine wa_fall ⟨_, rfl⟩ ?_
    refine wa_istore_n (n := 2) rfl ?_
    refine wa_aload_n (n := 0) rfl ?_
    refine wa_iconst ?_
    refine wa_iconst ?_
    refine wa_cv 72 rfl (wy_pr rfl) wt_72 (M2 := mS [217, 218, 127, 128, 129, 130, 131, 132, 133, 134, 135, 136, 141, 142, 144, 145, 146, 147, 148]) rfl at_XH_hasRoom ⟨_, rfl⟩ rfl rfl ⟨trivial, (Or.inr ⟨wy_pr rfl, mS_no rfl⟩), trivial, trivial⟩ trivial (fun _ _ q => q) ?_ (fun _ _ _ q => q)
    refine wa_aload_n (n := 0) rfl ?_
    refine wb_gf4 72 rfl (wy_pr rfl) wt_72 wf_2_10 (v := 150) wl_72_10 ?_
    refine wa_iload_n (n := 1) rfl ?_
    refine wb_iald 150 rfl (wy_pr rfl) wt_150 (n := 6) ((cl_150 hC)) (by omega) (by omega) (v := u0) (hu0) (fun r2 => ?_)
    refine wa_iload_n (n := 2) rfl ?_
    refine wa_iadd ?_
    refine wa_gs ?_
    refine wa_iload_n (n := 1) rfl ?_
    refine wb_xald 1 rfl hx1 (by decide) (by omega) (by decide) (v := 8000) (by decide) (fun r3 => ?_)
    refine wa_icmpgt (w_rg0 (by omega) (by omega)) (w_rg0 (by omega) (by omega)) ⟨_, rfl⟩ (fun c4 => ?_) (fun c4 => ?_)
    · skip
      refine wa_iconst ?_
      refine wa_fall ⟨_, rfl⟩ ?_
      refine wa_zreturn rfl (Or.inl rfl) ?_
      show wJ _ _ _ _ _ _ _ _ _ _
      refine wa_ifeq (w_rg0 (by omega) (by omega)) ⟨_, rfl⟩ (fun c5 => ?_) (fun c5 => ?_)
      · skip
        refine wa_iconst ?_
        refine wa_fall ⟨_, rfl⟩ ?_
        refine wa_zreturn rfl (Or.inl rfl) ?_
        show wJ _ _ _ _ _ _ _ _ _ _
        refine wa_ifne (w_rg0 (by omega) (by omega)) ⟨_, rfl⟩ (fun c6 => ?_) (fun c6 => ?_)
        · skip
          exact absurd c6 (by omega)
        · skip
          refine wa_aload_n (n := 0) rfl ?_
          refine wa_bipush (w_rg2 (by omega) (by omega)) ?_
          refine wb_pfi 215 rfl (wy_pr rfl) wt_215 wf_8_16 (n := 16) rfl ⟨(by omega), (by omega)⟩ ?_
          refine wa_return rfl ?_
          exact ⟨rfl, Or.inl ⟨by omega, rfl⟩⟩
      · skip
        exact absurd c5 (by omega)
    · skip
      refine wa_iconst ?_
      refine wa_goto ⟨_, rfl⟩ ?_
      refine wa_zreturn rfl (Or.inr rfl) ?_
      show wJ _ _ _ _ _ _ _ _ _ _
      refine wa_ifeq (w_rg0 (by omega) (by omega)) ⟨_, rfl⟩ (fun c7 => ?_) (fun c7 => ?_)
      · skip
        exact absurd c7 (by omega)
      · skip
        refine wa_iload_n (n := 2) rfl ?_
        refine wa_ifeq (w_rg0 (by omega) (by omega)) ⟨_, rfl⟩ (fun c8 => ?_) (fun c8 => ?_)
        · skip
          refine wa_iconst ?_
          refine wa_goto ⟨_, rfl⟩ ?_
          refine wa_zreturn rfl (Or.inr rfl) ?_
          show wJ _ _ _ _ _ _ _ _ _ _
          refine wa_ifne (w_rg0 (by omega) (by omega)) ⟨_, rfl⟩ (fun c9 => ?_) (fun c9 => ?_)
          · skip
            refine wa_aload_n (n := 0) rfl ?_
            refine wb_gf4 215 rfl (wy_pr rfl) wt_215 wf_8_0 (v := 72) wl_215_0 ?_
            refine wa_iload_n (n := 2) rfl ?_
            refine wa_cv 72 rfl (wy_pr rfl) wt_72 (M2 := mS [144, 145, 146, 147, 148]) rfl at_XH_bareShape ⟨_, rfl⟩ rfl rfl ⟨(Or.inr ⟨wy_pr rfl, mS_no rfl⟩), trivial, trivial, trivial⟩ trivial (fun _ _ q => mS_sub (by decide) q) (c_bs hC hI hsw hlt hw hq hr ⟨by omega, fun z => by omega⟩) (fun oq10 Sq10 hp11 q10 => ?_)
            rcases q10 with ⟨hbr, rfl, rfl⟩ | ⟨hbr, hb10, rfl⟩
            · skip
              show wJ _ _ _ _ _ _ _ _ _ _
              refine wa_istore_n (n := 3) rfl ?_
              refine wa_aload_n (n := 0) rfl ?_
              refine wa_iload_n (n := 1) rfl ?_
              refine wa_iconst ?_
              refine wa_aload_n (n := 0) rfl ?_
              refine wb_gf4 215 rfl (wy_pr rfl) wt_215 wf_8_0 (v := 72) wl_215_0 ?_
              refine wa_iconst ?_
              refine wa_iload_n (n := 3) rfl ?_
              refine wa_iconst ?_
              refine wa_iconst ?_
              have at12a : S 141 (-1) = (S 141 (-1)) := (rfl)
              have at12b : S 142 (-1) = S 141 (-1) := ((hl) : S 142 (-1) = (S 141 (-1))).trans at12a.symm
              have at12c : S 127 (-1) = (S 127 (-1)) := (rfl)
              have at12d : ∀ x : Nat, x < 10 → S (127 + x) (-1) = S 127 (-1) := (hth)
              refine wa_cv 72 rfl (wy_pr rfl) wt_72 (M2 := mS [127, 128, 129, 130, 131, 132, 133, 134, 135, 136, 141, 142]) rfl at_XH_addThing ⟨_, rfl⟩ rfl rfl ⟨trivial, (Or.inr ⟨wy_pr rfl, mS_no rfl⟩), trivial, trivial, trivial⟩ ⟨trivial, trivial, (Or.inr ⟨wy_pr rfl, mS_no rfl⟩), trivial⟩ (fun _ _ q => mS_sub (by decide) q) (atH_ok (S := S) (kd := 4) (sh := r) (fo := (-1)) (rm := 0) (cs := cs) (n := n) (u0 := u0) hC hI (h2) ⟨by omega, by omega⟩ at12b ⟨by omega, by omega⟩ at12d (hn) ⟨by omega, by omega⟩ ⟨by omega, by omega⟩ (hu0) ⟨by omega, by omega⟩ ⟨by omega, by omega⟩ ⟨by omega, by omega⟩ ⟨by omega, by omega⟩ ⟨by omega, by omega⟩) (fun oq12 Sq12 hp13 q12 => ?_)
              rcases q12 with ⟨rfl, at12⟩
              show wJ _ _ _ _ _ _ _ _ _ _
              have at12e := at12.2.2.2.2.2.2.1.2
              have at12f := at12.2.2.2.2.2.1
              refine wa_i2l (w_rg0 (by omega) (by omega)) ?_
              refine wa_cv 215 rfl (wy_pr rfl) wt_215 (M2 := mS [217, 218]) rfl at_XK_give ⟨_, rfl⟩ rfl rfl ⟨trivial, (Or.inr ⟨wy_pr rfl, mS_no rfl⟩), trivial, trivial, trivial⟩ trivial (fun _ _ q => mS_sub (by decide) q) (gw_215 (S := Sq12) (n := tk) (k := 4) (v := n) (h := h) (c := c) (p := p) (ln := (S 217 (-1))) (CL_at hC at12) at12.2.2.2.2.2.2.2.2.1 ⟨by omega, by omega⟩ ⟨by omega, by omega⟩ (((at12.2.2.2.2.2.2.2.1 216 2 (by decide) (by decide) (by decide) (by decide) (by decide) (Or.inl (by decide)) (Or.inl (by decide)) (Or.inl (by decide))).trans (bh))) (((at12.2.2.2.2.2.2.2.1 215 4 (by decide) (by decide) (by decide) (by decide) (by decide) (Or.inl (by decide)) (Or.inl (by decide)) (Or.inl (by decide))).trans (bc))) (((at12.2.2.2.2.2.2.2.1 220 (c - 1) (by decide) (by decide) (by decide) (by decide) (by decide) (Or.inl (by decide)) (Or.inl (by decide)) (Or.inl (by decide))).trans (bp))) (((at12.2.2.2.2.2.2.2.1 217 (-1) (by decide) (by decide) (by decide) (by decide) (by decide) (Or.inl (by decide)) (Or.inl (by decide)) (Or.inl (by decide))).trans (rfl))) (((at12.2.2.2.2.2.2.2.1 218 (-1) (by decide) (by decide) (by decide) (by decide) (by decide) (Or.inl (by decide)) (Or.inl (by decide)) (Or.inl (by decide))).trans (bl1))) ⟨by omega, by omega⟩ ⟨by omega, by omega, by omega⟩ ⟨by omega, by omega⟩ ⟨by omega, by omega⟩) (fun oq14 Sq14 hp15 q14 => ?_)
              rcases q14 with ⟨rfl, A14, ra14, rfl⟩
              show wJ _ _ _ _ _ _ _ _ _ _
              refine wa_return rfl ?_
              exact ⟨rfl, Or.inr (Or.inl ⟨by omega, by omega, Sq12, at12, A14, ra14, rfl⟩)⟩
            · skip
              show wJ _ _ _ _ _ _ _ _ _ _
              refine wa_istore_n (n := 3) rfl ?_
              refine wa_aload_n (n := 0) rfl ?_
              refine wa_iload_n (n := 1) rfl ?_
              refine wa_iconst ?_
              refine wa_aload_n (n := 0) rfl ?_
              refine wb_gf4 215 rfl (wy_pr rfl) wt_215 wf_8_0 (v := 72) wl_215_0 ?_
              refine wa_iconst ?_
              refine wa_iload_n (n := 3) rfl ?_
              refine wa_iconst ?_
              refine wa_iconst ?_
              have at16a : Sq10 141 (-1) = (S 141 (-1)) := (((hb10.2.2.2.2.1 141 (-1) (by first | decide | omega) (by first | decide | omega) (by first | decide | omega) (Or.inl (by first | decide | omega)) (Or.inl (by first | decide | omega)) (Or.inl (by first | decide | omega))).trans (rfl)))
              have at16b : Sq10 142 (-1) = Sq10 141 (-1) := ((((hb10.2.2.2.2.1 142 (-1) (by first | decide | omega) (by first | decide | omega) (by first | decide | omega) (Or.inl (by first | decide | omega)) (Or.inl (by first | decide | omega)) (Or.inl (by first | decide | omega))).trans (hl))) : Sq10 142 (-1) = (S 141 (-1))).trans at16a.symm
              have at16c : Sq10 127 (-1) = (S 127 (-1)) := (((hb10.2.2.2.2.1 127 (-1) (by first | decide | omega) (by first | decide | omega) (by first | decide | omega) (Or.inl (by first | decide | omega)) (Or.inl (by first | decide | omega)) (Or.inl (by first | decide | omega))).trans (rfl)))
              have at16d : ∀ x : Nat, x < 10 → Sq10 (127 + x) (-1) = Sq10 127 (-1) := (fun x hx => (hb10.2.2.2.2.1 (127 + x) (-1) (by omega) (by omega) (by omega) (Or.inr (by omega)) (by omega) (by omega)).trans ((hth x hx).trans (hb10.2.2.2.2.1 127 (-1) (by first | decide | omega) (by first | decide | omega) (by first | decide | omega) (Or.inl (by first | decide | omega)) (by first | decide | omega) (by first | decide | omega)).symm))
              refine wa_cv 72 rfl (wy_pr rfl) wt_72 (M2 := mS [127, 128, 129, 130, 131, 132, 133, 134, 135, 136, 141, 142]) rfl at_XH_addThing ⟨_, rfl⟩ rfl rfl ⟨trivial, (Or.inr ⟨wy_pr rfl, mS_no rfl⟩), trivial, trivial, trivial⟩ ⟨trivial, trivial, (Or.inr ⟨wy_pr rfl, mS_no rfl⟩), trivial⟩ (fun _ _ q => mS_sub (by decide) q) (atH_ok (S := Sq10) (kd := 4) (sh := (H.length : Int)) (fo := (-1)) (rm := 0) (cs := cs) (n := n) (u0 := u0) (CL_bs hC hb10) hb10.2.2.2.2.2.1 (((hb10.2.2.2.2.1 140 2 (by decide) (by decide) (by decide) (Or.inl (by decide)) (Or.inl (by decide)) (Or.inl (by decide))).trans (h2))) ⟨by omega, by omega⟩ at16b ⟨by omega, by omega⟩ at16d (((hb10.2.2.2.2.1 72 3 (by decide) (by decide) (by decide) (Or.inl (by decide)) (Or.inr (by decide)) (Or.inl (by decide))).trans (hn))) ⟨by omega, by omega⟩ ⟨by omega, by omega⟩ (((hb10.2.2.2.2.1 150 0 (by decide) (by decide) (by decide) (Or.inl (by decide)) (Or.inl (by decide)) (Or.inr (by decide))).trans (hu0))) ⟨by omega, by omega⟩ ⟨by omega, by omega⟩ ⟨by omega, by omega⟩ ⟨by omega, by omega⟩ ⟨by omega, by omega⟩) (fun oq16 Sq16 hp17 q16 => ?_)
              rcases q16 with ⟨rfl, at16⟩
              show wJ _ _ _ _ _ _ _ _ _ _
              have at16e := at16.2.2.2.2.2.2.1.2
              have at16f := at16.2.2.2.2.2.1
              refine wa_i2l (w_rg0 (by omega) (by omega)) ?_
              refine wa_cv 215 rfl (wy_pr rfl) wt_215 (M2 := mS [217, 218]) rfl at_XK_give ⟨_, rfl⟩ rfl rfl ⟨trivial, (Or.inr ⟨wy_pr rfl, mS_no rfl⟩), trivial, trivial, trivial⟩ trivial (fun _ _ q => mS_sub (by decide) q) (gw_215 (S := Sq16) (n := tk) (k := 4) (v := n) (h := h) (c := c) (p := p) (ln := (S 217 (-1))) (CL_at (CL_bs hC hb10) at16) at16.2.2.2.2.2.2.2.2.1 ⟨by omega, by omega⟩ ⟨by omega, by omega⟩ (((at16.2.2.2.2.2.2.2.1 216 2 (by decide) (by decide) (by decide) (by decide) (by decide) (Or.inl (by decide)) (Or.inl (by decide)) (Or.inl (by decide))).trans (((hb10.2.2.2.2.1 216 2 (by decide) (by decide) (by decide) (Or.inl (by decide)) (Or.inl (by decide)) (Or.inl (by decide))).trans (bh))))) (((at16.2.2.2.2.2.2.2.1 215 4 (by decide) (by decide) (by decide) (by decide) (by decide) (Or.inl (by decide)) (Or.inl (by decide)) (Or.inl (by decide))).trans (((hb10.2.2.2.2.1 215 4 (by decide) (by decide) (by decide) (Or.inl (by decide)) (Or.inl (by decide)) (Or.inl (by decide))).trans (bc))))) (((at16.2.2.2.2.2.2.2.1 220 (c - 1) (by decide) (by decide) (by decide) (by decide) (by decide) (Or.inl (by decide)) (Or.inl (by decide)) (Or.inl (by decide))).trans (((hb10.2.2.2.2.1 220 (c - 1) (by decide) (by decide) (by decide) (Or.inl (by decide)) (Or.inl (by decide)) (Or.inl (by decide))).trans (bp))))) (((at16.2.2.2.2.2.2.2.1 217 (-1) (by decide) (by decide) (by decide) (by decide) (by decide) (Or.inl (by decide)) (Or.inl (by decide)) (Or.inl (by decide))).trans (((hb10.2.2.2.2.1 217 (-1) (by decide) (by decide) (by decide) (Or.inl (by decide)) (Or.inl (by decide)) (Or.inl (by decide))).trans (rfl))))) (((at16.2.2.2.2.2.2.2.1 218 (-1) (by decide) (by decide) (by decide) (by decide) (by decide) (Or.inl (by decide)) (Or.inl (by decide)) (Or.inl (by decide))).trans (((hb10.2.2.2.2.1 218 (-1) (by decide) (by decide) (by decide) (Or.inl (by decide)) (Or.inl (by decide)) (Or.inl (by decide))).trans (bl1))))) ⟨by omega, by omega⟩ ⟨by omega, by omega, by omega⟩ ⟨by omega, by omega⟩ ⟨by omega, by omega⟩) (fun oq18 Sq18 hp19 q18 => ?_)
              rcases q18 with ⟨rfl, A18, ra18, rfl⟩
              show wJ _ _ _ _ _ _ _ _ _ _
              refine wa_return rfl ?_
              exact ⟨rfl, Or.inr (Or.inr ⟨by omega, by omega, by omega, Sq10, Sq16, hb10, at16, A18, ra18, rfl⟩)⟩
          · skip
            exact absurd c9 (by omega)
        · skip
          exact absurd c8 (by omega)
  · skip
    refine wa_aload_n (n := 0) rfl ?_
    refine wb_gf4 72 rfl (wy_pr rfl) wt_72 wf_2_2 (v := 126) wl_72_2 ?_
    refine wa_iconst ?_
    refine wb_aald5 126 5 rfl rfl (wy_pr rfl) wt_126 (by rw [show _ = _ from ((cl_126 hC))]; omega) wl_126_5 ?_
    refine wa_iload_n (n := 1) rfl ?_
    refine wb_iald 132 rfl (wy_pr rfl) wt_132 (n := (S 127 (-1))) ((hth 5 (by decide))) (by omega) (by omega) (v := r) (e132) (fun r20 => ?_)
    refine wa_iconst ?_
    refine wa_icmpne (w_rg0 (by omega) (by omega)) (w_rg0 (by omega) (by omega)) ⟨_, rfl⟩ (fun c21 => ?_) (fun c21 => ?_)
    · skip
      refine wa_iconst ?_
      refine wa_fall ⟨_, rfl⟩ ?_
      refine wa_istore_n (n := 2) rfl ?_
      refine wa_aload_n (n := 0) rfl ?_
      refine wa_iconst ?_
      refine wa_iconst ?_
      refine wa_cv 72 rfl (wy_pr rfl) wt_72 (M2 := mS [217, 218, 127, 128, 129, 130, 131, 132, 133, 134, 135, 136, 141, 142, 144, 145, 146, 147, 148]) rfl at_XH_hasRoom ⟨_, rfl⟩ rfl rfl ⟨trivial, (Or.inr ⟨wy_pr rfl, mS_no rfl⟩), trivial, trivial⟩ trivial (fun _ _ q => q) ?_ (fun _ _ _ q => q)
      refine wa_aload_n (n := 0) rfl ?_
      refine wb_gf4 72 rfl (wy_pr rfl) wt_72 wf_2_10 (v := 150) wl_72_10 ?_
      refine wa_iload_n (n := 1) rfl ?_
      refine wb_iald 150 rfl (wy_pr rfl) wt_150 (n := 6) ((cl_150 hC)) (by omega) (by omega) (v := u0) (hu0) (fun r22 => ?_)
      refine wa_iload_n (n := 2) rfl ?_
      refine wa_iadd ?_
      refine wa_gs ?_
      refine wa_iload_n (n := 1) rfl ?_
      refine wb_xald 1 rfl hx1 (by decide) (by omega) (by decide) (v := 8000) (by decide) (fun r23 => ?_)
      refine wa_icmpgt (w_rg0 (by omega) (by omega)) (w_rg0 (by omega) (by omega)) ⟨_, rfl⟩ (fun c24 => ?_) (fun c24 => ?_)
      · skip
        refine wa_iconst ?_
        refine wa_fall ⟨_, rfl⟩ ?_
        refine wa_zreturn rfl (Or.inl rfl) ?_
        show wJ _ _ _ _ _ _ _ _ _ _
        refine wa_ifeq (w_rg0 (by omega) (by omega)) ⟨_, rfl⟩ (fun c25 => ?_) (fun c25 => ?_)
        · skip
          refine wa_iconst ?_
          refine wa_fall ⟨_, rfl⟩ ?_
          refine wa_zreturn rfl (Or.inl rfl) ?_
          show wJ _ _ _ _ _ _ _ _ _ _
          refine wa_ifne (w_rg0 (by omega) (by omega)) ⟨_, rfl⟩ (fun c26 => ?_) (fun c26 => ?_)
          · skip
            exact absurd c26 (by omega)
          · skip
            refine wa_aload_n (n := 0) rfl ?_
            refine wa_bipush (w_rg2 (by omega) (by omega)) ?_
            refine wb_pfi 215 rfl (wy_pr rfl) wt_215 wf_8_16 (n := 16) rfl ⟨(by omega), (by omega)⟩ ?_
            refine wa_return rfl ?_
            exact ⟨rfl, Or.inl ⟨by omega, rfl⟩⟩
        · skip
          exact absurd c25 (by omega)
      · skip
        refine wa_iconst ?_
        refine wa_goto ⟨_, rfl⟩ ?_
        refine wa_zreturn rfl (Or.inr rfl) ?_
        show wJ _ _ _ _ _ _ _ _ _ _
        refine wa_ifeq (w_rg0 (by omega) (by omega)) ⟨_, rfl⟩ (fun c27 => ?_) (fun c27 => ?_)
        · skip
          exact absurd c27 (by omega)
        · skip
          refine wa_iload_n (n := 2) rfl ?_
          refine wa_ifeq (w_rg0 (by omega) (by omega)) ⟨_, rfl⟩ (fun c28 => ?_) (fun c28 => ?_)
          · skip
            refine wa_iconst ?_
            refine wa_goto ⟨_, rfl⟩ ?_
            refine wa_zreturn rfl (Or.inr rfl) ?_
            show wJ _ _ _ _ _ _ _ _ _ _
            refine wa_ifne (w_rg0 (by omega) (by omega)) ⟨_, rfl⟩ (fun c29 => ?_) (fun c29 => ?_)
            · skip
              refine wa_aload_n (n := 0) rfl ?_
              refine wb_gf4 215 rfl (wy_pr rfl) wt_215 wf_8_0 (v := 72) wl_215_0 ?_
              refine wa_iload_n (n := 2) rfl ?_
              refine wa_cv 72 rfl (wy_pr rfl) wt_72 (M2 := mS [144, 145, 146, 147, 148]) rfl at_XH_bareShape ⟨_, rfl⟩ rfl rfl ⟨(Or.inr ⟨wy_pr rfl, mS_no rfl⟩), trivial, trivial, trivial⟩ trivial (fun _ _ q => mS_sub (by decide) q) (c_bs hC hI hsw hlt hw hq hr ⟨by omega, fun z => by omega⟩) (fun oq30 Sq30 hp31 q30 => ?_)
              rcases q30 with ⟨hbr, rfl, rfl⟩ | ⟨hbr, hb30, rfl⟩
              · skip
                show wJ _ _ _ _ _ _ _ _ _ _
                refine wa_istore_n (n := 3) rfl ?_
                refine wa_aload_n (n := 0) rfl ?_
                refine wa_iload_n (n := 1) rfl ?_
                refine wa_iconst ?_
                refine wa_aload_n (n := 0) rfl ?_
                refine wb_gf4 215 rfl (wy_pr rfl) wt_215 wf_8_0 (v := 72) wl_215_0 ?_
                refine wa_iconst ?_
                refine wa_iload_n (n := 3) rfl ?_
                refine wa_iconst ?_
                refine wa_iconst ?_
                have at32a : S 141 (-1) = (S 141 (-1)) := (rfl)
                have at32b : S 142 (-1) = S 141 (-1) := ((hl) : S 142 (-1) = (S 141 (-1))).trans at32a.symm
                have at32c : S 127 (-1) = (S 127 (-1)) := (rfl)
                have at32d : ∀ x : Nat, x < 10 → S (127 + x) (-1) = S 127 (-1) := (hth)
                refine wa_cv 72 rfl (wy_pr rfl) wt_72 (M2 := mS [127, 128, 129, 130, 131, 132, 133, 134, 135, 136, 141, 142]) rfl at_XH_addThing ⟨_, rfl⟩ rfl rfl ⟨trivial, (Or.inr ⟨wy_pr rfl, mS_no rfl⟩), trivial, trivial, trivial⟩ ⟨trivial, trivial, (Or.inr ⟨wy_pr rfl, mS_no rfl⟩), trivial⟩ (fun _ _ q => mS_sub (by decide) q) (atH_ok (S := S) (kd := 4) (sh := r) (fo := (-1)) (rm := 0) (cs := cs) (n := n) (u0 := u0) hC hI (h2) ⟨by omega, by omega⟩ at32b ⟨by omega, by omega⟩ at32d (hn) ⟨by omega, by omega⟩ ⟨by omega, by omega⟩ (hu0) ⟨by omega, by omega⟩ ⟨by omega, by omega⟩ ⟨by omega, by omega⟩ ⟨by omega, by omega⟩ ⟨by omega, by omega⟩) (fun oq32 Sq32 hp33 q32 => ?_)
                rcases q32 with ⟨rfl, at32⟩
                show wJ _ _ _ _ _ _ _ _ _ _
                have at32e := at32.2.2.2.2.2.2.1.2
                have at32f := at32.2.2.2.2.2.1
                refine wa_i2l (w_rg0 (by omega) (by omega)) ?_
                refine wa_cv 215 rfl (wy_pr rfl) wt_215 (M2 := mS [217, 218]) rfl at_XK_give ⟨_, rfl⟩ rfl rfl ⟨trivial, (Or.inr ⟨wy_pr rfl, mS_no rfl⟩), trivial, trivial, trivial⟩ trivial (fun _ _ q => mS_sub (by decide) q) (gw_215 (S := Sq32) (n := tk) (k := 4) (v := n) (h := h) (c := c) (p := p) (ln := (S 217 (-1))) (CL_at hC at32) at32.2.2.2.2.2.2.2.2.1 ⟨by omega, by omega⟩ ⟨by omega, by omega⟩ (((at32.2.2.2.2.2.2.2.1 216 2 (by decide) (by decide) (by decide) (by decide) (by decide) (Or.inl (by decide)) (Or.inl (by decide)) (Or.inl (by decide))).trans (bh))) (((at32.2.2.2.2.2.2.2.1 215 4 (by decide) (by decide) (by decide) (by decide) (by decide) (Or.inl (by decide)) (Or.inl (by decide)) (Or.inl (by decide))).trans (bc))) (((at32.2.2.2.2.2.2.2.1 220 (c - 1) (by decide) (by decide) (by decide) (by decide) (by decide) (Or.inl (by decide)) (Or.inl (by decide)) (Or.inl (by decide))).trans (bp))) (((at32.2.2.2.2.2.2.2.1 217 (-1) (by decide) (by decide) (by decide) (by decide) (by decide) (Or.inl (by decide)) (Or.inl (by decide)) (Or.inl (by decide))).trans (rfl))) (((at32.2.2.2.2.2.2.2.1 218 (-1) (by decide) (by decide) (by decide) (by decide) (by decide) (Or.inl (by decide)) (Or.inl (by decide)) (Or.inl (by decide))).trans (bl1))) ⟨by omega, by omega⟩ ⟨by omega, by omega, by omega⟩ ⟨by omega, by omega⟩ ⟨by omega, by omega⟩) (fun oq34 Sq34 hp35 q34 => ?_)
                rcases q34 with ⟨rfl, A34, ra34, rfl⟩
                show wJ _ _ _ _ _ _ _ _ _ _
                refine wa_return rfl ?_
                exact ⟨rfl, Or.inr (Or.inl ⟨by omega, by omega, Sq32, at32, A34, ra34, rfl⟩)⟩
              · skip
                show wJ _ _ _ _ _ _ _ _ _ _
                refine wa_istore_n (n := 3) rfl ?_
                refine wa_aload_n (n := 0) rfl ?_
                refine wa_iload_n (n := 1) rfl ?_
                refine wa_iconst ?_
                refine wa_aload_n (n := 0) rfl ?_
                refine wb_gf4 215 rfl (wy_pr rfl) wt_215 wf_8_0 (v := 72) wl_215_0 ?_
                refine wa_iconst ?_
                refine wa_iload_n (n := 3) rfl ?_
                refine wa_iconst ?_
                refine wa_iconst ?_
                have at36a : Sq30 141 (-1) = (S 141 (-1)) := (((hb30.2.2.2.2.1 141 (-1) (by first | decide | omega) (by first | decide | omega) (by first | decide | omega) (Or.inl (by first | decide | omega)) (Or.inl (by first | decide | omega)) (Or.inl (by first | decide | omega))).trans (rfl)))
                have at36b : Sq30 142 (-1) = Sq30 141 (-1) := ((((hb30.2.2.2.2.1 142 (-1) (by first | decide | omega) (by first | decide | omega) (by first | decide | omega) (Or.inl (by first | decide | omega)) (Or.inl (by first | decide | omega)) (Or.inl (by first | decide | omega))).trans (hl))) : Sq30 142 (-1) = (S 141 (-1))).trans at36a.symm
                have at36c : Sq30 127 (-1) = (S 127 (-1)) := (((hb30.2.2.2.2.1 127 (-1) (by first | decide | omega) (by first | decide | omega) (by first | decide | omega) (Or.inl (by first | decide | omega)) (Or.inl (by first | decide | omega)) (Or.inl (by first | decide | omega))).trans (rfl)))
                have at36d : ∀ x : Nat, x < 10 → Sq30 (127 + x) (-1) = Sq30 127 (-1) := (fun x hx => (hb30.2.2.2.2.1 (127 + x) (-1) (by omega) (by omega) (by omega) (Or.inr (by omega)) (by omega) (by omega)).trans ((hth x hx).trans (hb30.2.2.2.2.1 127 (-1) (by first | decide | omega) (by first | decide | omega) (by first | decide | omega) (Or.inl (by first | decide | omega)) (by first | decide | omega) (by first | decide | omega)).symm))
                refine wa_cv 72 rfl (wy_pr rfl) wt_72 (M2 := mS [127, 128, 129, 130, 131, 132, 133, 134, 135, 136, 141, 142]) rfl at_XH_addThing ⟨_, rfl⟩ rfl rfl ⟨trivial, (Or.inr ⟨wy_pr rfl, mS_no rfl⟩), trivial, trivial, trivial⟩ ⟨trivial, trivial, (Or.inr ⟨wy_pr rfl, mS_no rfl⟩), trivial⟩ (fun _ _ q => mS_sub (by decide) q) (atH_ok (S := Sq30) (kd := 4) (sh := (H.length : Int)) (fo := (-1)) (rm := 0) (cs := cs) (n := n) (u0 := u0) (CL_bs hC hb30) hb30.2.2.2.2.2.1 (((hb30.2.2.2.2.1 140 2 (by decide) (by decide) (by decide) (Or.inl (by decide)) (Or.inl (by decide)) (Or.inl (by decide))).trans (h2))) ⟨by omega, by omega⟩ at36b ⟨by omega, by omega⟩ at36d (((hb30.2.2.2.2.1 72 3 (by decide) (by decide) (by decide) (Or.inl (by decide)) (Or.inr (by decide)) (Or.inl (by decide))).trans (hn))) ⟨by omega, by omega⟩ ⟨by omega, by omega⟩ (((hb30.2.2.2.2.1 150 0 (by decide) (by decide) (by decide) (Or.inl (by decide)) (Or.inl (by decide)) (Or.inr (by decide))).trans (hu0))) ⟨by omega, by omega⟩ ⟨by omega, by omega⟩ ⟨by omega, by omega⟩ ⟨by omega, by omega⟩ ⟨by omega, by omega⟩) (fun oq36 Sq36 hp37 q36 => ?_)
                rcases q36 with ⟨rfl, at36⟩
                show wJ _ _ _ _ _ _ _ _ _ _
                have at36e := at36.2.2.2.2.2.2.1.2
                have at36f := at36.2.2.2.2.2.1
                refine wa_i2l (w_rg0 (by omega) (by omega)) ?_
                refine wa_cv 215 rfl (wy_pr rfl) wt_215 (M2 := mS [217, 218]) rfl at_XK_give ⟨_, rfl⟩ rfl rfl ⟨trivial, (Or.inr ⟨wy_pr rfl, mS_no rfl⟩), trivial, trivial, trivial⟩ trivial (fun _ _ q => mS_sub (by decide) q) (gw_215 (S := Sq36) (n := tk) (k := 4) (v := n) (h := h) (c := c) (p := p) (ln := (S 217 (-1))) (CL_at (CL_bs hC hb30) at36) at36.2.2.2.2.2.2.2.2.1 ⟨by omega, by omega⟩ ⟨by omega, by omega⟩ (((at36.2.2.2.2.2.2.2.1 216 2 (by decide) (by decide) (by decide) (by decide) (by decide) (Or.inl (by decide)) (Or.inl (by decide)) (Or.inl (by decide))).trans (((hb30.2.2.2.2.1 216 2 (by decide) (by decide) (by decide) (Or.inl (by decide)) (Or.inl (by decide)) (Or.inl (by decide))).trans (bh))))) (((at36.2.2.2.2.2.2.2.1 215 4 (by decide) (by decide) (by decide) (by decide) (by decide) (Or.inl (by decide)) (Or.inl (by decide)) (Or.inl (by decide))).trans (((hb30.2.2.2.2.1 215 4 (by decide) (by decide) (by decide) (Or.inl (by decide)) (Or.inl (by decide)) (Or.inl (by decide))).trans (bc))))) (((at36.2.2.2.2.2.2.2.1 220 (c - 1) (by decide) (by decide) (by decide) (by decide) (by decide) (Or.inl (by decide)) (Or.inl (by decide)) (Or.inl (by decide))).trans (((hb30.2.2.2.2.1 220 (c - 1) (by decide) (by decide) (by decide) (Or.inl (by decide)) (Or.inl (by decide)) (Or.inl (by decide))).trans (bp))))) (((at36.2.2.2.2.2.2.2.1 217 (-1) (by decide) (by decide) (by decide) (by decide) (by decide) (Or.inl (by decide)) (Or.inl (by decide)) (Or.inl (by decide))).trans (((hb30.2.2.2.2.1 217 (-1) (by decide) (by decide) (by decide) (Or.inl (by decide)) (Or.inl (by decide)) (Or.inl (by decide))).trans (rfl))))) (((at36.2.2.2.2.2.2.2.1 218 (-1) (by decide) (by decide) (by decide) (by decide) (by decide) (Or.inl (by decide)) (Or.inl (by decide)) (Or.inl (by decide))).trans (((hb30.2.2.2.2.1 218 (-1) (by decide) (by decide) (by decide) (Or.inl (by decide)) (Or.inl (by decide)) (Or.inl (by decide))).trans (bl1))))) ⟨by omega, by omega⟩ ⟨by omega, by omega, by omega⟩ ⟨by omega, by omega⟩ ⟨by omega, by omega⟩) (fun oq38 Sq38 hp39 q38 => ?_)
                rcases q38 with ⟨rfl, A38, ra38, rfl⟩
                show wJ _ _ _ _ _ _ _ _ _ _
                refine wa_return rfl ?_
                exact ⟨rfl, Or.inr (Or.inr ⟨by omega, by omega, by omega, Sq30, Sq36, hb30, at36, A38, ra38, rfl⟩)⟩
            · skip
              exact absurd c29 (by omega)
          · skip
            exact absurd c28 (by omega)
    · skip
      refine wa_iconst ?_
      refine wa_goto ⟨_, rfl⟩ ?_
      refine wa_istore_n (n := 2) rfl ?_
      refine wa_aload_n (n := 0) rfl ?_
      refine wa_iconst ?_
      refine wa_iconst ?_
      refine wa_cv 72 rfl (wy_pr rfl) wt_72 (M2 := mS [217, 218, 127, 128, 129, 130, 131, 132, 133, 134, 135, 136, 141, 142, 144, 145, 146, 147, 148]) rfl at_XH_hasRoom ⟨_, rfl⟩ rfl rfl ⟨trivial, (Or.inr ⟨wy_pr rfl, mS_no rfl⟩), trivial, trivial⟩ trivial (fun _ _ q => q) ?_ (fun _ _ _ q => q)
      refine wa_aload_n (n := 0) rfl ?_
      refine wb_gf4 72 rfl (wy_pr rfl) wt_72 wf_2_10 (v := 150) wl_72_10 ?_
      refine wa_iload_n (n := 1) rfl ?_
      refine wb_iald 150 rfl (wy_pr rfl) wt_150 (n := 6) ((cl_150 hC)) (by omega) (by omega) (v := u0) (hu0) (fun r40 => ?_)
      refine wa_iload_n (n := 2) rfl ?_
      refine wa_iadd ?_
      refine wa_gs ?_
      refine wa_iload_n (n := 1) rfl ?_
      refine wb_xald 1 rfl hx1 (by decide) (by omega) (by decide) (v := 8000) (by decide) (fun r41 => ?_)
      refine wa_icmpgt (w_rg0 (by omega) (by omega)) (w_rg0 (by omega) (by omega)) ⟨_, rfl⟩ (fun c42 => ?_) (fun c42 => ?_)
      · skip
        refine wa_iconst ?_
        refine wa_fall ⟨_, rfl⟩ ?_
        refine wa_zreturn rfl (Or.inl rfl) ?_
        show wJ _ _ _ _ _ _ _ _ _ _
        refine wa_ifeq (w_rg0 (by omega) (by omega)) ⟨_, rfl⟩ (fun c43 => ?_) (fun c43 => ?_)
        · skip
          refine wa_iconst ?_
          refine wa_fall ⟨_, rfl⟩ ?_
          refine wa_zreturn rfl (Or.inl rfl) ?_
          show wJ _ _ _ _ _ _ _ _ _ _
          refine wa_ifne (w_rg0 (by omega) (by omega)) ⟨_, rfl⟩ (fun c44 => ?_) (fun c44 => ?_)
          · skip
            exact absurd c44 (by omega)
          · skip
            refine wa_aload_n (n := 0) rfl ?_
            refine wa_bipush (w_rg2 (by omega) (by omega)) ?_
            refine wb_pfi 215 rfl (wy_pr rfl) wt_215 wf_8_16 (n := 16) rfl ⟨(by omega), (by omega)⟩ ?_
            refine wa_return rfl ?_
            exact ⟨rfl, Or.inl ⟨by omega, rfl⟩⟩
        · skip
          exact absurd c43 (by omega)
      · skip
        refine wa_iconst ?_
        refine wa_goto ⟨_, rfl⟩ ?_
        refine wa_zreturn rfl (Or.inr rfl) ?_
        show wJ _ _ _ _ _ _ _ _ _ _
        refine wa_ifeq (w_rg0 (by omega) (by omega)) ⟨_, rfl⟩ (fun c45 => ?_) (fun c45 => ?_)
        · skip
          exact absurd c45 (by omega)
        · skip
          refine wa_iload_n (n := 2) rfl ?_
          refine wa_ifeq (w_rg0 (by omega) (by omega)) ⟨_, rfl⟩ (fun c46 => ?_) (fun c46 => ?_)
          · skip
            exact absurd c46 (by omega)
          · skip
            refine wa_aload_n (n := 0) rfl ?_
            refine wa_iconst ?_
            refine wa_iconst ?_
            refine wa_cv 72 rfl (wy_pr rfl) wt_72 (M2 := mS [217, 218, 127, 128, 129, 130, 131, 132, 133, 134, 135, 136, 141, 142, 144, 145, 146, 147, 148]) rfl at_XH_hasRoom ⟨_, rfl⟩ rfl rfl ⟨trivial, (Or.inr ⟨wy_pr rfl, mS_no rfl⟩), trivial, trivial⟩ trivial (fun _ _ q => q) ?_ (fun _ _ _ q => q)
            refine wa_aload_n (n := 0) rfl ?_
            refine wb_gf4 72 rfl (wy_pr rfl) wt_72 wf_2_10 (v := 150) wl_72_10 ?_
            refine wa_iload_n (n := 1) rfl ?_
            refine wb_iald 150 rfl (wy_pr rfl) wt_150 (n := 6) ((cl_150 hC)) (by omega) (by omega) (v := u4) (eu4) (fun r47 => ?_)
            refine wa_iload_n (n := 2) rfl ?_
            refine wa_iadd ?_
            refine wa_gs ?_
            refine wa_iload_n (n := 1) rfl ?_
            refine wb_xald 1 rfl hx1 (by decide) (by omega) (by decide) (v := 4000) (by decide) (fun r48 => ?_)
            refine wa_icmpgt (w_rg0 (by omega) (by omega)) (w_rg0 (by omega) (by omega)) ⟨_, rfl⟩ (fun c49 => ?_) (fun c49 => ?_)
            · skip
              refine wa_iconst ?_
              refine wa_fall ⟨_, rfl⟩ ?_
              refine wa_zreturn rfl (Or.inl rfl) ?_
              show wJ _ _ _ _ _ _ _ _ _ _
              refine wa_ifeq (w_rg0 (by omega) (by omega)) ⟨_, rfl⟩ (fun c50 => ?_) (fun c50 => ?_)
              · skip
                refine wa_iconst ?_
                refine wa_fall ⟨_, rfl⟩ ?_
                refine wa_zreturn rfl (Or.inl rfl) ?_
                show wJ _ _ _ _ _ _ _ _ _ _
                refine wa_ifne (w_rg0 (by omega) (by omega)) ⟨_, rfl⟩ (fun c51 => ?_) (fun c51 => ?_)
                · skip
                  exact absurd c51 (by omega)
                · skip
                  refine wa_aload_n (n := 0) rfl ?_
                  refine wa_bipush (w_rg2 (by omega) (by omega)) ?_
                  refine wb_pfi 215 rfl (wy_pr rfl) wt_215 wf_8_16 (n := 16) rfl ⟨(by omega), (by omega)⟩ ?_
                  refine wa_return rfl ?_
                  exact ⟨rfl, Or.inl ⟨by omega, rfl⟩⟩
              · skip
                exact absurd c50 (by omega)
            · skip
              refine wa_iconst ?_
              refine wa_goto ⟨_, rfl⟩ ?_
              refine wa_zreturn rfl (Or.inr rfl) ?_
              show wJ _ _ _ _ _ _ _ _ _ _
              refine wa_ifeq (w_rg0 (by omega) (by omega)) ⟨_, rfl⟩ (fun c52 => ?_) (fun c52 => ?_)
              · skip
                exact absurd c52 (by omega)
              · skip
                refine wa_fall ⟨_, rfl⟩ ?_
                refine wa_iconst ?_
                refine wa_goto ⟨_, rfl⟩ ?_
                refine wa_zreturn rfl (Or.inr rfl) ?_
                show wJ _ _ _ _ _ _ _ _ _ _
                refine wa_ifne (w_rg0 (by omega) (by omega)) ⟨_, rfl⟩ (fun c53 => ?_) (fun c53 => ?_)
                · skip
                  refine wa_aload_n (n := 0) rfl ?_
                  refine wb_gf4 215 rfl (wy_pr rfl) wt_215 wf_8_0 (v := 72) wl_215_0 ?_
                  refine wa_iload_n (n := 2) rfl ?_
                  refine wa_cv 72 rfl (wy_pr rfl) wt_72 (M2 := mS [144, 145, 146, 147, 148]) rfl at_XH_bareShape ⟨_, rfl⟩ rfl rfl ⟨(Or.inr ⟨wy_pr rfl, mS_no rfl⟩), trivial, trivial, trivial⟩ trivial (fun _ _ q => mS_sub (by decide) q) (c_bs hC hI hsw hlt hw hq hr ⟨by omega, fun z => by omega⟩) (fun oq54 Sq54 hp55 q54 => ?_)
                  rcases q54 with ⟨hbr, rfl, rfl⟩ | ⟨hbr, hb54, rfl⟩
                  · skip
                    show wJ _ _ _ _ _ _ _ _ _ _
                    refine wa_istore_n (n := 3) rfl ?_
                    refine wa_aload_n (n := 0) rfl ?_
                    refine wa_iload_n (n := 1) rfl ?_
                    refine wa_iconst ?_
                    refine wa_aload_n (n := 0) rfl ?_
                    refine wb_gf4 215 rfl (wy_pr rfl) wt_215 wf_8_0 (v := 72) wl_215_0 ?_
                    refine wa_iconst ?_
                    refine wa_iload_n (n := 3) rfl ?_
                    refine wa_iconst ?_
                    refine wa_iconst ?_
                    have at56a : S 141 (-1) = (S 141 (-1)) := (rfl)
                    have at56b : S 142 (-1) = S 141 (-1) := ((hl) : S 142 (-1) = (S 141 (-1))).trans at56a.symm
                    have at56c : S 127 (-1) = (S 127 (-1)) := (rfl)
                    have at56d : ∀ x : Nat, x < 10 → S (127 + x) (-1) = S 127 (-1) := (hth)
                    refine wa_cv 72 rfl (wy_pr rfl) wt_72 (M2 := mS [127, 128, 129, 130, 131, 132, 133, 134, 135, 136, 141, 142]) rfl at_XH_addThing ⟨_, rfl⟩ rfl rfl ⟨trivial, (Or.inr ⟨wy_pr rfl, mS_no rfl⟩), trivial, trivial, trivial⟩ ⟨trivial, trivial, (Or.inr ⟨wy_pr rfl, mS_no rfl⟩), trivial⟩ (fun _ _ q => mS_sub (by decide) q) (atH_ok (S := S) (kd := 4) (sh := r) (fo := (-1)) (rm := 0) (cs := cs) (n := n) (u0 := u0) hC hI (h2) ⟨by omega, by omega⟩ at56b ⟨by omega, by omega⟩ at56d (hn) ⟨by omega, by omega⟩ ⟨by omega, by omega⟩ (hu0) ⟨by omega, by omega⟩ ⟨by omega, by omega⟩ ⟨by omega, by omega⟩ ⟨by omega, by omega⟩ ⟨by omega, by omega⟩) (fun oq56 Sq56 hp57 q56 => ?_)
                    rcases q56 with ⟨rfl, at56⟩
                    show wJ _ _ _ _ _ _ _ _ _ _
                    have at56e := at56.2.2.2.2.2.2.1.2
                    have at56f := at56.2.2.2.2.2.1
                    refine wa_i2l (w_rg0 (by omega) (by omega)) ?_
                    refine wa_cv 215 rfl (wy_pr rfl) wt_215 (M2 := mS [217, 218]) rfl at_XK_give ⟨_, rfl⟩ rfl rfl ⟨trivial, (Or.inr ⟨wy_pr rfl, mS_no rfl⟩), trivial, trivial, trivial⟩ trivial (fun _ _ q => mS_sub (by decide) q) (gw_215 (S := Sq56) (n := tk) (k := 4) (v := n) (h := h) (c := c) (p := p) (ln := (S 217 (-1))) (CL_at hC at56) at56.2.2.2.2.2.2.2.2.1 ⟨by omega, by omega⟩ ⟨by omega, by omega⟩ (((at56.2.2.2.2.2.2.2.1 216 2 (by decide) (by decide) (by decide) (by decide) (by decide) (Or.inl (by decide)) (Or.inl (by decide)) (Or.inl (by decide))).trans (bh))) (((at56.2.2.2.2.2.2.2.1 215 4 (by decide) (by decide) (by decide) (by decide) (by decide) (Or.inl (by decide)) (Or.inl (by decide)) (Or.inl (by decide))).trans (bc))) (((at56.2.2.2.2.2.2.2.1 220 (c - 1) (by decide) (by decide) (by decide) (by decide) (by decide) (Or.inl (by decide)) (Or.inl (by decide)) (Or.inl (by decide))).trans (bp))) (((at56.2.2.2.2.2.2.2.1 217 (-1) (by decide) (by decide) (by decide) (by decide) (by decide) (Or.inl (by decide)) (Or.inl (by decide)) (Or.inl (by decide))).trans (rfl))) (((at56.2.2.2.2.2.2.2.1 218 (-1) (by decide) (by decide) (by decide) (by decide) (by decide) (Or.inl (by decide)) (Or.inl (by decide)) (Or.inl (by decide))).trans (bl1))) ⟨by omega, by omega⟩ ⟨by omega, by omega, by omega⟩ ⟨by omega, by omega⟩ ⟨by omega, by omega⟩) (fun oq58 Sq58 hp59 q58 => ?_)
                    rcases q58 with ⟨rfl, A58, ra58, rfl⟩
                    show wJ _ _ _ _ _ _ _ _ _ _
                    refine wa_return rfl ?_
                    exact ⟨rfl, Or.inr (Or.inl ⟨by omega, by omega, Sq56, at56, A58, ra58, rfl⟩)⟩
                  · skip
                    show wJ _ _ _ _ _ _ _ _ _ _
                    refine wa_istore_n (n := 3) rfl ?_
                    refine wa_aload_n (n := 0) rfl ?_
                    refine wa_iload_n (n := 1) rfl ?_
                    refine wa_iconst ?_
                    refine wa_aload_n (n := 0) rfl ?_
                    refine wb_gf4 215 rfl (wy_pr rfl) wt_215 wf_8_0 (v := 72) wl_215_0 ?_
                    refine wa_iconst ?_
                    refine wa_iload_n (n := 3) rfl ?_
                    refine wa_iconst ?_
                    refine wa_iconst ?_
                    have at60a : Sq54 141 (-1) = (S 141 (-1)) := (((hb54.2.2.2.2.1 141 (-1) (by first | decide | omega) (by first | decide | omega) (by first | decide | omega) (Or.inl (by first | decide | omega)) (Or.inl (by first | decide | omega)) (Or.inl (by first | decide | omega))).trans (rfl)))
                    have at60b : Sq54 142 (-1) = Sq54 141 (-1) := ((((hb54.2.2.2.2.1 142 (-1) (by first | decide | omega) (by first | decide | omega) (by first | decide | omega) (Or.inl (by first | decide | omega)) (Or.inl (by first | decide | omega)) (Or.inl (by first | decide | omega))).trans (hl))) : Sq54 142 (-1) = (S 141 (-1))).trans at60a.symm
                    have at60c : Sq54 127 (-1) = (S 127 (-1)) := (((hb54.2.2.2.2.1 127 (-1) (by first | decide | omega) (by first | decide | omega) (by first | decide | omega) (Or.inl (by first | decide | omega)) (Or.inl (by first | decide | omega)) (Or.inl (by first | decide | omega))).trans (rfl)))
                    have at60d : ∀ x : Nat, x < 10 → Sq54 (127 + x) (-1) = Sq54 127 (-1) := (fun x hx => (hb54.2.2.2.2.1 (127 + x) (-1) (by omega) (by omega) (by omega) (Or.inr (by omega)) (by omega) (by omega)).trans ((hth x hx).trans (hb54.2.2.2.2.1 127 (-1) (by first | decide | omega) (by first | decide | omega) (by first | decide | omega) (Or.inl (by first | decide | omega)) (by first | decide | omega) (by first | decide | omega)).symm))
                    refine wa_cv 72 rfl (wy_pr rfl) wt_72 (M2 := mS [127, 128, 129, 130, 131, 132, 133, 134, 135, 136, 141, 142]) rfl at_XH_addThing ⟨_, rfl⟩ rfl rfl ⟨trivial, (Or.inr ⟨wy_pr rfl, mS_no rfl⟩), trivial, trivial, trivial⟩ ⟨trivial, trivial, (Or.inr ⟨wy_pr rfl, mS_no rfl⟩), trivial⟩ (fun _ _ q => mS_sub (by decide) q) (atH_ok (S := Sq54) (kd := 4) (sh := (H.length : Int)) (fo := (-1)) (rm := 0) (cs := cs) (n := n) (u0 := u0) (CL_bs hC hb54) hb54.2.2.2.2.2.1 (((hb54.2.2.2.2.1 140 2 (by decide) (by decide) (by decide) (Or.inl (by decide)) (Or.inl (by decide)) (Or.inl (by decide))).trans (h2))) ⟨by omega, by omega⟩ at60b ⟨by omega, by omega⟩ at60d (((hb54.2.2.2.2.1 72 3 (by decide) (by decide) (by decide) (Or.inl (by decide)) (Or.inr (by decide)) (Or.inl (by decide))).trans (hn))) ⟨by omega, by omega⟩ ⟨by omega, by omega⟩ (((hb54.2.2.2.2.1 150 0 (by decide) (by decide) (by decide) (Or.inl (by decide)) (Or.inl (by decide)) (Or.inr (by decide))).trans (hu0))) ⟨by omega, by omega⟩ ⟨by omega, by omega⟩ ⟨by omega, by omega⟩ ⟨by omega, by omega⟩ ⟨by omega, by omega⟩) (fun oq60 Sq60 hp61 q60 => ?_)
                    rcases q60 with ⟨rfl, at60⟩
                    show wJ _ _ _ _ _ _ _ _ _ _
                    have at60e := at60.2.2.2.2.2.2.1.2
                    have at60f := at60.2.2.2.2.2.1
                    refine wa_i2l (w_rg0 (by omega) (by omega)) ?_
                    refine wa_cv 215 rfl (wy_pr rfl) wt_215 (M2 := mS [217, 218]) rfl at_XK_give ⟨_, rfl⟩ rfl rfl ⟨trivial, (Or.inr ⟨wy_pr rfl, mS_no rfl⟩), trivial, trivial, trivial⟩ trivial (fun _ _ q => mS_sub (by decide) q) (gw_215 (S := Sq60) (n := tk) (k := 4) (v := n) (h := h) (c := c) (p := p) (ln := (S 217 (-1))) (CL_at (CL_bs hC hb54) at60) at60.2.2.2.2.2.2.2.2.1 ⟨by omega, by omega⟩ ⟨by omega, by omega⟩ (((at60.2.2.2.2.2.2.2.1 216 2 (by decide) (by decide) (by decide) (by decide) (by decide) (Or.inl (by decide)) (Or.inl (by decide)) (Or.inl (by decide))).trans (((hb54.2.2.2.2.1 216 2 (by decide) (by decide) (by decide) (Or.inl (by decide)) (Or.inl (by decide)) (Or.inl (by decide))).trans (bh))))) (((at60.2.2.2.2.2.2.2.1 215 4 (by decide) (by decide) (by decide) (by decide) (by decide) (Or.inl (by decide)) (Or.inl (by decide)) (Or.inl (by decide))).trans (((hb54.2.2.2.2.1 215 4 (by decide) (by decide) (by decide) (Or.inl (by decide)) (Or.inl (by decide)) (Or.inl (by decide))).trans (bc))))) (((at60.2.2.2.2.2.2.2.1 220 (c - 1) (by decide) (by decide) (by decide) (by decide) (by decide) (Or.inl (by decide)) (Or.inl (by decide)) (Or.inl (by decide))).trans (((hb54.2.2.2.2.1 220 (c - 1) (by decide) (by decide) (by decide) (Or.inl (by decide)) (Or.inl (by decide)) (Or.inl (by decide))).trans (bp))))) (((at60.2.2.2.2.2.2.2.1 217 (-1) (by decide) (by decide) (by decide) (by decide) (by decide) (Or.inl (by decide)) (Or.inl (by decide)) (Or.inl (by decide))).trans (((hb54.2.2.2.2.1 217 (-1) (by decide) (by decide) (by decide) (Or.inl (by decide)) (Or.inl (by decide)) (Or.inl (by decide))).trans (rfl))))) (((at60.2.2.2.2.2.2.2.1 218 (-1) (by decide) (by decide) (by decide) (by decide) (by decide) (Or.inl (by decide)) (Or.inl (by decide)) (Or.inl (by decide))).trans (((hb54.2.2.2.2.1 218 (-1) (by decide) (by decide) (by decide) (Or.inl (by decide)) (Or.inl (by decide)) (Or.inl (by decide))).trans (bl1))))) ⟨by omega, by omega⟩ ⟨by omega, by omega, by omega⟩ ⟨by omega, by omega⟩ ⟨by omega, by omega⟩) (fun oq62 Sq62 hp63 q62 => ?_)
                    rcases q62 with ⟨rfl, A62, ra62, rfl⟩
                    show wJ _ _ _ _ _ _ _ _ _ _
                    refine wa_return rfl ?_
                    exact ⟨rfl, Or.inr (Or.inr ⟨by omega, by omega, by omega, Sq54, Sq60, hb54, at60, A62, ra62, rfl⟩)⟩
                · skip
                  exact absurd c53 (by omega)
theorem xb1n_215 {c p h cs n u0 vy : Int} (hP : xP 215 c p h S) (hx1 : pe_at (pe_GA xs).xs 1 = some (1, tx_1)) (h2 : S 140 2 = cs) (hcs : 0 ≤ cs ∧ cs ≤ S 141 (-1)) (hl : S 142 (-1) = S 141 (-1)) (hz : 16 ≤ S 141 (-1) ∧ S 141 (-1) ≤ 480400) (hth : ∀ x : Nat, x < 10 → S (127 + x) (-1) = S 127 (-1)) (hn : S 72 3 = n) (hn1 : 0 ≤ n ∧ n ≤ S 127 (-1)) (hn2 : 64 ≤ S 127 (-1) ∧ S 127 (-1) ≤ 16383) (hu0 : S 150 0 = u0) (hu1 : 0 ≤ u0 ∧ u0 ≤ 8000) (hky : S 217 (h - 1) = 0) (hvy : S 218 (h - 1) = vy) (hh1 : 1 ≤ h) : wJ (pe_GA xs) wY0 (mS [217, 218, 127, 128, 129, 130, 131, 132, 133, 134, 135, 136, 141, 142]) (d + 11) t_XK_callBuiltin ((pe_at t_XK_callBuiltin.bl 0).getD (0, [])).2 [(0, (2, 215)), (1, (0, 1))] [] S (fun o Z => o = .inl none ∧ ((8000 ≤ u0 ∧ w_up S 215 16 99 = Z) ∨ (u0 < 8000 ∧ ∃ B : wS, at_ag 4 0 (-1) 0 S B ∧ sO 215 h c p 1 4 n B Z))) := by
  obtain ⟨⟨hC, hI⟩, ⟨bc, bc0, bc1⟩, ⟨bp, bp0, bp1⟩, ⟨bh, bh0, bh1, bh2⟩, bl1, bl2, bl3⟩ := id hP
  replace bp : S 220 (c - 1) = p := bp
  replace bh : S 216 2 = h := bh
  replace bh2 : h ≤ S 217 (-1) := bh2
  replace bl1 : S 218 (-1) = S 217 (-1) := bl1
  replace bl2 : 64 ≤ S 217 (-1) := bl2
  replace bl3 : S 217 (-1) ≤ 4095 := bl3
  refine wa_aload_n (n := 0) rfl ?_
  refine wb_gf4 215 rfl (wy_pr rfl) wt_215 wf_8_3 (v := 216) wl_215_3 ?_
  refine wb_gfi 216 rfl (wy_pr rfl) wt_216 wf_7_2 (v := h) (bh) (fun r1 => ?_)
  refine wa_iconst ?_
  refine wa_isub ?_
  refine wa_istore_n (n := 2) rfl ?_
  refine wa_aload_n (n := 0) rfl ?_
  refine wb_gf4 215 rfl (wy_pr rfl) wt_215 wf_8_3 (v := 216) wl_215_3 ?_
  refine wb_gf4 216 rfl (wy_pr rfl) wt_216 wf_7_0 (v := 217) wl_216_0 ?_
  refine wa_iload_n (n := 2) rfl ?_
  refine wb_bald 217 rfl (wy_pr rfl) wt_217 (n := (S 217 (-1))) (rfl) (by omega) (by omega) (v := 0) (hky) (fun r2 => ?_)
  refine wa_istore_n (n := 3) rfl ?_
  refine wa_aload_n (n := 0) rfl ?_
  refine wb_gf4 215 rfl (wy_pr rfl) wt_215 wf_8_3 (v := 216) wl_215_3 ?_
  refine wb_gf4 216 rfl (wy_pr rfl) wt_216 wf_7_1 (v := 218) wl_216_1 ?_
  refine wa_iload_n (n := 2) rfl ?_
  refine wb_lald 218 rfl (wy_pr rfl) wt_218 (n := (S 217 (-1))) (bl1) (by omega) (by omega) (v := vy) (hvy) (fun r3 => ?_)
  refine wa_lstore (n := 4) rfl ?_
  refine wa_iload_n (n := 1) rfl ?_
  refine wb_sw (w_rg0 (by omega) (by omega)) (tb := 2) rfl ⟨_, rfl⟩ ?_
  refine wa_aload_n (n := 0) rfl ?_
  refine wa_iload_n (n := 2) rfl ?_
  refine wa_cv 215 rfl (wy_pr rfl) wt_215 (M2 := mS [217, 218, 127, 128, 129, 130, 131, 132, 133, 134, 135, 136, 141, 142]) rfl at_XK_isPrototype ⟨_, rfl⟩ rfl rfl ⟨trivial, trivial, trivial, (Or.inr ⟨wy_pr rfl, mS_no rfl⟩), trivial, trivial⟩ trivial (fun _ _ q => q) ?_ (fun _ _ _ q => q)
  refine wa_aload_n (n := 0) rfl ?_
  refine wb_gf4 215 rfl (wy_pr rfl) wt_215 wf_8_3 (v := 216) wl_215_3 ?_
  refine wb_gf4 216 rfl (wy_pr rfl) wt_216 wf_7_0 (v := 217) wl_216_0 ?_
  refine wa_iload_n (n := 1) rfl ?_
  refine wb_bald 217 rfl (wy_pr rfl) wt_217 (n := (S 217 (-1))) (rfl) (by omega) (by omega) (v := 0) (hky) (fun r4 => ?_)
  refine wa_ifeq (w_rg0 (by omega) (by omega)) ⟨_, rfl⟩ (fun c5 => ?_) (fun c5 => ?_)
  · skip
    refine wa_iconst ?_
    refine wa_goto ⟨_, rfl⟩ ?_
    refine wa_zreturn rfl (Or.inr rfl) ?_
    show wJ _ _ _ _ _ _ _ _ _ _
    refine wa_ifeq (w_rg0 (by omega) (by omega)) ⟨_, rfl⟩ (fun c6 => ?_) (fun c6 => ?_)
    · skip
      exact absurd c6 (by omega)
    · skip
      refine wa_aload_n (n := 0) rfl ?_
      refine wa_iconst ?_
      refine wa_iload_n (n := 3) rfl ?_
      refine wa_ifne (w_rg0 (by omega) (by omega)) ⟨_, rfl⟩ (fun c7 => ?_) (fun c7 => ?_)
      · skip
        exact absurd c7 (by omega)
      · skip
        refine wa_iconst ?_
        refine wa_goto ⟨_, rfl⟩ ?_
        refine wa_cv 215 rfl (wy_pr rfl) wt_215 (M2 := mS [217, 218, 127, 128, 129, 130, 131, 132, 133, 134, 135, 136, 141, 142]) rfl at_XK_makeObject ⟨_, rfl⟩ rfl rfl ⟨trivial, trivial, trivial, (Or.inr ⟨wy_pr rfl, mS_no rfl⟩), trivial, trivial⟩ trivial (fun _ _ q => q) (mO0_215 hP hx1 h2 hcs hl hz hth hn hn1 hn2 hu0 hu1 ⟨by omega, by omega, by omega⟩) (fun oq8 Sq8 hp9 q8 => ?_)
        rcases q8 with ⟨rfl, hzz⟩
        show wJ _ _ _ _ _ _ _ _ _ _
        refine wa_goto ⟨_, rfl⟩ ?_
        refine wa_return rfl ?_
        exact ⟨rfl, hzz⟩
  · skip
    exact absurd c5 (by omega)
theorem xb1o_215 {c p h cs n u0 ky q r : Int} (hP : xP 215 c p h S) (hx1 : pe_at (pe_GA xs).xs 1 = some (1, tx_1)) (h2 : S 140 2 = cs) (hcs : 0 ≤ cs ∧ cs ≤ S 141 (-1)) (hl : S 142 (-1) = S 141 (-1)) (hz : 16 ≤ S 141 (-1) ∧ S 141 (-1) ≤ 480400) (hth : ∀ x : Nat, x < 10 → S (127 + x) (-1) = S 127 (-1)) (hn : S 72 3 = n) (hn1 : 0 ≤ n ∧ n ≤ S 127 (-1)) (hn2 : 64 ≤ S 127 (-1) ∧ S 127 (-1) ≤ 16383) (hu0 : S 150 0 = u0) (hu1 : 0 ≤ u0 ∧ u0 ≤ 8000) (hky : S 217 (h - 1) = ky) (hvy : S 218 (h - 1) = q) (hh1 : 1 ≤ h) (hk45 : ky = 4 ∨ ky = 5) (hsw : cSw S T H) (hlt : cLt S T) (hw : wSh T H) (hq : isO T q) (hr : r = aFs (-1) q (-1) H 0) (hu4 : 0 ≤ S 150 4 ∧ S 150 4 ≤ 4000) : wJ (pe_GA xs) wY0 (mS [217, 218, 127, 128, 129, 130, 131, 132, 133, 134, 135, 136, 141, 142, 144, 145, 146, 147, 148]) (d + 11) t_XK_callBuiltin ((pe_at t_XK_callBuiltin.bl 0).getD (0, [])).2 [(0, (2, 215)), (1, (0, 1))] [] S (fun o Z => o = .inl none ∧ (((8000 ≤ u0 ∨ (r = -1 ∧ 4000 ≤ S 150 4)) ∧ w_up S 215 16 99 = Z) ∨ (u0 < 8000 ∧ 0 ≤ r ∧ ∃ B : wS, at_ag 4 r (-1) 0 S B ∧ sO 215 h c p 1 4 n B Z) ∨ (u0 < 8000 ∧ r = -1 ∧ S 150 4 < 4000 ∧ ∃ A B : wS, bs_ag (H.length : Int) q S A ∧ at_ag 4 (H.length : Int) (-1) 0 A B ∧ sO 215 h c p 1 4 n B Z))) := by
  obtain ⟨⟨hC, hI⟩, ⟨bc, bc0, bc1⟩, ⟨bp, bp0, bp1⟩, ⟨bh, bh0, bh1, bh2⟩, bl1, bl2, bl3⟩ := id hP
  replace bp : S 220 (c - 1) = p := bp
  replace bh : S 216 2 = h := bh
  replace bh2 : h ≤ S 217 (-1) := bh2
  replace bl1 : S 218 (-1) = S 217 (-1) := bl1
  replace bl2 : 64 ≤ S 217 (-1) := bl2
  replace bl3 : S 217 (-1) ≤ 4095 := bl3
  obtain ⟨⟨hp0, hp1⟩, -⟩ := id hq
  have ht2 := hlt.2.1
  refine wa_aload_n (n := 0) rfl ?_
  refine wb_gf4 215 rfl (wy_pr rfl) wt_215 wf_8_3 (v := 216) wl_215_3 ?_
  refine wb_gfi 216 rfl (wy_pr rfl) wt_216 wf_7_2 (v := h) (bh) (fun r1 => ?_)
  refine wa_iconst ?_
  refine wa_isub ?_
  refine wa_istore_n (n := 2) rfl ?_
  refine wa_aload_n (n := 0) rfl ?_
  refine wb_gf4 215 rfl (wy_pr rfl) wt_215 wf_8_3 (v := 216) wl_215_3 ?_
  refine wb_gf4 216 rfl (wy_pr rfl) wt_216 wf_7_0 (v := 217) wl_216_0 ?_
  refine wa_iload_n (n := 2) rfl ?_
  refine wb_bald 217 rfl (wy_pr rfl) wt_217 (n := (S 217 (-1))) (rfl) (by omega) (by omega) (v := ky) (hky) (fun r2 => ?_)
  refine wa_istore_n (n := 3) rfl ?_
  refine wa_aload_n (n := 0) rfl ?_
  refine wb_gf4 215 rfl (wy_pr rfl) wt_215 wf_8_3 (v := 216) wl_215_3 ?_
  refine wb_gf4 216 rfl (wy_pr rfl) wt_216 wf_7_1 (v := 218) wl_216_1 ?_
  refine wa_iload_n (n := 2) rfl ?_
  refine wb_lald 218 rfl (wy_pr rfl) wt_218 (n := (S 217 (-1))) (bl1) (by omega) (by omega) (v := q) (hvy) (fun r3 => ?_)
  refine wa_lstore (n := 4) rfl ?_
  refine wa_iload_n (n := 1) rfl ?_
  refine wb_sw (w_rg0 (by omega) (by omega)) (tb := 2) rfl ⟨_, rfl⟩ ?_
  refine wa_aload_n (n := 0) rfl ?_
  refine wa_iload_n (n := 2) rfl ?_
  refine wa_cv 215 rfl (wy_pr rfl) wt_215 (M2 := mS [217, 218, 127, 128, 129, 130, 131, 132, 133, 134, 135, 136, 141, 142, 144, 145, 146, 147, 148]) rfl at_XK_isPrototype ⟨_, rfl⟩ rfl rfl ⟨trivial, trivial, trivial, (Or.inr ⟨wy_pr rfl, mS_no rfl⟩), trivial, trivial⟩ trivial (fun _ _ q => q) ?_ (fun _ _ _ q => q)
  refine wa_aload_n (n := 0) rfl ?_
  refine wb_gf4 215 rfl (wy_pr rfl) wt_215 wf_8_3 (v := 216) wl_215_3 ?_
  refine wb_gf4 216 rfl (wy_pr rfl) wt_216 wf_7_0 (v := 217) wl_216_0 ?_
  refine wa_iload_n (n := 1) rfl ?_
  refine wb_bald 217 rfl (wy_pr rfl) wt_217 (n := (S 217 (-1))) (rfl) (by omega) (by omega) (v := ky) (hky) (fun r4 => ?_)
  refine wa_ifeq (w_rg0 (by omega) (by omega)) ⟨_, rfl⟩ (fun c5 => ?_) (fun c5 => ?_)
  · skip
    exact absurd c5 (by omega)
  · skip
    refine wa_aload_n (n := 0) rfl ?_
    refine wa_iload_n (n := 1) rfl ?_
    refine wa_cv 215 rfl (wy_pr rfl) wt_215 (M2 := mS [217, 218, 127, 128, 129, 130, 131, 132, 133, 134, 135, 136, 141, 142, 144, 145, 146, 147, 148]) rfl at_XK_isHolder ⟨_, rfl⟩ rfl rfl ⟨(Or.inr ⟨wy_pr rfl, mS_no rfl⟩), trivial, trivial⟩ trivial (fun _ _ q => q) ?_ (fun _ _ _ q => q)
    refine wa_aload_n (n := 0) rfl ?_
    refine wb_gf4 215 rfl (wy_pr rfl) wt_215 wf_8_3 (v := 216) wl_215_3 ?_
    refine wb_gf4 216 rfl (wy_pr rfl) wt_216 wf_7_0 (v := 217) wl_216_0 ?_
    refine wa_iload_n (n := 1) rfl ?_
    refine wb_bald 217 rfl (wy_pr rfl) wt_217 (n := (S 217 (-1))) (rfl) (by omega) (by omega) (v := ky) (hky) (fun r6 => ?_)
    refine wa_iconst ?_
    refine wa_icmpeq (w_rg0 (by omega) (by omega)) (w_rg0 (by omega) (by omega)) ⟨_, rfl⟩ (fun c7 => ?_) (fun c7 => ?_)
    · skip
      refine wa_iconst ?_
      refine wa_goto ⟨_, rfl⟩ ?_
      refine wa_zreturn rfl (Or.inr rfl) ?_
      show wJ _ _ _ _ _ _ _ _ _ _
      refine wa_ifeq (w_rg0 (by omega) (by omega)) ⟨_, rfl⟩ (fun c8 => ?_) (fun c8 => ?_)
      · skip
        exact absurd c8 (by omega)
      · skip
        refine wa_fall ⟨_, rfl⟩ ?_
        refine wa_iconst ?_
        refine wa_goto ⟨_, rfl⟩ ?_
        refine wa_zreturn rfl (Or.inr rfl) ?_
        show wJ _ _ _ _ _ _ _ _ _ _
        refine wa_ifeq (w_rg0 (by omega) (by omega)) ⟨_, rfl⟩ (fun c9 => ?_) (fun c9 => ?_)
        · skip
          exact absurd c9 (by omega)
        · skip
          refine wa_aload_n (n := 0) rfl ?_
          refine wa_iconst ?_
          refine wa_iload_n (n := 3) rfl ?_
          refine wa_ifne (w_rg0 (by omega) (by omega)) ⟨_, rfl⟩ (fun c10 => ?_) (fun c10 => ?_)
          · skip
            refine wa_lload (n := 4) rfl ?_
            refine wb_l2i_r (wb_l2i_id ⟨(by omega), (by omega)⟩) ?_
            refine wa_fall ⟨_, rfl⟩ ?_
            refine wa_cv 215 rfl (wy_pr rfl) wt_215 (M2 := mS [217, 218, 127, 128, 129, 130, 131, 132, 133, 134, 135, 136, 141, 142, 144, 145, 146, 147, 148]) rfl at_XK_makeObject ⟨_, rfl⟩ rfl rfl ⟨trivial, trivial, trivial, (Or.inr ⟨wy_pr rfl, mS_no rfl⟩), trivial, trivial⟩ trivial (fun _ _ q => q) (mO1_215 hP hx1 h2 hcs hl hz hth hn hn1 hn2 hu0 hu1 hsw hlt hw hq hr hu4 ⟨by omega, by omega, by omega⟩) (fun oq11 Sq11 hp12 q11 => ?_)
            rcases q11 with ⟨rfl, hzz⟩
            show wJ _ _ _ _ _ _ _ _ _ _
            refine wa_goto ⟨_, rfl⟩ ?_
            refine wa_return rfl ?_
            exact ⟨rfl, hzz⟩
          · skip
            exact absurd c10 (by omega)
    · skip
      refine wa_aload_n (n := 0) rfl ?_
      refine wb_gf4 215 rfl (wy_pr rfl) wt_215 wf_8_3 (v := 216) wl_215_3 ?_
      refine wb_gf4 216 rfl (wy_pr rfl) wt_216 wf_7_0 (v := 217) wl_216_0 ?_
      refine wa_iload_n (n := 1) rfl ?_
      refine wb_bald 217 rfl (wy_pr rfl) wt_217 (n := (S 217 (-1))) (rfl) (by omega) (by omega) (v := ky) (hky) (fun r13 => ?_)
      refine wa_iconst ?_
      refine wa_icmpne (w_rg0 (by omega) (by omega)) (w_rg0 (by omega) (by omega)) ⟨_, rfl⟩ (fun c14 => ?_) (fun c14 => ?_)
      · skip
        exact absurd c14 (by omega)
      · skip
        refine wa_fall ⟨_, rfl⟩ ?_
        refine wa_iconst ?_
        refine wa_goto ⟨_, rfl⟩ ?_
        refine wa_zreturn rfl (Or.inr rfl) ?_
        show wJ _ _ _ _ _ _ _ _ _ _
        refine wa_ifeq (w_rg0 (by omega) (by omega)) ⟨_, rfl⟩ (fun c15 => ?_) (fun c15 => ?_)
        · skip
          exact absurd c15 (by omega)
        · skip
          refine wa_fall ⟨_, rfl⟩ ?_
          refine wa_iconst ?_
          refine wa_goto ⟨_, rfl⟩ ?_
          refine wa_zreturn rfl (Or.inr rfl) ?_
          show wJ _ _ _ _ _ _ _ _ _ _
          refine wa_ifeq (w_rg0 (by omega) (by omega)) ⟨_, rfl⟩ (fun c16 => ?_) (fun c16 => ?_)
          · skip
            exact absurd c16 (by omega)
          · skip
            refine wa_aload_n (n := 0) rfl ?_
            refine wa_iconst ?_
            refine wa_iload_n (n := 3) rfl ?_
            refine wa_ifne (w_rg0 (by omega) (by omega)) ⟨_, rfl⟩ (fun c17 => ?_) (fun c17 => ?_)
            · skip
              refine wa_lload (n := 4) rfl ?_
              refine wb_l2i_r (wb_l2i_id ⟨(by omega), (by omega)⟩) ?_
              refine wa_fall ⟨_, rfl⟩ ?_
              refine wa_cv 215 rfl (wy_pr rfl) wt_215 (M2 := mS [217, 218, 127, 128, 129, 130, 131, 132, 133, 134, 135, 136, 141, 142, 144, 145, 146, 147, 148]) rfl at_XK_makeObject ⟨_, rfl⟩ rfl rfl ⟨trivial, trivial, trivial, (Or.inr ⟨wy_pr rfl, mS_no rfl⟩), trivial, trivial⟩ trivial (fun _ _ q => q) (mO1_215 hP hx1 h2 hcs hl hz hth hn hn1 hn2 hu0 hu1 hsw hlt hw hq hr hu4 ⟨by omega, by omega, by omega⟩) (fun oq18 Sq18 hp19 q18 => ?_)
              rcases q18 with ⟨rfl, hzz⟩
              show wJ _ _ _ _ _ _ _ _ _ _
              refine wa_goto ⟨_, rfl⟩ ?_
              refine wa_return rfl ?_
              exact ⟨rfl, hzz⟩
            · skip
              exact absurd c17 (by omega)
theorem xb1e_215 {c p h ky vy : Int} (hP : xP 215 c p h S) (hky : S 217 (h - 1) = ky) (hvy : S 218 (h - 1) = vy) (hh1 : 1 ≤ h) (hke : ky ≠ 0 ∧ ky ≠ 4 ∧ ky ≠ 5) : wJ (pe_GA xs) wY0 (mS [217, 218]) (d + 11) t_XK_callBuiltin ((pe_at t_XK_callBuiltin.bl 0).getD (0, [])).2 [(0, (2, 215)), (1, (0, 1))] [] S (fun o Z => o = .inl none ∧ w_up S 215 16 12 = Z) := by
  obtain ⟨⟨hC, hI⟩, ⟨bc, bc0, bc1⟩, ⟨bp, bp0, bp1⟩, ⟨bh, bh0, bh1, bh2⟩, bl1, bl2, bl3⟩ := id hP
  replace bp : S 220 (c - 1) = p := bp
  replace bh : S 216 2 = h := bh
  replace bh2 : h ≤ S 217 (-1) := bh2
  replace bl1 : S 218 (-1) = S 217 (-1) := bl1
  replace bl2 : 64 ≤ S 217 (-1) := bl2
  replace bl3 : S 217 (-1) ≤ 4095 := bl3
  refine wa_aload_n (n := 0) rfl ?_
  refine wb_gf4 215 rfl (wy_pr rfl) wt_215 wf_8_3 (v := 216) wl_215_3 ?_
  refine wb_gfi 216 rfl (wy_pr rfl) wt_216 wf_7_2 (v := h) (bh) (fun r1 => ?_)
  refine wa_iconst ?_
  refine wa_isub ?_
  refine wa_istore_n (n := 2) rfl ?_
  refine wa_aload_n (n := 0) rfl ?_
  refine wb_gf4 215 rfl (wy_pr rfl) wt_215 wf_8_3 (v := 216) wl_215_3 ?_
  refine wb_gf4 216 rfl (wy_pr rfl) wt_216 wf_7_0 (v := 217) wl_216_0 ?_
  refine wa_iload_n (n := 2) rfl ?_
  refine wb_bald 217 rfl (wy_pr rfl) wt_217 (n := (S 217 (-1))) (rfl) (by omega) (by omega) (v := ky) (hky) (fun r2 => ?_)
  refine wa_istore_n (n := 3) rfl ?_
  refine wa_aload_n (n := 0) rfl ?_
  refine wb_gf4 215 rfl (wy_pr rfl) wt_215 wf_8_3 (v := 216) wl_215_3 ?_
  refine wb_gf4 216 rfl (wy_pr rfl) wt_216 wf_7_1 (v := 218) wl_216_1 ?_
  refine wa_iload_n (n := 2) rfl ?_
  refine wb_lald 218 rfl (wy_pr rfl) wt_218 (n := (S 217 (-1))) (bl1) (by omega) (by omega) (v := vy) (hvy) (fun r3 => ?_)
  refine wa_lstore (n := 4) rfl ?_
  refine wa_iload_n (n := 1) rfl ?_
  refine wb_sw (w_rg0 (by omega) (by omega)) (tb := 2) rfl ⟨_, rfl⟩ ?_
  refine wa_aload_n (n := 0) rfl ?_
  refine wa_iload_n (n := 2) rfl ?_
  refine wa_cv 215 rfl (wy_pr rfl) wt_215 (M2 := mS [217, 218]) rfl at_XK_isPrototype ⟨_, rfl⟩ rfl rfl ⟨trivial, trivial, trivial, (Or.inr ⟨wy_pr rfl, mS_no rfl⟩), trivial, trivial⟩ trivial (fun _ _ q => q) ?_ (fun _ _ _ q => q)
  refine wa_aload_n (n := 0) rfl ?_
  refine wb_gf4 215 rfl (wy_pr rfl) wt_215 wf_8_3 (v := 216) wl_215_3 ?_
  refine wb_gf4 216 rfl (wy_pr rfl) wt_216 wf_7_0 (v := 217) wl_216_0 ?_
  refine wa_iload_n (n := 1) rfl ?_
  refine wb_bald 217 rfl (wy_pr rfl) wt_217 (n := (S 217 (-1))) (rfl) (by omega) (by omega) (v := ky) (hky) (fun r4 => ?_)
  refine wa_ifeq (w_rg0 (by omega) (by omega)) ⟨_, rfl⟩ (fun c5 => ?_) (fun c5 => ?_)
  · skip
    exact absurd c5 (by omega)
  · skip
    refine wa_aload_n (n := 0) rfl ?_
    refine wa_iload_n (n := 1) rfl ?_
    refine wa_cv 215 rfl (wy_pr rfl) wt_215 (M2 := mS [217, 218]) rfl at_XK_isHolder ⟨_, rfl⟩ rfl rfl ⟨(Or.inr ⟨wy_pr rfl, mS_no rfl⟩), trivial, trivial⟩ trivial (fun _ _ q => q) ?_ (fun _ _ _ q => q)
    refine wa_aload_n (n := 0) rfl ?_
    refine wb_gf4 215 rfl (wy_pr rfl) wt_215 wf_8_3 (v := 216) wl_215_3 ?_
    refine wb_gf4 216 rfl (wy_pr rfl) wt_216 wf_7_0 (v := 217) wl_216_0 ?_
    refine wa_iload_n (n := 1) rfl ?_
    refine wb_bald 217 rfl (wy_pr rfl) wt_217 (n := (S 217 (-1))) (rfl) (by omega) (by omega) (v := ky) (hky) (fun r6 => ?_)
    refine wa_iconst ?_
    refine wa_icmpeq (w_rg0 (by omega) (by omega)) (w_rg0 (by omega) (by omega)) ⟨_, rfl⟩ (fun c7 => ?_) (fun c7 => ?_)
    · skip
      exact absurd c7 (by omega)
    · skip
      refine wa_aload_n (n := 0) rfl ?_
      refine wb_gf4 215 rfl (wy_pr rfl) wt_215 wf_8_3 (v := 216) wl_215_3 ?_
      refine wb_gf4 216 rfl (wy_pr rfl) wt_216 wf_7_0 (v := 217) wl_216_0 ?_
      refine wa_iload_n (n := 1) rfl ?_
      refine wb_bald 217 rfl (wy_pr rfl) wt_217 (n := (S 217 (-1))) (rfl) (by omega) (by omega) (v := ky) (hky) (fun r8 => ?_)
      refine wa_iconst ?_
      refine wa_icmpne (w_rg0 (by omega) (by omega)) (w_rg0 (by omega) (by omega)) ⟨_, rfl⟩ (fun c9 => ?_) (fun c9 => ?_)
      · skip
        refine wa_iconst ?_
        refine wa_fall ⟨_, rfl⟩ ?_
        refine wa_zreturn rfl (Or.inl rfl) ?_
        show wJ _ _ _ _ _ _ _ _ _ _
        refine wa_ifeq (w_rg0 (by omega) (by omega)) ⟨_, rfl⟩ (fun c10 => ?_) (fun c10 => ?_)
        · skip
          refine wa_iconst ?_
          refine wa_fall ⟨_, rfl⟩ ?_
          refine wa_zreturn rfl (Or.inl rfl) ?_
          show wJ _ _ _ _ _ _ _ _ _ _
          refine wa_ifeq (w_rg0 (by omega) (by omega)) ⟨_, rfl⟩ (fun c11 => ?_) (fun c11 => ?_)
          · skip
            refine wa_aload_n (n := 0) rfl ?_
            refine wa_bipush (w_rg2 (by omega) (by omega)) ?_
            refine wb_pfi 215 rfl (wy_pr rfl) wt_215 wf_8_16 (n := 16) rfl ⟨(by omega), (by omega)⟩ ?_
            refine wa_goto ⟨_, rfl⟩ ?_
            refine wa_return rfl ?_
            exact ⟨rfl, rfl⟩
          · skip
            exact absurd c11 (by omega)
        · skip
          exact absurd c10 (by omega)
      · skip
        exact absurd c9 (by omega)
theorem xb2n_215 {c p h ky q s1 pr : Int} (hP : xP 215 c p h S) (hky : S 217 (h - 1) = ky) (hvy : S 218 (h - 1) = q) (hh1 : 1 ≤ h) (hk45 : ky = 4 ∨ ky = 5) (h28 : S 128 q = s1) (hq1 : 0 ≤ q ∧ q < S 127 (-1)) (h44 : S 144 s1 = pr) (hs1 : 0 ≤ s1 ∧ s1 < S 144 (-1)) (hls : ∀ x : Nat, x < 5 → S (144 + x) (-1) = S 144 (-1)) (hls2 : S 144 (-1) ≤ 1000000) (hth : ∀ x : Nat, x < 10 → S (127 + x) (-1) = S 127 (-1)) (hn2 : S 127 (-1) ≤ 16383) (hpr : pr = -1) : wJ (pe_GA xs) wY0 (mS [217, 218]) (d + 11) t_XK_callBuiltin ((pe_at t_XK_callBuiltin.bl 0).getD (0, [])).2 [(0, (2, 215)), (1, (0, 2))] [] S (fun o Z => o = .inl none ∧ sO 215 h c p 1 0 0 S Z) := by
  obtain ⟨⟨hC, hI⟩, ⟨bc, bc0, bc1⟩, ⟨bp, bp0, bp1⟩, ⟨bh, bh0, bh1, bh2⟩, bl1, bl2, bl3⟩ := id hP
  replace bp : S 220 (c - 1) = p := bp
  replace bh : S 216 2 = h := bh
  replace bh2 : h ≤ S 217 (-1) := bh2
  replace bl1 : S 218 (-1) = S 217 (-1) := bl1
  replace bl2 : 64 ≤ S 217 (-1) := bl2
  replace bl3 : S 217 (-1) ≤ 4095 := bl3
  refine wa_aload_n (n := 0) rfl ?_
  refine wb_gf4 215 rfl (wy_pr rfl) wt_215 wf_8_3 (v := 216) wl_215_3 ?_
  refine wb_gfi 216 rfl (wy_pr rfl) wt_216 wf_7_2 (v := h) (bh) (fun r1 => ?_)
  refine wa_iconst ?_
  refine wa_isub ?_
  refine wa_istore_n (n := 2) rfl ?_
  refine wa_aload_n (n := 0) rfl ?_
  refine wb_gf4 215 rfl (wy_pr rfl) wt_215 wf_8_3 (v := 216) wl_215_3 ?_
  refine wb_gf4 216 rfl (wy_pr rfl) wt_216 wf_7_0 (v := 217) wl_216_0 ?_
  refine wa_iload_n (n := 2) rfl ?_
  refine wb_bald 217 rfl (wy_pr rfl) wt_217 (n := (S 217 (-1))) (rfl) (by omega) (by omega) (v := ky) (hky) (fun r2 => ?_)
  refine wa_istore_n (n := 3) rfl ?_
  refine wa_aload_n (n := 0) rfl ?_
  refine wb_gf4 215 rfl (wy_pr rfl) wt_215 wf_8_3 (v := 216) wl_215_3 ?_
  refine wb_gf4 216 rfl (wy_pr rfl) wt_216 wf_7_1 (v := 218) wl_216_1 ?_
  refine wa_iload_n (n := 2) rfl ?_
  refine wb_lald 218 rfl (wy_pr rfl) wt_218 (n := (S 217 (-1))) (bl1) (by omega) (by omega) (v := q) (hvy) (fun r3 => ?_)
  refine wa_lstore (n := 4) rfl ?_
  refine wa_iload_n (n := 1) rfl ?_
  refine wb_sw (w_rg0 (by omega) (by omega)) (tb := 6) rfl ⟨_, rfl⟩ ?_
  refine wa_aload_n (n := 0) rfl ?_
  refine wa_iload_n (n := 2) rfl ?_
  refine wa_cv 215 rfl (wy_pr rfl) wt_215 (M2 := mS [217, 218]) rfl at_XK_isHolder ⟨_, rfl⟩ rfl rfl ⟨trivial, trivial, trivial, (Or.inr ⟨wy_pr rfl, mS_no rfl⟩), trivial, trivial⟩ trivial (fun _ _ q => q) ?_ (fun _ _ _ q => q)
  refine wa_aload_n (n := 0) rfl ?_
  refine wb_gf4 215 rfl (wy_pr rfl) wt_215 wf_8_3 (v := 216) wl_215_3 ?_
  refine wb_gf4 216 rfl (wy_pr rfl) wt_216 wf_7_0 (v := 217) wl_216_0 ?_
  refine wa_iload_n (n := 1) rfl ?_
  refine wb_bald 217 rfl (wy_pr rfl) wt_217 (n := (S 217 (-1))) (rfl) (by omega) (by omega) (v := ky) (hky) (fun r4 => ?_)
  refine wa_iconst ?_
  refine wa_icmpeq (w_rg0 (by omega) (by omega)) (w_rg0 (by omega) (by omega)) ⟨_, rfl⟩ (fun c5 => ?_) (fun c5 => ?_)
  · skip
    refine wa_iconst ?_
    refine wa_goto ⟨_, rfl⟩ ?_
    refine wa_zreturn rfl (Or.inr rfl) ?_
    show wJ _ _ _ _ _ _ _ _ _ _
    refine wa_ifeq (w_rg0 (by omega) (by omega)) ⟨_, rfl⟩ (fun c6 => ?_) (fun c6 => ?_)
    · skip
      exact absurd c6 (by omega)
    · skip
      refine wa_aload_n (n := 0) rfl ?_
      refine wb_gf4 215 rfl (wy_pr rfl) wt_215 wf_8_0 (v := 72) wl_215_0 ?_
      refine wa_lload (n := 4) rfl ?_
      refine wb_l2i_r (wb_l2i_id ⟨(by omega), (by omega)⟩) ?_
      refine wa_cv 72 rfl (wy_pr rfl) wt_72 (M2 := mS [217, 218]) rfl at_XH_protoOf ⟨_, rfl⟩ rfl rfl ⟨trivial, trivial, trivial, (Or.inr ⟨wy_pr rfl, mS_no rfl⟩), trivial, trivial⟩ trivial (fun _ _ q => q) ?_ (fun _ _ _ q => q)
      refine wa_aload_n (n := 0) rfl ?_
      refine wb_gf4 72 rfl (wy_pr rfl) wt_72 wf_2_7 (v := 143) wl_72_7 ?_
      refine wa_iconst ?_
      refine wb_aald5 143 0 rfl rfl (wy_pr rfl) wt_143 (by rw [show _ = _ from ((cl_143 hC))]; omega) wl_143_0 ?_
      refine wa_aload_n (n := 0) rfl ?_
      refine wb_gf4 72 rfl (wy_pr rfl) wt_72 wf_2_2 (v := 126) wl_72_2 ?_
      refine wa_iconst ?_
      refine wb_aald5 126 1 rfl rfl (wy_pr rfl) wt_126 (by rw [show _ = _ from ((cl_126 hC))]; omega) wl_126_1 ?_
      refine wa_iload_n (n := 1) rfl ?_
      refine wb_iald 128 rfl (wy_pr rfl) wt_128 (n := (S 127 (-1))) ((hth 1 (by decide))) (by omega) (by omega) (v := s1) (h28) (fun r7 => ?_)
      refine wb_iald 144 rfl (wy_pr rfl) wt_144 (n := (S 144 (-1))) (rfl) (by omega) (by omega) (v := pr) (h44) (fun r8 => ?_)
      refine wa_ireturn rfl ?_
      show wJ _ _ _ _ _ _ _ _ _ _
      refine wa_istore (n := 6) rfl ?_
      refine wa_iload (n := 6) rfl ?_
      refine wa_iconst ?_
      refine wa_icmpne (w_rg0 (by omega) (by omega)) (w_rg0 (by omega) (by omega)) ⟨_, rfl⟩ (fun c9 => ?_) (fun c9 => ?_)
      · skip
        exfalso; omega
      · skip
        refine wa_iconst ?_
        refine wa_goto ⟨_, rfl⟩ ?_
        refine wa_istore (n := 7) rfl ?_
        refine wa_aload_n (n := 0) rfl ?_
        refine wa_iconst ?_
        refine wa_iload (n := 7) rfl ?_
        refine wa_iload (n := 6) rfl ?_
        refine wa_iconst ?_
        refine wa_cs (M2 := mS [217, 218]) rfl at_JM_max ⟨_, rfl⟩ rfl rfl ⟨trivial, trivial, trivial, trivial, trivial, (Or.inr ⟨wy_pr rfl, mS_no rfl⟩), trivial, trivial⟩ ⟨trivial, trivial, (Or.inr ⟨wy_pr rfl, mS_no rfl⟩), trivial⟩ (fun _ _ q => q) ?_ (fun _ _ _ q => q)
        refine wa_iload_n (n := 0) rfl ?_
        refine wa_iload_n (n := 1) rfl ?_
        refine wa_icmplt (w_rg0 (by omega) (by omega)) (w_rg0 (by omega) (by omega)) ⟨_, rfl⟩ (fun c10 => ?_) (fun c10 => ?_)
        · skip
          refine wa_iload_n (n := 1) rfl ?_
          refine wa_fall ⟨_, rfl⟩ ?_
          refine wa_ireturn rfl ?_
          show wJ _ _ _ _ _ _ _ _ _ _
          refine wa_i2l (w_rg0 (by omega) (by omega)) ?_
          refine wa_cv 215 rfl (wy_pr rfl) wt_215 (M2 := mS [217, 218]) rfl at_XK_give ⟨_, rfl⟩ rfl rfl ⟨trivial, trivial, trivial, trivial, trivial, (Or.inr ⟨wy_pr rfl, mS_no rfl⟩), trivial, trivial⟩ trivial (fun _ _ q => q) (gw_215 (S := S) (n := 1) (k := 0) (v := 0) (h := h) (c := c) (p := p) (ln := (S 217 (-1))) hC hI ⟨by omega, by omega⟩ ⟨by omega, by omega⟩ (bh) (bc) (bp) (rfl) (bl1) ⟨by omega, by omega⟩ ⟨by omega, by omega, by omega⟩ ⟨by omega, by omega⟩ ⟨by omega, by omega⟩) (fun oq11 Sq11 hp12 q11 => ?_)
          rcases q11 with ⟨rfl, A11, ra11, rfl⟩
          show wJ _ _ _ _ _ _ _ _ _ _
          refine wa_goto ⟨_, rfl⟩ ?_
          refine wa_return rfl ?_
          exact ⟨rfl, A11, ra11, rfl⟩
        · skip
          exact absurd c10 (by omega)
  · skip
    refine wa_aload_n (n := 0) rfl ?_
    refine wb_gf4 215 rfl (wy_pr rfl) wt_215 wf_8_3 (v := 216) wl_215_3 ?_
    refine wb_gf4 216 rfl (wy_pr rfl) wt_216 wf_7_0 (v := 217) wl_216_0 ?_
    refine wa_iload_n (n := 1) rfl ?_
    refine wb_bald 217 rfl (wy_pr rfl) wt_217 (n := (S 217 (-1))) (rfl) (by omega) (by omega) (v := ky) (hky) (fun r13 => ?_)
    refine wa_iconst ?_
    refine wa_icmpne (w_rg0 (by omega) (by omega)) (w_rg0 (by omega) (by omega)) ⟨_, rfl⟩ (fun c14 => ?_) (fun c14 => ?_)
    · skip
      exact absurd c14 (by omega)
    · skip
      refine wa_fall ⟨_, rfl⟩ ?_
      refine wa_iconst ?_
      refine wa_goto ⟨_, rfl⟩ ?_
      refine wa_zreturn rfl (Or.inr rfl) ?_
      show wJ _ _ _ _ _ _ _ _ _ _
      refine wa_ifeq (w_rg0 (by omega) (by omega)) ⟨_, rfl⟩ (fun c15 => ?_) (fun c15 => ?_)
      · skip
        exact absurd c15 (by omega)
      · skip
        refine wa_aload_n (n := 0) rfl ?_
        refine wb_gf4 215 rfl (wy_pr rfl) wt_215 wf_8_0 (v := 72) wl_215_0 ?_
        refine wa_lload (n := 4) rfl ?_
        refine wb_l2i_r (wb_l2i_id ⟨(by omega), (by omega)⟩) ?_
        refine wa_cv 72 rfl (wy_pr rfl) wt_72 (M2 := mS [217, 218]) rfl at_XH_protoOf ⟨_, rfl⟩ rfl rfl ⟨trivial, trivial, trivial, (Or.inr ⟨wy_pr rfl, mS_no rfl⟩), trivial, trivial⟩ trivial (fun _ _ q => q) ?_ (fun _ _ _ q => q)
        refine wa_aload_n (n := 0) rfl ?_
        refine wb_gf4 72 rfl (wy_pr rfl) wt_72 wf_2_7 (v := 143) wl_72_7 ?_
        refine wa_iconst ?_
        refine wb_aald5 143 0 rfl rfl (wy_pr rfl) wt_143 (by rw [show _ = _ from ((cl_143 hC))]; omega) wl_143_0 ?_
        refine wa_aload_n (n := 0) rfl ?_
        refine wb_gf4 72 rfl (wy_pr rfl) wt_72 wf_2_2 (v := 126) wl_72_2 ?_
        refine wa_iconst ?_
        refine wb_aald5 126 1 rfl rfl (wy_pr rfl) wt_126 (by rw [show _ = _ from ((cl_126 hC))]; omega) wl_126_1 ?_
        refine wa_iload_n (n := 1) rfl ?_
        refine wb_iald 128 rfl (wy_pr rfl) wt_128 (n := (S 127 (-1))) ((hth 1 (by decide))) (by omega) (by omega) (v := s1) (h28) (fun r16 => ?_)
        refine wb_iald 144 rfl (wy_pr rfl) wt_144 (n := (S 144 (-1))) (rfl) (by omega) (by omega) (v := pr) (h44) (fun r17 => ?_)
        refine wa_ireturn rfl ?_
        show wJ _ _ _ _ _ _ _ _ _ _
        refine wa_istore (n := 6) rfl ?_
        refine wa_iload (n := 6) rfl ?_
        refine wa_iconst ?_
        refine wa_icmpne (w_rg0 (by omega) (by omega)) (w_rg0 (by omega) (by omega)) ⟨_, rfl⟩ (fun c18 => ?_) (fun c18 => ?_)
        · skip
          exfalso; omega
        · skip
          refine wa_iconst ?_
          refine wa_goto ⟨_, rfl⟩ ?_
          refine wa_istore (n := 7) rfl ?_
          refine wa_aload_n (n := 0) rfl ?_
          refine wa_iconst ?_
          refine wa_iload (n := 7) rfl ?_
          refine wa_iload (n := 6) rfl ?_
          refine wa_iconst ?_
          refine wa_cs (M2 := mS [217, 218]) rfl at_JM_max ⟨_, rfl⟩ rfl rfl ⟨trivial, trivial, trivial, trivial, trivial, (Or.inr ⟨wy_pr rfl, mS_no rfl⟩), trivial, trivial⟩ ⟨trivial, trivial, (Or.inr ⟨wy_pr rfl, mS_no rfl⟩), trivial⟩ (fun _ _ q => q) ?_ (fun _ _ _ q => q)
          refine wa_iload_n (n := 0) rfl ?_
          refine wa_iload_n (n := 1) rfl ?_
          refine wa_icmplt (w_rg0 (by omega) (by omega)) (w_rg0 (by omega) (by omega)) ⟨_, rfl⟩ (fun c19 => ?_) (fun c19 => ?_)
          · skip
            refine wa_iload_n (n := 1) rfl ?_
            refine wa_fall ⟨_, rfl⟩ ?_
            refine wa_ireturn rfl ?_
            show wJ _ _ _ _ _ _ _ _ _ _
            refine wa_i2l (w_rg0 (by omega) (by omega)) ?_
            refine wa_cv 215 rfl (wy_pr rfl) wt_215 (M2 := mS [217, 218]) rfl at_XK_give ⟨_, rfl⟩ rfl rfl ⟨trivial, trivial, trivial, trivial, trivial, (Or.inr ⟨wy_pr rfl, mS_no rfl⟩), trivial, trivial⟩ trivial (fun _ _ q => q) (gw_215 (S := S) (n := 1) (k := 0) (v := 0) (h := h) (c := c) (p := p) (ln := (S 217 (-1))) hC hI ⟨by omega, by omega⟩ ⟨by omega, by omega⟩ (bh) (bc) (bp) (rfl) (bl1) ⟨by omega, by omega⟩ ⟨by omega, by omega, by omega⟩ ⟨by omega, by omega⟩ ⟨by omega, by omega⟩) (fun oq20 Sq20 hp21 q20 => ?_)
            rcases q20 with ⟨rfl, A20, ra20, rfl⟩
            show wJ _ _ _ _ _ _ _ _ _ _
            refine wa_goto ⟨_, rfl⟩ ?_
            refine wa_return rfl ?_
            exact ⟨rfl, A20, ra20, rfl⟩
          · skip
            exact absurd c19 (by omega)
theorem xb2o_215 {c p h ky q s1 pr kp : Int} (hP : xP 215 c p h S) (hky : S 217 (h - 1) = ky) (hvy : S 218 (h - 1) = q) (hh1 : 1 ≤ h) (hk45 : ky = 4 ∨ ky = 5) (h28 : S 128 q = s1) (hq1 : 0 ≤ q ∧ q < S 127 (-1)) (h44 : S 144 s1 = pr) (hs1 : 0 ≤ s1 ∧ s1 < S 144 (-1)) (hls : ∀ x : Nat, x < 5 → S (144 + x) (-1) = S 144 (-1)) (hls2 : S 144 (-1) ≤ 1000000) (hth : ∀ x : Nat, x < 10 → S (127 + x) (-1) = S 127 (-1)) (hn2 : S 127 (-1) ≤ 16383) (hpr : 0 ≤ pr ∧ pr < S 127 (-1)) (hkp : S 127 pr = kp) (hkp1 : 0 ≤ kp ∧ kp ≤ 100) : wJ (pe_GA xs) wY0 (mS [217, 218]) (d + 11) t_XK_callBuiltin ((pe_at t_XK_callBuiltin.bl 0).getD (0, [])).2 [(0, (2, 215)), (1, (0, 2))] [] S (fun o Z => o = .inl none ∧ sO 215 h c p 1 kp pr S Z) := by
  obtain ⟨⟨hC, hI⟩, ⟨bc, bc0, bc1⟩, ⟨bp, bp0, bp1⟩, ⟨bh, bh0, bh1, bh2⟩, bl1, bl2, bl3⟩ := id hP
  replace bp : S 220 (c - 1) = p := bp
  replace bh : S 216 2 = h := bh
  replace bh2 : h ≤ S 217 (-1) := bh2
  replace bl1 : S 218 (-1) = S 217 (-1) := bl1
  replace bl2 : 64 ≤ S 217 (-1) := bl2
  replace bl3 : S 217 (-1) ≤ 4095 := bl3
  refine wa_aload_n (n := 0) rfl ?_
  refine wb_gf4 215 rfl (wy_pr rfl) wt_215 wf_8_3 (v := 216) wl_215_3 ?_
  refine wb_gfi 216 rfl (wy_pr rfl) wt_216 wf_7_2 (v := h) (bh) (fun r1 => ?_)
  refine wa_iconst ?_
  refine wa_isub ?_
  refine wa_istore_n (n := 2) rfl ?_
  refine wa_aload_n (n := 0) rfl ?_
  refine wb_gf4 215 rfl (wy_pr rfl) wt_215 wf_8_3 (v := 216) wl_215_3 ?_
  refine wb_gf4 216 rfl (wy_pr rfl) wt_216 wf_7_0 (v := 217) wl_216_0 ?_
  refine wa_iload_n (n := 2) rfl ?_
  refine wb_bald 217 rfl (wy_pr rfl) wt_217 (n := (S 217 (-1))) (rfl) (by omega) (by omega) (v := ky) (hky) (fun r2 => ?_)
  refine wa_istore_n (n := 3) rfl ?_
  refine wa_aload_n (n := 0) rfl ?_
  refine wb_gf4 215 rfl (wy_pr rfl) wt_215 wf_8_3 (v := 216) wl_215_3 ?_
  refine wb_gf4 216 rfl (wy_pr rfl) wt_216 wf_7_1 (v := 218) wl_216_1 ?_
  refine wa_iload_n (n := 2) rfl ?_
  refine wb_lald 218 rfl (wy_pr rfl) wt_218 (n := (S 217 (-1))) (bl1) (by omega) (by omega) (v := q) (hvy) (fun r3 => ?_)
  refine wa_lstore (n := 4) rfl ?_
  refine wa_iload_n (n := 1) rfl ?_
  refine wb_sw (w_rg0 (by omega) (by omega)) (tb := 6) rfl ⟨_, rfl⟩ ?_
  refine wa_aload_n (n := 0) rfl ?_
  refine wa_iload_n (n := 2) rfl ?_
  refine wa_cv 215 rfl (wy_pr rfl) wt_215 (M2 := mS [217, 218]) rfl at_XK_isHolder ⟨_, rfl⟩ rfl rfl ⟨trivial, trivial, trivial, (Or.inr ⟨wy_pr rfl, mS_no rfl⟩), trivial, trivial⟩ trivial (fun _ _ q => q) ?_ (fun _ _ _ q => q)
  refine wa_aload_n (n := 0) rfl ?_
  refine wb_gf4 215 rfl (wy_pr rfl) wt_215 wf_8_3 (v := 216) wl_215_3 ?_
  refine wb_gf4 216 rfl (wy_pr rfl) wt_216 wf_7_0 (v := 217) wl_216_0 ?_
  refine wa_iload_n (n := 1) rfl ?_
  refine wb_bald 217 rfl (wy_pr rfl) wt_217 (n := (S 217 (-1))) (rfl) (by omega) (by omega) (v := ky) (hky) (fun r4 => ?_)
  refine wa_iconst ?_
  refine wa_icmpeq (w_rg0 (by omega) (by omega)) (w_rg0 (by omega) (by omega)) ⟨_, rfl⟩ (fun c5 => ?_) (fun c5 => ?_)
  · skip
    refine wa_iconst ?_
    refine wa_goto ⟨_, rfl⟩ ?_
    refine wa_zreturn rfl (Or.inr rfl) ?_
    show wJ _ _ _ _ _ _ _ _ _ _
    refine wa_ifeq (w_rg0 (by omega) (by omega)) ⟨_, rfl⟩ (fun c6 => ?_) (fun c6 => ?_)
    · skip
      exact absurd c6 (by omega)
    · skip
      refine wa_aload_n (n := 0) rfl ?_
      refine wb_gf4 215 rfl (wy_pr rfl) wt_215 wf_8_0 (v := 72) wl_215_0 ?_
      refine wa_lload (n := 4) rfl ?_
      refine wb_l2i_r (wb_l2i_id ⟨(by omega), (by omega)⟩) ?_
      refine wa_cv 72 rfl (wy_pr rfl) wt_72 (M2 := mS [217, 218]) rfl at_XH_protoOf ⟨_, rfl⟩ rfl rfl ⟨trivial, trivial, trivial, (Or.inr ⟨wy_pr rfl, mS_no rfl⟩), trivial, trivial⟩ trivial (fun _ _ q => q) ?_ (fun _ _ _ q => q)
      refine wa_aload_n (n := 0) rfl ?_
      refine wb_gf4 72 rfl (wy_pr rfl) wt_72 wf_2_7 (v := 143) wl_72_7 ?_
      refine wa_iconst ?_
      refine wb_aald5 143 0 rfl rfl (wy_pr rfl) wt_143 (by rw [show _ = _ from ((cl_143 hC))]; omega) wl_143_0 ?_
      refine wa_aload_n (n := 0) rfl ?_
      refine wb_gf4 72 rfl (wy_pr rfl) wt_72 wf_2_2 (v := 126) wl_72_2 ?_
      refine wa_iconst ?_
      refine wb_aald5 126 1 rfl rfl (wy_pr rfl) wt_126 (by rw [show _ = _ from ((cl_126 hC))]; omega) wl_126_1 ?_
      refine wa_iload_n (n := 1) rfl ?_
      refine wb_iald 128 rfl (wy_pr rfl) wt_128 (n := (S 127 (-1))) ((hth 1 (by decide))) (by omega) (by omega) (v := s1) (h28) (fun r7 => ?_)
      refine wb_iald 144 rfl (wy_pr rfl) wt_144 (n := (S 144 (-1))) (rfl) (by omega) (by omega) (v := pr) (h44) (fun r8 => ?_)
      refine wa_ireturn rfl ?_
      show wJ _ _ _ _ _ _ _ _ _ _
      refine wa_istore (n := 6) rfl ?_
      refine wa_iload (n := 6) rfl ?_
      refine wa_iconst ?_
      refine wa_icmpne (w_rg0 (by omega) (by omega)) (w_rg0 (by omega) (by omega)) ⟨_, rfl⟩ (fun c9 => ?_) (fun c9 => ?_)
      · skip
        refine wa_aload_n (n := 0) rfl ?_
        refine wb_gf4 215 rfl (wy_pr rfl) wt_215 wf_8_0 (v := 72) wl_215_0 ?_
        refine wb_gf4 72 rfl (wy_pr rfl) wt_72 wf_2_2 (v := 126) wl_72_2 ?_
        refine wa_iconst ?_
        refine wb_aald5 126 0 rfl rfl (wy_pr rfl) wt_126 (by rw [show _ = _ from ((cl_126 hC))]; omega) wl_126_0 ?_
        refine wa_iload (n := 6) rfl ?_
        refine wb_iald 127 rfl (wy_pr rfl) wt_127 (n := (S 127 (-1))) (rfl) (by omega) (by omega) (v := kp) (hkp) (fun r10 => ?_)
        refine wa_fall ⟨_, rfl⟩ ?_
        refine wa_istore (n := 7) rfl ?_
        refine wa_aload_n (n := 0) rfl ?_
        refine wa_iconst ?_
        refine wa_iload (n := 7) rfl ?_
        refine wa_iload (n := 6) rfl ?_
        refine wa_iconst ?_
        refine wa_cs (M2 := mS [217, 218]) rfl at_JM_max ⟨_, rfl⟩ rfl rfl ⟨trivial, trivial, trivial, trivial, trivial, (Or.inr ⟨wy_pr rfl, mS_no rfl⟩), trivial, trivial⟩ ⟨trivial, trivial, (Or.inr ⟨wy_pr rfl, mS_no rfl⟩), trivial⟩ (fun _ _ q => q) ?_ (fun _ _ _ q => q)
        refine wa_iload_n (n := 0) rfl ?_
        refine wa_iload_n (n := 1) rfl ?_
        refine wa_icmplt (w_rg0 (by omega) (by omega)) (w_rg0 (by omega) (by omega)) ⟨_, rfl⟩ (fun c11 => ?_) (fun c11 => ?_)
        · skip
          exact absurd c11 (by omega)
        · skip
          refine wa_iload_n (n := 0) rfl ?_
          refine wa_goto ⟨_, rfl⟩ ?_
          refine wa_ireturn rfl ?_
          show wJ _ _ _ _ _ _ _ _ _ _
          refine wa_i2l (w_rg0 (by omega) (by omega)) ?_
          refine wa_cv 215 rfl (wy_pr rfl) wt_215 (M2 := mS [217, 218]) rfl at_XK_give ⟨_, rfl⟩ rfl rfl ⟨trivial, trivial, trivial, trivial, trivial, (Or.inr ⟨wy_pr rfl, mS_no rfl⟩), trivial, trivial⟩ trivial (fun _ _ q => q) (gw_215 (S := S) (n := 1) (k := kp) (v := pr) (h := h) (c := c) (p := p) (ln := (S 217 (-1))) hC hI ⟨by omega, by omega⟩ ⟨by omega, by omega⟩ (bh) (bc) (bp) (rfl) (bl1) ⟨by omega, by omega⟩ ⟨by omega, by omega, by omega⟩ ⟨by omega, by omega⟩ ⟨by omega, by omega⟩) (fun oq12 Sq12 hp13 q12 => ?_)
          rcases q12 with ⟨rfl, A12, ra12, rfl⟩
          show wJ _ _ _ _ _ _ _ _ _ _
          refine wa_goto ⟨_, rfl⟩ ?_
          refine wa_return rfl ?_
          exact ⟨rfl, A12, ra12, rfl⟩
      · skip
        exact absurd c9 (by omega)
  · skip
    refine wa_aload_n (n := 0) rfl ?_
    refine wb_gf4 215 rfl (wy_pr rfl) wt_215 wf_8_3 (v := 216) wl_215_3 ?_
    refine wb_gf4 216 rfl (wy_pr rfl) wt_216 wf_7_0 (v := 217) wl_216_0 ?_
    refine wa_iload_n (n := 1) rfl ?_
    refine wb_bald 217 rfl (wy_pr rfl) wt_217 (n := (S 217 (-1))) (rfl) (by omega) (by omega) (v := ky) (hky) (fun r14 => ?_)
    refine wa_iconst ?_
    refine wa_icmpne (w_rg0 (by omega) (by omega)) (w_rg0 (by omega) (by omega)) ⟨_, rfl⟩ (fun c15 => ?_) (fun c15 => ?_)
    · skip
      exact absurd c15 (by omega)
    · skip
      refine wa_fall ⟨_, rfl⟩ ?_
      refine wa_iconst ?_
      refine wa_goto ⟨_, rfl⟩ ?_
      refine wa_zreturn rfl (Or.inr rfl) ?_
      show wJ _ _ _ _ _ _ _ _ _ _
      refine wa_ifeq (w_rg0 (by omega) (by omega)) ⟨_, rfl⟩ (fun c16 => ?_) (fun c16 => ?_)
      · skip
        exact absurd c16 (by omega)
      · skip
        refine wa_aload_n (n := 0) rfl ?_
        refine wb_gf4 215 rfl (wy_pr rfl) wt_215 wf_8_0 (v := 72) wl_215_0 ?_
        refine wa_lload (n := 4) rfl ?_
        refine wb_l2i_r (wb_l2i_id ⟨(by omega), (by omega)⟩) ?_
        refine wa_cv 72 rfl (wy_pr rfl) wt_72 (M2 := mS [217, 218]) rfl at_XH_protoOf ⟨_, rfl⟩ rfl rfl ⟨trivial, trivial, trivial, (Or.inr ⟨wy_pr rfl, mS_no rfl⟩), trivial, trivial⟩ trivial (fun _ _ q => q) ?_ (fun _ _ _ q => q)
        refine wa_aload_n (n := 0) rfl ?_
        refine wb_gf4 72 rfl (wy_pr rfl) wt_72 wf_2_7 (v := 143) wl_72_7 ?_
        refine wa_iconst ?_
        refine wb_aald5 143 0 rfl rfl (wy_pr rfl) wt_143 (by rw [show _ = _ from ((cl_143 hC))]; omega) wl_143_0 ?_
        refine wa_aload_n (n := 0) rfl ?_
        refine wb_gf4 72 rfl (wy_pr rfl) wt_72 wf_2_2 (v := 126) wl_72_2 ?_
        refine wa_iconst ?_
        refine wb_aald5 126 1 rfl rfl (wy_pr rfl) wt_126 (by rw [show _ = _ from ((cl_126 hC))]; omega) wl_126_1 ?_
        refine wa_iload_n (n := 1) rfl ?_
        refine wb_iald 128 rfl (wy_pr rfl) wt_128 (n := (S 127 (-1))) ((hth 1 (by decide))) (by omega) (by omega) (v := s1) (h28) (fun r17 => ?_)
        refine wb_iald 144 rfl (wy_pr rfl) wt_144 (n := (S 144 (-1))) (rfl) (by omega) (by omega) (v := pr) (h44) (fun r18 => ?_)
        refine wa_ireturn rfl ?_
        show wJ _ _ _ _ _ _ _ _ _ _
        refine wa_istore (n := 6) rfl ?_
        refine wa_iload (n := 6) rfl ?_
        refine wa_iconst ?_
        refine wa_icmpne (w_rg0 (by omega) (by omega)) (w_rg0 (by omega) (by omega)) ⟨_, rfl⟩ (fun c19 => ?_) (fun c19 => ?_)
        · skip
          refine wa_aload_n (n := 0) rfl ?_
          refine wb_gf4 215 rfl (wy_pr rfl) wt_215 wf_8_0 (v := 72) wl_215_0 ?_
          refine wb_gf4 72 rfl (wy_pr rfl) wt_72 wf_2_2 (v := 126) wl_72_2 ?_
          refine wa_iconst ?_
          refine wb_aald5 126 0 rfl rfl (wy_pr rfl) wt_126 (by rw [show _ = _ from ((cl_126 hC))]; omega) wl_126_0 ?_
          refine wa_iload (n := 6) rfl ?_
          refine wb_iald 127 rfl (wy_pr rfl) wt_127 (n := (S 127 (-1))) (rfl) (by omega) (by omega) (v := kp) (hkp) (fun r20 => ?_)
          refine wa_fall ⟨_, rfl⟩ ?_
          refine wa_istore (n := 7) rfl ?_
          refine wa_aload_n (n := 0) rfl ?_
          refine wa_iconst ?_
          refine wa_iload (n := 7) rfl ?_
          refine wa_iload (n := 6) rfl ?_
          refine wa_iconst ?_
          refine wa_cs (M2 := mS [217, 218]) rfl at_JM_max ⟨_, rfl⟩ rfl rfl ⟨trivial, trivial, trivial, trivial, trivial, (Or.inr ⟨wy_pr rfl, mS_no rfl⟩), trivial, trivial⟩ ⟨trivial, trivial, (Or.inr ⟨wy_pr rfl, mS_no rfl⟩), trivial⟩ (fun _ _ q => q) ?_ (fun _ _ _ q => q)
          refine wa_iload_n (n := 0) rfl ?_
          refine wa_iload_n (n := 1) rfl ?_
          refine wa_icmplt (w_rg0 (by omega) (by omega)) (w_rg0 (by omega) (by omega)) ⟨_, rfl⟩ (fun c21 => ?_) (fun c21 => ?_)
          · skip
            exact absurd c21 (by omega)
          · skip
            refine wa_iload_n (n := 0) rfl ?_
            refine wa_goto ⟨_, rfl⟩ ?_
            refine wa_ireturn rfl ?_
            show wJ _ _ _ _ _ _ _ _ _ _
            refine wa_i2l (w_rg0 (by omega) (by omega)) ?_
            refine wa_cv 215 rfl (wy_pr rfl) wt_215 (M2 := mS [217, 218]) rfl at_XK_give ⟨_, rfl⟩ rfl rfl ⟨trivial, trivial, trivial, trivial, trivial, (Or.inr ⟨wy_pr rfl, mS_no rfl⟩), trivial, trivial⟩ trivial (fun _ _ q => q) (gw_215 (S := S) (n := 1) (k := kp) (v := pr) (h := h) (c := c) (p := p) (ln := (S 217 (-1))) hC hI ⟨by omega, by omega⟩ ⟨by omega, by omega⟩ (bh) (bc) (bp) (rfl) (bl1) ⟨by omega, by omega⟩ ⟨by omega, by omega, by omega⟩ ⟨by omega, by omega⟩ ⟨by omega, by omega⟩) (fun oq22 Sq22 hp23 q22 => ?_)
            rcases q22 with ⟨rfl, A22, ra22, rfl⟩
            show wJ _ _ _ _ _ _ _ _ _ _
            refine wa_goto ⟨_, rfl⟩ ?_
            refine wa_return rfl ?_
            exact ⟨rfl, A22, ra22, rfl⟩
        · skip
          exact absurd c19 (by omega)
theorem xb2e_215 {c p h ky vy : Int} (hP : xP 215 c p h S) (hky : S 217 (h - 1) = ky) (hvy : S 218 (h - 1) = vy) (hh1 : 1 ≤ h) (hke : ky ≠ 4 ∧ ky ≠ 5) : wJ (pe_GA xs) wY0 (mS [217, 218]) (d + 11) t_XK_callBuiltin ((pe_at t_XK_callBuiltin.bl 0).getD (0, [])).2 [(0, (2, 215)), (1, (0, 2))] [] S (fun o Z => o = .inl none ∧ w_up S 215 16 12 = Z) := by
  obtain ⟨⟨hC, hI⟩, ⟨bc, bc0, bc1⟩, ⟨bp, bp0, bp1⟩, ⟨bh, bh0, bh1, bh2⟩, bl1, bl2, bl3⟩ := id hP
  replace bp : S 220 (c - 1) = p := bp
  replace bh : S 216 2 = h := bh
  replace bh2 : h ≤ S 217 (-1) := bh2
  replace bl1 : S 218 (-1) = S 217 (-1) := bl1
  replace bl2 : 64 ≤ S 217 (-1) := bl2
  replace bl3 : S 217 (-1) ≤ 4095 := bl3
  refine wa_aload_n (n := 0) rfl ?_
  refine wb_gf4 215 rfl (wy_pr rfl) wt_215 wf_8_3 (v := 216) wl_215_3 ?_
  refine wb_gfi 216 rfl (wy_pr rfl) wt_216 wf_7_2 (v := h) (bh) (fun r1 => ?_)
  refine wa_iconst ?_
  refine wa_isub ?_
  refine wa_istore_n (n := 2) rfl ?_
  refine wa_aload_n (n := 0) rfl ?_
  refine wb_gf4 215 rfl (wy_pr rfl) wt_215 wf_8_3 (v := 216) wl_215_3 ?_
  refine wb_gf4 216 rfl (wy_pr rfl) wt_216 wf_7_0 (v := 217) wl_216_0 ?_
  refine wa_iload_n (n := 2) rfl ?_
  refine wb_bald 217 rfl (wy_pr rfl) wt_217 (n := (S 217 (-1))) (rfl) (by omega) (by omega) (v := ky) (hky) (fun r2 => ?_)
  refine wa_istore_n (n := 3) rfl ?_
  refine wa_aload_n (n := 0) rfl ?_
  refine wb_gf4 215 rfl (wy_pr rfl) wt_215 wf_8_3 (v := 216) wl_215_3 ?_
  refine wb_gf4 216 rfl (wy_pr rfl) wt_216 wf_7_1 (v := 218) wl_216_1 ?_
  refine wa_iload_n (n := 2) rfl ?_
  refine wb_lald 218 rfl (wy_pr rfl) wt_218 (n := (S 217 (-1))) (bl1) (by omega) (by omega) (v := vy) (hvy) (fun r3 => ?_)
  refine wa_lstore (n := 4) rfl ?_
  refine wa_iload_n (n := 1) rfl ?_
  refine wb_sw (w_rg0 (by omega) (by omega)) (tb := 6) rfl ⟨_, rfl⟩ ?_
  refine wa_aload_n (n := 0) rfl ?_
  refine wa_iload_n (n := 2) rfl ?_
  refine wa_cv 215 rfl (wy_pr rfl) wt_215 (M2 := mS [217, 218]) rfl at_XK_isHolder ⟨_, rfl⟩ rfl rfl ⟨trivial, trivial, trivial, (Or.inr ⟨wy_pr rfl, mS_no rfl⟩), trivial, trivial⟩ trivial (fun _ _ q => q) ?_ (fun _ _ _ q => q)
  refine wa_aload_n (n := 0) rfl ?_
  refine wb_gf4 215 rfl (wy_pr rfl) wt_215 wf_8_3 (v := 216) wl_215_3 ?_
  refine wb_gf4 216 rfl (wy_pr rfl) wt_216 wf_7_0 (v := 217) wl_216_0 ?_
  refine wa_iload_n (n := 1) rfl ?_
  refine wb_bald 217 rfl (wy_pr rfl) wt_217 (n := (S 217 (-1))) (rfl) (by omega) (by omega) (v := ky) (hky) (fun r4 => ?_)
  refine wa_iconst ?_
  refine wa_icmpeq (w_rg0 (by omega) (by omega)) (w_rg0 (by omega) (by omega)) ⟨_, rfl⟩ (fun c5 => ?_) (fun c5 => ?_)
  · skip
    exact absurd c5 (by omega)
  · skip
    refine wa_aload_n (n := 0) rfl ?_
    refine wb_gf4 215 rfl (wy_pr rfl) wt_215 wf_8_3 (v := 216) wl_215_3 ?_
    refine wb_gf4 216 rfl (wy_pr rfl) wt_216 wf_7_0 (v := 217) wl_216_0 ?_
    refine wa_iload_n (n := 1) rfl ?_
    refine wb_bald 217 rfl (wy_pr rfl) wt_217 (n := (S 217 (-1))) (rfl) (by omega) (by omega) (v := ky) (hky) (fun r6 => ?_)
    refine wa_iconst ?_
    refine wa_icmpne (w_rg0 (by omega) (by omega)) (w_rg0 (by omega) (by omega)) ⟨_, rfl⟩ (fun c7 => ?_) (fun c7 => ?_)
    · skip
      refine wa_iconst ?_
      refine wa_fall ⟨_, rfl⟩ ?_
      refine wa_zreturn rfl (Or.inl rfl) ?_
      show wJ _ _ _ _ _ _ _ _ _ _
      refine wa_ifeq (w_rg0 (by omega) (by omega)) ⟨_, rfl⟩ (fun c8 => ?_) (fun c8 => ?_)
      · skip
        refine wa_aload_n (n := 0) rfl ?_
        refine wa_bipush (w_rg2 (by omega) (by omega)) ?_
        refine wb_pfi 215 rfl (wy_pr rfl) wt_215 wf_8_16 (n := 16) rfl ⟨(by omega), (by omega)⟩ ?_
        refine wa_goto ⟨_, rfl⟩ ?_
        refine wa_return rfl ?_
        exact ⟨rfl, rfl⟩
      · skip
        exact absurd c8 (by omega)
    · skip
      exact absurd c7 (by omega)
set_option maxHeartbeats 4000000 in
theorem mO0_226 {c p h cs n u0 tk : Int} (hP : xP 226 c p h S) (hx1 : pe_at (pe_GA xs).xs 1 = some (1, tx_1)) (h2 : S 140 2 = cs) (hcs : 0 ≤ cs ∧ cs ≤ S 141 (-1)) (hl : S 142 (-1) = S 141 (-1)) (hz : 16 ≤ S 141 (-1) ∧ S 141 (-1) ≤ 480400) (hth : ∀ x : Nat, x < 10 → S (127 + x) (-1) = S 127 (-1)) (hn : S 72 3 = n) (hn1 : 0 ≤ n ∧ n ≤ S 127 (-1)) (hn2 : 64 ≤ S 127 (-1) ∧ S 127 (-1) ≤ 16383) (hu0 : S 150 0 = u0) (hu1 : 0 ≤ u0 ∧ u0 ≤ 8000) (htk : 0 ≤ tk ∧ tk ≤ h ∧ h - tk < 2100) : wJ (pe_GA xs) wY0 (mS [228, 229, 127, 128, 129, 130, 131, 132, 133, 134, 135, 136, 141, 142]) (d + 10) t_XK_makeObject ((pe_at t_XK_makeObject.bl 0).getD (0, [])).2 [(0, (2, 226)), (1, (0, tk)), (2, (0, -1))] [] S (fun o Z => o = .inl none ∧ ((8000 ≤ u0 ∧ w_up S 226 16 99 = Z) ∨ (u0 < 8000 ∧ ∃ B : wS, at_ag 4 0 (-1) 0 S B ∧ sO 226 h c p tk 4 n B Z))) := by
  obtain ⟨⟨hC, hI⟩, ⟨bc, bc0, bc1⟩, ⟨bp, bp0, bp1⟩, ⟨bh, bh0, bh1, bh2⟩, bl1, bl2, bl3⟩ := id hP
  replace bp : S 231 (c - 1) = p := bp
  replace bh : S 227 2 = h := bh
  replace bh2 : h ≤ S 228 (-1) := bh2
  replace bl1 : S 229 (-1) = S 228 (-1) := bl1
  replace bl2 : 64 ≤ S 228 (-1) := bl2
  replace bl3 : S 228 (-1) ≤ 4095 := bl3
  refine wa_aload_n (n := 0) rfl ?_
  refine wb_gf4 226 rfl (wy_pr rfl) wt_226 wf_8_0 (v := 72) wl_226_0 ?_
  refine wa_iload_n (n := 2) rfl ?_
  refine wa_cv 72 rfl (wy_pr rfl) wt_72 (M2 := mS [228, 229, 127, 128, 129, 130, 131, 132, 133, 134, 135, 136, 141, 142]) rfl at_XH_hasObjectRoom ⟨_, rfl⟩ rfl rfl ⟨(Or.inr ⟨wy_pr rfl, mS_no rfl⟩), trivial, trivial, trivial⟩ trivial (fun _ _ q => q) ?_ (fun _ _ _ q => q)
  refine wa_iload_n (n := 1) rfl ?_
  refine wa_iconst ?_
  refine wa_icmpeq (w_rg0 (by omega) (by omega)) (w_rg0 (by omega) (by omega)) ⟨_, rfl⟩ (fun c1 => ?_) (fun c1 => ?_)
  · skip
    refine wa_iconst ?_
    refine wa_fall ⟨_, rfl⟩ ?_
    refine wa_istore_n (n := 2) rfl ?_
    refine wa_aload_n (n := 0) rfl ?_
    refine wa_iconst ?_
    refine wa_iconst ?_
    refine wa_cv 72 rfl (wy_pr rfl) wt_72 (M2 := mS [228, 229, 127, 128, 129, 130, 131, 132, 133, 134, 135, 136, 141, 142]) rfl at_XH_hasRoom ⟨_, rfl⟩ rfl rfl ⟨trivial, (Or.inr ⟨wy_pr rfl, mS_no rfl⟩), trivial, trivial⟩ trivial (fun _ _ q => q) ?_ (fun _ _ _ q => q)
    refine wa_aload_n (n := 0) rfl ?_
    refine wb_gf4 72 rfl (wy_pr rfl) wt_72 wf_2_10 (v := 150) wl_72_10 ?_
    refine wa_iload_n (n := 1) rfl ?_
    refine wb_iald 150 rfl (wy_pr rfl) wt_150 (n := 6) ((cl_150 hC)) (by omega) (by omega) (v := u0) (hu0) (fun r2 => ?_)
    refine wa_iload_n (n := 2) rfl ?_
    refine wa_iadd ?_
    refine wa_gs ?_
    refine wa_iload_n (n := 1) rfl ?_
    refine wb_xald 1 rfl hx1 (by decide) (by omega) (by decide) (v := 8000) (by decide) (fun r3 => ?_)
    refine wa_icmpgt (w_rg0 (by omega) (by omega)) (w_rg0 (by omega) (by omega)) ⟨_, rfl⟩ (fun c4 => ?_) (fun c4 => ?_)
    · skip
      refine wa_iconst ?_
      refine wa_fall ⟨_, rfl⟩ ?_
      refine wa_zreturn rfl (Or.inl rfl) ?_
      show wJ _ _ _ _ _ _ _ _ _ _
      refine wa_ifeq (w_rg0 (by omega) (by omega)) ⟨_, rfl⟩ (fun c5 => ?_) (fun c5 => ?_)
      · skip
        refine wa_iconst ?_
        refine wa_fall ⟨_, rfl⟩ ?_
        refine wa_zreturn rfl (Or.inl rfl) ?_
        show wJ _ _ _ _ _ _ _ _ _ _
        refine wa_ifne (w_rg0 (by omega) (by omega)) ⟨_, rfl⟩ (fun c6 => ?_) (fun c6 => ?_)
        · skip
          exact absurd c6 (by omega)
        · skip
          refine wa_aload_n (n := 0) rfl ?_
          refine wa_bipush (w_rg2 (by omega) (by omega)) ?_
          refine wb_pfi 226 rfl (wy_pr rfl) wt_226 wf_8_16 (n := 16) rfl ⟨(by omega), (by omega)⟩ ?_
          refine wa_return rfl ?_
          exact ⟨rfl, Or.inl ⟨by omega, rfl⟩⟩
      · skip
        exact absurd c5 (by omega)
    · skip
      refine wa_iconst ?_
      refine wa_goto ⟨_, rfl⟩ ?_
      refine wa_zreturn rfl (Or.inr rfl) ?_
      show wJ _ _ _ _ _ _ _ _ _ _
      refine wa_ifeq (w_rg0 (by omega) (by omega)) ⟨_, rfl⟩ (fun c7 => ?_) (fun c7 => ?_)
      · skip
        exact absurd c7 (by omega)
      · skip
        refine wa_iload_n (n := 2) rfl ?_
        refine wa_ifeq (w_rg0 (by omega) (by omega)) ⟨_, rfl⟩ (fun c8 => ?_) (fun c8 => ?_)
        · skip
          refine wa_iconst ?_
          refine wa_goto ⟨_, rfl⟩ ?_
          refine wa_zreturn rfl (Or.inr rfl) ?_
          show wJ _ _ _ _ _ _ _ _ _ _
          refine wa_ifne (w_rg0 (by omega) (by omega)) ⟨_, rfl⟩ (fun c9 => ?_) (fun c9 => ?_)
          · skip
            refine wa_aload_n (n := 0) rfl ?_
            refine wb_gf4 226 rfl (wy_pr rfl) wt_226 wf_8_0 (v := 72) wl_226_0 ?_
            refine wa_iload_n (n := 2) rfl ?_
            refine wa_cv 72 rfl (wy_pr rfl) wt_72 (M2 := mS []) rfl at_XH_bareShape ⟨_, rfl⟩ rfl rfl ⟨(Or.inr ⟨wy_pr rfl, mS_no rfl⟩), trivial, trivial, trivial⟩ trivial (fun _ _ q => mS_sub (by decide) q) (c_b0) (fun oq10 Sq10 hp11 q10 => ?_)
            rcases q10 with ⟨rfl, rfl⟩
            show wJ _ _ _ _ _ _ _ _ _ _
            refine wa_istore_n (n := 3) rfl ?_
            refine wa_aload_n (n := 0) rfl ?_
            refine wa_iload_n (n := 1) rfl ?_
            refine wa_iconst ?_
            refine wa_aload_n (n := 0) rfl ?_
            refine wb_gf4 226 rfl (wy_pr rfl) wt_226 wf_8_0 (v := 72) wl_226_0 ?_
            refine wa_iconst ?_
            refine wa_iload_n (n := 3) rfl ?_
            refine wa_iconst ?_
            refine wa_iconst ?_
            have at12a : S 141 (-1) = (S 141 (-1)) := (rfl)
            have at12b : S 142 (-1) = S 141 (-1) := ((hl) : S 142 (-1) = (S 141 (-1))).trans at12a.symm
            have at12c : S 127 (-1) = (S 127 (-1)) := (rfl)
            have at12d : ∀ x : Nat, x < 10 → S (127 + x) (-1) = S 127 (-1) := (hth)
            refine wa_cv 72 rfl (wy_pr rfl) wt_72 (M2 := mS [127, 128, 129, 130, 131, 132, 133, 134, 135, 136, 141, 142]) rfl at_XH_addThing ⟨_, rfl⟩ rfl rfl ⟨trivial, (Or.inr ⟨wy_pr rfl, mS_no rfl⟩), trivial, trivial, trivial⟩ ⟨trivial, trivial, (Or.inr ⟨wy_pr rfl, mS_no rfl⟩), trivial⟩ (fun _ _ q => mS_sub (by decide) q) (atH_ok (S := S) (kd := 4) (sh := 0) (fo := (-1)) (rm := 0) (cs := cs) (n := n) (u0 := u0) hC hI (h2) ⟨by omega, by omega⟩ at12b ⟨by omega, by omega⟩ at12d (hn) ⟨by omega, by omega⟩ ⟨by omega, by omega⟩ (hu0) ⟨by omega, by omega⟩ ⟨by omega, by omega⟩ ⟨by omega, by omega⟩ ⟨by omega, by omega⟩ ⟨by omega, by omega⟩) (fun oq12 Sq12 hp13 q12 => ?_)
            rcases q12 with ⟨rfl, at12⟩
            show wJ _ _ _ _ _ _ _ _ _ _
            have at12e := at12.2.2.2.2.2.2.1.2
            have at12f := at12.2.2.2.2.2.1
            refine wa_i2l (w_rg0 (by omega) (by omega)) ?_
            refine wa_cv 226 rfl (wy_pr rfl) wt_226 (M2 := mS [228, 229]) rfl at_XK_give ⟨_, rfl⟩ rfl rfl ⟨trivial, (Or.inr ⟨wy_pr rfl, mS_no rfl⟩), trivial, trivial, trivial⟩ trivial (fun _ _ q => mS_sub (by decide) q) (gw_226 (S := Sq12) (n := tk) (k := 4) (v := n) (h := h) (c := c) (p := p) (ln := (S 228 (-1))) (CL_at hC at12) at12.2.2.2.2.2.2.2.2.1 ⟨by omega, by omega⟩ ⟨by omega, by omega⟩ (((at12.2.2.2.2.2.2.2.1 227 2 (by decide) (by decide) (by decide) (by decide) (by decide) (Or.inl (by decide)) (Or.inl (by decide)) (Or.inl (by decide))).trans (bh))) (((at12.2.2.2.2.2.2.2.1 226 4 (by decide) (by decide) (by decide) (by decide) (by decide) (Or.inl (by decide)) (Or.inl (by decide)) (Or.inl (by decide))).trans (bc))) (((at12.2.2.2.2.2.2.2.1 231 (c - 1) (by decide) (by decide) (by decide) (by decide) (by decide) (Or.inl (by decide)) (Or.inl (by decide)) (Or.inl (by decide))).trans (bp))) (((at12.2.2.2.2.2.2.2.1 228 (-1) (by decide) (by decide) (by decide) (by decide) (by decide) (Or.inl (by decide)) (Or.inl (by decide)) (Or.inl (by decide))).trans (rfl))) (((at12.2.2.2.2.2.2.2.1 229 (-1) (by decide) (by decide) (by decide) (by decide) (by decide) (Or.inl (by decide)) (Or.inl (by decide)) (Or.inl (by decide))).trans (bl1))) ⟨by omega, by omega⟩ ⟨by omega, by omega, by omega⟩ ⟨by omega, by omega⟩ ⟨by omega, by omega⟩) (fun oq14 Sq14 hp15 q14 => ?_)
            rcases q14 with ⟨rfl, A14, ra14, rfl⟩
            show wJ _ _ _ _ _ _ _ _ _ _
            refine wa_return rfl ?_
            exact ⟨rfl, Or.inr ⟨by omega, Sq12, at12, A14, ra14, rfl⟩⟩
          · skip
            exact absurd c9 (by omega)
        · skip
          exact absurd c8 (by omega)
  · skip
    exact absurd c1 (by omega)
set_option maxHeartbeats 4000000 in
theorem mO1_226 {c p h cs n u0 tk q r : Int} (hP : xP 226 c p h S) (hx1 : pe_at (pe_GA xs).xs 1 = some (1, tx_1)) (h2 : S 140 2 = cs) (hcs : 0 ≤ cs ∧ cs ≤ S 141 (-1)) (hl : S 142 (-1) = S 141 (-1)) (hz : 16 ≤ S 141 (-1) ∧ S 141 (-1) ≤ 480400) (hth : ∀ x : Nat, x < 10 → S (127 + x) (-1) = S 127 (-1)) (hn : S 72 3 = n) (hn1 : 0 ≤ n ∧ n ≤ S 127 (-1)) (hn2 : 64 ≤ S 127 (-1) ∧ S 127 (-1) ≤ 16383) (hu0 : S 150 0 = u0) (hu1 : 0 ≤ u0 ∧ u0 ≤ 8000) (hsw : cSw S T H) (hlt : cLt S T) (hw : wSh T H) (hq : isO T q) (hr : r = aFs (-1) q (-1) H 0) (hu4 : 0 ≤ S 150 4 ∧ S 150 4 ≤ 4000) (htk : 0 ≤ tk ∧ tk ≤ h ∧ h - tk < 2100) : wJ (pe_GA xs) wY0 (mS [228, 229, 127, 128, 129, 130, 131, 132, 133, 134, 135, 136, 141, 142, 144, 145, 146, 147, 148]) (d + 10) t_XK_makeObject ((pe_at t_XK_makeObject.bl 0).getD (0, [])).2 [(0, (2, 226)), (1, (0, tk)), (2, (0, q))] [] S (fun o Z => o = .inl none ∧ (((8000 ≤ u0 ∨ (r = -1 ∧ 4000 ≤ S 150 4)) ∧ w_up S 226 16 99 = Z) ∨ (u0 < 8000 ∧ 0 ≤ r ∧ ∃ B : wS, at_ag 4 r (-1) 0 S B ∧ sO 226 h c p tk 4 n B Z) ∨ (u0 < 8000 ∧ r = -1 ∧ S 150 4 < 4000 ∧ ∃ A B : wS, bs_ag (H.length : Int) q S A ∧ at_ag 4 (H.length : Int) (-1) 0 A B ∧ sO 226 h c p tk 4 n B Z))) := by
  obtain ⟨⟨hC, hI⟩, ⟨bc, bc0, bc1⟩, ⟨bp, bp0, bp1⟩, ⟨bh, bh0, bh1, bh2⟩, bl1, bl2, bl3⟩ := id hP
  replace bp : S 231 (c - 1) = p := bp
  replace bh : S 227 2 = h := bh
  replace bh2 : h ≤ S 228 (-1) := bh2
  replace bl1 : S 229 (-1) = S 228 (-1) := bl1
  replace bl2 : 64 ≤ S 228 (-1) := bl2
  replace bl3 : S 228 (-1) ≤ 4095 := bl3
  have hg : wG = 1000000 := rfl
  obtain ⟨h1, ⟨l1, l2, l3, l4⟩, -, hb⟩ := id hsw
  have h8 := h1.1
  have hH := hw.1.2.1
  obtain ⟨⟨hp0, hp1⟩, -⟩ := id hq
  have ht2 := hlt.2.1
  have e132 := hb q hp0 hp1
  rw [← hr] at e132
  have hrr := aFs_rg (be := -1) (pr := q) (nm := -1) (H := H)
  rw [← hr] at hrr
  obtain ⟨u4, eu4⟩ : ∃ u4 : Int, S 150 4 = u4 := ⟨_, rfl⟩
  rw [eu4] at hu4 ⊢
  refine wa_aload_n (n := 0) rfl ?_
  refine wb_gf4 226 rfl (wy_pr rfl) wt_226 wf_8_0 (v := 72) wl_226_0 ?_
  refine wa_iload_n (n := 2) rfl ?_
  refine wa_cv 72 rfl (wy_pr rfl) wt_72 (M2 := mS [228, 229, 127, 128, 129, 130, 131, 132, 133, 134, 135, 136, 141, 142, 144, 145, 146, 147, 148]) rfl at_XH_hasObjectRoom ⟨_, rfl⟩ rfl rfl ⟨(Or.inr ⟨wy_pr rfl, mS_no rfl⟩), trivial, trivial, trivial⟩ trivial (fun _ _ q => q) ?_ (fun _ _ _ q => q)
  refine wa_iload_n (n := 1) rfl ?_
  refine wa_iconst ?_
  refine wa_icmpeq (w_rg0 (by omega) (by omega)) (w_rg0 (by omega) (by omega)) ⟨_, rfl⟩ (fun c1 => ?_) (fun c1 => ?_)
  · skip
    refine wa_iconst ?_
    refine wa_fall ⟨_, rfl⟩ ?_
    refine wa_istore_n (n := 2) rfl ?_
    refine wa_aload_n (n := 0) rfl ?_
    refine wa_iconst ?_
    refine wa_iconst ?_
    refine wa_cv 72 rfl (wy_pr rfl) wt_72 (M2 := mS [228, 229, 127, 128, 129, 130, 131, 132, 133, 134, 135, 136, 141, 142, 144, 145, 146, 147, 148]) rfl at_XH_hasRoom ⟨_, rfl⟩ rfl rfl ⟨trivial, (Or.inr ⟨wy_pr rfl, mS_no rfl⟩), trivial, trivial⟩ trivial (fun _ _ q => q) ?_ (fun _ _ _ q => q)
    refine wa_aload_n (n := 0) rfl ?_
    refine wb_gf4 72 rfl (wy_pr rfl) wt_72 wf_2_10 (v := 150) wl_72_10 ?_
    refine wa_iload_n (n := 1) rfl ?_
    refine wb_iald 150 rfl (wy_pr rfl) wt_150 (n := 6) ((cl_150 hC)) (by omega) (by omega) (v := u0) (hu0) (fun r2 => ?_)
    refine wa_iload_n (n := 2) rfl ?_
    refine wa_iadd ?_
    refine wa_gs ?_
    refine wa_iload_n (n := 1) rfl ?_
    refine wb_xald 1 rfl hx1 (by decide) (by omega) (by decide) (v := 8000) (by decide) (fun r3 => ?_)
    refine wa_icmpgt (w_rg0 (by omega) (by omega)) (w_rg0 (by omega) (by omega)) ⟨_, rfl⟩ (fun c4 => ?_) (fun c4 => ?_)
    · skip
      refine wa_iconst ?_
      refine wa_fall ⟨_, rfl⟩ ?_
      refine wa_zreturn rfl (Or.inl rfl) ?_
      show wJ _ _ _ _ _ _ _ _ _ _
      refine wa_ifeq (w_rg0 (by omega) (by omega)) ⟨_, rfl⟩ (fun c5 => ?_) (fun c5 => ?_)
      · skip
        refine wa_iconst ?_
        refine wa_fall ⟨_, rfl⟩ ?_
        refine wa_zreturn rfl (Or.inl rfl) ?_
        show wJ _ _ _ _ _ _ _ _ _ _
        refine wa_ifne (w_rg0 (by omega) (by omega)) ⟨_, rfl⟩ (fun c6 => ?_) (fun c6 => ?_)
        · skip
          exact absurd c6 (by omega)
        · skip
          refine wa_aload_n (n := 0) rfl ?_
          refine wa_bipush (w_rg2 (by omega) (by omega)) ?_
          refine wb_pfi 226 rfl (wy_pr rfl) wt_226 wf_8_16 (n := 16) rfl ⟨(by omega), (by omega)⟩ ?_
          refine wa_return rfl ?_
          exact ⟨rfl, Or.inl ⟨by omega, rfl⟩⟩
      · skip
        exact absurd c5 (by omega)
    · skip
      refine wa_iconst ?_
      refine wa_goto ⟨_, rfl⟩ ?_
      refine wa_zreturn rfl (Or.inr rfl) ?_
      show wJ _ _ _ _ _ _ _ _ _ _
      refine wa_ifeq (w_rg0 (by omega) (by omega)) ⟨_, rfl⟩ (fun c7 => ?_) (fun c7 => ?_)
      · skip
        exact absurd c7 (by omega)
      · skip
        refine wa_iload_n (n := 2) rfl ?_
        refine wa_ifeq (w_rg0 (by omega) (by omega)) ⟨_, rfl⟩ (fun c8 => ?_) (fun c8 => ?_)
        · skip
          refine wa_iconst ?_
          refine wa_goto ⟨_, rfl⟩ ?_
          refine wa_zreturn rfl (Or.inr rfl) ?_
          show wJ _ _ _ _ _ _ _ _ _ _
          refine wa_ifne (w_rg0 (by omega) (by omega)) ⟨_, rfl⟩ (fun c9 => ?_) (fun c9 => ?_)
          · skip
            refine wa_aload_n (n := 0) rfl ?_
            refine wb_gf4 226 rfl (wy_pr rfl) wt_226 wf_8_0 (v := 72) wl_226_0 ?_
            refine wa_iload_n (n := 2) rfl ?_
            refine wa_cv 72 rfl (wy_pr rfl) wt_72 (M2 := mS [144, 145, 146, 147, 148]) rfl at_XH_bareShape ⟨_, rfl⟩ rfl rfl ⟨(Or.inr ⟨wy_pr rfl, mS_no rfl⟩), trivial, trivial, trivial⟩ trivial (fun _ _ q => mS_sub (by decide) q) (c_bs hC hI hsw hlt hw hq hr ⟨by omega, fun z => by omega⟩) (fun oq10 Sq10 hp11 q10 => ?_)
            rcases q10 with ⟨hbr, rfl, rfl⟩ | ⟨hbr, hb10, rfl⟩
            · skip
              show wJ _ _ _ _ _ _ _ _ _ _
              refine wa_istore_n (n := 3) rfl ?_
              refine wa_aload_n (n := 0) rfl ?_
              refine wa_iload_n (n := 1) rfl ?_
              refine wa_iconst ?_
              refine wa_aload_n (n := 0) rfl ?_
              refine wb_gf4 226 rfl (wy_pr rfl) wt_226 wf_8_0 (v := 72) wl_226_0 ?_
              refine wa_iconst ?_
              refine wa_iload_n (n := 3) rfl ?_
              refine wa_iconst ?_
              refine wa_iconst ?_
              have at12a : S 141 (-1) = (S 141 (-1)) := (rfl)
              have at12b : S 142 (-1) = S 141 (-1) := ((hl) : S 142 (-1) = (S 141 (-1))).trans at12a.symm
              have at12c : S 127 (-1) = (S 127 (-1)) := (rfl)
              have at12d : ∀ x : Nat, x < 10 → S (127 + x) (-1) = S 127 (-1) := (hth)
              refine wa_cv 72 rfl (wy_pr rfl) wt_72 (M2 := mS [127, 128, 129, 130, 131, 132, 133, 134, 135, 136, 141, 142]) rfl at_XH_addThing ⟨_, rfl⟩ rfl rfl ⟨trivial, (Or.inr ⟨wy_pr rfl, mS_no rfl⟩), trivial, trivial, trivial⟩ ⟨trivial, trivial, (Or.inr ⟨wy_pr rfl, mS_no rfl⟩), trivial⟩ (fun _ _ q => mS_sub (by decide) q) (atH_ok (S := S) (kd := 4) (sh := r) (fo := (-1)) (rm := 0) (cs := cs) (n := n) (u0 := u0) hC hI (h2) ⟨by omega, by omega⟩ at12b ⟨by omega, by omega⟩ at12d (hn) ⟨by omega, by omega⟩ ⟨by omega, by omega⟩ (hu0) ⟨by omega, by omega⟩ ⟨by omega, by omega⟩ ⟨by omega, by omega⟩ ⟨by omega, by omega⟩ ⟨by omega, by omega⟩) (fun oq12 Sq12 hp13 q12 => ?_)
              rcases q12 with ⟨rfl, at12⟩
              show wJ _ _ _ _ _ _ _ _ _ _
              have at12e := at12.2.2.2.2.2.2.1.2
              have at12f := at12.2.2.2.2.2.1
              refine wa_i2l (w_rg0 (by omega) (by omega)) ?_
              refine wa_cv 226 rfl (wy_pr rfl) wt_226 (M2 := mS [228, 229]) rfl at_XK_give ⟨_, rfl⟩ rfl rfl ⟨trivial, (Or.inr ⟨wy_pr rfl, mS_no rfl⟩), trivial, trivial, trivial⟩ trivial (fun _ _ q => mS_sub (by decide) q) (gw_226 (S := Sq12) (n := tk) (k := 4) (v := n) (h := h) (c := c) (p := p) (ln := (S 228 (-1))) (CL_at hC at12) at12.2.2.2.2.2.2.2.2.1 ⟨by omega, by omega⟩ ⟨by omega, by omega⟩ (((at12.2.2.2.2.2.2.2.1 227 2 (by decide) (by decide) (by decide) (by decide) (by decide) (Or.inl (by decide)) (Or.inl (by decide)) (Or.inl (by decide))).trans (bh))) (((at12.2.2.2.2.2.2.2.1 226 4 (by decide) (by decide) (by decide) (by decide) (by decide) (Or.inl (by decide)) (Or.inl (by decide)) (Or.inl (by decide))).trans (bc))) (((at12.2.2.2.2.2.2.2.1 231 (c - 1) (by decide) (by decide) (by decide) (by decide) (by decide) (Or.inl (by decide)) (Or.inl (by decide)) (Or.inl (by decide))).trans (bp))) (((at12.2.2.2.2.2.2.2.1 228 (-1) (by decide) (by decide) (by decide) (by decide) (by decide) (Or.inl (by decide)) (Or.inl (by decide)) (Or.inl (by decide))).trans (rfl))) (((at12.2.2.2.2.2.2.2.1 229 (-1) (by decide) (by decide) (by decide) (by decide) (by decide) (Or.inl (by decide)) (Or.inl (by decide)) (Or.inl (by decide))).trans (bl1))) ⟨by omega, by omega⟩ ⟨by omega, by omega, by omega⟩ ⟨by omega, by omega⟩ ⟨by omega, by omega⟩) (fun oq14 Sq14 hp15 q14 => ?_)
              rcases q14 with ⟨rfl, A14, ra14, rfl⟩
              show wJ _ _ _ _ _ _ _ _ _ _
              refine wa_return rfl ?_
              exact ⟨rfl, Or.inr (Or.inl ⟨by omega, by omega, Sq12, at12, A14, ra14, rfl⟩)⟩
            · skip
              show wJ _ _ _ _ _ _ _ _ _ _
              refine wa_istore_n (n := 3) rfl ?_
              refine wa_aload_n (n := 0) rfl ?_
              refine wa_iload_n (n := 1) rfl ?_
              refine wa_iconst ?_
              refine wa_aload_n (n := 0) rfl ?_
              refine wb_gf4 226 rfl (wy_pr rfl) wt_226 wf_8_0 (v := 72) wl_226_0 ?_
              refine wa_iconst ?_
              refine wa_iload_n (n := 3) rfl ?_
              refine wa_iconst ?_
              refine wa_iconst ?_
              have at16a : Sq10 141 (-1) = (S 141 (-1)) := (((hb10.2.2.2.2.1 141 (-1) (by first | decide | omega) (by first | decide | omega) (by first | decide | omega) (Or.inl (by first | decide | omega)) (Or.inl (by first | decide | omega)) (Or.inl (by first | decide | omega))).trans (rfl)))
              have at16b : Sq10 142 (-1) = Sq10 141 (-1) := ((((hb10.2.2.2.2.1 142 (-1) (by first | decide | omega) (by first | decide | omega) (by first | decide | omega) (Or.inl (by first | decide | omega)) (Or.inl (by first | decide | omega)) (Or.inl (by first | decide | omega))).trans (hl))) : Sq10 142 (-1) = (S 141 (-1))).trans at16a.symm
              have at16c : Sq10 127 (-1) = (S 127 (-1)) := (((hb10.2.2.2.2.1 127 (-1) (by first | decide | omega) (by first | decide | omega) (by first | decide | omega) (Or.inl (by first | decide | omega)) (Or.inl (by first | decide | omega)) (Or.inl (by first | decide | omega))).trans (rfl)))
              have at16d : ∀ x : Nat, x < 10 → Sq10 (127 + x) (-1) = Sq10 127 (-1) := (fun x hx => (hb10.2.2.2.2.1 (127 + x) (-1) (by omega) (by omega) (by omega) (Or.inr (by omega)) (by omega) (by omega)).trans ((hth x hx).trans (hb10.2.2.2.2.1 127 (-1) (by first | decide | omega) (by first | decide | omega) (by first | decide | omega) (Or.inl (by first | decide | omega)) (by first | decide | omega) (by first | decide | omega)).symm))
              refine wa_cv 72 rfl (wy_pr rfl) wt_72 (M2 := mS [127, 128, 129, 130, 131, 132, 133, 134, 135, 136, 141, 142]) rfl at_XH_addThing ⟨_, rfl⟩ rfl rfl ⟨trivial, (Or.inr ⟨wy_pr rfl, mS_no rfl⟩), trivial, trivial, trivial⟩ ⟨trivial, trivial, (Or.inr ⟨wy_pr rfl, mS_no rfl⟩), trivial⟩ (fun _ _ q => mS_sub (by decide) q) (atH_ok (S := Sq10) (kd := 4) (sh := (H.length : Int)) (fo := (-1)) (rm := 0) (cs := cs) (n := n) (u0 := u0) (CL_bs hC hb10) hb10.2.2.2.2.2.1 (((hb10.2.2.2.2.1 140 2 (by decide) (by decide) (by decide) (Or.inl (by decide)) (Or.inl (by decide)) (Or.inl (by decide))).trans (h2))) ⟨by omega, by omega⟩ at16b ⟨by omega, by omega⟩ at16d (((hb10.2.2.2.2.1 72 3 (by decide) (by decide) (by decide) (Or.inl (by decide)) (Or.inr (by decide)) (Or.inl (by decide))).trans (hn))) ⟨by omega, by omega⟩ ⟨by omega, by omega⟩ (((hb10.2.2.2.2.1 150 0 (by decide) (by decide) (by decide) (Or.inl (by decide)) (Or.inl (by decide)) (Or.inr (by decide))).trans (hu0))) ⟨by omega, by omega⟩ ⟨by omega, by omega⟩ ⟨by omega, by omega⟩ ⟨by omega, by omega⟩ ⟨by omega, by omega⟩) (fun oq16 Sq16 hp17 q16 => ?_)
              rcases q16 with ⟨rfl, at16⟩
              show wJ _ _ _ _ _ _ _ _ _ _
              have at16e := at16.2.2.2.2.2.2.1.2
              have at16f := at16.2.2.2.2.2.1
              refine wa_i2l (w_rg0 (by omega) (by omega)) ?_
              refine wa_cv 226 rfl (wy_pr rfl) wt_226 (M2 := mS [228, 229]) rfl at_XK_give ⟨_, rfl⟩ rfl rfl ⟨trivial, (Or.inr ⟨wy_pr rfl, mS_no rfl⟩), trivial, trivial, trivial⟩ trivial (fun _ _ q => mS_sub (by decide) q) (gw_226 (S := Sq16) (n := tk) (k := 4) (v := n) (h := h) (c := c) (p := p) (ln := (S 228 (-1))) (CL_at (CL_bs hC hb10) at16) at16.2.2.2.2.2.2.2.2.1 ⟨by omega, by omega⟩ ⟨by omega, by omega⟩ (((at16.2.2.2.2.2.2.2.1 227 2 (by decide) (by decide) (by decide) (by decide) (by decide) (Or.inl (by decide)) (Or.inl (by decide)) (Or.inl (by decide))).trans (((hb10.2.2.2.2.1 227 2 (by decide) (by decide) (by decide) (Or.inl (by decide)) (Or.inl (by decide)) (Or.inl (by decide))).trans (bh))))) (((at16.2.2.2.2.2.2.2.1 226 4 (by decide) (by decide) (by decide) (by decide) (by decide) (Or.inl (by decide)) (Or.inl (by decide)) (Or.inl (by decide))).trans (((hb10.2.2.2.2.1 226 4 (by decide) (by decide) (by decide) (Or.inl (by decide)) (Or.inl (by decide)) (Or.inl (by decide))).trans (bc))))) (((at16.2.2.2.2.2.2.2.1 231 (c - 1) (by decide) (by decide) (by decide) (by decide) (by decide) (Or.inl (by decide)) (Or.inl (by decide)) (Or.inl (by decide))).trans (((hb10.2.2.2.2.1 231 (c - 1) (by decide) (by decide) (by decide) (Or.inl (by decide)) (Or.inl (by decide)) (Or.inl (by decide))).trans (bp))))) (((at16.2.2.2.2.2.2.2.1 228 (-1) (by decide) (by decide) (by decide) (by decide) (by decide) (Or.inl (by decide)) (Or.inl (by decide)) (Or.inl (by decide))).trans (((hb10.2.2.2.2.1 228 (-1) (by decide) (by decide) (by decide) (Or.inl (by decide)) (Or.inl (by decide)) (Or.inl (by decide))).trans (rfl))))) (((at16.2.2.2.2.2.2.2.1 229 (-1) (by decide) (by decide) (by decide) (by decide) (by decide) (Or.inl (by decide)) (Or.inl (by decide)) (Or.inl (by decide))).trans (((hb10.2.2.2.2.1 229 (-1) (by decide) (by decide) (by decide) (Or.inl (by decide)) (Or.inl (by decide)) (Or.inl (by decide))).trans (bl1))))) ⟨by omega, by omega⟩ ⟨by omega, by omega, by omega⟩ ⟨by omega, by omega⟩ ⟨by omega, by omega⟩) (fun oq18 Sq18 hp19 q18 => ?_)
              rcases q18 with ⟨rfl, A18, ra18, rfl⟩
              show wJ _ _ _ _ _ _ _ _ _ _
              refine wa_return rfl ?_
              exact ⟨rfl, Or.inr (Or.inr ⟨by omega, by omega, by omega, Sq10, Sq16, hb10, at16, A18, ra18, rfl⟩)⟩
          · skip
            exact absurd c9 (by omega)
        · skip
          exact absurd c8 (by omega)
  · skip
    refine wa_aload_n (n := 0) rfl ?_
    refine wb_gf4 72 rfl (wy_pr rfl) wt_72 wf_2_2 (v := 126) wl_72_2 ?_
    refine wa_iconst ?_
    refine wb_aald5 126 5 rfl rfl (wy_pr rfl) wt_126 (by rw [show _ = _ from ((cl_126 hC))]; omega) wl_126_5 ?_
    refine wa_iload_n (n := 1) rfl ?_
    refine wb_iald 132 rfl (wy_pr rfl) wt_132 (n := (S 127 (-1))) ((hth 5 (by decide))) (by omega) (by omega) (v := r) (e132) (fun r20 => ?_)
    refine wa_iconst ?_
    refine wa_icmpne (w_rg0 (by omega) (by omega)) (w_rg0 (by omega) (by omega)) ⟨_, rfl⟩ (fun c21 => ?_) (fun c21 => ?_)
    · skip
      refine wa_iconst ?_
      refine wa_fall ⟨_, rfl⟩ ?_
      refine wa_istore_n (n := 2) rfl ?_
      refine wa_aload_n (n := 0) rfl ?_
      refine wa_iconst ?_
      refine wa_iconst ?_
      refine wa_cv 72 rfl (wy_pr rfl) wt_72 (M2 := mS [228, 229, 127, 128, 129, 130, 131, 132, 133, 134, 135, 136, 141, 142, 144, 145, 146, 147, 148]) rfl at_XH_hasRoom ⟨_, rfl⟩ rfl rfl ⟨trivial, (Or.inr ⟨wy_pr rfl, mS_no rfl⟩), trivial, trivial⟩ trivial (fun _ _ q => q) ?_ (fun _ _ _ q => q)
      refine wa_aload_n (n := 0) rfl ?_
      refine wb_gf4 72 rfl (wy_pr rfl) wt_72 wf_2_10 (v := 150) wl_72_10 ?_
      refine wa_iload_n (n := 1) rfl ?_
      refine wb_iald 150 rfl (wy_pr rfl) wt_150 (n := 6) ((cl_150 hC)) (by omega) (by omega) (v := u0) (hu0) (fun r22 => ?_)
      refine wa_iload_n (n := 2) rfl ?_
      refine wa_iadd ?_
      refine wa_gs ?_
      refine wa_iload_n (n := 1) rfl ?_
      refine wb_xald 1 rfl hx1 (by decide) (by omega) (by decide) (v := 8000) (by decide) (fun r23 => ?_)
      refine wa_icmpgt (w_rg0 (by omega) (by omega)) (w_rg0 (by omega) (by omega)) ⟨_, rfl⟩ (fun c24 => ?_) (fun c24 => ?_)
      · skip
        refine wa_iconst ?_
        refine wa_fall ⟨_, rfl⟩ ?_
        refine wa_zreturn rfl (Or.inl rfl) ?_
        show wJ _ _ _ _ _ _ _ _ _ _
        refine wa_ifeq (w_rg0 (by omega) (by omega)) ⟨_, rfl⟩ (fun c25 => ?_) (fun c25 => ?_)
        · skip
          refine wa_iconst ?_
          refine wa_fall ⟨_, rfl⟩ ?_
          refine wa_zreturn rfl (Or.inl rfl) ?_
          show wJ _ _ _ _ _ _ _ _ _ _
          refine wa_ifne (w_rg0 (by omega) (by omega)) ⟨_, rfl⟩ (fun c26 => ?_) (fun c26 => ?_)
          · skip
            exact absurd c26 (by omega)
          · skip
            refine wa_aload_n (n := 0) rfl ?_
            refine wa_bipush (w_rg2 (by omega) (by omega)) ?_
            refine wb_pfi 226 rfl (wy_pr rfl) wt_226 wf_8_16 (n := 16) rfl ⟨(by omega), (by omega)⟩ ?_
            refine wa_return rfl ?_
            exact ⟨rfl, Or.inl ⟨by omega, rfl⟩⟩
        · skip
          exact absurd c25 (by omega)
      · skip
        refine wa_iconst ?_
        refine wa_goto ⟨_, rfl⟩ ?_
        refine wa_zreturn rfl (Or.inr rfl) ?_
        show wJ _ _ _ _ _ _ _ _ _ _
        refine wa_ifeq (w_rg0 (by omega) (by omega)) ⟨_, rfl⟩ (fun c27 => ?_) (fun c27 => ?_)
        · skip
          exact absurd c27 (by omega)
        · skip
          refine wa_iload_n (n := 2) rfl ?_
          refine wa_ifeq (w_rg0 (by omega) (by omega)) ⟨_, rfl⟩ (fun c28 => ?_) (fun c28 => ?_)
          · skip
            refine wa_iconst ?_
            refine wa_goto ⟨_, rfl⟩ ?_
            refine wa_zreturn rfl (Or.inr rfl) ?_
            show wJ _ _ _ _ _ _ _ _ _ _
            refine wa_ifne (w_rg0 (by omega) (by omega)) ⟨_, rfl⟩ (fun c29 => ?_) (fun c29 => ?_)
            · skip
              refine wa_aload_n (n := 0) rfl ?_
              refine wb_gf4 226 rfl (wy_pr rfl) wt_226 wf_8_0 (v := 72) wl_226_0 ?_
              refine wa_iload_n (n := 2) rfl ?_
              refine wa_cv 72 rfl (wy_pr rfl) wt_72 (M2 := mS [144, 145, 146, 147, 148]) rfl at_XH_bareShape ⟨_, rfl⟩ rfl rfl ⟨(Or.inr ⟨wy_pr rfl, mS_no rfl⟩), trivial, trivial, trivial⟩ trivial (fun _ _ q => mS_sub (by decide) q) (c_bs hC hI hsw hlt hw hq hr ⟨by omega, fun z => by omega⟩) (fun oq30 Sq30 hp31 q30 => ?_)
              rcases q30 with ⟨hbr, rfl, rfl⟩ | ⟨hbr, hb30, rfl⟩
              · skip
                show wJ _ _ _ _ _ _ _ _ _ _
                refine wa_istore_n (n := 3) rfl ?_
                refine wa_aload_n (n := 0) rfl ?_
                refine wa_iload_n (n := 1) rfl ?_
                refine wa_iconst ?_
                refine wa_aload_n (n := 0) rfl ?_
                refine wb_gf4 226 rfl (wy_pr rfl) wt_226 wf_8_0 (v := 72) wl_226_0 ?_
                refine wa_iconst ?_
                refine wa_iload_n (n := 3) rfl ?_
                refine wa_iconst ?_
                refine wa_iconst ?_
                have at32a : S 141 (-1) = (S 141 (-1)) := (rfl)
                have at32b : S 142 (-1) = S 141 (-1) := ((hl) : S 142 (-1) = (S 141 (-1))).trans at32a.symm
                have at32c : S 127 (-1) = (S 127 (-1)) := (rfl)
                have at32d : ∀ x : Nat, x < 10 → S (127 + x) (-1) = S 127 (-1) := (hth)
                refine wa_cv 72 rfl (wy_pr rfl) wt_72 (M2 := mS [127, 128, 129, 130, 131, 132, 133, 134, 135, 136, 141, 142]) rfl at_XH_addThing ⟨_, rfl⟩ rfl rfl ⟨trivial, (Or.inr ⟨wy_pr rfl, mS_no rfl⟩), trivial, trivial, trivial⟩ ⟨trivial, trivial, (Or.inr ⟨wy_pr rfl, mS_no rfl⟩), trivial⟩ (fun _ _ q => mS_sub (by decide) q) (atH_ok (S := S) (kd := 4) (sh := r) (fo := (-1)) (rm := 0) (cs := cs) (n := n) (u0 := u0) hC hI (h2) ⟨by omega, by omega⟩ at32b ⟨by omega, by omega⟩ at32d (hn) ⟨by omega, by omega⟩ ⟨by omega, by omega⟩ (hu0) ⟨by omega, by omega⟩ ⟨by omega, by omega⟩ ⟨by omega, by omega⟩ ⟨by omega, by omega⟩ ⟨by omega, by omega⟩) (fun oq32 Sq32 hp33 q32 => ?_)
                rcases q32 with ⟨rfl, at32⟩
                show wJ _ _ _ _ _ _ _ _ _ _
                have at32e := at32.2.2.2.2.2.2.1.2
                have at32f := at32.2.2.2.2.2.1
                refine wa_i2l (w_rg0 (by omega) (by omega)) ?_
                refine wa_cv 226 rfl (wy_pr rfl) wt_226 (M2 := mS [228, 229]) rfl at_XK_give ⟨_, rfl⟩ rfl rfl ⟨trivial, (Or.inr ⟨wy_pr rfl, mS_no rfl⟩), trivial, trivial, trivial⟩ trivial (fun _ _ q => mS_sub (by decide) q) (gw_226 (S := Sq32) (n := tk) (k := 4) (v := n) (h := h) (c := c) (p := p) (ln := (S 228 (-1))) (CL_at hC at32) at32.2.2.2.2.2.2.2.2.1 ⟨by omega, by omega⟩ ⟨by omega, by omega⟩ (((at32.2.2.2.2.2.2.2.1 227 2 (by decide) (by decide) (by decide) (by decide) (by decide) (Or.inl (by decide)) (Or.inl (by decide)) (Or.inl (by decide))).trans (bh))) (((at32.2.2.2.2.2.2.2.1 226 4 (by decide) (by decide) (by decide) (by decide) (by decide) (Or.inl (by decide)) (Or.inl (by decide)) (Or.inl (by decide))).trans (bc))) (((at32.2.2.2.2.2.2.2.1 231 (c - 1) (by decide) (by decide) (by decide) (by decide) (by decide) (Or.inl (by decide)) (Or.inl (by decide)) (Or.inl (by decide))).trans (bp))) (((at32.2.2.2.2.2.2.2.1 228 (-1) (by decide) (by decide) (by decide) (by decide) (by decide) (Or.inl (by decide)) (Or.inl (by decide)) (Or.inl (by decide))).trans (rfl))) (((at32.2.2.2.2.2.2.2.1 229 (-1) (by decide) (by decide) (by decide) (by decide) (by decide) (Or.inl (by decide)) (Or.inl (by decide)) (Or.inl (by decide))).trans (bl1))) ⟨by omega, by omega⟩ ⟨by omega, by omega, by omega⟩ ⟨by omega, by omega⟩ ⟨by omega, by omega⟩) (fun oq34 Sq34 hp35 q34 => ?_)
                rcases q34 with ⟨rfl, A34, ra34, rfl⟩
                show wJ _ _ _ _ _ _ _ _ _ _
                refine wa_return rfl ?_
                exact ⟨rfl, Or.inr (Or.inl ⟨by omega, by omega, Sq32, at32, A34, ra34, rfl⟩)⟩
              · skip
                show wJ _ _ _ _ _ _ _ _ _ _
                refine wa_istore_n (n := 3) rfl ?_
                refine wa_aload_n (n := 0) rfl ?_
                refine wa_iload_n (n := 1) rfl ?_
                refine wa_iconst ?_
                refine wa_aload_n (n := 0) rfl ?_
                refine wb_gf4 226 rfl (wy_pr rfl) wt_226 wf_8_0 (v := 72) wl_226_0 ?_
                refine wa_iconst ?_
                refine wa_iload_n (n := 3) rfl ?_
                refine wa_iconst ?_
                refine wa_iconst ?_
                have at36a : Sq30 141 (-1) = (S 141 (-1)) := (((hb30.2.2.2.2.1 141 (-1) (by first | decide | omega) (by first | decide | omega) (by first | decide | omega) (Or.inl (by first | decide | omega)) (Or.inl (by first | decide | omega)) (Or.inl (by first | decide | omega))).trans (rfl)))
                have at36b : Sq30 142 (-1) = Sq30 141 (-1) := ((((hb30.2.2.2.2.1 142 (-1) (by first | decide | omega) (by first | decide | omega) (by first | decide | omega) (Or.inl (by first | decide | omega)) (Or.inl (by first | decide | omega)) (Or.inl (by first | decide | omega))).trans (hl))) : Sq30 142 (-1) = (S 141 (-1))).trans at36a.symm
                have at36c : Sq30 127 (-1) = (S 127 (-1)) := (((hb30.2.2.2.2.1 127 (-1) (by first | decide | omega) (by first | decide | omega) (by first | decide | omega) (Or.inl (by first | decide | omega)) (Or.inl (by first | decide | omega)) (Or.inl (by first | decide | omega))).trans (rfl)))
                have at36d : ∀ x : Nat, x < 10 → Sq30 (127 + x) (-1) = Sq30 127 (-1) := (fun x hx => (hb30.2.2.2.2.1 (127 + x) (-1) (by omega) (by omega) (by omega) (Or.inr (by omega)) (by omega) (by omega)).trans ((hth x hx).trans (hb30.2.2.2.2.1 127 (-1) (by first | decide | omega) (by first | decide | omega) (by first | decide | omega) (Or.inl (by first | decide | omega)) (by first | decide | omega) (by first | decide | omega)).symm))
                refine wa_cv 72 rfl (wy_pr rfl) wt_72 (M2 := mS [127, 128, 129, 130, 131, 132, 133, 134, 135, 136, 141, 142]) rfl at_XH_addThing ⟨_, rfl⟩ rfl rfl ⟨trivial, (Or.inr ⟨wy_pr rfl, mS_no rfl⟩), trivial, trivial, trivial⟩ ⟨trivial, trivial, (Or.inr ⟨wy_pr rfl, mS_no rfl⟩), trivial⟩ (fun _ _ q => mS_sub (by decide) q) (atH_ok (S := Sq30) (kd := 4) (sh := (H.length : Int)) (fo := (-1)) (rm := 0) (cs := cs) (n := n) (u0 := u0) (CL_bs hC hb30) hb30.2.2.2.2.2.1 (((hb30.2.2.2.2.1 140 2 (by decide) (by decide) (by decide) (Or.inl (by decide)) (Or.inl (by decide)) (Or.inl (by decide))).trans (h2))) ⟨by omega, by omega⟩ at36b ⟨by omega, by omega⟩ at36d (((hb30.2.2.2.2.1 72 3 (by decide) (by decide) (by decide) (Or.inl (by decide)) (Or.inr (by decide)) (Or.inl (by decide))).trans (hn))) ⟨by omega, by omega⟩ ⟨by omega, by omega⟩ (((hb30.2.2.2.2.1 150 0 (by decide) (by decide) (by decide) (Or.inl (by decide)) (Or.inl (by decide)) (Or.inr (by decide))).trans (hu0))) ⟨by omega, by omega⟩ ⟨by omega, by omega⟩ ⟨by omega, by omega⟩ ⟨by omega, by omega⟩ ⟨by omega, by omega⟩) (fun oq36 Sq36 hp37 q36 => ?_)
                rcases q36 with ⟨rfl, at36⟩
                show wJ _ _ _ _ _ _ _ _ _ _
                have at36e := at36.2.2.2.2.2.2.1.2
                have at36f := at36.2.2.2.2.2.1
                refine wa_i2l (w_rg0 (by omega) (by omega)) ?_
                refine wa_cv 226 rfl (wy_pr rfl) wt_226 (M2 := mS [228, 229]) rfl at_XK_give ⟨_, rfl⟩ rfl rfl ⟨trivial, (Or.inr ⟨wy_pr rfl, mS_no rfl⟩), trivial, trivial, trivial⟩ trivial (fun _ _ q => mS_sub (by decide) q) (gw_226 (S := Sq36) (n := tk) (k := 4) (v := n) (h := h) (c := c) (p := p) (ln := (S 228 (-1))) (CL_at (CL_bs hC hb30) at36) at36.2.2.2.2.2.2.2.2.1 ⟨by omega, by omega⟩ ⟨by omega, by omega⟩ (((at36.2.2.2.2.2.2.2.1 227 2 (by decide) (by decide) (by decide) (by decide) (by decide) (Or.inl (by decide)) (Or.inl (by decide)) (Or.inl (by decide))).trans (((hb30.2.2.2.2.1 227 2 (by decide) (by decide) (by decide) (Or.inl (by decide)) (Or.inl (by decide)) (Or.inl (by decide))).trans (bh))))) (((at36.2.2.2.2.2.2.2.1 226 4 (by decide) (by decide) (by decide) (by decide) (by decide) (Or.inl (by decide)) (Or.inl (by decide)) (Or.inl (by decide))).trans (((hb30.2.2.2.2.1 226 4 (by decide) (by decide) (by decide) (Or.inl (by decide)) (Or.inl (by decide)) (Or.inl (by decide))).trans (bc))))) (((at36.2.2.2.2.2.2.2.1 231 (c - 1) (by decide) (by decide) (by decide) (by decide) (by decide) (Or.inl (by decide)) (Or.inl (by decide)) (Or.inl (by decide))).trans (((hb30.2.2.2.2.1 231 (c - 1) (by decide) (by decide) (by decide) (Or.inl (by decide)) (Or.inl (by decide)) (Or.inl (by decide))).trans (bp))))) (((at36.2.2.2.2.2.2.2.1 228 (-1) (by decide) (by decide) (by decide) (by decide) (by decide) (Or.inl (by decide)) (Or.inl (by decide)) (Or.inl (by decide))).trans (((hb30.2.2.2.2.1 228 (-1) (by decide) (by decide) (by decide) (Or.inl (by decide)) (Or.inl (by decide)) (Or.inl (by decide))).trans (rfl))))) (((at36.2.2.2.2.2.2.2.1 229 (-1) (by decide) (by decide) (by decide) (by decide) (by decide) (Or.inl (by decide)) (Or.inl (by decide)) (Or.inl (by decide))).trans (((hb30.2.2.2.2.1 229 (-1) (by decide) (by decide) (by decide) (Or.inl (by decide)) (Or.inl (by decide)) (Or.inl (by decide))).trans (bl1))))) ⟨by omega, by omega⟩ ⟨by omega, by omega, by omega⟩ ⟨by omega, by omega⟩ ⟨by omega, by omega⟩) (fun oq38 Sq38 hp39 q38 => ?_)
                rcases q38 with ⟨rfl, A38, ra38, rfl⟩
                show wJ _ _ _ _ _ _ _ _ _ _
                refine wa_return rfl ?_
                exact ⟨rfl, Or.inr (Or.inr ⟨by omega, by omega, by omega, Sq30, Sq36, hb30, at36, A38, ra38, rfl⟩)⟩
            · skip
              exact absurd c29 (by omega)
          · skip
            exact absurd c28 (by omega)
    · skip
      refine wa_iconst ?_
      refine wa_goto ⟨_, rfl⟩ ?_
      refine wa_istore_n (n := 2) rfl ?_
      refine wa_aload_n (n := 0) rfl ?_
      refine wa_iconst ?_
      refine wa_iconst ?_
      refine wa_cv 72 rfl (wy_pr rfl) wt_72 (M2 := mS [228, 229, 127, 128, 129, 130, 131, 132, 133, 134, 135, 136, 141, 142, 144, 145, 146, 147, 148]) rfl at_XH_hasRoom ⟨_, rfl⟩ rfl rfl ⟨trivial, (Or.inr ⟨wy_pr rfl, mS_no rfl⟩), trivial, trivial⟩ trivial (fun _ _ q => q) ?_ (fun _ _ _ q => q)
      refine wa_aload_n (n := 0) rfl ?_
      refine wb_gf4 72 rfl (wy_pr rfl) wt_72 wf_2_10 (v := 150) wl_72_10 ?_
      refine wa_iload_n (n := 1) rfl ?_
      refine wb_iald 150 rfl (wy_pr rfl) wt_150 (n := 6) ((cl_150 hC)) (by omega) (by omega) (v := u0) (hu0) (fun r40 => ?_)
      refine wa_iload_n (n := 2) rfl ?_
      refine wa_iadd ?_
      refine wa_gs ?_
      refine wa_iload_n (n := 1) rfl ?_
      refine wb_xald 1 rfl hx1 (by decide) (by omega) (by decide) (v := 8000) (by decide) (fun r41 => ?_)
      refine wa_icmpgt (w_rg0 (by omega) (by omega)) (w_rg0 (by omega) (by omega)) ⟨_, rfl⟩ (fun c42 => ?_) (fun c42 => ?_)
      · skip
        refine wa_iconst ?_
        refine wa_fall ⟨_, rfl⟩ ?_
        refine wa_zreturn rfl (Or.inl rfl) ?_
        show wJ _ _ _ _ _ _ _ _ _ _
        refine wa_ifeq (w_rg0 (by omega) (by omega)) ⟨_, rfl⟩ (fun c43 => ?_) (fun c43 => ?_)
        · skip
          refine wa_iconst ?_
          refine wa_fall ⟨_, rfl⟩ ?_
          refine wa_zreturn rfl (Or.inl rfl) ?_
          show wJ _ _ _ _ _ _ _ _ _ _
          refine wa_ifne (w_rg0 (by omega) (by omega)) ⟨_, rfl⟩ (fun c44 => ?_) (fun c44 => ?_)
          · skip
            exact absurd c44 (by omega)
          · skip
            refine wa_aload_n (n := 0) rfl ?_
            refine wa_bipush (w_rg2 (by omega) (by omega)) ?_
            refine wb_pfi 226 rfl (wy_pr rfl) wt_226 wf_8_16 (n := 16) rfl ⟨(by omega), (by omega)⟩ ?_
            refine wa_return rfl ?_
            exact ⟨rfl, Or.inl ⟨by omega, rfl⟩⟩
        · skip
          exact absurd c43 (by omega)
      · skip
        refine wa_iconst ?_
        refine wa_goto ⟨_, rfl⟩ ?_
        refine wa_zreturn rfl (Or.inr rfl) ?_
        show wJ _ _ _ _ _ _ _ _ _ _
        refine wa_ifeq (w_rg0 (by omega) (by omega)) ⟨_, rfl⟩ (fun c45 => ?_) (fun c45 => ?_)
        · skip
          exact absurd c45 (by omega)
        · skip
          refine wa_iload_n (n := 2) rfl ?_
          refine wa_ifeq (w_rg0 (by omega) (by omega)) ⟨_, rfl⟩ (fun c46 => ?_) (fun c46 => ?_)
          · skip
            exact absurd c46 (by omega)
          · skip
            refine wa_aload_n (n := 0) rfl ?_
            refine wa_iconst ?_
            refine wa_iconst ?_
            refine wa_cv 72 rfl (wy_pr rfl) wt_72 (M2 := mS [228, 229, 127, 128, 129, 130, 131, 132, 133, 134, 135, 136, 141, 142, 144, 145, 146, 147, 148]) rfl at_XH_hasRoom ⟨_, rfl⟩ rfl rfl ⟨trivial, (Or.inr ⟨wy_pr rfl, mS_no rfl⟩), trivial, trivial⟩ trivial (fun _ _ q => q) ?_ (fun _ _ _ q => q)
            refine wa_aload_n (n := 0) rfl ?_
            refine wb_gf4 72 rfl (wy_pr rfl) wt_72 wf_2_10 (v := 150) wl_72_10 ?_
            refine wa_iload_n (n := 1) rfl ?_
            refine wb_iald 150 rfl (wy_pr rfl) wt_150 (n := 6) ((cl_150 hC)) (by omega) (by omega) (v := u4) (eu4) (fun r47 => ?_)
            refine wa_iload_n (n := 2) rfl ?_
            refine wa_iadd ?_
            refine wa_gs ?_
            refine wa_iload_n (n := 1) rfl ?_
            refine wb_xald 1 rfl hx1 (by decide) (by omega) (by decide) (v := 4000) (by decide) (fun r48 => ?_)
            refine wa_icmpgt (w_rg0 (by omega) (by omega)) (w_rg0 (by omega) (by omega)) ⟨_, rfl⟩ (fun c49 => ?_) (fun c49 => ?_)
            · skip
              refine wa_iconst ?_
              refine wa_fall ⟨_, rfl⟩ ?_
              refine wa_zreturn rfl (Or.inl rfl) ?_
              show wJ _ _ _ _ _ _ _ _ _ _
              refine wa_ifeq (w_rg0 (by omega) (by omega)) ⟨_, rfl⟩ (fun c50 => ?_) (fun c50 => ?_)
              · skip
                refine wa_iconst ?_
                refine wa_fall ⟨_, rfl⟩ ?_
                refine wa_zreturn rfl (Or.inl rfl) ?_
                show wJ _ _ _ _ _ _ _ _ _ _
                refine wa_ifne (w_rg0 (by omega) (by omega)) ⟨_, rfl⟩ (fun c51 => ?_) (fun c51 => ?_)
                · skip
                  exact absurd c51 (by omega)
                · skip
                  refine wa_aload_n (n := 0) rfl ?_
                  refine wa_bipush (w_rg2 (by omega) (by omega)) ?_
                  refine wb_pfi 226 rfl (wy_pr rfl) wt_226 wf_8_16 (n := 16) rfl ⟨(by omega), (by omega)⟩ ?_
                  refine wa_return rfl ?_
                  exact ⟨rfl, Or.inl ⟨by omega, rfl⟩⟩
              · skip
                exact absurd c50 (by omega)
            · skip
              refine wa_iconst ?_
              refine wa_goto ⟨_, rfl⟩ ?_
              refine wa_zreturn rfl (Or.inr rfl) ?_
              show wJ _ _ _ _ _ _ _ _ _ _
              refine wa_ifeq (w_rg0 (by omega) (by omega)) ⟨_, rfl⟩ (fun c52 => ?_) (fun c52 => ?_)
              · skip
                exact absurd c52 (by omega)
              · skip
                refine wa_fall ⟨_, rfl⟩ ?_
                refine wa_iconst ?_
                refine wa_goto ⟨_, rfl⟩ ?_
                refine wa_zreturn rfl (Or.inr rfl) ?_
                show wJ _ _ _ _ _ _ _ _ _ _
                refine wa_ifne (w_rg0 (by omega) (by omega)) ⟨_, rfl⟩ (fun c53 => ?_) (fun c53 => ?_)
                · skip
                  refine wa_aload_n (n := 0) rfl ?_
                  refine wb_gf4 226 rfl (wy_pr rfl) wt_226 wf_8_0 (v := 72) wl_226_0 ?_
                  refine wa_iload_n (n := 2) rfl ?_
                  refine wa_cv 72 rfl (wy_pr rfl) wt_72 (M2 := mS [144, 145, 146, 147, 148]) rfl at_XH_bareShape ⟨_, rfl⟩ rfl rfl ⟨(Or.inr ⟨wy_pr rfl, mS_no rfl⟩), trivial, trivial, trivial⟩ trivial (fun _ _ q => mS_sub (by decide) q) (c_bs hC hI hsw hlt hw hq hr ⟨by omega, fun z => by omega⟩) (fun oq54 Sq54 hp55 q54 => ?_)
                  rcases q54 with ⟨hbr, rfl, rfl⟩ | ⟨hbr, hb54, rfl⟩
                  · skip
                    show wJ _ _ _ _ _ _ _ _ _ _
                    refine wa_istore_n (n := 3) rfl ?_
                    refine wa_aload_n (n := 0) rfl ?_
                    refine wa_iload_n (n := 1) rfl ?_
                    refine wa_iconst ?_
                    refine wa_aload_n (n := 0) rfl ?_
                    refine wb_gf4 226 rfl (wy_pr rfl) wt_226 wf_8_0 (v := 72) wl_226_0 ?_
                    refine wa_iconst ?_
                    refine wa_iload_n (n := 3) rfl ?_
                    refine wa_iconst ?_
                    refine wa_iconst ?_
                    have at56a : S 141 (-1) = (S 141 (-1)) := (rfl)
                    have at56b : S 142 (-1) = S 141 (-1) := ((hl) : S 142 (-1) = (S 141 (-1))).trans at56a.symm
                    have at56c : S 127 (-1) = (S 127 (-1)) := (rfl)
                    have at56d : ∀ x : Nat, x < 10 → S (127 + x) (-1) = S 127 (-1) := (hth)
                    refine wa_cv 72 rfl (wy_pr rfl) wt_72 (M2 := mS [127, 128, 129, 130, 131, 132, 133, 134, 135, 136, 141, 142]) rfl at_XH_addThing ⟨_, rfl⟩ rfl rfl ⟨trivial, (Or.inr ⟨wy_pr rfl, mS_no rfl⟩), trivial, trivial, trivial⟩ ⟨trivial, trivial, (Or.inr ⟨wy_pr rfl, mS_no rfl⟩), trivial⟩ (fun _ _ q => mS_sub (by decide) q) (atH_ok (S := S) (kd := 4) (sh := r) (fo := (-1)) (rm := 0) (cs := cs) (n := n) (u0 := u0) hC hI (h2) ⟨by omega, by omega⟩ at56b ⟨by omega, by omega⟩ at56d (hn) ⟨by omega, by omega⟩ ⟨by omega, by omega⟩ (hu0) ⟨by omega, by omega⟩ ⟨by omega, by omega⟩ ⟨by omega, by omega⟩ ⟨by omega, by omega⟩ ⟨by omega, by omega⟩) (fun oq56 Sq56 hp57 q56 => ?_)
                    rcases q56 with ⟨rfl, at56⟩
                    show wJ _ _ _ _ _ _ _ _ _ _
                    have at56e := at56.2.2.2.2.2.2.1.2
                    have at56f := at56.2.2.2.2.2.1
                    refine wa_i2l (w_rg0 (by omega) (by omega)) ?_
                    refine wa_cv 226 rfl (wy_pr rfl) wt_226 (M2 := mS [228, 229]) rfl at_XK_give ⟨_, rfl⟩ rfl rfl ⟨trivial, (Or.inr ⟨wy_pr rfl, mS_no rfl⟩), trivial, trivial, trivial⟩ trivial (fun _ _ q => mS_sub (by decide) q) (gw_226 (S := Sq56) (n := tk) (k := 4) (v := n) (h := h) (c := c) (p := p) (ln := (S 228 (-1))) (CL_at hC at56) at56.2.2.2.2.2.2.2.2.1 ⟨by omega, by omega⟩ ⟨by omega, by omega⟩ (((at56.2.2.2.2.2.2.2.1 227 2 (by decide) (by decide) (by decide) (by decide) (by decide) (Or.inl (by decide)) (Or.inl (by decide)) (Or.inl (by decide))).trans (bh))) (((at56.2.2.2.2.2.2.2.1 226 4 (by decide) (by decide) (by decide) (by decide) (by decide) (Or.inl (by decide)) (Or.inl (by decide)) (Or.inl (by decide))).trans (bc))) (((at56.2.2.2.2.2.2.2.1 231 (c - 1) (by decide) (by decide) (by decide) (by decide) (by decide) (Or.inl (by decide)) (Or.inl (by decide)) (Or.inl (by decide))).trans (bp))) (((at56.2.2.2.2.2.2.2.1 228 (-1) (by decide) (by decide) (by decide) (by decide) (by decide) (Or.inl (by decide)) (Or.inl (by decide)) (Or.inl (by decide))).trans (rfl))) (((at56.2.2.2.2.2.2.2.1 229 (-1) (by decide) (by decide) (by decide) (by decide) (by decide) (Or.inl (by decide)) (Or.inl (by decide)) (Or.inl (by decide))).trans (bl1))) ⟨by omega, by omega⟩ ⟨by omega, by omega, by omega⟩ ⟨by omega, by omega⟩ ⟨by omega, by omega⟩) (fun oq58 Sq58 hp59 q58 => ?_)
                    rcases q58 with ⟨rfl, A58, ra58, rfl⟩
                    show wJ _ _ _ _ _ _ _ _ _ _
                    refine wa_return rfl ?_
                    exact ⟨rfl, Or.inr (Or.inl ⟨by omega, by omega, Sq56, at56, A58, ra58, rfl⟩)⟩
                  · skip
                    show wJ _ _ _ _ _ _ _ _ _ _
                    refine wa_istore_n (n := 3) rfl ?_
                    refine wa_aload_n (n := 0) rfl ?_
                    refine wa_iload_n (n := 1) rfl ?_
                    refine wa_iconst ?_
                    refine wa_aload_n (n := 0) rfl ?_
                    refine wb_gf4 226 rfl (wy_pr rfl) wt_226 wf_8_0 (v := 72) wl_226_0 ?_
                    refine wa_iconst ?_
                    refine wa_iload_n (n := 3) rfl ?_
                    refine wa_iconst ?_
                    refine wa_iconst ?_
                    have at60a : Sq54 141 (-1) = (S 141 (-1)) := (((hb54.2.2.2.2.1 141 (-1) (by first | decide | omega) (by first | decide | omega) (by first | decide | omega) (Or.inl (by first | decide | omega)) (Or.inl (by first | decide | omega)) (Or.inl (by first | decide | omega))).trans (rfl)))
                    have at60b : Sq54 142 (-1) = Sq54 141 (-1) := ((((hb54.2.2.2.2.1 142 (-1) (by first | decide | omega) (by first | decide | omega) (by first | decide | omega) (Or.inl (by first | decide | omega)) (Or.inl (by first | decide | omega)) (Or.inl (by first | decide | omega))).trans (hl))) : Sq54 142 (-1) = (S 141 (-1))).trans at60a.symm
                    have at60c : Sq54 127 (-1) = (S 127 (-1)) := (((hb54.2.2.2.2.1 127 (-1) (by first | decide | omega) (by first | decide | omega) (by first | decide | omega) (Or.inl (by first | decide | omega)) (Or.inl (by first | decide | omega)) (Or.inl (by first | decide | omega))).trans (rfl)))
                    have at60d : ∀ x : Nat, x < 10 → Sq54 (127 + x) (-1) = Sq54 127 (-1) := (fun x hx => (hb54.2.2.2.2.1 (127 + x) (-1) (by omega) (by omega) (by omega) (Or.inr (by omega)) (by omega) (by omega)).trans ((hth x hx).trans (hb54.2.2.2.2.1 127 (-1) (by first | decide | omega) (by first | decide | omega) (by first | decide | omega) (Or.inl (by first | decide | omega)) (by first | decide | omega) (by first | decide | omega)).symm))
                    refine wa_cv 72 rfl (wy_pr rfl) wt_72 (M2 := mS [127, 128, 129, 130, 131, 132, 133, 134, 135, 136, 141, 142]) rfl at_XH_addThing ⟨_, rfl⟩ rfl rfl ⟨trivial, (Or.inr ⟨wy_pr rfl, mS_no rfl⟩), trivial, trivial, trivial⟩ ⟨trivial, trivial, (Or.inr ⟨wy_pr rfl, mS_no rfl⟩), trivial⟩ (fun _ _ q => mS_sub (by decide) q) (atH_ok (S := Sq54) (kd := 4) (sh := (H.length : Int)) (fo := (-1)) (rm := 0) (cs := cs) (n := n) (u0 := u0) (CL_bs hC hb54) hb54.2.2.2.2.2.1 (((hb54.2.2.2.2.1 140 2 (by decide) (by decide) (by decide) (Or.inl (by decide)) (Or.inl (by decide)) (Or.inl (by decide))).trans (h2))) ⟨by omega, by omega⟩ at60b ⟨by omega, by omega⟩ at60d (((hb54.2.2.2.2.1 72 3 (by decide) (by decide) (by decide) (Or.inl (by decide)) (Or.inr (by decide)) (Or.inl (by decide))).trans (hn))) ⟨by omega, by omega⟩ ⟨by omega, by omega⟩ (((hb54.2.2.2.2.1 150 0 (by decide) (by decide) (by decide) (Or.inl (by decide)) (Or.inl (by decide)) (Or.inr (by decide))).trans (hu0))) ⟨by omega, by omega⟩ ⟨by omega, by omega⟩ ⟨by omega, by omega⟩ ⟨by omega, by omega⟩ ⟨by omega, by omega⟩) (fun oq60 Sq60 hp61 q60 => ?_)
                    rcases q60 with ⟨rfl, at60⟩
                    show wJ _ _ _ _ _ _ _ _ _ _
                    have at60e := at60.2.2.2.2.2.2.1.2
                    have at60f := at60.2.2.2.2.2.1
                    refine wa_i2l (w_rg0 (by omega) (by omega)) ?_
                    refine wa_cv 226 rfl (wy_pr rfl) wt_226 (M2 := mS [228, 229]) rfl at_XK_give ⟨_, rfl⟩ rfl rfl ⟨trivial, (Or.inr ⟨wy_pr rfl, mS_no rfl⟩), trivial, trivial, trivial⟩ trivial (fun _ _ q => mS_sub (by decide) q) (gw_226 (S := Sq60) (n := tk) (k := 4) (v := n) (h := h) (c := c) (p := p) (ln := (S 228 (-1))) (CL_at (CL_bs hC hb54) at60) at60.2.2.2.2.2.2.2.2.1 ⟨by omega, by omega⟩ ⟨by omega, by omega⟩ (((at60.2.2.2.2.2.2.2.1 227 2 (by decide) (by decide) (by decide) (by decide) (by decide) (Or.inl (by decide)) (Or.inl (by decide)) (Or.inl (by decide))).trans (((hb54.2.2.2.2.1 227 2 (by decide) (by decide) (by decide) (Or.inl (by decide)) (Or.inl (by decide)) (Or.inl (by decide))).trans (bh))))) (((at60.2.2.2.2.2.2.2.1 226 4 (by decide) (by decide) (by decide) (by decide) (by decide) (Or.inl (by decide)) (Or.inl (by decide)) (Or.inl (by decide))).trans (((hb54.2.2.2.2.1 226 4 (by decide) (by decide) (by decide) (Or.inl (by decide)) (Or.inl (by decide)) (Or.inl (by decide))).trans (bc))))) (((at60.2.2.2.2.2.2.2.1 231 (c - 1) (by decide) (by decide) (by decide) (by decide) (by decide) (Or.inl (by decide)) (Or.inl (by decide)) (Or.inl (by decide))).trans (((hb54.2.2.2.2.1 231 (c - 1) (by decide) (by decide) (by decide) (Or.inl (by decide)) (Or.inl (by decide)) (Or.inl (by decide))).trans (bp))))) (((at60.2.2.2.2.2.2.2.1 228 (-1) (by decide) (by decide) (by decide) (by decide) (by decide) (Or.inl (by decide)) (Or.inl (by decide)) (Or.inl (by decide))).trans (((hb54.2.2.2.2.1 228 (-1) (by decide) (by decide) (by decide) (Or.inl (by decide)) (Or.inl (by decide)) (Or.inl (by decide))).trans (rfl))))) (((at60.2.2.2.2.2.2.2.1 229 (-1) (by decide) (by decide) (by decide) (by decide) (by decide) (Or.inl (by decide)) (Or.inl (by decide)) (Or.inl (by decide))).trans (((hb54.2.2.2.2.1 229 (-1) (by decide) (by decide) (by decide) (Or.inl (by decide)) (Or.inl (by decide)) (Or.inl (by decide))).trans (bl1))))) ⟨by omega, by omega⟩ ⟨by omega, by omega, by omega⟩ ⟨by omega, by omega⟩ ⟨by omega, by omega⟩) (fun oq62 Sq62 hp63 q62 => ?_)
                    rcases q62 with ⟨rfl, A62, ra62, rfl⟩
                    show wJ _ _ _ _ _ _ _ _ _ _
                    refine wa_return rfl ?_
                    exact ⟨rfl, Or.inr (Or.inr ⟨by omega, by omega, by omega, Sq54, Sq60, hb54, at60, A62, ra62, rfl⟩)⟩
                · skip
                  exact absurd c53 (by omega)
theorem xb1n_226 {c p h cs n u0 vy : Int} (hP : xP 226 c p h S) (hx1 : pe_at (pe_GA xs).xs 1 = some (1, tx_1)) (h2 : S 140 2 = cs) (hcs : 0 ≤ cs ∧ cs ≤ S 141 (-1)) (hl : S 142 (-1) = S 141 (-1)) (hz : 16 ≤ S 141 (-1) ∧ S 141 (-1) ≤ 480400) (hth : ∀ x : Nat, x < 10 → S (127 + x) (-1) = S 127 (-1)) (hn : S 72 3 = n) (hn1 : 0 ≤ n ∧ n ≤ S 127 (-1)) (hn2 : 64 ≤ S 127 (-1) ∧ S 127 (-1) ≤ 16383) (hu0 : S 150 0 = u0) (hu1 : 0 ≤ u0 ∧ u0 ≤ 8000) (hky : S 228 (h - 1) = 0) (hvy : S 229 (h - 1) = vy) (hh1 : 1 ≤ h) : wJ (pe_GA xs) wY0 (mS [228, 229, 127, 128, 129, 130, 131, 132, 133, 134, 135, 136, 141, 142]) (d + 11) t_XK_callBuiltin ((pe_at t_XK_callBuiltin.bl 0).getD (0, [])).2 [(0, (2, 226)), (1, (0, 1))] [] S (fun o Z => o = .inl none ∧ ((8000 ≤ u0 ∧ w_up S 226 16 99 = Z) ∨ (u0 < 8000 ∧ ∃ B : wS, at_ag 4 0 (-1) 0 S B ∧ sO 226 h c p 1 4 n B Z))) := by
  obtain ⟨⟨hC, hI⟩, ⟨bc, bc0, bc1⟩, ⟨bp, bp0, bp1⟩, ⟨bh, bh0, bh1, bh2⟩, bl1, bl2, bl3⟩ := id hP
  replace bp : S 231 (c - 1) = p := bp
  replace bh : S 227 2 = h := bh
  replace bh2 : h ≤ S 228 (-1) := bh2
  replace bl1 : S 229 (-1) = S 228 (-1) := bl1
  replace bl2 : 64 ≤ S 228 (-1) := bl2
  replace bl3 : S 228 (-1) ≤ 4095 := bl3
  refine wa_aload_n (n := 0) rfl ?_
  refine wb_gf4 226 rfl (wy_pr rfl) wt_226 wf_8_3 (v := 227) wl_226_3 ?_
  refine wb_gfi 227 rfl (wy_pr rfl) wt_227 wf_7_2 (v := h) (bh) (fun r1 => ?_)
  refine wa_iconst ?_
  refine wa_isub ?_
  refine wa_istore_n (n := 2) rfl ?_
  refine wa_aload_n (n := 0) rfl ?_
  refine wb_gf4 226 rfl (wy_pr rfl) wt_226 wf_8_3 (v := 227) wl_226_3 ?_
  refine wb_gf4 227 rfl (wy_pr rfl) wt_227 wf_7_0 (v := 228) wl_227_0 ?_
  refine wa_iload_n (n := 2) rfl ?_
  refine wb_bald 228 rfl (wy_pr rfl) wt_228 (n := (S 228 (-1))) (rfl) (by omega) (by omega) (v := 0) (hky) (fun r2 => ?_)
  refine wa_istore_n (n := 3) rfl ?_
  refine wa_aload_n (n := 0) rfl ?_
  refine wb_gf4 226 rfl (wy_pr rfl) wt_226 wf_8_3 (v := 227) wl_226_3 ?_
  refine wb_gf4 227 rfl (wy_pr rfl) wt_227 wf_7_1 (v := 229) wl_227_1 ?_
  refine wa_iload_n (n := 2) rfl ?_
  refine wb_lald 229 rfl (wy_pr rfl) wt_229 (n := (S 228 (-1))) (bl1) (by omega) (by omega) (v := vy) (hvy) (fun r3 => ?_)
  refine wa_lstore (n := 4) rfl ?_
  refine wa_iload_n (n := 1) rfl ?_
  refine wb_sw (w_rg0 (by omega) (by omega)) (tb := 2) rfl ⟨_, rfl⟩ ?_
  refine wa_aload_n (n := 0) rfl ?_
  refine wa_iload_n (n := 2) rfl ?_
  refine wa_cv 226 rfl (wy_pr rfl) wt_226 (M2 := mS [228, 229, 127, 128, 129, 130, 131, 132, 133, 134, 135, 136, 141, 142]) rfl at_XK_isPrototype ⟨_, rfl⟩ rfl rfl ⟨trivial, trivial, trivial, (Or.inr ⟨wy_pr rfl, mS_no rfl⟩), trivial, trivial⟩ trivial (fun _ _ q => q) ?_ (fun _ _ _ q => q)
  refine wa_aload_n (n := 0) rfl ?_
  refine wb_gf4 226 rfl (wy_pr rfl) wt_226 wf_8_3 (v := 227) wl_226_3 ?_
  refine wb_gf4 227 rfl (wy_pr rfl) wt_227 wf_7_0 (v := 228) wl_227_0 ?_
  refine wa_iload_n (n := 1) rfl ?_
  refine wb_bald 228 rfl (wy_pr rfl) wt_228 (n := (S 228 (-1))) (rfl) (by omega) (by omega) (v := 0) (hky) (fun r4 => ?_)
  refine wa_ifeq (w_rg0 (by omega) (by omega)) ⟨_, rfl⟩ (fun c5 => ?_) (fun c5 => ?_)
  · skip
    refine wa_iconst ?_
    refine wa_goto ⟨_, rfl⟩ ?_
    refine wa_zreturn rfl (Or.inr rfl) ?_
    show wJ _ _ _ _ _ _ _ _ _ _
    refine wa_ifeq (w_rg0 (by omega) (by omega)) ⟨_, rfl⟩ (fun c6 => ?_) (fun c6 => ?_)
    · skip
      exact absurd c6 (by omega)
    · skip
      refine wa_aload_n (n := 0) rfl ?_
      refine wa_iconst ?_
      refine wa_iload_n (n := 3) rfl ?_
      refine wa_ifne (w_rg0 (by omega) (by omega)) ⟨_, rfl⟩ (fun c7 => ?_) (fun c7 => ?_)
      · skip
        exact absurd c7 (by omega)
      · skip
        refine wa_iconst ?_
        refine wa_goto ⟨_, rfl⟩ ?_
        refine wa_cv 226 rfl (wy_pr rfl) wt_226 (M2 := mS [228, 229, 127, 128, 129, 130, 131, 132, 133, 134, 135, 136, 141, 142]) rfl at_XK_makeObject ⟨_, rfl⟩ rfl rfl ⟨trivial, trivial, trivial, (Or.inr ⟨wy_pr rfl, mS_no rfl⟩), trivial, trivial⟩ trivial (fun _ _ q => q) (mO0_226 hP hx1 h2 hcs hl hz hth hn hn1 hn2 hu0 hu1 ⟨by omega, by omega, by omega⟩) (fun oq8 Sq8 hp9 q8 => ?_)
        rcases q8 with ⟨rfl, hzz⟩
        show wJ _ _ _ _ _ _ _ _ _ _
        refine wa_goto ⟨_, rfl⟩ ?_
        refine wa_return rfl ?_
        exact ⟨rfl, hzz⟩
  · skip
    exact absurd c5 (by omega)
theorem xb1o_226 {c p h cs n u0 ky q r : Int} (hP : xP 226 c p h S) (hx1 : pe_at (pe_GA xs).xs 1 = some (1, tx_1)) (h2 : S 140 2 = cs) (hcs : 0 ≤ cs ∧ cs ≤ S 141 (-1)) (hl : S 142 (-1) = S 141 (-1)) (hz : 16 ≤ S 141 (-1) ∧ S 141 (-1) ≤ 480400) (hth : ∀ x : Nat, x < 10 → S (127 + x) (-1) = S 127 (-1)) (hn : S 72 3 = n) (hn1 : 0 ≤ n ∧ n ≤ S 127 (-1)) (hn2 : 64 ≤ S 127 (-1) ∧ S 127 (-1) ≤ 16383) (hu0 : S 150 0 = u0) (hu1 : 0 ≤ u0 ∧ u0 ≤ 8000) (hky : S 228 (h - 1) = ky) (hvy : S 229 (h - 1) = q) (hh1 : 1 ≤ h) (hk45 : ky = 4 ∨ ky = 5) (hsw : cSw S T H) (hlt : cLt S T) (hw : wSh T H) (hq : isO T q) (hr : r = aFs (-1) q (-1) H 0) (hu4 : 0 ≤ S 150 4 ∧ S 150 4 ≤ 4000) : wJ (pe_GA xs) wY0 (mS [228, 229, 127, 128, 129, 130, 131, 132, 133, 134, 135, 136, 141, 142, 144, 145, 146, 147, 148]) (d + 11) t_XK_callBuiltin ((pe_at t_XK_callBuiltin.bl 0).getD (0, [])).2 [(0, (2, 226)), (1, (0, 1))] [] S (fun o Z => o = .inl none ∧ (((8000 ≤ u0 ∨ (r = -1 ∧ 4000 ≤ S 150 4)) ∧ w_up S 226 16 99 = Z) ∨ (u0 < 8000 ∧ 0 ≤ r ∧ ∃ B : wS, at_ag 4 r (-1) 0 S B ∧ sO 226 h c p 1 4 n B Z) ∨ (u0 < 8000 ∧ r = -1 ∧ S 150 4 < 4000 ∧ ∃ A B : wS, bs_ag (H.length : Int) q S A ∧ at_ag 4 (H.length : Int) (-1) 0 A B ∧ sO 226 h c p 1 4 n B Z))) := by
  obtain ⟨⟨hC, hI⟩, ⟨bc, bc0, bc1⟩, ⟨bp, bp0, bp1⟩, ⟨bh, bh0, bh1, bh2⟩, bl1, bl2, bl3⟩ := id hP
  replace bp : S 231 (c - 1) = p := bp
  replace bh : S 227 2 = h := bh
  replace bh2 : h ≤ S 228 (-1) := bh2
  replace bl1 : S 229 (-1) = S 228 (-1) := bl1
  replace bl2 : 64 ≤ S 228 (-1) := bl2
  replace bl3 : S 228 (-1) ≤ 4095 := bl3
  obtain ⟨⟨hp0, hp1⟩, -⟩ := id hq
  have ht2 := hlt.2.1
  refine wa_aload_n (n := 0) rfl ?_
  refine wb_gf4 226 rfl (wy_pr rfl) wt_226 wf_8_3 (v := 227) wl_226_3 ?_
  refine wb_gfi 227 rfl (wy_pr rfl) wt_227 wf_7_2 (v := h) (bh) (fun r1 => ?_)
  refine wa_iconst ?_
  refine wa_isub ?_
  refine wa_istore_n (n := 2) rfl ?_
  refine wa_aload_n (n := 0) rfl ?_
  refine wb_gf4 226 rfl (wy_pr rfl) wt_226 wf_8_3 (v := 227) wl_226_3 ?_
  refine wb_gf4 227 rfl (wy_pr rfl) wt_227 wf_7_0 (v := 228) wl_227_0 ?_
  refine wa_iload_n (n := 2) rfl ?_
  refine wb_bald 228 rfl (wy_pr rfl) wt_228 (n := (S 228 (-1))) (rfl) (by omega) (by omega) (v := ky) (hky) (fun r2 => ?_)
  refine wa_istore_n (n := 3) rfl ?_
  refine wa_aload_n (n := 0) rfl ?_
  refine wb_gf4 226 rfl (wy_pr rfl) wt_226 wf_8_3 (v := 227) wl_226_3 ?_
  refine wb_gf4 227 rfl (wy_pr rfl) wt_227 wf_7_1 (v := 229) wl_227_1 ?_
  refine wa_iload_n (n := 2) rfl ?_
  refine wb_lald 229 rfl (wy_pr rfl) wt_229 (n := (S 228 (-1))) (bl1) (by omega) (by omega) (v := q) (hvy) (fun r3 => ?_)
  refine wa_lstore (n := 4) rfl ?_
  refine wa_iload_n (n := 1) rfl ?_
  refine wb_sw (w_rg0 (by omega) (by omega)) (tb := 2) rfl ⟨_, rfl⟩ ?_
  refine wa_aload_n (n := 0) rfl ?_
  refine wa_iload_n (n := 2) rfl ?_
  refine wa_cv 226 rfl (wy_pr rfl) wt_226 (M2 := mS [228, 229, 127, 128, 129, 130, 131, 132, 133, 134, 135, 136, 141, 142, 144, 145, 146, 147, 148]) rfl at_XK_isPrototype ⟨_, rfl⟩ rfl rfl ⟨trivial, trivial, trivial, (Or.inr ⟨wy_pr rfl, mS_no rfl⟩), trivial, trivial⟩ trivial (fun _ _ q => q) ?_ (fun _ _ _ q => q)
  refine wa_aload_n (n := 0) rfl ?_
  refine wb_gf4 226 rfl (wy_pr rfl) wt_226 wf_8_3 (v := 227) wl_226_3 ?_
  refine wb_gf4 227 rfl (wy_pr rfl) wt_227 wf_7_0 (v := 228) wl_227_0 ?_
  refine wa_iload_n (n := 1) rfl ?_
  refine wb_bald 228 rfl (wy_pr rfl) wt_228 (n := (S 228 (-1))) (rfl) (by omega) (by omega) (v := ky) (hky) (fun r4 => ?_)
  refine wa_ifeq (w_rg0 (by omega) (by omega)) ⟨_, rfl⟩ (fun c5 => ?_) (fun c5 => ?_)
  · skip
    exact absurd c5 (by omega)
  · skip
    refine wa_aload_n (n := 0) rfl ?_
    refine wa_iload_n (n := 1) rfl ?_
    refine wa_cv 226 rfl (wy_pr rfl) wt_226 (M2 := mS [228, 229, 127, 128, 129, 130, 131, 132, 133, 134, 135, 136, 141, 142, 144, 145, 146, 147, 148]) rfl at_XK_isHolder ⟨_, rfl⟩ rfl rfl ⟨(Or.inr ⟨wy_pr rfl, mS_no rfl⟩), trivial, trivial⟩ trivial (fun _ _ q => q) ?_ (fun _ _ _ q => q)
    refine wa_aload_n (n := 0) rfl ?_
    refine wb_gf4 226 rfl (wy_pr rfl) wt_226 wf_8_3 (v := 227) wl_226_3 ?_
    refine wb_gf4 227 rfl (wy_pr rfl) wt_227 wf_7_0 (v := 228) wl_227_0 ?_
    refine wa_iload_n (n := 1) rfl ?_
    refine wb_bald 228 rfl (wy_pr rfl) wt_228 (n := (S 228 (-1))) (rfl) (by omega) (by omega) (v := ky) (hky) (fun r6 => ?_)
    refine wa_iconst ?_
    refine wa_icmpeq (w_rg0 (by omega) (by omega)) (w_rg0 (by omega) (by omega)) ⟨_, rfl⟩ (fun c7 => ?_) (fun c7 => ?_)
    · skip
      refine wa_iconst ?_
      refine wa_goto ⟨_, rfl⟩ ?_
      refine wa_zreturn rfl (Or.inr rfl) ?_
      show wJ _ _ _ _ _ _ _ _ _ _
      refine wa_ifeq (w_rg0 (by omega) (by omega)) ⟨_, rfl⟩ (fun c8 => ?_) (fun c8 => ?_)
      · skip
        exact absurd c8 (by omega)
      · skip
        refine wa_fall ⟨_, rfl⟩ ?_
        refine wa_iconst ?_
        refine wa_goto ⟨_, rfl⟩ ?_
        refine wa_zreturn rfl (Or.inr rfl) ?_
        show wJ _ _ _ _ _ _ _ _ _ _
        refine wa_ifeq (w_rg0 (by omega) (by omega)) ⟨_, rfl⟩ (fun c9 => ?_) (fun c9 => ?_)
        · skip
          exact absurd c9 (by omega)
        · skip
          refine wa_aload_n (n := 0) rfl ?_
          refine wa_iconst ?_
          refine wa_iload_n (n := 3) rfl ?_
          refine wa_ifne (w_rg0 (by omega) (by omega)) ⟨_, rfl⟩ (fun c10 => ?_) (fun c10 => ?_)
          · skip
            refine wa_lload (n := 4) rfl ?_
            refine wb_l2i_r (wb_l2i_id ⟨(by omega), (by omega)⟩) ?_
            refine wa_fall ⟨_, rfl⟩ ?_
            refine wa_cv 226 rfl (wy_pr rfl) wt_226 (M2 := mS [228, 229, 127, 128, 129, 130, 131, 132, 133, 134, 135, 136, 141, 142, 144, 145, 146, 147, 148]) rfl at_XK_makeObject ⟨_, rfl⟩ rfl rfl ⟨trivial, trivial, trivial, (Or.inr ⟨wy_pr rfl, mS_no rfl⟩), trivial, trivial⟩ trivial (fun _ _ q => q) (mO1_226 hP hx1 h2 hcs hl hz hth hn hn1 hn2 hu0 hu1 hsw hlt hw hq hr hu4 ⟨by omega, by omega, by omega⟩) (fun oq11 Sq11 hp12 q11 => ?_)
            rcases q11 with ⟨rfl, hzz⟩
            show wJ _ _ _ _ _ _ _ _ _ _
            refine wa_goto ⟨_, rfl⟩ ?_
            refine wa_return rfl ?_
            exact ⟨rfl, hzz⟩
          · skip
            exact absurd c10 (by omega)
    · skip
      refine wa_aload_n (n := 0) rfl ?_
      refine wb_gf4 226 rfl (wy_pr rfl) wt_226 wf_8_3 (v := 227) wl_226_3 ?_
      refine wb_gf4 227 rfl (wy_pr rfl) wt_227 wf_7_0 (v := 228) wl_227_0 ?_
      refine wa_iload_n (n := 1) rfl ?_
      refine wb_bald 228 rfl (wy_pr rfl) wt_228 (n := (S 228 (-1))) (rfl) (by omega) (by omega) (v := ky) (hky) (fun r13 => ?_)
      refine wa_iconst ?_
      refine wa_icmpne (w_rg0 (by omega) (by omega)) (w_rg0 (by omega) (by omega)) ⟨_, rfl⟩ (fun c14 => ?_) (fun c14 => ?_)
      · skip
        exact absurd c14 (by omega)
      · skip
        refine wa_fall ⟨_, rfl⟩ ?_
        refine wa_iconst ?_
        refine wa_goto ⟨_, rfl⟩ ?_
        refine wa_zreturn rfl (Or.inr rfl) ?_
        show wJ _ _ _ _ _ _ _ _ _ _
        refine wa_ifeq (w_rg0 (by omega) (by omega)) ⟨_, rfl⟩ (fun c15 => ?_) (fun c15 => ?_)
        · skip
          exact absurd c15 (by omega)
        · skip
          refine wa_fall ⟨_, rfl⟩ ?_
          refine wa_iconst ?_
          refine wa_goto ⟨_, rfl⟩ ?_
          refine wa_zreturn rfl (Or.inr rfl) ?_
          show wJ _ _ _ _ _ _ _ _ _ _
          refine wa_ifeq (w_rg0 (by omega) (by omega)) ⟨_, rfl⟩ (fun c16 => ?_) (fun c16 => ?_)
          · skip
            exact absurd c16 (by omega)
          · skip
            refine wa_aload_n (n := 0) rfl ?_
            refine wa_iconst ?_
            refine wa_iload_n (n := 3) rfl ?_
            refine wa_ifne (w_rg0 (by omega) (by omega)) ⟨_, rfl⟩ (fun c17 => ?_) (fun c17 => ?_)
            · skip
              refine wa_lload (n := 4) rfl ?_
              refine wb_l2i_r (wb_l2i_id ⟨(by omega), (by omega)⟩) ?_
              refine wa_fall ⟨_, rfl⟩ ?_
              refine wa_cv 226 rfl (wy_pr rfl) wt_226 (M2 := mS [228, 229, 127, 128, 129, 130, 131, 132, 133, 134, 135, 136, 141, 142, 144, 145, 146, 147, 148]) rfl at_XK_makeObject ⟨_, rfl⟩ rfl rfl ⟨trivial, trivial, trivial, (Or.inr ⟨wy_pr rfl, mS_no rfl⟩), trivial, trivial⟩ trivial (fun _ _ q => q) (mO1_226 hP hx1 h2 hcs hl hz hth hn hn1 hn2 hu0 hu1 hsw hlt hw hq hr hu4 ⟨by omega, by omega, by omega⟩) (fun oq18 Sq18 hp19 q18 => ?_)
              rcases q18 with ⟨rfl, hzz⟩
              show wJ _ _ _ _ _ _ _ _ _ _
              refine wa_goto ⟨_, rfl⟩ ?_
              refine wa_return rfl ?_
              exact ⟨rfl, hzz⟩
            · skip
              exact absurd c17 (by omega)
theorem xb1e_226 {c p h ky vy : Int} (hP : xP 226 c p h S) (hky : S 228 (h - 1) = ky) (hvy : S 229 (h - 1) = vy) (hh1 : 1 ≤ h) (hke : ky ≠ 0 ∧ ky ≠ 4 ∧ ky ≠ 5) : wJ (pe_GA xs) wY0 (mS [228, 229]) (d + 11) t_XK_callBuiltin ((pe_at t_XK_callBuiltin.bl 0).getD (0, [])).2 [(0, (2, 226)), (1, (0, 1))] [] S (fun o Z => o = .inl none ∧ w_up S 226 16 12 = Z) := by
  obtain ⟨⟨hC, hI⟩, ⟨bc, bc0, bc1⟩, ⟨bp, bp0, bp1⟩, ⟨bh, bh0, bh1, bh2⟩, bl1, bl2, bl3⟩ := id hP
  replace bp : S 231 (c - 1) = p := bp
  replace bh : S 227 2 = h := bh
  replace bh2 : h ≤ S 228 (-1) := bh2
  replace bl1 : S 229 (-1) = S 228 (-1) := bl1
  replace bl2 : 64 ≤ S 228 (-1) := bl2
  replace bl3 : S 228 (-1) ≤ 4095 := bl3
  refine wa_aload_n (n := 0) rfl ?_
  refine wb_gf4 226 rfl (wy_pr rfl) wt_226 wf_8_3 (v := 227) wl_226_3 ?_
  refine wb_gfi 227 rfl (wy_pr rfl) wt_227 wf_7_2 (v := h) (bh) (fun r1 => ?_)
  refine wa_iconst ?_
  refine wa_isub ?_
  refine wa_istore_n (n := 2) rfl ?_
  refine wa_aload_n (n := 0) rfl ?_
  refine wb_gf4 226 rfl (wy_pr rfl) wt_226 wf_8_3 (v := 227) wl_226_3 ?_
  refine wb_gf4 227 rfl (wy_pr rfl) wt_227 wf_7_0 (v := 228) wl_227_0 ?_
  refine wa_iload_n (n := 2) rfl ?_
  refine wb_bald 228 rfl (wy_pr rfl) wt_228 (n := (S 228 (-1))) (rfl) (by omega) (by omega) (v := ky) (hky) (fun r2 => ?_)
  refine wa_istore_n (n := 3) rfl ?_
  refine wa_aload_n (n := 0) rfl ?_
  refine wb_gf4 226 rfl (wy_pr rfl) wt_226 wf_8_3 (v := 227) wl_226_3 ?_
  refine wb_gf4 227 rfl (wy_pr rfl) wt_227 wf_7_1 (v := 229) wl_227_1 ?_
  refine wa_iload_n (n := 2) rfl ?_
  refine wb_lald 229 rfl (wy_pr rfl) wt_229 (n := (S 228 (-1))) (bl1) (by omega) (by omega) (v := vy) (hvy) (fun r3 => ?_)
  refine wa_lstore (n := 4) rfl ?_
  refine wa_iload_n (n := 1) rfl ?_
  refine wb_sw (w_rg0 (by omega) (by omega)) (tb := 2) rfl ⟨_, rfl⟩ ?_
  refine wa_aload_n (n := 0) rfl ?_
  refine wa_iload_n (n := 2) rfl ?_
  refine wa_cv 226 rfl (wy_pr rfl) wt_226 (M2 := mS [228, 229]) rfl at_XK_isPrototype ⟨_, rfl⟩ rfl rfl ⟨trivial, trivial, trivial, (Or.inr ⟨wy_pr rfl, mS_no rfl⟩), trivial, trivial⟩ trivial (fun _ _ q => q) ?_ (fun _ _ _ q => q)
  refine wa_aload_n (n := 0) rfl ?_
  refine wb_gf4 226 rfl (wy_pr rfl) wt_226 wf_8_3 (v := 227) wl_226_3 ?_
  refine wb_gf4 227 rfl (wy_pr rfl) wt_227 wf_7_0 (v := 228) wl_227_0 ?_
  refine wa_iload_n (n := 1) rfl ?_
  refine wb_bald 228 rfl (wy_pr rfl) wt_228 (n := (S 228 (-1))) (rfl) (by omega) (by omega) (v := ky) (hky) (fun r4 => ?_)
  refine wa_ifeq (w_rg0 (by omega) (by omega)) ⟨_, rfl⟩ (fun c5 => ?_) (fun c5 => ?_)
  · skip
    exact absurd c5 (by omega)
  · skip
    refine wa_aload_n (n := 0) rfl ?_
    refine wa_iload_n (n := 1) rfl ?_
    refine wa_cv 226 rfl (wy_pr rfl) wt_226 (M2 := mS [228, 229]) rfl at_XK_isHolder ⟨_, rfl⟩ rfl rfl ⟨(Or.inr ⟨wy_pr rfl, mS_no rfl⟩), trivial, trivial⟩ trivial (fun _ _ q => q) ?_ (fun _ _ _ q => q)
    refine wa_aload_n (n := 0) rfl ?_
    refine wb_gf4 226 rfl (wy_pr rfl) wt_226 wf_8_3 (v := 227) wl_226_3 ?_
    refine wb_gf4 227 rfl (wy_pr rfl) wt_227 wf_7_0 (v := 228) wl_227_0 ?_
    refine wa_iload_n (n := 1) rfl ?_
    refine wb_bald 228 rfl (wy_pr rfl) wt_228 (n := (S 228 (-1))) (rfl) (by omega) (by omega) (v := ky) (hky) (fun r6 => ?_)
    refine wa_iconst ?_
    refine wa_icmpeq (w_rg0 (by omega) (by omega)) (w_rg0 (by omega) (by omega)) ⟨_, rfl⟩ (fun c7 => ?_) (fun c7 => ?_)
    · skip
      exact absurd c7 (by omega)
    · skip
      refine wa_aload_n (n := 0) rfl ?_
      refine wb_gf4 226 rfl (wy_pr rfl) wt_226 wf_8_3 (v := 227) wl_226_3 ?_
      refine wb_gf4 227 rfl (wy_pr rfl) wt_227 wf_7_0 (v := 228) wl_227_0 ?_
      refine wa_iload_n (n := 1) rfl ?_
      refine wb_bald 228 rfl (wy_pr rfl) wt_228 (n := (S 228 (-1))) (rfl) (by omega) (by omega) (v := ky) (hky) (fun r8 => ?_)
      refine wa_iconst ?_
      refine wa_icmpne (w_rg0 (by omega) (by omega)) (w_rg0 (by omega) (by omega)) ⟨_, rfl⟩ (fun c9 => ?_) (fun c9 => ?_)
      · skip
        refine wa_iconst ?_
        refine wa_fall ⟨_, rfl⟩ ?_
        refine wa_zreturn rfl (Or.inl rfl) ?_
        show wJ _ _ _ _ _ _ _ _ _ _
        refine wa_ifeq (w_rg0 (by omega) (by omega)) ⟨_, rfl⟩ (fun c10 => ?_) (fun c10 => ?_)
        · skip
          refine wa_iconst ?_
          refine wa_fall ⟨_, rfl⟩ ?_
          refine wa_zreturn rfl (Or.inl rfl) ?_
          show wJ _ _ _ _ _ _ _ _ _ _
          refine wa_ifeq (w_rg0 (by omega) (by omega)) ⟨_, rfl⟩ (fun c11 => ?_) (fun c11 => ?_)
          · skip
            refine wa_aload_n (n := 0) rfl ?_
            refine wa_bipush (w_rg2 (by omega) (by omega)) ?_
            refine wb_pfi 226 rfl (wy_pr rfl) wt_226 wf_8_16 (n := 16) rfl ⟨(by omega), (by omega)⟩ ?_
            refine wa_goto ⟨_, rfl⟩ ?_
            refine wa_return rfl ?_
            exact ⟨rfl, rfl⟩
          · skip
            exact absurd c11 (by omega)
        · skip
          exact absurd c10 (by omega)
      · skip
        exact absurd c9 (by omega)
theorem xb2n_226 {c p h ky q s1 pr : Int} (hP : xP 226 c p h S) (hky : S 228 (h - 1) = ky) (hvy : S 229 (h - 1) = q) (hh1 : 1 ≤ h) (hk45 : ky = 4 ∨ ky = 5) (h28 : S 128 q = s1) (hq1 : 0 ≤ q ∧ q < S 127 (-1)) (h44 : S 144 s1 = pr) (hs1 : 0 ≤ s1 ∧ s1 < S 144 (-1)) (hls : ∀ x : Nat, x < 5 → S (144 + x) (-1) = S 144 (-1)) (hls2 : S 144 (-1) ≤ 1000000) (hth : ∀ x : Nat, x < 10 → S (127 + x) (-1) = S 127 (-1)) (hn2 : S 127 (-1) ≤ 16383) (hpr : pr = -1) : wJ (pe_GA xs) wY0 (mS [228, 229]) (d + 11) t_XK_callBuiltin ((pe_at t_XK_callBuiltin.bl 0).getD (0, [])).2 [(0, (2, 226)), (1, (0, 2))] [] S (fun o Z => o = .inl none ∧ sO 226 h c p 1 0 0 S Z) := by
  obtain ⟨⟨hC, hI⟩, ⟨bc, bc0, bc1⟩, ⟨bp, bp0, bp1⟩, ⟨bh, bh0, bh1, bh2⟩, bl1, bl2, bl3⟩ := id hP
  replace bp : S 231 (c - 1) = p := bp
  replace bh : S 227 2 = h := bh
  replace bh2 : h ≤ S 228 (-1) := bh2
  replace bl1 : S 229 (-1) = S 228 (-1) := bl1
  replace bl2 : 64 ≤ S 228 (-1) := bl2
  replace bl3 : S 228 (-1) ≤ 4095 := bl3
  refine wa_aload_n (n := 0) rfl ?_
  refine wb_gf4 226 rfl (wy_pr rfl) wt_226 wf_8_3 (v := 227) wl_226_3 ?_
  refine wb_gfi 227 rfl (wy_pr rfl) wt_227 wf_7_2 (v := h) (bh) (fun r1 => ?_)
  refine wa_iconst ?_
  refine wa_isub ?_
  refine wa_istore_n (n := 2) rfl ?_
  refine wa_aload_n (n := 0) rfl ?_
  refine wb_gf4 226 rfl (wy_pr rfl) wt_226 wf_8_3 (v := 227) wl_226_3 ?_
  refine wb_gf4 227 rfl (wy_pr rfl) wt_227 wf_7_0 (v := 228) wl_227_0 ?_
  refine wa_iload_n (n := 2) rfl ?_
  refine wb_bald 228 rfl (wy_pr rfl) wt_228 (n := (S 228 (-1))) (rfl) (by omega) (by omega) (v := ky) (hky) (fun r2 => ?_)
  refine wa_istore_n (n := 3) rfl ?_
  refine wa_aload_n (n := 0) rfl ?_
  refine wb_gf4 226 rfl (wy_pr rfl) wt_226 wf_8_3 (v := 227) wl_226_3 ?_
  refine wb_gf4 227 rfl (wy_pr rfl) wt_227 wf_7_1 (v := 229) wl_227_1 ?_
  refine wa_iload_n (n := 2) rfl ?_
  refine wb_lald 229 rfl (wy_pr rfl) wt_229 (n := (S 228 (-1))) (bl1) (by omega) (by omega) (v := q) (hvy) (fun r3 => ?_)
  refine wa_lstore (n := 4) rfl ?_
  refine wa_iload_n (n := 1) rfl ?_
  refine wb_sw (w_rg0 (by omega) (by omega)) (tb := 6) rfl ⟨_, rfl⟩ ?_
  refine wa_aload_n (n := 0) rfl ?_
  refine wa_iload_n (n := 2) rfl ?_
  refine wa_cv 226 rfl (wy_pr rfl) wt_226 (M2 := mS [228, 229]) rfl at_XK_isHolder ⟨_, rfl⟩ rfl rfl ⟨trivial, trivial, trivial, (Or.inr ⟨wy_pr rfl, mS_no rfl⟩), trivial, trivial⟩ trivial (fun _ _ q => q) ?_ (fun _ _ _ q => q)
  refine wa_aload_n (n := 0) rfl ?_
  refine wb_gf4 226 rfl (wy_pr rfl) wt_226 wf_8_3 (v := 227) wl_226_3 ?_
  refine wb_gf4 227 rfl (wy_pr rfl) wt_227 wf_7_0 (v := 228) wl_227_0 ?_
  refine wa_iload_n (n := 1) rfl ?_
  refine wb_bald 228 rfl (wy_pr rfl) wt_228 (n := (S 228 (-1))) (rfl) (by omega) (by omega) (v := ky) (hky) (fun r4 => ?_)
  refine wa_iconst ?_
  refine wa_icmpeq (w_rg0 (by omega) (by omega)) (w_rg0 (by omega) (by omega)) ⟨_, rfl⟩ (fun c5 => ?_) (fun c5 => ?_)
  · skip
    refine wa_iconst ?_
    refine wa_goto ⟨_, rfl⟩ ?_
    refine wa_zreturn rfl (Or.inr rfl) ?_
    show wJ _ _ _ _ _ _ _ _ _ _
    refine wa_ifeq (w_rg0 (by omega) (by omega)) ⟨_, rfl⟩ (fun c6 => ?_) (fun c6 => ?_)
    · skip
      exact absurd c6 (by omega)
    · skip
      refine wa_aload_n (n := 0) rfl ?_
      refine wb_gf4 226 rfl (wy_pr rfl) wt_226 wf_8_0 (v := 72) wl_226_0 ?_
      refine wa_lload (n := 4) rfl ?_
      refine wb_l2i_r (wb_l2i_id ⟨(by omega), (by omega)⟩) ?_
      refine wa_cv 72 rfl (wy_pr rfl) wt_72 (M2 := mS [228, 229]) rfl at_XH_protoOf ⟨_, rfl⟩ rfl rfl ⟨trivial, trivial, trivial, (Or.inr ⟨wy_pr rfl, mS_no rfl⟩), trivial, trivial⟩ trivial (fun _ _ q => q) ?_ (fun _ _ _ q => q)
      refine wa_aload_n (n := 0) rfl ?_
      refine wb_gf4 72 rfl (wy_pr rfl) wt_72 wf_2_7 (v := 143) wl_72_7 ?_
      refine wa_iconst ?_
      refine wb_aald5 143 0 rfl rfl (wy_pr rfl) wt_143 (by rw [show _ = _ from ((cl_143 hC))]; omega) wl_143_0 ?_
      refine wa_aload_n (n := 0) rfl ?_
      refine wb_gf4 72 rfl (wy_pr rfl) wt_72 wf_2_2 (v := 126) wl_72_2 ?_
      refine wa_iconst ?_
      refine wb_aald5 126 1 rfl rfl (wy_pr rfl) wt_126 (by rw [show _ = _ from ((cl_126 hC))]; omega) wl_126_1 ?_
      refine wa_iload_n (n := 1) rfl ?_
      refine wb_iald 128 rfl (wy_pr rfl) wt_128 (n := (S 127 (-1))) ((hth 1 (by decide))) (by omega) (by omega) (v := s1) (h28) (fun r7 => ?_)
      refine wb_iald 144 rfl (wy_pr rfl) wt_144 (n := (S 144 (-1))) (rfl) (by omega) (by omega) (v := pr) (h44) (fun r8 => ?_)
      refine wa_ireturn rfl ?_
      show wJ _ _ _ _ _ _ _ _ _ _
      refine wa_istore (n := 6) rfl ?_
      refine wa_iload (n := 6) rfl ?_
      refine wa_iconst ?_
      refine wa_icmpne (w_rg0 (by omega) (by omega)) (w_rg0 (by omega) (by omega)) ⟨_, rfl⟩ (fun c9 => ?_) (fun c9 => ?_)
      · skip
        exfalso; omega
      · skip
        refine wa_iconst ?_
        refine wa_goto ⟨_, rfl⟩ ?_
        refine wa_istore (n := 7) rfl ?_
        refine wa_aload_n (n := 0) rfl ?_
        refine wa_iconst ?_
        refine wa_iload (n := 7) rfl ?_
        refine wa_iload (n := 6) rfl ?_
        refine wa_iconst ?_
        refine wa_cs (M2 := mS [228, 229]) rfl at_JM_max ⟨_, rfl⟩ rfl rfl ⟨trivial, trivial, trivial, trivial, trivial, (Or.inr ⟨wy_pr rfl, mS_no rfl⟩), trivial, trivial⟩ ⟨trivial, trivial, (Or.inr ⟨wy_pr rfl, mS_no rfl⟩), trivial⟩ (fun _ _ q => q) ?_ (fun _ _ _ q => q)
        refine wa_iload_n (n := 0) rfl ?_
        refine wa_iload_n (n := 1) rfl ?_
        refine wa_icmplt (w_rg0 (by omega) (by omega)) (w_rg0 (by omega) (by omega)) ⟨_, rfl⟩ (fun c10 => ?_) (fun c10 => ?_)
        · skip
          refine wa_iload_n (n := 1) rfl ?_
          refine wa_fall ⟨_, rfl⟩ ?_
          refine wa_ireturn rfl ?_
          show wJ _ _ _ _ _ _ _ _ _ _
          refine wa_i2l (w_rg0 (by omega) (by omega)) ?_
          refine wa_cv 226 rfl (wy_pr rfl) wt_226 (M2 := mS [228, 229]) rfl at_XK_give ⟨_, rfl⟩ rfl rfl ⟨trivial, trivial, trivial, trivial, trivial, (Or.inr ⟨wy_pr rfl, mS_no rfl⟩), trivial, trivial⟩ trivial (fun _ _ q => q) (gw_226 (S := S) (n := 1) (k := 0) (v := 0) (h := h) (c := c) (p := p) (ln := (S 228 (-1))) hC hI ⟨by omega, by omega⟩ ⟨by omega, by omega⟩ (bh) (bc) (bp) (rfl) (bl1) ⟨by omega, by omega⟩ ⟨by omega, by omega, by omega⟩ ⟨by omega, by omega⟩ ⟨by omega, by omega⟩) (fun oq11 Sq11 hp12 q11 => ?_)
          rcases q11 with ⟨rfl, A11, ra11, rfl⟩
          show wJ _ _ _ _ _ _ _ _ _ _
          refine wa_goto ⟨_, rfl⟩ ?_
          refine wa_return rfl ?_
          exact ⟨rfl, A11, ra11, rfl⟩
        · skip
          exact absurd c10 (by omega)
  · skip
    refine wa_aload_n (n := 0) rfl ?_
    refine wb_gf4 226 rfl (wy_pr rfl) wt_226 wf_8_3 (v := 227) wl_226_3 ?_
    refine wb_gf4 227 rfl (wy_pr rfl) wt_227 wf_7_0 (v := 228) wl_227_0 ?_
    refine wa_iload_n (n := 1) rfl ?_
    refine wb_bald 228 rfl (wy_pr rfl) wt_228 (n := (S 228 (-1))) (rfl) (by omega) (by omega) (v := ky) (hky) (fun r13 => ?_)
    refine wa_iconst ?_
    refine wa_icmpne (w_rg0 (by omega) (by omega)) (w_rg0 (by omega) (by omega)) ⟨_, rfl⟩ (fun c14 => ?_) (fun c14 => ?_)
    · skip
      exact absurd c14 (by omega)
    · skip
      refine wa_fall ⟨_, rfl⟩ ?_
      refine wa_iconst ?_
      refine wa_goto ⟨_, rfl⟩ ?_
      refine wa_zreturn rfl (Or.inr rfl) ?_
      show wJ _ _ _ _ _ _ _ _ _ _
      refine wa_ifeq (w_rg0 (by omega) (by omega)) ⟨_, rfl⟩ (fun c15 => ?_) (fun c15 => ?_)
      · skip
        exact absurd c15 (by omega)
      · skip
        refine wa_aload_n (n := 0) rfl ?_
        refine wb_gf4 226 rfl (wy_pr rfl) wt_226 wf_8_0 (v := 72) wl_226_0 ?_
        refine wa_lload (n := 4) rfl ?_
        refine wb_l2i_r (wb_l2i_id ⟨(by omega), (by omega)⟩) ?_
        refine wa_cv 72 rfl (wy_pr rfl) wt_72 (M2 := mS [228, 229]) rfl at_XH_protoOf ⟨_, rfl⟩ rfl rfl ⟨trivial, trivial, trivial, (Or.inr ⟨wy_pr rfl, mS_no rfl⟩), trivial, trivial⟩ trivial (fun _ _ q => q) ?_ (fun _ _ _ q => q)
        refine wa_aload_n (n := 0) rfl ?_
        refine wb_gf4 72 rfl (wy_pr rfl) wt_72 wf_2_7 (v := 143) wl_72_7 ?_
        refine wa_iconst ?_
        refine wb_aald5 143 0 rfl rfl (wy_pr rfl) wt_143 (by rw [show _ = _ from ((cl_143 hC))]; omega) wl_143_0 ?_
        refine wa_aload_n (n := 0) rfl ?_
        refine wb_gf4 72 rfl (wy_pr rfl) wt_72 wf_2_2 (v := 126) wl_72_2 ?_
        refine wa_iconst ?_
        refine wb_aald5 126 1 rfl rfl (wy_pr rfl) wt_126 (by rw [show _ = _ from ((cl_126 hC))]; omega) wl_126_1 ?_
        refine wa_iload_n (n := 1) rfl ?_
        refine wb_iald 128 rfl (wy_pr rfl) wt_128 (n := (S 127 (-1))) ((hth 1 (by decide))) (by omega) (by omega) (v := s1) (h28) (fun r16 => ?_)
        refine wb_iald 144 rfl (wy_pr rfl) wt_144 (n := (S 144 (-1))) (rfl) (by omega) (by omega) (v := pr) (h44) (fun r17 => ?_)
        refine wa_ireturn rfl ?_
        show wJ _ _ _ _ _ _ _ _ _ _
        refine wa_istore (n := 6) rfl ?_
        refine wa_iload (n := 6) rfl ?_
        refine wa_iconst ?_
        refine wa_icmpne (w_rg0 (by omega) (by omega)) (w_rg0 (by omega) (by omega)) ⟨_, rfl⟩ (fun c18 => ?_) (fun c18 => ?_)
        · skip
          exfalso; omega
        · skip
          refine wa_iconst ?_
          refine wa_goto ⟨_, rfl⟩ ?_
          refine wa_istore (n := 7) rfl ?_
          refine wa_aload_n (n := 0) rfl ?_
          refine wa_iconst ?_
          refine wa_iload (n := 7) rfl ?_
          refine wa_iload (n := 6) rfl ?_
          refine wa_iconst ?_
          refine wa_cs (M2 := mS [228, 229]) rfl at_JM_max ⟨_, rfl⟩ rfl rfl ⟨trivial, trivial, trivial, trivial, trivial, (Or.inr ⟨wy_pr rfl, mS_no rfl⟩), trivial, trivial⟩ ⟨trivial, trivial, (Or.inr ⟨wy_pr rfl, mS_no rfl⟩), trivial⟩ (fun _ _ q => q) ?_ (fun _ _ _ q => q)
          refine wa_iload_n (n := 0) rfl ?_
          refine wa_iload_n (n := 1) rfl ?_
          refine wa_icmplt (w_rg0 (by omega) (by omega)) (w_rg0 (by omega) (by omega)) ⟨_, rfl⟩ (fun c19 => ?_) (fun c19 => ?_)
          · skip
            refine wa_iload_n (n := 1) rfl ?_
            refine wa_fall ⟨_, rfl⟩ ?_
            refine wa_ireturn rfl ?_
            show wJ _ _ _ _ _ _ _ _ _ _
            refine wa_i2l (w_rg0 (by omega) (by omega)) ?_
            refine wa_cv 226 rfl (wy_pr rfl) wt_226 (M2 := mS [228, 229]) rfl at_XK_give ⟨_, rfl⟩ rfl rfl ⟨trivial, trivial, trivial, trivial, trivial, (Or.inr ⟨wy_pr rfl, mS_no rfl⟩), trivial, trivial⟩ trivial (fun _ _ q => q) (gw_226 (S := S) (n := 1) (k := 0) (v := 0) (h := h) (c := c) (p := p) (ln := (S 228 (-1))) hC hI ⟨by omega, by omega⟩ ⟨by omega, by omega⟩ (bh) (bc) (bp) (rfl) (bl1) ⟨by omega, by omega⟩ ⟨by omega, by omega, by omega⟩ ⟨by omega, by omega⟩ ⟨by omega, by omega⟩) (fun oq20 Sq20 hp21 q20 => ?_)
            rcases q20 with ⟨rfl, A20, ra20, rfl⟩
            show wJ _ _ _ _ _ _ _ _ _ _
            refine wa_goto ⟨_, rfl⟩ ?_
            refine wa_return rfl ?_
            exact ⟨rfl, A20, ra20, rfl⟩
          · skip
            exact absurd c19 (by omega)
theorem xb2o_226 {c p h ky q s1 pr kp : Int} (hP : xP 226 c p h S) (hky : S 228 (h - 1) = ky) (hvy : S 229 (h - 1) = q) (hh1 : 1 ≤ h) (hk45 : ky = 4 ∨ ky = 5) (h28 : S 128 q = s1) (hq1 : 0 ≤ q ∧ q < S 127 (-1)) (h44 : S 144 s1 = pr) (hs1 : 0 ≤ s1 ∧ s1 < S 144 (-1)) (hls : ∀ x : Nat, x < 5 → S (144 + x) (-1) = S 144 (-1)) (hls2 : S 144 (-1) ≤ 1000000) (hth : ∀ x : Nat, x < 10 → S (127 + x) (-1) = S 127 (-1)) (hn2 : S 127 (-1) ≤ 16383) (hpr : 0 ≤ pr ∧ pr < S 127 (-1)) (hkp : S 127 pr = kp) (hkp1 : 0 ≤ kp ∧ kp ≤ 100) : wJ (pe_GA xs) wY0 (mS [228, 229]) (d + 11) t_XK_callBuiltin ((pe_at t_XK_callBuiltin.bl 0).getD (0, [])).2 [(0, (2, 226)), (1, (0, 2))] [] S (fun o Z => o = .inl none ∧ sO 226 h c p 1 kp pr S Z) := by
  obtain ⟨⟨hC, hI⟩, ⟨bc, bc0, bc1⟩, ⟨bp, bp0, bp1⟩, ⟨bh, bh0, bh1, bh2⟩, bl1, bl2, bl3⟩ := id hP
  replace bp : S 231 (c - 1) = p := bp
  replace bh : S 227 2 = h := bh
  replace bh2 : h ≤ S 228 (-1) := bh2
  replace bl1 : S 229 (-1) = S 228 (-1) := bl1
  replace bl2 : 64 ≤ S 228 (-1) := bl2
  replace bl3 : S 228 (-1) ≤ 4095 := bl3
  refine wa_aload_n (n := 0) rfl ?_
  refine wb_gf4 226 rfl (wy_pr rfl) wt_226 wf_8_3 (v := 227) wl_226_3 ?_
  refine wb_gfi 227 rfl (wy_pr rfl) wt_227 wf_7_2 (v := h) (bh) (fun r1 => ?_)
  refine wa_iconst ?_
  refine wa_isub ?_
  refine wa_istore_n (n := 2) rfl ?_
  refine wa_aload_n (n := 0) rfl ?_
  refine wb_gf4 226 rfl (wy_pr rfl) wt_226 wf_8_3 (v := 227) wl_226_3 ?_
  refine wb_gf4 227 rfl (wy_pr rfl) wt_227 wf_7_0 (v := 228) wl_227_0 ?_
  refine wa_iload_n (n := 2) rfl ?_
  refine wb_bald 228 rfl (wy_pr rfl) wt_228 (n := (S 228 (-1))) (rfl) (by omega) (by omega) (v := ky) (hky) (fun r2 => ?_)
  refine wa_istore_n (n := 3) rfl ?_
  refine wa_aload_n (n := 0) rfl ?_
  refine wb_gf4 226 rfl (wy_pr rfl) wt_226 wf_8_3 (v := 227) wl_226_3 ?_
  refine wb_gf4 227 rfl (wy_pr rfl) wt_227 wf_7_1 (v := 229) wl_227_1 ?_
  refine wa_iload_n (n := 2) rfl ?_
  refine wb_lald 229 rfl (wy_pr rfl) wt_229 (n := (S 228 (-1))) (bl1) (by omega) (by omega) (v := q) (hvy) (fun r3 => ?_)
  refine wa_lstore (n := 4) rfl ?_
  refine wa_iload_n (n := 1) rfl ?_
  refine wb_sw (w_rg0 (by omega) (by omega)) (tb := 6) rfl ⟨_, rfl⟩ ?_
  refine wa_aload_n (n := 0) rfl ?_
  refine wa_iload_n (n := 2) rfl ?_
  refine wa_cv 226 rfl (wy_pr rfl) wt_226 (M2 := mS [228, 229]) rfl at_XK_isHolder ⟨_, rfl⟩ rfl rfl ⟨trivial, trivial, trivial, (Or.inr ⟨wy_pr rfl, mS_no rfl⟩), trivial, trivial⟩ trivial (fun _ _ q => q) ?_ (fun _ _ _ q => q)
  refine wa_aload_n (n := 0) rfl ?_
  refine wb_gf4 226 rfl (wy_pr rfl) wt_226 wf_8_3 (v := 227) wl_226_3 ?_
  refine wb_gf4 227 rfl (wy_pr rfl) wt_227 wf_7_0 (v := 228) wl_227_0 ?_
  refine wa_iload_n (n := 1) rfl ?_
  refine wb_bald 228 rfl (wy_pr rfl) wt_228 (n := (S 228 (-1))) (rfl) (by omega) (by omega) (v := ky) (hky) (fun r4 => ?_)
  refine wa_iconst ?_
  refine wa_icmpeq (w_rg0 (by omega) (by omega)) (w_rg0 (by omega) (by omega)) ⟨_, rfl⟩ (fun c5 => ?_) (fun c5 => ?_)
  · skip
    refine wa_iconst ?_
    refine wa_goto ⟨_, rfl⟩ ?_
    refine wa_zreturn rfl (Or.inr rfl) ?_
    show wJ _ _ _ _ _ _ _ _ _ _
    refine wa_ifeq (w_rg0 (by omega) (by omega)) ⟨_, rfl⟩ (fun c6 => ?_) (fun c6 => ?_)
    · skip
      exact absurd c6 (by omega)
    · skip
      refine wa_aload_n (n := 0) rfl ?_
      refine wb_gf4 226 rfl (wy_pr rfl) wt_226 wf_8_0 (v := 72) wl_226_0 ?_
      refine wa_lload (n := 4) rfl ?_
      refine wb_l2i_r (wb_l2i_id ⟨(by omega), (by omega)⟩) ?_
      refine wa_cv 72 rfl (wy_pr rfl) wt_72 (M2 := mS [228, 229]) rfl at_XH_protoOf ⟨_, rfl⟩ rfl rfl ⟨trivial, trivial, trivial, (Or.inr ⟨wy_pr rfl, mS_no rfl⟩), trivial, trivial⟩ trivial (fun _ _ q => q) ?_ (fun _ _ _ q => q)
      refine wa_aload_n (n := 0) rfl ?_
      refine wb_gf4 72 rfl (wy_pr rfl) wt_72 wf_2_7 (v := 143) wl_72_7 ?_
      refine wa_iconst ?_
      refine wb_aald5 143 0 rfl rfl (wy_pr rfl) wt_143 (by rw [show _ = _ from ((cl_143 hC))]; omega) wl_143_0 ?_
      refine wa_aload_n (n := 0) rfl ?_
      refine wb_gf4 72 rfl (wy_pr rfl) wt_72 wf_2_2 (v := 126) wl_72_2 ?_
      refine wa_iconst ?_
      refine wb_aald5 126 1 rfl rfl (wy_pr rfl) wt_126 (by rw [show _ = _ from ((cl_126 hC))]; omega) wl_126_1 ?_
      refine wa_iload_n (n := 1) rfl ?_
      refine wb_iald 128 rfl (wy_pr rfl) wt_128 (n := (S 127 (-1))) ((hth 1 (by decide))) (by omega) (by omega) (v := s1) (h28) (fun r7 => ?_)
      refine wb_iald 144 rfl (wy_pr rfl) wt_144 (n := (S 144 (-1))) (rfl) (by omega) (by omega) (v := pr) (h44) (fun r8 => ?_)
      refine wa_ireturn rfl ?_
      show wJ _ _ _ _ _ _ _ _ _ _
      refine wa_istore (n := 6) rfl ?_
      refine wa_iload (n := 6) rfl ?_
      refine wa_iconst ?_
      refine wa_icmpne (w_rg0 (by omega) (by omega)) (w_rg0 (by omega) (by omega)) ⟨_, rfl⟩ (fun c9 => ?_) (fun c9 => ?_)
      · skip
        refine wa_aload_n (n := 0) rfl ?_
        refine wb_gf4 226 rfl (wy_pr rfl) wt_226 wf_8_0 (v := 72) wl_226_0 ?_
        refine wb_gf4 72 rfl (wy_pr rfl) wt_72 wf_2_2 (v := 126) wl_72_2 ?_
        refine wa_iconst ?_
        refine wb_aald5 126 0 rfl rfl (wy_pr rfl) wt_126 (by rw [show _ = _ from ((cl_126 hC))]; omega) wl_126_0 ?_
        refine wa_iload (n := 6) rfl ?_
        refine wb_iald 127 rfl (wy_pr rfl) wt_127 (n := (S 127 (-1))) (rfl) (by omega) (by omega) (v := kp) (hkp) (fun r10 => ?_)
        refine wa_fall ⟨_, rfl⟩ ?_
        refine wa_istore (n := 7) rfl ?_
        refine wa_aload_n (n := 0) rfl ?_
        refine wa_iconst ?_
        refine wa_iload (n := 7) rfl ?_
        refine wa_iload (n := 6) rfl ?_
        refine wa_iconst ?_
        refine wa_cs (M2 := mS [228, 229]) rfl at_JM_max ⟨_, rfl⟩ rfl rfl ⟨trivial, trivial, trivial, trivial, trivial, (Or.inr ⟨wy_pr rfl, mS_no rfl⟩), trivial, trivial⟩ ⟨trivial, trivial, (Or.inr ⟨wy_pr rfl, mS_no rfl⟩), trivial⟩ (fun _ _ q => q) ?_ (fun _ _ _ q => q)
        refine wa_iload_n (n := 0) rfl ?_
        refine wa_iload_n (n := 1) rfl ?_
        refine wa_icmplt (w_rg0 (by omega) (by omega)) (w_rg0 (by omega) (by omega)) ⟨_, rfl⟩ (fun c11 => ?_) (fun c11 => ?_)
        · skip
          exact absurd c11 (by omega)
        · skip
          refine wa_iload_n (n := 0) rfl ?_
          refine wa_goto ⟨_, rfl⟩ ?_
          refine wa_ireturn rfl ?_
          show wJ _ _ _ _ _ _ _ _ _ _
          refine wa_i2l (w_rg0 (by omega) (by omega)) ?_
          refine wa_cv 226 rfl (wy_pr rfl) wt_226 (M2 := mS [228, 229]) rfl at_XK_give ⟨_, rfl⟩ rfl rfl ⟨trivial, trivial, trivial, trivial, trivial, (Or.inr ⟨wy_pr rfl, mS_no rfl⟩), trivial, trivial⟩ trivial (fun _ _ q => q) (gw_226 (S := S) (n := 1) (k := kp) (v := pr) (h := h) (c := c) (p := p) (ln := (S 228 (-1))) hC hI ⟨by omega, by omega⟩ ⟨by omega, by omega⟩ (bh) (bc) (bp) (rfl) (bl1) ⟨by omega, by omega⟩ ⟨by omega, by omega, by omega⟩ ⟨by omega, by omega⟩ ⟨by omega, by omega⟩) (fun oq12 Sq12 hp13 q12 => ?_)
          rcases q12 with ⟨rfl, A12, ra12, rfl⟩
          show wJ _ _ _ _ _ _ _ _ _ _
          refine wa_goto ⟨_, rfl⟩ ?_
          refine wa_return rfl ?_
          exact ⟨rfl, A12, ra12, rfl⟩
      · skip
        exact absurd c9 (by omega)
  · skip
    refine wa_aload_n (n := 0) rfl ?_
    refine wb_gf4 226 rfl (wy_pr rfl) wt_226 wf_8_3 (v := 227) wl_226_3 ?_
    refine wb_gf4 227 rfl (wy_pr rfl) wt_227 wf_7_0 (v := 228) wl_227_0 ?_
    refine wa_iload_n (n := 1) rfl ?_
    refine wb_bald 228 rfl (wy_pr rfl) wt_228 (n := (S 228 (-1))) (rfl) (by omega) (by omega) (v := ky) (hky) (fun r14 => ?_)
    refine wa_iconst ?_
    refine wa_icmpne (w_rg0 (by omega) (by omega)) (w_rg0 (by omega) (by omega)) ⟨_, rfl⟩ (fun c15 => ?_) (fun c15 => ?_)
    · skip
      exact absurd c15 (by omega)
    · skip
      refine wa_fall ⟨_, rfl⟩ ?_
      refine wa_iconst ?_
      refine wa_goto ⟨_, rfl⟩ ?_
      refine wa_zreturn rfl (Or.inr rfl) ?_
      show wJ _ _ _ _ _ _ _ _ _ _
      refine wa_ifeq (w_rg0 (by omega) (by omega)) ⟨_, rfl⟩ (fun c16 => ?_) (fun c16 => ?_)
      · skip
        exact absurd c16 (by omega)
      · skip
        refine wa_aload_n (n := 0) rfl ?_
        refine wb_gf4 226 rfl (wy_pr rfl) wt_226 wf_8_0 (v := 72) wl_226_0 ?_
        refine wa_lload (n := 4) rfl ?_
        refine wb_l2i_r (wb_l2i_id ⟨(by omega), (by omega)⟩) ?_
        refine wa_cv 72 rfl (wy_pr rfl) wt_72 (M2 := mS [228, 229]) rfl at_XH_protoOf ⟨_, rfl⟩ rfl rfl ⟨trivial, trivial, trivial, (Or.inr ⟨wy_pr rfl, mS_no rfl⟩), trivial, trivial⟩ trivial (fun _ _ q => q) ?_ (fun _ _ _ q => q)
        refine wa_aload_n (n := 0) rfl ?_
        refine wb_gf4 72 rfl (wy_pr rfl) wt_72 wf_2_7 (v := 143) wl_72_7 ?_
        refine wa_iconst ?_
        refine wb_aald5 143 0 rfl rfl (wy_pr rfl) wt_143 (by rw [show _ = _ from ((cl_143 hC))]; omega) wl_143_0 ?_
        refine wa_aload_n (n := 0) rfl ?_
        refine wb_gf4 72 rfl (wy_pr rfl) wt_72 wf_2_2 (v := 126) wl_72_2 ?_
        refine wa_iconst ?_
        refine wb_aald5 126 1 rfl rfl (wy_pr rfl) wt_126 (by rw [show _ = _ from ((cl_126 hC))]; omega) wl_126_1 ?_
        refine wa_iload_n (n := 1) rfl ?_
        refine wb_iald 128 rfl (wy_pr rfl) wt_128 (n := (S 127 (-1))) ((hth 1 (by decide))) (by omega) (by omega) (v := s1) (h28) (fun r17 => ?_)
        refine wb_iald 144 rfl (wy_pr rfl) wt_144 (n := (S 144 (-1))) (rfl) (by omega) (by omega) (v := pr) (h44) (fun r18 => ?_)
        refine wa_ireturn rfl ?_
        show wJ _ _ _ _ _ _ _ _ _ _
        refine wa_istore (n := 6) rfl ?_
        refine wa_iload (n := 6) rfl ?_
        refine wa_iconst ?_
        refine wa_icmpne (w_rg0 (by omega) (by omega)) (w_rg0 (by omega) (by omega)) ⟨_, rfl⟩ (fun c19 => ?_) (fun c19 => ?_)
        · skip
          refine wa_aload_n (n := 0) rfl ?_
          refine wb_gf4 226 rfl (wy_pr rfl) wt_226 wf_8_0 (v := 72) wl_226_0 ?_
          refine wb_gf4 72 rfl (wy_pr rfl) wt_72 wf_2_2 (v := 126) wl_72_2 ?_
          refine wa_iconst ?_
          refine wb_aald5 126 0 rfl rfl (wy_pr rfl) wt_126 (by rw [show _ = _ from ((cl_126 hC))]; omega) wl_126_0 ?_
          refine wa_iload (n := 6) rfl ?_
          refine wb_iald 127 rfl (wy_pr rfl) wt_127 (n := (S 127 (-1))) (rfl) (by omega) (by omega) (v := kp) (hkp) (fun r20 => ?_)
          refine wa_fall ⟨_, rfl⟩ ?_
          refine wa_istore (n := 7) rfl ?_
          refine wa_aload_n (n := 0) rfl ?_
          refine wa_iconst ?_
          refine wa_iload (n := 7) rfl ?_
          refine wa_iload (n := 6) rfl ?_
          refine wa_iconst ?_
          refine wa_cs (M2 := mS [228, 229]) rfl at_JM_max ⟨_, rfl⟩ rfl rfl ⟨trivial, trivial, trivial, trivial, trivial, (Or.inr ⟨wy_pr rfl, mS_no rfl⟩), trivial, trivial⟩ ⟨trivial, trivial, (Or.inr ⟨wy_pr rfl, mS_no rfl⟩), trivial⟩ (fun _ _ q => q) ?_ (fun _ _ _ q => q)
          refine wa_iload_n (n := 0) rfl ?_
          refine wa_iload_n (n := 1) rfl ?_
          refine wa_icmplt (w_rg0 (by omega) (by omega)) (w_rg0 (by omega) (by omega)) ⟨_, rfl⟩ (fun c21 => ?_) (fun c21 => ?_)
          · skip
            exact absurd c21 (by omega)
          · skip
            refine wa_iload_n (n := 0) rfl ?_
            refine wa_goto ⟨_, rfl⟩ ?_
            refine wa_ireturn rfl ?_
            show wJ _ _ _ _ _ _ _ _ _ _
            refine wa_i2l (w_rg0 (by omega) (by omega)) ?_
            refine wa_cv 226 rfl (wy_pr rfl) wt_226 (M2 := mS [228, 229]) rfl at_XK_give ⟨_, rfl⟩ rfl rfl ⟨trivial, trivial, trivial, trivial, trivial, (Or.inr ⟨wy_pr rfl, mS_no rfl⟩), trivial, trivial⟩ trivial (fun _ _ q => q) (gw_226 (S := S) (n := 1) (k := kp) (v := pr) (h := h) (c := c) (p := p) (ln := (S 228 (-1))) hC hI ⟨by omega, by omega⟩ ⟨by omega, by omega⟩ (bh) (bc) (bp) (rfl) (bl1) ⟨by omega, by omega⟩ ⟨by omega, by omega, by omega⟩ ⟨by omega, by omega⟩ ⟨by omega, by omega⟩) (fun oq22 Sq22 hp23 q22 => ?_)
            rcases q22 with ⟨rfl, A22, ra22, rfl⟩
            show wJ _ _ _ _ _ _ _ _ _ _
            refine wa_goto ⟨_, rfl⟩ ?_
            refine wa_return rfl ?_
            exact ⟨rfl, A22, ra22, rfl⟩
        · skip
          exact absurd c19 (by omega)
theorem xb2e_226 {c p h ky vy : Int} (hP : xP 226 c p h S) (hky : S 228 (h - 1) = ky) (hvy : S 229 (h - 1) = vy) (hh1 : 1 ≤ h) (hke : ky ≠ 4 ∧ ky ≠ 5) : wJ (pe_GA xs) wY0 (mS [228, 229]) (d + 11) t_XK_callBuiltin ((pe_at t_XK_callBuiltin.bl 0).getD (0, [])).2 [(0, (2, 226)), (1, (0, 2))] [] S (fun o Z => o = .inl none ∧ w_up S 226 16 12 = Z) := by
  obtain ⟨⟨hC, hI⟩, ⟨bc, bc0, bc1⟩, ⟨bp, bp0, bp1⟩, ⟨bh, bh0, bh1, bh2⟩, bl1, bl2, bl3⟩ := id hP
  replace bp : S 231 (c - 1) = p := bp
  replace bh : S 227 2 = h := bh
  replace bh2 : h ≤ S 228 (-1) := bh2
  replace bl1 : S 229 (-1) = S 228 (-1) := bl1
  replace bl2 : 64 ≤ S 228 (-1) := bl2
  replace bl3 : S 228 (-1) ≤ 4095 := bl3
  refine wa_aload_n (n := 0) rfl ?_
  refine wb_gf4 226 rfl (wy_pr rfl) wt_226 wf_8_3 (v := 227) wl_226_3 ?_
  refine wb_gfi 227 rfl (wy_pr rfl) wt_227 wf_7_2 (v := h) (bh) (fun r1 => ?_)
  refine wa_iconst ?_
  refine wa_isub ?_
  refine wa_istore_n (n := 2) rfl ?_
  refine wa_aload_n (n := 0) rfl ?_
  refine wb_gf4 226 rfl (wy_pr rfl) wt_226 wf_8_3 (v := 227) wl_226_3 ?_
  refine wb_gf4 227 rfl (wy_pr rfl) wt_227 wf_7_0 (v := 228) wl_227_0 ?_
  refine wa_iload_n (n := 2) rfl ?_
  refine wb_bald 228 rfl (wy_pr rfl) wt_228 (n := (S 228 (-1))) (rfl) (by omega) (by omega) (v := ky) (hky) (fun r2 => ?_)
  refine wa_istore_n (n := 3) rfl ?_
  refine wa_aload_n (n := 0) rfl ?_
  refine wb_gf4 226 rfl (wy_pr rfl) wt_226 wf_8_3 (v := 227) wl_226_3 ?_
  refine wb_gf4 227 rfl (wy_pr rfl) wt_227 wf_7_1 (v := 229) wl_227_1 ?_
  refine wa_iload_n (n := 2) rfl ?_
  refine wb_lald 229 rfl (wy_pr rfl) wt_229 (n := (S 228 (-1))) (bl1) (by omega) (by omega) (v := vy) (hvy) (fun r3 => ?_)
  refine wa_lstore (n := 4) rfl ?_
  refine wa_iload_n (n := 1) rfl ?_
  refine wb_sw (w_rg0 (by omega) (by omega)) (tb := 6) rfl ⟨_, rfl⟩ ?_
  refine wa_aload_n (n := 0) rfl ?_
  refine wa_iload_n (n := 2) rfl ?_
  refine wa_cv 226 rfl (wy_pr rfl) wt_226 (M2 := mS [228, 229]) rfl at_XK_isHolder ⟨_, rfl⟩ rfl rfl ⟨trivial, trivial, trivial, (Or.inr ⟨wy_pr rfl, mS_no rfl⟩), trivial, trivial⟩ trivial (fun _ _ q => q) ?_ (fun _ _ _ q => q)
  refine wa_aload_n (n := 0) rfl ?_
  refine wb_gf4 226 rfl (wy_pr rfl) wt_226 wf_8_3 (v := 227) wl_226_3 ?_
  refine wb_gf4 227 rfl (wy_pr rfl) wt_227 wf_7_0 (v := 228) wl_227_0 ?_
  refine wa_iload_n (n := 1) rfl ?_
  refine wb_bald 228 rfl (wy_pr rfl) wt_228 (n := (S 228 (-1))) (rfl) (by omega) (by omega) (v := ky) (hky) (fun r4 => ?_)
  refine wa_iconst ?_
  refine wa_icmpeq (w_rg0 (by omega) (by omega)) (w_rg0 (by omega) (by omega)) ⟨_, rfl⟩ (fun c5 => ?_) (fun c5 => ?_)
  · skip
    exact absurd c5 (by omega)
  · skip
    refine wa_aload_n (n := 0) rfl ?_
    refine wb_gf4 226 rfl (wy_pr rfl) wt_226 wf_8_3 (v := 227) wl_226_3 ?_
    refine wb_gf4 227 rfl (wy_pr rfl) wt_227 wf_7_0 (v := 228) wl_227_0 ?_
    refine wa_iload_n (n := 1) rfl ?_
    refine wb_bald 228 rfl (wy_pr rfl) wt_228 (n := (S 228 (-1))) (rfl) (by omega) (by omega) (v := ky) (hky) (fun r6 => ?_)
    refine wa_iconst ?_
    refine wa_icmpne (w_rg0 (by omega) (by omega)) (w_rg0 (by omega) (by omega)) ⟨_, rfl⟩ (fun c7 => ?_) (fun c7 => ?_)
    · skip
      refine wa_iconst ?_
      refine wa_fall ⟨_, rfl⟩ ?_
      refine wa_zreturn rfl (Or.inl rfl) ?_
      show wJ _ _ _ _ _ _ _ _ _ _
      refine wa_ifeq (w_rg0 (by omega) (by omega)) ⟨_, rfl⟩ (fun c8 => ?_) (fun c8 => ?_)
      · skip
        refine wa_aload_n (n := 0) rfl ?_
        refine wa_bipush (w_rg2 (by omega) (by omega)) ?_
        refine wb_pfi 226 rfl (wy_pr rfl) wt_226 wf_8_16 (n := 16) rfl ⟨(by omega), (by omega)⟩ ?_
        refine wa_goto ⟨_, rfl⟩ ?_
        refine wa_return rfl ?_
        exact ⟨rfl, rfl⟩
      · skip
        exact absurd c8 (by omega)
    · skip
      exact absurd c7 (by omega)
end Wf9
