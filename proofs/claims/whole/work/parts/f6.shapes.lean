/-! PART f6: reachShape and bareShape of the class. -/
section Wf6
variable {xs : List (Nat × List Int32)} {M : Nat → Prop} {d : Nat} {S Z A : wS} {H : List aH} {T : List aO} {L : List aC} {G : Int → aV} {k n nm sh p r : Int}
/-- a shape with a name more has come; one without names -/
def ns_ag (m pr be nm : Int) (S Z : wS) : Prop := (Z 72 8 = m + 1 ∧ Z 150 4 = S 150 4 + 1) ∧ ((Z 144 m = pr ∧ Z 146 m = nm ∧ Z 147 m = be) ∧ Z 145 m = S 145 be + 1 ∧ Z 148 m = S 149 (hsH be nm) ∧ Z 149 (hsH be nm) = m + 1) ∧ (∀ x : Nat, x < 5 → ∀ i : Int, 0 ≤ i → i < m → Z (144 + x) i = S (144 + x) i) ∧ ((∀ x : Nat, x < 5 → Z (144 + x) (-1) = Z 144 (-1)) ∧ m < Z 144 (-1) ∧ S 144 (-1) ≤ Z 144 (-1) ∧ (Z 144 (-1) = S 144 (-1) ∨ Z 144 (-1) = 2 * m)) ∧ (∀ (j : Nat) (i : Int), j < 4000000 → j ≠ wG → (j < 144 ∨ 148 < j) → (j ≠ 149 ∨ i ≠ hsH be nm) → (j ≠ 72 ∨ i ≠ 8) → (j ≠ 150 ∨ i ≠ 4) → Z j i = S j i) ∧ gI Z ∧ rmR S Z
def bs_ag (m p : Int) (S Z : wS) : Prop := (Z 72 8 = m + 1 ∧ Z 150 4 = S 150 4 + 1) ∧ ((Z 144 m = p ∧ Z 146 m = -1 ∧ Z 147 m = -1) ∧ Z 145 m = 0 ∧ Z 132 p = m ∧ Z 130 p = 0) ∧ (∀ x : Nat, x < 5 → ∀ i : Int, 0 ≤ i → i < m → Z (144 + x) i = S (144 + x) i) ∧ ((∀ x : Nat, x < 5 → Z (144 + x) (-1) = Z 144 (-1)) ∧ m < Z 144 (-1) ∧ S 144 (-1) ≤ Z 144 (-1) ∧ (Z 144 (-1) = S 144 (-1) ∨ Z 144 (-1) = 2 * m)) ∧ (∀ (j : Nat) (i : Int), j < 4000000 → j ≠ wG → (j < 144 ∨ 148 < j) → ((j ≠ 132 ∧ j ≠ 130) ∨ i ≠ p) → (j ≠ 72 ∨ i ≠ 8) → (j ≠ 150 ∨ i ≠ 4) → Z j i = S j i) ∧ gI Z ∧ rmR S Z
set_option maxHeartbeats 4000000 in
theorem c_rs (hC : w_CL S) (hI : gI S) (hx1 : pe_at (pe_GA xs).xs 1 = some (1, tx_1)) (h : cSw S T H) (hw : wSh T H) (hs : 0 ≤ sh ∧ sh < (H.length : Int)) (hnm : 0 ≤ nm ∧ nm ≤ 100000) (hu : 0 ≤ S 150 4 ∧ S 150 4 ≤ 4000) (hr : r = aFs sh (qPr H sh) nm H 0) : wJ (pe_GA xs) wY0 (mS [144, 145, 146, 147, 148]) (d + 3) t_XH_reachShape ((pe_at t_XH_reachShape.bl 0).getD (0, [])).2 [(0, (2, 72)), (1, (0, sh)), (2, (0, nm))] [] S (fun o Z => (0 ≤ r ∧ S = Z ∧ o = .inl (some (0, r))) ∨ (r = -1 ∧ 4000 ≤ S 150 4 ∧ S = Z ∧ o = .inl (some (0, -1))) ∨ (r = -1 ∧ S 150 4 < 4000 ∧ ns_ag (H.length : Int) (qPr H sh) sh nm S Z ∧ o = .inl (some (0, (H.length : Int))))) := by
  have hg : wG = 1000000 := rfl
  have hrr := aFs_rg (be := sh) (pr := qPr H sh) (nm := nm) (H := H)
  rw [← hr] at hrr
  obtain ⟨h1, ⟨l1, l2, l3, l4⟩, ha, -⟩ := id h
  have h8 := h1.1
  have hH := hw.1.2.1
  have hsr := hsH_rg sh nm
  have hsx := (ha.1 (hsH sh nm) hsr.1 hsr.2).1
  obtain ⟨epr, -, -, esz⟩ := cHs_e h1 hs.1 hs.2
  have hcz : 0 ≤ S 145 sh ∧ S 145 sh ≤ 4001 := by rw [esz]; exact (wHs_c hw.1 sh hs.1 hs.2).1
  obtain ⟨u4, eu4⟩ : ∃ u4 : Int, S 150 4 = u4 := ⟨_, rfl⟩
  rw [eu4] at hu ⊢
  refine wa_aload_n (n := 0) rfl ?_
  refine wa_iload_n (n := 1) rfl ?_
  refine wa_iload_n (n := 2) rfl ?_
  refine wa_cv 72 rfl (wy_pr rfl) wt_72 (M2 := mS [144, 145, 146, 147, 148]) rfl at_XH_shapeBehind ⟨_, rfl⟩ rfl rfl ⟨(Or.inr ⟨wy_pr rfl, mS_no rfl⟩), trivial, trivial, trivial⟩ trivial (fun _ _ q => q) (wJ_mono (c_sb hC h hw hs hnm) (fun o Z hz => (⟨hz.1, by rw [hr]; exact hz.2⟩ : S = Z ∧ o = .inl (some (0, r))))) (fun oq1 Sq1 hp2 q1 => ?_)
  rcases q1 with ⟨rfl, rfl⟩
  show wJ _ _ _ _ _ _ _ _ _ _
  refine wa_istore_n (n := 3) rfl ?_
  refine wa_iload_n (n := 3) rfl ?_
  refine wa_iconst ?_
  refine wa_icmpne (w_rg0 (by omega) (by omega)) (w_rg0 (by omega) (by omega)) ⟨_, rfl⟩ (fun c3 => ?_) (fun c3 => ?_)
  · skip
    refine wa_iload_n (n := 3) rfl ?_
    refine wa_ireturn rfl ?_
    first
      | exact Or.inl ⟨by omega, rfl, rfl⟩
      | exact Or.inr (Or.inl ⟨by omega, by omega, rfl, by rw [show r = -1 by omega]⟩)
  · skip
    refine wa_aload_n (n := 0) rfl ?_
    refine wa_iconst ?_
    refine wa_iconst ?_
    refine wa_cv 72 rfl (wy_pr rfl) wt_72 (M2 := mS [144, 145, 146, 147, 148]) rfl at_XH_hasRoom ⟨_, rfl⟩ rfl rfl ⟨trivial, (Or.inr ⟨wy_pr rfl, mS_no rfl⟩), trivial, trivial, trivial⟩ trivial (fun _ _ q => q) ?_ (fun _ _ _ q => q)
    refine wa_aload_n (n := 0) rfl ?_
    refine wb_gf4 72 rfl (wy_pr rfl) wt_72 wf_2_10 (v := 150) wl_72_10 ?_
    refine wa_iload_n (n := 1) rfl ?_
    refine wb_iald 150 rfl (wy_pr rfl) wt_150 (n := 6) ((cl_150 hC)) (by omega) (by omega) (v := u4) (eu4) (fun r4 => ?_)
    refine wa_iload_n (n := 2) rfl ?_
    refine wa_iadd ?_
    refine wa_gs ?_
    refine wa_iload_n (n := 1) rfl ?_
    refine wb_xald 1 rfl hx1 (by decide) (by omega) (by decide) (v := 4000) (by decide) (fun r5 => ?_)
    refine wa_icmpgt (w_rg0 (by omega) (by omega)) (w_rg0 (by omega) (by omega)) ⟨_, rfl⟩ (fun c6 => ?_) (fun c6 => ?_)
    · skip
      refine wa_iconst ?_
      refine wa_fall ⟨_, rfl⟩ ?_
      refine wa_zreturn rfl (Or.inl rfl) ?_
      show wJ _ _ _ _ _ _ _ _ _ _
      refine wa_ifeq (w_rg0 (by omega) (by omega)) ⟨_, rfl⟩ (fun c7 => ?_) (fun c7 => ?_)
      · skip
        refine wa_iload_n (n := 3) rfl ?_
        refine wa_ireturn rfl ?_
        first
          | exact Or.inl ⟨by omega, rfl, rfl⟩
          | exact Or.inr (Or.inl ⟨by omega, by omega, rfl, by rw [show r = -1 by omega]⟩)
      · skip
        exact absurd c7 (by omega)
    · skip
      refine wa_iconst ?_
      refine wa_goto ⟨_, rfl⟩ ?_
      refine wa_zreturn rfl (Or.inr rfl) ?_
      show wJ _ _ _ _ _ _ _ _ _ _
      refine wa_ifeq (w_rg0 (by omega) (by omega)) ⟨_, rfl⟩ (fun c8 => ?_) (fun c8 => ?_)
      · skip
        exact absurd c8 (by omega)
      · skip
        refine wa_aload_n (n := 0) rfl ?_
        refine wb_gf4 72 rfl (wy_pr rfl) wt_72 wf_2_10 (v := 150) wl_72_10 ?_
        refine wa_iconst ?_
        refine wa_dup2 (by decide) (by decide) ?_
        refine wb_iald 150 rfl (wy_pr rfl) wt_150 (n := 6) ((cl_150 hC)) (by omega) (by omega) (v := u4) (eu4) (fun r9 => ?_)
        refine wa_iconst ?_
        refine wa_iadd ?_
        refine wb_iast 150 rfl (wy_pr rfl) wt_150 (n := 6) ((cl_150 hC)) (by omega) (by omega) ⟨(by omega), (by omega)⟩ ?_
        refine wa_aload_n (n := 0) rfl ?_
        refine wb_gf4 72 rfl (wy_pr rfl) wt_72 wf_2_7 (v := 143) wl_72_7 ?_
        refine wa_aload_n (n := 0) rfl ?_
        refine wb_gfi 72 rfl (wy_pr rfl) wt_72 wf_2_8 (v := (H.length : Int)) ((w_up_slot (by decide)).trans (h8)) (fun r10 => ?_)
        have mh11 : ∀ x : Nat, x < 5 → (w_up S 150 4 (u4 + 1)) (144 + x) (-1) = (w_up S 150 4 (u4 + 1)) 144 (-1) := fun x hx => ((w_up_no (by omega)).trans (l1 x hx)).trans ((w_up_no (by omega)).trans (rfl)).symm
        have mh11l : (w_up S 150 4 (u4 + 1)) 144 (-1) = (S 144 (-1)) := ((w_up_slot (by decide)).trans (rfl))
        refine wa_cs (M2 := mS [144, 145, 146, 147, 148]) rfl at_X_makeRoom ⟨_, rfl⟩ rfl rfl ⟨trivial, (Or.inr ⟨wy_pr rfl, mS_no rfl⟩), trivial, trivial, trivial⟩ trivial (fun _ _ q => mS_sub (by decide) q) (wJ_mono (Q2 := fun o Z => o = .inl none ∧ mrQ 144 5 (H.length : Int) (w_up S 150 4 (u4 + 1)) Z) (mkr_143 (S := (w_up S 150 4 (u4 + 1))) (cnt := (H.length : Int)) ((w_up_slot (by decide)).trans ((cl_143 hC))) (gI_up hI (by omega) (by omega) (by omega)) ⟨by omega, by omega⟩ ⟨by omega, by omega⟩ mh11) (fun _ _ q => ⟨q.1, mrQ_of q.2 mh11 (gI_up hI (by omega) (by omega) (by omega)) (by omega) (by decide)⟩)) (fun oq11 Sq11 hp12 q11 => ?_)
        rcases q11 with ⟨rfl, mr11⟩
        show wJ _ _ _ _ _ _ _ _ _ _
        have mr11a := mr11.2.1
        refine wa_aload_n (n := 0) rfl ?_
        refine wa_aload_n (n := 0) rfl ?_
        refine wb_gf4 72 rfl (wy_pr rfl) wt_72 wf_2_7 (v := 143) wl_72_7 ?_
        refine wa_iconst ?_
        refine wb_aald5 143 0 rfl rfl (wy_pr rfl) wt_143 (by rw [show _ = _ from (((mr11.2.2.2.1 143 (-1) (by decide) (by decide) (by decide)).trans ((w_up_slot (by decide)).trans ((cl_143 hC)))))]; omega) wl_143_0 ?_
        refine wa_iload_n (n := 1) rfl ?_
        refine wb_iald 144 rfl (wy_pr rfl) wt_144 (n := (Sq11 144 (-1))) (rfl) (by omega) (by omega) (v := (S 144 sh)) (((mr11.2.2.1 0 (by decide) sh (by omega) (by omega)).trans ((w_up_no (by omega)).trans (rfl)))) (fun r13 => ?_)
        refine wa_iload_n (n := 1) rfl ?_
        refine wa_iload_n (n := 2) rfl ?_
        refine wa_cv 72 rfl (wy_pr rfl) wt_72 (M2 := mS [144, 145, 146, 147, 148]) rfl at_XH_addShape ⟨_, rfl⟩ rfl rfl ⟨trivial, (Or.inr ⟨wy_pr rfl, mS_no rfl⟩), trivial, trivial, trivial⟩ trivial (fun _ _ q => q) ?_ (fun _ _ _ q => q)
        refine wa_aload_n (n := 0) rfl ?_
        refine wb_gfi 72 rfl (wy_pr rfl) wt_72 wf_2_8 (v := (H.length : Int)) (((mr11.2.2.2.1 72 8 (by decide) (by decide) (by decide)).trans ((w_up_slot (by decide)).trans (h8)))) (fun r14 => ?_)
        refine wa_istore (n := 4) rfl ?_
        refine wa_aload_n (n := 0) rfl ?_
        refine wb_gf4 72 rfl (wy_pr rfl) wt_72 wf_2_7 (v := 143) wl_72_7 ?_
        refine wa_iconst ?_
        refine wb_aald5 143 0 rfl rfl (wy_pr rfl) wt_143 (by rw [show _ = _ from (((mr11.2.2.2.1 143 (-1) (by decide) (by decide) (by decide)).trans ((w_up_slot (by decide)).trans ((cl_143 hC)))))]; omega) wl_143_0 ?_
        refine wa_iload (n := 4) rfl ?_
        refine wa_iload_n (n := 1) rfl ?_
        refine wb_iast 144 rfl (wy_pr rfl) wt_144 (n := (Sq11 144 (-1))) (rfl) (by omega) (by omega) ⟨(by omega), (by omega)⟩ ?_
        refine wa_aload_n (n := 0) rfl ?_
        refine wb_gf4 72 rfl (wy_pr rfl) wt_72 wf_2_7 (v := 143) wl_72_7 ?_
        refine wa_iconst ?_
        refine wb_aald5 143 2 rfl rfl (wy_pr rfl) wt_143 (by rw [show _ = _ from ((w_up_slot (by decide)).trans (((mr11.2.2.2.1 143 (-1) (by decide) (by decide) (by decide)).trans ((w_up_slot (by decide)).trans ((cl_143 hC))))))]; omega) wl_143_2 ?_
        refine wa_iload (n := 4) rfl ?_
        refine wa_iload_n (n := 3) rfl ?_
        refine wb_iast 146 rfl (wy_pr rfl) wt_146 (n := (Sq11 144 (-1))) ((w_up_slot (by decide)).trans ((mr11.1 2 (by decide)))) (by omega) (by omega) ⟨(by omega), (by omega)⟩ ?_
        refine wa_aload_n (n := 0) rfl ?_
        refine wb_gf4 72 rfl (wy_pr rfl) wt_72 wf_2_7 (v := 143) wl_72_7 ?_
        refine wa_iconst ?_
        refine wb_aald5 143 3 rfl rfl (wy_pr rfl) wt_143 (by rw [show _ = _ from ((w_up_slot (by decide)).trans ((w_up_slot (by decide)).trans (((mr11.2.2.2.1 143 (-1) (by decide) (by decide) (by decide)).trans ((w_up_slot (by decide)).trans ((cl_143 hC)))))))]; omega) wl_143_3 ?_
        refine wa_iload (n := 4) rfl ?_
        refine wa_iload_n (n := 2) rfl ?_
        refine wb_iast 147 rfl (wy_pr rfl) wt_147 (n := (Sq11 144 (-1))) ((w_up_slot (by decide)).trans ((w_up_slot (by decide)).trans ((mr11.1 3 (by decide))))) (by omega) (by omega) ⟨(by omega), (by omega)⟩ ?_
        refine wa_aload_n (n := 0) rfl ?_
        refine wb_gf4 72 rfl (wy_pr rfl) wt_72 wf_2_7 (v := 143) wl_72_7 ?_
        refine wa_iconst ?_
        refine wb_aald5 143 1 rfl rfl (wy_pr rfl) wt_143 (by rw [show _ = _ from ((w_up_slot (by decide)).trans ((w_up_slot (by decide)).trans ((w_up_slot (by decide)).trans (((mr11.2.2.2.1 143 (-1) (by decide) (by decide) (by decide)).trans ((w_up_slot (by decide)).trans ((cl_143 hC))))))))]; omega) wl_143_1 ?_
        refine wa_iload (n := 4) rfl ?_
        refine wa_iload_n (n := 2) rfl ?_
        refine wa_iconst ?_
        refine wa_icmpne (w_rg0 (by omega) (by omega)) (w_rg0 (by omega) (by omega)) ⟨_, rfl⟩ (fun c15 => ?_) (fun c15 => ?_)
        · skip
          refine wa_aload_n (n := 0) rfl ?_
          refine wb_gf4 72 rfl (wy_pr rfl) wt_72 wf_2_7 (v := 143) wl_72_7 ?_
          refine wa_iconst ?_
          refine wb_aald5 143 1 rfl rfl (wy_pr rfl) wt_143 (by rw [show _ = _ from ((w_up_slot (by decide)).trans ((w_up_slot (by decide)).trans ((w_up_slot (by decide)).trans (((mr11.2.2.2.1 143 (-1) (by decide) (by decide) (by decide)).trans ((w_up_slot (by decide)).trans ((cl_143 hC))))))))]; omega) wl_143_1 ?_
          refine wa_iload_n (n := 2) rfl ?_
          refine wb_iald 145 rfl (wy_pr rfl) wt_145 (n := (Sq11 144 (-1))) ((w_up_slot (by decide)).trans ((w_up_slot (by decide)).trans ((w_up_slot (by decide)).trans ((mr11.1 1 (by decide)))))) (by omega) (by omega) (v := (S 145 sh)) ((w_up_slot (by decide)).trans ((w_up_slot (by decide)).trans ((w_up_slot (by decide)).trans (((mr11.2.2.1 1 (by decide) sh (by omega) (by omega)).trans ((w_up_no (by omega)).trans (rfl))))))) (fun r16 => ?_)
          refine wa_iconst ?_
          refine wa_iadd ?_
          refine wa_fall ⟨_, rfl⟩ ?_
          refine wb_iast 145 rfl (wy_pr rfl) wt_145 (n := (Sq11 144 (-1))) ((w_up_slot (by decide)).trans ((w_up_slot (by decide)).trans ((w_up_slot (by decide)).trans ((mr11.1 1 (by decide)))))) (by omega) (by omega) ⟨(by omega), (by omega)⟩ ?_
          refine wa_iload_n (n := 2) rfl ?_
          refine wa_iconst ?_
          refine wa_icmpeq (w_rg0 (by omega) (by omega)) (w_rg0 (by omega) (by omega)) ⟨_, rfl⟩ (fun c17 => ?_) (fun c17 => ?_)
          · skip
            exact absurd c17 (by omega)
          · skip
            refine wa_iload_n (n := 2) rfl ?_
            refine wa_iload_n (n := 3) rfl ?_
            refine wa_cs (M2 := mS [144, 145, 146, 147, 148]) rfl at_XH_shapeHead ⟨_, rfl⟩ rfl rfl ⟨trivial, (Or.inr ⟨wy_pr rfl, mS_no rfl⟩), trivial, trivial, trivial, trivial⟩ trivial (fun _ _ q => q) ?_ (fun _ _ _ q => q)
            refine wa_iload_n (n := 0) rfl ?_
            refine wa_sipush (by omega) ?_
            refine wa_imul ?_
            refine wa_iload_n (n := 1) rfl ?_
            refine wa_iadd ?_
            refine wa_istore_n (n := 2) rfl ?_
            refine wa_iload_n (n := 2) rfl ?_
            refine wa_iload_n (n := 2) rfl ?_
            refine wa_bipush (w_rg2 (by omega) (by omega)) ?_
            refine wa_iushr ?_
            refine wa_ixor ?_
            refine wa_sipush (by omega) ?_
            refine wa_iand ?_
            refine wa_ireturn rfl ?_
            show wJ _ _ _ _ _ _ _ _ _ _
            show wJ _ _ _ _ _ _ _ ((0, hsH sh nm) :: _) _ _
            refine wa_istore (n := 5) rfl ?_
            refine wa_aload_n (n := 0) rfl ?_
            refine wb_gf4 72 rfl (wy_pr rfl) wt_72 wf_2_7 (v := 143) wl_72_7 ?_
            refine wa_iconst ?_
            refine wb_aald5 143 4 rfl rfl (wy_pr rfl) wt_143 (by rw [show _ = _ from ((w_up_slot (by decide)).trans ((w_up_slot (by decide)).trans ((w_up_slot (by decide)).trans ((w_up_slot (by decide)).trans (((mr11.2.2.2.1 143 (-1) (by decide) (by decide) (by decide)).trans ((w_up_slot (by decide)).trans ((cl_143 hC)))))))))]; omega) wl_143_4 ?_
            refine wa_iload (n := 4) rfl ?_
            refine wa_aload_n (n := 0) rfl ?_
            refine wb_gf4 72 rfl (wy_pr rfl) wt_72 wf_2_9 (v := 149) wl_72_9 ?_
            refine wa_iload (n := 5) rfl ?_
            refine wb_iald 149 rfl (wy_pr rfl) wt_149 (n := 1024) ((w_up_slot (by decide)).trans ((w_up_slot (by decide)).trans ((w_up_slot (by decide)).trans ((w_up_slot (by decide)).trans (((mr11.2.2.2.1 149 (-1) (by decide) (by decide) (by decide)).trans ((w_up_slot (by decide)).trans ((cl_149 hC))))))))) (by omega) (by omega) (v := (S 149 (hsH sh nm))) ((w_up_slot (by decide)).trans ((w_up_slot (by decide)).trans ((w_up_slot (by decide)).trans ((w_up_slot (by decide)).trans (((mr11.2.2.2.1 149 (hsH sh nm) (by decide) (by decide) (by decide)).trans (w_up_slot (by decide)))))))) (fun r18 => ?_)
            refine wb_iast 148 rfl (wy_pr rfl) wt_148 (n := (Sq11 144 (-1))) ((w_up_slot (by decide)).trans ((w_up_slot (by decide)).trans ((w_up_slot (by decide)).trans ((w_up_slot (by decide)).trans ((mr11.1 4 (by decide))))))) (by omega) (by omega) ⟨(by omega), (by omega)⟩ ?_
            refine wa_aload_n (n := 0) rfl ?_
            refine wb_gf4 72 rfl (wy_pr rfl) wt_72 wf_2_9 (v := 149) wl_72_9 ?_
            refine wa_iload (n := 5) rfl ?_
            refine wa_iload (n := 4) rfl ?_
            refine wa_iconst ?_
            refine wa_iadd ?_
            refine wb_iast 149 rfl (wy_pr rfl) wt_149 (n := 1024) ((w_up_slot (by decide)).trans ((w_up_slot (by decide)).trans ((w_up_slot (by decide)).trans ((w_up_slot (by decide)).trans ((w_up_slot (by decide)).trans (((mr11.2.2.2.1 149 (-1) (by decide) (by decide) (by decide)).trans ((w_up_slot (by decide)).trans ((cl_149 hC)))))))))) (by omega) (by omega) ⟨(by omega), (by omega)⟩ ?_
            refine wa_fall ⟨_, rfl⟩ ?_
            refine wa_aload_n (n := 0) rfl ?_
            refine wa_dup (by decide) ?_
            refine wb_gfi 72 rfl (wy_pr rfl) wt_72 wf_2_8 (v := (H.length : Int)) ((w_up_slot (by decide)).trans ((w_up_slot (by decide)).trans ((w_up_slot (by decide)).trans ((w_up_slot (by decide)).trans ((w_up_slot (by decide)).trans ((w_up_slot (by decide)).trans (((mr11.2.2.2.1 72 8 (by decide) (by decide) (by decide)).trans ((w_up_slot (by decide)).trans (h8)))))))))) (fun r19 => ?_)
            refine wa_iconst ?_
            refine wa_iadd ?_
            refine wb_pfi 72 rfl (wy_pr rfl) wt_72 wf_2_8 (n := 8) rfl ⟨(by omega), (by omega)⟩ ?_
            refine wa_iload (n := 4) rfl ?_
            refine wa_ireturn rfl ?_
            show wJ _ _ _ _ _ _ _ _ _ _
            refine wa_istore_n (n := 3) rfl ?_
            refine wa_fall ⟨_, rfl⟩ ?_
            refine wa_iload_n (n := 3) rfl ?_
            refine wa_ireturn rfl ?_
            refine Or.inr (Or.inr ⟨by omega, by omega, ?_, rfl⟩)
            have y44 : (w_up (w_up (w_up (w_up (w_up (w_up (w_up Sq11 144 (H.length : Int) (S 144 sh)) 146 (H.length : Int) nm) 147 (H.length : Int) sh) 145 (H.length : Int) ((S 145 sh) + 1)) 148 (H.length : Int) (S 149 (hsH sh nm))) 149 (hsH sh nm) ((H.length : Int) + 1)) 72 8 ((H.length : Int) + 1)) 144 (-1) = Sq11 144 (-1) := (w_up_no (by omega)).trans ((w_up_no (by omega)).trans ((w_up_no (by omega)).trans ((w_up_no (by omega)).trans ((w_up_no (by omega)).trans ((w_up_no (by omega)).trans ((w_up_no (by omega)).trans (rfl)))))))
            have yS : (w_up S 150 4 (u4 + 1)) 144 (-1) = S 144 (-1) := (w_up_no (by omega)).trans (rfl)
            obtain ⟨mq1, mq2, mq3⟩ := mr11.2.1
            rw [yS] at mq2 mq3
            exact ⟨⟨(w_up_same _ _ _ _), (((w_up_slot (by decide)).trans ((w_up_slot (by decide)).trans ((w_up_slot (by decide)).trans ((w_up_slot (by decide)).trans ((w_up_slot (by decide)).trans ((w_up_slot (by decide)).trans ((w_up_slot (by decide)).trans (((mr11.2.2.2.1 150 4 (by decide) (by decide) (by decide)).trans (w_up_same _ _ _ _)))))))))) : (w_up (w_up (w_up (w_up (w_up (w_up (w_up Sq11 144 (H.length : Int) (S 144 sh)) 146 (H.length : Int) nm) 147 (H.length : Int) sh) 145 (H.length : Int) ((S 145 sh) + 1)) 148 (H.length : Int) (S 149 (hsH sh nm))) 149 (hsH sh nm) ((H.length : Int) + 1)) 72 8 ((H.length : Int) + 1)) 150 4 = (u4 + 1)).trans (by omega)⟩, ⟨⟨(((w_up_slot (by decide)).trans ((w_up_slot (by decide)).trans ((w_up_slot (by decide)).trans ((w_up_slot (by decide)).trans ((w_up_slot (by decide)).trans ((w_up_slot (by decide)).trans (w_up_same _ _ _ _))))))) : (w_up (w_up (w_up (w_up (w_up (w_up (w_up Sq11 144 (H.length : Int) (S 144 sh)) 146 (H.length : Int) nm) 147 (H.length : Int) sh) 145 (H.length : Int) ((S 145 sh) + 1)) 148 (H.length : Int) (S 149 (hsH sh nm))) 149 (hsH sh nm) ((H.length : Int) + 1)) 72 8 ((H.length : Int) + 1)) 144 (H.length : Int) = S 144 sh).trans epr, ((w_up_slot (by decide)).trans ((w_up_slot (by decide)).trans ((w_up_slot (by decide)).trans ((w_up_slot (by decide)).trans ((w_up_slot (by decide)).trans (w_up_same _ _ _ _)))))), ((w_up_slot (by decide)).trans ((w_up_slot (by decide)).trans ((w_up_slot (by decide)).trans ((w_up_slot (by decide)).trans (w_up_same _ _ _ _)))))⟩, ((w_up_slot (by decide)).trans ((w_up_slot (by decide)).trans ((w_up_slot (by decide)).trans (w_up_same _ _ _ _)))), ((w_up_slot (by decide)).trans ((w_up_slot (by decide)).trans (w_up_same _ _ _ _))), ((w_up_slot (by decide)).trans (w_up_same _ _ _ _))⟩, fun x hx i i0 i1 => (w_up_no (by omega)).trans ((w_up_no (by omega)).trans ((w_up_no (by omega)).trans ((w_up_no (by omega)).trans ((w_up_no (by omega)).trans ((w_up_no (by omega)).trans ((w_up_no (by omega)).trans ((mr11.2.2.1 x hx i i0 i1).trans ((w_up_no (by omega)).trans (rfl))))))))), ⟨fun x hx => ((w_up_no (by omega)).trans ((w_up_no (by omega)).trans ((w_up_no (by omega)).trans ((w_up_no (by omega)).trans ((w_up_no (by omega)).trans ((w_up_no (by omega)).trans ((w_up_no (by omega)).trans (mr11.1 x hx)))))))).trans y44.symm, by rw [y44]; exact mq1, by rw [y44]; exact mq2, by rw [y44]; exact mq3⟩, fun j i j0 j1 j2 j3 j4 j5 => (w_up_no (by omega)).trans ((w_up_no (by omega)).trans ((w_up_no (by omega)).trans ((w_up_no (by omega)).trans ((w_up_no (by omega)).trans ((w_up_no (by omega)).trans ((w_up_no (by omega)).trans ((mr11.2.2.2.1 j i j0 j1 (by omega)).trans ((w_up_no (by omega)).trans (rfl))))))))), (gI_up (gI_up (gI_up (gI_up (gI_up (gI_up (gI_up mr11.2.2.2.2.1 (by omega) (by omega) (by omega)) (by omega) (by omega) (by omega)) (by omega) (by omega) (by omega)) (by omega) (by omega) (by omega)) (by omega) (by omega) (by omega)) (by omega) (by omega) (by omega)) (by omega) (by omega) (by omega)), (rmR_up (rmR_up (rmR_up (rmR_up (rmR_up (rmR_up (rmR_up (rmR_tr (rmR_up (rmR_rfl S) (by omega) (by decide)) mr11.2.2.2.2.2) (by omega) (by decide)) (by omega) (by decide)) (by omega) (by decide)) (by omega) (by decide)) (by omega) (by decide)) (by omega) (by decide)) (by omega) (by decide))⟩
        · skip
          exfalso; omega
theorem c_b0 : wJ (pe_GA xs) wY0 M d t_XH_bareShape ((pe_at t_XH_bareShape.bl 0).getD (0, [])).2 [(0, (2, 72)), (1, (0, -1))] [] S (fun o Z => S = Z ∧ o = .inl (some (0, 0))) := by
  refine wa_iload_n (n := 1) rfl ?_
  refine wa_iconst ?_
  refine wa_icmpne (w_rg0 (by omega) (by omega)) (w_rg0 (by omega) (by omega)) ⟨_, rfl⟩ (fun c1 => ?_) (fun c1 => ?_)
  · skip
    exact absurd c1 (by omega)
  · skip
    refine wa_iconst ?_
    refine wa_ireturn rfl ?_
    exact ⟨rfl, rfl⟩
set_option maxHeartbeats 4000000 in
theorem c_bs (hC : w_CL S) (hI : gI S) (h : cSw S T H) (hlt : cLt S T) (hw : wSh T H) (hp : isO T p) (hr : r = aFs (-1) p (-1) H 0) (hu : 0 ≤ S 150 4 ∧ (r = -1 → S 150 4 < 4000)) : wJ (pe_GA xs) wY0 (mS [144, 145, 146, 147, 148]) (d + 3) t_XH_bareShape ((pe_at t_XH_bareShape.bl 0).getD (0, [])).2 [(0, (2, 72)), (1, (0, p))] [] S (fun o Z => (0 ≤ r ∧ S = Z ∧ o = .inl (some (0, r))) ∨ (r = -1 ∧ bs_ag (H.length : Int) p S Z ∧ o = .inl (some (0, (H.length : Int))))) := by
  have hg : wG = 1000000 := rfl
  have hrr := aFs_rg (be := -1) (pr := p) (nm := -1) (H := H)
  rw [← hr] at hrr
  obtain ⟨h1, ⟨l1, l2, l3, l4⟩, ha, hb⟩ := id h
  obtain ⟨hth, t2, t3, t4⟩ := hlt
  have h8 := h1.1
  have hH := hw.1.2.1
  obtain ⟨⟨hp0, hp1⟩, -⟩ := hp
  have e132 := hb p hp0 hp1
  rw [← hr] at e132
  obtain ⟨hu0, hu1⟩ := hu
  obtain ⟨u4, eu4⟩ : ∃ u4 : Int, S 150 4 = u4 := ⟨_, rfl⟩
  rw [eu4] at hu0 hu1
  refine wa_iload_n (n := 1) rfl ?_
  refine wa_iconst ?_
  refine wa_icmpne (w_rg0 (by omega) (by omega)) (w_rg0 (by omega) (by omega)) ⟨_, rfl⟩ (fun c1 => ?_) (fun c1 => ?_)
  · skip
    refine wa_aload_n (n := 0) rfl ?_
    refine wb_gf4 72 rfl (wy_pr rfl) wt_72 wf_2_2 (v := 126) wl_72_2 ?_
    refine wa_iconst ?_
    refine wb_aald5 126 5 rfl rfl (wy_pr rfl) wt_126 (by rw [show _ = _ from ((cl_126 hC))]; omega) wl_126_5 ?_
    refine wa_iload_n (n := 1) rfl ?_
    refine wb_iald 132 rfl (wy_pr rfl) wt_132 (n := (S 127 (-1))) ((hth 5 (by decide))) (by omega) (by omega) (v := r) (e132) (fun r2 => ?_)
    refine wa_iconst ?_
    refine wa_icmpne (w_rg0 (by omega) (by omega)) (w_rg0 (by omega) (by omega)) ⟨_, rfl⟩ (fun c3 => ?_) (fun c3 => ?_)
    · skip
      refine wa_aload_n (n := 0) rfl ?_
      refine wb_gf4 72 rfl (wy_pr rfl) wt_72 wf_2_2 (v := 126) wl_72_2 ?_
      refine wa_iconst ?_
      refine wb_aald5 126 5 rfl rfl (wy_pr rfl) wt_126 (by rw [show _ = _ from ((cl_126 hC))]; omega) wl_126_5 ?_
      refine wa_iload_n (n := 1) rfl ?_
      refine wb_iald 132 rfl (wy_pr rfl) wt_132 (n := (S 127 (-1))) ((hth 5 (by decide))) (by omega) (by omega) (v := r) (e132) (fun r4 => ?_)
      refine wa_ireturn rfl ?_
      exact Or.inl ⟨by omega, rfl, rfl⟩
    · skip
      have hu2 := hu1 (by omega)
      refine wa_aload_n (n := 0) rfl ?_
      refine wb_gf4 72 rfl (wy_pr rfl) wt_72 wf_2_10 (v := 150) wl_72_10 ?_
      refine wa_iconst ?_
      refine wa_dup2 (by decide) (by decide) ?_
      refine wb_iald 150 rfl (wy_pr rfl) wt_150 (n := 6) ((cl_150 hC)) (by omega) (by omega) (v := u4) (eu4) (fun r5 => ?_)
      refine wa_iconst ?_
      refine wa_iadd ?_
      refine wb_iast 150 rfl (wy_pr rfl) wt_150 (n := 6) ((cl_150 hC)) (by omega) (by omega) ⟨(by omega), (by omega)⟩ ?_
      refine wa_aload_n (n := 0) rfl ?_
      refine wb_gf4 72 rfl (wy_pr rfl) wt_72 wf_2_7 (v := 143) wl_72_7 ?_
      refine wa_aload_n (n := 0) rfl ?_
      refine wb_gfi 72 rfl (wy_pr rfl) wt_72 wf_2_8 (v := (H.length : Int)) ((w_up_slot (by decide)).trans (h8)) (fun r6 => ?_)
      have mh7 : ∀ x : Nat, x < 5 → (w_up S 150 4 (u4 + 1)) (144 + x) (-1) = (w_up S 150 4 (u4 + 1)) 144 (-1) := fun x hx => ((w_up_no (by omega)).trans (l1 x hx)).trans ((w_up_no (by omega)).trans (rfl)).symm
      have mh7l : (w_up S 150 4 (u4 + 1)) 144 (-1) = (S 144 (-1)) := ((w_up_slot (by decide)).trans (rfl))
      refine wa_cs (M2 := mS [144, 145, 146, 147, 148]) rfl at_X_makeRoom ⟨_, rfl⟩ rfl rfl ⟨(Or.inr ⟨wy_pr rfl, mS_no rfl⟩), trivial, trivial⟩ trivial (fun _ _ q => mS_sub (by decide) q) (wJ_mono (Q2 := fun o Z => o = .inl none ∧ mrQ 144 5 (H.length : Int) (w_up S 150 4 (u4 + 1)) Z) (mkr_143 (S := (w_up S 150 4 (u4 + 1))) (cnt := (H.length : Int)) ((w_up_slot (by decide)).trans ((cl_143 hC))) (gI_up hI (by omega) (by omega) (by omega)) ⟨by omega, by omega⟩ ⟨by omega, by omega⟩ mh7) (fun _ _ q => ⟨q.1, mrQ_of q.2 mh7 (gI_up hI (by omega) (by omega) (by omega)) (by omega) (by decide)⟩)) (fun oq7 Sq7 hp8 q7 => ?_)
      rcases q7 with ⟨rfl, mr7⟩
      show wJ _ _ _ _ _ _ _ _ _ _
      have mr7a := mr7.2.1
      refine wa_aload_n (n := 0) rfl ?_
      refine wb_gf4 72 rfl (wy_pr rfl) wt_72 wf_2_2 (v := 126) wl_72_2 ?_
      refine wa_iconst ?_
      refine wb_aald5 126 5 rfl rfl (wy_pr rfl) wt_126 (by rw [show _ = _ from (((mr7.2.2.2.1 126 (-1) (by decide) (by decide) (by decide)).trans ((w_up_slot (by decide)).trans ((cl_126 hC)))))]; omega) wl_126_5 ?_
      refine wa_iload_n (n := 1) rfl ?_
      refine wa_aload_n (n := 0) rfl ?_
      refine wa_iload_n (n := 1) rfl ?_
      refine wa_iconst ?_
      refine wa_iconst ?_
      refine wa_cv 72 rfl (wy_pr rfl) wt_72 (M2 := mS [144, 145, 146, 147, 148]) rfl at_XH_addShape ⟨_, rfl⟩ rfl rfl ⟨(Or.inr ⟨wy_pr rfl, mS_no rfl⟩), trivial, trivial⟩ ⟨trivial, (Or.inr ⟨wy_pr rfl, mS_no rfl⟩), trivial⟩ (fun _ _ q => q) ?_ (fun _ _ _ q => q)
      refine wa_aload_n (n := 0) rfl ?_
      refine wb_gfi 72 rfl (wy_pr rfl) wt_72 wf_2_8 (v := (H.length : Int)) (((mr7.2.2.2.1 72 8 (by decide) (by decide) (by decide)).trans ((w_up_slot (by decide)).trans (h8)))) (fun r9 => ?_)
      refine wa_istore (n := 4) rfl ?_
      refine wa_aload_n (n := 0) rfl ?_
      refine wb_gf4 72 rfl (wy_pr rfl) wt_72 wf_2_7 (v := 143) wl_72_7 ?_
      refine wa_iconst ?_
      refine wb_aald5 143 0 rfl rfl (wy_pr rfl) wt_143 (by rw [show _ = _ from (((mr7.2.2.2.1 143 (-1) (by decide) (by decide) (by decide)).trans ((w_up_slot (by decide)).trans ((cl_143 hC)))))]; omega) wl_143_0 ?_
      refine wa_iload (n := 4) rfl ?_
      refine wa_iload_n (n := 1) rfl ?_
      refine wb_iast 144 rfl (wy_pr rfl) wt_144 (n := (Sq7 144 (-1))) (rfl) (by omega) (by omega) ⟨(by omega), (by omega)⟩ ?_
      refine wa_aload_n (n := 0) rfl ?_
      refine wb_gf4 72 rfl (wy_pr rfl) wt_72 wf_2_7 (v := 143) wl_72_7 ?_
      refine wa_iconst ?_
      refine wb_aald5 143 2 rfl rfl (wy_pr rfl) wt_143 (by rw [show _ = _ from ((w_up_slot (by decide)).trans (((mr7.2.2.2.1 143 (-1) (by decide) (by decide) (by decide)).trans ((w_up_slot (by decide)).trans ((cl_143 hC))))))]; omega) wl_143_2 ?_
      refine wa_iload (n := 4) rfl ?_
      refine wa_iload_n (n := 3) rfl ?_
      refine wb_iast 146 rfl (wy_pr rfl) wt_146 (n := (Sq7 144 (-1))) ((w_up_slot (by decide)).trans ((mr7.1 2 (by decide)))) (by omega) (by omega) ⟨(by omega), (by omega)⟩ ?_
      refine wa_aload_n (n := 0) rfl ?_
      refine wb_gf4 72 rfl (wy_pr rfl) wt_72 wf_2_7 (v := 143) wl_72_7 ?_
      refine wa_iconst ?_
      refine wb_aald5 143 3 rfl rfl (wy_pr rfl) wt_143 (by rw [show _ = _ from ((w_up_slot (by decide)).trans ((w_up_slot (by decide)).trans (((mr7.2.2.2.1 143 (-1) (by decide) (by decide) (by decide)).trans ((w_up_slot (by decide)).trans ((cl_143 hC)))))))]; omega) wl_143_3 ?_
      refine wa_iload (n := 4) rfl ?_
      refine wa_iload_n (n := 2) rfl ?_
      refine wb_iast 147 rfl (wy_pr rfl) wt_147 (n := (Sq7 144 (-1))) ((w_up_slot (by decide)).trans ((w_up_slot (by decide)).trans ((mr7.1 3 (by decide))))) (by omega) (by omega) ⟨(by omega), (by omega)⟩ ?_
      refine wa_aload_n (n := 0) rfl ?_
      refine wb_gf4 72 rfl (wy_pr rfl) wt_72 wf_2_7 (v := 143) wl_72_7 ?_
      refine wa_iconst ?_
      refine wb_aald5 143 1 rfl rfl (wy_pr rfl) wt_143 (by rw [show _ = _ from ((w_up_slot (by decide)).trans ((w_up_slot (by decide)).trans ((w_up_slot (by decide)).trans (((mr7.2.2.2.1 143 (-1) (by decide) (by decide) (by decide)).trans ((w_up_slot (by decide)).trans ((cl_143 hC))))))))]; omega) wl_143_1 ?_
      refine wa_iload (n := 4) rfl ?_
      refine wa_iload_n (n := 2) rfl ?_
      refine wa_iconst ?_
      refine wa_icmpne (w_rg0 (by omega) (by omega)) (w_rg0 (by omega) (by omega)) ⟨_, rfl⟩ (fun c10 => ?_) (fun c10 => ?_)
      · skip
        exact absurd c10 (by omega)
      · skip
        refine wa_iconst ?_
        refine wa_goto ⟨_, rfl⟩ ?_
        refine wb_iast 145 rfl (wy_pr rfl) wt_145 (n := (Sq7 144 (-1))) ((w_up_slot (by decide)).trans ((w_up_slot (by decide)).trans ((w_up_slot (by decide)).trans ((mr7.1 1 (by decide)))))) (by omega) (by omega) ⟨(by omega), (by omega)⟩ ?_
        refine wa_iload_n (n := 2) rfl ?_
        refine wa_iconst ?_
        refine wa_icmpeq (w_rg0 (by omega) (by omega)) (w_rg0 (by omega) (by omega)) ⟨_, rfl⟩ (fun c11 => ?_) (fun c11 => ?_)
        · skip
          refine wa_aload_n (n := 0) rfl ?_
          refine wa_dup (by decide) ?_
          refine wb_gfi 72 rfl (wy_pr rfl) wt_72 wf_2_8 (v := (H.length : Int)) ((w_up_slot (by decide)).trans ((w_up_slot (by decide)).trans ((w_up_slot (by decide)).trans ((w_up_slot (by decide)).trans (((mr7.2.2.2.1 72 8 (by decide) (by decide) (by decide)).trans ((w_up_slot (by decide)).trans (h8)))))))) (fun r12 => ?_)
          refine wa_iconst ?_
          refine wa_iadd ?_
          refine wb_pfi 72 rfl (wy_pr rfl) wt_72 wf_2_8 (n := 8) rfl ⟨(by omega), (by omega)⟩ ?_
          refine wa_iload (n := 4) rfl ?_
          refine wa_ireturn rfl ?_
          show wJ _ _ _ _ _ _ _ _ _ _
          refine wb_iast 132 rfl (wy_pr rfl) wt_132 (n := (S 127 (-1))) ((w_up_slot (by decide)).trans ((w_up_slot (by decide)).trans ((w_up_slot (by decide)).trans ((w_up_slot (by decide)).trans ((w_up_slot (by decide)).trans (((mr7.2.2.2.1 132 (-1) (by decide) (by decide) (by decide)).trans ((w_up_slot (by decide)).trans ((hth 5 (by decide))))))))))) (by omega) (by omega) ⟨(by omega), (by omega)⟩ ?_
          refine wa_aload_n (n := 0) rfl ?_
          refine wb_gf4 72 rfl (wy_pr rfl) wt_72 wf_2_2 (v := 126) wl_72_2 ?_
          refine wa_iconst ?_
          refine wb_aald5 126 3 rfl rfl (wy_pr rfl) wt_126 (by rw [show _ = _ from ((w_up_slot (by decide)).trans ((w_up_slot (by decide)).trans ((w_up_slot (by decide)).trans ((w_up_slot (by decide)).trans ((w_up_slot (by decide)).trans ((w_up_slot (by decide)).trans (((mr7.2.2.2.1 126 (-1) (by decide) (by decide) (by decide)).trans ((w_up_slot (by decide)).trans ((cl_126 hC)))))))))))]; omega) wl_126_3 ?_
          refine wa_iload_n (n := 1) rfl ?_
          refine wa_iconst ?_
          refine wb_iast 130 rfl (wy_pr rfl) wt_130 (n := (S 127 (-1))) ((w_up_slot (by decide)).trans ((w_up_slot (by decide)).trans ((w_up_slot (by decide)).trans ((w_up_slot (by decide)).trans ((w_up_slot (by decide)).trans ((w_up_slot (by decide)).trans (((mr7.2.2.2.1 130 (-1) (by decide) (by decide) (by decide)).trans ((w_up_slot (by decide)).trans ((hth 3 (by decide)))))))))))) (by omega) (by omega) ⟨(by omega), (by omega)⟩ ?_
          refine wa_fall ⟨_, rfl⟩ ?_
          refine wa_aload_n (n := 0) rfl ?_
          refine wb_gf4 72 rfl (wy_pr rfl) wt_72 wf_2_2 (v := 126) wl_72_2 ?_
          refine wa_iconst ?_
          refine wb_aald5 126 5 rfl rfl (wy_pr rfl) wt_126 (by rw [show _ = _ from ((w_up_slot (by decide)).trans ((w_up_slot (by decide)).trans ((w_up_slot (by decide)).trans ((w_up_slot (by decide)).trans ((w_up_slot (by decide)).trans ((w_up_slot (by decide)).trans ((w_up_slot (by decide)).trans (((mr7.2.2.2.1 126 (-1) (by decide) (by decide) (by decide)).trans ((w_up_slot (by decide)).trans ((cl_126 hC))))))))))))]; omega) wl_126_5 ?_
          refine wa_iload_n (n := 1) rfl ?_
          refine wb_iald 132 rfl (wy_pr rfl) wt_132 (n := (S 127 (-1))) ((w_up_slot (by decide)).trans ((w_up_at (by omega)).trans ((w_up_slot (by decide)).trans ((w_up_slot (by decide)).trans ((w_up_slot (by decide)).trans ((w_up_slot (by decide)).trans ((w_up_slot (by decide)).trans (((mr7.2.2.2.1 132 (-1) (by decide) (by decide) (by decide)).trans ((w_up_slot (by decide)).trans ((hth 5 (by decide))))))))))))) (by omega) (by omega) (v := (H.length : Int)) ((w_up_slot (by decide)).trans (w_up_same _ _ _ _)) (fun r13 => ?_)
          refine wa_ireturn rfl ?_
          refine Or.inr ⟨by omega, ?_, rfl⟩
          have y44 : (w_up (w_up (w_up (w_up (w_up (w_up (w_up Sq7 144 (H.length : Int) p) 146 (H.length : Int) (-1)) 147 (H.length : Int) (-1)) 145 (H.length : Int) 0) 72 8 ((H.length : Int) + 1)) 132 p (H.length : Int)) 130 p 0) 144 (-1) = Sq7 144 (-1) := (w_up_no (by omega)).trans ((w_up_no (by omega)).trans ((w_up_no (by omega)).trans ((w_up_no (by omega)).trans ((w_up_no (by omega)).trans ((w_up_no (by omega)).trans ((w_up_no (by omega)).trans (rfl)))))))
          have yS : (w_up S 150 4 (u4 + 1)) 144 (-1) = S 144 (-1) := (w_up_no (by omega)).trans (rfl)
          obtain ⟨mq1, mq2, mq3⟩ := mr7.2.1
          rw [yS] at mq2 mq3
          exact ⟨⟨((w_up_slot (by decide)).trans ((w_up_slot (by decide)).trans (w_up_same _ _ _ _))), (((w_up_slot (by decide)).trans ((w_up_slot (by decide)).trans ((w_up_slot (by decide)).trans ((w_up_slot (by decide)).trans ((w_up_slot (by decide)).trans ((w_up_slot (by decide)).trans ((w_up_slot (by decide)).trans (((mr7.2.2.2.1 150 4 (by decide) (by decide) (by decide)).trans (w_up_same _ _ _ _)))))))))) : (w_up (w_up (w_up (w_up (w_up (w_up (w_up Sq7 144 (H.length : Int) p) 146 (H.length : Int) (-1)) 147 (H.length : Int) (-1)) 145 (H.length : Int) 0) 72 8 ((H.length : Int) + 1)) 132 p (H.length : Int)) 130 p 0) 150 4 = (u4 + 1)).trans (by omega)⟩, ⟨⟨((w_up_slot (by decide)).trans ((w_up_slot (by decide)).trans ((w_up_slot (by decide)).trans ((w_up_slot (by decide)).trans ((w_up_slot (by decide)).trans ((w_up_slot (by decide)).trans (w_up_same _ _ _ _))))))), ((w_up_slot (by decide)).trans ((w_up_slot (by decide)).trans ((w_up_slot (by decide)).trans ((w_up_slot (by decide)).trans ((w_up_slot (by decide)).trans (w_up_same _ _ _ _)))))), ((w_up_slot (by decide)).trans ((w_up_slot (by decide)).trans ((w_up_slot (by decide)).trans ((w_up_slot (by decide)).trans (w_up_same _ _ _ _)))))⟩, ((w_up_slot (by decide)).trans ((w_up_slot (by decide)).trans ((w_up_slot (by decide)).trans (w_up_same _ _ _ _)))), ((w_up_slot (by decide)).trans (w_up_same _ _ _ _)), (w_up_same _ _ _ _)⟩, fun x hx i i0 i1 => (w_up_no (by omega)).trans ((w_up_no (by omega)).trans ((w_up_no (by omega)).trans ((w_up_no (by omega)).trans ((w_up_no (by omega)).trans ((w_up_no (by omega)).trans ((w_up_no (by omega)).trans ((mr7.2.2.1 x hx i i0 i1).trans ((w_up_no (by omega)).trans (rfl))))))))), ⟨fun x hx => ((w_up_no (by omega)).trans ((w_up_no (by omega)).trans ((w_up_no (by omega)).trans ((w_up_no (by omega)).trans ((w_up_no (by omega)).trans ((w_up_no (by omega)).trans ((w_up_no (by omega)).trans (mr7.1 x hx)))))))).trans y44.symm, by rw [y44]; exact mq1, by rw [y44]; exact mq2, by rw [y44]; exact mq3⟩, fun j i j0 j1 j2 j3 j4 j5 => (w_up_no (by omega)).trans ((w_up_no (by omega)).trans ((w_up_no (by omega)).trans ((w_up_no (by omega)).trans ((w_up_no (by omega)).trans ((w_up_no (by omega)).trans ((w_up_no (by omega)).trans ((mr7.2.2.2.1 j i j0 j1 (by omega)).trans ((w_up_no (by omega)).trans (rfl))))))))), (gI_up (gI_up (gI_up (gI_up (gI_up (gI_up (gI_up mr7.2.2.2.2.1 (by omega) (by omega) (by omega)) (by omega) (by omega) (by omega)) (by omega) (by omega) (by omega)) (by omega) (by omega) (by omega)) (by omega) (by omega) (by omega)) (by omega) (by omega) (by omega)) (by omega) (by omega) (by omega)), (rmR_up (rmR_up (rmR_up (rmR_up (rmR_up (rmR_up (rmR_up (rmR_tr (rmR_up (rmR_rfl S) (by omega) (by decide)) mr7.2.2.2.2.2) (by omega) (by decide)) (by omega) (by decide)) (by omega) (by decide)) (by omega) (by decide)) (by omega) (by decide)) (by omega) (by decide)) (by omega) (by decide))⟩
        · skip
          exact absurd c11 (by omega)
  · skip
    exfalso; omega
end Wf6
