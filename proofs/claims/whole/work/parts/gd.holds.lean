/-! PART gd: holds and isRight of the class's linker. -/
section Wgd
variable {xs : List (Nat × List Int32)} {M : Nat → Prop} {d : Nat} {S Z : wS} {H : List aH} {T : List aO} {kd gk gb nm es x lo hi k n : Int}
/-- an entry holds -/
abbrev hoP (S : wS) (kd gk gb nm lo hi x : Int) : Prop := (S 48 x = 0 ∧ (gk = 4 ∨ gk = 5) ∧ (((kd = 4 ∨ kd = 6) ∧ gk = 5 ∧ S 129 gb = S 49 x) ∨ (kd ≠ 4 ∧ kd ≠ 6 ∧ S 128 gb = S 49 x ∧ nm = S 53 x))) ∨ (S 48 x = 1 ∧ gk = 7 ∧ S 49 x = S 129 gb ∧ (S 56 x = -1 ∨ (S 56 x = hi ∧ S 55 x = lo))) ∨ (S 48 x = 2 ∧ gk = 8 ∧ S 49 x = gb ∧ (S 56 x = -1 ∨ (S 56 x = hi ∧ S 55 x = lo))) ∨ (S 48 x = 3 ∧ ((S 49 x = 0 ∧ gk = 6) ∨ (S 49 x ≠ 0 ∧ gk = 3)))
/-- an entry says what a lookup finds -/
abbrev irP (S : wS) (T : List aO) (H : List aH) (kd gb nm x : Int) : Prop := (S 48 x ≠ 0 ∨ kd = 4 ∨ kd = 6) ∨ ((kd = 1 ∨ kd = 3) ∧ aIx T nm gb = S 51 x ∧ (S 51 x ≠ -1 ∨ aFs (S 128 gb) (qPr H (S 128 gb)) nm H 0 = S 52 x)) ∨ (kd ≠ 1 ∧ kd ≠ 3 ∧ ((aUp T H nm gb = -1 ∧ S 51 x = -1) ∨ (aUp T H nm gb ≠ -1 ∧ aIx T nm (aUp T H nm gb) = S 51 x ∧ ((aUp T H nm gb = gb ∧ S 50 x = -1) ∨ (aUp T H nm gb ≠ gb ∧ S 50 x = aUp T H nm gb)))))
theorem c_ixo (hC : w_CL S) (h : cSw S T H) (ht : cTh S T) (hw : wSh T H) (hk : isO T k) (hn : n = S 128 k) (hnm : -2147483648 ≤ nm ∧ nm ≤ 2147483647) : wJ (pe_GA xs) wY0 M d t_XH_indexIn ((pe_at t_XH_indexIn.bl 0).getD (0, [])).2 [(0, (2, 72)), (1, (0, n)), (2, (0, nm))] [] S (fun o Z => S = Z ∧ o = .inl (some (0, aIx T nm k))) := by
  have e := (c_th ht hk.1.1 hk.1.2).1.2.1
  have hs := wSh_sh hw hk
  refine wJ_mono (c_ix hC h hw (k := n) (by rw [hn, e]; exact hs) hnm) (fun o Z hz => ⟨hz.1, ?_⟩)
  rw [hz.2, hn, e, ← (hw.2.2.2.1 k hk).1]
  rfl
set_option maxHeartbeats 8000000 in
theorem hol_ok (hC : w_CL S) (hl : cSl S) (hlt : cLt S T) (l7 : S 158 7 = kd) (l9 : S 158 9 = gk) (l10 : S 158 10 = gb) (l11 : S 158 11 = nm) (l13 : S 158 13 = es) (hx : 0 ≤ x ∧ x < S 48 (-1)) (hT : (T.length : Int) ≤ 8000) (hlo : wb_l2i es = lo) (hhi : wb_l2i (wb_lushr es 32) = hi) (hll : 0 ≤ S 48 x ∧ S 48 x ≤ 3) (hgb : (gk = 4 ∨ gk = 5 ∨ gk = 7) → 0 ≤ gb ∧ gb < (T.length : Int)) : wJ (pe_GA xs) wY0 M (d + 2) t_XL_holds ((pe_at t_XL_holds.bl 0).getD (0, [])).2 [(0, (2, 158)), (1, (0, x))] [] S (fun o Z => S = Z ∧ o = .inl (some (0, if hoP S kd gk gb nm lo hi x then 1 else 0))) := by
  have h35 := hl.2.1
  have h48 := hl.2.2.2
  have t2 := hlt.2
  have hlr : -2147483648 ≤ lo ∧ lo ≤ 2147483647 := by rw [← hlo]; exact wb_l2i_rg es
  have hhr : -2147483648 ≤ hi ∧ hi ≤ 2147483647 := by rw [← hhi]; exact wb_l2i_rg _
  refine wa_aload_n (n := 0) rfl ?_
  refine wb_gf4 158 rfl (wy_pr rfl) wt_158 wf_5_3 (v := 47) wl_158_3 ?_
  refine wa_iconst ?_
  refine wb_aald5 47 1 rfl rfl (wy_pr rfl) wt_47 (by rw [show _ = _ from ((cl_47 hC))]; omega) wl_47_1 ?_
  refine wa_iload_n (n := 1) rfl ?_
  refine wb_iald 49 rfl (wy_pr rfl) wt_49 (n := (S 48 (-1))) ((hl.2.2.1 1 (by decide))) (by omega) (by omega) (v := (S 49 x)) rfl (fun r1 => ?_)
  refine wa_istore_n (n := 2) rfl ?_
  refine wa_aload_n (n := 0) rfl ?_
  refine wb_gf4 158 rfl (wy_pr rfl) wt_158 wf_5_3 (v := 47) wl_158_3 ?_
  refine wa_iconst ?_
  refine wb_aald5 47 0 rfl rfl (wy_pr rfl) wt_47 (by rw [show _ = _ from ((cl_47 hC))]; omega) wl_47_0 ?_
  refine wa_iload_n (n := 1) rfl ?_
  refine wb_iald 48 rfl (wy_pr rfl) wt_48 (n := (S 48 (-1))) (rfl) (by omega) (by omega) (v := (S 48 x)) rfl (fun r2 => ?_)
  by_cases c3 : (S 48 x) = 0
  · refine wb_sw (w_rg0 (by omega) (by omega)) (tb := 1) (by rw [c3]; rfl) ⟨_, rfl⟩ ?_
    refine wa_aload_n (n := 0) rfl ?_
    refine wa_cv 158 rfl (wy_pr rfl) wt_158 (M2 := fun _ => False) rfl at_XL_isHolder ⟨_, rfl⟩ rfl rfl ⟨trivial, (Or.inr ⟨wy_pr rfl, fun q => q⟩), trivial, trivial⟩ trivial (fun _ _ q => False.elim q) ?_ (fun _ _ _ q => q)
    refine wa_aload_n (n := 0) rfl ?_
    refine wb_gfi 158 rfl (wy_pr rfl) wt_158 wf_5_9 (v := gk) (l9) (fun r4 => ?_)
    refine wa_iconst ?_
    refine wa_icmpeq (w_rg0 (by omega) (by omega)) (w_rg0 (by omega) (by omega)) ⟨_, rfl⟩ (fun c5 => ?_) (fun c5 => ?_)
    · skip
      refine wa_iconst ?_
      refine wa_goto ⟨_, rfl⟩ ?_
      refine wa_zreturn rfl (Or.inr rfl) ?_
      show wJ _ _ _ _ _ _ _ _ _ _
      refine wa_ifeq (w_rg0 (by omega) (by omega)) ⟨_, rfl⟩ (fun c6 => ?_) (fun c6 => ?_)
      · skip
        exact absurd c6 (by omega)
      · skip
        refine wa_aload_n (n := 0) rfl ?_
        refine wa_iload_n (n := 1) rfl ?_
        refine wa_aload_n (n := 0) rfl ?_
        refine wb_gfl 158 rfl (wy_pr rfl) wt_158 wf_5_10 (v := gb) (l10) (fun r7 => ?_)
        refine wb_l2i_r (wb_l2i_id ⟨(by omega), (by omega)⟩) ?_
        refine wa_cv 158 rfl (wy_pr rfl) wt_158 (M2 := fun _ => False) rfl at_XL_holdsOn ⟨_, rfl⟩ rfl rfl ⟨trivial, (Or.inr ⟨wy_pr rfl, fun q => q⟩), trivial, trivial⟩ trivial (fun _ _ q => False.elim q) ?_ (fun _ _ _ q => q)
        refine wa_aload_n (n := 0) rfl ?_
        refine wb_gfi 158 rfl (wy_pr rfl) wt_158 wf_5_7 (v := kd) (l7) (fun r8 => ?_)
        refine wa_iconst ?_
        refine wa_icmpeq (w_rg0 (by omega) (by omega)) (w_rg0 (by omega) (by omega)) ⟨_, rfl⟩ (fun c9 => ?_) (fun c9 => ?_)
        · skip
          refine wa_aload_n (n := 0) rfl ?_
          refine wb_gfi 158 rfl (wy_pr rfl) wt_158 wf_5_9 (v := gk) (l9) (fun r10 => ?_)
          refine wa_iconst ?_
          refine wa_icmpne (w_rg0 (by omega) (by omega)) (w_rg0 (by omega) (by omega)) ⟨_, rfl⟩ (fun c11 => ?_) (fun c11 => ?_)
          · skip
            refine wa_iconst ?_
            refine wa_fall ⟨_, rfl⟩ ?_
            refine wa_zreturn rfl (Or.inl rfl) ?_
            show wJ _ _ _ _ _ _ _ _ _ _
            refine wa_ifeq (w_rg0 (by omega) (by omega)) ⟨_, rfl⟩ (fun c12 => ?_) (fun c12 => ?_)
            · skip
              refine wa_iconst ?_
              refine wa_fall ⟨_, rfl⟩ ?_
              refine wa_zreturn rfl (Or.inl rfl) ?_
              have hoy : ¬ hoP S kd gk gb nm lo hi x := by
                clear hC hl hlt
                rintro (⟨z1, z2, (⟨z3, z4, z5⟩ | ⟨z3, z4, z5, z6⟩)⟩ | ⟨z1, z2, z3, z4⟩ | ⟨z1, z2, z3, z4⟩ | ⟨z1, z2⟩) <;> omega
              exact ⟨rfl, by rw [if_neg hoy]⟩
            · skip
              exact absurd c12 (by omega)
          · skip
            exact absurd c11 (by omega)
        · skip
          refine wa_aload_n (n := 0) rfl ?_
          refine wb_gfi 158 rfl (wy_pr rfl) wt_158 wf_5_7 (v := kd) (l7) (fun r13 => ?_)
          refine wa_bipush (w_rg2 (by omega) (by omega)) ?_
          refine wa_icmpne (w_rg0 (by omega) (by omega)) (w_rg0 (by omega) (by omega)) ⟨_, rfl⟩ (fun c14 => ?_) (fun c14 => ?_)
          · skip
            refine wa_aload_n (n := 0) rfl ?_
            refine wb_gf4 158 rfl (wy_pr rfl) wt_158 wf_5_0 (v := 72) wl_158_0 ?_
            refine wb_gf4 72 rfl (wy_pr rfl) wt_72 wf_2_2 (v := 126) wl_72_2 ?_
            refine wa_iconst ?_
            refine wb_aald5 126 1 rfl rfl (wy_pr rfl) wt_126 (by rw [show _ = _ from ((cl_126 hC))]; omega) wl_126_1 ?_
            refine wa_iload_n (n := 2) rfl ?_
            refine wb_iald 128 rfl (wy_pr rfl) wt_128 (n := (S 127 (-1))) ((hlt.1 1 (by decide))) (by omega) (by omega) (v := (S 128 gb)) rfl (fun r15 => ?_)
            refine wa_aload_n (n := 0) rfl ?_
            refine wb_gf4 158 rfl (wy_pr rfl) wt_158 wf_5_3 (v := 47) wl_158_3 ?_
            refine wa_iconst ?_
            refine wb_aald5 47 1 rfl rfl (wy_pr rfl) wt_47 (by rw [show _ = _ from ((cl_47 hC))]; omega) wl_47_1 ?_
            refine wa_iload_n (n := 1) rfl ?_
            refine wb_iald 49 rfl (wy_pr rfl) wt_49 (n := (S 48 (-1))) ((hl.2.2.1 1 (by decide))) (by omega) (by omega) (v := (S 49 x)) rfl (fun r16 => ?_)
            refine wa_icmpne (w_rg0 (by omega) (by omega)) (w_rg0 (by omega) (by omega)) ⟨_, rfl⟩ (fun c17 => ?_) (fun c17 => ?_)
            · skip
              refine wa_iconst ?_
              refine wa_fall ⟨_, rfl⟩ ?_
              refine wa_zreturn rfl (Or.inl rfl) ?_
              show wJ _ _ _ _ _ _ _ _ _ _
              refine wa_ifeq (w_rg0 (by omega) (by omega)) ⟨_, rfl⟩ (fun c18 => ?_) (fun c18 => ?_)
              · skip
                refine wa_iconst ?_
                refine wa_fall ⟨_, rfl⟩ ?_
                refine wa_zreturn rfl (Or.inl rfl) ?_
                have hoy : ¬ hoP S kd gk gb nm lo hi x := by
                  clear hC hl hlt
                  rintro (⟨z1, z2, (⟨z3, z4, z5⟩ | ⟨z3, z4, z5, z6⟩)⟩ | ⟨z1, z2, z3, z4⟩ | ⟨z1, z2, z3, z4⟩ | ⟨z1, z2⟩) <;> omega
                exact ⟨rfl, by rw [if_neg hoy]⟩
              · skip
                exact absurd c18 (by omega)
            · skip
              refine wa_aload_n (n := 0) rfl ?_
              refine wb_gfi 158 rfl (wy_pr rfl) wt_158 wf_5_11 (v := nm) (l11) (fun r19 => ?_)
              refine wa_aload_n (n := 0) rfl ?_
              refine wb_gf4 158 rfl (wy_pr rfl) wt_158 wf_5_3 (v := 47) wl_158_3 ?_
              refine wa_iconst ?_
              refine wb_aald5 47 5 rfl rfl (wy_pr rfl) wt_47 (by rw [show _ = _ from ((cl_47 hC))]; omega) wl_47_5 ?_
              refine wa_iload_n (n := 1) rfl ?_
              refine wb_iald 53 rfl (wy_pr rfl) wt_53 (n := (S 48 (-1))) ((hl.2.2.1 5 (by decide))) (by omega) (by omega) (v := (S 53 x)) rfl (fun r20 => ?_)
              refine wa_icmpne (w_rg0 (by omega) (by omega)) (w_rg0 (by omega) (by omega)) ⟨_, rfl⟩ (fun c21 => ?_) (fun c21 => ?_)
              · skip
                refine wa_iconst ?_
                refine wa_fall ⟨_, rfl⟩ ?_
                refine wa_zreturn rfl (Or.inl rfl) ?_
                show wJ _ _ _ _ _ _ _ _ _ _
                refine wa_ifeq (w_rg0 (by omega) (by omega)) ⟨_, rfl⟩ (fun c22 => ?_) (fun c22 => ?_)
                · skip
                  refine wa_iconst ?_
                  refine wa_fall ⟨_, rfl⟩ ?_
                  refine wa_zreturn rfl (Or.inl rfl) ?_
                  have hoy : ¬ hoP S kd gk gb nm lo hi x := by
                    clear hC hl hlt
                    rintro (⟨z1, z2, (⟨z3, z4, z5⟩ | ⟨z3, z4, z5, z6⟩)⟩ | ⟨z1, z2, z3, z4⟩ | ⟨z1, z2, z3, z4⟩ | ⟨z1, z2⟩) <;> omega
                  exact ⟨rfl, by rw [if_neg hoy]⟩
                · skip
                  exact absurd c22 (by omega)
              · skip
                refine wa_iconst ?_
                refine wa_goto ⟨_, rfl⟩ ?_
                refine wa_zreturn rfl (Or.inr rfl) ?_
                show wJ _ _ _ _ _ _ _ _ _ _
                refine wa_ifeq (w_rg0 (by omega) (by omega)) ⟨_, rfl⟩ (fun c23 => ?_) (fun c23 => ?_)
                · skip
                  exact absurd c23 (by omega)
                · skip
                  refine wa_iconst ?_
                  refine wa_goto ⟨_, rfl⟩ ?_
                  refine wa_zreturn rfl (Or.inr rfl) ?_
                  have hoy : hoP S kd gk gb nm lo hi x := by
                    clear hC hl hlt
                    first
                      | exact Or.inl ⟨by omega, by omega, Or.inl ⟨by omega, by omega, by omega⟩⟩
                      | exact Or.inl ⟨by omega, by omega, Or.inr ⟨by omega, by omega, by omega, by omega⟩⟩
                      | exact Or.inr (Or.inl ⟨by omega, by omega, by omega, by omega⟩)
                      | exact Or.inr (Or.inr (Or.inl ⟨by omega, by omega, by omega, by omega⟩))
                      | exact Or.inr (Or.inr (Or.inr ⟨by omega, by omega⟩))
                  exact ⟨rfl, by rw [if_pos hoy]⟩
          · skip
            refine wa_fall ⟨_, rfl⟩ ?_
            refine wa_aload_n (n := 0) rfl ?_
            refine wb_gfi 158 rfl (wy_pr rfl) wt_158 wf_5_9 (v := gk) (l9) (fun r24 => ?_)
            refine wa_iconst ?_
            refine wa_icmpne (w_rg0 (by omega) (by omega)) (w_rg0 (by omega) (by omega)) ⟨_, rfl⟩ (fun c25 => ?_) (fun c25 => ?_)
            · skip
              refine wa_iconst ?_
              refine wa_fall ⟨_, rfl⟩ ?_
              refine wa_zreturn rfl (Or.inl rfl) ?_
              show wJ _ _ _ _ _ _ _ _ _ _
              refine wa_ifeq (w_rg0 (by omega) (by omega)) ⟨_, rfl⟩ (fun c26 => ?_) (fun c26 => ?_)
              · skip
                refine wa_iconst ?_
                refine wa_fall ⟨_, rfl⟩ ?_
                refine wa_zreturn rfl (Or.inl rfl) ?_
                have hoy : ¬ hoP S kd gk gb nm lo hi x := by
                  clear hC hl hlt
                  rintro (⟨z1, z2, (⟨z3, z4, z5⟩ | ⟨z3, z4, z5, z6⟩)⟩ | ⟨z1, z2, z3, z4⟩ | ⟨z1, z2, z3, z4⟩ | ⟨z1, z2⟩) <;> omega
                exact ⟨rfl, by rw [if_neg hoy]⟩
              · skip
                exact absurd c26 (by omega)
            · skip
              exact absurd c25 (by omega)
    · skip
      refine wa_aload_n (n := 0) rfl ?_
      refine wb_gfi 158 rfl (wy_pr rfl) wt_158 wf_5_9 (v := gk) (l9) (fun r27 => ?_)
      refine wa_iconst ?_
      refine wa_icmpne (w_rg0 (by omega) (by omega)) (w_rg0 (by omega) (by omega)) ⟨_, rfl⟩ (fun c28 => ?_) (fun c28 => ?_)
      · skip
        refine wa_iconst ?_
        refine wa_fall ⟨_, rfl⟩ ?_
        refine wa_zreturn rfl (Or.inl rfl) ?_
        show wJ _ _ _ _ _ _ _ _ _ _
        refine wa_ifeq (w_rg0 (by omega) (by omega)) ⟨_, rfl⟩ (fun c29 => ?_) (fun c29 => ?_)
        · skip
          refine wa_iconst ?_
          refine wa_fall ⟨_, rfl⟩ ?_
          refine wa_zreturn rfl (Or.inl rfl) ?_
          have hoy : ¬ hoP S kd gk gb nm lo hi x := by
            clear hC hl hlt
            rintro (⟨z1, z2, (⟨z3, z4, z5⟩ | ⟨z3, z4, z5, z6⟩)⟩ | ⟨z1, z2, z3, z4⟩ | ⟨z1, z2, z3, z4⟩ | ⟨z1, z2⟩) <;> omega
          exact ⟨rfl, by rw [if_neg hoy]⟩
        · skip
          exact absurd c29 (by omega)
      · skip
        refine wa_fall ⟨_, rfl⟩ ?_
        refine wa_iconst ?_
        refine wa_goto ⟨_, rfl⟩ ?_
        refine wa_zreturn rfl (Or.inr rfl) ?_
        show wJ _ _ _ _ _ _ _ _ _ _
        refine wa_ifeq (w_rg0 (by omega) (by omega)) ⟨_, rfl⟩ (fun c30 => ?_) (fun c30 => ?_)
        · skip
          exact absurd c30 (by omega)
        · skip
          refine wa_aload_n (n := 0) rfl ?_
          refine wa_iload_n (n := 1) rfl ?_
          refine wa_aload_n (n := 0) rfl ?_
          refine wb_gfl 158 rfl (wy_pr rfl) wt_158 wf_5_10 (v := gb) (l10) (fun r31 => ?_)
          refine wb_l2i_r (wb_l2i_id ⟨(by omega), (by omega)⟩) ?_
          refine wa_cv 158 rfl (wy_pr rfl) wt_158 (M2 := fun _ => False) rfl at_XL_holdsOn ⟨_, rfl⟩ rfl rfl ⟨trivial, (Or.inr ⟨wy_pr rfl, fun q => q⟩), trivial, trivial⟩ trivial (fun _ _ q => False.elim q) ?_ (fun _ _ _ q => q)
          refine wa_aload_n (n := 0) rfl ?_
          refine wb_gfi 158 rfl (wy_pr rfl) wt_158 wf_5_7 (v := kd) (l7) (fun r32 => ?_)
          refine wa_iconst ?_
          refine wa_icmpeq (w_rg0 (by omega) (by omega)) (w_rg0 (by omega) (by omega)) ⟨_, rfl⟩ (fun c33 => ?_) (fun c33 => ?_)
          · skip
            refine wa_aload_n (n := 0) rfl ?_
            refine wb_gfi 158 rfl (wy_pr rfl) wt_158 wf_5_9 (v := gk) (l9) (fun r34 => ?_)
            refine wa_iconst ?_
            refine wa_icmpne (w_rg0 (by omega) (by omega)) (w_rg0 (by omega) (by omega)) ⟨_, rfl⟩ (fun c35 => ?_) (fun c35 => ?_)
            · skip
              exact absurd c35 (by omega)
            · skip
              refine wa_aload_n (n := 0) rfl ?_
              refine wb_gf4 158 rfl (wy_pr rfl) wt_158 wf_5_0 (v := 72) wl_158_0 ?_
              refine wb_gf4 72 rfl (wy_pr rfl) wt_72 wf_2_2 (v := 126) wl_72_2 ?_
              refine wa_iconst ?_
              refine wb_aald5 126 2 rfl rfl (wy_pr rfl) wt_126 (by rw [show _ = _ from ((cl_126 hC))]; omega) wl_126_2 ?_
              refine wa_iload_n (n := 2) rfl ?_
              refine wb_iald 129 rfl (wy_pr rfl) wt_129 (n := (S 127 (-1))) ((hlt.1 2 (by decide))) (by omega) (by omega) (v := (S 129 gb)) rfl (fun r36 => ?_)
              refine wa_aload_n (n := 0) rfl ?_
              refine wb_gf4 158 rfl (wy_pr rfl) wt_158 wf_5_3 (v := 47) wl_158_3 ?_
              refine wa_iconst ?_
              refine wb_aald5 47 1 rfl rfl (wy_pr rfl) wt_47 (by rw [show _ = _ from ((cl_47 hC))]; omega) wl_47_1 ?_
              refine wa_iload_n (n := 1) rfl ?_
              refine wb_iald 49 rfl (wy_pr rfl) wt_49 (n := (S 48 (-1))) ((hl.2.2.1 1 (by decide))) (by omega) (by omega) (v := (S 49 x)) rfl (fun r37 => ?_)
              refine wa_icmpne (w_rg0 (by omega) (by omega)) (w_rg0 (by omega) (by omega)) ⟨_, rfl⟩ (fun c38 => ?_) (fun c38 => ?_)
              · skip
                refine wa_iconst ?_
                refine wa_fall ⟨_, rfl⟩ ?_
                refine wa_zreturn rfl (Or.inl rfl) ?_
                show wJ _ _ _ _ _ _ _ _ _ _
                refine wa_ifeq (w_rg0 (by omega) (by omega)) ⟨_, rfl⟩ (fun c39 => ?_) (fun c39 => ?_)
                · skip
                  refine wa_iconst ?_
                  refine wa_fall ⟨_, rfl⟩ ?_
                  refine wa_zreturn rfl (Or.inl rfl) ?_
                  have hoy : ¬ hoP S kd gk gb nm lo hi x := by
                    clear hC hl hlt
                    rintro (⟨z1, z2, (⟨z3, z4, z5⟩ | ⟨z3, z4, z5, z6⟩)⟩ | ⟨z1, z2, z3, z4⟩ | ⟨z1, z2, z3, z4⟩ | ⟨z1, z2⟩) <;> omega
                  exact ⟨rfl, by rw [if_neg hoy]⟩
                · skip
                  exact absurd c39 (by omega)
              · skip
                refine wa_iconst ?_
                refine wa_goto ⟨_, rfl⟩ ?_
                refine wa_zreturn rfl (Or.inr rfl) ?_
                show wJ _ _ _ _ _ _ _ _ _ _
                refine wa_ifeq (w_rg0 (by omega) (by omega)) ⟨_, rfl⟩ (fun c40 => ?_) (fun c40 => ?_)
                · skip
                  exact absurd c40 (by omega)
                · skip
                  refine wa_iconst ?_
                  refine wa_goto ⟨_, rfl⟩ ?_
                  refine wa_zreturn rfl (Or.inr rfl) ?_
                  have hoy : hoP S kd gk gb nm lo hi x := by
                    clear hC hl hlt
                    first
                      | exact Or.inl ⟨by omega, by omega, Or.inl ⟨by omega, by omega, by omega⟩⟩
                      | exact Or.inl ⟨by omega, by omega, Or.inr ⟨by omega, by omega, by omega, by omega⟩⟩
                      | exact Or.inr (Or.inl ⟨by omega, by omega, by omega, by omega⟩)
                      | exact Or.inr (Or.inr (Or.inl ⟨by omega, by omega, by omega, by omega⟩))
                      | exact Or.inr (Or.inr (Or.inr ⟨by omega, by omega⟩))
                  exact ⟨rfl, by rw [if_pos hoy]⟩
          · skip
            refine wa_aload_n (n := 0) rfl ?_
            refine wb_gfi 158 rfl (wy_pr rfl) wt_158 wf_5_7 (v := kd) (l7) (fun r41 => ?_)
            refine wa_bipush (w_rg2 (by omega) (by omega)) ?_
            refine wa_icmpne (w_rg0 (by omega) (by omega)) (w_rg0 (by omega) (by omega)) ⟨_, rfl⟩ (fun c42 => ?_) (fun c42 => ?_)
            · skip
              refine wa_aload_n (n := 0) rfl ?_
              refine wb_gf4 158 rfl (wy_pr rfl) wt_158 wf_5_0 (v := 72) wl_158_0 ?_
              refine wb_gf4 72 rfl (wy_pr rfl) wt_72 wf_2_2 (v := 126) wl_72_2 ?_
              refine wa_iconst ?_
              refine wb_aald5 126 1 rfl rfl (wy_pr rfl) wt_126 (by rw [show _ = _ from ((cl_126 hC))]; omega) wl_126_1 ?_
              refine wa_iload_n (n := 2) rfl ?_
              refine wb_iald 128 rfl (wy_pr rfl) wt_128 (n := (S 127 (-1))) ((hlt.1 1 (by decide))) (by omega) (by omega) (v := (S 128 gb)) rfl (fun r43 => ?_)
              refine wa_aload_n (n := 0) rfl ?_
              refine wb_gf4 158 rfl (wy_pr rfl) wt_158 wf_5_3 (v := 47) wl_158_3 ?_
              refine wa_iconst ?_
              refine wb_aald5 47 1 rfl rfl (wy_pr rfl) wt_47 (by rw [show _ = _ from ((cl_47 hC))]; omega) wl_47_1 ?_
              refine wa_iload_n (n := 1) rfl ?_
              refine wb_iald 49 rfl (wy_pr rfl) wt_49 (n := (S 48 (-1))) ((hl.2.2.1 1 (by decide))) (by omega) (by omega) (v := (S 49 x)) rfl (fun r44 => ?_)
              refine wa_icmpne (w_rg0 (by omega) (by omega)) (w_rg0 (by omega) (by omega)) ⟨_, rfl⟩ (fun c45 => ?_) (fun c45 => ?_)
              · skip
                refine wa_iconst ?_
                refine wa_fall ⟨_, rfl⟩ ?_
                refine wa_zreturn rfl (Or.inl rfl) ?_
                show wJ _ _ _ _ _ _ _ _ _ _
                refine wa_ifeq (w_rg0 (by omega) (by omega)) ⟨_, rfl⟩ (fun c46 => ?_) (fun c46 => ?_)
                · skip
                  refine wa_iconst ?_
                  refine wa_fall ⟨_, rfl⟩ ?_
                  refine wa_zreturn rfl (Or.inl rfl) ?_
                  have hoy : ¬ hoP S kd gk gb nm lo hi x := by
                    clear hC hl hlt
                    rintro (⟨z1, z2, (⟨z3, z4, z5⟩ | ⟨z3, z4, z5, z6⟩)⟩ | ⟨z1, z2, z3, z4⟩ | ⟨z1, z2, z3, z4⟩ | ⟨z1, z2⟩) <;> omega
                  exact ⟨rfl, by rw [if_neg hoy]⟩
                · skip
                  exact absurd c46 (by omega)
              · skip
                refine wa_aload_n (n := 0) rfl ?_
                refine wb_gfi 158 rfl (wy_pr rfl) wt_158 wf_5_11 (v := nm) (l11) (fun r47 => ?_)
                refine wa_aload_n (n := 0) rfl ?_
                refine wb_gf4 158 rfl (wy_pr rfl) wt_158 wf_5_3 (v := 47) wl_158_3 ?_
                refine wa_iconst ?_
                refine wb_aald5 47 5 rfl rfl (wy_pr rfl) wt_47 (by rw [show _ = _ from ((cl_47 hC))]; omega) wl_47_5 ?_
                refine wa_iload_n (n := 1) rfl ?_
                refine wb_iald 53 rfl (wy_pr rfl) wt_53 (n := (S 48 (-1))) ((hl.2.2.1 5 (by decide))) (by omega) (by omega) (v := (S 53 x)) rfl (fun r48 => ?_)
                refine wa_icmpne (w_rg0 (by omega) (by omega)) (w_rg0 (by omega) (by omega)) ⟨_, rfl⟩ (fun c49 => ?_) (fun c49 => ?_)
                · skip
                  refine wa_iconst ?_
                  refine wa_fall ⟨_, rfl⟩ ?_
                  refine wa_zreturn rfl (Or.inl rfl) ?_
                  show wJ _ _ _ _ _ _ _ _ _ _
                  refine wa_ifeq (w_rg0 (by omega) (by omega)) ⟨_, rfl⟩ (fun c50 => ?_) (fun c50 => ?_)
                  · skip
                    refine wa_iconst ?_
                    refine wa_fall ⟨_, rfl⟩ ?_
                    refine wa_zreturn rfl (Or.inl rfl) ?_
                    have hoy : ¬ hoP S kd gk gb nm lo hi x := by
                      clear hC hl hlt
                      rintro (⟨z1, z2, (⟨z3, z4, z5⟩ | ⟨z3, z4, z5, z6⟩)⟩ | ⟨z1, z2, z3, z4⟩ | ⟨z1, z2, z3, z4⟩ | ⟨z1, z2⟩) <;> omega
                    exact ⟨rfl, by rw [if_neg hoy]⟩
                  · skip
                    exact absurd c50 (by omega)
                · skip
                  refine wa_iconst ?_
                  refine wa_goto ⟨_, rfl⟩ ?_
                  refine wa_zreturn rfl (Or.inr rfl) ?_
                  show wJ _ _ _ _ _ _ _ _ _ _
                  refine wa_ifeq (w_rg0 (by omega) (by omega)) ⟨_, rfl⟩ (fun c51 => ?_) (fun c51 => ?_)
                  · skip
                    exact absurd c51 (by omega)
                  · skip
                    refine wa_iconst ?_
                    refine wa_goto ⟨_, rfl⟩ ?_
                    refine wa_zreturn rfl (Or.inr rfl) ?_
                    have hoy : hoP S kd gk gb nm lo hi x := by
                      clear hC hl hlt
                      first
                        | exact Or.inl ⟨by omega, by omega, Or.inl ⟨by omega, by omega, by omega⟩⟩
                        | exact Or.inl ⟨by omega, by omega, Or.inr ⟨by omega, by omega, by omega, by omega⟩⟩
                        | exact Or.inr (Or.inl ⟨by omega, by omega, by omega, by omega⟩)
                        | exact Or.inr (Or.inr (Or.inl ⟨by omega, by omega, by omega, by omega⟩))
                        | exact Or.inr (Or.inr (Or.inr ⟨by omega, by omega⟩))
                    exact ⟨rfl, by rw [if_pos hoy]⟩
            · skip
              refine wa_fall ⟨_, rfl⟩ ?_
              refine wa_aload_n (n := 0) rfl ?_
              refine wb_gfi 158 rfl (wy_pr rfl) wt_158 wf_5_9 (v := gk) (l9) (fun r52 => ?_)
              refine wa_iconst ?_
              refine wa_icmpne (w_rg0 (by omega) (by omega)) (w_rg0 (by omega) (by omega)) ⟨_, rfl⟩ (fun c53 => ?_) (fun c53 => ?_)
              · skip
                exact absurd c53 (by omega)
              · skip
                refine wa_aload_n (n := 0) rfl ?_
                refine wb_gf4 158 rfl (wy_pr rfl) wt_158 wf_5_0 (v := 72) wl_158_0 ?_
                refine wb_gf4 72 rfl (wy_pr rfl) wt_72 wf_2_2 (v := 126) wl_72_2 ?_
                refine wa_iconst ?_
                refine wb_aald5 126 2 rfl rfl (wy_pr rfl) wt_126 (by rw [show _ = _ from ((cl_126 hC))]; omega) wl_126_2 ?_
                refine wa_iload_n (n := 2) rfl ?_
                refine wb_iald 129 rfl (wy_pr rfl) wt_129 (n := (S 127 (-1))) ((hlt.1 2 (by decide))) (by omega) (by omega) (v := (S 129 gb)) rfl (fun r54 => ?_)
                refine wa_aload_n (n := 0) rfl ?_
                refine wb_gf4 158 rfl (wy_pr rfl) wt_158 wf_5_3 (v := 47) wl_158_3 ?_
                refine wa_iconst ?_
                refine wb_aald5 47 1 rfl rfl (wy_pr rfl) wt_47 (by rw [show _ = _ from ((cl_47 hC))]; omega) wl_47_1 ?_
                refine wa_iload_n (n := 1) rfl ?_
                refine wb_iald 49 rfl (wy_pr rfl) wt_49 (n := (S 48 (-1))) ((hl.2.2.1 1 (by decide))) (by omega) (by omega) (v := (S 49 x)) rfl (fun r55 => ?_)
                refine wa_icmpne (w_rg0 (by omega) (by omega)) (w_rg0 (by omega) (by omega)) ⟨_, rfl⟩ (fun c56 => ?_) (fun c56 => ?_)
                · skip
                  refine wa_iconst ?_
                  refine wa_fall ⟨_, rfl⟩ ?_
                  refine wa_zreturn rfl (Or.inl rfl) ?_
                  show wJ _ _ _ _ _ _ _ _ _ _
                  refine wa_ifeq (w_rg0 (by omega) (by omega)) ⟨_, rfl⟩ (fun c57 => ?_) (fun c57 => ?_)
                  · skip
                    refine wa_iconst ?_
                    refine wa_fall ⟨_, rfl⟩ ?_
                    refine wa_zreturn rfl (Or.inl rfl) ?_
                    have hoy : ¬ hoP S kd gk gb nm lo hi x := by
                      clear hC hl hlt
                      rintro (⟨z1, z2, (⟨z3, z4, z5⟩ | ⟨z3, z4, z5, z6⟩)⟩ | ⟨z1, z2, z3, z4⟩ | ⟨z1, z2, z3, z4⟩ | ⟨z1, z2⟩) <;> omega
                    exact ⟨rfl, by rw [if_neg hoy]⟩
                  · skip
                    exact absurd c57 (by omega)
                · skip
                  refine wa_iconst ?_
                  refine wa_goto ⟨_, rfl⟩ ?_
                  refine wa_zreturn rfl (Or.inr rfl) ?_
                  show wJ _ _ _ _ _ _ _ _ _ _
                  refine wa_ifeq (w_rg0 (by omega) (by omega)) ⟨_, rfl⟩ (fun c58 => ?_) (fun c58 => ?_)
                  · skip
                    exact absurd c58 (by omega)
                  · skip
                    refine wa_iconst ?_
                    refine wa_goto ⟨_, rfl⟩ ?_
                    refine wa_zreturn rfl (Or.inr rfl) ?_
                    have hoy : hoP S kd gk gb nm lo hi x := by
                      clear hC hl hlt
                      first
                        | exact Or.inl ⟨by omega, by omega, Or.inl ⟨by omega, by omega, by omega⟩⟩
                        | exact Or.inl ⟨by omega, by omega, Or.inr ⟨by omega, by omega, by omega, by omega⟩⟩
                        | exact Or.inr (Or.inl ⟨by omega, by omega, by omega, by omega⟩)
                        | exact Or.inr (Or.inr (Or.inl ⟨by omega, by omega, by omega, by omega⟩))
                        | exact Or.inr (Or.inr (Or.inr ⟨by omega, by omega⟩))
                    exact ⟨rfl, by rw [if_pos hoy]⟩
  by_cases c59 : (S 48 x) = 1
  · refine wb_sw (w_rg0 (by omega) (by omega)) (tb := 4) (by rw [c59]; rfl) ⟨_, rfl⟩ ?_
    refine wa_aload_n (n := 0) rfl ?_
    refine wb_gfi 158 rfl (wy_pr rfl) wt_158 wf_5_9 (v := gk) (l9) (fun r60 => ?_)
    refine wa_bipush (w_rg2 (by omega) (by omega)) ?_
    refine wa_icmpne (w_rg0 (by omega) (by omega)) (w_rg0 (by omega) (by omega)) ⟨_, rfl⟩ (fun c61 => ?_) (fun c61 => ?_)
    · skip
      refine wa_iconst ?_
      refine wa_fall ⟨_, rfl⟩ ?_
      refine wa_zreturn rfl (Or.inl rfl) ?_
      have hoy : ¬ hoP S kd gk gb nm lo hi x := by
        clear hC hl hlt
        rintro (⟨z1, z2, (⟨z3, z4, z5⟩ | ⟨z3, z4, z5, z6⟩)⟩ | ⟨z1, z2, z3, z4⟩ | ⟨z1, z2, z3, z4⟩ | ⟨z1, z2⟩) <;> omega
      exact ⟨rfl, by rw [if_neg hoy]⟩
    · skip
      refine wa_iload_n (n := 2) rfl ?_
      refine wa_aload_n (n := 0) rfl ?_
      refine wb_gf4 158 rfl (wy_pr rfl) wt_158 wf_5_0 (v := 72) wl_158_0 ?_
      refine wb_gf4 72 rfl (wy_pr rfl) wt_72 wf_2_2 (v := 126) wl_72_2 ?_
      refine wa_iconst ?_
      refine wb_aald5 126 2 rfl rfl (wy_pr rfl) wt_126 (by rw [show _ = _ from ((cl_126 hC))]; omega) wl_126_2 ?_
      refine wa_aload_n (n := 0) rfl ?_
      refine wb_gfl 158 rfl (wy_pr rfl) wt_158 wf_5_10 (v := gb) (l10) (fun r62 => ?_)
      refine wb_l2i_r (wb_l2i_id ⟨(by omega), (by omega)⟩) ?_
      refine wb_iald 129 rfl (wy_pr rfl) wt_129 (n := (S 127 (-1))) ((hlt.1 2 (by decide))) (by omega) (by omega) (v := (S 129 gb)) rfl (fun r63 => ?_)
      refine wa_icmpne (w_rg0 (by omega) (by omega)) (w_rg0 (by omega) (by omega)) ⟨_, rfl⟩ (fun c64 => ?_) (fun c64 => ?_)
      · skip
        refine wa_iconst ?_
        refine wa_fall ⟨_, rfl⟩ ?_
        refine wa_zreturn rfl (Or.inl rfl) ?_
        have hoy : ¬ hoP S kd gk gb nm lo hi x := by
          clear hC hl hlt
          rintro (⟨z1, z2, (⟨z3, z4, z5⟩ | ⟨z3, z4, z5, z6⟩)⟩ | ⟨z1, z2, z3, z4⟩ | ⟨z1, z2, z3, z4⟩ | ⟨z1, z2⟩) <;> omega
        exact ⟨rfl, by rw [if_neg hoy]⟩
      · skip
        refine wa_aload_n (n := 0) rfl ?_
        refine wa_iload_n (n := 1) rfl ?_
        refine wa_cv 158 rfl (wy_pr rfl) wt_158 (M2 := fun _ => False) rfl at_XL_holdsForEs ⟨_, rfl⟩ rfl rfl ⟨trivial, (Or.inr ⟨wy_pr rfl, fun q => q⟩), trivial, trivial⟩ trivial (fun _ _ q => False.elim q) ?_ (fun _ _ _ q => q)
        refine wa_aload_n (n := 0) rfl ?_
        refine wb_gf4 158 rfl (wy_pr rfl) wt_158 wf_5_3 (v := 47) wl_158_3 ?_
        refine wa_bipush (w_rg2 (by omega) (by omega)) ?_
        refine wb_aald5 47 8 rfl rfl (wy_pr rfl) wt_47 (by rw [show _ = _ from ((cl_47 hC))]; omega) wl_47_8 ?_
        refine wa_iload_n (n := 1) rfl ?_
        refine wb_iald 56 rfl (wy_pr rfl) wt_56 (n := (S 48 (-1))) ((hl.2.2.1 8 (by decide))) (by omega) (by omega) (v := (S 56 x)) rfl (fun r65 => ?_)
        refine wa_iconst ?_
        refine wa_icmpeq (w_rg0 (by omega) (by omega)) (w_rg0 (by omega) (by omega)) ⟨_, rfl⟩ (fun c66 => ?_) (fun c66 => ?_)
        · skip
          refine wa_iconst ?_
          refine wa_goto ⟨_, rfl⟩ ?_
          refine wa_zreturn rfl (Or.inr rfl) ?_
          show wJ _ _ _ _ _ _ _ _ _ _
          refine wa_ifeq (w_rg0 (by omega) (by omega)) ⟨_, rfl⟩ (fun c67 => ?_) (fun c67 => ?_)
          · skip
            exact absurd c67 (by omega)
          · skip
            refine wa_iconst ?_
            refine wa_goto ⟨_, rfl⟩ ?_
            refine wa_zreturn rfl (Or.inr rfl) ?_
            have hoy : hoP S kd gk gb nm lo hi x := by
              clear hC hl hlt
              first
                | exact Or.inl ⟨by omega, by omega, Or.inl ⟨by omega, by omega, by omega⟩⟩
                | exact Or.inl ⟨by omega, by omega, Or.inr ⟨by omega, by omega, by omega, by omega⟩⟩
                | exact Or.inr (Or.inl ⟨by omega, by omega, by omega, by omega⟩)
                | exact Or.inr (Or.inr (Or.inl ⟨by omega, by omega, by omega, by omega⟩))
                | exact Or.inr (Or.inr (Or.inr ⟨by omega, by omega⟩))
            exact ⟨rfl, by rw [if_pos hoy]⟩
        · skip
          refine wa_aload_n (n := 0) rfl ?_
          refine wb_gf4 158 rfl (wy_pr rfl) wt_158 wf_5_3 (v := 47) wl_158_3 ?_
          refine wa_bipush (w_rg2 (by omega) (by omega)) ?_
          refine wb_aald5 47 8 rfl rfl (wy_pr rfl) wt_47 (by rw [show _ = _ from ((cl_47 hC))]; omega) wl_47_8 ?_
          refine wa_iload_n (n := 1) rfl ?_
          refine wb_iald 56 rfl (wy_pr rfl) wt_56 (n := (S 48 (-1))) ((hl.2.2.1 8 (by decide))) (by omega) (by omega) (v := (S 56 x)) rfl (fun r68 => ?_)
          refine wa_aload_n (n := 0) rfl ?_
          refine wb_gfl 158 rfl (wy_pr rfl) wt_158 wf_5_13 (v := es) (l13) (fun r69 => ?_)
          refine wa_bipush (w_rg2 (by omega) (by omega)) ?_
          refine wa_lushr ?_
          refine wb_l2i_r (y := hi) hhi ?_
          refine wa_icmpne (w_rg0 (by omega) (by omega)) (w_rg0 (by omega) (by omega)) ⟨_, rfl⟩ (fun c70 => ?_) (fun c70 => ?_)
          · skip
            refine wa_iconst ?_
            refine wa_fall ⟨_, rfl⟩ ?_
            refine wa_zreturn rfl (Or.inl rfl) ?_
            show wJ _ _ _ _ _ _ _ _ _ _
            refine wa_ifeq (w_rg0 (by omega) (by omega)) ⟨_, rfl⟩ (fun c71 => ?_) (fun c71 => ?_)
            · skip
              refine wa_iconst ?_
              refine wa_fall ⟨_, rfl⟩ ?_
              refine wa_zreturn rfl (Or.inl rfl) ?_
              have hoy : ¬ hoP S kd gk gb nm lo hi x := by
                clear hC hl hlt
                rintro (⟨z1, z2, (⟨z3, z4, z5⟩ | ⟨z3, z4, z5, z6⟩)⟩ | ⟨z1, z2, z3, z4⟩ | ⟨z1, z2, z3, z4⟩ | ⟨z1, z2⟩) <;> omega
              exact ⟨rfl, by rw [if_neg hoy]⟩
            · skip
              exact absurd c71 (by omega)
          · skip
            refine wa_aload_n (n := 0) rfl ?_
            refine wb_gf4 158 rfl (wy_pr rfl) wt_158 wf_5_3 (v := 47) wl_158_3 ?_
            refine wa_bipush (w_rg2 (by omega) (by omega)) ?_
            refine wb_aald5 47 7 rfl rfl (wy_pr rfl) wt_47 (by rw [show _ = _ from ((cl_47 hC))]; omega) wl_47_7 ?_
            refine wa_iload_n (n := 1) rfl ?_
            refine wb_iald 55 rfl (wy_pr rfl) wt_55 (n := (S 48 (-1))) ((hl.2.2.1 7 (by decide))) (by omega) (by omega) (v := (S 55 x)) rfl (fun r72 => ?_)
            refine wa_aload_n (n := 0) rfl ?_
            refine wb_gfl 158 rfl (wy_pr rfl) wt_158 wf_5_13 (v := es) (l13) (fun r73 => ?_)
            refine wb_l2i_r (y := lo) hlo ?_
            refine wa_icmpne (w_rg0 (by omega) (by omega)) (w_rg0 (by omega) (by omega)) ⟨_, rfl⟩ (fun c74 => ?_) (fun c74 => ?_)
            · skip
              refine wa_iconst ?_
              refine wa_fall ⟨_, rfl⟩ ?_
              refine wa_zreturn rfl (Or.inl rfl) ?_
              show wJ _ _ _ _ _ _ _ _ _ _
              refine wa_ifeq (w_rg0 (by omega) (by omega)) ⟨_, rfl⟩ (fun c75 => ?_) (fun c75 => ?_)
              · skip
                refine wa_iconst ?_
                refine wa_fall ⟨_, rfl⟩ ?_
                refine wa_zreturn rfl (Or.inl rfl) ?_
                have hoy : ¬ hoP S kd gk gb nm lo hi x := by
                  clear hC hl hlt
                  rintro (⟨z1, z2, (⟨z3, z4, z5⟩ | ⟨z3, z4, z5, z6⟩)⟩ | ⟨z1, z2, z3, z4⟩ | ⟨z1, z2, z3, z4⟩ | ⟨z1, z2⟩) <;> omega
                exact ⟨rfl, by rw [if_neg hoy]⟩
              · skip
                exact absurd c75 (by omega)
            · skip
              refine wa_fall ⟨_, rfl⟩ ?_
              refine wa_iconst ?_
              refine wa_goto ⟨_, rfl⟩ ?_
              refine wa_zreturn rfl (Or.inr rfl) ?_
              show wJ _ _ _ _ _ _ _ _ _ _
              refine wa_ifeq (w_rg0 (by omega) (by omega)) ⟨_, rfl⟩ (fun c76 => ?_) (fun c76 => ?_)
              · skip
                exact absurd c76 (by omega)
              · skip
                refine wa_iconst ?_
                refine wa_goto ⟨_, rfl⟩ ?_
                refine wa_zreturn rfl (Or.inr rfl) ?_
                have hoy : hoP S kd gk gb nm lo hi x := by
                  clear hC hl hlt
                  first
                    | exact Or.inl ⟨by omega, by omega, Or.inl ⟨by omega, by omega, by omega⟩⟩
                    | exact Or.inl ⟨by omega, by omega, Or.inr ⟨by omega, by omega, by omega, by omega⟩⟩
                    | exact Or.inr (Or.inl ⟨by omega, by omega, by omega, by omega⟩)
                    | exact Or.inr (Or.inr (Or.inl ⟨by omega, by omega, by omega, by omega⟩))
                    | exact Or.inr (Or.inr (Or.inr ⟨by omega, by omega⟩))
                exact ⟨rfl, by rw [if_pos hoy]⟩
  by_cases c77 : (S 48 x) = 2
  · refine wb_sw (w_rg0 (by omega) (by omega)) (tb := 7) (by rw [c77]; rfl) ⟨_, rfl⟩ ?_
    refine wa_aload_n (n := 0) rfl ?_
    refine wb_gfi 158 rfl (wy_pr rfl) wt_158 wf_5_9 (v := gk) (l9) (fun r78 => ?_)
    refine wa_bipush (w_rg2 (by omega) (by omega)) ?_
    refine wa_icmpne (w_rg0 (by omega) (by omega)) (w_rg0 (by omega) (by omega)) ⟨_, rfl⟩ (fun c79 => ?_) (fun c79 => ?_)
    · skip
      refine wa_iconst ?_
      refine wa_fall ⟨_, rfl⟩ ?_
      refine wa_zreturn rfl (Or.inl rfl) ?_
      have hoy : ¬ hoP S kd gk gb nm lo hi x := by
        clear hC hl hlt
        rintro (⟨z1, z2, (⟨z3, z4, z5⟩ | ⟨z3, z4, z5, z6⟩)⟩ | ⟨z1, z2, z3, z4⟩ | ⟨z1, z2, z3, z4⟩ | ⟨z1, z2⟩) <;> omega
      exact ⟨rfl, by rw [if_neg hoy]⟩
    · skip
      refine wa_iload_n (n := 2) rfl ?_
      refine wa_i2l (w_rg0 (by omega) (by omega)) ?_
      refine wa_aload_n (n := 0) rfl ?_
      refine wb_gfl 158 rfl (wy_pr rfl) wt_158 wf_5_10 (v := gb) (l10) (fun r80 => ?_)
      refine wa_lcmp (w_rg1 (by omega) (by omega)) (w_rg1 (by omega) (by omega)) ?_
      refine wa_ifne (by have := @wb_lcmp_cases; exact w_lcmp_rg) ⟨_, rfl⟩ (fun c81 => ?_) (fun c81 => ?_)
      · skip
        have c81x := @wb_lcmp_cases (S 49 x) gb
        refine wa_iconst ?_
        refine wa_fall ⟨_, rfl⟩ ?_
        refine wa_zreturn rfl (Or.inl rfl) ?_
        have hoy : ¬ hoP S kd gk gb nm lo hi x := by
          clear hC hl hlt
          rintro (⟨z1, z2, (⟨z3, z4, z5⟩ | ⟨z3, z4, z5, z6⟩)⟩ | ⟨z1, z2, z3, z4⟩ | ⟨z1, z2, z3, z4⟩ | ⟨z1, z2⟩) <;> omega
        exact ⟨rfl, by rw [if_neg hoy]⟩
      · skip
        have c81x := @wb_lcmp_cases (S 49 x) gb
        refine wa_aload_n (n := 0) rfl ?_
        refine wa_iload_n (n := 1) rfl ?_
        refine wa_cv 158 rfl (wy_pr rfl) wt_158 (M2 := fun _ => False) rfl at_XL_holdsForEs ⟨_, rfl⟩ rfl rfl ⟨trivial, (Or.inr ⟨wy_pr rfl, fun q => q⟩), trivial, trivial⟩ trivial (fun _ _ q => False.elim q) ?_ (fun _ _ _ q => q)
        refine wa_aload_n (n := 0) rfl ?_
        refine wb_gf4 158 rfl (wy_pr rfl) wt_158 wf_5_3 (v := 47) wl_158_3 ?_
        refine wa_bipush (w_rg2 (by omega) (by omega)) ?_
        refine wb_aald5 47 8 rfl rfl (wy_pr rfl) wt_47 (by rw [show _ = _ from ((cl_47 hC))]; omega) wl_47_8 ?_
        refine wa_iload_n (n := 1) rfl ?_
        refine wb_iald 56 rfl (wy_pr rfl) wt_56 (n := (S 48 (-1))) ((hl.2.2.1 8 (by decide))) (by omega) (by omega) (v := (S 56 x)) rfl (fun r82 => ?_)
        refine wa_iconst ?_
        refine wa_icmpeq (w_rg0 (by omega) (by omega)) (w_rg0 (by omega) (by omega)) ⟨_, rfl⟩ (fun c83 => ?_) (fun c83 => ?_)
        · skip
          refine wa_iconst ?_
          refine wa_goto ⟨_, rfl⟩ ?_
          refine wa_zreturn rfl (Or.inr rfl) ?_
          show wJ _ _ _ _ _ _ _ _ _ _
          refine wa_ifeq (w_rg0 (by omega) (by omega)) ⟨_, rfl⟩ (fun c84 => ?_) (fun c84 => ?_)
          · skip
            exact absurd c84 (by omega)
          · skip
            refine wa_iconst ?_
            refine wa_goto ⟨_, rfl⟩ ?_
            refine wa_zreturn rfl (Or.inr rfl) ?_
            have hoy : hoP S kd gk gb nm lo hi x := by
              clear hC hl hlt
              first
                | exact Or.inl ⟨by omega, by omega, Or.inl ⟨by omega, by omega, by omega⟩⟩
                | exact Or.inl ⟨by omega, by omega, Or.inr ⟨by omega, by omega, by omega, by omega⟩⟩
                | exact Or.inr (Or.inl ⟨by omega, by omega, by omega, by omega⟩)
                | exact Or.inr (Or.inr (Or.inl ⟨by omega, by omega, by omega, by omega⟩))
                | exact Or.inr (Or.inr (Or.inr ⟨by omega, by omega⟩))
            exact ⟨rfl, by rw [if_pos hoy]⟩
        · skip
          refine wa_aload_n (n := 0) rfl ?_
          refine wb_gf4 158 rfl (wy_pr rfl) wt_158 wf_5_3 (v := 47) wl_158_3 ?_
          refine wa_bipush (w_rg2 (by omega) (by omega)) ?_
          refine wb_aald5 47 8 rfl rfl (wy_pr rfl) wt_47 (by rw [show _ = _ from ((cl_47 hC))]; omega) wl_47_8 ?_
          refine wa_iload_n (n := 1) rfl ?_
          refine wb_iald 56 rfl (wy_pr rfl) wt_56 (n := (S 48 (-1))) ((hl.2.2.1 8 (by decide))) (by omega) (by omega) (v := (S 56 x)) rfl (fun r85 => ?_)
          refine wa_aload_n (n := 0) rfl ?_
          refine wb_gfl 158 rfl (wy_pr rfl) wt_158 wf_5_13 (v := es) (l13) (fun r86 => ?_)
          refine wa_bipush (w_rg2 (by omega) (by omega)) ?_
          refine wa_lushr ?_
          refine wb_l2i_r (y := hi) hhi ?_
          refine wa_icmpne (w_rg0 (by omega) (by omega)) (w_rg0 (by omega) (by omega)) ⟨_, rfl⟩ (fun c87 => ?_) (fun c87 => ?_)
          · skip
            refine wa_iconst ?_
            refine wa_fall ⟨_, rfl⟩ ?_
            refine wa_zreturn rfl (Or.inl rfl) ?_
            show wJ _ _ _ _ _ _ _ _ _ _
            refine wa_ifeq (w_rg0 (by omega) (by omega)) ⟨_, rfl⟩ (fun c88 => ?_) (fun c88 => ?_)
            · skip
              refine wa_iconst ?_
              refine wa_fall ⟨_, rfl⟩ ?_
              refine wa_zreturn rfl (Or.inl rfl) ?_
              have hoy : ¬ hoP S kd gk gb nm lo hi x := by
                clear hC hl hlt
                rintro (⟨z1, z2, (⟨z3, z4, z5⟩ | ⟨z3, z4, z5, z6⟩)⟩ | ⟨z1, z2, z3, z4⟩ | ⟨z1, z2, z3, z4⟩ | ⟨z1, z2⟩) <;> omega
              exact ⟨rfl, by rw [if_neg hoy]⟩
            · skip
              exact absurd c88 (by omega)
          · skip
            refine wa_aload_n (n := 0) rfl ?_
            refine wb_gf4 158 rfl (wy_pr rfl) wt_158 wf_5_3 (v := 47) wl_158_3 ?_
            refine wa_bipush (w_rg2 (by omega) (by omega)) ?_
            refine wb_aald5 47 7 rfl rfl (wy_pr rfl) wt_47 (by rw [show _ = _ from ((cl_47 hC))]; omega) wl_47_7 ?_
            refine wa_iload_n (n := 1) rfl ?_
            refine wb_iald 55 rfl (wy_pr rfl) wt_55 (n := (S 48 (-1))) ((hl.2.2.1 7 (by decide))) (by omega) (by omega) (v := (S 55 x)) rfl (fun r89 => ?_)
            refine wa_aload_n (n := 0) rfl ?_
            refine wb_gfl 158 rfl (wy_pr rfl) wt_158 wf_5_13 (v := es) (l13) (fun r90 => ?_)
            refine wb_l2i_r (y := lo) hlo ?_
            refine wa_icmpne (w_rg0 (by omega) (by omega)) (w_rg0 (by omega) (by omega)) ⟨_, rfl⟩ (fun c91 => ?_) (fun c91 => ?_)
            · skip
              refine wa_iconst ?_
              refine wa_fall ⟨_, rfl⟩ ?_
              refine wa_zreturn rfl (Or.inl rfl) ?_
              show wJ _ _ _ _ _ _ _ _ _ _
              refine wa_ifeq (w_rg0 (by omega) (by omega)) ⟨_, rfl⟩ (fun c92 => ?_) (fun c92 => ?_)
              · skip
                refine wa_iconst ?_
                refine wa_fall ⟨_, rfl⟩ ?_
                refine wa_zreturn rfl (Or.inl rfl) ?_
                have hoy : ¬ hoP S kd gk gb nm lo hi x := by
                  clear hC hl hlt
                  rintro (⟨z1, z2, (⟨z3, z4, z5⟩ | ⟨z3, z4, z5, z6⟩)⟩ | ⟨z1, z2, z3, z4⟩ | ⟨z1, z2, z3, z4⟩ | ⟨z1, z2⟩) <;> omega
                exact ⟨rfl, by rw [if_neg hoy]⟩
              · skip
                exact absurd c92 (by omega)
            · skip
              refine wa_fall ⟨_, rfl⟩ ?_
              refine wa_iconst ?_
              refine wa_goto ⟨_, rfl⟩ ?_
              refine wa_zreturn rfl (Or.inr rfl) ?_
              show wJ _ _ _ _ _ _ _ _ _ _
              refine wa_ifeq (w_rg0 (by omega) (by omega)) ⟨_, rfl⟩ (fun c93 => ?_) (fun c93 => ?_)
              · skip
                exact absurd c93 (by omega)
              · skip
                refine wa_iconst ?_
                refine wa_goto ⟨_, rfl⟩ ?_
                refine wa_zreturn rfl (Or.inr rfl) ?_
                have hoy : hoP S kd gk gb nm lo hi x := by
                  clear hC hl hlt
                  first
                    | exact Or.inl ⟨by omega, by omega, Or.inl ⟨by omega, by omega, by omega⟩⟩
                    | exact Or.inl ⟨by omega, by omega, Or.inr ⟨by omega, by omega, by omega, by omega⟩⟩
                    | exact Or.inr (Or.inl ⟨by omega, by omega, by omega, by omega⟩)
                    | exact Or.inr (Or.inr (Or.inl ⟨by omega, by omega, by omega, by omega⟩))
                    | exact Or.inr (Or.inr (Or.inr ⟨by omega, by omega⟩))
                exact ⟨rfl, by rw [if_pos hoy]⟩
  refine wb_sw (w_rg0 (by omega) (by omega)) (tb := 10) (w_tb_df (by simp only [List.length_cons, List.length_nil]; omega)) ⟨_, rfl⟩ ?_
  refine wa_aload_n (n := 0) rfl ?_
  refine wb_gfi 158 rfl (wy_pr rfl) wt_158 wf_5_9 (v := gk) (l9) (fun r94 => ?_)
  refine wa_iload_n (n := 2) rfl ?_
  refine wa_ifne (w_rg0 (by omega) (by omega)) ⟨_, rfl⟩ (fun c95 => ?_) (fun c95 => ?_)
  · skip
    refine wa_iconst ?_
    refine wa_fall ⟨_, rfl⟩ ?_
    refine wa_icmpne (w_rg0 (by omega) (by omega)) (w_rg0 (by omega) (by omega)) ⟨_, rfl⟩ (fun c96 => ?_) (fun c96 => ?_)
    · skip
      refine wa_iconst ?_
      refine wa_fall ⟨_, rfl⟩ ?_
      refine wa_zreturn rfl (Or.inl rfl) ?_
      have hoy : ¬ hoP S kd gk gb nm lo hi x := by
        clear hC hl hlt
        rintro (⟨z1, z2, (⟨z3, z4, z5⟩ | ⟨z3, z4, z5, z6⟩)⟩ | ⟨z1, z2, z3, z4⟩ | ⟨z1, z2, z3, z4⟩ | ⟨z1, z2⟩) <;> omega
      exact ⟨rfl, by rw [if_neg hoy]⟩
    · skip
      refine wa_iconst ?_
      refine wa_goto ⟨_, rfl⟩ ?_
      refine wa_zreturn rfl (Or.inr rfl) ?_
      have hoy : hoP S kd gk gb nm lo hi x := by
        clear hC hl hlt
        first
          | exact Or.inl ⟨by omega, by omega, Or.inl ⟨by omega, by omega, by omega⟩⟩
          | exact Or.inl ⟨by omega, by omega, Or.inr ⟨by omega, by omega, by omega, by omega⟩⟩
          | exact Or.inr (Or.inl ⟨by omega, by omega, by omega, by omega⟩)
          | exact Or.inr (Or.inr (Or.inl ⟨by omega, by omega, by omega, by omega⟩))
          | exact Or.inr (Or.inr (Or.inr ⟨by omega, by omega⟩))
      exact ⟨rfl, by rw [if_pos hoy]⟩
  · skip
    refine wa_bipush (w_rg2 (by omega) (by omega)) ?_
    refine wa_goto ⟨_, rfl⟩ ?_
    refine wa_icmpne (w_rg0 (by omega) (by omega)) (w_rg0 (by omega) (by omega)) ⟨_, rfl⟩ (fun c97 => ?_) (fun c97 => ?_)
    · skip
      refine wa_iconst ?_
      refine wa_fall ⟨_, rfl⟩ ?_
      refine wa_zreturn rfl (Or.inl rfl) ?_
      have hoy : ¬ hoP S kd gk gb nm lo hi x := by
        clear hC hl hlt
        rintro (⟨z1, z2, (⟨z3, z4, z5⟩ | ⟨z3, z4, z5, z6⟩)⟩ | ⟨z1, z2, z3, z4⟩ | ⟨z1, z2, z3, z4⟩ | ⟨z1, z2⟩) <;> omega
      exact ⟨rfl, by rw [if_neg hoy]⟩
    · skip
      refine wa_iconst ?_
      refine wa_goto ⟨_, rfl⟩ ?_
      refine wa_zreturn rfl (Or.inr rfl) ?_
      have hoy : hoP S kd gk gb nm lo hi x := by
        clear hC hl hlt
        first
          | exact Or.inl ⟨by omega, by omega, Or.inl ⟨by omega, by omega, by omega⟩⟩
          | exact Or.inl ⟨by omega, by omega, Or.inr ⟨by omega, by omega, by omega, by omega⟩⟩
          | exact Or.inr (Or.inl ⟨by omega, by omega, by omega, by omega⟩)
          | exact Or.inr (Or.inr (Or.inl ⟨by omega, by omega, by omega, by omega⟩))
          | exact Or.inr (Or.inr (Or.inr ⟨by omega, by omega⟩))
      exact ⟨rfl, by rw [if_pos hoy]⟩
theorem irt_ok (hC : w_CL S) (hl : cSl S) (hlt : cLt S T) (l7 : S 158 7 = kd) (l9 : S 158 9 = gk) (l10 : S 158 10 = gb) (l11 : S 158 11 = nm) (l13 : S 158 13 = es) (hx : 0 ≤ x ∧ x < S 48 (-1)) (hT : (T.length : Int) ≤ 8000) (hsw : cSw S T H) (hth : cTh S T) (hw : wSh T H) (hq : (S 48 x = 0 ∧ kd ≠ 4 ∧ kd ≠ 6) → isO T gb ∧ 0 ≤ nm ∧ nm ≤ 100000) : wJ (pe_GA xs) wY0 M (d + 2) t_XL_isRight ((pe_at t_XL_isRight.bl 0).getD (0, [])).2 [(0, (2, 158)), (1, (0, x))] [] S (fun o Z => S = Z ∧ o = .inl (some (0, if irP S T H kd gb nm x then 1 else 0))) := by
  have h35 := hl.2.1
  have h48 := hl.2.2.2
  have t2 := hlt.2
  by_cases hcs : S 48 x = 0 ∧ kd ≠ 4 ∧ kd ≠ 6
  · obtain ⟨hO, hn⟩ := hq hcs
    have hO1 := hO.1
    obtain ⟨i1, hi1⟩ : ∃ i : Int, i = aIx T nm gb := ⟨_, rfl⟩
    obtain ⟨i2, hi2⟩ : ∃ i : Int, i = aFs (S 128 gb) (qPr H (S 128 gb)) nm H 0 := ⟨_, rfl⟩
    obtain ⟨up, hup⟩ : ∃ i : Int, i = aUp T H nm gb := ⟨_, rfl⟩
    obtain ⟨i3, hi3⟩ : ∃ i : Int, i = aIx T nm up := ⟨_, rfl⟩
    have hur := aUp_rg (nm := nm) hw hO
    rw [← hup] at hur
    have hub : -1 ≤ up ∧ up < (T.length : Int) := by rcases hur with z | z; omega; have := z.1.1; omega
    have hr1 := aIx_rg (T := T) (nm := nm) (k := gb)
    rw [← hi1] at hr1
    have hr3 := aIx_rg (T := T) (nm := nm) (k := up)
    rw [← hi3] at hr3
    have hl1 := (hw.2.2.2.1 gb hO).2
    have hs8 := c_hs hsw.1 hth hw gb hO1.1 hO1.2 hO
    have hr2 : -1 ≤ i2 ∧ i2 ≤ 100000 := by
      have z := aFs_rg (H := H) (be := S 128 gb) (pr := qPr H (S 128 gb)) (nm := nm)
      obtain ⟨-, z2, -, z4⟩ := hsw.2.1
      rw [← hi2] at z
      omega
    have hpe : irP S T H kd gb nm x ↔ ((S 48 x ≠ 0 ∨ kd = 4 ∨ kd = 6) ∨ ((kd = 1 ∨ kd = 3) ∧ i1 = S 51 x ∧ (S 51 x ≠ -1 ∨ i2 = S 52 x)) ∨ (kd ≠ 1 ∧ kd ≠ 3 ∧ ((up = -1 ∧ S 51 x = -1) ∨ (up ≠ -1 ∧ i3 = S 51 x ∧ ((up = gb ∧ S 50 x = -1) ∨ (up ≠ gb ∧ S 50 x = up)))))) := by
      subst hi3; subst hup; subst hi2; subst hi1; exact Iff.rfl
    have hl3 : up ≠ -1 → i3 < 100 := fun z => by
      have := (hw.2.2.2.1 up (hur.resolve_left z).1).2
      omega
    refine wa_aload_n (n := 0) rfl ?_
    refine wb_gf4 158 rfl (wy_pr rfl) wt_158 wf_5_3 (v := 47) wl_158_3 ?_
    refine wa_iconst ?_
    refine wb_aald5 47 0 rfl rfl (wy_pr rfl) wt_47 (by rw [show _ = _ from ((cl_47 hC))]; omega) wl_47_0 ?_
    refine wa_iload_n (n := 1) rfl ?_
    refine wb_iald 48 rfl (wy_pr rfl) wt_48 (n := (S 48 (-1))) (rfl) (by omega) (by omega) (v := (S 48 x)) rfl (fun r1 => ?_)
    refine wa_ifne (w_rg0 (by omega) (by omega)) ⟨_, rfl⟩ (fun c2 => ?_) (fun c2 => ?_)
    · skip
      exfalso; omega
    · skip
      refine wa_aload_n (n := 0) rfl ?_
      refine wb_gfi 158 rfl (wy_pr rfl) wt_158 wf_5_7 (v := kd) (l7) (fun r3 => ?_)
      refine wa_iconst ?_
      refine wa_icmpeq (w_rg0 (by omega) (by omega)) (w_rg0 (by omega) (by omega)) ⟨_, rfl⟩ (fun c4 => ?_) (fun c4 => ?_)
      · skip
        exfalso; omega
      · skip
        refine wa_aload_n (n := 0) rfl ?_
        refine wb_gfi 158 rfl (wy_pr rfl) wt_158 wf_5_7 (v := kd) (l7) (fun r5 => ?_)
        refine wa_bipush (w_rg2 (by omega) (by omega)) ?_
        refine wa_icmpne (w_rg0 (by omega) (by omega)) (w_rg0 (by omega) (by omega)) ⟨_, rfl⟩ (fun c6 => ?_) (fun c6 => ?_)
        · skip
          refine wa_aload_n (n := 0) rfl ?_
          refine wb_gfl 158 rfl (wy_pr rfl) wt_158 wf_5_10 (v := gb) (l10) (fun r7 => ?_)
          refine wb_l2i_r (wb_l2i_id ⟨(by omega), (by omega)⟩) ?_
          refine wa_istore_n (n := 2) rfl ?_
          refine wa_aload_n (n := 0) rfl ?_
          refine wb_gf4 158 rfl (wy_pr rfl) wt_158 wf_5_0 (v := 72) wl_158_0 ?_
          refine wb_gf4 72 rfl (wy_pr rfl) wt_72 wf_2_2 (v := 126) wl_72_2 ?_
          refine wa_iconst ?_
          refine wb_aald5 126 1 rfl rfl (wy_pr rfl) wt_126 (by rw [show _ = _ from ((cl_126 hC))]; omega) wl_126_1 ?_
          refine wa_iload_n (n := 2) rfl ?_
          refine wb_iald 128 rfl (wy_pr rfl) wt_128 (n := (S 127 (-1))) ((hlt.1 1 (by decide))) (by omega) (by omega) (v := (S 128 gb)) rfl (fun r8 => ?_)
          refine wa_istore_n (n := 3) rfl ?_
          refine wa_aload_n (n := 0) rfl ?_
          refine wb_gf4 158 rfl (wy_pr rfl) wt_158 wf_5_3 (v := 47) wl_158_3 ?_
          refine wa_iconst ?_
          refine wb_aald5 47 3 rfl rfl (wy_pr rfl) wt_47 (by rw [show _ = _ from ((cl_47 hC))]; omega) wl_47_3 ?_
          refine wa_iload_n (n := 1) rfl ?_
          refine wb_iald 51 rfl (wy_pr rfl) wt_51 (n := (S 48 (-1))) ((hl.2.2.1 3 (by decide))) (by omega) (by omega) (v := (S 51 x)) rfl (fun r9 => ?_)
          refine wa_istore (n := 4) rfl ?_
          refine wa_aload_n (n := 0) rfl ?_
          refine wb_gfi 158 rfl (wy_pr rfl) wt_158 wf_5_7 (v := kd) (l7) (fun r10 => ?_)
          refine wa_iconst ?_
          refine wa_icmpeq (w_rg0 (by omega) (by omega)) (w_rg0 (by omega) (by omega)) ⟨_, rfl⟩ (fun c11 => ?_) (fun c11 => ?_)
          · skip
            refine wa_aload_n (n := 0) rfl ?_
            refine wb_gf4 158 rfl (wy_pr rfl) wt_158 wf_5_0 (v := 72) wl_158_0 ?_
            refine wa_iload_n (n := 3) rfl ?_
            refine wa_aload_n (n := 0) rfl ?_
            refine wb_gfi 158 rfl (wy_pr rfl) wt_158 wf_5_11 (v := nm) (l11) (fun r12 => ?_)
            refine wa_cv 72 rfl (wy_pr rfl) wt_72 (M2 := fun _ => False) rfl at_XH_indexIn ⟨_, rfl⟩ rfl rfl ⟨trivial, trivial, trivial, (Or.inr ⟨wy_pr rfl, fun q => q⟩), trivial, trivial⟩ trivial (fun _ _ q => False.elim q) (wJ_mono (c_ixo (k := gb) hC hsw hth hw hO rfl ⟨by omega, by omega⟩) (fun o Z hz => (⟨hz.1, by rw [hi1]; exact hz.2⟩ : S = Z ∧ o = .inl (some (0, i1))))) (fun oq13 Sq13 hp14 q13 => ?_)
            rcases q13 with ⟨rfl, rfl⟩
            show wJ _ _ _ _ _ _ _ _ _ _
            refine wa_iload (n := 4) rfl ?_
            refine wa_icmpne (w_rg0 (by omega) (by omega)) (w_rg0 (by omega) (by omega)) ⟨_, rfl⟩ (fun c15 => ?_) (fun c15 => ?_)
            · skip
              refine wa_iconst ?_
              refine wa_fall ⟨_, rfl⟩ ?_
              refine wa_zreturn rfl (Or.inl rfl) ?_
              exact ⟨rfl, by rw [if_neg (fun z => absurd (hpe.mp z) (by omega))]⟩
            · skip
              refine wa_iload (n := 4) rfl ?_
              refine wa_iconst ?_
              refine wa_icmpne (w_rg0 (by omega) (by omega)) (w_rg0 (by omega) (by omega)) ⟨_, rfl⟩ (fun c16 => ?_) (fun c16 => ?_)
              · skip
                refine wa_iconst ?_
                refine wa_goto ⟨_, rfl⟩ ?_
                refine wa_zreturn rfl (Or.inr rfl) ?_
                exact ⟨rfl, by rw [if_pos (hpe.mpr (by omega))]⟩
              · skip
                refine wa_aload_n (n := 0) rfl ?_
                refine wb_gf4 158 rfl (wy_pr rfl) wt_158 wf_5_0 (v := 72) wl_158_0 ?_
                refine wa_iload_n (n := 3) rfl ?_
                refine wa_aload_n (n := 0) rfl ?_
                refine wb_gfi 158 rfl (wy_pr rfl) wt_158 wf_5_11 (v := nm) (l11) (fun r17 => ?_)
                refine wa_cv 72 rfl (wy_pr rfl) wt_72 (M2 := fun _ => False) rfl at_XH_shapeBehind ⟨_, rfl⟩ rfl rfl ⟨trivial, trivial, trivial, (Or.inr ⟨wy_pr rfl, fun q => q⟩), trivial, trivial⟩ trivial (fun _ _ q => False.elim q) (wJ_mono (c_sb hC hsw hw ⟨hs8.1, hs8.2.1⟩ ⟨by omega, by omega⟩) (fun o Z hz => (⟨hz.1, by rw [hi2]; exact hz.2⟩ : S = Z ∧ o = .inl (some (0, i2))))) (fun oq18 Sq18 hp19 q18 => ?_)
                rcases q18 with ⟨rfl, rfl⟩
                show wJ _ _ _ _ _ _ _ _ _ _
                refine wa_aload_n (n := 0) rfl ?_
                refine wb_gf4 158 rfl (wy_pr rfl) wt_158 wf_5_3 (v := 47) wl_158_3 ?_
                refine wa_iconst ?_
                refine wb_aald5 47 4 rfl rfl (wy_pr rfl) wt_47 (by rw [show _ = _ from ((cl_47 hC))]; omega) wl_47_4 ?_
                refine wa_iload_n (n := 1) rfl ?_
                refine wb_iald 52 rfl (wy_pr rfl) wt_52 (n := (S 48 (-1))) ((hl.2.2.1 4 (by decide))) (by omega) (by omega) (v := (S 52 x)) rfl (fun r20 => ?_)
                refine wa_icmpne (w_rg0 (by omega) (by omega)) (w_rg0 (by omega) (by omega)) ⟨_, rfl⟩ (fun c21 => ?_) (fun c21 => ?_)
                · skip
                  refine wa_iconst ?_
                  refine wa_fall ⟨_, rfl⟩ ?_
                  refine wa_zreturn rfl (Or.inl rfl) ?_
                  exact ⟨rfl, by rw [if_neg (fun z => absurd (hpe.mp z) (by omega))]⟩
                · skip
                  refine wa_fall ⟨_, rfl⟩ ?_
                  refine wa_iconst ?_
                  refine wa_goto ⟨_, rfl⟩ ?_
                  refine wa_zreturn rfl (Or.inr rfl) ?_
                  exact ⟨rfl, by rw [if_pos (hpe.mpr (by omega))]⟩
          · skip
            refine wa_aload_n (n := 0) rfl ?_
            refine wb_gfi 158 rfl (wy_pr rfl) wt_158 wf_5_7 (v := kd) (l7) (fun r22 => ?_)
            refine wa_iconst ?_
            refine wa_icmpne (w_rg0 (by omega) (by omega)) (w_rg0 (by omega) (by omega)) ⟨_, rfl⟩ (fun c23 => ?_) (fun c23 => ?_)
            · skip
              refine wa_aload_n (n := 0) rfl ?_
              refine wb_gf4 158 rfl (wy_pr rfl) wt_158 wf_5_0 (v := 72) wl_158_0 ?_
              refine wa_iload_n (n := 2) rfl ?_
              refine wa_aload_n (n := 0) rfl ?_
              refine wb_gfi 158 rfl (wy_pr rfl) wt_158 wf_5_11 (v := nm) (l11) (fun r24 => ?_)
              refine wa_cv 72 rfl (wy_pr rfl) wt_72 (M2 := fun _ => False) rfl at_XH_holderOf ⟨_, rfl⟩ rfl rfl ⟨trivial, trivial, trivial, (Or.inr ⟨wy_pr rfl, fun q => q⟩), trivial, trivial⟩ trivial (fun _ _ q => False.elim q) (wJ_mono (c_ho hC hsw hth hlt hw hO ⟨by omega, by omega⟩) (fun o Z hz => (⟨hz.1, by rw [hup]; exact hz.2⟩ : S = Z ∧ o = .inl (some (0, up))))) (fun oq25 Sq25 hp26 q25 => ?_)
              rcases q25 with ⟨rfl, rfl⟩
              show wJ _ _ _ _ _ _ _ _ _ _
              refine wa_istore (n := 5) rfl ?_
              refine wa_iload (n := 5) rfl ?_
              refine wa_iconst ?_
              refine wa_icmpne (w_rg0 (by omega) (by omega)) (w_rg0 (by omega) (by omega)) ⟨_, rfl⟩ (fun c27 => ?_) (fun c27 => ?_)
              · skip
                refine wa_aload_n (n := 0) rfl ?_
                refine wb_gf4 158 rfl (wy_pr rfl) wt_158 wf_5_0 (v := 72) wl_158_0 ?_
                refine wa_aload_n (n := 0) rfl ?_
                refine wb_gf4 158 rfl (wy_pr rfl) wt_158 wf_5_0 (v := 72) wl_158_0 ?_
                refine wb_gf4 72 rfl (wy_pr rfl) wt_72 wf_2_2 (v := 126) wl_72_2 ?_
                refine wa_iconst ?_
                refine wb_aald5 126 1 rfl rfl (wy_pr rfl) wt_126 (by rw [show _ = _ from ((cl_126 hC))]; omega) wl_126_1 ?_
                refine wa_iload (n := 5) rfl ?_
                refine wb_iald 128 rfl (wy_pr rfl) wt_128 (n := (S 127 (-1))) ((hlt.1 1 (by decide))) (by omega) (by omega) (v := (S 128 up)) rfl (fun r28 => ?_)
                refine wa_aload_n (n := 0) rfl ?_
                refine wb_gfi 158 rfl (wy_pr rfl) wt_158 wf_5_11 (v := nm) (l11) (fun r29 => ?_)
                refine wa_cv 72 rfl (wy_pr rfl) wt_72 (M2 := fun _ => False) rfl at_XH_indexIn ⟨_, rfl⟩ rfl rfl ⟨trivial, trivial, trivial, trivial, (Or.inr ⟨wy_pr rfl, fun q => q⟩), trivial, trivial⟩ trivial (fun _ _ q => False.elim q) (wJ_mono (c_ixo (k := up) hC hsw hth hw (hur.resolve_left (by omega)).1 rfl ⟨by omega, by omega⟩) (fun o Z hz => (⟨hz.1, by rw [hi3]; exact hz.2⟩ : S = Z ∧ o = .inl (some (0, i3))))) (fun oq30 Sq30 hp31 q30 => ?_)
                rcases q30 with ⟨rfl, rfl⟩
                show wJ _ _ _ _ _ _ _ _ _ _
                refine wa_iload (n := 4) rfl ?_
                refine wa_icmpne (w_rg0 (by omega) (by omega)) (w_rg0 (by omega) (by omega)) ⟨_, rfl⟩ (fun c32 => ?_) (fun c32 => ?_)
                · skip
                  refine wa_iconst ?_
                  refine wa_fall ⟨_, rfl⟩ ?_
                  refine wa_zreturn rfl (Or.inl rfl) ?_
                  exact ⟨rfl, by rw [if_neg (fun z => absurd (hpe.mp z) (by omega))]⟩
                · skip
                  refine wa_aload_n (n := 0) rfl ?_
                  refine wb_gf4 158 rfl (wy_pr rfl) wt_158 wf_5_3 (v := 47) wl_158_3 ?_
                  refine wa_iconst ?_
                  refine wb_aald5 47 2 rfl rfl (wy_pr rfl) wt_47 (by rw [show _ = _ from ((cl_47 hC))]; omega) wl_47_2 ?_
                  refine wa_iload_n (n := 1) rfl ?_
                  refine wb_iald 50 rfl (wy_pr rfl) wt_50 (n := (S 48 (-1))) ((hl.2.2.1 2 (by decide))) (by omega) (by omega) (v := (S 50 x)) rfl (fun r33 => ?_)
                  refine wa_iload (n := 5) rfl ?_
                  refine wa_iload_n (n := 2) rfl ?_
                  refine wa_icmpne (w_rg0 (by omega) (by omega)) (w_rg0 (by omega) (by omega)) ⟨_, rfl⟩ (fun c34 => ?_) (fun c34 => ?_)
                  · skip
                    refine wa_iload (n := 5) rfl ?_
                    refine wa_fall ⟨_, rfl⟩ ?_
                    refine wa_icmpne (w_rg0 (by omega) (by omega)) (w_rg0 (by omega) (by omega)) ⟨_, rfl⟩ (fun c35 => ?_) (fun c35 => ?_)
                    · skip
                      refine wa_iconst ?_
                      refine wa_fall ⟨_, rfl⟩ ?_
                      refine wa_zreturn rfl (Or.inl rfl) ?_
                      exact ⟨rfl, by rw [if_neg (fun z => absurd (hpe.mp z) (by omega))]⟩
                    · skip
                      refine wa_iconst ?_
                      refine wa_goto ⟨_, rfl⟩ ?_
                      refine wa_zreturn rfl (Or.inr rfl) ?_
                      exact ⟨rfl, by rw [if_pos (hpe.mpr (by omega))]⟩
                  · skip
                    refine wa_iconst ?_
                    refine wa_goto ⟨_, rfl⟩ ?_
                    refine wa_icmpne (w_rg0 (by omega) (by omega)) (w_rg0 (by omega) (by omega)) ⟨_, rfl⟩ (fun c36 => ?_) (fun c36 => ?_)
                    · skip
                      refine wa_iconst ?_
                      refine wa_fall ⟨_, rfl⟩ ?_
                      refine wa_zreturn rfl (Or.inl rfl) ?_
                      exact ⟨rfl, by rw [if_neg (fun z => absurd (hpe.mp z) (by omega))]⟩
                    · skip
                      refine wa_iconst ?_
                      refine wa_goto ⟨_, rfl⟩ ?_
                      refine wa_zreturn rfl (Or.inr rfl) ?_
                      exact ⟨rfl, by rw [if_pos (hpe.mpr (by omega))]⟩
              · skip
                refine wa_iload (n := 4) rfl ?_
                refine wa_iconst ?_
                refine wa_icmpne (w_rg0 (by omega) (by omega)) (w_rg0 (by omega) (by omega)) ⟨_, rfl⟩ (fun c37 => ?_) (fun c37 => ?_)
                · skip
                  refine wa_iconst ?_
                  refine wa_fall ⟨_, rfl⟩ ?_
                  refine wa_zreturn rfl (Or.inl rfl) ?_
                  exact ⟨rfl, by rw [if_neg (fun z => absurd (hpe.mp z) (by omega))]⟩
                · skip
                  refine wa_iconst ?_
                  refine wa_goto ⟨_, rfl⟩ ?_
                  refine wa_zreturn rfl (Or.inr rfl) ?_
                  exact ⟨rfl, by rw [if_pos (hpe.mpr (by omega))]⟩
            · skip
              refine wa_fall ⟨_, rfl⟩ ?_
              refine wa_aload_n (n := 0) rfl ?_
              refine wb_gf4 158 rfl (wy_pr rfl) wt_158 wf_5_0 (v := 72) wl_158_0 ?_
              refine wa_iload_n (n := 3) rfl ?_
              refine wa_aload_n (n := 0) rfl ?_
              refine wb_gfi 158 rfl (wy_pr rfl) wt_158 wf_5_11 (v := nm) (l11) (fun r38 => ?_)
              refine wa_cv 72 rfl (wy_pr rfl) wt_72 (M2 := fun _ => False) rfl at_XH_indexIn ⟨_, rfl⟩ rfl rfl ⟨trivial, trivial, trivial, (Or.inr ⟨wy_pr rfl, fun q => q⟩), trivial, trivial⟩ trivial (fun _ _ q => False.elim q) (wJ_mono (c_ixo (k := gb) hC hsw hth hw hO rfl ⟨by omega, by omega⟩) (fun o Z hz => (⟨hz.1, by rw [hi1]; exact hz.2⟩ : S = Z ∧ o = .inl (some (0, i1))))) (fun oq39 Sq39 hp40 q39 => ?_)
              rcases q39 with ⟨rfl, rfl⟩
              show wJ _ _ _ _ _ _ _ _ _ _
              refine wa_iload (n := 4) rfl ?_
              refine wa_icmpne (w_rg0 (by omega) (by omega)) (w_rg0 (by omega) (by omega)) ⟨_, rfl⟩ (fun c41 => ?_) (fun c41 => ?_)
              · skip
                refine wa_iconst ?_
                refine wa_fall ⟨_, rfl⟩ ?_
                refine wa_zreturn rfl (Or.inl rfl) ?_
                exact ⟨rfl, by rw [if_neg (fun z => absurd (hpe.mp z) (by omega))]⟩
              · skip
                refine wa_iload (n := 4) rfl ?_
                refine wa_iconst ?_
                refine wa_icmpne (w_rg0 (by omega) (by omega)) (w_rg0 (by omega) (by omega)) ⟨_, rfl⟩ (fun c42 => ?_) (fun c42 => ?_)
                · skip
                  refine wa_iconst ?_
                  refine wa_goto ⟨_, rfl⟩ ?_
                  refine wa_zreturn rfl (Or.inr rfl) ?_
                  exact ⟨rfl, by rw [if_pos (hpe.mpr (by omega))]⟩
                · skip
                  refine wa_aload_n (n := 0) rfl ?_
                  refine wb_gf4 158 rfl (wy_pr rfl) wt_158 wf_5_0 (v := 72) wl_158_0 ?_
                  refine wa_iload_n (n := 3) rfl ?_
                  refine wa_aload_n (n := 0) rfl ?_
                  refine wb_gfi 158 rfl (wy_pr rfl) wt_158 wf_5_11 (v := nm) (l11) (fun r43 => ?_)
                  refine wa_cv 72 rfl (wy_pr rfl) wt_72 (M2 := fun _ => False) rfl at_XH_shapeBehind ⟨_, rfl⟩ rfl rfl ⟨trivial, trivial, trivial, (Or.inr ⟨wy_pr rfl, fun q => q⟩), trivial, trivial⟩ trivial (fun _ _ q => False.elim q) (wJ_mono (c_sb hC hsw hw ⟨hs8.1, hs8.2.1⟩ ⟨by omega, by omega⟩) (fun o Z hz => (⟨hz.1, by rw [hi2]; exact hz.2⟩ : S = Z ∧ o = .inl (some (0, i2))))) (fun oq44 Sq44 hp45 q44 => ?_)
                  rcases q44 with ⟨rfl, rfl⟩
                  show wJ _ _ _ _ _ _ _ _ _ _
                  refine wa_aload_n (n := 0) rfl ?_
                  refine wb_gf4 158 rfl (wy_pr rfl) wt_158 wf_5_3 (v := 47) wl_158_3 ?_
                  refine wa_iconst ?_
                  refine wb_aald5 47 4 rfl rfl (wy_pr rfl) wt_47 (by rw [show _ = _ from ((cl_47 hC))]; omega) wl_47_4 ?_
                  refine wa_iload_n (n := 1) rfl ?_
                  refine wb_iald 52 rfl (wy_pr rfl) wt_52 (n := (S 48 (-1))) ((hl.2.2.1 4 (by decide))) (by omega) (by omega) (v := (S 52 x)) rfl (fun r46 => ?_)
                  refine wa_icmpne (w_rg0 (by omega) (by omega)) (w_rg0 (by omega) (by omega)) ⟨_, rfl⟩ (fun c47 => ?_) (fun c47 => ?_)
                  · skip
                    refine wa_iconst ?_
                    refine wa_fall ⟨_, rfl⟩ ?_
                    refine wa_zreturn rfl (Or.inl rfl) ?_
                    exact ⟨rfl, by rw [if_neg (fun z => absurd (hpe.mp z) (by omega))]⟩
                  · skip
                    refine wa_fall ⟨_, rfl⟩ ?_
                    refine wa_iconst ?_
                    refine wa_goto ⟨_, rfl⟩ ?_
                    refine wa_zreturn rfl (Or.inr rfl) ?_
                    exact ⟨rfl, by rw [if_pos (hpe.mpr (by omega))]⟩
        · skip
          exfalso; omega
  · rw [if_pos (show irP S T H kd gb nm x by unfold irP; omega)]
    refine wa_aload_n (n := 0) rfl ?_
    refine wb_gf4 158 rfl (wy_pr rfl) wt_158 wf_5_3 (v := 47) wl_158_3 ?_
    refine wa_iconst ?_
    refine wb_aald5 47 0 rfl rfl (wy_pr rfl) wt_47 (by rw [show _ = _ from ((cl_47 hC))]; omega) wl_47_0 ?_
    refine wa_iload_n (n := 1) rfl ?_
    refine wb_iald 48 rfl (wy_pr rfl) wt_48 (n := (S 48 (-1))) (rfl) (by omega) (by omega) (v := (S 48 x)) rfl (fun r201 => ?_)
    refine wa_ifne (w_rg0 (by omega) (by omega)) ⟨_, rfl⟩ (fun c202 => ?_) (fun c202 => ?_)
    · skip
      refine wa_iconst ?_
      refine wa_zreturn rfl (Or.inr rfl) ?_
      exact ⟨rfl, rfl⟩
    · skip
      refine wa_aload_n (n := 0) rfl ?_
      refine wb_gfi 158 rfl (wy_pr rfl) wt_158 wf_5_7 (v := kd) (l7) (fun r203 => ?_)
      refine wa_iconst ?_
      refine wa_icmpeq (w_rg0 (by omega) (by omega)) (w_rg0 (by omega) (by omega)) ⟨_, rfl⟩ (fun c204 => ?_) (fun c204 => ?_)
      · skip
        refine wa_iconst ?_
        refine wa_zreturn rfl (Or.inr rfl) ?_
        exact ⟨rfl, rfl⟩
      · skip
        refine wa_aload_n (n := 0) rfl ?_
        refine wb_gfi 158 rfl (wy_pr rfl) wt_158 wf_5_7 (v := kd) (l7) (fun r205 => ?_)
        refine wa_bipush (w_rg2 (by omega) (by omega)) ?_
        refine wa_icmpne (w_rg0 (by omega) (by omega)) (w_rg0 (by omega) (by omega)) ⟨_, rfl⟩ (fun c206 => ?_) (fun c206 => ?_)
        · skip
          exfalso; omega
        · skip
          refine wa_fall ⟨_, rfl⟩ ?_
          refine wa_iconst ?_
          refine wa_zreturn rfl (Or.inr rfl) ?_
          exact ⟨rfl, rfl⟩
end Wgd
