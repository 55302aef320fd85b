/-! PART h0: invokes of the reference ahead of its entries, and behind them. -/
section Wh0
variable {xs : List (Nat × List Int32)} {M : Nat → Prop} {d : Nat} {S Z A : wS} {t c p h tp ba s kd ne e0 es gk gb hit kk el : Int} {Q R : wO → wS → Prop}
/-- where a site's values stand, and the value it goes by -/
def ivZ (e0 es r gk gb : Int) (S : wS) : wS := w_up (w_up (w_up (w_up (w_up (w_up S 237 176 e0) 237 176 es) 237 173 r) 237 174 gk) 237 175 gb) 237 177 (-1)
set_option maxHeartbeats 4000000 in
theorem iv0_ok (hP : mP t c p h tp S) (hs : 0 ≤ s ∧ s < 4000) (h04 : S 304 s = kd) (hkd : 0 ≤ kd ∧ kd ≤ 6) (h06 : S 306 s = ne) (hne : 0 ≤ ne ∧ ne ≤ 255) (he0 : e0 = if kd = 0 then 0 else if kd < 4 then 1 else ne) (hes : es = if kd = 3 then 2 else e0) (hba : ba = h - 1 - es ∧ 0 ≤ ba) (hgk : S 363 (2100 * t + ba) = gk) (hgb : S 364 (2100 * t + ba) = gb) (hgr : 0 ≤ gk ∧ gk ≤ 8) (hno : ¬ ((kd = 2 ∨ kd = 3) ∧ (gk = 4 ∨ gk = 5))) (hel : el = if kd = 2 ∨ kd = 3 then 1 else 0) (hk : wJ (pe_GA xs) wY0 M (d + 4) t_M_invokes ((pe_at t_M_invokes.bl 10).getD (0, [])).2 [(0, (2, 237)), (1, (0, s)), (2, (0, kd)), (3, (0, el)), (4, (0, -1)), (5, (0, 0))] [] (ivZ e0 es (2100 * t + ba) gk gb S) Q) : wJ (pe_GA xs) wY0 M (d + 4) t_M_invokes ((pe_at t_M_invokes.bl 0).getD (0, [])).2 [(0, (2, 237)), (1, (0, s))] [] S Q := by
  obtain ⟨hM, ⟨mt, mt0, mt1⟩, mp, mf, ⟨mc, mc0, mc1⟩, ⟨mtp, mtq⟩, ⟨mpa, mp0, mp1⟩, mh, mh0, mh1⟩ := hP
  refine wa_aload_n (n := 0) rfl ?_
  refine wb_gf4 237 rfl (wy_pr rfl) wt_237 wf_15_49 (v := 304) wl_237_49 ?_
  refine wa_iload_n (n := 1) rfl ?_
  refine wb_iald 304 rfl (wy_pr rfl) wt_304 (n := 4000) ((ml_304 hM)) (by omega) (by omega) (v := kd) (h04) (fun r1 => ?_)
  refine wa_istore_n (n := 2) rfl ?_
  refine wa_aload_n (n := 0) rfl ?_
  refine wa_iload_n (n := 2) rfl ?_
  refine wa_ifne (w_rg0 (by omega) (by omega)) ⟨_, rfl⟩ (fun c2 => ?_) (fun c2 => ?_)
  · skip
    refine wa_iload_n (n := 2) rfl ?_
    refine wa_iconst ?_
    refine wa_icmpge (w_rg0 (by omega) (by omega)) (w_rg0 (by omega) (by omega)) ⟨_, rfl⟩ (fun c3 => ?_) (fun c3 => ?_)
    · skip
      refine wa_aload_n (n := 0) rfl ?_
      refine wb_gf4 237 rfl (wy_pr rfl) wt_237 wf_15_51 (v := 306) wl_237_51 ?_
      refine wa_iload_n (n := 1) rfl ?_
      refine wb_iald 306 rfl (wy_pr rfl) wt_306 (n := 4000) ((ml_306 hM)) (by omega) (by omega) (v := ne) (h06) (fun r4 => ?_)
      refine wa_fall ⟨_, rfl⟩ ?_
      have ee0 : ne = e0 := by rw [he0]; first | exact (if_pos (by omega)).symm | exact ((if_neg (by omega)).trans (if_pos (by omega))).symm | exact ((if_neg (by omega)).trans (if_neg (by omega))).symm
      refine wJ_top ee0 ?_
      have he0r : 0 ≤ e0 ∧ e0 ≤ 255 := by omega
      refine wb_pfi 237 rfl (wy_pr rfl) wt_237 wf_15_176 (n := 176) rfl ⟨(by omega), (by omega)⟩ ?_
      refine wa_aload_n (n := 0) rfl ?_
      refine wa_iload_n (n := 2) rfl ?_
      refine wa_iconst ?_
      refine wa_icmpne (w_rg0 (by omega) (by omega)) (w_rg0 (by omega) (by omega)) ⟨_, rfl⟩ (fun c5 => ?_) (fun c5 => ?_)
      · skip
        refine wa_aload_n (n := 0) rfl ?_
        refine wb_gfi 237 rfl (wy_pr rfl) wt_237 wf_15_176 (v := e0) (w_up_same _ _ _ _) (fun r6 => ?_)
        refine wa_fall ⟨_, rfl⟩ ?_
        have ees : e0 = es := by rw [hes]; first | exact (if_pos (by omega)).symm | exact (if_neg (by omega)).symm
        refine wJ_top ees ?_
        have hesr : 0 ≤ es ∧ es ≤ 255 := by omega
        refine wb_pfi 237 rfl (wy_pr rfl) wt_237 wf_15_176 (n := 176) rfl ⟨(by omega), (by omega)⟩ ?_
        refine wa_aload_n (n := 0) rfl ?_
        refine wa_aload_n (n := 0) rfl ?_
        refine wa_cv 237 rfl (wy_pr rfl) wt_237 (M2 := fun _ => False) rfl at_M_h ⟨_, rfl⟩ rfl rfl ⟨trivial, (Or.inr ⟨wy_pr rfl, fun q => q⟩), trivial, trivial⟩ ⟨(Or.inr ⟨wy_pr rfl, fun q => q⟩), trivial⟩ (fun _ _ q => False.elim q) ?_ (fun _ _ _ q => q)
        refine wa_aload_n (n := 0) rfl ?_
        refine wb_gfi 237 rfl (wy_pr rfl) wt_237 wf_15_152 (v := (2100 * t)) ((w_up_at (by decide)).trans ((w_up_at (by decide)).trans (mp))) (fun r7 => ?_)
        refine wa_aload_n (n := 0) rfl ?_
        refine wb_gf4 237 rfl (wy_pr rfl) wt_237 wf_15_134 (v := 359) wl_237_134 ?_
        refine wa_aload_n (n := 0) rfl ?_
        refine wb_gfi 237 rfl (wy_pr rfl) wt_237 wf_15_151 (v := t) ((w_up_at (by decide)).trans ((w_up_at (by decide)).trans (mt))) (fun r8 => ?_)
        refine wb_iald 359 rfl (wy_pr rfl) wt_359 (n := 2) ((w_up_slot (by decide)).trans ((w_up_slot (by decide)).trans ((ml_359 hM)))) (by omega) (by omega) (v := h) ((w_up_slot (by decide)).trans ((w_up_slot (by decide)).trans (mh))) (fun r9 => ?_)
        refine wa_iadd ?_
        refine wa_ireturn rfl ?_
        show wJ _ _ _ _ _ _ _ _ _ _
        refine wa_iconst ?_
        refine wa_isub ?_
        refine wa_aload_n (n := 0) rfl ?_
        refine wb_gfi 237 rfl (wy_pr rfl) wt_237 wf_15_176 (v := es) (w_up_same _ _ _ _) (fun r10 => ?_)
        refine wa_isub ?_
        rw [show ((((2100 * t) + h) - 1) - es) = 2100 * t + ba by omega]
        refine wb_pfi 237 rfl (wy_pr rfl) wt_237 wf_15_173 (n := 173) rfl ⟨(by omega), (by omega)⟩ ?_
        refine wa_aload_n (n := 0) rfl ?_
        refine wa_aload_n (n := 0) rfl ?_
        refine wb_gf4 237 rfl (wy_pr rfl) wt_237 wf_15_138 (v := 363) wl_237_138 ?_
        refine wa_aload_n (n := 0) rfl ?_
        refine wb_gfi 237 rfl (wy_pr rfl) wt_237 wf_15_173 (v := (2100 * t + ba)) (w_up_same _ _ _ _) (fun r11 => ?_)
        refine wb_iald 363 rfl (wy_pr rfl) wt_363 (n := 4200) ((w_up_slot (by decide)).trans ((w_up_slot (by decide)).trans ((w_up_slot (by decide)).trans ((ml_363 hM))))) (by omega) (by omega) (v := gk) ((w_up_slot (by decide)).trans ((w_up_slot (by decide)).trans ((w_up_slot (by decide)).trans (hgk)))) (fun r12 => ?_)
        refine wb_pfi 237 rfl (wy_pr rfl) wt_237 wf_15_174 (n := 174) rfl ⟨(by omega), (by omega)⟩ ?_
        refine wa_aload_n (n := 0) rfl ?_
        refine wa_aload_n (n := 0) rfl ?_
        refine wb_gf4 237 rfl (wy_pr rfl) wt_237 wf_15_139 (v := 364) wl_237_139 ?_
        refine wa_aload_n (n := 0) rfl ?_
        refine wb_gfi 237 rfl (wy_pr rfl) wt_237 wf_15_173 (v := (2100 * t + ba)) ((w_up_at (by decide)).trans (w_up_same _ _ _ _)) (fun r13 => ?_)
        refine wb_lald 364 rfl (wy_pr rfl) wt_364 (n := 4200) ((w_up_slot (by decide)).trans ((w_up_slot (by decide)).trans ((w_up_slot (by decide)).trans ((w_up_slot (by decide)).trans ((ml_364 hM)))))) (by omega) (by omega) (v := gb) ((w_up_slot (by decide)).trans ((w_up_slot (by decide)).trans ((w_up_slot (by decide)).trans ((w_up_slot (by decide)).trans (hgb))))) (fun r14 => ?_)
        refine wb_pfl 237 rfl (wy_pr rfl) wt_237 wf_15_175 (n := 175) rfl ⟨(by omega), (by omega)⟩ ?_
        refine wa_aload_n (n := 0) rfl ?_
        refine wa_iconst ?_
        refine wb_pfi 237 rfl (wy_pr rfl) wt_237 wf_15_177 (n := 177) rfl ⟨(by omega), (by omega)⟩ ?_
        refine wa_iload_n (n := 2) rfl ?_
        refine wa_iconst ?_
        refine wa_icmpeq (w_rg0 (by omega) (by omega)) (w_rg0 (by omega) (by omega)) ⟨_, rfl⟩ (fun c15 => ?_) (fun c15 => ?_)
        · skip
          refine wa_iconst ?_
          refine wa_goto ⟨_, rfl⟩ ?_
          refine wa_istore_n (n := 3) rfl ?_
          refine wa_iload_n (n := 3) rfl ?_
          refine wa_ifeq (w_rg0 (by omega) (by omega)) ⟨_, rfl⟩ (fun c16 => ?_) (fun c16 => ?_)
          · skip
            exact absurd c16 (by omega)
          · skip
            refine wa_aload_n (n := 0) rfl ?_
            refine wa_aload_n (n := 0) rfl ?_
            refine wb_gfi 237 rfl (wy_pr rfl) wt_237 wf_15_174 (v := gk) ((w_up_at (by decide)).trans ((w_up_at (by decide)).trans (w_up_same _ _ _ _))) (fun r17 => ?_)
            refine wa_cv 237 rfl (wy_pr rfl) wt_237 (M2 := fun _ => False) rfl at_M_hasShape ⟨_, rfl⟩ rfl rfl ⟨trivial, trivial, (Or.inr ⟨wy_pr rfl, fun q => q⟩), trivial, trivial⟩ trivial (fun _ _ q => False.elim q) ?_ (fun _ _ _ q => q)
            refine wa_iload_n (n := 1) rfl ?_
            refine wa_iconst ?_
            refine wa_icmpeq (w_rg0 (by omega) (by omega)) (w_rg0 (by omega) (by omega)) ⟨_, rfl⟩ (fun c18 => ?_) (fun c18 => ?_)
            · skip
              refine wa_iconst ?_
              refine wa_goto ⟨_, rfl⟩ ?_
              refine wa_zreturn rfl (Or.inr rfl) ?_
              show wJ _ _ _ _ _ _ _ _ _ _
              refine wa_ifeq (w_rg0 (by omega) (by omega)) ⟨_, rfl⟩ (fun c19 => ?_) (fun c19 => ?_)
              · skip
                exact absurd c19 (by omega)
              · skip
                exfalso; omega
            · skip
              refine wa_iload_n (n := 1) rfl ?_
              refine wa_iconst ?_
              refine wa_icmpne (w_rg0 (by omega) (by omega)) (w_rg0 (by omega) (by omega)) ⟨_, rfl⟩ (fun c20 => ?_) (fun c20 => ?_)
              · skip
                refine wa_iconst ?_
                refine wa_fall ⟨_, rfl⟩ ?_
                refine wa_zreturn rfl (Or.inl rfl) ?_
                show wJ _ _ _ _ _ _ _ _ _ _
                refine wa_ifeq (w_rg0 (by omega) (by omega)) ⟨_, rfl⟩ (fun c21 => ?_) (fun c21 => ?_)
                · skip
                  refine wa_iconst ?_
                  refine wa_istore (n := 4) rfl ?_
                  refine wa_iconst ?_
                  refine wa_istore (n := 5) rfl ?_
                  refine wa_fall ⟨_, rfl⟩ ?_
                  have eel : el = 1 := by rw [hel]; first | exact if_pos (by omega) | exact if_neg (by omega)
                  exact wJ_S hk ⟨rfl, rfl, rfl, by rw [eel]; rfl, rfl, rfl, trivial⟩
                · skip
                  exact absurd c21 (by omega)
              · skip
                refine wa_fall ⟨_, rfl⟩ ?_
                refine wa_iconst ?_
                refine wa_goto ⟨_, rfl⟩ ?_
                refine wa_zreturn rfl (Or.inr rfl) ?_
                show wJ _ _ _ _ _ _ _ _ _ _
                refine wa_ifeq (w_rg0 (by omega) (by omega)) ⟨_, rfl⟩ (fun c22 => ?_) (fun c22 => ?_)
                · skip
                  exact absurd c22 (by omega)
                · skip
                  exfalso; omega
        · skip
          refine wa_iload_n (n := 2) rfl ?_
          refine wa_iconst ?_
          refine wa_icmpne (w_rg0 (by omega) (by omega)) (w_rg0 (by omega) (by omega)) ⟨_, rfl⟩ (fun c23 => ?_) (fun c23 => ?_)
          · skip
            refine wa_iconst ?_
            refine wa_fall ⟨_, rfl⟩ ?_
            refine wa_istore_n (n := 3) rfl ?_
            refine wa_iload_n (n := 3) rfl ?_
            refine wa_ifeq (w_rg0 (by omega) (by omega)) ⟨_, rfl⟩ (fun c24 => ?_) (fun c24 => ?_)
            · skip
              refine wa_iconst ?_
              refine wa_istore (n := 4) rfl ?_
              refine wa_iconst ?_
              refine wa_istore (n := 5) rfl ?_
              refine wa_fall ⟨_, rfl⟩ ?_
              have eel : el = 0 := by rw [hel]; first | exact if_pos (by omega) | exact if_neg (by omega)
              exact wJ_S hk ⟨rfl, rfl, rfl, by rw [eel]; rfl, rfl, rfl, trivial⟩
            · skip
              exact absurd c24 (by omega)
          · skip
            refine wa_fall ⟨_, rfl⟩ ?_
            refine wa_iconst ?_
            refine wa_goto ⟨_, rfl⟩ ?_
            refine wa_istore_n (n := 3) rfl ?_
            refine wa_iload_n (n := 3) rfl ?_
            refine wa_ifeq (w_rg0 (by omega) (by omega)) ⟨_, rfl⟩ (fun c25 => ?_) (fun c25 => ?_)
            · skip
              exact absurd c25 (by omega)
            · skip
              refine wa_aload_n (n := 0) rfl ?_
              refine wa_aload_n (n := 0) rfl ?_
              refine wb_gfi 237 rfl (wy_pr rfl) wt_237 wf_15_174 (v := gk) ((w_up_at (by decide)).trans ((w_up_at (by decide)).trans (w_up_same _ _ _ _))) (fun r26 => ?_)
              refine wa_cv 237 rfl (wy_pr rfl) wt_237 (M2 := fun _ => False) rfl at_M_hasShape ⟨_, rfl⟩ rfl rfl ⟨trivial, trivial, (Or.inr ⟨wy_pr rfl, fun q => q⟩), trivial, trivial⟩ trivial (fun _ _ q => False.elim q) ?_ (fun _ _ _ q => q)
              refine wa_iload_n (n := 1) rfl ?_
              refine wa_iconst ?_
              refine wa_icmpeq (w_rg0 (by omega) (by omega)) (w_rg0 (by omega) (by omega)) ⟨_, rfl⟩ (fun c27 => ?_) (fun c27 => ?_)
              · skip
                refine wa_iconst ?_
                refine wa_goto ⟨_, rfl⟩ ?_
                refine wa_zreturn rfl (Or.inr rfl) ?_
                show wJ _ _ _ _ _ _ _ _ _ _
                refine wa_ifeq (w_rg0 (by omega) (by omega)) ⟨_, rfl⟩ (fun c28 => ?_) (fun c28 => ?_)
                · skip
                  exact absurd c28 (by omega)
                · skip
                  exfalso; omega
              · skip
                refine wa_iload_n (n := 1) rfl ?_
                refine wa_iconst ?_
                refine wa_icmpne (w_rg0 (by omega) (by omega)) (w_rg0 (by omega) (by omega)) ⟨_, rfl⟩ (fun c29 => ?_) (fun c29 => ?_)
                · skip
                  refine wa_iconst ?_
                  refine wa_fall ⟨_, rfl⟩ ?_
                  refine wa_zreturn rfl (Or.inl rfl) ?_
                  show wJ _ _ _ _ _ _ _ _ _ _
                  refine wa_ifeq (w_rg0 (by omega) (by omega)) ⟨_, rfl⟩ (fun c30 => ?_) (fun c30 => ?_)
                  · skip
                    refine wa_iconst ?_
                    refine wa_istore (n := 4) rfl ?_
                    refine wa_iconst ?_
                    refine wa_istore (n := 5) rfl ?_
                    refine wa_fall ⟨_, rfl⟩ ?_
                    have eel : el = 1 := by rw [hel]; first | exact if_pos (by omega) | exact if_neg (by omega)
                    exact wJ_S hk ⟨rfl, rfl, rfl, by rw [eel]; rfl, rfl, rfl, trivial⟩
                  · skip
                    exact absurd c30 (by omega)
                · skip
                  refine wa_fall ⟨_, rfl⟩ ?_
                  refine wa_iconst ?_
                  refine wa_goto ⟨_, rfl⟩ ?_
                  refine wa_zreturn rfl (Or.inr rfl) ?_
                  show wJ _ _ _ _ _ _ _ _ _ _
                  refine wa_ifeq (w_rg0 (by omega) (by omega)) ⟨_, rfl⟩ (fun c31 => ?_) (fun c31 => ?_)
                  · skip
                    exact absurd c31 (by omega)
                  · skip
                    exfalso; omega
      · skip
        refine wa_iconst ?_
        refine wa_goto ⟨_, rfl⟩ ?_
        have ees : 2 = es := by rw [hes]; first | exact (if_pos (by omega)).symm | exact (if_neg (by omega)).symm
        refine wJ_top ees ?_
        have hesr : 0 ≤ es ∧ es ≤ 255 := by omega
        refine wb_pfi 237 rfl (wy_pr rfl) wt_237 wf_15_176 (n := 176) rfl ⟨(by omega), (by omega)⟩ ?_
        refine wa_aload_n (n := 0) rfl ?_
        refine wa_aload_n (n := 0) rfl ?_
        refine wa_cv 237 rfl (wy_pr rfl) wt_237 (M2 := fun _ => False) rfl at_M_h ⟨_, rfl⟩ rfl rfl ⟨trivial, (Or.inr ⟨wy_pr rfl, fun q => q⟩), trivial, trivial⟩ ⟨(Or.inr ⟨wy_pr rfl, fun q => q⟩), trivial⟩ (fun _ _ q => False.elim q) ?_ (fun _ _ _ q => q)
        refine wa_aload_n (n := 0) rfl ?_
        refine wb_gfi 237 rfl (wy_pr rfl) wt_237 wf_15_152 (v := (2100 * t)) ((w_up_at (by decide)).trans ((w_up_at (by decide)).trans (mp))) (fun r32 => ?_)
        refine wa_aload_n (n := 0) rfl ?_
        refine wb_gf4 237 rfl (wy_pr rfl) wt_237 wf_15_134 (v := 359) wl_237_134 ?_
        refine wa_aload_n (n := 0) rfl ?_
        refine wb_gfi 237 rfl (wy_pr rfl) wt_237 wf_15_151 (v := t) ((w_up_at (by decide)).trans ((w_up_at (by decide)).trans (mt))) (fun r33 => ?_)
        refine wb_iald 359 rfl (wy_pr rfl) wt_359 (n := 2) ((w_up_slot (by decide)).trans ((w_up_slot (by decide)).trans ((ml_359 hM)))) (by omega) (by omega) (v := h) ((w_up_slot (by decide)).trans ((w_up_slot (by decide)).trans (mh))) (fun r34 => ?_)
        refine wa_iadd ?_
        refine wa_ireturn rfl ?_
        show wJ _ _ _ _ _ _ _ _ _ _
        refine wa_iconst ?_
        refine wa_isub ?_
        refine wa_aload_n (n := 0) rfl ?_
        refine wb_gfi 237 rfl (wy_pr rfl) wt_237 wf_15_176 (v := es) (w_up_same _ _ _ _) (fun r35 => ?_)
        refine wa_isub ?_
        rw [show ((((2100 * t) + h) - 1) - es) = 2100 * t + ba by omega]
        refine wb_pfi 237 rfl (wy_pr rfl) wt_237 wf_15_173 (n := 173) rfl ⟨(by omega), (by omega)⟩ ?_
        refine wa_aload_n (n := 0) rfl ?_
        refine wa_aload_n (n := 0) rfl ?_
        refine wb_gf4 237 rfl (wy_pr rfl) wt_237 wf_15_138 (v := 363) wl_237_138 ?_
        refine wa_aload_n (n := 0) rfl ?_
        refine wb_gfi 237 rfl (wy_pr rfl) wt_237 wf_15_173 (v := (2100 * t + ba)) (w_up_same _ _ _ _) (fun r36 => ?_)
        refine wb_iald 363 rfl (wy_pr rfl) wt_363 (n := 4200) ((w_up_slot (by decide)).trans ((w_up_slot (by decide)).trans ((w_up_slot (by decide)).trans ((ml_363 hM))))) (by omega) (by omega) (v := gk) ((w_up_slot (by decide)).trans ((w_up_slot (by decide)).trans ((w_up_slot (by decide)).trans (hgk)))) (fun r37 => ?_)
        refine wb_pfi 237 rfl (wy_pr rfl) wt_237 wf_15_174 (n := 174) rfl ⟨(by omega), (by omega)⟩ ?_
        refine wa_aload_n (n := 0) rfl ?_
        refine wa_aload_n (n := 0) rfl ?_
        refine wb_gf4 237 rfl (wy_pr rfl) wt_237 wf_15_139 (v := 364) wl_237_139 ?_
        refine wa_aload_n (n := 0) rfl ?_
        refine wb_gfi 237 rfl (wy_pr rfl) wt_237 wf_15_173 (v := (2100 * t + ba)) ((w_up_at (by decide)).trans (w_up_same _ _ _ _)) (fun r38 => ?_)
        refine wb_lald 364 rfl (wy_pr rfl) wt_364 (n := 4200) ((w_up_slot (by decide)).trans ((w_up_slot (by decide)).trans ((w_up_slot (by decide)).trans ((w_up_slot (by decide)).trans ((ml_364 hM)))))) (by omega) (by omega) (v := gb) ((w_up_slot (by decide)).trans ((w_up_slot (by decide)).trans ((w_up_slot (by decide)).trans ((w_up_slot (by decide)).trans (hgb))))) (fun r39 => ?_)
        refine wb_pfl 237 rfl (wy_pr rfl) wt_237 wf_15_175 (n := 175) rfl ⟨(by omega), (by omega)⟩ ?_
        refine wa_aload_n (n := 0) rfl ?_
        refine wa_iconst ?_
        refine wb_pfi 237 rfl (wy_pr rfl) wt_237 wf_15_177 (n := 177) rfl ⟨(by omega), (by omega)⟩ ?_
        refine wa_iload_n (n := 2) rfl ?_
        refine wa_iconst ?_
        refine wa_icmpeq (w_rg0 (by omega) (by omega)) (w_rg0 (by omega) (by omega)) ⟨_, rfl⟩ (fun c40 => ?_) (fun c40 => ?_)
        · skip
          refine wa_iconst ?_
          refine wa_goto ⟨_, rfl⟩ ?_
          refine wa_istore_n (n := 3) rfl ?_
          refine wa_iload_n (n := 3) rfl ?_
          refine wa_ifeq (w_rg0 (by omega) (by omega)) ⟨_, rfl⟩ (fun c41 => ?_) (fun c41 => ?_)
          · skip
            exact absurd c41 (by omega)
          · skip
            refine wa_aload_n (n := 0) rfl ?_
            refine wa_aload_n (n := 0) rfl ?_
            refine wb_gfi 237 rfl (wy_pr rfl) wt_237 wf_15_174 (v := gk) ((w_up_at (by decide)).trans ((w_up_at (by decide)).trans (w_up_same _ _ _ _))) (fun r42 => ?_)
            refine wa_cv 237 rfl (wy_pr rfl) wt_237 (M2 := fun _ => False) rfl at_M_hasShape ⟨_, rfl⟩ rfl rfl ⟨trivial, trivial, (Or.inr ⟨wy_pr rfl, fun q => q⟩), trivial, trivial⟩ trivial (fun _ _ q => False.elim q) ?_ (fun _ _ _ q => q)
            refine wa_iload_n (n := 1) rfl ?_
            refine wa_iconst ?_
            refine wa_icmpeq (w_rg0 (by omega) (by omega)) (w_rg0 (by omega) (by omega)) ⟨_, rfl⟩ (fun c43 => ?_) (fun c43 => ?_)
            · skip
              refine wa_iconst ?_
              refine wa_goto ⟨_, rfl⟩ ?_
              refine wa_zreturn rfl (Or.inr rfl) ?_
              show wJ _ _ _ _ _ _ _ _ _ _
              refine wa_ifeq (w_rg0 (by omega) (by omega)) ⟨_, rfl⟩ (fun c44 => ?_) (fun c44 => ?_)
              · skip
                exact absurd c44 (by omega)
              · skip
                exfalso; omega
            · skip
              refine wa_iload_n (n := 1) rfl ?_
              refine wa_iconst ?_
              refine wa_icmpne (w_rg0 (by omega) (by omega)) (w_rg0 (by omega) (by omega)) ⟨_, rfl⟩ (fun c45 => ?_) (fun c45 => ?_)
              · skip
                refine wa_iconst ?_
                refine wa_fall ⟨_, rfl⟩ ?_
                refine wa_zreturn rfl (Or.inl rfl) ?_
                show wJ _ _ _ _ _ _ _ _ _ _
                refine wa_ifeq (w_rg0 (by omega) (by omega)) ⟨_, rfl⟩ (fun c46 => ?_) (fun c46 => ?_)
                · skip
                  refine wa_iconst ?_
                  refine wa_istore (n := 4) rfl ?_
                  refine wa_iconst ?_
                  refine wa_istore (n := 5) rfl ?_
                  refine wa_fall ⟨_, rfl⟩ ?_
                  have eel : el = 1 := by rw [hel]; first | exact if_pos (by omega) | exact if_neg (by omega)
                  exact wJ_S hk ⟨rfl, rfl, rfl, by rw [eel]; rfl, rfl, rfl, trivial⟩
                · skip
                  exact absurd c46 (by omega)
              · skip
                refine wa_fall ⟨_, rfl⟩ ?_
                refine wa_iconst ?_
                refine wa_goto ⟨_, rfl⟩ ?_
                refine wa_zreturn rfl (Or.inr rfl) ?_
                show wJ _ _ _ _ _ _ _ _ _ _
                refine wa_ifeq (w_rg0 (by omega) (by omega)) ⟨_, rfl⟩ (fun c47 => ?_) (fun c47 => ?_)
                · skip
                  exact absurd c47 (by omega)
                · skip
                  exfalso; omega
        · skip
          refine wa_iload_n (n := 2) rfl ?_
          refine wa_iconst ?_
          refine wa_icmpne (w_rg0 (by omega) (by omega)) (w_rg0 (by omega) (by omega)) ⟨_, rfl⟩ (fun c48 => ?_) (fun c48 => ?_)
          · skip
            refine wa_iconst ?_
            refine wa_fall ⟨_, rfl⟩ ?_
            refine wa_istore_n (n := 3) rfl ?_
            refine wa_iload_n (n := 3) rfl ?_
            refine wa_ifeq (w_rg0 (by omega) (by omega)) ⟨_, rfl⟩ (fun c49 => ?_) (fun c49 => ?_)
            · skip
              refine wa_iconst ?_
              refine wa_istore (n := 4) rfl ?_
              refine wa_iconst ?_
              refine wa_istore (n := 5) rfl ?_
              refine wa_fall ⟨_, rfl⟩ ?_
              have eel : el = 0 := by rw [hel]; first | exact if_pos (by omega) | exact if_neg (by omega)
              exact wJ_S hk ⟨rfl, rfl, rfl, by rw [eel]; rfl, rfl, rfl, trivial⟩
            · skip
              exact absurd c49 (by omega)
          · skip
            refine wa_fall ⟨_, rfl⟩ ?_
            refine wa_iconst ?_
            refine wa_goto ⟨_, rfl⟩ ?_
            refine wa_istore_n (n := 3) rfl ?_
            refine wa_iload_n (n := 3) rfl ?_
            refine wa_ifeq (w_rg0 (by omega) (by omega)) ⟨_, rfl⟩ (fun c50 => ?_) (fun c50 => ?_)
            · skip
              exact absurd c50 (by omega)
            · skip
              refine wa_aload_n (n := 0) rfl ?_
              refine wa_aload_n (n := 0) rfl ?_
              refine wb_gfi 237 rfl (wy_pr rfl) wt_237 wf_15_174 (v := gk) ((w_up_at (by decide)).trans ((w_up_at (by decide)).trans (w_up_same _ _ _ _))) (fun r51 => ?_)
              refine wa_cv 237 rfl (wy_pr rfl) wt_237 (M2 := fun _ => False) rfl at_M_hasShape ⟨_, rfl⟩ rfl rfl ⟨trivial, trivial, (Or.inr ⟨wy_pr rfl, fun q => q⟩), trivial, trivial⟩ trivial (fun _ _ q => False.elim q) ?_ (fun _ _ _ q => q)
              refine wa_iload_n (n := 1) rfl ?_
              refine wa_iconst ?_
              refine wa_icmpeq (w_rg0 (by omega) (by omega)) (w_rg0 (by omega) (by omega)) ⟨_, rfl⟩ (fun c52 => ?_) (fun c52 => ?_)
              · skip
                refine wa_iconst ?_
                refine wa_goto ⟨_, rfl⟩ ?_
                refine wa_zreturn rfl (Or.inr rfl) ?_
                show wJ _ _ _ _ _ _ _ _ _ _
                refine wa_ifeq (w_rg0 (by omega) (by omega)) ⟨_, rfl⟩ (fun c53 => ?_) (fun c53 => ?_)
                · skip
                  exact absurd c53 (by omega)
                · skip
                  exfalso; omega
              · skip
                refine wa_iload_n (n := 1) rfl ?_
                refine wa_iconst ?_
                refine wa_icmpne (w_rg0 (by omega) (by omega)) (w_rg0 (by omega) (by omega)) ⟨_, rfl⟩ (fun c54 => ?_) (fun c54 => ?_)
                · skip
                  refine wa_iconst ?_
                  refine wa_fall ⟨_, rfl⟩ ?_
                  refine wa_zreturn rfl (Or.inl rfl) ?_
                  show wJ _ _ _ _ _ _ _ _ _ _
                  refine wa_ifeq (w_rg0 (by omega) (by omega)) ⟨_, rfl⟩ (fun c55 => ?_) (fun c55 => ?_)
                  · skip
                    refine wa_iconst ?_
                    refine wa_istore (n := 4) rfl ?_
                    refine wa_iconst ?_
                    refine wa_istore (n := 5) rfl ?_
                    refine wa_fall ⟨_, rfl⟩ ?_
                    have eel : el = 1 := by rw [hel]; first | exact if_pos (by omega) | exact if_neg (by omega)
                    exact wJ_S hk ⟨rfl, rfl, rfl, by rw [eel]; rfl, rfl, rfl, trivial⟩
                  · skip
                    exact absurd c55 (by omega)
                · skip
                  refine wa_fall ⟨_, rfl⟩ ?_
                  refine wa_iconst ?_
                  refine wa_goto ⟨_, rfl⟩ ?_
                  refine wa_zreturn rfl (Or.inr rfl) ?_
                  show wJ _ _ _ _ _ _ _ _ _ _
                  refine wa_ifeq (w_rg0 (by omega) (by omega)) ⟨_, rfl⟩ (fun c56 => ?_) (fun c56 => ?_)
                  · skip
                    exact absurd c56 (by omega)
                  · skip
                    exfalso; omega
    · skip
      refine wa_iconst ?_
      refine wa_goto ⟨_, rfl⟩ ?_
      have ee0 : 1 = e0 := by rw [he0]; first | exact (if_pos (by omega)).symm | exact ((if_neg (by omega)).trans (if_pos (by omega))).symm | exact ((if_neg (by omega)).trans (if_neg (by omega))).symm
      refine wJ_top ee0 ?_
      have he0r : 0 ≤ e0 ∧ e0 ≤ 255 := by omega
      refine wb_pfi 237 rfl (wy_pr rfl) wt_237 wf_15_176 (n := 176) rfl ⟨(by omega), (by omega)⟩ ?_
      refine wa_aload_n (n := 0) rfl ?_
      refine wa_iload_n (n := 2) rfl ?_
      refine wa_iconst ?_
      refine wa_icmpne (w_rg0 (by omega) (by omega)) (w_rg0 (by omega) (by omega)) ⟨_, rfl⟩ (fun c57 => ?_) (fun c57 => ?_)
      · skip
        refine wa_aload_n (n := 0) rfl ?_
        refine wb_gfi 237 rfl (wy_pr rfl) wt_237 wf_15_176 (v := e0) (w_up_same _ _ _ _) (fun r58 => ?_)
        refine wa_fall ⟨_, rfl⟩ ?_
        have ees : e0 = es := by rw [hes]; first | exact (if_pos (by omega)).symm | exact (if_neg (by omega)).symm
        refine wJ_top ees ?_
        have hesr : 0 ≤ es ∧ es ≤ 255 := by omega
        refine wb_pfi 237 rfl (wy_pr rfl) wt_237 wf_15_176 (n := 176) rfl ⟨(by omega), (by omega)⟩ ?_
        refine wa_aload_n (n := 0) rfl ?_
        refine wa_aload_n (n := 0) rfl ?_
        refine wa_cv 237 rfl (wy_pr rfl) wt_237 (M2 := fun _ => False) rfl at_M_h ⟨_, rfl⟩ rfl rfl ⟨trivial, (Or.inr ⟨wy_pr rfl, fun q => q⟩), trivial, trivial⟩ ⟨(Or.inr ⟨wy_pr rfl, fun q => q⟩), trivial⟩ (fun _ _ q => False.elim q) ?_ (fun _ _ _ q => q)
        refine wa_aload_n (n := 0) rfl ?_
        refine wb_gfi 237 rfl (wy_pr rfl) wt_237 wf_15_152 (v := (2100 * t)) ((w_up_at (by decide)).trans ((w_up_at (by decide)).trans (mp))) (fun r59 => ?_)
        refine wa_aload_n (n := 0) rfl ?_
        refine wb_gf4 237 rfl (wy_pr rfl) wt_237 wf_15_134 (v := 359) wl_237_134 ?_
        refine wa_aload_n (n := 0) rfl ?_
        refine wb_gfi 237 rfl (wy_pr rfl) wt_237 wf_15_151 (v := t) ((w_up_at (by decide)).trans ((w_up_at (by decide)).trans (mt))) (fun r60 => ?_)
        refine wb_iald 359 rfl (wy_pr rfl) wt_359 (n := 2) ((w_up_slot (by decide)).trans ((w_up_slot (by decide)).trans ((ml_359 hM)))) (by omega) (by omega) (v := h) ((w_up_slot (by decide)).trans ((w_up_slot (by decide)).trans (mh))) (fun r61 => ?_)
        refine wa_iadd ?_
        refine wa_ireturn rfl ?_
        show wJ _ _ _ _ _ _ _ _ _ _
        refine wa_iconst ?_
        refine wa_isub ?_
        refine wa_aload_n (n := 0) rfl ?_
        refine wb_gfi 237 rfl (wy_pr rfl) wt_237 wf_15_176 (v := es) (w_up_same _ _ _ _) (fun r62 => ?_)
        refine wa_isub ?_
        rw [show ((((2100 * t) + h) - 1) - es) = 2100 * t + ba by omega]
        refine wb_pfi 237 rfl (wy_pr rfl) wt_237 wf_15_173 (n := 173) rfl ⟨(by omega), (by omega)⟩ ?_
        refine wa_aload_n (n := 0) rfl ?_
        refine wa_aload_n (n := 0) rfl ?_
        refine wb_gf4 237 rfl (wy_pr rfl) wt_237 wf_15_138 (v := 363) wl_237_138 ?_
        refine wa_aload_n (n := 0) rfl ?_
        refine wb_gfi 237 rfl (wy_pr rfl) wt_237 wf_15_173 (v := (2100 * t + ba)) (w_up_same _ _ _ _) (fun r63 => ?_)
        refine wb_iald 363 rfl (wy_pr rfl) wt_363 (n := 4200) ((w_up_slot (by decide)).trans ((w_up_slot (by decide)).trans ((w_up_slot (by decide)).trans ((ml_363 hM))))) (by omega) (by omega) (v := gk) ((w_up_slot (by decide)).trans ((w_up_slot (by decide)).trans ((w_up_slot (by decide)).trans (hgk)))) (fun r64 => ?_)
        refine wb_pfi 237 rfl (wy_pr rfl) wt_237 wf_15_174 (n := 174) rfl ⟨(by omega), (by omega)⟩ ?_
        refine wa_aload_n (n := 0) rfl ?_
        refine wa_aload_n (n := 0) rfl ?_
        refine wb_gf4 237 rfl (wy_pr rfl) wt_237 wf_15_139 (v := 364) wl_237_139 ?_
        refine wa_aload_n (n := 0) rfl ?_
        refine wb_gfi 237 rfl (wy_pr rfl) wt_237 wf_15_173 (v := (2100 * t + ba)) ((w_up_at (by decide)).trans (w_up_same _ _ _ _)) (fun r65 => ?_)
        refine wb_lald 364 rfl (wy_pr rfl) wt_364 (n := 4200) ((w_up_slot (by decide)).trans ((w_up_slot (by decide)).trans ((w_up_slot (by decide)).trans ((w_up_slot (by decide)).trans ((ml_364 hM)))))) (by omega) (by omega) (v := gb) ((w_up_slot (by decide)).trans ((w_up_slot (by decide)).trans ((w_up_slot (by decide)).trans ((w_up_slot (by decide)).trans (hgb))))) (fun r66 => ?_)
        refine wb_pfl 237 rfl (wy_pr rfl) wt_237 wf_15_175 (n := 175) rfl ⟨(by omega), (by omega)⟩ ?_
        refine wa_aload_n (n := 0) rfl ?_
        refine wa_iconst ?_
        refine wb_pfi 237 rfl (wy_pr rfl) wt_237 wf_15_177 (n := 177) rfl ⟨(by omega), (by omega)⟩ ?_
        refine wa_iload_n (n := 2) rfl ?_
        refine wa_iconst ?_
        refine wa_icmpeq (w_rg0 (by omega) (by omega)) (w_rg0 (by omega) (by omega)) ⟨_, rfl⟩ (fun c67 => ?_) (fun c67 => ?_)
        · skip
          refine wa_iconst ?_
          refine wa_goto ⟨_, rfl⟩ ?_
          refine wa_istore_n (n := 3) rfl ?_
          refine wa_iload_n (n := 3) rfl ?_
          refine wa_ifeq (w_rg0 (by omega) (by omega)) ⟨_, rfl⟩ (fun c68 => ?_) (fun c68 => ?_)
          · skip
            exact absurd c68 (by omega)
          · skip
            refine wa_aload_n (n := 0) rfl ?_
            refine wa_aload_n (n := 0) rfl ?_
            refine wb_gfi 237 rfl (wy_pr rfl) wt_237 wf_15_174 (v := gk) ((w_up_at (by decide)).trans ((w_up_at (by decide)).trans (w_up_same _ _ _ _))) (fun r69 => ?_)
            refine wa_cv 237 rfl (wy_pr rfl) wt_237 (M2 := fun _ => False) rfl at_M_hasShape ⟨_, rfl⟩ rfl rfl ⟨trivial, trivial, (Or.inr ⟨wy_pr rfl, fun q => q⟩), trivial, trivial⟩ trivial (fun _ _ q => False.elim q) ?_ (fun _ _ _ q => q)
            refine wa_iload_n (n := 1) rfl ?_
            refine wa_iconst ?_
            refine wa_icmpeq (w_rg0 (by omega) (by omega)) (w_rg0 (by omega) (by omega)) ⟨_, rfl⟩ (fun c70 => ?_) (fun c70 => ?_)
            · skip
              refine wa_iconst ?_
              refine wa_goto ⟨_, rfl⟩ ?_
              refine wa_zreturn rfl (Or.inr rfl) ?_
              show wJ _ _ _ _ _ _ _ _ _ _
              refine wa_ifeq (w_rg0 (by omega) (by omega)) ⟨_, rfl⟩ (fun c71 => ?_) (fun c71 => ?_)
              · skip
                exact absurd c71 (by omega)
              · skip
                exfalso; omega
            · skip
              refine wa_iload_n (n := 1) rfl ?_
              refine wa_iconst ?_
              refine wa_icmpne (w_rg0 (by omega) (by omega)) (w_rg0 (by omega) (by omega)) ⟨_, rfl⟩ (fun c72 => ?_) (fun c72 => ?_)
              · skip
                refine wa_iconst ?_
                refine wa_fall ⟨_, rfl⟩ ?_
                refine wa_zreturn rfl (Or.inl rfl) ?_
                show wJ _ _ _ _ _ _ _ _ _ _
                refine wa_ifeq (w_rg0 (by omega) (by omega)) ⟨_, rfl⟩ (fun c73 => ?_) (fun c73 => ?_)
                · skip
                  refine wa_iconst ?_
                  refine wa_istore (n := 4) rfl ?_
                  refine wa_iconst ?_
                  refine wa_istore (n := 5) rfl ?_
                  refine wa_fall ⟨_, rfl⟩ ?_
                  have eel : el = 1 := by rw [hel]; first | exact if_pos (by omega) | exact if_neg (by omega)
                  exact wJ_S hk ⟨rfl, rfl, rfl, by rw [eel]; rfl, rfl, rfl, trivial⟩
                · skip
                  exact absurd c73 (by omega)
              · skip
                refine wa_fall ⟨_, rfl⟩ ?_
                refine wa_iconst ?_
                refine wa_goto ⟨_, rfl⟩ ?_
                refine wa_zreturn rfl (Or.inr rfl) ?_
                show wJ _ _ _ _ _ _ _ _ _ _
                refine wa_ifeq (w_rg0 (by omega) (by omega)) ⟨_, rfl⟩ (fun c74 => ?_) (fun c74 => ?_)
                · skip
                  exact absurd c74 (by omega)
                · skip
                  exfalso; omega
        · skip
          refine wa_iload_n (n := 2) rfl ?_
          refine wa_iconst ?_
          refine wa_icmpne (w_rg0 (by omega) (by omega)) (w_rg0 (by omega) (by omega)) ⟨_, rfl⟩ (fun c75 => ?_) (fun c75 => ?_)
          · skip
            refine wa_iconst ?_
            refine wa_fall ⟨_, rfl⟩ ?_
            refine wa_istore_n (n := 3) rfl ?_
            refine wa_iload_n (n := 3) rfl ?_
            refine wa_ifeq (w_rg0 (by omega) (by omega)) ⟨_, rfl⟩ (fun c76 => ?_) (fun c76 => ?_)
            · skip
              refine wa_iconst ?_
              refine wa_istore (n := 4) rfl ?_
              refine wa_iconst ?_
              refine wa_istore (n := 5) rfl ?_
              refine wa_fall ⟨_, rfl⟩ ?_
              have eel : el = 0 := by rw [hel]; first | exact if_pos (by omega) | exact if_neg (by omega)
              exact wJ_S hk ⟨rfl, rfl, rfl, by rw [eel]; rfl, rfl, rfl, trivial⟩
            · skip
              exact absurd c76 (by omega)
          · skip
            refine wa_fall ⟨_, rfl⟩ ?_
            refine wa_iconst ?_
            refine wa_goto ⟨_, rfl⟩ ?_
            refine wa_istore_n (n := 3) rfl ?_
            refine wa_iload_n (n := 3) rfl ?_
            refine wa_ifeq (w_rg0 (by omega) (by omega)) ⟨_, rfl⟩ (fun c77 => ?_) (fun c77 => ?_)
            · skip
              exact absurd c77 (by omega)
            · skip
              refine wa_aload_n (n := 0) rfl ?_
              refine wa_aload_n (n := 0) rfl ?_
              refine wb_gfi 237 rfl (wy_pr rfl) wt_237 wf_15_174 (v := gk) ((w_up_at (by decide)).trans ((w_up_at (by decide)).trans (w_up_same _ _ _ _))) (fun r78 => ?_)
              refine wa_cv 237 rfl (wy_pr rfl) wt_237 (M2 := fun _ => False) rfl at_M_hasShape ⟨_, rfl⟩ rfl rfl ⟨trivial, trivial, (Or.inr ⟨wy_pr rfl, fun q => q⟩), trivial, trivial⟩ trivial (fun _ _ q => False.elim q) ?_ (fun _ _ _ q => q)
              refine wa_iload_n (n := 1) rfl ?_
              refine wa_iconst ?_
              refine wa_icmpeq (w_rg0 (by omega) (by omega)) (w_rg0 (by omega) (by omega)) ⟨_, rfl⟩ (fun c79 => ?_) (fun c79 => ?_)
              · skip
                refine wa_iconst ?_
                refine wa_goto ⟨_, rfl⟩ ?_
                refine wa_zreturn rfl (Or.inr rfl) ?_
                show wJ _ _ _ _ _ _ _ _ _ _
                refine wa_ifeq (w_rg0 (by omega) (by omega)) ⟨_, rfl⟩ (fun c80 => ?_) (fun c80 => ?_)
                · skip
                  exact absurd c80 (by omega)
                · skip
                  exfalso; omega
              · skip
                refine wa_iload_n (n := 1) rfl ?_
                refine wa_iconst ?_
                refine wa_icmpne (w_rg0 (by omega) (by omega)) (w_rg0 (by omega) (by omega)) ⟨_, rfl⟩ (fun c81 => ?_) (fun c81 => ?_)
                · skip
                  refine wa_iconst ?_
                  refine wa_fall ⟨_, rfl⟩ ?_
                  refine wa_zreturn rfl (Or.inl rfl) ?_
                  show wJ _ _ _ _ _ _ _ _ _ _
                  refine wa_ifeq (w_rg0 (by omega) (by omega)) ⟨_, rfl⟩ (fun c82 => ?_) (fun c82 => ?_)
                  · skip
                    refine wa_iconst ?_
                    refine wa_istore (n := 4) rfl ?_
                    refine wa_iconst ?_
                    refine wa_istore (n := 5) rfl ?_
                    refine wa_fall ⟨_, rfl⟩ ?_
                    have eel : el = 1 := by rw [hel]; first | exact if_pos (by omega) | exact if_neg (by omega)
                    exact wJ_S hk ⟨rfl, rfl, rfl, by rw [eel]; rfl, rfl, rfl, trivial⟩
                  · skip
                    exact absurd c82 (by omega)
                · skip
                  refine wa_fall ⟨_, rfl⟩ ?_
                  refine wa_iconst ?_
                  refine wa_goto ⟨_, rfl⟩ ?_
                  refine wa_zreturn rfl (Or.inr rfl) ?_
                  show wJ _ _ _ _ _ _ _ _ _ _
                  refine wa_ifeq (w_rg0 (by omega) (by omega)) ⟨_, rfl⟩ (fun c83 => ?_) (fun c83 => ?_)
                  · skip
                    exact absurd c83 (by omega)
                  · skip
                    exfalso; omega
      · skip
        refine wa_iconst ?_
        refine wa_goto ⟨_, rfl⟩ ?_
        have ees : 2 = es := by rw [hes]; first | exact (if_pos (by omega)).symm | exact (if_neg (by omega)).symm
        refine wJ_top ees ?_
        have hesr : 0 ≤ es ∧ es ≤ 255 := by omega
        refine wb_pfi 237 rfl (wy_pr rfl) wt_237 wf_15_176 (n := 176) rfl ⟨(by omega), (by omega)⟩ ?_
        refine wa_aload_n (n := 0) rfl ?_
        refine wa_aload_n (n := 0) rfl ?_
        refine wa_cv 237 rfl (wy_pr rfl) wt_237 (M2 := fun _ => False) rfl at_M_h ⟨_, rfl⟩ rfl rfl ⟨trivial, (Or.inr ⟨wy_pr rfl, fun q => q⟩), trivial, trivial⟩ ⟨(Or.inr ⟨wy_pr rfl, fun q => q⟩), trivial⟩ (fun _ _ q => False.elim q) ?_ (fun _ _ _ q => q)
        refine wa_aload_n (n := 0) rfl ?_
        refine wb_gfi 237 rfl (wy_pr rfl) wt_237 wf_15_152 (v := (2100 * t)) ((w_up_at (by decide)).trans ((w_up_at (by decide)).trans (mp))) (fun r84 => ?_)
        refine wa_aload_n (n := 0) rfl ?_
        refine wb_gf4 237 rfl (wy_pr rfl) wt_237 wf_15_134 (v := 359) wl_237_134 ?_
        refine wa_aload_n (n := 0) rfl ?_
        refine wb_gfi 237 rfl (wy_pr rfl) wt_237 wf_15_151 (v := t) ((w_up_at (by decide)).trans ((w_up_at (by decide)).trans (mt))) (fun r85 => ?_)
        refine wb_iald 359 rfl (wy_pr rfl) wt_359 (n := 2) ((w_up_slot (by decide)).trans ((w_up_slot (by decide)).trans ((ml_359 hM)))) (by omega) (by omega) (v := h) ((w_up_slot (by decide)).trans ((w_up_slot (by decide)).trans (mh))) (fun r86 => ?_)
        refine wa_iadd ?_
        refine wa_ireturn rfl ?_
        show wJ _ _ _ _ _ _ _ _ _ _
        refine wa_iconst ?_
        refine wa_isub ?_
        refine wa_aload_n (n := 0) rfl ?_
        refine wb_gfi 237 rfl (wy_pr rfl) wt_237 wf_15_176 (v := es) (w_up_same _ _ _ _) (fun r87 => ?_)
        refine wa_isub ?_
        rw [show ((((2100 * t) + h) - 1) - es) = 2100 * t + ba by omega]
        refine wb_pfi 237 rfl (wy_pr rfl) wt_237 wf_15_173 (n := 173) rfl ⟨(by omega), (by omega)⟩ ?_
        refine wa_aload_n (n := 0) rfl ?_
        refine wa_aload_n (n := 0) rfl ?_
        refine wb_gf4 237 rfl (wy_pr rfl) wt_237 wf_15_138 (v := 363) wl_237_138 ?_
        refine wa_aload_n (n := 0) rfl ?_
        refine wb_gfi 237 rfl (wy_pr rfl) wt_237 wf_15_173 (v := (2100 * t + ba)) (w_up_same _ _ _ _) (fun r88 => ?_)
        refine wb_iald 363 rfl (wy_pr rfl) wt_363 (n := 4200) ((w_up_slot (by decide)).trans ((w_up_slot (by decide)).trans ((w_up_slot (by decide)).trans ((ml_363 hM))))) (by omega) (by omega) (v := gk) ((w_up_slot (by decide)).trans ((w_up_slot (by decide)).trans ((w_up_slot (by decide)).trans (hgk)))) (fun r89 => ?_)
        refine wb_pfi 237 rfl (wy_pr rfl) wt_237 wf_15_174 (n := 174) rfl ⟨(by omega), (by omega)⟩ ?_
        refine wa_aload_n (n := 0) rfl ?_
        refine wa_aload_n (n := 0) rfl ?_
        refine wb_gf4 237 rfl (wy_pr rfl) wt_237 wf_15_139 (v := 364) wl_237_139 ?_
        refine wa_aload_n (n := 0) rfl ?_
        refine wb_gfi 237 rfl (wy_pr rfl) wt_237 wf_15_173 (v := (2100 * t + ba)) ((w_up_at (by decide)).trans (w_up_same _ _ _ _)) (fun r90 => ?_)
        refine wb_lald 364 rfl (wy_pr rfl) wt_364 (n := 4200) ((w_up_slot (by decide)).trans ((w_up_slot (by decide)).trans ((w_up_slot (by decide)).trans ((w_up_slot (by decide)).trans ((ml_364 hM)))))) (by omega) (by omega) (v := gb) ((w_up_slot (by decide)).trans ((w_up_slot (by decide)).trans ((w_up_slot (by decide)).trans ((w_up_slot (by decide)).trans (hgb))))) (fun r91 => ?_)
        refine wb_pfl 237 rfl (wy_pr rfl) wt_237 wf_15_175 (n := 175) rfl ⟨(by omega), (by omega)⟩ ?_
        refine wa_aload_n (n := 0) rfl ?_
        refine wa_iconst ?_
        refine wb_pfi 237 rfl (wy_pr rfl) wt_237 wf_15_177 (n := 177) rfl ⟨(by omega), (by omega)⟩ ?_
        refine wa_iload_n (n := 2) rfl ?_
        refine wa_iconst ?_
        refine wa_icmpeq (w_rg0 (by omega) (by omega)) (w_rg0 (by omega) (by omega)) ⟨_, rfl⟩ (fun c92 => ?_) (fun c92 => ?_)
        · skip
          refine wa_iconst ?_
          refine wa_goto ⟨_, rfl⟩ ?_
          refine wa_istore_n (n := 3) rfl ?_
          refine wa_iload_n (n := 3) rfl ?_
          refine wa_ifeq (w_rg0 (by omega) (by omega)) ⟨_, rfl⟩ (fun c93 => ?_) (fun c93 => ?_)
          · skip
            exact absurd c93 (by omega)
          · skip
            refine wa_aload_n (n := 0) rfl ?_
            refine wa_aload_n (n := 0) rfl ?_
            refine wb_gfi 237 rfl (wy_pr rfl) wt_237 wf_15_174 (v := gk) ((w_up_at (by decide)).trans ((w_up_at (by decide)).trans (w_up_same _ _ _ _))) (fun r94 => ?_)
            refine wa_cv 237 rfl (wy_pr rfl) wt_237 (M2 := fun _ => False) rfl at_M_hasShape ⟨_, rfl⟩ rfl rfl ⟨trivial, trivial, (Or.inr ⟨wy_pr rfl, fun q => q⟩), trivial, trivial⟩ trivial (fun _ _ q => False.elim q) ?_ (fun _ _ _ q => q)
            refine wa_iload_n (n := 1) rfl ?_
            refine wa_iconst ?_
            refine wa_icmpeq (w_rg0 (by omega) (by omega)) (w_rg0 (by omega) (by omega)) ⟨_, rfl⟩ (fun c95 => ?_) (fun c95 => ?_)
            · skip
              refine wa_iconst ?_
              refine wa_goto ⟨_, rfl⟩ ?_
              refine wa_zreturn rfl (Or.inr rfl) ?_
              show wJ _ _ _ _ _ _ _ _ _ _
              refine wa_ifeq (w_rg0 (by omega) (by omega)) ⟨_, rfl⟩ (fun c96 => ?_) (fun c96 => ?_)
              · skip
                exact absurd c96 (by omega)
              · skip
                exfalso; omega
            · skip
              refine wa_iload_n (n := 1) rfl ?_
              refine wa_iconst ?_
              refine wa_icmpne (w_rg0 (by omega) (by omega)) (w_rg0 (by omega) (by omega)) ⟨_, rfl⟩ (fun c97 => ?_) (fun c97 => ?_)
              · skip
                refine wa_iconst ?_
                refine wa_fall ⟨_, rfl⟩ ?_
                refine wa_zreturn rfl (Or.inl rfl) ?_
                show wJ _ _ _ _ _ _ _ _ _ _
                refine wa_ifeq (w_rg0 (by omega) (by omega)) ⟨_, rfl⟩ (fun c98 => ?_) (fun c98 => ?_)
                · skip
                  refine wa_iconst ?_
                  refine wa_istore (n := 4) rfl ?_
                  refine wa_iconst ?_
                  refine wa_istore (n := 5) rfl ?_
                  refine wa_fall ⟨_, rfl⟩ ?_
                  have eel : el = 1 := by rw [hel]; first | exact if_pos (by omega) | exact if_neg (by omega)
                  exact wJ_S hk ⟨rfl, rfl, rfl, by rw [eel]; rfl, rfl, rfl, trivial⟩
                · skip
                  exact absurd c98 (by omega)
              · skip
                refine wa_fall ⟨_, rfl⟩ ?_
                refine wa_iconst ?_
                refine wa_goto ⟨_, rfl⟩ ?_
                refine wa_zreturn rfl (Or.inr rfl) ?_
                show wJ _ _ _ _ _ _ _ _ _ _
                refine wa_ifeq (w_rg0 (by omega) (by omega)) ⟨_, rfl⟩ (fun c99 => ?_) (fun c99 => ?_)
                · skip
                  exact absurd c99 (by omega)
                · skip
                  exfalso; omega
        · skip
          refine wa_iload_n (n := 2) rfl ?_
          refine wa_iconst ?_
          refine wa_icmpne (w_rg0 (by omega) (by omega)) (w_rg0 (by omega) (by omega)) ⟨_, rfl⟩ (fun c100 => ?_) (fun c100 => ?_)
          · skip
            refine wa_iconst ?_
            refine wa_fall ⟨_, rfl⟩ ?_
            refine wa_istore_n (n := 3) rfl ?_
            refine wa_iload_n (n := 3) rfl ?_
            refine wa_ifeq (w_rg0 (by omega) (by omega)) ⟨_, rfl⟩ (fun c101 => ?_) (fun c101 => ?_)
            · skip
              refine wa_iconst ?_
              refine wa_istore (n := 4) rfl ?_
              refine wa_iconst ?_
              refine wa_istore (n := 5) rfl ?_
              refine wa_fall ⟨_, rfl⟩ ?_
              have eel : el = 0 := by rw [hel]; first | exact if_pos (by omega) | exact if_neg (by omega)
              exact wJ_S hk ⟨rfl, rfl, rfl, by rw [eel]; rfl, rfl, rfl, trivial⟩
            · skip
              exact absurd c101 (by omega)
          · skip
            refine wa_fall ⟨_, rfl⟩ ?_
            refine wa_iconst ?_
            refine wa_goto ⟨_, rfl⟩ ?_
            refine wa_istore_n (n := 3) rfl ?_
            refine wa_iload_n (n := 3) rfl ?_
            refine wa_ifeq (w_rg0 (by omega) (by omega)) ⟨_, rfl⟩ (fun c102 => ?_) (fun c102 => ?_)
            · skip
              exact absurd c102 (by omega)
            · skip
              refine wa_aload_n (n := 0) rfl ?_
              refine wa_aload_n (n := 0) rfl ?_
              refine wb_gfi 237 rfl (wy_pr rfl) wt_237 wf_15_174 (v := gk) ((w_up_at (by decide)).trans ((w_up_at (by decide)).trans (w_up_same _ _ _ _))) (fun r103 => ?_)
              refine wa_cv 237 rfl (wy_pr rfl) wt_237 (M2 := fun _ => False) rfl at_M_hasShape ⟨_, rfl⟩ rfl rfl ⟨trivial, trivial, (Or.inr ⟨wy_pr rfl, fun q => q⟩), trivial, trivial⟩ trivial (fun _ _ q => False.elim q) ?_ (fun _ _ _ q => q)
              refine wa_iload_n (n := 1) rfl ?_
              refine wa_iconst ?_
              refine wa_icmpeq (w_rg0 (by omega) (by omega)) (w_rg0 (by omega) (by omega)) ⟨_, rfl⟩ (fun c104 => ?_) (fun c104 => ?_)
              · skip
                refine wa_iconst ?_
                refine wa_goto ⟨_, rfl⟩ ?_
                refine wa_zreturn rfl (Or.inr rfl) ?_
                show wJ _ _ _ _ _ _ _ _ _ _
                refine wa_ifeq (w_rg0 (by omega) (by omega)) ⟨_, rfl⟩ (fun c105 => ?_) (fun c105 => ?_)
                · skip
                  exact absurd c105 (by omega)
                · skip
                  exfalso; omega
              · skip
                refine wa_iload_n (n := 1) rfl ?_
                refine wa_iconst ?_
                refine wa_icmpne (w_rg0 (by omega) (by omega)) (w_rg0 (by omega) (by omega)) ⟨_, rfl⟩ (fun c106 => ?_) (fun c106 => ?_)
                · skip
                  refine wa_iconst ?_
                  refine wa_fall ⟨_, rfl⟩ ?_
                  refine wa_zreturn rfl (Or.inl rfl) ?_
                  show wJ _ _ _ _ _ _ _ _ _ _
                  refine wa_ifeq (w_rg0 (by omega) (by omega)) ⟨_, rfl⟩ (fun c107 => ?_) (fun c107 => ?_)
                  · skip
                    refine wa_iconst ?_
                    refine wa_istore (n := 4) rfl ?_
                    refine wa_iconst ?_
                    refine wa_istore (n := 5) rfl ?_
                    refine wa_fall ⟨_, rfl⟩ ?_
                    have eel : el = 1 := by rw [hel]; first | exact if_pos (by omega) | exact if_neg (by omega)
                    exact wJ_S hk ⟨rfl, rfl, rfl, by rw [eel]; rfl, rfl, rfl, trivial⟩
                  · skip
                    exact absurd c107 (by omega)
                · skip
                  refine wa_fall ⟨_, rfl⟩ ?_
                  refine wa_iconst ?_
                  refine wa_goto ⟨_, rfl⟩ ?_
                  refine wa_zreturn rfl (Or.inr rfl) ?_
                  show wJ _ _ _ _ _ _ _ _ _ _
                  refine wa_ifeq (w_rg0 (by omega) (by omega)) ⟨_, rfl⟩ (fun c108 => ?_) (fun c108 => ?_)
                  · skip
                    exact absurd c108 (by omega)
                  · skip
                    exfalso; omega
  · skip
    refine wa_iconst ?_
    refine wa_goto ⟨_, rfl⟩ ?_
    have ee0 : 0 = e0 := by rw [he0]; first | exact (if_pos (by omega)).symm | exact ((if_neg (by omega)).trans (if_pos (by omega))).symm | exact ((if_neg (by omega)).trans (if_neg (by omega))).symm
    refine wJ_top ee0 ?_
    have he0r : 0 ≤ e0 ∧ e0 ≤ 255 := by omega
    refine wb_pfi 237 rfl (wy_pr rfl) wt_237 wf_15_176 (n := 176) rfl ⟨(by omega), (by omega)⟩ ?_
    refine wa_aload_n (n := 0) rfl ?_
    refine wa_iload_n (n := 2) rfl ?_
    refine wa_iconst ?_
    refine wa_icmpne (w_rg0 (by omega) (by omega)) (w_rg0 (by omega) (by omega)) ⟨_, rfl⟩ (fun c109 => ?_) (fun c109 => ?_)
    · skip
      refine wa_aload_n (n := 0) rfl ?_
      refine wb_gfi 237 rfl (wy_pr rfl) wt_237 wf_15_176 (v := e0) (w_up_same _ _ _ _) (fun r110 => ?_)
      refine wa_fall ⟨_, rfl⟩ ?_
      have ees : e0 = es := by rw [hes]; first | exact (if_pos (by omega)).symm | exact (if_neg (by omega)).symm
      refine wJ_top ees ?_
      have hesr : 0 ≤ es ∧ es ≤ 255 := by omega
      refine wb_pfi 237 rfl (wy_pr rfl) wt_237 wf_15_176 (n := 176) rfl ⟨(by omega), (by omega)⟩ ?_
      refine wa_aload_n (n := 0) rfl ?_
      refine wa_aload_n (n := 0) rfl ?_
      refine wa_cv 237 rfl (wy_pr rfl) wt_237 (M2 := fun _ => False) rfl at_M_h ⟨_, rfl⟩ rfl rfl ⟨trivial, (Or.inr ⟨wy_pr rfl, fun q => q⟩), trivial, trivial⟩ ⟨(Or.inr ⟨wy_pr rfl, fun q => q⟩), trivial⟩ (fun _ _ q => False.elim q) ?_ (fun _ _ _ q => q)
      refine wa_aload_n (n := 0) rfl ?_
      refine wb_gfi 237 rfl (wy_pr rfl) wt_237 wf_15_152 (v := (2100 * t)) ((w_up_at (by decide)).trans ((w_up_at (by decide)).trans (mp))) (fun r111 => ?_)
      refine wa_aload_n (n := 0) rfl ?_
      refine wb_gf4 237 rfl (wy_pr rfl) wt_237 wf_15_134 (v := 359) wl_237_134 ?_
      refine wa_aload_n (n := 0) rfl ?_
      refine wb_gfi 237 rfl (wy_pr rfl) wt_237 wf_15_151 (v := t) ((w_up_at (by decide)).trans ((w_up_at (by decide)).trans (mt))) (fun r112 => ?_)
      refine wb_iald 359 rfl (wy_pr rfl) wt_359 (n := 2) ((w_up_slot (by decide)).trans ((w_up_slot (by decide)).trans ((ml_359 hM)))) (by omega) (by omega) (v := h) ((w_up_slot (by decide)).trans ((w_up_slot (by decide)).trans (mh))) (fun r113 => ?_)
      refine wa_iadd ?_
      refine wa_ireturn rfl ?_
      show wJ _ _ _ _ _ _ _ _ _ _
      refine wa_iconst ?_
      refine wa_isub ?_
      refine wa_aload_n (n := 0) rfl ?_
      refine wb_gfi 237 rfl (wy_pr rfl) wt_237 wf_15_176 (v := es) (w_up_same _ _ _ _) (fun r114 => ?_)
      refine wa_isub ?_
      rw [show ((((2100 * t) + h) - 1) - es) = 2100 * t + ba by omega]
      refine wb_pfi 237 rfl (wy_pr rfl) wt_237 wf_15_173 (n := 173) rfl ⟨(by omega), (by omega)⟩ ?_
      refine wa_aload_n (n := 0) rfl ?_
      refine wa_aload_n (n := 0) rfl ?_
      refine wb_gf4 237 rfl (wy_pr rfl) wt_237 wf_15_138 (v := 363) wl_237_138 ?_
      refine wa_aload_n (n := 0) rfl ?_
      refine wb_gfi 237 rfl (wy_pr rfl) wt_237 wf_15_173 (v := (2100 * t + ba)) (w_up_same _ _ _ _) (fun r115 => ?_)
      refine wb_iald 363 rfl (wy_pr rfl) wt_363 (n := 4200) ((w_up_slot (by decide)).trans ((w_up_slot (by decide)).trans ((w_up_slot (by decide)).trans ((ml_363 hM))))) (by omega) (by omega) (v := gk) ((w_up_slot (by decide)).trans ((w_up_slot (by decide)).trans ((w_up_slot (by decide)).trans (hgk)))) (fun r116 => ?_)
      refine wb_pfi 237 rfl (wy_pr rfl) wt_237 wf_15_174 (n := 174) rfl ⟨(by omega), (by omega)⟩ ?_
      refine wa_aload_n (n := 0) rfl ?_
      refine wa_aload_n (n := 0) rfl ?_
      refine wb_gf4 237 rfl (wy_pr rfl) wt_237 wf_15_139 (v := 364) wl_237_139 ?_
      refine wa_aload_n (n := 0) rfl ?_
      refine wb_gfi 237 rfl (wy_pr rfl) wt_237 wf_15_173 (v := (2100 * t + ba)) ((w_up_at (by decide)).trans (w_up_same _ _ _ _)) (fun r117 => ?_)
      refine wb_lald 364 rfl (wy_pr rfl) wt_364 (n := 4200) ((w_up_slot (by decide)).trans ((w_up_slot (by decide)).trans ((w_up_slot (by decide)).trans ((w_up_slot (by decide)).trans ((ml_364 hM)))))) (by omega) (by omega) (v := gb) ((w_up_slot (by decide)).trans ((w_up_slot (by decide)).trans ((w_up_slot (by decide)).trans ((w_up_slot (by decide)).trans (hgb))))) (fun r118 => ?_)
      refine wb_pfl 237 rfl (wy_pr rfl) wt_237 wf_15_175 (n := 175) rfl ⟨(by omega), (by omega)⟩ ?_
      refine wa_aload_n (n := 0) rfl ?_
      refine wa_iconst ?_
      refine wb_pfi 237 rfl (wy_pr rfl) wt_237 wf_15_177 (n := 177) rfl ⟨(by omega), (by omega)⟩ ?_
      refine wa_iload_n (n := 2) rfl ?_
      refine wa_iconst ?_
      refine wa_icmpeq (w_rg0 (by omega) (by omega)) (w_rg0 (by omega) (by omega)) ⟨_, rfl⟩ (fun c119 => ?_) (fun c119 => ?_)
      · skip
        refine wa_iconst ?_
        refine wa_goto ⟨_, rfl⟩ ?_
        refine wa_istore_n (n := 3) rfl ?_
        refine wa_iload_n (n := 3) rfl ?_
        refine wa_ifeq (w_rg0 (by omega) (by omega)) ⟨_, rfl⟩ (fun c120 => ?_) (fun c120 => ?_)
        · skip
          exact absurd c120 (by omega)
        · skip
          refine wa_aload_n (n := 0) rfl ?_
          refine wa_aload_n (n := 0) rfl ?_
          refine wb_gfi 237 rfl (wy_pr rfl) wt_237 wf_15_174 (v := gk) ((w_up_at (by decide)).trans ((w_up_at (by decide)).trans (w_up_same _ _ _ _))) (fun r121 => ?_)
          refine wa_cv 237 rfl (wy_pr rfl) wt_237 (M2 := fun _ => False) rfl at_M_hasShape ⟨_, rfl⟩ rfl rfl ⟨trivial, trivial, (Or.inr ⟨wy_pr rfl, fun q => q⟩), trivial, trivial⟩ trivial (fun _ _ q => False.elim q) ?_ (fun _ _ _ q => q)
          refine wa_iload_n (n := 1) rfl ?_
          refine wa_iconst ?_
          refine wa_icmpeq (w_rg0 (by omega) (by omega)) (w_rg0 (by omega) (by omega)) ⟨_, rfl⟩ (fun c122 => ?_) (fun c122 => ?_)
          · skip
            refine wa_iconst ?_
            refine wa_goto ⟨_, rfl⟩ ?_
            refine wa_zreturn rfl (Or.inr rfl) ?_
            show wJ _ _ _ _ _ _ _ _ _ _
            refine wa_ifeq (w_rg0 (by omega) (by omega)) ⟨_, rfl⟩ (fun c123 => ?_) (fun c123 => ?_)
            · skip
              exact absurd c123 (by omega)
            · skip
              exfalso; omega
          · skip
            refine wa_iload_n (n := 1) rfl ?_
            refine wa_iconst ?_
            refine wa_icmpne (w_rg0 (by omega) (by omega)) (w_rg0 (by omega) (by omega)) ⟨_, rfl⟩ (fun c124 => ?_) (fun c124 => ?_)
            · skip
              refine wa_iconst ?_
              refine wa_fall ⟨_, rfl⟩ ?_
              refine wa_zreturn rfl (Or.inl rfl) ?_
              show wJ _ _ _ _ _ _ _ _ _ _
              refine wa_ifeq (w_rg0 (by omega) (by omega)) ⟨_, rfl⟩ (fun c125 => ?_) (fun c125 => ?_)
              · skip
                refine wa_iconst ?_
                refine wa_istore (n := 4) rfl ?_
                refine wa_iconst ?_
                refine wa_istore (n := 5) rfl ?_
                refine wa_fall ⟨_, rfl⟩ ?_
                have eel : el = 1 := by rw [hel]; first | exact if_pos (by omega) | exact if_neg (by omega)
                exact wJ_S hk ⟨rfl, rfl, rfl, by rw [eel]; rfl, rfl, rfl, trivial⟩
              · skip
                exact absurd c125 (by omega)
            · skip
              refine wa_fall ⟨_, rfl⟩ ?_
              refine wa_iconst ?_
              refine wa_goto ⟨_, rfl⟩ ?_
              refine wa_zreturn rfl (Or.inr rfl) ?_
              show wJ _ _ _ _ _ _ _ _ _ _
              refine wa_ifeq (w_rg0 (by omega) (by omega)) ⟨_, rfl⟩ (fun c126 => ?_) (fun c126 => ?_)
              · skip
                exact absurd c126 (by omega)
              · skip
                exfalso; omega
      · skip
        refine wa_iload_n (n := 2) rfl ?_
        refine wa_iconst ?_
        refine wa_icmpne (w_rg0 (by omega) (by omega)) (w_rg0 (by omega) (by omega)) ⟨_, rfl⟩ (fun c127 => ?_) (fun c127 => ?_)
        · skip
          refine wa_iconst ?_
          refine wa_fall ⟨_, rfl⟩ ?_
          refine wa_istore_n (n := 3) rfl ?_
          refine wa_iload_n (n := 3) rfl ?_
          refine wa_ifeq (w_rg0 (by omega) (by omega)) ⟨_, rfl⟩ (fun c128 => ?_) (fun c128 => ?_)
          · skip
            refine wa_iconst ?_
            refine wa_istore (n := 4) rfl ?_
            refine wa_iconst ?_
            refine wa_istore (n := 5) rfl ?_
            refine wa_fall ⟨_, rfl⟩ ?_
            have eel : el = 0 := by rw [hel]; first | exact if_pos (by omega) | exact if_neg (by omega)
            exact wJ_S hk ⟨rfl, rfl, rfl, by rw [eel]; rfl, rfl, rfl, trivial⟩
          · skip
            exact absurd c128 (by omega)
        · skip
          refine wa_fall ⟨_, rfl⟩ ?_
          refine wa_iconst ?_
          refine wa_goto ⟨_, rfl⟩ ?_
          refine wa_istore_n (n := 3) rfl ?_
          refine wa_iload_n (n := 3) rfl ?_
          refine wa_ifeq (w_rg0 (by omega) (by omega)) ⟨_, rfl⟩ (fun c129 => ?_) (fun c129 => ?_)
          · skip
            exact absurd c129 (by omega)
          · skip
            refine wa_aload_n (n := 0) rfl ?_
            refine wa_aload_n (n := 0) rfl ?_
            refine wb_gfi 237 rfl (wy_pr rfl) wt_237 wf_15_174 (v := gk) ((w_up_at (by decide)).trans ((w_up_at (by decide)).trans (w_up_same _ _ _ _))) (fun r130 => ?_)
            refine wa_cv 237 rfl (wy_pr rfl) wt_237 (M2 := fun _ => False) rfl at_M_hasShape ⟨_, rfl⟩ rfl rfl ⟨trivial, trivial, (Or.inr ⟨wy_pr rfl, fun q => q⟩), trivial, trivial⟩ trivial (fun _ _ q => False.elim q) ?_ (fun _ _ _ q => q)
            refine wa_iload_n (n := 1) rfl ?_
            refine wa_iconst ?_
            refine wa_icmpeq (w_rg0 (by omega) (by omega)) (w_rg0 (by omega) (by omega)) ⟨_, rfl⟩ (fun c131 => ?_) (fun c131 => ?_)
            · skip
              refine wa_iconst ?_
              refine wa_goto ⟨_, rfl⟩ ?_
              refine wa_zreturn rfl (Or.inr rfl) ?_
              show wJ _ _ _ _ _ _ _ _ _ _
              refine wa_ifeq (w_rg0 (by omega) (by omega)) ⟨_, rfl⟩ (fun c132 => ?_) (fun c132 => ?_)
              · skip
                exact absurd c132 (by omega)
              · skip
                exfalso; omega
            · skip
              refine wa_iload_n (n := 1) rfl ?_
              refine wa_iconst ?_
              refine wa_icmpne (w_rg0 (by omega) (by omega)) (w_rg0 (by omega) (by omega)) ⟨_, rfl⟩ (fun c133 => ?_) (fun c133 => ?_)
              · skip
                refine wa_iconst ?_
                refine wa_fall ⟨_, rfl⟩ ?_
                refine wa_zreturn rfl (Or.inl rfl) ?_
                show wJ _ _ _ _ _ _ _ _ _ _
                refine wa_ifeq (w_rg0 (by omega) (by omega)) ⟨_, rfl⟩ (fun c134 => ?_) (fun c134 => ?_)
                · skip
                  refine wa_iconst ?_
                  refine wa_istore (n := 4) rfl ?_
                  refine wa_iconst ?_
                  refine wa_istore (n := 5) rfl ?_
                  refine wa_fall ⟨_, rfl⟩ ?_
                  have eel : el = 1 := by rw [hel]; first | exact if_pos (by omega) | exact if_neg (by omega)
                  exact wJ_S hk ⟨rfl, rfl, rfl, by rw [eel]; rfl, rfl, rfl, trivial⟩
                · skip
                  exact absurd c134 (by omega)
              · skip
                refine wa_fall ⟨_, rfl⟩ ?_
                refine wa_iconst ?_
                refine wa_goto ⟨_, rfl⟩ ?_
                refine wa_zreturn rfl (Or.inr rfl) ?_
                show wJ _ _ _ _ _ _ _ _ _ _
                refine wa_ifeq (w_rg0 (by omega) (by omega)) ⟨_, rfl⟩ (fun c135 => ?_) (fun c135 => ?_)
                · skip
                  exact absurd c135 (by omega)
                · skip
                  exfalso; omega
    · skip
      refine wa_iconst ?_
      refine wa_goto ⟨_, rfl⟩ ?_
      have ees : 2 = es := by rw [hes]; first | exact (if_pos (by omega)).symm | exact (if_neg (by omega)).symm
      refine wJ_top ees ?_
      have hesr : 0 ≤ es ∧ es ≤ 255 := by omega
      refine wb_pfi 237 rfl (wy_pr rfl) wt_237 wf_15_176 (n := 176) rfl ⟨(by omega), (by omega)⟩ ?_
      refine wa_aload_n (n := 0) rfl ?_
      refine wa_aload_n (n := 0) rfl ?_
      refine wa_cv 237 rfl (wy_pr rfl) wt_237 (M2 := fun _ => False) rfl at_M_h ⟨_, rfl⟩ rfl rfl ⟨trivial, (Or.inr ⟨wy_pr rfl, fun q => q⟩), trivial, trivial⟩ ⟨(Or.inr ⟨wy_pr rfl, fun q => q⟩), trivial⟩ (fun _ _ q => False.elim q) ?_ (fun _ _ _ q => q)
      refine wa_aload_n (n := 0) rfl ?_
      refine wb_gfi 237 rfl (wy_pr rfl) wt_237 wf_15_152 (v := (2100 * t)) ((w_up_at (by decide)).trans ((w_up_at (by decide)).trans (mp))) (fun r136 => ?_)
      refine wa_aload_n (n := 0) rfl ?_
      refine wb_gf4 237 rfl (wy_pr rfl) wt_237 wf_15_134 (v := 359) wl_237_134 ?_
      refine wa_aload_n (n := 0) rfl ?_
      refine wb_gfi 237 rfl (wy_pr rfl) wt_237 wf_15_151 (v := t) ((w_up_at (by decide)).trans ((w_up_at (by decide)).trans (mt))) (fun r137 => ?_)
      refine wb_iald 359 rfl (wy_pr rfl) wt_359 (n := 2) ((w_up_slot (by decide)).trans ((w_up_slot (by decide)).trans ((ml_359 hM)))) (by omega) (by omega) (v := h) ((w_up_slot (by decide)).trans ((w_up_slot (by decide)).trans (mh))) (fun r138 => ?_)
      refine wa_iadd ?_
      refine wa_ireturn rfl ?_
      show wJ _ _ _ _ _ _ _ _ _ _
      refine wa_iconst ?_
      refine wa_isub ?_
      refine wa_aload_n (n := 0) rfl ?_
      refine wb_gfi 237 rfl (wy_pr rfl) wt_237 wf_15_176 (v := es) (w_up_same _ _ _ _) (fun r139 => ?_)
      refine wa_isub ?_
      rw [show ((((2100 * t) + h) - 1) - es) = 2100 * t + ba by omega]
      refine wb_pfi 237 rfl (wy_pr rfl) wt_237 wf_15_173 (n := 173) rfl ⟨(by omega), (by omega)⟩ ?_
      refine wa_aload_n (n := 0) rfl ?_
      refine wa_aload_n (n := 0) rfl ?_
      refine wb_gf4 237 rfl (wy_pr rfl) wt_237 wf_15_138 (v := 363) wl_237_138 ?_
      refine wa_aload_n (n := 0) rfl ?_
      refine wb_gfi 237 rfl (wy_pr rfl) wt_237 wf_15_173 (v := (2100 * t + ba)) (w_up_same _ _ _ _) (fun r140 => ?_)
      refine wb_iald 363 rfl (wy_pr rfl) wt_363 (n := 4200) ((w_up_slot (by decide)).trans ((w_up_slot (by decide)).trans ((w_up_slot (by decide)).trans ((ml_363 hM))))) (by omega) (by omega) (v := gk) ((w_up_slot (by decide)).trans ((w_up_slot (by decide)).trans ((w_up_slot (by decide)).trans (hgk)))) (fun r141 => ?_)
      refine wb_pfi 237 rfl (wy_pr rfl) wt_237 wf_15_174 (n := 174) rfl ⟨(by omega), (by omega)⟩ ?_
      refine wa_aload_n (n := 0) rfl ?_
      refine wa_aload_n (n := 0) rfl ?_
      refine wb_gf4 237 rfl (wy_pr rfl) wt_237 wf_15_139 (v := 364) wl_237_139 ?_
      refine wa_aload_n (n := 0) rfl ?_
      refine wb_gfi 237 rfl (wy_pr rfl) wt_237 wf_15_173 (v := (2100 * t + ba)) ((w_up_at (by decide)).trans (w_up_same _ _ _ _)) (fun r142 => ?_)
      refine wb_lald 364 rfl (wy_pr rfl) wt_364 (n := 4200) ((w_up_slot (by decide)).trans ((w_up_slot (by decide)).trans ((w_up_slot (by decide)).trans ((w_up_slot (by decide)).trans ((ml_364 hM)))))) (by omega) (by omega) (v := gb) ((w_up_slot (by decide)).trans ((w_up_slot (by decide)).trans ((w_up_slot (by decide)).trans ((w_up_slot (by decide)).trans (hgb))))) (fun r143 => ?_)
      refine wb_pfl 237 rfl (wy_pr rfl) wt_237 wf_15_175 (n := 175) rfl ⟨(by omega), (by omega)⟩ ?_
      refine wa_aload_n (n := 0) rfl ?_
      refine wa_iconst ?_
      refine wb_pfi 237 rfl (wy_pr rfl) wt_237 wf_15_177 (n := 177) rfl ⟨(by omega), (by omega)⟩ ?_
      refine wa_iload_n (n := 2) rfl ?_
      refine wa_iconst ?_
      refine wa_icmpeq (w_rg0 (by omega) (by omega)) (w_rg0 (by omega) (by omega)) ⟨_, rfl⟩ (fun c144 => ?_) (fun c144 => ?_)
      · skip
        refine wa_iconst ?_
        refine wa_goto ⟨_, rfl⟩ ?_
        refine wa_istore_n (n := 3) rfl ?_
        refine wa_iload_n (n := 3) rfl ?_
        refine wa_ifeq (w_rg0 (by omega) (by omega)) ⟨_, rfl⟩ (fun c145 => ?_) (fun c145 => ?_)
        · skip
          exact absurd c145 (by omega)
        · skip
          refine wa_aload_n (n := 0) rfl ?_
          refine wa_aload_n (n := 0) rfl ?_
          refine wb_gfi 237 rfl (wy_pr rfl) wt_237 wf_15_174 (v := gk) ((w_up_at (by decide)).trans ((w_up_at (by decide)).trans (w_up_same _ _ _ _))) (fun r146 => ?_)
          refine wa_cv 237 rfl (wy_pr rfl) wt_237 (M2 := fun _ => False) rfl at_M_hasShape ⟨_, rfl⟩ rfl rfl ⟨trivial, trivial, (Or.inr ⟨wy_pr rfl, fun q => q⟩), trivial, trivial⟩ trivial (fun _ _ q => False.elim q) ?_ (fun _ _ _ q => q)
          refine wa_iload_n (n := 1) rfl ?_
          refine wa_iconst ?_
          refine wa_icmpeq (w_rg0 (by omega) (by omega)) (w_rg0 (by omega) (by omega)) ⟨_, rfl⟩ (fun c147 => ?_) (fun c147 => ?_)
          · skip
            refine wa_iconst ?_
            refine wa_goto ⟨_, rfl⟩ ?_
            refine wa_zreturn rfl (Or.inr rfl) ?_
            show wJ _ _ _ _ _ _ _ _ _ _
            refine wa_ifeq (w_rg0 (by omega) (by omega)) ⟨_, rfl⟩ (fun c148 => ?_) (fun c148 => ?_)
            · skip
              exact absurd c148 (by omega)
            · skip
              exfalso; omega
          · skip
            refine wa_iload_n (n := 1) rfl ?_
            refine wa_iconst ?_
            refine wa_icmpne (w_rg0 (by omega) (by omega)) (w_rg0 (by omega) (by omega)) ⟨_, rfl⟩ (fun c149 => ?_) (fun c149 => ?_)
            · skip
              refine wa_iconst ?_
              refine wa_fall ⟨_, rfl⟩ ?_
              refine wa_zreturn rfl (Or.inl rfl) ?_
              show wJ _ _ _ _ _ _ _ _ _ _
              refine wa_ifeq (w_rg0 (by omega) (by omega)) ⟨_, rfl⟩ (fun c150 => ?_) (fun c150 => ?_)
              · skip
                refine wa_iconst ?_
                refine wa_istore (n := 4) rfl ?_
                refine wa_iconst ?_
                refine wa_istore (n := 5) rfl ?_
                refine wa_fall ⟨_, rfl⟩ ?_
                have eel : el = 1 := by rw [hel]; first | exact if_pos (by omega) | exact if_neg (by omega)
                exact wJ_S hk ⟨rfl, rfl, rfl, by rw [eel]; rfl, rfl, rfl, trivial⟩
              · skip
                exact absurd c150 (by omega)
            · skip
              refine wa_fall ⟨_, rfl⟩ ?_
              refine wa_iconst ?_
              refine wa_goto ⟨_, rfl⟩ ?_
              refine wa_zreturn rfl (Or.inr rfl) ?_
              show wJ _ _ _ _ _ _ _ _ _ _
              refine wa_ifeq (w_rg0 (by omega) (by omega)) ⟨_, rfl⟩ (fun c151 => ?_) (fun c151 => ?_)
              · skip
                exact absurd c151 (by omega)
              · skip
                exfalso; omega
      · skip
        refine wa_iload_n (n := 2) rfl ?_
        refine wa_iconst ?_
        refine wa_icmpne (w_rg0 (by omega) (by omega)) (w_rg0 (by omega) (by omega)) ⟨_, rfl⟩ (fun c152 => ?_) (fun c152 => ?_)
        · skip
          refine wa_iconst ?_
          refine wa_fall ⟨_, rfl⟩ ?_
          refine wa_istore_n (n := 3) rfl ?_
          refine wa_iload_n (n := 3) rfl ?_
          refine wa_ifeq (w_rg0 (by omega) (by omega)) ⟨_, rfl⟩ (fun c153 => ?_) (fun c153 => ?_)
          · skip
            refine wa_iconst ?_
            refine wa_istore (n := 4) rfl ?_
            refine wa_iconst ?_
            refine wa_istore (n := 5) rfl ?_
            refine wa_fall ⟨_, rfl⟩ ?_
            have eel : el = 0 := by rw [hel]; first | exact if_pos (by omega) | exact if_neg (by omega)
            exact wJ_S hk ⟨rfl, rfl, rfl, by rw [eel]; rfl, rfl, rfl, trivial⟩
          · skip
            exact absurd c153 (by omega)
        · skip
          refine wa_fall ⟨_, rfl⟩ ?_
          refine wa_iconst ?_
          refine wa_goto ⟨_, rfl⟩ ?_
          refine wa_istore_n (n := 3) rfl ?_
          refine wa_iload_n (n := 3) rfl ?_
          refine wa_ifeq (w_rg0 (by omega) (by omega)) ⟨_, rfl⟩ (fun c154 => ?_) (fun c154 => ?_)
          · skip
            exact absurd c154 (by omega)
          · skip
            refine wa_aload_n (n := 0) rfl ?_
            refine wa_aload_n (n := 0) rfl ?_
            refine wb_gfi 237 rfl (wy_pr rfl) wt_237 wf_15_174 (v := gk) ((w_up_at (by decide)).trans ((w_up_at (by decide)).trans (w_up_same _ _ _ _))) (fun r155 => ?_)
            refine wa_cv 237 rfl (wy_pr rfl) wt_237 (M2 := fun _ => False) rfl at_M_hasShape ⟨_, rfl⟩ rfl rfl ⟨trivial, trivial, (Or.inr ⟨wy_pr rfl, fun q => q⟩), trivial, trivial⟩ trivial (fun _ _ q => False.elim q) ?_ (fun _ _ _ q => q)
            refine wa_iload_n (n := 1) rfl ?_
            refine wa_iconst ?_
            refine wa_icmpeq (w_rg0 (by omega) (by omega)) (w_rg0 (by omega) (by omega)) ⟨_, rfl⟩ (fun c156 => ?_) (fun c156 => ?_)
            · skip
              refine wa_iconst ?_
              refine wa_goto ⟨_, rfl⟩ ?_
              refine wa_zreturn rfl (Or.inr rfl) ?_
              show wJ _ _ _ _ _ _ _ _ _ _
              refine wa_ifeq (w_rg0 (by omega) (by omega)) ⟨_, rfl⟩ (fun c157 => ?_) (fun c157 => ?_)
              · skip
                exact absurd c157 (by omega)
              · skip
                exfalso; omega
            · skip
              refine wa_iload_n (n := 1) rfl ?_
              refine wa_iconst ?_
              refine wa_icmpne (w_rg0 (by omega) (by omega)) (w_rg0 (by omega) (by omega)) ⟨_, rfl⟩ (fun c158 => ?_) (fun c158 => ?_)
              · skip
                refine wa_iconst ?_
                refine wa_fall ⟨_, rfl⟩ ?_
                refine wa_zreturn rfl (Or.inl rfl) ?_
                show wJ _ _ _ _ _ _ _ _ _ _
                refine wa_ifeq (w_rg0 (by omega) (by omega)) ⟨_, rfl⟩ (fun c159 => ?_) (fun c159 => ?_)
                · skip
                  refine wa_iconst ?_
                  refine wa_istore (n := 4) rfl ?_
                  refine wa_iconst ?_
                  refine wa_istore (n := 5) rfl ?_
                  refine wa_fall ⟨_, rfl⟩ ?_
                  have eel : el = 1 := by rw [hel]; first | exact if_pos (by omega) | exact if_neg (by omega)
                  exact wJ_S hk ⟨rfl, rfl, rfl, by rw [eel]; rfl, rfl, rfl, trivial⟩
                · skip
                  exact absurd c159 (by omega)
              · skip
                refine wa_fall ⟨_, rfl⟩ ?_
                refine wa_iconst ?_
                refine wa_goto ⟨_, rfl⟩ ?_
                refine wa_zreturn rfl (Or.inr rfl) ?_
                show wJ _ _ _ _ _ _ _ _ _ _
                refine wa_ifeq (w_rg0 (by omega) (by omega)) ⟨_, rfl⟩ (fun c160 => ?_) (fun c160 => ?_)
                · skip
                  exact absurd c160 (by omega)
                · skip
                  exfalso; omega
set_option maxHeartbeats 4000000 in
theorem iv0e_ok (hP : mP t c p h tp S) (hs : 0 ≤ s ∧ s < 4000) (h04 : S 304 s = kd) (hkd : 0 ≤ kd ∧ kd ≤ 6) (h06 : S 306 s = ne) (hne : 0 ≤ ne ∧ ne ≤ 255) (he0 : e0 = if kd = 0 then 0 else if kd < 4 then 1 else ne) (hes : es = if kd = 3 then 2 else e0) (hba : ba = h - 1 - es ∧ 0 ≤ ba) (hgk : S 363 (2100 * t + ba) = gk) (hgb : S 364 (2100 * t + ba) = gb) (hgr : 0 ≤ gk ∧ gk ≤ 8) (hno : (kd = 2 ∨ kd = 3) ∧ (gk = 4 ∨ gk = 5)) (hcal : wJ (pe_GA xs) wY0 (fun _ => False) (d + 5) t_M_namesElement ((pe_at t_M_namesElement.bl 0).getD (0, [])).2 [(0, (2, 237))] [] (ivZ e0 es (2100 * t + ba) gk gb S) R) (hR : ∀ (o : wO) (Z : wS), R o Z → (o = .inl none ∧ wJ (pe_GA xs) wY0 M (d + 6) t_M_invokes ((pe_at t_M_invokes.bl 10).getD (0, [])).2 [(0, (2, 237)), (1, (0, s)), (2, (0, kd)), (3, (0, 1)), (4, (0, -1)), (5, (0, 0))] [] Z Q) ∨ (o = .inr 238 ∧ Q (.inr 238) Z)) : wJ (pe_GA xs) wY0 M (d + 6) t_M_invokes ((pe_at t_M_invokes.bl 0).getD (0, [])).2 [(0, (2, 237)), (1, (0, s))] [] S Q := by
  obtain ⟨hM, ⟨mt, mt0, mt1⟩, mp, mf, ⟨mc, mc0, mc1⟩, ⟨mtp, mtq⟩, ⟨mpa, mp0, mp1⟩, mh, mh0, mh1⟩ := hP
  refine wa_aload_n (n := 0) rfl ?_
  refine wb_gf4 237 rfl (wy_pr rfl) wt_237 wf_15_49 (v := 304) wl_237_49 ?_
  refine wa_iload_n (n := 1) rfl ?_
  refine wb_iald 304 rfl (wy_pr rfl) wt_304 (n := 4000) ((ml_304 hM)) (by omega) (by omega) (v := kd) (h04) (fun r501 => ?_)
  refine wa_istore_n (n := 2) rfl ?_
  refine wa_aload_n (n := 0) rfl ?_
  refine wa_iload_n (n := 2) rfl ?_
  refine wa_ifne (w_rg0 (by omega) (by omega)) ⟨_, rfl⟩ (fun c502 => ?_) (fun c502 => ?_)
  · skip
    refine wa_iload_n (n := 2) rfl ?_
    refine wa_iconst ?_
    refine wa_icmpge (w_rg0 (by omega) (by omega)) (w_rg0 (by omega) (by omega)) ⟨_, rfl⟩ (fun c503 => ?_) (fun c503 => ?_)
    · skip
      refine wa_aload_n (n := 0) rfl ?_
      refine wb_gf4 237 rfl (wy_pr rfl) wt_237 wf_15_51 (v := 306) wl_237_51 ?_
      refine wa_iload_n (n := 1) rfl ?_
      refine wb_iald 306 rfl (wy_pr rfl) wt_306 (n := 4000) ((ml_306 hM)) (by omega) (by omega) (v := ne) (h06) (fun r504 => ?_)
      refine wa_fall ⟨_, rfl⟩ ?_
      have ee0 : ne = e0 := by rw [he0]; first | exact (if_pos (by omega)).symm | exact ((if_neg (by omega)).trans (if_pos (by omega))).symm | exact ((if_neg (by omega)).trans (if_neg (by omega))).symm
      refine wJ_top ee0 ?_
      have he0r : 0 ≤ e0 ∧ e0 ≤ 255 := by omega
      refine wb_pfi 237 rfl (wy_pr rfl) wt_237 wf_15_176 (n := 176) rfl ⟨(by omega), (by omega)⟩ ?_
      refine wa_aload_n (n := 0) rfl ?_
      refine wa_iload_n (n := 2) rfl ?_
      refine wa_iconst ?_
      refine wa_icmpne (w_rg0 (by omega) (by omega)) (w_rg0 (by omega) (by omega)) ⟨_, rfl⟩ (fun c505 => ?_) (fun c505 => ?_)
      · skip
        refine wa_aload_n (n := 0) rfl ?_
        refine wb_gfi 237 rfl (wy_pr rfl) wt_237 wf_15_176 (v := e0) (w_up_same _ _ _ _) (fun r506 => ?_)
        refine wa_fall ⟨_, rfl⟩ ?_
        have ees : e0 = es := by rw [hes]; first | exact (if_pos (by omega)).symm | exact (if_neg (by omega)).symm
        refine wJ_top ees ?_
        have hesr : 0 ≤ es ∧ es ≤ 255 := by omega
        refine wb_pfi 237 rfl (wy_pr rfl) wt_237 wf_15_176 (n := 176) rfl ⟨(by omega), (by omega)⟩ ?_
        refine wa_aload_n (n := 0) rfl ?_
        refine wa_aload_n (n := 0) rfl ?_
        refine wa_cv 237 rfl (wy_pr rfl) wt_237 (M2 := fun _ => False) rfl at_M_h ⟨_, rfl⟩ rfl rfl ⟨trivial, (Or.inr ⟨wy_pr rfl, fun q => q⟩), trivial, trivial⟩ ⟨(Or.inr ⟨wy_pr rfl, fun q => q⟩), trivial⟩ (fun _ _ q => False.elim q) ?_ (fun _ _ _ q => q)
        refine wa_aload_n (n := 0) rfl ?_
        refine wb_gfi 237 rfl (wy_pr rfl) wt_237 wf_15_152 (v := (2100 * t)) ((w_up_at (by decide)).trans ((w_up_at (by decide)).trans (mp))) (fun r507 => ?_)
        refine wa_aload_n (n := 0) rfl ?_
        refine wb_gf4 237 rfl (wy_pr rfl) wt_237 wf_15_134 (v := 359) wl_237_134 ?_
        refine wa_aload_n (n := 0) rfl ?_
        refine wb_gfi 237 rfl (wy_pr rfl) wt_237 wf_15_151 (v := t) ((w_up_at (by decide)).trans ((w_up_at (by decide)).trans (mt))) (fun r508 => ?_)
        refine wb_iald 359 rfl (wy_pr rfl) wt_359 (n := 2) ((w_up_slot (by decide)).trans ((w_up_slot (by decide)).trans ((ml_359 hM)))) (by omega) (by omega) (v := h) ((w_up_slot (by decide)).trans ((w_up_slot (by decide)).trans (mh))) (fun r509 => ?_)
        refine wa_iadd ?_
        refine wa_ireturn rfl ?_
        show wJ _ _ _ _ _ _ _ _ _ _
        refine wa_iconst ?_
        refine wa_isub ?_
        refine wa_aload_n (n := 0) rfl ?_
        refine wb_gfi 237 rfl (wy_pr rfl) wt_237 wf_15_176 (v := es) (w_up_same _ _ _ _) (fun r510 => ?_)
        refine wa_isub ?_
        rw [show ((((2100 * t) + h) - 1) - es) = 2100 * t + ba by omega]
        refine wb_pfi 237 rfl (wy_pr rfl) wt_237 wf_15_173 (n := 173) rfl ⟨(by omega), (by omega)⟩ ?_
        refine wa_aload_n (n := 0) rfl ?_
        refine wa_aload_n (n := 0) rfl ?_
        refine wb_gf4 237 rfl (wy_pr rfl) wt_237 wf_15_138 (v := 363) wl_237_138 ?_
        refine wa_aload_n (n := 0) rfl ?_
        refine wb_gfi 237 rfl (wy_pr rfl) wt_237 wf_15_173 (v := (2100 * t + ba)) (w_up_same _ _ _ _) (fun r511 => ?_)
        refine wb_iald 363 rfl (wy_pr rfl) wt_363 (n := 4200) ((w_up_slot (by decide)).trans ((w_up_slot (by decide)).trans ((w_up_slot (by decide)).trans ((ml_363 hM))))) (by omega) (by omega) (v := gk) ((w_up_slot (by decide)).trans ((w_up_slot (by decide)).trans ((w_up_slot (by decide)).trans (hgk)))) (fun r512 => ?_)
        refine wb_pfi 237 rfl (wy_pr rfl) wt_237 wf_15_174 (n := 174) rfl ⟨(by omega), (by omega)⟩ ?_
        refine wa_aload_n (n := 0) rfl ?_
        refine wa_aload_n (n := 0) rfl ?_
        refine wb_gf4 237 rfl (wy_pr rfl) wt_237 wf_15_139 (v := 364) wl_237_139 ?_
        refine wa_aload_n (n := 0) rfl ?_
        refine wb_gfi 237 rfl (wy_pr rfl) wt_237 wf_15_173 (v := (2100 * t + ba)) ((w_up_at (by decide)).trans (w_up_same _ _ _ _)) (fun r513 => ?_)
        refine wb_lald 364 rfl (wy_pr rfl) wt_364 (n := 4200) ((w_up_slot (by decide)).trans ((w_up_slot (by decide)).trans ((w_up_slot (by decide)).trans ((w_up_slot (by decide)).trans ((ml_364 hM)))))) (by omega) (by omega) (v := gb) ((w_up_slot (by decide)).trans ((w_up_slot (by decide)).trans ((w_up_slot (by decide)).trans ((w_up_slot (by decide)).trans (hgb))))) (fun r514 => ?_)
        refine wb_pfl 237 rfl (wy_pr rfl) wt_237 wf_15_175 (n := 175) rfl ⟨(by omega), (by omega)⟩ ?_
        refine wa_aload_n (n := 0) rfl ?_
        refine wa_iconst ?_
        refine wb_pfi 237 rfl (wy_pr rfl) wt_237 wf_15_177 (n := 177) rfl ⟨(by omega), (by omega)⟩ ?_
        refine wa_iload_n (n := 2) rfl ?_
        refine wa_iconst ?_
        refine wa_icmpeq (w_rg0 (by omega) (by omega)) (w_rg0 (by omega) (by omega)) ⟨_, rfl⟩ (fun c515 => ?_) (fun c515 => ?_)
        · skip
          refine wa_iconst ?_
          refine wa_goto ⟨_, rfl⟩ ?_
          refine wa_istore_n (n := 3) rfl ?_
          refine wa_iload_n (n := 3) rfl ?_
          refine wa_ifeq (w_rg0 (by omega) (by omega)) ⟨_, rfl⟩ (fun c516 => ?_) (fun c516 => ?_)
          · skip
            exact absurd c516 (by omega)
          · skip
            refine wa_aload_n (n := 0) rfl ?_
            refine wa_aload_n (n := 0) rfl ?_
            refine wb_gfi 237 rfl (wy_pr rfl) wt_237 wf_15_174 (v := gk) ((w_up_at (by decide)).trans ((w_up_at (by decide)).trans (w_up_same _ _ _ _))) (fun r517 => ?_)
            refine wa_cv 237 rfl (wy_pr rfl) wt_237 (M2 := fun _ => False) rfl at_M_hasShape ⟨_, rfl⟩ rfl rfl ⟨trivial, trivial, (Or.inr ⟨wy_pr rfl, fun q => q⟩), trivial, trivial⟩ trivial (fun _ _ q => False.elim q) ?_ (fun _ _ _ q => q)
            refine wa_iload_n (n := 1) rfl ?_
            refine wa_iconst ?_
            refine wa_icmpeq (w_rg0 (by omega) (by omega)) (w_rg0 (by omega) (by omega)) ⟨_, rfl⟩ (fun c518 => ?_) (fun c518 => ?_)
            · skip
              refine wa_iconst ?_
              refine wa_goto ⟨_, rfl⟩ ?_
              refine wa_zreturn rfl (Or.inr rfl) ?_
              show wJ _ _ _ _ _ _ _ _ _ _
              refine wa_ifeq (w_rg0 (by omega) (by omega)) ⟨_, rfl⟩ (fun c519 => ?_) (fun c519 => ?_)
              · skip
                exact absurd c519 (by omega)
              · skip
                refine wa_aload_n (n := 0) rfl ?_
                refine wa_cv 237 rfl (wy_pr rfl) wt_237 (M2 := fun _ => False) rfl at_M_namesElement ⟨_, rfl⟩ rfl rfl ⟨trivial, trivial, (Or.inr ⟨wy_pr rfl, fun q => q⟩), trivial, trivial⟩ trivial (fun _ _ q => False.elim q) (wJ_mono hcal (fun o Z hz => hR o Z hz)) (fun oq520 Sq520 hp521 q520 => ?_)
                rcases q520 with ⟨rfl, hz10⟩ | ⟨rfl, hzq⟩
                · skip
                  show wJ _ _ _ _ _ _ _ _ _ _
                  refine wa_fall ⟨_, rfl⟩ ?_
                  refine wa_iconst ?_
                  refine wa_istore (n := 4) rfl ?_
                  refine wa_iconst ?_
                  refine wa_istore (n := 5) rfl ?_
                  refine wa_fall ⟨_, rfl⟩ ?_
                  exact wJ_S hz10 ⟨rfl, rfl, rfl, rfl, rfl, rfl, trivial⟩
                · skip
                  refine ⟨rfl, ?_⟩
                  exact hzq
            · skip
              refine wa_iload_n (n := 1) rfl ?_
              refine wa_iconst ?_
              refine wa_icmpne (w_rg0 (by omega) (by omega)) (w_rg0 (by omega) (by omega)) ⟨_, rfl⟩ (fun c522 => ?_) (fun c522 => ?_)
              · skip
                refine wa_iconst ?_
                refine wa_fall ⟨_, rfl⟩ ?_
                refine wa_zreturn rfl (Or.inl rfl) ?_
                show wJ _ _ _ _ _ _ _ _ _ _
                refine wa_ifeq (w_rg0 (by omega) (by omega)) ⟨_, rfl⟩ (fun c523 => ?_) (fun c523 => ?_)
                · skip
                  exfalso; omega
                · skip
                  exact absurd c523 (by omega)
              · skip
                refine wa_fall ⟨_, rfl⟩ ?_
                refine wa_iconst ?_
                refine wa_goto ⟨_, rfl⟩ ?_
                refine wa_zreturn rfl (Or.inr rfl) ?_
                show wJ _ _ _ _ _ _ _ _ _ _
                refine wa_ifeq (w_rg0 (by omega) (by omega)) ⟨_, rfl⟩ (fun c524 => ?_) (fun c524 => ?_)
                · skip
                  exact absurd c524 (by omega)
                · skip
                  refine wa_aload_n (n := 0) rfl ?_
                  refine wa_cv 237 rfl (wy_pr rfl) wt_237 (M2 := fun _ => False) rfl at_M_namesElement ⟨_, rfl⟩ rfl rfl ⟨trivial, trivial, (Or.inr ⟨wy_pr rfl, fun q => q⟩), trivial, trivial⟩ trivial (fun _ _ q => False.elim q) (wJ_mono hcal (fun o Z hz => hR o Z hz)) (fun oq525 Sq525 hp526 q525 => ?_)
                  rcases q525 with ⟨rfl, hz10⟩ | ⟨rfl, hzq⟩
                  · skip
                    show wJ _ _ _ _ _ _ _ _ _ _
                    refine wa_fall ⟨_, rfl⟩ ?_
                    refine wa_iconst ?_
                    refine wa_istore (n := 4) rfl ?_
                    refine wa_iconst ?_
                    refine wa_istore (n := 5) rfl ?_
                    refine wa_fall ⟨_, rfl⟩ ?_
                    exact wJ_S hz10 ⟨rfl, rfl, rfl, rfl, rfl, rfl, trivial⟩
                  · skip
                    refine ⟨rfl, ?_⟩
                    exact hzq
        · skip
          refine wa_iload_n (n := 2) rfl ?_
          refine wa_iconst ?_
          refine wa_icmpne (w_rg0 (by omega) (by omega)) (w_rg0 (by omega) (by omega)) ⟨_, rfl⟩ (fun c527 => ?_) (fun c527 => ?_)
          · skip
            refine wa_iconst ?_
            refine wa_fall ⟨_, rfl⟩ ?_
            refine wa_istore_n (n := 3) rfl ?_
            refine wa_iload_n (n := 3) rfl ?_
            refine wa_ifeq (w_rg0 (by omega) (by omega)) ⟨_, rfl⟩ (fun c528 => ?_) (fun c528 => ?_)
            · skip
              exfalso; omega
            · skip
              exact absurd c528 (by omega)
          · skip
            refine wa_fall ⟨_, rfl⟩ ?_
            refine wa_iconst ?_
            refine wa_goto ⟨_, rfl⟩ ?_
            refine wa_istore_n (n := 3) rfl ?_
            refine wa_iload_n (n := 3) rfl ?_
            refine wa_ifeq (w_rg0 (by omega) (by omega)) ⟨_, rfl⟩ (fun c529 => ?_) (fun c529 => ?_)
            · skip
              exact absurd c529 (by omega)
            · skip
              refine wa_aload_n (n := 0) rfl ?_
              refine wa_aload_n (n := 0) rfl ?_
              refine wb_gfi 237 rfl (wy_pr rfl) wt_237 wf_15_174 (v := gk) ((w_up_at (by decide)).trans ((w_up_at (by decide)).trans (w_up_same _ _ _ _))) (fun r530 => ?_)
              refine wa_cv 237 rfl (wy_pr rfl) wt_237 (M2 := fun _ => False) rfl at_M_hasShape ⟨_, rfl⟩ rfl rfl ⟨trivial, trivial, (Or.inr ⟨wy_pr rfl, fun q => q⟩), trivial, trivial⟩ trivial (fun _ _ q => False.elim q) ?_ (fun _ _ _ q => q)
              refine wa_iload_n (n := 1) rfl ?_
              refine wa_iconst ?_
              refine wa_icmpeq (w_rg0 (by omega) (by omega)) (w_rg0 (by omega) (by omega)) ⟨_, rfl⟩ (fun c531 => ?_) (fun c531 => ?_)
              · skip
                refine wa_iconst ?_
                refine wa_goto ⟨_, rfl⟩ ?_
                refine wa_zreturn rfl (Or.inr rfl) ?_
                show wJ _ _ _ _ _ _ _ _ _ _
                refine wa_ifeq (w_rg0 (by omega) (by omega)) ⟨_, rfl⟩ (fun c532 => ?_) (fun c532 => ?_)
                · skip
                  exact absurd c532 (by omega)
                · skip
                  refine wa_aload_n (n := 0) rfl ?_
                  refine wa_cv 237 rfl (wy_pr rfl) wt_237 (M2 := fun _ => False) rfl at_M_namesElement ⟨_, rfl⟩ rfl rfl ⟨trivial, trivial, (Or.inr ⟨wy_pr rfl, fun q => q⟩), trivial, trivial⟩ trivial (fun _ _ q => False.elim q) (wJ_mono hcal (fun o Z hz => hR o Z hz)) (fun oq533 Sq533 hp534 q533 => ?_)
                  rcases q533 with ⟨rfl, hz10⟩ | ⟨rfl, hzq⟩
                  · skip
                    show wJ _ _ _ _ _ _ _ _ _ _
                    refine wa_fall ⟨_, rfl⟩ ?_
                    refine wa_iconst ?_
                    refine wa_istore (n := 4) rfl ?_
                    refine wa_iconst ?_
                    refine wa_istore (n := 5) rfl ?_
                    refine wa_fall ⟨_, rfl⟩ ?_
                    exact wJ_S hz10 ⟨rfl, rfl, rfl, rfl, rfl, rfl, trivial⟩
                  · skip
                    refine ⟨rfl, ?_⟩
                    exact hzq
              · skip
                refine wa_iload_n (n := 1) rfl ?_
                refine wa_iconst ?_
                refine wa_icmpne (w_rg0 (by omega) (by omega)) (w_rg0 (by omega) (by omega)) ⟨_, rfl⟩ (fun c535 => ?_) (fun c535 => ?_)
                · skip
                  refine wa_iconst ?_
                  refine wa_fall ⟨_, rfl⟩ ?_
                  refine wa_zreturn rfl (Or.inl rfl) ?_
                  show wJ _ _ _ _ _ _ _ _ _ _
                  refine wa_ifeq (w_rg0 (by omega) (by omega)) ⟨_, rfl⟩ (fun c536 => ?_) (fun c536 => ?_)
                  · skip
                    exfalso; omega
                  · skip
                    exact absurd c536 (by omega)
                · skip
                  refine wa_fall ⟨_, rfl⟩ ?_
                  refine wa_iconst ?_
                  refine wa_goto ⟨_, rfl⟩ ?_
                  refine wa_zreturn rfl (Or.inr rfl) ?_
                  show wJ _ _ _ _ _ _ _ _ _ _
                  refine wa_ifeq (w_rg0 (by omega) (by omega)) ⟨_, rfl⟩ (fun c537 => ?_) (fun c537 => ?_)
                  · skip
                    exact absurd c537 (by omega)
                  · skip
                    refine wa_aload_n (n := 0) rfl ?_
                    refine wa_cv 237 rfl (wy_pr rfl) wt_237 (M2 := fun _ => False) rfl at_M_namesElement ⟨_, rfl⟩ rfl rfl ⟨trivial, trivial, (Or.inr ⟨wy_pr rfl, fun q => q⟩), trivial, trivial⟩ trivial (fun _ _ q => False.elim q) (wJ_mono hcal (fun o Z hz => hR o Z hz)) (fun oq538 Sq538 hp539 q538 => ?_)
                    rcases q538 with ⟨rfl, hz10⟩ | ⟨rfl, hzq⟩
                    · skip
                      show wJ _ _ _ _ _ _ _ _ _ _
                      refine wa_fall ⟨_, rfl⟩ ?_
                      refine wa_iconst ?_
                      refine wa_istore (n := 4) rfl ?_
                      refine wa_iconst ?_
                      refine wa_istore (n := 5) rfl ?_
                      refine wa_fall ⟨_, rfl⟩ ?_
                      exact wJ_S hz10 ⟨rfl, rfl, rfl, rfl, rfl, rfl, trivial⟩
                    · skip
                      refine ⟨rfl, ?_⟩
                      exact hzq
      · skip
        refine wa_iconst ?_
        refine wa_goto ⟨_, rfl⟩ ?_
        have ees : 2 = es := by rw [hes]; first | exact (if_pos (by omega)).symm | exact (if_neg (by omega)).symm
        refine wJ_top ees ?_
        have hesr : 0 ≤ es ∧ es ≤ 255 := by omega
        refine wb_pfi 237 rfl (wy_pr rfl) wt_237 wf_15_176 (n := 176) rfl ⟨(by omega), (by omega)⟩ ?_
        refine wa_aload_n (n := 0) rfl ?_
        refine wa_aload_n (n := 0) rfl ?_
        refine wa_cv 237 rfl (wy_pr rfl) wt_237 (M2 := fun _ => False) rfl at_M_h ⟨_, rfl⟩ rfl rfl ⟨trivial, (Or.inr ⟨wy_pr rfl, fun q => q⟩), trivial, trivial⟩ ⟨(Or.inr ⟨wy_pr rfl, fun q => q⟩), trivial⟩ (fun _ _ q => False.elim q) ?_ (fun _ _ _ q => q)
        refine wa_aload_n (n := 0) rfl ?_
        refine wb_gfi 237 rfl (wy_pr rfl) wt_237 wf_15_152 (v := (2100 * t)) ((w_up_at (by decide)).trans ((w_up_at (by decide)).trans (mp))) (fun r540 => ?_)
        refine wa_aload_n (n := 0) rfl ?_
        refine wb_gf4 237 rfl (wy_pr rfl) wt_237 wf_15_134 (v := 359) wl_237_134 ?_
        refine wa_aload_n (n := 0) rfl ?_
        refine wb_gfi 237 rfl (wy_pr rfl) wt_237 wf_15_151 (v := t) ((w_up_at (by decide)).trans ((w_up_at (by decide)).trans (mt))) (fun r541 => ?_)
        refine wb_iald 359 rfl (wy_pr rfl) wt_359 (n := 2) ((w_up_slot (by decide)).trans ((w_up_slot (by decide)).trans ((ml_359 hM)))) (by omega) (by omega) (v := h) ((w_up_slot (by decide)).trans ((w_up_slot (by decide)).trans (mh))) (fun r542 => ?_)
        refine wa_iadd ?_
        refine wa_ireturn rfl ?_
        show wJ _ _ _ _ _ _ _ _ _ _
        refine wa_iconst ?_
        refine wa_isub ?_
        refine wa_aload_n (n := 0) rfl ?_
        refine wb_gfi 237 rfl (wy_pr rfl) wt_237 wf_15_176 (v := es) (w_up_same _ _ _ _) (fun r543 => ?_)
        refine wa_isub ?_
        rw [show ((((2100 * t) + h) - 1) - es) = 2100 * t + ba by omega]
        refine wb_pfi 237 rfl (wy_pr rfl) wt_237 wf_15_173 (n := 173) rfl ⟨(by omega), (by omega)⟩ ?_
        refine wa_aload_n (n := 0) rfl ?_
        refine wa_aload_n (n := 0) rfl ?_
        refine wb_gf4 237 rfl (wy_pr rfl) wt_237 wf_15_138 (v := 363) wl_237_138 ?_
        refine wa_aload_n (n := 0) rfl ?_
        refine wb_gfi 237 rfl (wy_pr rfl) wt_237 wf_15_173 (v := (2100 * t + ba)) (w_up_same _ _ _ _) (fun r544 => ?_)
        refine wb_iald 363 rfl (wy_pr rfl) wt_363 (n := 4200) ((w_up_slot (by decide)).trans ((w_up_slot (by decide)).trans ((w_up_slot (by decide)).trans ((ml_363 hM))))) (by omega) (by omega) (v := gk) ((w_up_slot (by decide)).trans ((w_up_slot (by decide)).trans ((w_up_slot (by decide)).trans (hgk)))) (fun r545 => ?_)
        refine wb_pfi 237 rfl (wy_pr rfl) wt_237 wf_15_174 (n := 174) rfl ⟨(by omega), (by omega)⟩ ?_
        refine wa_aload_n (n := 0) rfl ?_
        refine wa_aload_n (n := 0) rfl ?_
        refine wb_gf4 237 rfl (wy_pr rfl) wt_237 wf_15_139 (v := 364) wl_237_139 ?_
        refine wa_aload_n (n := 0) rfl ?_
        refine wb_gfi 237 rfl (wy_pr rfl) wt_237 wf_15_173 (v := (2100 * t + ba)) ((w_up_at (by decide)).trans (w_up_same _ _ _ _)) (fun r546 => ?_)
        refine wb_lald 364 rfl (wy_pr rfl) wt_364 (n := 4200) ((w_up_slot (by decide)).trans ((w_up_slot (by decide)).trans ((w_up_slot (by decide)).trans ((w_up_slot (by decide)).trans ((ml_364 hM)))))) (by omega) (by omega) (v := gb) ((w_up_slot (by decide)).trans ((w_up_slot (by decide)).trans ((w_up_slot (by decide)).trans ((w_up_slot (by decide)).trans (hgb))))) (fun r547 => ?_)
        refine wb_pfl 237 rfl (wy_pr rfl) wt_237 wf_15_175 (n := 175) rfl ⟨(by omega), (by omega)⟩ ?_
        refine wa_aload_n (n := 0) rfl ?_
        refine wa_iconst ?_
        refine wb_pfi 237 rfl (wy_pr rfl) wt_237 wf_15_177 (n := 177) rfl ⟨(by omega), (by omega)⟩ ?_
        refine wa_iload_n (n := 2) rfl ?_
        refine wa_iconst ?_
        refine wa_icmpeq (w_rg0 (by omega) (by omega)) (w_rg0 (by omega) (by omega)) ⟨_, rfl⟩ (fun c548 => ?_) (fun c548 => ?_)
        · skip
          refine wa_iconst ?_
          refine wa_goto ⟨_, rfl⟩ ?_
          refine wa_istore_n (n := 3) rfl ?_
          refine wa_iload_n (n := 3) rfl ?_
          refine wa_ifeq (w_rg0 (by omega) (by omega)) ⟨_, rfl⟩ (fun c549 => ?_) (fun c549 => ?_)
          · skip
            exact absurd c549 (by omega)
          · skip
            refine wa_aload_n (n := 0) rfl ?_
            refine wa_aload_n (n := 0) rfl ?_
            refine wb_gfi 237 rfl (wy_pr rfl) wt_237 wf_15_174 (v := gk) ((w_up_at (by decide)).trans ((w_up_at (by decide)).trans (w_up_same _ _ _ _))) (fun r550 => ?_)
            refine wa_cv 237 rfl (wy_pr rfl) wt_237 (M2 := fun _ => False) rfl at_M_hasShape ⟨_, rfl⟩ rfl rfl ⟨trivial, trivial, (Or.inr ⟨wy_pr rfl, fun q => q⟩), trivial, trivial⟩ trivial (fun _ _ q => False.elim q) ?_ (fun _ _ _ q => q)
            refine wa_iload_n (n := 1) rfl ?_
            refine wa_iconst ?_
            refine wa_icmpeq (w_rg0 (by omega) (by omega)) (w_rg0 (by omega) (by omega)) ⟨_, rfl⟩ (fun c551 => ?_) (fun c551 => ?_)
            · skip
              refine wa_iconst ?_
              refine wa_goto ⟨_, rfl⟩ ?_
              refine wa_zreturn rfl (Or.inr rfl) ?_
              show wJ _ _ _ _ _ _ _ _ _ _
              refine wa_ifeq (w_rg0 (by omega) (by omega)) ⟨_, rfl⟩ (fun c552 => ?_) (fun c552 => ?_)
              · skip
                exact absurd c552 (by omega)
              · skip
                refine wa_aload_n (n := 0) rfl ?_
                refine wa_cv 237 rfl (wy_pr rfl) wt_237 (M2 := fun _ => False) rfl at_M_namesElement ⟨_, rfl⟩ rfl rfl ⟨trivial, trivial, (Or.inr ⟨wy_pr rfl, fun q => q⟩), trivial, trivial⟩ trivial (fun _ _ q => False.elim q) (wJ_mono hcal (fun o Z hz => hR o Z hz)) (fun oq553 Sq553 hp554 q553 => ?_)
                rcases q553 with ⟨rfl, hz10⟩ | ⟨rfl, hzq⟩
                · skip
                  show wJ _ _ _ _ _ _ _ _ _ _
                  refine wa_fall ⟨_, rfl⟩ ?_
                  refine wa_iconst ?_
                  refine wa_istore (n := 4) rfl ?_
                  refine wa_iconst ?_
                  refine wa_istore (n := 5) rfl ?_
                  refine wa_fall ⟨_, rfl⟩ ?_
                  exact wJ_S hz10 ⟨rfl, rfl, rfl, rfl, rfl, rfl, trivial⟩
                · skip
                  refine ⟨rfl, ?_⟩
                  exact hzq
            · skip
              refine wa_iload_n (n := 1) rfl ?_
              refine wa_iconst ?_
              refine wa_icmpne (w_rg0 (by omega) (by omega)) (w_rg0 (by omega) (by omega)) ⟨_, rfl⟩ (fun c555 => ?_) (fun c555 => ?_)
              · skip
                refine wa_iconst ?_
                refine wa_fall ⟨_, rfl⟩ ?_
                refine wa_zreturn rfl (Or.inl rfl) ?_
                show wJ _ _ _ _ _ _ _ _ _ _
                refine wa_ifeq (w_rg0 (by omega) (by omega)) ⟨_, rfl⟩ (fun c556 => ?_) (fun c556 => ?_)
                · skip
                  exfalso; omega
                · skip
                  exact absurd c556 (by omega)
              · skip
                refine wa_fall ⟨_, rfl⟩ ?_
                refine wa_iconst ?_
                refine wa_goto ⟨_, rfl⟩ ?_
                refine wa_zreturn rfl (Or.inr rfl) ?_
                show wJ _ _ _ _ _ _ _ _ _ _
                refine wa_ifeq (w_rg0 (by omega) (by omega)) ⟨_, rfl⟩ (fun c557 => ?_) (fun c557 => ?_)
                · skip
                  exact absurd c557 (by omega)
                · skip
                  refine wa_aload_n (n := 0) rfl ?_
                  refine wa_cv 237 rfl (wy_pr rfl) wt_237 (M2 := fun _ => False) rfl at_M_namesElement ⟨_, rfl⟩ rfl rfl ⟨trivial, trivial, (Or.inr ⟨wy_pr rfl, fun q => q⟩), trivial, trivial⟩ trivial (fun _ _ q => False.elim q) (wJ_mono hcal (fun o Z hz => hR o Z hz)) (fun oq558 Sq558 hp559 q558 => ?_)
                  rcases q558 with ⟨rfl, hz10⟩ | ⟨rfl, hzq⟩
                  · skip
                    show wJ _ _ _ _ _ _ _ _ _ _
                    refine wa_fall ⟨_, rfl⟩ ?_
                    refine wa_iconst ?_
                    refine wa_istore (n := 4) rfl ?_
                    refine wa_iconst ?_
                    refine wa_istore (n := 5) rfl ?_
                    refine wa_fall ⟨_, rfl⟩ ?_
                    exact wJ_S hz10 ⟨rfl, rfl, rfl, rfl, rfl, rfl, trivial⟩
                  · skip
                    refine ⟨rfl, ?_⟩
                    exact hzq
        · skip
          refine wa_iload_n (n := 2) rfl ?_
          refine wa_iconst ?_
          refine wa_icmpne (w_rg0 (by omega) (by omega)) (w_rg0 (by omega) (by omega)) ⟨_, rfl⟩ (fun c560 => ?_) (fun c560 => ?_)
          · skip
            refine wa_iconst ?_
            refine wa_fall ⟨_, rfl⟩ ?_
            refine wa_istore_n (n := 3) rfl ?_
            refine wa_iload_n (n := 3) rfl ?_
            refine wa_ifeq (w_rg0 (by omega) (by omega)) ⟨_, rfl⟩ (fun c561 => ?_) (fun c561 => ?_)
            · skip
              exfalso; omega
            · skip
              exact absurd c561 (by omega)
          · skip
            refine wa_fall ⟨_, rfl⟩ ?_
            refine wa_iconst ?_
            refine wa_goto ⟨_, rfl⟩ ?_
            refine wa_istore_n (n := 3) rfl ?_
            refine wa_iload_n (n := 3) rfl ?_
            refine wa_ifeq (w_rg0 (by omega) (by omega)) ⟨_, rfl⟩ (fun c562 => ?_) (fun c562 => ?_)
            · skip
              exact absurd c562 (by omega)
            · skip
              refine wa_aload_n (n := 0) rfl ?_
              refine wa_aload_n (n := 0) rfl ?_
              refine wb_gfi 237 rfl (wy_pr rfl) wt_237 wf_15_174 (v := gk) ((w_up_at (by decide)).trans ((w_up_at (by decide)).trans (w_up_same _ _ _ _))) (fun r563 => ?_)
              refine wa_cv 237 rfl (wy_pr rfl) wt_237 (M2 := fun _ => False) rfl at_M_hasShape ⟨_, rfl⟩ rfl rfl ⟨trivial, trivial, (Or.inr ⟨wy_pr rfl, fun q => q⟩), trivial, trivial⟩ trivial (fun _ _ q => False.elim q) ?_ (fun _ _ _ q => q)
              refine wa_iload_n (n := 1) rfl ?_
              refine wa_iconst ?_
              refine wa_icmpeq (w_rg0 (by omega) (by omega)) (w_rg0 (by omega) (by omega)) ⟨_, rfl⟩ (fun c564 => ?_) (fun c564 => ?_)
              · skip
                refine wa_iconst ?_
                refine wa_goto ⟨_, rfl⟩ ?_
                refine wa_zreturn rfl (Or.inr rfl) ?_
                show wJ _ _ _ _ _ _ _ _ _ _
                refine wa_ifeq (w_rg0 (by omega) (by omega)) ⟨_, rfl⟩ (fun c565 => ?_) (fun c565 => ?_)
                · skip
                  exact absurd c565 (by omega)
                · skip
                  refine wa_aload_n (n := 0) rfl ?_
                  refine wa_cv 237 rfl (wy_pr rfl) wt_237 (M2 := fun _ => False) rfl at_M_namesElement ⟨_, rfl⟩ rfl rfl ⟨trivial, trivial, (Or.inr ⟨wy_pr rfl, fun q => q⟩), trivial, trivial⟩ trivial (fun _ _ q => False.elim q) (wJ_mono hcal (fun o Z hz => hR o Z hz)) (fun oq566 Sq566 hp567 q566 => ?_)
                  rcases q566 with ⟨rfl, hz10⟩ | ⟨rfl, hzq⟩
                  · skip
                    show wJ _ _ _ _ _ _ _ _ _ _
                    refine wa_fall ⟨_, rfl⟩ ?_
                    refine wa_iconst ?_
                    refine wa_istore (n := 4) rfl ?_
                    refine wa_iconst ?_
                    refine wa_istore (n := 5) rfl ?_
                    refine wa_fall ⟨_, rfl⟩ ?_
                    exact wJ_S hz10 ⟨rfl, rfl, rfl, rfl, rfl, rfl, trivial⟩
                  · skip
                    refine ⟨rfl, ?_⟩
                    exact hzq
              · skip
                refine wa_iload_n (n := 1) rfl ?_
                refine wa_iconst ?_
                refine wa_icmpne (w_rg0 (by omega) (by omega)) (w_rg0 (by omega) (by omega)) ⟨_, rfl⟩ (fun c568 => ?_) (fun c568 => ?_)
                · skip
                  refine wa_iconst ?_
                  refine wa_fall ⟨_, rfl⟩ ?_
                  refine wa_zreturn rfl (Or.inl rfl) ?_
                  show wJ _ _ _ _ _ _ _ _ _ _
                  refine wa_ifeq (w_rg0 (by omega) (by omega)) ⟨_, rfl⟩ (fun c569 => ?_) (fun c569 => ?_)
                  · skip
                    exfalso; omega
                  · skip
                    exact absurd c569 (by omega)
                · skip
                  refine wa_fall ⟨_, rfl⟩ ?_
                  refine wa_iconst ?_
                  refine wa_goto ⟨_, rfl⟩ ?_
                  refine wa_zreturn rfl (Or.inr rfl) ?_
                  show wJ _ _ _ _ _ _ _ _ _ _
                  refine wa_ifeq (w_rg0 (by omega) (by omega)) ⟨_, rfl⟩ (fun c570 => ?_) (fun c570 => ?_)
                  · skip
                    exact absurd c570 (by omega)
                  · skip
                    refine wa_aload_n (n := 0) rfl ?_
                    refine wa_cv 237 rfl (wy_pr rfl) wt_237 (M2 := fun _ => False) rfl at_M_namesElement ⟨_, rfl⟩ rfl rfl ⟨trivial, trivial, (Or.inr ⟨wy_pr rfl, fun q => q⟩), trivial, trivial⟩ trivial (fun _ _ q => False.elim q) (wJ_mono hcal (fun o Z hz => hR o Z hz)) (fun oq571 Sq571 hp572 q571 => ?_)
                    rcases q571 with ⟨rfl, hz10⟩ | ⟨rfl, hzq⟩
                    · skip
                      show wJ _ _ _ _ _ _ _ _ _ _
                      refine wa_fall ⟨_, rfl⟩ ?_
                      refine wa_iconst ?_
                      refine wa_istore (n := 4) rfl ?_
                      refine wa_iconst ?_
                      refine wa_istore (n := 5) rfl ?_
                      refine wa_fall ⟨_, rfl⟩ ?_
                      exact wJ_S hz10 ⟨rfl, rfl, rfl, rfl, rfl, rfl, trivial⟩
                    · skip
                      refine ⟨rfl, ?_⟩
                      exact hzq
    · skip
      refine wa_iconst ?_
      refine wa_goto ⟨_, rfl⟩ ?_
      have ee0 : 1 = e0 := by rw [he0]; first | exact (if_pos (by omega)).symm | exact ((if_neg (by omega)).trans (if_pos (by omega))).symm | exact ((if_neg (by omega)).trans (if_neg (by omega))).symm
      refine wJ_top ee0 ?_
      have he0r : 0 ≤ e0 ∧ e0 ≤ 255 := by omega
      refine wb_pfi 237 rfl (wy_pr rfl) wt_237 wf_15_176 (n := 176) rfl ⟨(by omega), (by omega)⟩ ?_
      refine wa_aload_n (n := 0) rfl ?_
      refine wa_iload_n (n := 2) rfl ?_
      refine wa_iconst ?_
      refine wa_icmpne (w_rg0 (by omega) (by omega)) (w_rg0 (by omega) (by omega)) ⟨_, rfl⟩ (fun c573 => ?_) (fun c573 => ?_)
      · skip
        refine wa_aload_n (n := 0) rfl ?_
        refine wb_gfi 237 rfl (wy_pr rfl) wt_237 wf_15_176 (v := e0) (w_up_same _ _ _ _) (fun r574 => ?_)
        refine wa_fall ⟨_, rfl⟩ ?_
        have ees : e0 = es := by rw [hes]; first | exact (if_pos (by omega)).symm | exact (if_neg (by omega)).symm
        refine wJ_top ees ?_
        have hesr : 0 ≤ es ∧ es ≤ 255 := by omega
        refine wb_pfi 237 rfl (wy_pr rfl) wt_237 wf_15_176 (n := 176) rfl ⟨(by omega), (by omega)⟩ ?_
        refine wa_aload_n (n := 0) rfl ?_
        refine wa_aload_n (n := 0) rfl ?_
        refine wa_cv 237 rfl (wy_pr rfl) wt_237 (M2 := fun _ => False) rfl at_M_h ⟨_, rfl⟩ rfl rfl ⟨trivial, (Or.inr ⟨wy_pr rfl, fun q => q⟩), trivial, trivial⟩ ⟨(Or.inr ⟨wy_pr rfl, fun q => q⟩), trivial⟩ (fun _ _ q => False.elim q) ?_ (fun _ _ _ q => q)
        refine wa_aload_n (n := 0) rfl ?_
        refine wb_gfi 237 rfl (wy_pr rfl) wt_237 wf_15_152 (v := (2100 * t)) ((w_up_at (by decide)).trans ((w_up_at (by decide)).trans (mp))) (fun r575 => ?_)
        refine wa_aload_n (n := 0) rfl ?_
        refine wb_gf4 237 rfl (wy_pr rfl) wt_237 wf_15_134 (v := 359) wl_237_134 ?_
        refine wa_aload_n (n := 0) rfl ?_
        refine wb_gfi 237 rfl (wy_pr rfl) wt_237 wf_15_151 (v := t) ((w_up_at (by decide)).trans ((w_up_at (by decide)).trans (mt))) (fun r576 => ?_)
        refine wb_iald 359 rfl (wy_pr rfl) wt_359 (n := 2) ((w_up_slot (by decide)).trans ((w_up_slot (by decide)).trans ((ml_359 hM)))) (by omega) (by omega) (v := h) ((w_up_slot (by decide)).trans ((w_up_slot (by decide)).trans (mh))) (fun r577 => ?_)
        refine wa_iadd ?_
        refine wa_ireturn rfl ?_
        show wJ _ _ _ _ _ _ _ _ _ _
        refine wa_iconst ?_
        refine wa_isub ?_
        refine wa_aload_n (n := 0) rfl ?_
        refine wb_gfi 237 rfl (wy_pr rfl) wt_237 wf_15_176 (v := es) (w_up_same _ _ _ _) (fun r578 => ?_)
        refine wa_isub ?_
        rw [show ((((2100 * t) + h) - 1) - es) = 2100 * t + ba by omega]
        refine wb_pfi 237 rfl (wy_pr rfl) wt_237 wf_15_173 (n := 173) rfl ⟨(by omega), (by omega)⟩ ?_
        refine wa_aload_n (n := 0) rfl ?_
        refine wa_aload_n (n := 0) rfl ?_
        refine wb_gf4 237 rfl (wy_pr rfl) wt_237 wf_15_138 (v := 363) wl_237_138 ?_
        refine wa_aload_n (n := 0) rfl ?_
        refine wb_gfi 237 rfl (wy_pr rfl) wt_237 wf_15_173 (v := (2100 * t + ba)) (w_up_same _ _ _ _) (fun r579 => ?_)
        refine wb_iald 363 rfl (wy_pr rfl) wt_363 (n := 4200) ((w_up_slot (by decide)).trans ((w_up_slot (by decide)).trans ((w_up_slot (by decide)).trans ((ml_363 hM))))) (by omega) (by omega) (v := gk) ((w_up_slot (by decide)).trans ((w_up_slot (by decide)).trans ((w_up_slot (by decide)).trans (hgk)))) (fun r580 => ?_)
        refine wb_pfi 237 rfl (wy_pr rfl) wt_237 wf_15_174 (n := 174) rfl ⟨(by omega), (by omega)⟩ ?_
        refine wa_aload_n (n := 0) rfl ?_
        refine wa_aload_n (n := 0) rfl ?_
        refine wb_gf4 237 rfl (wy_pr rfl) wt_237 wf_15_139 (v := 364) wl_237_139 ?_
        refine wa_aload_n (n := 0) rfl ?_
        refine wb_gfi 237 rfl (wy_pr rfl) wt_237 wf_15_173 (v := (2100 * t + ba)) ((w_up_at (by decide)).trans (w_up_same _ _ _ _)) (fun r581 => ?_)
        refine wb_lald 364 rfl (wy_pr rfl) wt_364 (n := 4200) ((w_up_slot (by decide)).trans ((w_up_slot (by decide)).trans ((w_up_slot (by decide)).trans ((w_up_slot (by decide)).trans ((ml_364 hM)))))) (by omega) (by omega) (v := gb) ((w_up_slot (by decide)).trans ((w_up_slot (by decide)).trans ((w_up_slot (by decide)).trans ((w_up_slot (by decide)).trans (hgb))))) (fun r582 => ?_)
        refine wb_pfl 237 rfl (wy_pr rfl) wt_237 wf_15_175 (n := 175) rfl ⟨(by omega), (by omega)⟩ ?_
        refine wa_aload_n (n := 0) rfl ?_
        refine wa_iconst ?_
        refine wb_pfi 237 rfl (wy_pr rfl) wt_237 wf_15_177 (n := 177) rfl ⟨(by omega), (by omega)⟩ ?_
        refine wa_iload_n (n := 2) rfl ?_
        refine wa_iconst ?_
        refine wa_icmpeq (w_rg0 (by omega) (by omega)) (w_rg0 (by omega) (by omega)) ⟨_, rfl⟩ (fun c583 => ?_) (fun c583 => ?_)
        · skip
          refine wa_iconst ?_
          refine wa_goto ⟨_, rfl⟩ ?_
          refine wa_istore_n (n := 3) rfl ?_
          refine wa_iload_n (n := 3) rfl ?_
          refine wa_ifeq (w_rg0 (by omega) (by omega)) ⟨_, rfl⟩ (fun c584 => ?_) (fun c584 => ?_)
          · skip
            exact absurd c584 (by omega)
          · skip
            refine wa_aload_n (n := 0) rfl ?_
            refine wa_aload_n (n := 0) rfl ?_
            refine wb_gfi 237 rfl (wy_pr rfl) wt_237 wf_15_174 (v := gk) ((w_up_at (by decide)).trans ((w_up_at (by decide)).trans (w_up_same _ _ _ _))) (fun r585 => ?_)
            refine wa_cv 237 rfl (wy_pr rfl) wt_237 (M2 := fun _ => False) rfl at_M_hasShape ⟨_, rfl⟩ rfl rfl ⟨trivial, trivial, (Or.inr ⟨wy_pr rfl, fun q => q⟩), trivial, trivial⟩ trivial (fun _ _ q => False.elim q) ?_ (fun _ _ _ q => q)
            refine wa_iload_n (n := 1) rfl ?_
            refine wa_iconst ?_
            refine wa_icmpeq (w_rg0 (by omega) (by omega)) (w_rg0 (by omega) (by omega)) ⟨_, rfl⟩ (fun c586 => ?_) (fun c586 => ?_)
            · skip
              refine wa_iconst ?_
              refine wa_goto ⟨_, rfl⟩ ?_
              refine wa_zreturn rfl (Or.inr rfl) ?_
              show wJ _ _ _ _ _ _ _ _ _ _
              refine wa_ifeq (w_rg0 (by omega) (by omega)) ⟨_, rfl⟩ (fun c587 => ?_) (fun c587 => ?_)
              · skip
                exact absurd c587 (by omega)
              · skip
                refine wa_aload_n (n := 0) rfl ?_
                refine wa_cv 237 rfl (wy_pr rfl) wt_237 (M2 := fun _ => False) rfl at_M_namesElement ⟨_, rfl⟩ rfl rfl ⟨trivial, trivial, (Or.inr ⟨wy_pr rfl, fun q => q⟩), trivial, trivial⟩ trivial (fun _ _ q => False.elim q) (wJ_mono hcal (fun o Z hz => hR o Z hz)) (fun oq588 Sq588 hp589 q588 => ?_)
                rcases q588 with ⟨rfl, hz10⟩ | ⟨rfl, hzq⟩
                · skip
                  show wJ _ _ _ _ _ _ _ _ _ _
                  refine wa_fall ⟨_, rfl⟩ ?_
                  refine wa_iconst ?_
                  refine wa_istore (n := 4) rfl ?_
                  refine wa_iconst ?_
                  refine wa_istore (n := 5) rfl ?_
                  refine wa_fall ⟨_, rfl⟩ ?_
                  exact wJ_S hz10 ⟨rfl, rfl, rfl, rfl, rfl, rfl, trivial⟩
                · skip
                  refine ⟨rfl, ?_⟩
                  exact hzq
            · skip
              refine wa_iload_n (n := 1) rfl ?_
              refine wa_iconst ?_
              refine wa_icmpne (w_rg0 (by omega) (by omega)) (w_rg0 (by omega) (by omega)) ⟨_, rfl⟩ (fun c590 => ?_) (fun c590 => ?_)
              · skip
                refine wa_iconst ?_
                refine wa_fall ⟨_, rfl⟩ ?_
                refine wa_zreturn rfl (Or.inl rfl) ?_
                show wJ _ _ _ _ _ _ _ _ _ _
                refine wa_ifeq (w_rg0 (by omega) (by omega)) ⟨_, rfl⟩ (fun c591 => ?_) (fun c591 => ?_)
                · skip
                  exfalso; omega
                · skip
                  exact absurd c591 (by omega)
              · skip
                refine wa_fall ⟨_, rfl⟩ ?_
                refine wa_iconst ?_
                refine wa_goto ⟨_, rfl⟩ ?_
                refine wa_zreturn rfl (Or.inr rfl) ?_
                show wJ _ _ _ _ _ _ _ _ _ _
                refine wa_ifeq (w_rg0 (by omega) (by omega)) ⟨_, rfl⟩ (fun c592 => ?_) (fun c592 => ?_)
                · skip
                  exact absurd c592 (by omega)
                · skip
                  refine wa_aload_n (n := 0) rfl ?_
                  refine wa_cv 237 rfl (wy_pr rfl) wt_237 (M2 := fun _ => False) rfl at_M_namesElement ⟨_, rfl⟩ rfl rfl ⟨trivial, trivial, (Or.inr ⟨wy_pr rfl, fun q => q⟩), trivial, trivial⟩ trivial (fun _ _ q => False.elim q) (wJ_mono hcal (fun o Z hz => hR o Z hz)) (fun oq593 Sq593 hp594 q593 => ?_)
                  rcases q593 with ⟨rfl, hz10⟩ | ⟨rfl, hzq⟩
                  · skip
                    show wJ _ _ _ _ _ _ _ _ _ _
                    refine wa_fall ⟨_, rfl⟩ ?_
                    refine wa_iconst ?_
                    refine wa_istore (n := 4) rfl ?_
                    refine wa_iconst ?_
                    refine wa_istore (n := 5) rfl ?_
                    refine wa_fall ⟨_, rfl⟩ ?_
                    exact wJ_S hz10 ⟨rfl, rfl, rfl, rfl, rfl, rfl, trivial⟩
                  · skip
                    refine ⟨rfl, ?_⟩
                    exact hzq
        · skip
          refine wa_iload_n (n := 2) rfl ?_
          refine wa_iconst ?_
          refine wa_icmpne (w_rg0 (by omega) (by omega)) (w_rg0 (by omega) (by omega)) ⟨_, rfl⟩ (fun c595 => ?_) (fun c595 => ?_)
          · skip
            refine wa_iconst ?_
            refine wa_fall ⟨_, rfl⟩ ?_
            refine wa_istore_n (n := 3) rfl ?_
            refine wa_iload_n (n := 3) rfl ?_
            refine wa_ifeq (w_rg0 (by omega) (by omega)) ⟨_, rfl⟩ (fun c596 => ?_) (fun c596 => ?_)
            · skip
              exfalso; omega
            · skip
              exact absurd c596 (by omega)
          · skip
            refine wa_fall ⟨_, rfl⟩ ?_
            refine wa_iconst ?_
            refine wa_goto ⟨_, rfl⟩ ?_
            refine wa_istore_n (n := 3) rfl ?_
            refine wa_iload_n (n := 3) rfl ?_
            refine wa_ifeq (w_rg0 (by omega) (by omega)) ⟨_, rfl⟩ (fun c597 => ?_) (fun c597 => ?_)
            · skip
              exact absurd c597 (by omega)
            · skip
              refine wa_aload_n (n := 0) rfl ?_
              refine wa_aload_n (n := 0) rfl ?_
              refine wb_gfi 237 rfl (wy_pr rfl) wt_237 wf_15_174 (v := gk) ((w_up_at (by decide)).trans ((w_up_at (by decide)).trans (w_up_same _ _ _ _))) (fun r598 => ?_)
              refine wa_cv 237 rfl (wy_pr rfl) wt_237 (M2 := fun _ => False) rfl at_M_hasShape ⟨_, rfl⟩ rfl rfl ⟨trivial, trivial, (Or.inr ⟨wy_pr rfl, fun q => q⟩), trivial, trivial⟩ trivial (fun _ _ q => False.elim q) ?_ (fun _ _ _ q => q)
              refine wa_iload_n (n := 1) rfl ?_
              refine wa_iconst ?_
              refine wa_icmpeq (w_rg0 (by omega) (by omega)) (w_rg0 (by omega) (by omega)) ⟨_, rfl⟩ (fun c599 => ?_) (fun c599 => ?_)
              · skip
                refine wa_iconst ?_
                refine wa_goto ⟨_, rfl⟩ ?_
                refine wa_zreturn rfl (Or.inr rfl) ?_
                show wJ _ _ _ _ _ _ _ _ _ _
                refine wa_ifeq (w_rg0 (by omega) (by omega)) ⟨_, rfl⟩ (fun c600 => ?_) (fun c600 => ?_)
                · skip
                  exact absurd c600 (by omega)
                · skip
                  refine wa_aload_n (n := 0) rfl ?_
                  refine wa_cv 237 rfl (wy_pr rfl) wt_237 (M2 := fun _ => False) rfl at_M_namesElement ⟨_, rfl⟩ rfl rfl ⟨trivial, trivial, (Or.inr ⟨wy_pr rfl, fun q => q⟩), trivial, trivial⟩ trivial (fun _ _ q => False.elim q) (wJ_mono hcal (fun o Z hz => hR o Z hz)) (fun oq601 Sq601 hp602 q601 => ?_)
                  rcases q601 with ⟨rfl, hz10⟩ | ⟨rfl, hzq⟩
                  · skip
                    show wJ _ _ _ _ _ _ _ _ _ _
                    refine wa_fall ⟨_, rfl⟩ ?_
                    refine wa_iconst ?_
                    refine wa_istore (n := 4) rfl ?_
                    refine wa_iconst ?_
                    refine wa_istore (n := 5) rfl ?_
                    refine wa_fall ⟨_, rfl⟩ ?_
                    exact wJ_S hz10 ⟨rfl, rfl, rfl, rfl, rfl, rfl, trivial⟩
                  · skip
                    refine ⟨rfl, ?_⟩
                    exact hzq
              · skip
                refine wa_iload_n (n := 1) rfl ?_
                refine wa_iconst ?_
                refine wa_icmpne (w_rg0 (by omega) (by omega)) (w_rg0 (by omega) (by omega)) ⟨_, rfl⟩ (fun c603 => ?_) (fun c603 => ?_)
                · skip
                  refine wa_iconst ?_
                  refine wa_fall ⟨_, rfl⟩ ?_
                  refine wa_zreturn rfl (Or.inl rfl) ?_
                  show wJ _ _ _ _ _ _ _ _ _ _
                  refine wa_ifeq (w_rg0 (by omega) (by omega)) ⟨_, rfl⟩ (fun c604 => ?_) (fun c604 => ?_)
                  · skip
                    exfalso; omega
                  · skip
                    exact absurd c604 (by omega)
                · skip
                  refine wa_fall ⟨_, rfl⟩ ?_
                  refine wa_iconst ?_
                  refine wa_goto ⟨_, rfl⟩ ?_
                  refine wa_zreturn rfl (Or.inr rfl) ?_
                  show wJ _ _ _ _ _ _ _ _ _ _
                  refine wa_ifeq (w_rg0 (by omega) (by omega)) ⟨_, rfl⟩ (fun c605 => ?_) (fun c605 => ?_)
                  · skip
                    exact absurd c605 (by omega)
                  · skip
                    refine wa_aload_n (n := 0) rfl ?_
                    refine wa_cv 237 rfl (wy_pr rfl) wt_237 (M2 := fun _ => False) rfl at_M_namesElement ⟨_, rfl⟩ rfl rfl ⟨trivial, trivial, (Or.inr ⟨wy_pr rfl, fun q => q⟩), trivial, trivial⟩ trivial (fun _ _ q => False.elim q) (wJ_mono hcal (fun o Z hz => hR o Z hz)) (fun oq606 Sq606 hp607 q606 => ?_)
                    rcases q606 with ⟨rfl, hz10⟩ | ⟨rfl, hzq⟩
                    · skip
                      show wJ _ _ _ _ _ _ _ _ _ _
                      refine wa_fall ⟨_, rfl⟩ ?_
                      refine wa_iconst ?_
                      refine wa_istore (n := 4) rfl ?_
                      refine wa_iconst ?_
                      refine wa_istore (n := 5) rfl ?_
                      refine wa_fall ⟨_, rfl⟩ ?_
                      exact wJ_S hz10 ⟨rfl, rfl, rfl, rfl, rfl, rfl, trivial⟩
                    · skip
                      refine ⟨rfl, ?_⟩
                      exact hzq
      · skip
        refine wa_iconst ?_
        refine wa_goto ⟨_, rfl⟩ ?_
        have ees : 2 = es := by rw [hes]; first | exact (if_pos (by omega)).symm | exact (if_neg (by omega)).symm
        refine wJ_top ees ?_
        have hesr : 0 ≤ es ∧ es ≤ 255 := by omega
        refine wb_pfi 237 rfl (wy_pr rfl) wt_237 wf_15_176 (n := 176) rfl ⟨(by omega), (by omega)⟩ ?_
        refine wa_aload_n (n := 0) rfl ?_
        refine wa_aload_n (n := 0) rfl ?_
        refine wa_cv 237 rfl (wy_pr rfl) wt_237 (M2 := fun _ => False) rfl at_M_h ⟨_, rfl⟩ rfl rfl ⟨trivial, (Or.inr ⟨wy_pr rfl, fun q => q⟩), trivial, trivial⟩ ⟨(Or.inr ⟨wy_pr rfl, fun q => q⟩), trivial⟩ (fun _ _ q => False.elim q) ?_ (fun _ _ _ q => q)
        refine wa_aload_n (n := 0) rfl ?_
        refine wb_gfi 237 rfl (wy_pr rfl) wt_237 wf_15_152 (v := (2100 * t)) ((w_up_at (by decide)).trans ((w_up_at (by decide)).trans (mp))) (fun r608 => ?_)
        refine wa_aload_n (n := 0) rfl ?_
        refine wb_gf4 237 rfl (wy_pr rfl) wt_237 wf_15_134 (v := 359) wl_237_134 ?_
        refine wa_aload_n (n := 0) rfl ?_
        refine wb_gfi 237 rfl (wy_pr rfl) wt_237 wf_15_151 (v := t) ((w_up_at (by decide)).trans ((w_up_at (by decide)).trans (mt))) (fun r609 => ?_)
        refine wb_iald 359 rfl (wy_pr rfl) wt_359 (n := 2) ((w_up_slot (by decide)).trans ((w_up_slot (by decide)).trans ((ml_359 hM)))) (by omega) (by omega) (v := h) ((w_up_slot (by decide)).trans ((w_up_slot (by decide)).trans (mh))) (fun r610 => ?_)
        refine wa_iadd ?_
        refine wa_ireturn rfl ?_
        show wJ _ _ _ _ _ _ _ _ _ _
        refine wa_iconst ?_
        refine wa_isub ?_
        refine wa_aload_n (n := 0) rfl ?_
        refine wb_gfi 237 rfl (wy_pr rfl) wt_237 wf_15_176 (v := es) (w_up_same _ _ _ _) (fun r611 => ?_)
        refine wa_isub ?_
        rw [show ((((2100 * t) + h) - 1) - es) = 2100 * t + ba by omega]
        refine wb_pfi 237 rfl (wy_pr rfl) wt_237 wf_15_173 (n := 173) rfl ⟨(by omega), (by omega)⟩ ?_
        refine wa_aload_n (n := 0) rfl ?_
        refine wa_aload_n (n := 0) rfl ?_
        refine wb_gf4 237 rfl (wy_pr rfl) wt_237 wf_15_138 (v := 363) wl_237_138 ?_
        refine wa_aload_n (n := 0) rfl ?_
        refine wb_gfi 237 rfl (wy_pr rfl) wt_237 wf_15_173 (v := (2100 * t + ba)) (w_up_same _ _ _ _) (fun r612 => ?_)
        refine wb_iald 363 rfl (wy_pr rfl) wt_363 (n := 4200) ((w_up_slot (by decide)).trans ((w_up_slot (by decide)).trans ((w_up_slot (by decide)).trans ((ml_363 hM))))) (by omega) (by omega) (v := gk) ((w_up_slot (by decide)).trans ((w_up_slot (by decide)).trans ((w_up_slot (by decide)).trans (hgk)))) (fun r613 => ?_)
        refine wb_pfi 237 rfl (wy_pr rfl) wt_237 wf_15_174 (n := 174) rfl ⟨(by omega), (by omega)⟩ ?_
        refine wa_aload_n (n := 0) rfl ?_
        refine wa_aload_n (n := 0) rfl ?_
        refine wb_gf4 237 rfl (wy_pr rfl) wt_237 wf_15_139 (v := 364) wl_237_139 ?_
        refine wa_aload_n (n := 0) rfl ?_
        refine wb_gfi 237 rfl (wy_pr rfl) wt_237 wf_15_173 (v := (2100 * t + ba)) ((w_up_at (by decide)).trans (w_up_same _ _ _ _)) (fun r614 => ?_)
        refine wb_lald 364 rfl (wy_pr rfl) wt_364 (n := 4200) ((w_up_slot (by decide)).trans ((w_up_slot (by decide)).trans ((w_up_slot (by decide)).trans ((w_up_slot (by decide)).trans ((ml_364 hM)))))) (by omega) (by omega) (v := gb) ((w_up_slot (by decide)).trans ((w_up_slot (by decide)).trans ((w_up_slot (by decide)).trans ((w_up_slot (by decide)).trans (hgb))))) (fun r615 => ?_)
        refine wb_pfl 237 rfl (wy_pr rfl) wt_237 wf_15_175 (n := 175) rfl ⟨(by omega), (by omega)⟩ ?_
        refine wa_aload_n (n := 0) rfl ?_
        refine wa_iconst ?_
        refine wb_pfi 237 rfl (wy_pr rfl) wt_237 wf_15_177 (n := 177) rfl ⟨(by omega), (by omega)⟩ ?_
        refine wa_iload_n (n := 2) rfl ?_
        refine wa_iconst ?_
        refine wa_icmpeq (w_rg0 (by omega) (by omega)) (w_rg0 (by omega) (by omega)) ⟨_, rfl⟩ (fun c616 => ?_) (fun c616 => ?_)
        · skip
          refine wa_iconst ?_
          refine wa_goto ⟨_, rfl⟩ ?_
          refine wa_istore_n (n := 3) rfl ?_
          refine wa_iload_n (n := 3) rfl ?_
          refine wa_ifeq (w_rg0 (by omega) (by omega)) ⟨_, rfl⟩ (fun c617 => ?_) (fun c617 => ?_)
          · skip
            exact absurd c617 (by omega)
          · skip
            refine wa_aload_n (n := 0) rfl ?_
            refine wa_aload_n (n := 0) rfl ?_
            refine wb_gfi 237 rfl (wy_pr rfl) wt_237 wf_15_174 (v := gk) ((w_up_at (by decide)).trans ((w_up_at (by decide)).trans (w_up_same _ _ _ _))) (fun r618 => ?_)
            refine wa_cv 237 rfl (wy_pr rfl) wt_237 (M2 := fun _ => False) rfl at_M_hasShape ⟨_, rfl⟩ rfl rfl ⟨trivial, trivial, (Or.inr ⟨wy_pr rfl, fun q => q⟩), trivial, trivial⟩ trivial (fun _ _ q => False.elim q) ?_ (fun _ _ _ q => q)
            refine wa_iload_n (n := 1) rfl ?_
            refine wa_iconst ?_
            refine wa_icmpeq (w_rg0 (by omega) (by omega)) (w_rg0 (by omega) (by omega)) ⟨_, rfl⟩ (fun c619 => ?_) (fun c619 => ?_)
            · skip
              refine wa_iconst ?_
              refine wa_goto ⟨_, rfl⟩ ?_
              refine wa_zreturn rfl (Or.inr rfl) ?_
              show wJ _ _ _ _ _ _ _ _ _ _
              refine wa_ifeq (w_rg0 (by omega) (by omega)) ⟨_, rfl⟩ (fun c620 => ?_) (fun c620 => ?_)
              · skip
                exact absurd c620 (by omega)
              · skip
                refine wa_aload_n (n := 0) rfl ?_
                refine wa_cv 237 rfl (wy_pr rfl) wt_237 (M2 := fun _ => False) rfl at_M_namesElement ⟨_, rfl⟩ rfl rfl ⟨trivial, trivial, (Or.inr ⟨wy_pr rfl, fun q => q⟩), trivial, trivial⟩ trivial (fun _ _ q => False.elim q) (wJ_mono hcal (fun o Z hz => hR o Z hz)) (fun oq621 Sq621 hp622 q621 => ?_)
                rcases q621 with ⟨rfl, hz10⟩ | ⟨rfl, hzq⟩
                · skip
                  show wJ _ _ _ _ _ _ _ _ _ _
                  refine wa_fall ⟨_, rfl⟩ ?_
                  refine wa_iconst ?_
                  refine wa_istore (n := 4) rfl ?_
                  refine wa_iconst ?_
                  refine wa_istore (n := 5) rfl ?_
                  refine wa_fall ⟨_, rfl⟩ ?_
                  exact wJ_S hz10 ⟨rfl, rfl, rfl, rfl, rfl, rfl, trivial⟩
                · skip
                  refine ⟨rfl, ?_⟩
                  exact hzq
            · skip
              refine wa_iload_n (n := 1) rfl ?_
              refine wa_iconst ?_
              refine wa_icmpne (w_rg0 (by omega) (by omega)) (w_rg0 (by omega) (by omega)) ⟨_, rfl⟩ (fun c623 => ?_) (fun c623 => ?_)
              · skip
                refine wa_iconst ?_
                refine wa_fall ⟨_, rfl⟩ ?_
                refine wa_zreturn rfl (Or.inl rfl) ?_
                show wJ _ _ _ _ _ _ _ _ _ _
                refine wa_ifeq (w_rg0 (by omega) (by omega)) ⟨_, rfl⟩ (fun c624 => ?_) (fun c624 => ?_)
                · skip
                  exfalso; omega
                · skip
                  exact absurd c624 (by omega)
              · skip
                refine wa_fall ⟨_, rfl⟩ ?_
                refine wa_iconst ?_
                refine wa_goto ⟨_, rfl⟩ ?_
                refine wa_zreturn rfl (Or.inr rfl) ?_
                show wJ _ _ _ _ _ _ _ _ _ _
                refine wa_ifeq (w_rg0 (by omega) (by omega)) ⟨_, rfl⟩ (fun c625 => ?_) (fun c625 => ?_)
                · skip
                  exact absurd c625 (by omega)
                · skip
                  refine wa_aload_n (n := 0) rfl ?_
                  refine wa_cv 237 rfl (wy_pr rfl) wt_237 (M2 := fun _ => False) rfl at_M_namesElement ⟨_, rfl⟩ rfl rfl ⟨trivial, trivial, (Or.inr ⟨wy_pr rfl, fun q => q⟩), trivial, trivial⟩ trivial (fun _ _ q => False.elim q) (wJ_mono hcal (fun o Z hz => hR o Z hz)) (fun oq626 Sq626 hp627 q626 => ?_)
                  rcases q626 with ⟨rfl, hz10⟩ | ⟨rfl, hzq⟩
                  · skip
                    show wJ _ _ _ _ _ _ _ _ _ _
                    refine wa_fall ⟨_, rfl⟩ ?_
                    refine wa_iconst ?_
                    refine wa_istore (n := 4) rfl ?_
                    refine wa_iconst ?_
                    refine wa_istore (n := 5) rfl ?_
                    refine wa_fall ⟨_, rfl⟩ ?_
                    exact wJ_S hz10 ⟨rfl, rfl, rfl, rfl, rfl, rfl, trivial⟩
                  · skip
                    refine ⟨rfl, ?_⟩
                    exact hzq
        · skip
          refine wa_iload_n (n := 2) rfl ?_
          refine wa_iconst ?_
          refine wa_icmpne (w_rg0 (by omega) (by omega)) (w_rg0 (by omega) (by omega)) ⟨_, rfl⟩ (fun c628 => ?_) (fun c628 => ?_)
          · skip
            refine wa_iconst ?_
            refine wa_fall ⟨_, rfl⟩ ?_
            refine wa_istore_n (n := 3) rfl ?_
            refine wa_iload_n (n := 3) rfl ?_
            refine wa_ifeq (w_rg0 (by omega) (by omega)) ⟨_, rfl⟩ (fun c629 => ?_) (fun c629 => ?_)
            · skip
              exfalso; omega
            · skip
              exact absurd c629 (by omega)
          · skip
            refine wa_fall ⟨_, rfl⟩ ?_
            refine wa_iconst ?_
            refine wa_goto ⟨_, rfl⟩ ?_
            refine wa_istore_n (n := 3) rfl ?_
            refine wa_iload_n (n := 3) rfl ?_
            refine wa_ifeq (w_rg0 (by omega) (by omega)) ⟨_, rfl⟩ (fun c630 => ?_) (fun c630 => ?_)
            · skip
              exact absurd c630 (by omega)
            · skip
              refine wa_aload_n (n := 0) rfl ?_
              refine wa_aload_n (n := 0) rfl ?_
              refine wb_gfi 237 rfl (wy_pr rfl) wt_237 wf_15_174 (v := gk) ((w_up_at (by decide)).trans ((w_up_at (by decide)).trans (w_up_same _ _ _ _))) (fun r631 => ?_)
              refine wa_cv 237 rfl (wy_pr rfl) wt_237 (M2 := fun _ => False) rfl at_M_hasShape ⟨_, rfl⟩ rfl rfl ⟨trivial, trivial, (Or.inr ⟨wy_pr rfl, fun q => q⟩), trivial, trivial⟩ trivial (fun _ _ q => False.elim q) ?_ (fun _ _ _ q => q)
              refine wa_iload_n (n := 1) rfl ?_
              refine wa_iconst ?_
              refine wa_icmpeq (w_rg0 (by omega) (by omega)) (w_rg0 (by omega) (by omega)) ⟨_, rfl⟩ (fun c632 => ?_) (fun c632 => ?_)
              · skip
                refine wa_iconst ?_
                refine wa_goto ⟨_, rfl⟩ ?_
                refine wa_zreturn rfl (Or.inr rfl) ?_
                show wJ _ _ _ _ _ _ _ _ _ _
                refine wa_ifeq (w_rg0 (by omega) (by omega)) ⟨_, rfl⟩ (fun c633 => ?_) (fun c633 => ?_)
                · skip
                  exact absurd c633 (by omega)
                · skip
                  refine wa_aload_n (n := 0) rfl ?_
                  refine wa_cv 237 rfl (wy_pr rfl) wt_237 (M2 := fun _ => False) rfl at_M_namesElement ⟨_, rfl⟩ rfl rfl ⟨trivial, trivial, (Or.inr ⟨wy_pr rfl, fun q => q⟩), trivial, trivial⟩ trivial (fun _ _ q => False.elim q) (wJ_mono hcal (fun o Z hz => hR o Z hz)) (fun oq634 Sq634 hp635 q634 => ?_)
                  rcases q634 with ⟨rfl, hz10⟩ | ⟨rfl, hzq⟩
                  · skip
                    show wJ _ _ _ _ _ _ _ _ _ _
                    refine wa_fall ⟨_, rfl⟩ ?_
                    refine wa_iconst ?_
                    refine wa_istore (n := 4) rfl ?_
                    refine wa_iconst ?_
                    refine wa_istore (n := 5) rfl ?_
                    refine wa_fall ⟨_, rfl⟩ ?_
                    exact wJ_S hz10 ⟨rfl, rfl, rfl, rfl, rfl, rfl, trivial⟩
                  · skip
                    refine ⟨rfl, ?_⟩
                    exact hzq
              · skip
                refine wa_iload_n (n := 1) rfl ?_
                refine wa_iconst ?_
                refine wa_icmpne (w_rg0 (by omega) (by omega)) (w_rg0 (by omega) (by omega)) ⟨_, rfl⟩ (fun c636 => ?_) (fun c636 => ?_)
                · skip
                  refine wa_iconst ?_
                  refine wa_fall ⟨_, rfl⟩ ?_
                  refine wa_zreturn rfl (Or.inl rfl) ?_
                  show wJ _ _ _ _ _ _ _ _ _ _
                  refine wa_ifeq (w_rg0 (by omega) (by omega)) ⟨_, rfl⟩ (fun c637 => ?_) (fun c637 => ?_)
                  · skip
                    exfalso; omega
                  · skip
                    exact absurd c637 (by omega)
                · skip
                  refine wa_fall ⟨_, rfl⟩ ?_
                  refine wa_iconst ?_
                  refine wa_goto ⟨_, rfl⟩ ?_
                  refine wa_zreturn rfl (Or.inr rfl) ?_
                  show wJ _ _ _ _ _ _ _ _ _ _
                  refine wa_ifeq (w_rg0 (by omega) (by omega)) ⟨_, rfl⟩ (fun c638 => ?_) (fun c638 => ?_)
                  · skip
                    exact absurd c638 (by omega)
                  · skip
                    refine wa_aload_n (n := 0) rfl ?_
                    refine wa_cv 237 rfl (wy_pr rfl) wt_237 (M2 := fun _ => False) rfl at_M_namesElement ⟨_, rfl⟩ rfl rfl ⟨trivial, trivial, (Or.inr ⟨wy_pr rfl, fun q => q⟩), trivial, trivial⟩ trivial (fun _ _ q => False.elim q) (wJ_mono hcal (fun o Z hz => hR o Z hz)) (fun oq639 Sq639 hp640 q639 => ?_)
                    rcases q639 with ⟨rfl, hz10⟩ | ⟨rfl, hzq⟩
                    · skip
                      show wJ _ _ _ _ _ _ _ _ _ _
                      refine wa_fall ⟨_, rfl⟩ ?_
                      refine wa_iconst ?_
                      refine wa_istore (n := 4) rfl ?_
                      refine wa_iconst ?_
                      refine wa_istore (n := 5) rfl ?_
                      refine wa_fall ⟨_, rfl⟩ ?_
                      exact wJ_S hz10 ⟨rfl, rfl, rfl, rfl, rfl, rfl, trivial⟩
                    · skip
                      refine ⟨rfl, ?_⟩
                      exact hzq
  · skip
    refine wa_iconst ?_
    refine wa_goto ⟨_, rfl⟩ ?_
    have ee0 : 0 = e0 := by rw [he0]; first | exact (if_pos (by omega)).symm | exact ((if_neg (by omega)).trans (if_pos (by omega))).symm | exact ((if_neg (by omega)).trans (if_neg (by omega))).symm
    refine wJ_top ee0 ?_
    have he0r : 0 ≤ e0 ∧ e0 ≤ 255 := by omega
    refine wb_pfi 237 rfl (wy_pr rfl) wt_237 wf_15_176 (n := 176) rfl ⟨(by omega), (by omega)⟩ ?_
    refine wa_aload_n (n := 0) rfl ?_
    refine wa_iload_n (n := 2) rfl ?_
    refine wa_iconst ?_
    refine wa_icmpne (w_rg0 (by omega) (by omega)) (w_rg0 (by omega) (by omega)) ⟨_, rfl⟩ (fun c641 => ?_) (fun c641 => ?_)
    · skip
      refine wa_aload_n (n := 0) rfl ?_
      refine wb_gfi 237 rfl (wy_pr rfl) wt_237 wf_15_176 (v := e0) (w_up_same _ _ _ _) (fun r642 => ?_)
      refine wa_fall ⟨_, rfl⟩ ?_
      have ees : e0 = es := by rw [hes]; first | exact (if_pos (by omega)).symm | exact (if_neg (by omega)).symm
      refine wJ_top ees ?_
      have hesr : 0 ≤ es ∧ es ≤ 255 := by omega
      refine wb_pfi 237 rfl (wy_pr rfl) wt_237 wf_15_176 (n := 176) rfl ⟨(by omega), (by omega)⟩ ?_
      refine wa_aload_n (n := 0) rfl ?_
      refine wa_aload_n (n := 0) rfl ?_
      refine wa_cv 237 rfl (wy_pr rfl) wt_237 (M2 := fun _ => False) rfl at_M_h ⟨_, rfl⟩ rfl rfl ⟨trivial, (Or.inr ⟨wy_pr rfl, fun q => q⟩), trivial, trivial⟩ ⟨(Or.inr ⟨wy_pr rfl, fun q => q⟩), trivial⟩ (fun _ _ q => False.elim q) ?_ (fun _ _ _ q => q)
      refine wa_aload_n (n := 0) rfl ?_
      refine wb_gfi 237 rfl (wy_pr rfl) wt_237 wf_15_152 (v := (2100 * t)) ((w_up_at (by decide)).trans ((w_up_at (by decide)).trans (mp))) (fun r643 => ?_)
      refine wa_aload_n (n := 0) rfl ?_
      refine wb_gf4 237 rfl (wy_pr rfl) wt_237 wf_15_134 (v := 359) wl_237_134 ?_
      refine wa_aload_n (n := 0) rfl ?_
      refine wb_gfi 237 rfl (wy_pr rfl) wt_237 wf_15_151 (v := t) ((w_up_at (by decide)).trans ((w_up_at (by decide)).trans (mt))) (fun r644 => ?_)
      refine wb_iald 359 rfl (wy_pr rfl) wt_359 (n := 2) ((w_up_slot (by decide)).trans ((w_up_slot (by decide)).trans ((ml_359 hM)))) (by omega) (by omega) (v := h) ((w_up_slot (by decide)).trans ((w_up_slot (by decide)).trans (mh))) (fun r645 => ?_)
      refine wa_iadd ?_
      refine wa_ireturn rfl ?_
      show wJ _ _ _ _ _ _ _ _ _ _
      refine wa_iconst ?_
      refine wa_isub ?_
      refine wa_aload_n (n := 0) rfl ?_
      refine wb_gfi 237 rfl (wy_pr rfl) wt_237 wf_15_176 (v := es) (w_up_same _ _ _ _) (fun r646 => ?_)
      refine wa_isub ?_
      rw [show ((((2100 * t) + h) - 1) - es) = 2100 * t + ba by omega]
      refine wb_pfi 237 rfl (wy_pr rfl) wt_237 wf_15_173 (n := 173) rfl ⟨(by omega), (by omega)⟩ ?_
      refine wa_aload_n (n := 0) rfl ?_
      refine wa_aload_n (n := 0) rfl ?_
      refine wb_gf4 237 rfl (wy_pr rfl) wt_237 wf_15_138 (v := 363) wl_237_138 ?_
      refine wa_aload_n (n := 0) rfl ?_
      refine wb_gfi 237 rfl (wy_pr rfl) wt_237 wf_15_173 (v := (2100 * t + ba)) (w_up_same _ _ _ _) (fun r647 => ?_)
      refine wb_iald 363 rfl (wy_pr rfl) wt_363 (n := 4200) ((w_up_slot (by decide)).trans ((w_up_slot (by decide)).trans ((w_up_slot (by decide)).trans ((ml_363 hM))))) (by omega) (by omega) (v := gk) ((w_up_slot (by decide)).trans ((w_up_slot (by decide)).trans ((w_up_slot (by decide)).trans (hgk)))) (fun r648 => ?_)
      refine wb_pfi 237 rfl (wy_pr rfl) wt_237 wf_15_174 (n := 174) rfl ⟨(by omega), (by omega)⟩ ?_
      refine wa_aload_n (n := 0) rfl ?_
      refine wa_aload_n (n := 0) rfl ?_
      refine wb_gf4 237 rfl (wy_pr rfl) wt_237 wf_15_139 (v := 364) wl_237_139 ?_
      refine wa_aload_n (n := 0) rfl ?_
      refine wb_gfi 237 rfl (wy_pr rfl) wt_237 wf_15_173 (v := (2100 * t + ba)) ((w_up_at (by decide)).trans (w_up_same _ _ _ _)) (fun r649 => ?_)
      refine wb_lald 364 rfl (wy_pr rfl) wt_364 (n := 4200) ((w_up_slot (by decide)).trans ((w_up_slot (by decide)).trans ((w_up_slot (by decide)).trans ((w_up_slot (by decide)).trans ((ml_364 hM)))))) (by omega) (by omega) (v := gb) ((w_up_slot (by decide)).trans ((w_up_slot (by decide)).trans ((w_up_slot (by decide)).trans ((w_up_slot (by decide)).trans (hgb))))) (fun r650 => ?_)
      refine wb_pfl 237 rfl (wy_pr rfl) wt_237 wf_15_175 (n := 175) rfl ⟨(by omega), (by omega)⟩ ?_
      refine wa_aload_n (n := 0) rfl ?_
      refine wa_iconst ?_
      refine wb_pfi 237 rfl (wy_pr rfl) wt_237 wf_15_177 (n := 177) rfl ⟨(by omega), (by omega)⟩ ?_
      refine wa_iload_n (n := 2) rfl ?_
      refine wa_iconst ?_
      refine wa_icmpeq (w_rg0 (by omega) (by omega)) (w_rg0 (by omega) (by omega)) ⟨_, rfl⟩ (fun c651 => ?_) (fun c651 => ?_)
      · skip
        refine wa_iconst ?_
        refine wa_goto ⟨_, rfl⟩ ?_
        refine wa_istore_n (n := 3) rfl ?_
        refine wa_iload_n (n := 3) rfl ?_
        refine wa_ifeq (w_rg0 (by omega) (by omega)) ⟨_, rfl⟩ (fun c652 => ?_) (fun c652 => ?_)
        · skip
          exact absurd c652 (by omega)
        · skip
          refine wa_aload_n (n := 0) rfl ?_
          refine wa_aload_n (n := 0) rfl ?_
          refine wb_gfi 237 rfl (wy_pr rfl) wt_237 wf_15_174 (v := gk) ((w_up_at (by decide)).trans ((w_up_at (by decide)).trans (w_up_same _ _ _ _))) (fun r653 => ?_)
          refine wa_cv 237 rfl (wy_pr rfl) wt_237 (M2 := fun _ => False) rfl at_M_hasShape ⟨_, rfl⟩ rfl rfl ⟨trivial, trivial, (Or.inr ⟨wy_pr rfl, fun q => q⟩), trivial, trivial⟩ trivial (fun _ _ q => False.elim q) ?_ (fun _ _ _ q => q)
          refine wa_iload_n (n := 1) rfl ?_
          refine wa_iconst ?_
          refine wa_icmpeq (w_rg0 (by omega) (by omega)) (w_rg0 (by omega) (by omega)) ⟨_, rfl⟩ (fun c654 => ?_) (fun c654 => ?_)
          · skip
            refine wa_iconst ?_
            refine wa_goto ⟨_, rfl⟩ ?_
            refine wa_zreturn rfl (Or.inr rfl) ?_
            show wJ _ _ _ _ _ _ _ _ _ _
            refine wa_ifeq (w_rg0 (by omega) (by omega)) ⟨_, rfl⟩ (fun c655 => ?_) (fun c655 => ?_)
            · skip
              exact absurd c655 (by omega)
            · skip
              refine wa_aload_n (n := 0) rfl ?_
              refine wa_cv 237 rfl (wy_pr rfl) wt_237 (M2 := fun _ => False) rfl at_M_namesElement ⟨_, rfl⟩ rfl rfl ⟨trivial, trivial, (Or.inr ⟨wy_pr rfl, fun q => q⟩), trivial, trivial⟩ trivial (fun _ _ q => False.elim q) (wJ_mono hcal (fun o Z hz => hR o Z hz)) (fun oq656 Sq656 hp657 q656 => ?_)
              rcases q656 with ⟨rfl, hz10⟩ | ⟨rfl, hzq⟩
              · skip
                show wJ _ _ _ _ _ _ _ _ _ _
                refine wa_fall ⟨_, rfl⟩ ?_
                refine wa_iconst ?_
                refine wa_istore (n := 4) rfl ?_
                refine wa_iconst ?_
                refine wa_istore (n := 5) rfl ?_
                refine wa_fall ⟨_, rfl⟩ ?_
                exact wJ_S hz10 ⟨rfl, rfl, rfl, rfl, rfl, rfl, trivial⟩
              · skip
                refine ⟨rfl, ?_⟩
                exact hzq
          · skip
            refine wa_iload_n (n := 1) rfl ?_
            refine wa_iconst ?_
            refine wa_icmpne (w_rg0 (by omega) (by omega)) (w_rg0 (by omega) (by omega)) ⟨_, rfl⟩ (fun c658 => ?_) (fun c658 => ?_)
            · skip
              refine wa_iconst ?_
              refine wa_fall ⟨_, rfl⟩ ?_
              refine wa_zreturn rfl (Or.inl rfl) ?_
              show wJ _ _ _ _ _ _ _ _ _ _
              refine wa_ifeq (w_rg0 (by omega) (by omega)) ⟨_, rfl⟩ (fun c659 => ?_) (fun c659 => ?_)
              · skip
                exfalso; omega
              · skip
                exact absurd c659 (by omega)
            · skip
              refine wa_fall ⟨_, rfl⟩ ?_
              refine wa_iconst ?_
              refine wa_goto ⟨_, rfl⟩ ?_
              refine wa_zreturn rfl (Or.inr rfl) ?_
              show wJ _ _ _ _ _ _ _ _ _ _
              refine wa_ifeq (w_rg0 (by omega) (by omega)) ⟨_, rfl⟩ (fun c660 => ?_) (fun c660 => ?_)
              · skip
                exact absurd c660 (by omega)
              · skip
                refine wa_aload_n (n := 0) rfl ?_
                refine wa_cv 237 rfl (wy_pr rfl) wt_237 (M2 := fun _ => False) rfl at_M_namesElement ⟨_, rfl⟩ rfl rfl ⟨trivial, trivial, (Or.inr ⟨wy_pr rfl, fun q => q⟩), trivial, trivial⟩ trivial (fun _ _ q => False.elim q) (wJ_mono hcal (fun o Z hz => hR o Z hz)) (fun oq661 Sq661 hp662 q661 => ?_)
                rcases q661 with ⟨rfl, hz10⟩ | ⟨rfl, hzq⟩
                · skip
                  show wJ _ _ _ _ _ _ _ _ _ _
                  refine wa_fall ⟨_, rfl⟩ ?_
                  refine wa_iconst ?_
                  refine wa_istore (n := 4) rfl ?_
                  refine wa_iconst ?_
                  refine wa_istore (n := 5) rfl ?_
                  refine wa_fall ⟨_, rfl⟩ ?_
                  exact wJ_S hz10 ⟨rfl, rfl, rfl, rfl, rfl, rfl, trivial⟩
                · skip
                  refine ⟨rfl, ?_⟩
                  exact hzq
      · skip
        refine wa_iload_n (n := 2) rfl ?_
        refine wa_iconst ?_
        refine wa_icmpne (w_rg0 (by omega) (by omega)) (w_rg0 (by omega) (by omega)) ⟨_, rfl⟩ (fun c663 => ?_) (fun c663 => ?_)
        · skip
          refine wa_iconst ?_
          refine wa_fall ⟨_, rfl⟩ ?_
          refine wa_istore_n (n := 3) rfl ?_
          refine wa_iload_n (n := 3) rfl ?_
          refine wa_ifeq (w_rg0 (by omega) (by omega)) ⟨_, rfl⟩ (fun c664 => ?_) (fun c664 => ?_)
          · skip
            exfalso; omega
          · skip
            exact absurd c664 (by omega)
        · skip
          refine wa_fall ⟨_, rfl⟩ ?_
          refine wa_iconst ?_
          refine wa_goto ⟨_, rfl⟩ ?_
          refine wa_istore_n (n := 3) rfl ?_
          refine wa_iload_n (n := 3) rfl ?_
          refine wa_ifeq (w_rg0 (by omega) (by omega)) ⟨_, rfl⟩ (fun c665 => ?_) (fun c665 => ?_)
          · skip
            exact absurd c665 (by omega)
          · skip
            refine wa_aload_n (n := 0) rfl ?_
            refine wa_aload_n (n := 0) rfl ?_
            refine wb_gfi 237 rfl (wy_pr rfl) wt_237 wf_15_174 (v := gk) ((w_up_at (by decide)).trans ((w_up_at (by decide)).trans (w_up_same _ _ _ _))) (fun r666 => ?_)
            refine wa_cv 237 rfl (wy_pr rfl) wt_237 (M2 := fun _ => False) rfl at_M_hasShape ⟨_, rfl⟩ rfl rfl ⟨trivial, trivial, (Or.inr ⟨wy_pr rfl, fun q => q⟩), trivial, trivial⟩ trivial (fun _ _ q => False.elim q) ?_ (fun _ _ _ q => q)
            refine wa_iload_n (n := 1) rfl ?_
            refine wa_iconst ?_
            refine wa_icmpeq (w_rg0 (by omega) (by omega)) (w_rg0 (by omega) (by omega)) ⟨_, rfl⟩ (fun c667 => ?_) (fun c667 => ?_)
            · skip
              refine wa_iconst ?_
              refine wa_goto ⟨_, rfl⟩ ?_
              refine wa_zreturn rfl (Or.inr rfl) ?_
              show wJ _ _ _ _ _ _ _ _ _ _
              refine wa_ifeq (w_rg0 (by omega) (by omega)) ⟨_, rfl⟩ (fun c668 => ?_) (fun c668 => ?_)
              · skip
                exact absurd c668 (by omega)
              · skip
                refine wa_aload_n (n := 0) rfl ?_
                refine wa_cv 237 rfl (wy_pr rfl) wt_237 (M2 := fun _ => False) rfl at_M_namesElement ⟨_, rfl⟩ rfl rfl ⟨trivial, trivial, (Or.inr ⟨wy_pr rfl, fun q => q⟩), trivial, trivial⟩ trivial (fun _ _ q => False.elim q) (wJ_mono hcal (fun o Z hz => hR o Z hz)) (fun oq669 Sq669 hp670 q669 => ?_)
                rcases q669 with ⟨rfl, hz10⟩ | ⟨rfl, hzq⟩
                · skip
                  show wJ _ _ _ _ _ _ _ _ _ _
                  refine wa_fall ⟨_, rfl⟩ ?_
                  refine wa_iconst ?_
                  refine wa_istore (n := 4) rfl ?_
                  refine wa_iconst ?_
                  refine wa_istore (n := 5) rfl ?_
                  refine wa_fall ⟨_, rfl⟩ ?_
                  exact wJ_S hz10 ⟨rfl, rfl, rfl, rfl, rfl, rfl, trivial⟩
                · skip
                  refine ⟨rfl, ?_⟩
                  exact hzq
            · skip
              refine wa_iload_n (n := 1) rfl ?_
              refine wa_iconst ?_
              refine wa_icmpne (w_rg0 (by omega) (by omega)) (w_rg0 (by omega) (by omega)) ⟨_, rfl⟩ (fun c671 => ?_) (fun c671 => ?_)
              · skip
                refine wa_iconst ?_
                refine wa_fall ⟨_, rfl⟩ ?_
                refine wa_zreturn rfl (Or.inl rfl) ?_
                show wJ _ _ _ _ _ _ _ _ _ _
                refine wa_ifeq (w_rg0 (by omega) (by omega)) ⟨_, rfl⟩ (fun c672 => ?_) (fun c672 => ?_)
                · skip
                  exfalso; omega
                · skip
                  exact absurd c672 (by omega)
              · skip
                refine wa_fall ⟨_, rfl⟩ ?_
                refine wa_iconst ?_
                refine wa_goto ⟨_, rfl⟩ ?_
                refine wa_zreturn rfl (Or.inr rfl) ?_
                show wJ _ _ _ _ _ _ _ _ _ _
                refine wa_ifeq (w_rg0 (by omega) (by omega)) ⟨_, rfl⟩ (fun c673 => ?_) (fun c673 => ?_)
                · skip
                  exact absurd c673 (by omega)
                · skip
                  refine wa_aload_n (n := 0) rfl ?_
                  refine wa_cv 237 rfl (wy_pr rfl) wt_237 (M2 := fun _ => False) rfl at_M_namesElement ⟨_, rfl⟩ rfl rfl ⟨trivial, trivial, (Or.inr ⟨wy_pr rfl, fun q => q⟩), trivial, trivial⟩ trivial (fun _ _ q => False.elim q) (wJ_mono hcal (fun o Z hz => hR o Z hz)) (fun oq674 Sq674 hp675 q674 => ?_)
                  rcases q674 with ⟨rfl, hz10⟩ | ⟨rfl, hzq⟩
                  · skip
                    show wJ _ _ _ _ _ _ _ _ _ _
                    refine wa_fall ⟨_, rfl⟩ ?_
                    refine wa_iconst ?_
                    refine wa_istore (n := 4) rfl ?_
                    refine wa_iconst ?_
                    refine wa_istore (n := 5) rfl ?_
                    refine wa_fall ⟨_, rfl⟩ ?_
                    exact wJ_S hz10 ⟨rfl, rfl, rfl, rfl, rfl, rfl, trivial⟩
                  · skip
                    refine ⟨rfl, ?_⟩
                    exact hzq
    · skip
      refine wa_iconst ?_
      refine wa_goto ⟨_, rfl⟩ ?_
      have ees : 2 = es := by rw [hes]; first | exact (if_pos (by omega)).symm | exact (if_neg (by omega)).symm
      refine wJ_top ees ?_
      have hesr : 0 ≤ es ∧ es ≤ 255 := by omega
      refine wb_pfi 237 rfl (wy_pr rfl) wt_237 wf_15_176 (n := 176) rfl ⟨(by omega), (by omega)⟩ ?_
      refine wa_aload_n (n := 0) rfl ?_
      refine wa_aload_n (n := 0) rfl ?_
      refine wa_cv 237 rfl (wy_pr rfl) wt_237 (M2 := fun _ => False) rfl at_M_h ⟨_, rfl⟩ rfl rfl ⟨trivial, (Or.inr ⟨wy_pr rfl, fun q => q⟩), trivial, trivial⟩ ⟨(Or.inr ⟨wy_pr rfl, fun q => q⟩), trivial⟩ (fun _ _ q => False.elim q) ?_ (fun _ _ _ q => q)
      refine wa_aload_n (n := 0) rfl ?_
      refine wb_gfi 237 rfl (wy_pr rfl) wt_237 wf_15_152 (v := (2100 * t)) ((w_up_at (by decide)).trans ((w_up_at (by decide)).trans (mp))) (fun r676 => ?_)
      refine wa_aload_n (n := 0) rfl ?_
      refine wb_gf4 237 rfl (wy_pr rfl) wt_237 wf_15_134 (v := 359) wl_237_134 ?_
      refine wa_aload_n (n := 0) rfl ?_
      refine wb_gfi 237 rfl (wy_pr rfl) wt_237 wf_15_151 (v := t) ((w_up_at (by decide)).trans ((w_up_at (by decide)).trans (mt))) (fun r677 => ?_)
      refine wb_iald 359 rfl (wy_pr rfl) wt_359 (n := 2) ((w_up_slot (by decide)).trans ((w_up_slot (by decide)).trans ((ml_359 hM)))) (by omega) (by omega) (v := h) ((w_up_slot (by decide)).trans ((w_up_slot (by decide)).trans (mh))) (fun r678 => ?_)
      refine wa_iadd ?_
      refine wa_ireturn rfl ?_
      show wJ _ _ _ _ _ _ _ _ _ _
      refine wa_iconst ?_
      refine wa_isub ?_
      refine wa_aload_n (n := 0) rfl ?_
      refine wb_gfi 237 rfl (wy_pr rfl) wt_237 wf_15_176 (v := es) (w_up_same _ _ _ _) (fun r679 => ?_)
      refine wa_isub ?_
      rw [show ((((2100 * t) + h) - 1) - es) = 2100 * t + ba by omega]
      refine wb_pfi 237 rfl (wy_pr rfl) wt_237 wf_15_173 (n := 173) rfl ⟨(by omega), (by omega)⟩ ?_
      refine wa_aload_n (n := 0) rfl ?_
      refine wa_aload_n (n := 0) rfl ?_
      refine wb_gf4 237 rfl (wy_pr rfl) wt_237 wf_15_138 (v := 363) wl_237_138 ?_
      refine wa_aload_n (n := 0) rfl ?_
      refine wb_gfi 237 rfl (wy_pr rfl) wt_237 wf_15_173 (v := (2100 * t + ba)) (w_up_same _ _ _ _) (fun r680 => ?_)
      refine wb_iald 363 rfl (wy_pr rfl) wt_363 (n := 4200) ((w_up_slot (by decide)).trans ((w_up_slot (by decide)).trans ((w_up_slot (by decide)).trans ((ml_363 hM))))) (by omega) (by omega) (v := gk) ((w_up_slot (by decide)).trans ((w_up_slot (by decide)).trans ((w_up_slot (by decide)).trans (hgk)))) (fun r681 => ?_)
      refine wb_pfi 237 rfl (wy_pr rfl) wt_237 wf_15_174 (n := 174) rfl ⟨(by omega), (by omega)⟩ ?_
      refine wa_aload_n (n := 0) rfl ?_
      refine wa_aload_n (n := 0) rfl ?_
      refine wb_gf4 237 rfl (wy_pr rfl) wt_237 wf_15_139 (v := 364) wl_237_139 ?_
      refine wa_aload_n (n := 0) rfl ?_
      refine wb_gfi 237 rfl (wy_pr rfl) wt_237 wf_15_173 (v := (2100 * t + ba)) ((w_up_at (by decide)).trans (w_up_same _ _ _ _)) (fun r682 => ?_)
      refine wb_lald 364 rfl (wy_pr rfl) wt_364 (n := 4200) ((w_up_slot (by decide)).trans ((w_up_slot (by decide)).trans ((w_up_slot (by decide)).trans ((w_up_slot (by decide)).trans ((ml_364 hM)))))) (by omega) (by omega) (v := gb) ((w_up_slot (by decide)).trans ((w_up_slot (by decide)).trans ((w_up_slot (by decide)).trans ((w_up_slot (by decide)).trans (hgb))))) (fun r683 => ?_)
      refine wb_pfl 237 rfl (wy_pr rfl) wt_237 wf_15_175 (n := 175) rfl ⟨(by omega), (by omega)⟩ ?_
      refine wa_aload_n (n := 0) rfl ?_
      refine wa_iconst ?_
      refine wb_pfi 237 rfl (wy_pr rfl) wt_237 wf_15_177 (n := 177) rfl ⟨(by omega), (by omega)⟩ ?_
      refine wa_iload_n (n := 2) rfl ?_
      refine wa_iconst ?_
      refine wa_icmpeq (w_rg0 (by omega) (by omega)) (w_rg0 (by omega) (by omega)) ⟨_, rfl⟩ (fun c684 => ?_) (fun c684 => ?_)
      · skip
        refine wa_iconst ?_
        refine wa_goto ⟨_, rfl⟩ ?_
        refine wa_istore_n (n := 3) rfl ?_
        refine wa_iload_n (n := 3) rfl ?_
        refine wa_ifeq (w_rg0 (by omega) (by omega)) ⟨_, rfl⟩ (fun c685 => ?_) (fun c685 => ?_)
        · skip
          exact absurd c685 (by omega)
        · skip
          refine wa_aload_n (n := 0) rfl ?_
          refine wa_aload_n (n := 0) rfl ?_
          refine wb_gfi 237 rfl (wy_pr rfl) wt_237 wf_15_174 (v := gk) ((w_up_at (by decide)).trans ((w_up_at (by decide)).trans (w_up_same _ _ _ _))) (fun r686 => ?_)
          refine wa_cv 237 rfl (wy_pr rfl) wt_237 (M2 := fun _ => False) rfl at_M_hasShape ⟨_, rfl⟩ rfl rfl ⟨trivial, trivial, (Or.inr ⟨wy_pr rfl, fun q => q⟩), trivial, trivial⟩ trivial (fun _ _ q => False.elim q) ?_ (fun _ _ _ q => q)
          refine wa_iload_n (n := 1) rfl ?_
          refine wa_iconst ?_
          refine wa_icmpeq (w_rg0 (by omega) (by omega)) (w_rg0 (by omega) (by omega)) ⟨_, rfl⟩ (fun c687 => ?_) (fun c687 => ?_)
          · skip
            refine wa_iconst ?_
            refine wa_goto ⟨_, rfl⟩ ?_
            refine wa_zreturn rfl (Or.inr rfl) ?_
            show wJ _ _ _ _ _ _ _ _ _ _
            refine wa_ifeq (w_rg0 (by omega) (by omega)) ⟨_, rfl⟩ (fun c688 => ?_) (fun c688 => ?_)
            · skip
              exact absurd c688 (by omega)
            · skip
              refine wa_aload_n (n := 0) rfl ?_
              refine wa_cv 237 rfl (wy_pr rfl) wt_237 (M2 := fun _ => False) rfl at_M_namesElement ⟨_, rfl⟩ rfl rfl ⟨trivial, trivial, (Or.inr ⟨wy_pr rfl, fun q => q⟩), trivial, trivial⟩ trivial (fun _ _ q => False.elim q) (wJ_mono hcal (fun o Z hz => hR o Z hz)) (fun oq689 Sq689 hp690 q689 => ?_)
              rcases q689 with ⟨rfl, hz10⟩ | ⟨rfl, hzq⟩
              · skip
                show wJ _ _ _ _ _ _ _ _ _ _
                refine wa_fall ⟨_, rfl⟩ ?_
                refine wa_iconst ?_
                refine wa_istore (n := 4) rfl ?_
                refine wa_iconst ?_
                refine wa_istore (n := 5) rfl ?_
                refine wa_fall ⟨_, rfl⟩ ?_
                exact wJ_S hz10 ⟨rfl, rfl, rfl, rfl, rfl, rfl, trivial⟩
              · skip
                refine ⟨rfl, ?_⟩
                exact hzq
          · skip
            refine wa_iload_n (n := 1) rfl ?_
            refine wa_iconst ?_
            refine wa_icmpne (w_rg0 (by omega) (by omega)) (w_rg0 (by omega) (by omega)) ⟨_, rfl⟩ (fun c691 => ?_) (fun c691 => ?_)
            · skip
              refine wa_iconst ?_
              refine wa_fall ⟨_, rfl⟩ ?_
              refine wa_zreturn rfl (Or.inl rfl) ?_
              show wJ _ _ _ _ _ _ _ _ _ _
              refine wa_ifeq (w_rg0 (by omega) (by omega)) ⟨_, rfl⟩ (fun c692 => ?_) (fun c692 => ?_)
              · skip
                exfalso; omega
              · skip
                exact absurd c692 (by omega)
            · skip
              refine wa_fall ⟨_, rfl⟩ ?_
              refine wa_iconst ?_
              refine wa_goto ⟨_, rfl⟩ ?_
              refine wa_zreturn rfl (Or.inr rfl) ?_
              show wJ _ _ _ _ _ _ _ _ _ _
              refine wa_ifeq (w_rg0 (by omega) (by omega)) ⟨_, rfl⟩ (fun c693 => ?_) (fun c693 => ?_)
              · skip
                exact absurd c693 (by omega)
              · skip
                refine wa_aload_n (n := 0) rfl ?_
                refine wa_cv 237 rfl (wy_pr rfl) wt_237 (M2 := fun _ => False) rfl at_M_namesElement ⟨_, rfl⟩ rfl rfl ⟨trivial, trivial, (Or.inr ⟨wy_pr rfl, fun q => q⟩), trivial, trivial⟩ trivial (fun _ _ q => False.elim q) (wJ_mono hcal (fun o Z hz => hR o Z hz)) (fun oq694 Sq694 hp695 q694 => ?_)
                rcases q694 with ⟨rfl, hz10⟩ | ⟨rfl, hzq⟩
                · skip
                  show wJ _ _ _ _ _ _ _ _ _ _
                  refine wa_fall ⟨_, rfl⟩ ?_
                  refine wa_iconst ?_
                  refine wa_istore (n := 4) rfl ?_
                  refine wa_iconst ?_
                  refine wa_istore (n := 5) rfl ?_
                  refine wa_fall ⟨_, rfl⟩ ?_
                  exact wJ_S hz10 ⟨rfl, rfl, rfl, rfl, rfl, rfl, trivial⟩
                · skip
                  refine ⟨rfl, ?_⟩
                  exact hzq
      · skip
        refine wa_iload_n (n := 2) rfl ?_
        refine wa_iconst ?_
        refine wa_icmpne (w_rg0 (by omega) (by omega)) (w_rg0 (by omega) (by omega)) ⟨_, rfl⟩ (fun c696 => ?_) (fun c696 => ?_)
        · skip
          refine wa_iconst ?_
          refine wa_fall ⟨_, rfl⟩ ?_
          refine wa_istore_n (n := 3) rfl ?_
          refine wa_iload_n (n := 3) rfl ?_
          refine wa_ifeq (w_rg0 (by omega) (by omega)) ⟨_, rfl⟩ (fun c697 => ?_) (fun c697 => ?_)
          · skip
            exfalso; omega
          · skip
            exact absurd c697 (by omega)
        · skip
          refine wa_fall ⟨_, rfl⟩ ?_
          refine wa_iconst ?_
          refine wa_goto ⟨_, rfl⟩ ?_
          refine wa_istore_n (n := 3) rfl ?_
          refine wa_iload_n (n := 3) rfl ?_
          refine wa_ifeq (w_rg0 (by omega) (by omega)) ⟨_, rfl⟩ (fun c698 => ?_) (fun c698 => ?_)
          · skip
            exact absurd c698 (by omega)
          · skip
            refine wa_aload_n (n := 0) rfl ?_
            refine wa_aload_n (n := 0) rfl ?_
            refine wb_gfi 237 rfl (wy_pr rfl) wt_237 wf_15_174 (v := gk) ((w_up_at (by decide)).trans ((w_up_at (by decide)).trans (w_up_same _ _ _ _))) (fun r699 => ?_)
            refine wa_cv 237 rfl (wy_pr rfl) wt_237 (M2 := fun _ => False) rfl at_M_hasShape ⟨_, rfl⟩ rfl rfl ⟨trivial, trivial, (Or.inr ⟨wy_pr rfl, fun q => q⟩), trivial, trivial⟩ trivial (fun _ _ q => False.elim q) ?_ (fun _ _ _ q => q)
            refine wa_iload_n (n := 1) rfl ?_
            refine wa_iconst ?_
            refine wa_icmpeq (w_rg0 (by omega) (by omega)) (w_rg0 (by omega) (by omega)) ⟨_, rfl⟩ (fun c700 => ?_) (fun c700 => ?_)
            · skip
              refine wa_iconst ?_
              refine wa_goto ⟨_, rfl⟩ ?_
              refine wa_zreturn rfl (Or.inr rfl) ?_
              show wJ _ _ _ _ _ _ _ _ _ _
              refine wa_ifeq (w_rg0 (by omega) (by omega)) ⟨_, rfl⟩ (fun c701 => ?_) (fun c701 => ?_)
              · skip
                exact absurd c701 (by omega)
              · skip
                refine wa_aload_n (n := 0) rfl ?_
                refine wa_cv 237 rfl (wy_pr rfl) wt_237 (M2 := fun _ => False) rfl at_M_namesElement ⟨_, rfl⟩ rfl rfl ⟨trivial, trivial, (Or.inr ⟨wy_pr rfl, fun q => q⟩), trivial, trivial⟩ trivial (fun _ _ q => False.elim q) (wJ_mono hcal (fun o Z hz => hR o Z hz)) (fun oq702 Sq702 hp703 q702 => ?_)
                rcases q702 with ⟨rfl, hz10⟩ | ⟨rfl, hzq⟩
                · skip
                  show wJ _ _ _ _ _ _ _ _ _ _
                  refine wa_fall ⟨_, rfl⟩ ?_
                  refine wa_iconst ?_
                  refine wa_istore (n := 4) rfl ?_
                  refine wa_iconst ?_
                  refine wa_istore (n := 5) rfl ?_
                  refine wa_fall ⟨_, rfl⟩ ?_
                  exact wJ_S hz10 ⟨rfl, rfl, rfl, rfl, rfl, rfl, trivial⟩
                · skip
                  refine ⟨rfl, ?_⟩
                  exact hzq
            · skip
              refine wa_iload_n (n := 1) rfl ?_
              refine wa_iconst ?_
              refine wa_icmpne (w_rg0 (by omega) (by omega)) (w_rg0 (by omega) (by omega)) ⟨_, rfl⟩ (fun c704 => ?_) (fun c704 => ?_)
              · skip
                refine wa_iconst ?_
                refine wa_fall ⟨_, rfl⟩ ?_
                refine wa_zreturn rfl (Or.inl rfl) ?_
                show wJ _ _ _ _ _ _ _ _ _ _
                refine wa_ifeq (w_rg0 (by omega) (by omega)) ⟨_, rfl⟩ (fun c705 => ?_) (fun c705 => ?_)
                · skip
                  exfalso; omega
                · skip
                  exact absurd c705 (by omega)
              · skip
                refine wa_fall ⟨_, rfl⟩ ?_
                refine wa_iconst ?_
                refine wa_goto ⟨_, rfl⟩ ?_
                refine wa_zreturn rfl (Or.inr rfl) ?_
                show wJ _ _ _ _ _ _ _ _ _ _
                refine wa_ifeq (w_rg0 (by omega) (by omega)) ⟨_, rfl⟩ (fun c706 => ?_) (fun c706 => ?_)
                · skip
                  exact absurd c706 (by omega)
                · skip
                  refine wa_aload_n (n := 0) rfl ?_
                  refine wa_cv 237 rfl (wy_pr rfl) wt_237 (M2 := fun _ => False) rfl at_M_namesElement ⟨_, rfl⟩ rfl rfl ⟨trivial, trivial, (Or.inr ⟨wy_pr rfl, fun q => q⟩), trivial, trivial⟩ trivial (fun _ _ q => False.elim q) (wJ_mono hcal (fun o Z hz => hR o Z hz)) (fun oq707 Sq707 hp708 q707 => ?_)
                  rcases q707 with ⟨rfl, hz10⟩ | ⟨rfl, hzq⟩
                  · skip
                    show wJ _ _ _ _ _ _ _ _ _ _
                    refine wa_fall ⟨_, rfl⟩ ?_
                    refine wa_iconst ?_
                    refine wa_istore (n := 4) rfl ?_
                    refine wa_iconst ?_
                    refine wa_istore (n := 5) rfl ?_
                    refine wa_fall ⟨_, rfl⟩ ?_
                    exact wJ_S hz10 ⟨rfl, rfl, rfl, rfl, rfl, rfl, trivial⟩
                  · skip
                    refine ⟨rfl, ?_⟩
                    exact hzq
theorem ract0 {lk : Int} (hM : w_ML S) (hs : 0 ≤ s ∧ s < 4000) (h04 : S 304 s = kd) (h66 : S 237 166 = 0) (hcal : wJ (pe_GA xs) wY0 (fun _ => False) (d + 8) t_M_actsOnThing ((pe_at t_M_actsOnThing.bl 0).getD (0, [])).2 [(0, (2, 237)), (1, (0, s)), (2, (0, kd))] [] S Q) (hQ : ∀ (o : wO) (Z : wS), Q o Z → o = .inl none ∨ o = .inr 238) : wJ (pe_GA xs) wY0 M (d + 9) t_M_acts ((pe_at t_M_acts.bl 0).getD (0, [])).2 [(0, (2, 237)), (1, (0, s))] [] S Q := by
  refine wa_aload_n (n := 0) rfl ?_
  refine wb_gf4 237 rfl (wy_pr rfl) wt_237 wf_15_49 (v := 304) wl_237_49 ?_
  refine wa_iload_n (n := 1) rfl ?_
  refine wb_iald 304 rfl (wy_pr rfl) wt_304 (n := 4000) ((ml_304 hM)) (by omega) (by omega) (v := kd) (h04) (fun r1001 => ?_)
  refine wa_istore_n (n := 2) rfl ?_
  refine wa_aload_n (n := 0) rfl ?_
  refine wb_gfi 237 rfl (wy_pr rfl) wt_237 wf_15_166 (v := 0) (h66) (fun r1002 => ?_)
  refine wa_ifne (w_rg0 (by omega) (by omega)) ⟨_, rfl⟩ (fun c1003 => ?_) (fun c1003 => ?_)
  · skip
    exact absurd c1003 (by omega)
  · skip
    refine wa_aload_n (n := 0) rfl ?_
    refine wa_iload_n (n := 1) rfl ?_
    refine wa_iload_n (n := 2) rfl ?_
    refine wa_cv 237 rfl (wy_pr rfl) wt_237 (M2 := fun _ => False) rfl at_M_actsOnThing ⟨_, rfl⟩ rfl rfl ⟨trivial, (Or.inr ⟨wy_pr rfl, fun q => q⟩), trivial, trivial⟩ trivial (fun _ _ q => False.elim q) ((wJ_mono hcal (fun o Z hz => (⟨hQ o Z hz, hz⟩ : (o = .inl none ∨ o = .inr 238) ∧ Q o Z)))) (fun oq1004 Sq1004 hp1005 q1004 => ?_)
    rcases q1004 with ⟨rfl | rfl, hzq⟩
    · skip
      show wJ _ _ _ _ _ _ _ _ _ _
      refine wa_goto ⟨_, rfl⟩ ?_
      refine wa_return rfl ?_
      exact hzq
    · skip
      refine ⟨rfl, ?_⟩
      exact hzq
theorem ract3 {lk : Int} (hM : w_ML S) (hs : 0 ≤ s ∧ s < 4000) (h04 : S 304 s = kd) (h66 : S 237 166 = 3) (hcal : wJ (pe_GA xs) wY0 (fun _ => False) (d + 8) t_M_actsOnRow ((pe_at t_M_actsOnRow.bl 0).getD (0, [])).2 [(0, (2, 237)), (1, (0, s)), (2, (0, kd))] [] S Q) (hQ : ∀ (o : wO) (Z : wS), Q o Z → o = .inl none ∨ o = .inr 238) : wJ (pe_GA xs) wY0 M (d + 9) t_M_acts ((pe_at t_M_acts.bl 0).getD (0, [])).2 [(0, (2, 237)), (1, (0, s))] [] S Q := by
  refine wa_aload_n (n := 0) rfl ?_
  refine wb_gf4 237 rfl (wy_pr rfl) wt_237 wf_15_49 (v := 304) wl_237_49 ?_
  refine wa_iload_n (n := 1) rfl ?_
  refine wb_iald 304 rfl (wy_pr rfl) wt_304 (n := 4000) ((ml_304 hM)) (by omega) (by omega) (v := kd) (h04) (fun r1001 => ?_)
  refine wa_istore_n (n := 2) rfl ?_
  refine wa_aload_n (n := 0) rfl ?_
  refine wb_gfi 237 rfl (wy_pr rfl) wt_237 wf_15_166 (v := 3) (h66) (fun r1002 => ?_)
  refine wa_ifne (w_rg0 (by omega) (by omega)) ⟨_, rfl⟩ (fun c1003 => ?_) (fun c1003 => ?_)
  · skip
    refine wa_aload_n (n := 0) rfl ?_
    refine wb_gfi 237 rfl (wy_pr rfl) wt_237 wf_15_166 (v := 3) (h66) (fun r1004 => ?_)
    refine wa_iconst ?_
    refine wa_icmpne (w_rg0 (by omega) (by omega)) (w_rg0 (by omega) (by omega)) ⟨_, rfl⟩ (fun c1005 => ?_) (fun c1005 => ?_)
    · skip
      exact absurd c1005 (by omega)
    · skip
      refine wa_aload_n (n := 0) rfl ?_
      refine wa_iload_n (n := 1) rfl ?_
      refine wa_iload_n (n := 2) rfl ?_
      refine wa_cv 237 rfl (wy_pr rfl) wt_237 (M2 := fun _ => False) rfl at_M_actsOnRow ⟨_, rfl⟩ rfl rfl ⟨trivial, (Or.inr ⟨wy_pr rfl, fun q => q⟩), trivial, trivial⟩ trivial (fun _ _ q => False.elim q) ((wJ_mono hcal (fun o Z hz => (⟨hQ o Z hz, hz⟩ : (o = .inl none ∨ o = .inr 238) ∧ Q o Z)))) (fun oq1006 Sq1006 hp1007 q1006 => ?_)
      rcases q1006 with ⟨rfl | rfl, hzq⟩
      · skip
        show wJ _ _ _ _ _ _ _ _ _ _
        refine wa_goto ⟨_, rfl⟩ ?_
        refine wa_return rfl ?_
        exact hzq
      · skip
        refine ⟨rfl, ?_⟩
        exact hzq
  · skip
    exact absurd c1003 (by omega)
theorem ract1 {lk : Int} (hM : w_ML S) (hs : 0 ≤ s ∧ s < 4000) (h04 : S 304 s = kd) (h66 : S 237 166 = lk) (hlk : lk = 1 ∨ lk = 2) (hcal : wJ (pe_GA xs) wY0 (fun _ => False) (d + 8) t_M_actsOnHost ((pe_at t_M_actsOnHost.bl 0).getD (0, [])).2 [(0, (2, 237)), (1, (0, kd))] [] S Q) (hQ : ∀ (o : wO) (Z : wS), Q o Z → o = .inl none ∨ o = .inr 238) : wJ (pe_GA xs) wY0 M (d + 9) t_M_acts ((pe_at t_M_acts.bl 0).getD (0, [])).2 [(0, (2, 237)), (1, (0, s))] [] S Q := by
  refine wa_aload_n (n := 0) rfl ?_
  refine wb_gf4 237 rfl (wy_pr rfl) wt_237 wf_15_49 (v := 304) wl_237_49 ?_
  refine wa_iload_n (n := 1) rfl ?_
  refine wb_iald 304 rfl (wy_pr rfl) wt_304 (n := 4000) ((ml_304 hM)) (by omega) (by omega) (v := kd) (h04) (fun r1001 => ?_)
  refine wa_istore_n (n := 2) rfl ?_
  refine wa_aload_n (n := 0) rfl ?_
  refine wb_gfi 237 rfl (wy_pr rfl) wt_237 wf_15_166 (v := lk) (h66) (fun r1002 => ?_)
  refine wa_ifne (w_rg0 (by omega) (by omega)) ⟨_, rfl⟩ (fun c1003 => ?_) (fun c1003 => ?_)
  · skip
    refine wa_aload_n (n := 0) rfl ?_
    refine wb_gfi 237 rfl (wy_pr rfl) wt_237 wf_15_166 (v := lk) (h66) (fun r1004 => ?_)
    refine wa_iconst ?_
    refine wa_icmpne (w_rg0 (by omega) (by omega)) (w_rg0 (by omega) (by omega)) ⟨_, rfl⟩ (fun c1005 => ?_) (fun c1005 => ?_)
    · skip
      refine wa_aload_n (n := 0) rfl ?_
      refine wa_iload_n (n := 2) rfl ?_
      refine wa_cv 237 rfl (wy_pr rfl) wt_237 (M2 := fun _ => False) rfl at_M_actsOnHost ⟨_, rfl⟩ rfl rfl ⟨trivial, (Or.inr ⟨wy_pr rfl, fun q => q⟩), trivial, trivial⟩ trivial (fun _ _ q => False.elim q) ((wJ_mono hcal (fun o Z hz => (⟨hQ o Z hz, hz⟩ : (o = .inl none ∨ o = .inr 238) ∧ Q o Z)))) (fun oq1006 Sq1006 hp1007 q1006 => ?_)
      rcases q1006 with ⟨rfl | rfl, hzq⟩
      · skip
        show wJ _ _ _ _ _ _ _ _ _ _
        refine wa_fall ⟨_, rfl⟩ ?_
        refine wa_return rfl ?_
        exact hzq
      · skip
        refine ⟨rfl, ?_⟩
        exact hzq
    · skip
      exact absurd c1005 (by omega)
  · skip
    exact absurd c1003 (by omega)
/-- an entry was hit: it is looked at again, and the site acts -/
theorem ivh_ok (hM : w_ML S) (hs : 0 ≤ s ∧ s < 4000) (hh : 0 ≤ hit ∧ hit < 20000) (h11 : 0 ≤ S 311 s ∧ S 311 s ≤ 1000000) (hQ : ∀ (o : wO) (Z : wS), Q o Z → o = .inl none ∨ o = .inr 238) (hcal : wJ (pe_GA xs) wY0 (fun _ => False) (d + 9) t_M_hits ((pe_at t_M_hits.bl 0).getD (0, [])).2 [(0, (2, 237)), (1, (0, s)), (2, (0, hit))] [] (w_up S 311 s (S 311 s + 1)) (fun o Z => o = .inl none ∧ wJ (pe_GA xs) wY0 (fun _ => False) (d + 9) t_M_acts ((pe_at t_M_acts.bl 0).getD (0, [])).2 [(0, (2, 237)), (1, (0, s))] [] Z Q)) : wJ (pe_GA xs) wY0 M (d + 10) t_M_invokes ((pe_at t_M_invokes.bl 15).getD (0, [])).2 [(0, (2, 237)), (1, (0, s)), (2, (0, kd)), (3, (0, el)), (4, (0, hit)), (5, (0, kk))] [] S Q := by
  refine wa_iload (n := 4) rfl ?_
  refine wa_iflt (w_rg0 (by omega) (by omega)) ⟨_, rfl⟩ (fun c1201 => ?_) (fun c1201 => ?_)
  · skip
    exfalso; omega
  · skip
    refine wa_aload_n (n := 0) rfl ?_
    refine wb_gf4 237 rfl (wy_pr rfl) wt_237 wf_15_56 (v := 311) wl_237_56 ?_
    refine wa_iload_n (n := 1) rfl ?_
    refine wa_dup2 (by decide) (by decide) ?_
    refine wb_iald 311 rfl (wy_pr rfl) wt_311 (n := 4000) ((ml_311 hM)) (by omega) (by omega) (v := (S 311 s)) rfl (fun r1202 => ?_)
    refine wa_iconst ?_
    refine wa_iadd ?_
    refine wb_iast 311 rfl (wy_pr rfl) wt_311 (n := 4000) ((ml_311 hM)) (by omega) (by omega) ⟨(by omega), (by omega)⟩ ?_
    refine wa_aload_n (n := 0) rfl ?_
    refine wa_iload_n (n := 1) rfl ?_
    refine wa_iload (n := 4) rfl ?_
    refine wa_cv 237 rfl (wy_pr rfl) wt_237 (M2 := fun _ => False) rfl at_M_hits ⟨_, rfl⟩ rfl rfl ⟨(Or.inr ⟨wy_pr rfl, fun q => q⟩), trivial, trivial, trivial, trivial, trivial, trivial⟩ trivial (fun _ _ q => False.elim q) (hcal) (fun oq1203 Sq1203 hp1204 q1203 => ?_)
    rcases q1203 with ⟨rfl, hza⟩
    show wJ _ _ _ _ _ _ _ _ _ _
    refine wa_goto ⟨_, rfl⟩ ?_
    refine wa_aload_n (n := 0) rfl ?_
    refine wa_iload_n (n := 1) rfl ?_
    refine wa_cv 237 rfl (wy_pr rfl) wt_237 (M2 := fun _ => False) rfl at_M_acts ⟨_, rfl⟩ rfl rfl ⟨(Or.inr ⟨wy_pr rfl, fun q => q⟩), trivial, trivial, trivial, trivial, trivial, trivial⟩ trivial (fun _ _ q => False.elim q) ((wJ_mono hza (fun o Z hz => (⟨hQ o Z hz, hz⟩ : (o = .inl none ∨ o = .inr 238) ∧ Q o Z)))) (fun oq1205 Sq1205 hp1206 q1205 => ?_)
    rcases q1205 with ⟨rfl | rfl, hzq⟩
    · skip
      show wJ _ _ _ _ _ _ _ _ _ _
      refine wa_return rfl ?_
      exact hzq
    · skip
      refine ⟨rfl, ?_⟩
      exact hzq
/-- no entry was hit: it looks, links unless it has too many links, and acts -/
theorem ivn_ok (hM : w_ML S) (hs : 0 ≤ s ∧ s < 4000) (hh : hit = -1) (hQ : ∀ (o : wO) (Z : wS), Q o Z → o = .inl none ∨ o = .inr 238) (hcal : wJ (pe_GA xs) wY0 (fun _ => False) (d + 9) t_M_looks ((pe_at t_M_looks.bl 0).getD (0, [])).2 [(0, (2, 237)), (1, (0, s)), (2, (0, 1))] [] S R) (hR : ∀ (o : wO) (Z : wS), R o Z → (o = .inr 238 ∧ Q (.inr 238) Z) ∨ (o = .inl none ∧ w_ML Z ∧ (Z 313 s = 0 ∨ Z 313 s = 1) ∧ (Z 313 s = 1 → wJ (pe_GA xs) wY0 (fun _ => False) (d + 9) t_M_acts ((pe_at t_M_acts.bl 0).getD (0, [])).2 [(0, (2, 237)), (1, (0, s))] [] Z Q) ∧ (Z 313 s = 0 → wJ (pe_GA xs) wY0 (fun _ => False) (d + 9) t_M_links ((pe_at t_M_links.bl 0).getD (0, [])).2 [(0, (2, 237)), (1, (0, s))] [] Z (fun o Z2 => o = .inl none ∧ wJ (pe_GA xs) wY0 (fun _ => False) (d + 9) t_M_acts ((pe_at t_M_acts.bl 0).getD (0, [])).2 [(0, (2, 237)), (1, (0, s))] [] Z2 Q)))) : wJ (pe_GA xs) wY0 M (d + 10) t_M_invokes ((pe_at t_M_invokes.bl 15).getD (0, [])).2 [(0, (2, 237)), (1, (0, s)), (2, (0, kd)), (3, (0, el)), (4, (0, hit)), (5, (0, kk))] [] S Q := by
  refine wa_iload (n := 4) rfl ?_
  refine wa_iflt (w_rg0 (by omega) (by omega)) ⟨_, rfl⟩ (fun c1401 => ?_) (fun c1401 => ?_)
  · skip
    refine wa_aload_n (n := 0) rfl ?_
    refine wa_iload_n (n := 1) rfl ?_
    refine wa_iconst ?_
    refine wa_cv 237 rfl (wy_pr rfl) wt_237 (M2 := fun _ => False) rfl at_M_looks ⟨_, rfl⟩ rfl rfl ⟨(Or.inr ⟨wy_pr rfl, fun q => q⟩), trivial, trivial, trivial, trivial, trivial, trivial⟩ trivial (fun _ _ q => False.elim q) (wJ_mono hcal (fun o Z hz => hR o Z hz)) (fun oq1402 Sq1402 hp1403 q1402 => ?_)
    rcases q1402 with ⟨rfl, hzq⟩ | ⟨rfl, hMz, hz13, hza1, hza0⟩
    · skip
      refine ⟨rfl, ?_⟩
      exact hzq
    · skip
      show wJ _ _ _ _ _ _ _ _ _ _
      have hM := hMz
      refine wa_aload_n (n := 0) rfl ?_
      refine wb_gf4 237 rfl (wy_pr rfl) wt_237 wf_15_58 (v := 313) wl_237_58 ?_
      refine wa_iload_n (n := 1) rfl ?_
      refine wb_zald 313 rfl (wy_pr rfl) wt_313 (n := 4000) ((ml_313 hM)) (by omega) (by omega) (v := (Sq1402 313 s)) rfl (fun r1404 => ?_)
      refine wa_ifne (w_rg0 (by omega) (by omega)) ⟨_, rfl⟩ (fun c1405 => ?_) (fun c1405 => ?_)
      · skip
        skip
        refine wa_aload_n (n := 0) rfl ?_
        refine wa_iload_n (n := 1) rfl ?_
        refine wa_cv 237 rfl (wy_pr rfl) wt_237 (M2 := fun _ => False) rfl at_M_acts ⟨_, rfl⟩ rfl rfl ⟨(Or.inr ⟨wy_pr rfl, fun q => q⟩), trivial, trivial, trivial, trivial, trivial, trivial⟩ trivial (fun _ _ q => False.elim q) ((wJ_mono (hza1 (by omega)) (fun o Z hz => (⟨hQ o Z hz, hz⟩ : (o = .inl none ∨ o = .inr 238) ∧ Q o Z)))) (fun oq1406 Sq1406 hp1407 q1406 => ?_)
        rcases q1406 with ⟨rfl | rfl, hzq⟩
        · skip
          show wJ _ _ _ _ _ _ _ _ _ _
          refine wa_return rfl ?_
          exact hzq
        · skip
          refine ⟨rfl, ?_⟩
          exact hzq
      · skip
        refine wa_aload_n (n := 0) rfl ?_
        refine wa_iload_n (n := 1) rfl ?_
        refine wa_cv 237 rfl (wy_pr rfl) wt_237 (M2 := fun _ => False) rfl at_M_links ⟨_, rfl⟩ rfl rfl ⟨(Or.inr ⟨wy_pr rfl, fun q => q⟩), trivial, trivial, trivial, trivial, trivial, trivial⟩ trivial (fun _ _ q => False.elim q) (hza0 (by omega)) (fun oq1408 Sq1408 hp1409 q1408 => ?_)
        rcases q1408 with ⟨rfl, hza⟩
        show wJ _ _ _ _ _ _ _ _ _ _
        refine wa_fall ⟨_, rfl⟩ ?_
        skip
        refine wa_aload_n (n := 0) rfl ?_
        refine wa_iload_n (n := 1) rfl ?_
        refine wa_cv 237 rfl (wy_pr rfl) wt_237 (M2 := fun _ => False) rfl at_M_acts ⟨_, rfl⟩ rfl rfl ⟨(Or.inr ⟨wy_pr rfl, fun q => q⟩), trivial, trivial, trivial, trivial, trivial, trivial⟩ trivial (fun _ _ q => False.elim q) ((wJ_mono (hza) (fun o Z hz => (⟨hQ o Z hz, hz⟩ : (o = .inl none ∨ o = .inr 238) ∧ Q o Z)))) (fun oq1410 Sq1410 hp1411 q1410 => ?_)
        rcases q1410 with ⟨rfl | rfl, hzq⟩
        · skip
          show wJ _ _ _ _ _ _ _ _ _ _
          refine wa_return rfl ?_
          exact hzq
        · skip
          refine ⟨rfl, ?_⟩
          exact hzq
  · skip
    exfalso; omega
end Wh0
