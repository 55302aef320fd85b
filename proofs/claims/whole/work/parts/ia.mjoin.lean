/-! PART ia: texts joined, of the reference, by tasks. -/
section Wia
variable {xs : List (Nat × List Int32)} {M : Nat → Prop} {d : Nat} {S Z A B : wS} {K : aK} {t a b : Int} {l : List Int} {R1 R2 : wS → Prop}
/-- what joining texts may change of the reference -/
def rMj (j : Nat) (x : Int) : Prop := j = 283 ∨ j = 284 ∨ j = 285 ∨ (j = 237 ∧ (x = 102 ∨ x = 103 ∨ x = 64 ∨ x = 65))
theorem rm_pA {a oq : Int} {R : wS → Prop} (h : stR t S K) (hs : S 357 t = 1) (ho : S 301 (S 297 (K.2.1.getD (K.2.1.length - 1) (0, 0, 0, (0, 0, []), 0, 0, 0)).1 + (K.2.1.getD (K.2.1.length - 1) (0, 0, 0, (0, 0, []), 0, 0, 0)).2.1) = oq) (ha : S 302 (S 297 (K.2.1.getD (K.2.1.length - 1) (0, 0, 0, (0, 0, []), 0, 0, 0)).1 + (K.2.1.getD (K.2.1.length - 1) (0, 0, 0, (0, 0, []), 0, 0, 0)).2.1) = a) (hb : S 303 (S 297 (K.2.1.getD (K.2.1.length - 1) (0, 0, 0, (0, 0, []), 0, 0, 0)).1 + (K.2.1.getD (K.2.1.length - 1) (0, 0, 0, (0, 0, []), 0, 0, 0)).2.1) = b) (ho1 : 5 ≤ oq ∧ oq ≤ 19) (hcal : wJ (pe_GA xs) wY0 (fun _ => False) (d + 11) t_M_operators ((pe_at t_M_operators.bl 0).getD (0, [])).2 [(0, (2, 237)), (1, (0, oq))] [] (w_up (w_up S 237 154 (200 * t + (K.2.1.length : Int) - 1)) 237 155 ((K.2.1.getD (K.2.1.length - 1) (0, 0, 0, (0, 0, []), 0, 0, 0)).2.1 + 1)) (fun o Z => o = .inr 238 ∧ ∃ A : wS, R A ∧ hZ 99 A = Z)) (hR : ∀ A : wS, R A → rTk t A K ∧ rTf t S A ∧ w_ML A) : rTurn xs d t S (fun Z dn => dn = 0 ∧ rTk t Z (kSt K) ∧ rTf t S Z) := by
  obtain ⟨h1, h2, h3, ⟨h4, h5, h6⟩, ⟨h7, h8, h9, h9b⟩, ⟨g0, g1, g2, g3⟩, e0, e1⟩ := id h
  obtain ⟨r1, r2, r3⟩ := sr_row h1 h7
  have es : ∀ (j : Nat) (x : Int), (j ≠ 237 ∨ (x ≠ 154 ∧ x ≠ 155)) → (w_up (w_up S 237 154 (200 * t + (K.2.1.length : Int) - 1)) 237 155 ((K.2.1.getD (K.2.1.length - 1) (0, 0, 0, (0, 0, []), 0, 0, 0)).2.1 + 1)) j x = S j x := fun j x hj => (w_up_no (by omega)).trans (w_up_no (by omega))
  refine rt_mA h hs (wJ_mono (dp_d (Rn := fun _ => False) (Rt := fun Z => ∃ A : wS, R A ∧ hZ 99 A = Z) (mP_of h) ((es 365 _ (Or.inl (by first | decide | omega))).trans r1) ⟨g0, g1⟩ ((es 366 _ (Or.inl (by first | decide | omega))).trans r2) (es 297 _ (Or.inl (by first | decide | omega))) ⟨e0, e1⟩ ((es 301 _ (Or.inl (by first | decide | omega))).trans ho) ((es 302 _ (Or.inl (by first | decide | omega))).trans ha) ((es 303 _ (Or.inl (by first | decide | omega))).trans hb) ho1 (wJ_mono hcal (fun o Z hz => Or.inr hz)) (fun Z hz => hz.elim)) (fun o Z hz => ?_)) hR
  rcases hz with ⟨rfl, Z1, hz, rfl⟩ | hz
  · exact hz.elim
  · exact hz
theorem yj7 {t c p h tp k1 v1 k2 v2 mm : Int} (hP : mP t c p h tp S) (hky : S 363 (2100 * t + h - 1) = k2) (hvy : S 364 (2100 * t + h - 1) = v2) (hkx : S 363 (2100 * t + h - 1 - 1) = k1) (hvx : S 364 (2100 * t + h - 1 - 1) = v1) (hh1 : 2 ≤ h) (hk8 : (0 ≤ k1 ∧ k1 ≤ 3) ∧ (0 ≤ k2 ∧ k2 ≤ 3)) (h3 : k1 = 3 ∨ k2 = 3) (hmm : 0 ≤ mm ∧ mm ≤ 100000) (hcal : wJ (pe_GA xs) wY0 (fun _ => False) (d + 9) t_M_joined ((pe_at t_M_joined.bl 0).getD (0, [])).2 [(0, (2, 237)), (1, (0, k1)), (2, (1, v1)), (4, (0, k2)), (5, (1, v2))] [] S (fun o Z => (o = .inr 238 ∧ R1 Z) ∨ (o = .inl (some (0, mm)) ∧ R2 Z))) (hR : ∀ Z : wS, R2 Z → w_ML Z ∧ Z 237 151 = t ∧ Z 359 t = h) : wJ (pe_GA xs) wY0 M (d + 11) t_M_operators ((pe_at t_M_operators.bl 0).getD (0, [])).2 [(0, (2, 237)), (1, (0, 7))] [] S (fun o Z => (o = .inr 238 ∧ R1 Z) ∨ (o = .inl none ∧ ∃ B : wS, R2 B ∧ pXZ t h 3 mm B = Z)) := by
  obtain ⟨hM, ⟨mt, mt0, mt1⟩, mp, mf, ⟨mc, mc0, mc1⟩, ⟨mtp, mtq⟩, ⟨mpa, mp0, mp1⟩, mh, mh0, mh1⟩ := hP
  refine wa_aload_n (n := 0) rfl ?_
  refine wa_cv 237 rfl (wy_pr rfl) wt_237 (M2 := fun _ => False) rfl at_M_h ⟨_, rfl⟩ rfl rfl ⟨(Or.inr ⟨wy_pr rfl, fun q => q⟩), trivial, trivial⟩ trivial (fun _ _ q => False.elim q) ?_ (fun _ _ _ q => q)
  refine wa_aload_n (n := 0) rfl ?_
  refine wb_gfi 237 rfl (wy_pr rfl) wt_237 wf_15_152 (v := (2100 * t)) (mp) (fun r1 => ?_)
  refine wa_aload_n (n := 0) rfl ?_
  refine wb_gf4 237 rfl (wy_pr rfl) wt_237 wf_15_134 (v := 359) wl_237_134 ?_
  refine wa_aload_n (n := 0) rfl ?_
  refine wb_gfi 237 rfl (wy_pr rfl) wt_237 wf_15_151 (v := t) (mt) (fun r2 => ?_)
  refine wb_iald 359 rfl (wy_pr rfl) wt_359 (n := 2) ((ml_359 hM)) (by omega) (by omega) (v := h) (mh) (fun r3 => ?_)
  refine wa_iadd ?_
  refine wa_ireturn rfl ?_
  show wJ _ _ _ _ _ _ _ _ _ _
  refine wa_iconst ?_
  refine wa_isub ?_
  refine wa_istore_n (n := 2) rfl ?_
  refine wa_iload_n (n := 2) rfl ?_
  refine wa_iconst ?_
  refine wa_isub ?_
  refine wa_istore_n (n := 3) rfl ?_
  refine wa_iload_n (n := 1) rfl ?_
  refine wa_iconst ?_
  refine wa_icmpne (w_rg0 (by omega) (by omega)) (w_rg0 (by omega) (by omega)) ⟨_, rfl⟩ (fun c4 => ?_) (fun c4 => ?_)
  · skip
    refine wa_iload_n (n := 1) rfl ?_
    refine wa_bipush (w_rg2 (by omega) (by omega)) ?_
    refine wa_icmpne (w_rg0 (by omega) (by omega)) (w_rg0 (by omega) (by omega)) ⟨_, rfl⟩ (fun c5 => ?_) (fun c5 => ?_)
    · skip
      refine wa_iload_n (n := 1) rfl ?_
      refine wa_bipush (w_rg2 (by omega) (by omega)) ?_
      refine wa_icmpne (w_rg0 (by omega) (by omega)) (w_rg0 (by omega) (by omega)) ⟨_, rfl⟩ (fun c6 => ?_) (fun c6 => ?_)
      · skip
        refine wa_iload_n (n := 1) rfl ?_
        refine wa_bipush (w_rg2 (by omega) (by omega)) ?_
        refine wa_icmpne (w_rg0 (by omega) (by omega)) (w_rg0 (by omega) (by omega)) ⟨_, rfl⟩ (fun c7 => ?_) (fun c7 => ?_)
        · skip
          refine wa_iload_n (n := 1) rfl ?_
          refine wa_bipush (w_rg2 (by omega) (by omega)) ?_
          refine wa_icmpge (w_rg0 (by omega) (by omega)) (w_rg0 (by omega) (by omega)) ⟨_, rfl⟩ (fun c8 => ?_) (fun c8 => ?_)
          · skip
            exact absurd c8 (by omega)
          · skip
            refine wa_aload_n (n := 0) rfl ?_
            refine wa_iload_n (n := 1) rfl ?_
            refine wa_iload_n (n := 3) rfl ?_
            refine wa_iload_n (n := 2) rfl ?_
            refine wa_cv 237 rfl (wy_pr rfl) wt_237 (M2 := fun _ => False) rfl at_M_numbers ⟨_, rfl⟩ rfl rfl ⟨trivial, trivial, (Or.inr ⟨wy_pr rfl, fun q => q⟩), trivial, trivial⟩ trivial (fun _ _ q => False.elim q) ?_ (fun _ _ _ q => q)
            refine wa_aload_n (n := 0) rfl ?_
            refine wb_gf4 237 rfl (wy_pr rfl) wt_237 wf_15_139 (v := 364) wl_237_139 ?_
            refine wa_iload_n (n := 2) rfl ?_
            refine wb_lald 364 rfl (wy_pr rfl) wt_364 (n := 4200) ((ml_364 hM)) (by omega) (by omega) (v := v1) (hvx) (fun r9 => ?_)
            refine wa_lstore (n := 4) rfl ?_
            refine wa_aload_n (n := 0) rfl ?_
            refine wb_gf4 237 rfl (wy_pr rfl) wt_237 wf_15_139 (v := 364) wl_237_139 ?_
            refine wa_iload_n (n := 3) rfl ?_
            refine wb_lald 364 rfl (wy_pr rfl) wt_364 (n := 4200) ((ml_364 hM)) (by omega) (by omega) (v := v2) (hvy) (fun r10 => ?_)
            refine wa_lstore (n := 6) rfl ?_
            refine wa_iload_n (n := 1) rfl ?_
            refine wa_bipush (w_rg2 (by omega) (by omega)) ?_
            refine wa_icmpne (w_rg0 (by omega) (by omega)) (w_rg0 (by omega) (by omega)) ⟨_, rfl⟩ (fun c11 => ?_) (fun c11 => ?_)
            · skip
              exact absurd c11 (by omega)
            · skip
              refine wa_aload_n (n := 0) rfl ?_
              refine wb_gf4 237 rfl (wy_pr rfl) wt_237 wf_15_138 (v := 363) wl_237_138 ?_
              refine wa_iload_n (n := 2) rfl ?_
              refine wb_iald 363 rfl (wy_pr rfl) wt_363 (n := 4200) ((ml_363 hM)) (by omega) (by omega) (v := k1) (hkx) (fun r12 => ?_)
              refine wa_iconst ?_
              refine wa_icmpeq (w_rg0 (by omega) (by omega)) (w_rg0 (by omega) (by omega)) ⟨_, rfl⟩ (fun c13 => ?_) (fun c13 => ?_)
              · skip
                refine wa_aload_n (n := 0) rfl ?_
                refine wa_aload_n (n := 0) rfl ?_
                refine wb_gf4 237 rfl (wy_pr rfl) wt_237 wf_15_138 (v := 363) wl_237_138 ?_
                refine wa_iload_n (n := 2) rfl ?_
                refine wb_iald 363 rfl (wy_pr rfl) wt_363 (n := 4200) ((ml_363 hM)) (by omega) (by omega) (v := k1) (hkx) (fun r14 => ?_)
                refine wa_cv 237 rfl (wy_pr rfl) wt_237 (M2 := fun _ => False) rfl at_M_prints ⟨_, rfl⟩ rfl rfl ⟨trivial, trivial, (Or.inr ⟨wy_pr rfl, fun q => q⟩), trivial, trivial, trivial, trivial⟩ trivial (fun _ _ q => False.elim q) ?_ (fun _ _ _ q => q)
                refine wa_iload_n (n := 1) rfl ?_
                refine wa_iconst ?_
                refine wa_icmpgt (w_rg0 (by omega) (by omega)) (w_rg0 (by omega) (by omega)) ⟨_, rfl⟩ (fun c15 => ?_) (fun c15 => ?_)
                · skip
                  exact absurd c15 (by omega)
                · skip
                  refine wa_iconst ?_
                  refine wa_goto ⟨_, rfl⟩ ?_
                  refine wa_zreturn rfl (Or.inr rfl) ?_
                  show wJ _ _ _ _ _ _ _ _ _ _
                  refine wa_ifeq (w_rg0 (by omega) (by omega)) ⟨_, rfl⟩ (fun c16 => ?_) (fun c16 => ?_)
                  · skip
                    exact absurd c16 (by omega)
                  · skip
                    refine wa_aload_n (n := 0) rfl ?_
                    refine wa_aload_n (n := 0) rfl ?_
                    refine wb_gf4 237 rfl (wy_pr rfl) wt_237 wf_15_138 (v := 363) wl_237_138 ?_
                    refine wa_iload_n (n := 3) rfl ?_
                    refine wb_iald 363 rfl (wy_pr rfl) wt_363 (n := 4200) ((ml_363 hM)) (by omega) (by omega) (v := k2) (hky) (fun r17 => ?_)
                    refine wa_cv 237 rfl (wy_pr rfl) wt_237 (M2 := fun _ => False) rfl at_M_prints ⟨_, rfl⟩ rfl rfl ⟨trivial, trivial, (Or.inr ⟨wy_pr rfl, fun q => q⟩), trivial, trivial, trivial, trivial⟩ trivial (fun _ _ q => False.elim q) ?_ (fun _ _ _ q => q)
                    refine wa_iload_n (n := 1) rfl ?_
                    refine wa_iconst ?_
                    refine wa_icmpgt (w_rg0 (by omega) (by omega)) (w_rg0 (by omega) (by omega)) ⟨_, rfl⟩ (fun c18 => ?_) (fun c18 => ?_)
                    · skip
                      exact absurd c18 (by omega)
                    · skip
                      refine wa_iconst ?_
                      refine wa_goto ⟨_, rfl⟩ ?_
                      refine wa_zreturn rfl (Or.inr rfl) ?_
                      show wJ _ _ _ _ _ _ _ _ _ _
                      refine wa_ifeq (w_rg0 (by omega) (by omega)) ⟨_, rfl⟩ (fun c19 => ?_) (fun c19 => ?_)
                      · skip
                        exact absurd c19 (by omega)
                      · skip
                        refine wa_aload_n (n := 0) rfl ?_
                        refine wa_iconst ?_
                        refine wa_aload_n (n := 0) rfl ?_
                        refine wa_aload_n (n := 0) rfl ?_
                        refine wb_gf4 237 rfl (wy_pr rfl) wt_237 wf_15_138 (v := 363) wl_237_138 ?_
                        refine wa_iload_n (n := 2) rfl ?_
                        refine wb_iald 363 rfl (wy_pr rfl) wt_363 (n := 4200) ((ml_363 hM)) (by omega) (by omega) (v := k1) (hkx) (fun r20 => ?_)
                        refine wa_lload (n := 4) rfl ?_
                        refine wa_aload_n (n := 0) rfl ?_
                        refine wb_gf4 237 rfl (wy_pr rfl) wt_237 wf_15_138 (v := 363) wl_237_138 ?_
                        refine wa_iload_n (n := 3) rfl ?_
                        refine wb_iald 363 rfl (wy_pr rfl) wt_363 (n := 4200) ((ml_363 hM)) (by omega) (by omega) (v := k2) (hky) (fun r21 => ?_)
                        refine wa_lload (n := 6) rfl ?_
                        refine wa_cv 237 rfl (wy_pr rfl) wt_237 (M2 := fun _ => False) rfl at_M_joined ⟨_, rfl⟩ rfl rfl ⟨trivial, trivial, (Or.inr ⟨wy_pr rfl, fun q => q⟩), trivial, trivial, trivial, trivial⟩ ⟨trivial, (Or.inr ⟨wy_pr rfl, fun q => q⟩), trivial⟩ (fun _ _ q => False.elim q) (hcal) (fun oq22 Sq22 hp23 q22 => ?_)
                        rcases q22 with ⟨rfl, hq0⟩ | ⟨rfl, hq0⟩
                        · skip
                          refine ⟨rfl, ?_⟩
                          refine ⟨rfl, ?_⟩
                          exact Or.inl ⟨rfl, hq0⟩
                        · skip
                          show wJ _ _ _ _ _ _ _ _ _ _
                          have hMZ := (hR _ hq0).1
                          have hzt := (hR _ hq0).2.1
                          have hzh := (hR _ hq0).2.2
                          refine wa_i2l (w_rg0 (by omega) (by omega)) ?_
                          refine wa_cv 237 rfl (wy_pr rfl) wt_237 (M2 := fun _ => False) rfl at_M_is ⟨_, rfl⟩ rfl rfl ⟨trivial, trivial, (Or.inr ⟨wy_pr rfl, fun q => q⟩), trivial, trivial, trivial, trivial⟩ trivial (fun _ _ q => False.elim q) ?_ (fun _ _ _ q => q)
                          refine wa_aload_n (n := 0) rfl ?_
                          refine wa_iload_n (n := 1) rfl ?_
                          refine wb_pfi 237 rfl (wy_pr rfl) wt_237 wf_15_110 (n := 110) rfl ⟨(by omega), (by omega)⟩ ?_
                          refine wa_aload_n (n := 0) rfl ?_
                          refine wa_lload_n (n := 2) rfl ?_
                          refine wb_pfl 237 rfl (wy_pr rfl) wt_237 wf_15_111 (n := 111) rfl ⟨(by omega), (by omega)⟩ ?_
                          refine wa_return rfl ?_
                          show wJ _ _ _ _ _ _ _ _ _ _
                          refine wa_return rfl ?_
                          show wJ _ _ _ _ _ _ _ _ _ _
                          refine wa_goto ⟨_, rfl⟩ ?_
                          refine wa_aload_n (n := 0) rfl ?_
                          refine wb_gf4 237 rfl (wy_pr rfl) wt_237 wf_15_134 (v := 359) wl_237_134 ?_
                          refine wa_aload_n (n := 0) rfl ?_
                          refine wb_gfi 237 rfl (wy_pr rfl) wt_237 wf_15_151 (v := t) ((w_up_at (by decide)).trans ((w_up_at (by decide)).trans (hzt))) (fun r24 => ?_)
                          refine wa_dup2 (by decide) (by decide) ?_
                          refine wb_iald 359 rfl (wy_pr rfl) wt_359 (n := 2) ((w_up_slot (by decide)).trans ((w_up_slot (by decide)).trans ((ml_359 hMZ)))) (by omega) (by omega) (v := h) ((w_up_slot (by decide)).trans ((w_up_slot (by decide)).trans (hzh))) (fun r25 => ?_)
                          refine wa_iconst ?_
                          refine wa_isub ?_
                          refine wb_iast 359 rfl (wy_pr rfl) wt_359 (n := 2) ((w_up_slot (by decide)).trans ((w_up_slot (by decide)).trans ((ml_359 hMZ)))) (by omega) (by omega) ⟨(by omega), (by omega)⟩ ?_
                          refine wa_aload_n (n := 0) rfl ?_
                          refine wb_gf4 237 rfl (wy_pr rfl) wt_237 wf_15_138 (v := 363) wl_237_138 ?_
                          refine wa_iload_n (n := 3) rfl ?_
                          refine wa_aload_n (n := 0) rfl ?_
                          refine wb_gfi 237 rfl (wy_pr rfl) wt_237 wf_15_110 (v := 3) ((w_up_slot (by decide)).trans ((w_up_at (by decide)).trans (w_up_same _ _ _ _))) (fun r26 => ?_)
                          refine wb_iast 363 rfl (wy_pr rfl) wt_363 (n := 4200) ((w_up_slot (by decide)).trans ((w_up_slot (by decide)).trans ((w_up_slot (by decide)).trans ((ml_363 hMZ))))) (by omega) (by omega) ⟨(by omega), (by omega)⟩ ?_
                          refine wa_aload_n (n := 0) rfl ?_
                          refine wb_gf4 237 rfl (wy_pr rfl) wt_237 wf_15_139 (v := 364) wl_237_139 ?_
                          refine wa_iload_n (n := 3) rfl ?_
                          refine wa_aload_n (n := 0) rfl ?_
                          refine wb_gfl 237 rfl (wy_pr rfl) wt_237 wf_15_111 (v := mm) ((w_up_slot (by decide)).trans ((w_up_slot (by decide)).trans (w_up_same _ _ _ _))) (fun r27 => ?_)
                          refine wb_last 364 rfl (wy_pr rfl) wt_364 (n := 4200) ((w_up_slot (by decide)).trans ((w_up_slot (by decide)).trans ((w_up_slot (by decide)).trans ((w_up_slot (by decide)).trans ((ml_364 hMZ)))))) (by omega) (by omega) ⟨(by omega), (by omega)⟩ ?_
                          refine wa_fall ⟨_, rfl⟩ ?_
                          refine wa_return rfl ?_
                          exact Or.inr ⟨rfl, _, hq0, rfl⟩
              · skip
                refine wa_aload_n (n := 0) rfl ?_
                refine wb_gf4 237 rfl (wy_pr rfl) wt_237 wf_15_138 (v := 363) wl_237_138 ?_
                refine wa_iload_n (n := 3) rfl ?_
                refine wb_iald 363 rfl (wy_pr rfl) wt_363 (n := 4200) ((ml_363 hM)) (by omega) (by omega) (v := k2) (hky) (fun r28 => ?_)
                refine wa_iconst ?_
                refine wa_icmpne (w_rg0 (by omega) (by omega)) (w_rg0 (by omega) (by omega)) ⟨_, rfl⟩ (fun c29 => ?_) (fun c29 => ?_)
                · skip
                  exfalso; omega
                · skip
                  refine wa_fall ⟨_, rfl⟩ ?_
                  refine wa_aload_n (n := 0) rfl ?_
                  refine wa_aload_n (n := 0) rfl ?_
                  refine wb_gf4 237 rfl (wy_pr rfl) wt_237 wf_15_138 (v := 363) wl_237_138 ?_
                  refine wa_iload_n (n := 2) rfl ?_
                  refine wb_iald 363 rfl (wy_pr rfl) wt_363 (n := 4200) ((ml_363 hM)) (by omega) (by omega) (v := k1) (hkx) (fun r30 => ?_)
                  refine wa_cv 237 rfl (wy_pr rfl) wt_237 (M2 := fun _ => False) rfl at_M_prints ⟨_, rfl⟩ rfl rfl ⟨trivial, trivial, (Or.inr ⟨wy_pr rfl, fun q => q⟩), trivial, trivial, trivial, trivial⟩ trivial (fun _ _ q => False.elim q) ?_ (fun _ _ _ q => q)
                  refine wa_iload_n (n := 1) rfl ?_
                  refine wa_iconst ?_
                  refine wa_icmpgt (w_rg0 (by omega) (by omega)) (w_rg0 (by omega) (by omega)) ⟨_, rfl⟩ (fun c31 => ?_) (fun c31 => ?_)
                  · skip
                    exact absurd c31 (by omega)
                  · skip
                    refine wa_iconst ?_
                    refine wa_goto ⟨_, rfl⟩ ?_
                    refine wa_zreturn rfl (Or.inr rfl) ?_
                    show wJ _ _ _ _ _ _ _ _ _ _
                    refine wa_ifeq (w_rg0 (by omega) (by omega)) ⟨_, rfl⟩ (fun c32 => ?_) (fun c32 => ?_)
                    · skip
                      exact absurd c32 (by omega)
                    · skip
                      refine wa_aload_n (n := 0) rfl ?_
                      refine wa_aload_n (n := 0) rfl ?_
                      refine wb_gf4 237 rfl (wy_pr rfl) wt_237 wf_15_138 (v := 363) wl_237_138 ?_
                      refine wa_iload_n (n := 3) rfl ?_
                      refine wb_iald 363 rfl (wy_pr rfl) wt_363 (n := 4200) ((ml_363 hM)) (by omega) (by omega) (v := k2) (hky) (fun r33 => ?_)
                      refine wa_cv 237 rfl (wy_pr rfl) wt_237 (M2 := fun _ => False) rfl at_M_prints ⟨_, rfl⟩ rfl rfl ⟨trivial, trivial, (Or.inr ⟨wy_pr rfl, fun q => q⟩), trivial, trivial, trivial, trivial⟩ trivial (fun _ _ q => False.elim q) ?_ (fun _ _ _ q => q)
                      refine wa_iload_n (n := 1) rfl ?_
                      refine wa_iconst ?_
                      refine wa_icmpgt (w_rg0 (by omega) (by omega)) (w_rg0 (by omega) (by omega)) ⟨_, rfl⟩ (fun c34 => ?_) (fun c34 => ?_)
                      · skip
                        exact absurd c34 (by omega)
                      · skip
                        refine wa_iconst ?_
                        refine wa_goto ⟨_, rfl⟩ ?_
                        refine wa_zreturn rfl (Or.inr rfl) ?_
                        show wJ _ _ _ _ _ _ _ _ _ _
                        refine wa_ifeq (w_rg0 (by omega) (by omega)) ⟨_, rfl⟩ (fun c35 => ?_) (fun c35 => ?_)
                        · skip
                          exact absurd c35 (by omega)
                        · skip
                          refine wa_aload_n (n := 0) rfl ?_
                          refine wa_iconst ?_
                          refine wa_aload_n (n := 0) rfl ?_
                          refine wa_aload_n (n := 0) rfl ?_
                          refine wb_gf4 237 rfl (wy_pr rfl) wt_237 wf_15_138 (v := 363) wl_237_138 ?_
                          refine wa_iload_n (n := 2) rfl ?_
                          refine wb_iald 363 rfl (wy_pr rfl) wt_363 (n := 4200) ((ml_363 hM)) (by omega) (by omega) (v := k1) (hkx) (fun r36 => ?_)
                          refine wa_lload (n := 4) rfl ?_
                          refine wa_aload_n (n := 0) rfl ?_
                          refine wb_gf4 237 rfl (wy_pr rfl) wt_237 wf_15_138 (v := 363) wl_237_138 ?_
                          refine wa_iload_n (n := 3) rfl ?_
                          refine wb_iald 363 rfl (wy_pr rfl) wt_363 (n := 4200) ((ml_363 hM)) (by omega) (by omega) (v := k2) (hky) (fun r37 => ?_)
                          refine wa_lload (n := 6) rfl ?_
                          refine wa_cv 237 rfl (wy_pr rfl) wt_237 (M2 := fun _ => False) rfl at_M_joined ⟨_, rfl⟩ rfl rfl ⟨trivial, trivial, (Or.inr ⟨wy_pr rfl, fun q => q⟩), trivial, trivial, trivial, trivial⟩ ⟨trivial, (Or.inr ⟨wy_pr rfl, fun q => q⟩), trivial⟩ (fun _ _ q => False.elim q) (hcal) (fun oq38 Sq38 hp39 q38 => ?_)
                          rcases q38 with ⟨rfl, hq0⟩ | ⟨rfl, hq0⟩
                          · skip
                            refine ⟨rfl, ?_⟩
                            refine ⟨rfl, ?_⟩
                            exact Or.inl ⟨rfl, hq0⟩
                          · skip
                            show wJ _ _ _ _ _ _ _ _ _ _
                            have hMZ := (hR _ hq0).1
                            have hzt := (hR _ hq0).2.1
                            have hzh := (hR _ hq0).2.2
                            refine wa_i2l (w_rg0 (by omega) (by omega)) ?_
                            refine wa_cv 237 rfl (wy_pr rfl) wt_237 (M2 := fun _ => False) rfl at_M_is ⟨_, rfl⟩ rfl rfl ⟨trivial, trivial, (Or.inr ⟨wy_pr rfl, fun q => q⟩), trivial, trivial, trivial, trivial⟩ trivial (fun _ _ q => False.elim q) ?_ (fun _ _ _ q => q)
                            refine wa_aload_n (n := 0) rfl ?_
                            refine wa_iload_n (n := 1) rfl ?_
                            refine wb_pfi 237 rfl (wy_pr rfl) wt_237 wf_15_110 (n := 110) rfl ⟨(by omega), (by omega)⟩ ?_
                            refine wa_aload_n (n := 0) rfl ?_
                            refine wa_lload_n (n := 2) rfl ?_
                            refine wb_pfl 237 rfl (wy_pr rfl) wt_237 wf_15_111 (n := 111) rfl ⟨(by omega), (by omega)⟩ ?_
                            refine wa_return rfl ?_
                            show wJ _ _ _ _ _ _ _ _ _ _
                            refine wa_return rfl ?_
                            show wJ _ _ _ _ _ _ _ _ _ _
                            refine wa_goto ⟨_, rfl⟩ ?_
                            refine wa_aload_n (n := 0) rfl ?_
                            refine wb_gf4 237 rfl (wy_pr rfl) wt_237 wf_15_134 (v := 359) wl_237_134 ?_
                            refine wa_aload_n (n := 0) rfl ?_
                            refine wb_gfi 237 rfl (wy_pr rfl) wt_237 wf_15_151 (v := t) ((w_up_at (by decide)).trans ((w_up_at (by decide)).trans (hzt))) (fun r40 => ?_)
                            refine wa_dup2 (by decide) (by decide) ?_
                            refine wb_iald 359 rfl (wy_pr rfl) wt_359 (n := 2) ((w_up_slot (by decide)).trans ((w_up_slot (by decide)).trans ((ml_359 hMZ)))) (by omega) (by omega) (v := h) ((w_up_slot (by decide)).trans ((w_up_slot (by decide)).trans (hzh))) (fun r41 => ?_)
                            refine wa_iconst ?_
                            refine wa_isub ?_
                            refine wb_iast 359 rfl (wy_pr rfl) wt_359 (n := 2) ((w_up_slot (by decide)).trans ((w_up_slot (by decide)).trans ((ml_359 hMZ)))) (by omega) (by omega) ⟨(by omega), (by omega)⟩ ?_
                            refine wa_aload_n (n := 0) rfl ?_
                            refine wb_gf4 237 rfl (wy_pr rfl) wt_237 wf_15_138 (v := 363) wl_237_138 ?_
                            refine wa_iload_n (n := 3) rfl ?_
                            refine wa_aload_n (n := 0) rfl ?_
                            refine wb_gfi 237 rfl (wy_pr rfl) wt_237 wf_15_110 (v := 3) ((w_up_slot (by decide)).trans ((w_up_at (by decide)).trans (w_up_same _ _ _ _))) (fun r42 => ?_)
                            refine wb_iast 363 rfl (wy_pr rfl) wt_363 (n := 4200) ((w_up_slot (by decide)).trans ((w_up_slot (by decide)).trans ((w_up_slot (by decide)).trans ((ml_363 hMZ))))) (by omega) (by omega) ⟨(by omega), (by omega)⟩ ?_
                            refine wa_aload_n (n := 0) rfl ?_
                            refine wb_gf4 237 rfl (wy_pr rfl) wt_237 wf_15_139 (v := 364) wl_237_139 ?_
                            refine wa_iload_n (n := 3) rfl ?_
                            refine wa_aload_n (n := 0) rfl ?_
                            refine wb_gfl 237 rfl (wy_pr rfl) wt_237 wf_15_111 (v := mm) ((w_up_slot (by decide)).trans ((w_up_slot (by decide)).trans (w_up_same _ _ _ _))) (fun r43 => ?_)
                            refine wb_last 364 rfl (wy_pr rfl) wt_364 (n := 4200) ((w_up_slot (by decide)).trans ((w_up_slot (by decide)).trans ((w_up_slot (by decide)).trans ((w_up_slot (by decide)).trans ((ml_364 hMZ)))))) (by omega) (by omega) ⟨(by omega), (by omega)⟩ ?_
                            refine wa_fall ⟨_, rfl⟩ ?_
                            refine wa_return rfl ?_
                            exact Or.inr ⟨rfl, _, hq0, rfl⟩
        · skip
          exact absurd c7 (by omega)
      · skip
        exact absurd c6 (by omega)
    · skip
      exact absurd c5 (by omega)
  · skip
    exact absurd c4 (by omega)
theorem yj7e {t c p h tp k1 v1 k2 v2 : Int} (hP : mP t c p h tp S) (hky : S 363 (2100 * t + h - 1) = k2) (hvy : S 364 (2100 * t + h - 1) = v2) (hkx : S 363 (2100 * t + h - 1 - 1) = k1) (hvx : S 364 (2100 * t + h - 1 - 1) = v1) (hh1 : 2 ≤ h) (hk8 : (0 ≤ k1 ∧ k1 ≤ 8) ∧ (0 ≤ k2 ∧ k2 ≤ 8)) (hn2 : ¬ (k1 = 2 ∧ k2 = 2)) (hn : 3 < k1 ∨ 3 < k2 ∨ (k1 ≠ 3 ∧ k2 ≠ 3)) : wJ (pe_GA xs) wY0 M (d + 11) t_M_operators ((pe_at t_M_operators.bl 0).getD (0, [])).2 [(0, (2, 237)), (1, (0, 7))] [] S (fun o Z => o = .inr 238 ∧ hZ 1 S = Z) := by
  obtain ⟨hM, ⟨mt, mt0, mt1⟩, mp, mf, ⟨mc, mc0, mc1⟩, ⟨mtp, mtq⟩, ⟨mpa, mp0, mp1⟩, mh, mh0, mh1⟩ := hP
  refine wa_aload_n (n := 0) rfl ?_
  refine wa_cv 237 rfl (wy_pr rfl) wt_237 (M2 := fun _ => False) rfl at_M_h ⟨_, rfl⟩ rfl rfl ⟨(Or.inr ⟨wy_pr rfl, fun q => q⟩), trivial, trivial⟩ trivial (fun _ _ q => False.elim q) ?_ (fun _ _ _ q => q)
  refine wa_aload_n (n := 0) rfl ?_
  refine wb_gfi 237 rfl (wy_pr rfl) wt_237 wf_15_152 (v := (2100 * t)) (mp) (fun r1 => ?_)
  refine wa_aload_n (n := 0) rfl ?_
  refine wb_gf4 237 rfl (wy_pr rfl) wt_237 wf_15_134 (v := 359) wl_237_134 ?_
  refine wa_aload_n (n := 0) rfl ?_
  refine wb_gfi 237 rfl (wy_pr rfl) wt_237 wf_15_151 (v := t) (mt) (fun r2 => ?_)
  refine wb_iald 359 rfl (wy_pr rfl) wt_359 (n := 2) ((ml_359 hM)) (by omega) (by omega) (v := h) (mh) (fun r3 => ?_)
  refine wa_iadd ?_
  refine wa_ireturn rfl ?_
  show wJ _ _ _ _ _ _ _ _ _ _
  refine wa_iconst ?_
  refine wa_isub ?_
  refine wa_istore_n (n := 2) rfl ?_
  refine wa_iload_n (n := 2) rfl ?_
  refine wa_iconst ?_
  refine wa_isub ?_
  refine wa_istore_n (n := 3) rfl ?_
  refine wa_iload_n (n := 1) rfl ?_
  refine wa_iconst ?_
  refine wa_icmpne (w_rg0 (by omega) (by omega)) (w_rg0 (by omega) (by omega)) ⟨_, rfl⟩ (fun c4 => ?_) (fun c4 => ?_)
  · skip
    refine wa_iload_n (n := 1) rfl ?_
    refine wa_bipush (w_rg2 (by omega) (by omega)) ?_
    refine wa_icmpne (w_rg0 (by omega) (by omega)) (w_rg0 (by omega) (by omega)) ⟨_, rfl⟩ (fun c5 => ?_) (fun c5 => ?_)
    · skip
      refine wa_iload_n (n := 1) rfl ?_
      refine wa_bipush (w_rg2 (by omega) (by omega)) ?_
      refine wa_icmpne (w_rg0 (by omega) (by omega)) (w_rg0 (by omega) (by omega)) ⟨_, rfl⟩ (fun c6 => ?_) (fun c6 => ?_)
      · skip
        refine wa_iload_n (n := 1) rfl ?_
        refine wa_bipush (w_rg2 (by omega) (by omega)) ?_
        refine wa_icmpne (w_rg0 (by omega) (by omega)) (w_rg0 (by omega) (by omega)) ⟨_, rfl⟩ (fun c7 => ?_) (fun c7 => ?_)
        · skip
          refine wa_iload_n (n := 1) rfl ?_
          refine wa_bipush (w_rg2 (by omega) (by omega)) ?_
          refine wa_icmpge (w_rg0 (by omega) (by omega)) (w_rg0 (by omega) (by omega)) ⟨_, rfl⟩ (fun c8 => ?_) (fun c8 => ?_)
          · skip
            exact absurd c8 (by omega)
          · skip
            refine wa_aload_n (n := 0) rfl ?_
            refine wa_iload_n (n := 1) rfl ?_
            refine wa_iload_n (n := 3) rfl ?_
            refine wa_iload_n (n := 2) rfl ?_
            refine wa_cv 237 rfl (wy_pr rfl) wt_237 (M2 := fun _ => False) rfl at_M_numbers ⟨_, rfl⟩ rfl rfl ⟨trivial, trivial, (Or.inr ⟨wy_pr rfl, fun q => q⟩), trivial, trivial⟩ trivial (fun _ _ q => False.elim q) ?_ (fun _ _ _ q => q)
            refine wa_aload_n (n := 0) rfl ?_
            refine wb_gf4 237 rfl (wy_pr rfl) wt_237 wf_15_139 (v := 364) wl_237_139 ?_
            refine wa_iload_n (n := 2) rfl ?_
            refine wb_lald 364 rfl (wy_pr rfl) wt_364 (n := 4200) ((ml_364 hM)) (by omega) (by omega) (v := v1) (hvx) (fun r9 => ?_)
            refine wa_lstore (n := 4) rfl ?_
            refine wa_aload_n (n := 0) rfl ?_
            refine wb_gf4 237 rfl (wy_pr rfl) wt_237 wf_15_139 (v := 364) wl_237_139 ?_
            refine wa_iload_n (n := 3) rfl ?_
            refine wb_lald 364 rfl (wy_pr rfl) wt_364 (n := 4200) ((ml_364 hM)) (by omega) (by omega) (v := v2) (hvy) (fun r10 => ?_)
            refine wa_lstore (n := 6) rfl ?_
            refine wa_iload_n (n := 1) rfl ?_
            refine wa_bipush (w_rg2 (by omega) (by omega)) ?_
            refine wa_icmpne (w_rg0 (by omega) (by omega)) (w_rg0 (by omega) (by omega)) ⟨_, rfl⟩ (fun c11 => ?_) (fun c11 => ?_)
            · skip
              exact absurd c11 (by omega)
            · skip
              refine wa_aload_n (n := 0) rfl ?_
              refine wb_gf4 237 rfl (wy_pr rfl) wt_237 wf_15_138 (v := 363) wl_237_138 ?_
              refine wa_iload_n (n := 2) rfl ?_
              refine wb_iald 363 rfl (wy_pr rfl) wt_363 (n := 4200) ((ml_363 hM)) (by omega) (by omega) (v := k1) (hkx) (fun r12 => ?_)
              refine wa_iconst ?_
              refine wa_icmpeq (w_rg0 (by omega) (by omega)) (w_rg0 (by omega) (by omega)) ⟨_, rfl⟩ (fun c13 => ?_) (fun c13 => ?_)
              · skip
                refine wa_aload_n (n := 0) rfl ?_
                refine wa_aload_n (n := 0) rfl ?_
                refine wb_gf4 237 rfl (wy_pr rfl) wt_237 wf_15_138 (v := 363) wl_237_138 ?_
                refine wa_iload_n (n := 2) rfl ?_
                refine wb_iald 363 rfl (wy_pr rfl) wt_363 (n := 4200) ((ml_363 hM)) (by omega) (by omega) (v := k1) (hkx) (fun r14 => ?_)
                refine wa_cv 237 rfl (wy_pr rfl) wt_237 (M2 := fun _ => False) rfl at_M_prints ⟨_, rfl⟩ rfl rfl ⟨trivial, trivial, (Or.inr ⟨wy_pr rfl, fun q => q⟩), trivial, trivial, trivial, trivial⟩ trivial (fun _ _ q => False.elim q) ?_ (fun _ _ _ q => q)
                refine wa_iload_n (n := 1) rfl ?_
                refine wa_iconst ?_
                refine wa_icmpgt (w_rg0 (by omega) (by omega)) (w_rg0 (by omega) (by omega)) ⟨_, rfl⟩ (fun c15 => ?_) (fun c15 => ?_)
                · skip
                  exact absurd c15 (by omega)
                · skip
                  refine wa_iconst ?_
                  refine wa_goto ⟨_, rfl⟩ ?_
                  refine wa_zreturn rfl (Or.inr rfl) ?_
                  show wJ _ _ _ _ _ _ _ _ _ _
                  refine wa_ifeq (w_rg0 (by omega) (by omega)) ⟨_, rfl⟩ (fun c16 => ?_) (fun c16 => ?_)
                  · skip
                    exact absurd c16 (by omega)
                  · skip
                    refine wa_aload_n (n := 0) rfl ?_
                    refine wa_aload_n (n := 0) rfl ?_
                    refine wb_gf4 237 rfl (wy_pr rfl) wt_237 wf_15_138 (v := 363) wl_237_138 ?_
                    refine wa_iload_n (n := 3) rfl ?_
                    refine wb_iald 363 rfl (wy_pr rfl) wt_363 (n := 4200) ((ml_363 hM)) (by omega) (by omega) (v := k2) (hky) (fun r17 => ?_)
                    refine wa_cv 237 rfl (wy_pr rfl) wt_237 (M2 := fun _ => False) rfl at_M_prints ⟨_, rfl⟩ rfl rfl ⟨trivial, trivial, (Or.inr ⟨wy_pr rfl, fun q => q⟩), trivial, trivial, trivial, trivial⟩ trivial (fun _ _ q => False.elim q) ?_ (fun _ _ _ q => q)
                    refine wa_iload_n (n := 1) rfl ?_
                    refine wa_iconst ?_
                    refine wa_icmpgt (w_rg0 (by omega) (by omega)) (w_rg0 (by omega) (by omega)) ⟨_, rfl⟩ (fun c18 => ?_) (fun c18 => ?_)
                    · skip
                      refine wa_iconst ?_
                      refine wa_fall ⟨_, rfl⟩ ?_
                      refine wa_zreturn rfl (Or.inl rfl) ?_
                      show wJ _ _ _ _ _ _ _ _ _ _
                      refine wa_ifeq (w_rg0 (by omega) (by omega)) ⟨_, rfl⟩ (fun c19 => ?_) (fun c19 => ?_)
                      · skip
                        refine wa_aload_n (n := 0) rfl ?_
                        refine wb_gf4 237 rfl (wy_pr rfl) wt_237 wf_15_138 (v := 363) wl_237_138 ?_
                        refine wa_iload_n (n := 2) rfl ?_
                        refine wb_iald 363 rfl (wy_pr rfl) wt_363 (n := 4200) ((ml_363 hM)) (by omega) (by omega) (v := k1) (hkx) (fun r20 => ?_)
                        refine wa_iconst ?_
                        refine wa_icmpne (w_rg0 (by omega) (by omega)) (w_rg0 (by omega) (by omega)) ⟨_, rfl⟩ (fun c21 => ?_) (fun c21 => ?_)
                        · skip
                          refine wa_aload_n (n := 0) rfl ?_
                          refine wa_iconst ?_
                          refine wa_cv 237 rfl (wy_pr rfl) wt_237 (M2 := fun _ => False) rfl at_M_error ⟨_, rfl⟩ rfl rfl ⟨trivial, trivial, (Or.inr ⟨wy_pr rfl, fun q => q⟩), trivial, trivial, trivial, trivial⟩ trivial (fun _ _ q => False.elim q) ?_ (fun _ _ _ q => q)
                          refine wa_aload_n (n := 0) rfl ?_
                          refine wb_gf4 237 rfl (wy_pr rfl) wt_237 wf_15_1 (v := 238) wl_237_1 ?_
                          refine wa_iload_n (n := 1) rfl ?_
                          refine wa_iconst ?_
                          refine wa_cv 238 rfl (wy_pr rfl) wt_238 (M2 := fun _ => False) rfl at_MH_of ⟨_, rfl⟩ rfl rfl ⟨(Or.inr ⟨wy_pr rfl, fun q => q⟩), trivial, trivial⟩ trivial (fun _ _ q => False.elim q) ?_ (fun _ _ _ q => q)
                          refine wa_aload_n (n := 0) rfl ?_
                          refine wa_iload_n (n := 1) rfl ?_
                          refine wb_pfi 238 rfl (wy_pr rfl) wt_238 wf_11_5 (n := 5) rfl ⟨(by omega), (by omega)⟩ ?_
                          refine wa_aload_n (n := 0) rfl ?_
                          refine wa_iload_n (n := 2) rfl ?_
                          refine wb_pfi 238 rfl (wy_pr rfl) wt_238 wf_11_6 (n := 6) rfl ⟨(by omega), (by omega)⟩ ?_
                          refine wa_aload_n (n := 0) rfl ?_
                          refine wa_oreturn rfl ?_
                          show wJ _ _ _ _ _ _ _ _ _ _
                          refine wa_th (j := 238) ?_
                          refine ⟨rfl, ?_⟩
                          refine ⟨rfl, ?_⟩
                          exact ⟨rfl, rfl⟩
                        · skip
                          exact absurd c21 (by omega)
                      · skip
                        exact absurd c19 (by omega)
                    · skip
                      refine wa_iconst ?_
                      refine wa_goto ⟨_, rfl⟩ ?_
                      refine wa_zreturn rfl (Or.inr rfl) ?_
                      show wJ _ _ _ _ _ _ _ _ _ _
                      refine wa_ifeq (w_rg0 (by omega) (by omega)) ⟨_, rfl⟩ (fun c22 => ?_) (fun c22 => ?_)
                      · skip
                        exact absurd c22 (by omega)
                      · skip
                        exfalso; omega
              · skip
                refine wa_aload_n (n := 0) rfl ?_
                refine wb_gf4 237 rfl (wy_pr rfl) wt_237 wf_15_138 (v := 363) wl_237_138 ?_
                refine wa_iload_n (n := 3) rfl ?_
                refine wb_iald 363 rfl (wy_pr rfl) wt_363 (n := 4200) ((ml_363 hM)) (by omega) (by omega) (v := k2) (hky) (fun r23 => ?_)
                refine wa_iconst ?_
                refine wa_icmpne (w_rg0 (by omega) (by omega)) (w_rg0 (by omega) (by omega)) ⟨_, rfl⟩ (fun c24 => ?_) (fun c24 => ?_)
                · skip
                  refine wa_aload_n (n := 0) rfl ?_
                  refine wb_gf4 237 rfl (wy_pr rfl) wt_237 wf_15_138 (v := 363) wl_237_138 ?_
                  refine wa_iload_n (n := 2) rfl ?_
                  refine wb_iald 363 rfl (wy_pr rfl) wt_363 (n := 4200) ((ml_363 hM)) (by omega) (by omega) (v := k1) (hkx) (fun r25 => ?_)
                  refine wa_iconst ?_
                  refine wa_icmpne (w_rg0 (by omega) (by omega)) (w_rg0 (by omega) (by omega)) ⟨_, rfl⟩ (fun c26 => ?_) (fun c26 => ?_)
                  · skip
                    refine wa_aload_n (n := 0) rfl ?_
                    refine wa_iconst ?_
                    refine wa_cv 237 rfl (wy_pr rfl) wt_237 (M2 := fun _ => False) rfl at_M_error ⟨_, rfl⟩ rfl rfl ⟨trivial, trivial, (Or.inr ⟨wy_pr rfl, fun q => q⟩), trivial, trivial, trivial, trivial⟩ trivial (fun _ _ q => False.elim q) ?_ (fun _ _ _ q => q)
                    refine wa_aload_n (n := 0) rfl ?_
                    refine wb_gf4 237 rfl (wy_pr rfl) wt_237 wf_15_1 (v := 238) wl_237_1 ?_
                    refine wa_iload_n (n := 1) rfl ?_
                    refine wa_iconst ?_
                    refine wa_cv 238 rfl (wy_pr rfl) wt_238 (M2 := fun _ => False) rfl at_MH_of ⟨_, rfl⟩ rfl rfl ⟨(Or.inr ⟨wy_pr rfl, fun q => q⟩), trivial, trivial⟩ trivial (fun _ _ q => False.elim q) ?_ (fun _ _ _ q => q)
                    refine wa_aload_n (n := 0) rfl ?_
                    refine wa_iload_n (n := 1) rfl ?_
                    refine wb_pfi 238 rfl (wy_pr rfl) wt_238 wf_11_5 (n := 5) rfl ⟨(by omega), (by omega)⟩ ?_
                    refine wa_aload_n (n := 0) rfl ?_
                    refine wa_iload_n (n := 2) rfl ?_
                    refine wb_pfi 238 rfl (wy_pr rfl) wt_238 wf_11_6 (n := 6) rfl ⟨(by omega), (by omega)⟩ ?_
                    refine wa_aload_n (n := 0) rfl ?_
                    refine wa_oreturn rfl ?_
                    show wJ _ _ _ _ _ _ _ _ _ _
                    refine wa_th (j := 238) ?_
                    refine ⟨rfl, ?_⟩
                    refine ⟨rfl, ?_⟩
                    exact ⟨rfl, rfl⟩
                  · skip
                    refine wa_aload_n (n := 0) rfl ?_
                    refine wb_gf4 237 rfl (wy_pr rfl) wt_237 wf_15_138 (v := 363) wl_237_138 ?_
                    refine wa_iload_n (n := 3) rfl ?_
                    refine wb_iald 363 rfl (wy_pr rfl) wt_363 (n := 4200) ((ml_363 hM)) (by omega) (by omega) (v := k2) (hky) (fun r27 => ?_)
                    refine wa_iconst ?_
                    refine wa_icmpeq (w_rg0 (by omega) (by omega)) (w_rg0 (by omega) (by omega)) ⟨_, rfl⟩ (fun c28 => ?_) (fun c28 => ?_)
                    · skip
                      exfalso; omega
                    · skip
                      refine wa_fall ⟨_, rfl⟩ ?_
                      refine wa_aload_n (n := 0) rfl ?_
                      refine wa_iconst ?_
                      refine wa_cv 237 rfl (wy_pr rfl) wt_237 (M2 := fun _ => False) rfl at_M_error ⟨_, rfl⟩ rfl rfl ⟨trivial, trivial, (Or.inr ⟨wy_pr rfl, fun q => q⟩), trivial, trivial, trivial, trivial⟩ trivial (fun _ _ q => False.elim q) ?_ (fun _ _ _ q => q)
                      refine wa_aload_n (n := 0) rfl ?_
                      refine wb_gf4 237 rfl (wy_pr rfl) wt_237 wf_15_1 (v := 238) wl_237_1 ?_
                      refine wa_iload_n (n := 1) rfl ?_
                      refine wa_iconst ?_
                      refine wa_cv 238 rfl (wy_pr rfl) wt_238 (M2 := fun _ => False) rfl at_MH_of ⟨_, rfl⟩ rfl rfl ⟨(Or.inr ⟨wy_pr rfl, fun q => q⟩), trivial, trivial⟩ trivial (fun _ _ q => False.elim q) ?_ (fun _ _ _ q => q)
                      refine wa_aload_n (n := 0) rfl ?_
                      refine wa_iload_n (n := 1) rfl ?_
                      refine wb_pfi 238 rfl (wy_pr rfl) wt_238 wf_11_5 (n := 5) rfl ⟨(by omega), (by omega)⟩ ?_
                      refine wa_aload_n (n := 0) rfl ?_
                      refine wa_iload_n (n := 2) rfl ?_
                      refine wb_pfi 238 rfl (wy_pr rfl) wt_238 wf_11_6 (n := 6) rfl ⟨(by omega), (by omega)⟩ ?_
                      refine wa_aload_n (n := 0) rfl ?_
                      refine wa_oreturn rfl ?_
                      show wJ _ _ _ _ _ _ _ _ _ _
                      refine wa_th (j := 238) ?_
                      refine ⟨rfl, ?_⟩
                      refine ⟨rfl, ?_⟩
                      exact ⟨rfl, rfl⟩
                · skip
                  refine wa_fall ⟨_, rfl⟩ ?_
                  refine wa_aload_n (n := 0) rfl ?_
                  refine wa_aload_n (n := 0) rfl ?_
                  refine wb_gf4 237 rfl (wy_pr rfl) wt_237 wf_15_138 (v := 363) wl_237_138 ?_
                  refine wa_iload_n (n := 2) rfl ?_
                  refine wb_iald 363 rfl (wy_pr rfl) wt_363 (n := 4200) ((ml_363 hM)) (by omega) (by omega) (v := k1) (hkx) (fun r29 => ?_)
                  refine wa_cv 237 rfl (wy_pr rfl) wt_237 (M2 := fun _ => False) rfl at_M_prints ⟨_, rfl⟩ rfl rfl ⟨trivial, trivial, (Or.inr ⟨wy_pr rfl, fun q => q⟩), trivial, trivial, trivial, trivial⟩ trivial (fun _ _ q => False.elim q) ?_ (fun _ _ _ q => q)
                  refine wa_iload_n (n := 1) rfl ?_
                  refine wa_iconst ?_
                  refine wa_icmpgt (w_rg0 (by omega) (by omega)) (w_rg0 (by omega) (by omega)) ⟨_, rfl⟩ (fun c30 => ?_) (fun c30 => ?_)
                  · skip
                    refine wa_iconst ?_
                    refine wa_fall ⟨_, rfl⟩ ?_
                    refine wa_zreturn rfl (Or.inl rfl) ?_
                    show wJ _ _ _ _ _ _ _ _ _ _
                    refine wa_ifeq (w_rg0 (by omega) (by omega)) ⟨_, rfl⟩ (fun c31 => ?_) (fun c31 => ?_)
                    · skip
                      refine wa_aload_n (n := 0) rfl ?_
                      refine wb_gf4 237 rfl (wy_pr rfl) wt_237 wf_15_138 (v := 363) wl_237_138 ?_
                      refine wa_iload_n (n := 2) rfl ?_
                      refine wb_iald 363 rfl (wy_pr rfl) wt_363 (n := 4200) ((ml_363 hM)) (by omega) (by omega) (v := k1) (hkx) (fun r32 => ?_)
                      refine wa_iconst ?_
                      refine wa_icmpne (w_rg0 (by omega) (by omega)) (w_rg0 (by omega) (by omega)) ⟨_, rfl⟩ (fun c33 => ?_) (fun c33 => ?_)
                      · skip
                        refine wa_aload_n (n := 0) rfl ?_
                        refine wa_iconst ?_
                        refine wa_cv 237 rfl (wy_pr rfl) wt_237 (M2 := fun _ => False) rfl at_M_error ⟨_, rfl⟩ rfl rfl ⟨trivial, trivial, (Or.inr ⟨wy_pr rfl, fun q => q⟩), trivial, trivial, trivial, trivial⟩ trivial (fun _ _ q => False.elim q) ?_ (fun _ _ _ q => q)
                        refine wa_aload_n (n := 0) rfl ?_
                        refine wb_gf4 237 rfl (wy_pr rfl) wt_237 wf_15_1 (v := 238) wl_237_1 ?_
                        refine wa_iload_n (n := 1) rfl ?_
                        refine wa_iconst ?_
                        refine wa_cv 238 rfl (wy_pr rfl) wt_238 (M2 := fun _ => False) rfl at_MH_of ⟨_, rfl⟩ rfl rfl ⟨(Or.inr ⟨wy_pr rfl, fun q => q⟩), trivial, trivial⟩ trivial (fun _ _ q => False.elim q) ?_ (fun _ _ _ q => q)
                        refine wa_aload_n (n := 0) rfl ?_
                        refine wa_iload_n (n := 1) rfl ?_
                        refine wb_pfi 238 rfl (wy_pr rfl) wt_238 wf_11_5 (n := 5) rfl ⟨(by omega), (by omega)⟩ ?_
                        refine wa_aload_n (n := 0) rfl ?_
                        refine wa_iload_n (n := 2) rfl ?_
                        refine wb_pfi 238 rfl (wy_pr rfl) wt_238 wf_11_6 (n := 6) rfl ⟨(by omega), (by omega)⟩ ?_
                        refine wa_aload_n (n := 0) rfl ?_
                        refine wa_oreturn rfl ?_
                        show wJ _ _ _ _ _ _ _ _ _ _
                        refine wa_th (j := 238) ?_
                        refine ⟨rfl, ?_⟩
                        refine ⟨rfl, ?_⟩
                        exact ⟨rfl, rfl⟩
                      · skip
                        exact absurd c33 (by omega)
                    · skip
                      exact absurd c31 (by omega)
                  · skip
                    refine wa_iconst ?_
                    refine wa_goto ⟨_, rfl⟩ ?_
                    refine wa_zreturn rfl (Or.inr rfl) ?_
                    show wJ _ _ _ _ _ _ _ _ _ _
                    refine wa_ifeq (w_rg0 (by omega) (by omega)) ⟨_, rfl⟩ (fun c34 => ?_) (fun c34 => ?_)
                    · skip
                      exact absurd c34 (by omega)
                    · skip
                      refine wa_aload_n (n := 0) rfl ?_
                      refine wa_aload_n (n := 0) rfl ?_
                      refine wb_gf4 237 rfl (wy_pr rfl) wt_237 wf_15_138 (v := 363) wl_237_138 ?_
                      refine wa_iload_n (n := 3) rfl ?_
                      refine wb_iald 363 rfl (wy_pr rfl) wt_363 (n := 4200) ((ml_363 hM)) (by omega) (by omega) (v := k2) (hky) (fun r35 => ?_)
                      refine wa_cv 237 rfl (wy_pr rfl) wt_237 (M2 := fun _ => False) rfl at_M_prints ⟨_, rfl⟩ rfl rfl ⟨trivial, trivial, (Or.inr ⟨wy_pr rfl, fun q => q⟩), trivial, trivial, trivial, trivial⟩ trivial (fun _ _ q => False.elim q) ?_ (fun _ _ _ q => q)
                      refine wa_iload_n (n := 1) rfl ?_
                      refine wa_iconst ?_
                      refine wa_icmpgt (w_rg0 (by omega) (by omega)) (w_rg0 (by omega) (by omega)) ⟨_, rfl⟩ (fun c36 => ?_) (fun c36 => ?_)
                      · skip
                        exact absurd c36 (by omega)
                      · skip
                        refine wa_iconst ?_
                        refine wa_goto ⟨_, rfl⟩ ?_
                        refine wa_zreturn rfl (Or.inr rfl) ?_
                        show wJ _ _ _ _ _ _ _ _ _ _
                        refine wa_ifeq (w_rg0 (by omega) (by omega)) ⟨_, rfl⟩ (fun c37 => ?_) (fun c37 => ?_)
                        · skip
                          exact absurd c37 (by omega)
                        · skip
                          exfalso; omega
        · skip
          exact absurd c7 (by omega)
      · skip
        exact absurd c6 (by omega)
    · skip
      exact absurd c5 (by omega)
  · skip
    exact absurd c4 (by omega)
theorem rTk_X {X : wS} {k v : Int} {u : aV} (h : rTk t X K) (ht : 0 ≤ t ∧ t ≤ 1) (hh : 2 ≤ K.1.length) (hv : rVl X k v u) : rTk t (pXZ t (K.1.length : Int) k v X) (K.1.take (K.1.length - 2) ++ [u], K.2) := by
  have es : ∀ (x : Int), x ≠ 110 → x ≠ 111 → (pXZ t (K.1.length : Int) k v X) 237 x = X 237 x := fun x x0 x1 => (w_up_slot (by first | decide | omega)).trans ((w_up_slot (by first | decide | omega)).trans ((w_up_slot (by first | decide | omega)).trans ((w_up_at x1).trans (w_up_at x0))))
  have es2 : ∀ (j : Nat) (x : Int), j ≠ 237 → (j ≠ 359 ∨ x ≠ t) → (j ≠ 363 ∨ x ≠ (2100 * t + (K.1.length : Int) - 1 - 1)) → (j ≠ 364 ∨ x ≠ (2100 * t + (K.1.length : Int) - 1 - 1)) → (pXZ t (K.1.length : Int) k v X) j x = X j x := fun j x j0 j1 j2 j3 => (w_up_no (by omega)).trans ((w_up_no (by omega)).trans ((w_up_no (by omega)).trans ((w_up_slot j0).trans (w_up_slot j0))))
  have e : rTx X (pXZ t (K.1.length : Int) k v X) := rTx_of (es 19 (by first | decide | omega) (by first | decide | omega)) (es 102 (by first | decide | omega) (by first | decide | omega)) (fun j x j0 j1 => es2 j x (by omega) (by omega) (by omega) (by omega))
  have e3 : (pXZ t (K.1.length : Int) k v X) 363 (2100 * t + ((K.1.length - 2 : Nat) : Int)) = k := by
    rw [show 2100 * t + ((K.1.length - 2 : Nat) : Int) = (2100 * t + (K.1.length : Int) - 1 - 1) by omega]
    exact (w_up_slot (by first | decide | omega)).trans (w_up_same _ _ _ _)
  have e4 : (pXZ t (K.1.length : Int) k v X) 364 (2100 * t + ((K.1.length - 2 : Nat) : Int)) = v := by
    rw [show 2100 * t + ((K.1.length - 2 : Nat) : Int) = (2100 * t + (K.1.length : Int) - 1 - 1) by omega]
    exact w_up_same _ _ _ _
  have e5 : (pXZ t (K.1.length : Int) k v X) 359 t = (K.1.length : Int) - 1 := (w_up_slot (by first | decide | omega)).trans ((w_up_slot (by first | decide | omega)).trans (w_up_same _ _ _ _))
  exact rTk_l1 (m := K.1.length - 2) (a := u) h e ⟨fun j hj => es2 j t (by omega) (by omega) (by omega) (by omega), fun j x j0 j1 _ _ => es2 j x (by omega) (by omega) (by omega) (by omega), fun j x j0 j1 _ _ => es2 j x (by omega) (by omega) (by omega) (by omega)⟩ (by omega) (e5.trans (by omega)) (fun x x0 x1 => ⟨es2 363 x (by first | decide | omega) (Or.inl (by first | decide | omega)) (Or.inr (by omega)) (Or.inl (by first | decide | omega)), es2 364 x (by first | decide | omega) (Or.inl (by first | decide | omega)) (Or.inl (by first | decide | omega)) (Or.inr (by omega))⟩) (by rw [e3, e4]; exact rVl_mo hv e)
set_option maxHeartbeats 4000000 in
theorem rnj7 (h : stR t S K) (hs : S 357 t = 1) (hi : rIn S K 7 a b) (hX : w_X xs) (ht : rTt S) (htb : rTb S) (hu2 : S 237 64 ≤ 12000) (hu3 : S 237 65 ≤ 200000) (hh : 2 ≤ K.1.length) (hk1 : 0 ≤ (K.1.getD (K.1.length - 2) (0, 0, [])).1 ∧ (K.1.getD (K.1.length - 2) (0, 0, [])).1 ≤ 3) (hk2 : 0 ≤ (K.1.getD (K.1.length - 1) (0, 0, [])).1 ∧ (K.1.getD (K.1.length - 1) (0, 0, [])).1 ≤ 3) (h3 : (K.1.getD (K.1.length - 2) (0, 0, [])).1 = 3 ∨ (K.1.getD (K.1.length - 1) (0, 0, [])).1 = 3) (hv1 : -9223372036854775808 ≤ S 364 (2100 * t + (K.1.length : Int) - 1 - 1) ∧ S 364 (2100 * t + (K.1.length : Int) - 1 - 1) ≤ 9223372036854775807) (hv2 : -9223372036854775808 ≤ S 364 (2100 * t + (K.1.length : Int) - 1) ∧ S 364 (2100 * t + (K.1.length : Int) - 1) ≤ 9223372036854775807) (hl1 : (pL (K.1.getD (K.1.length - 2) (0, 0, []))).length ≤ 200000) (hl2 : (pL (K.1.getD (K.1.length - 1) (0, 0, []))).length ≤ 200000) (hm : S 237 64 < 12000 ∧ S 237 65 + (((pL (K.1.getD (K.1.length - 2) (0, 0, []))).length : Int) + ((pL (K.1.getD (K.1.length - 1) (0, 0, []))).length : Int)) ≤ 200000) : rSm xs d t rMj S (kP K 2 (3, 0, pL (K.1.getD (K.1.length - 2) (0, 0, [])) ++ pL (K.1.getD (K.1.length - 1) (0, 0, [])))) (fun Z => rTx S Z ∧ (rTt Z ∧ rTb Z) ∧ (Z 237 102 = S 237 102 + 1 ∧ Z 237 103 = S 237 103 + (((pL (K.1.getD (K.1.length - 2) (0, 0, []))).length : Int) + ((pL (K.1.getD (K.1.length - 1) (0, 0, []))).length : Int)) ∧ Z 237 64 = S 237 64 + 1 ∧ Z 237 65 = S 237 65 + (((pL (K.1.getD (K.1.length - 2) (0, 0, []))).length : Int) + ((pL (K.1.getD (K.1.length - 1) (0, 0, []))).length : Int))) ∧ ∀ x : Int, x ≠ 102 → x ≠ 103 → x ≠ 64 → x ≠ 65 → x ≠ 110 → x ≠ 111 → x ≠ 113 → x ≠ 154 → x ≠ 155 → Z 237 x = S 237 x) := by
  obtain ⟨h1, h2, h3b, h4b, ⟨h7, h8, h9, h9b⟩, -⟩ := id h
  have hcx := r_at h1 (i := K.1.length - 2) (by omega) (j := (2100 * t + (K.1.length : Int) - 1 - 1)) (by omega)
  have hcy := r_at h1 (i := K.1.length - 1) (by omega) (j := (2100 * t + (K.1.length : Int) - 1)) (by omega)
  have ef : ∀ (j : Nat) (x : Int), j ≠ 237 → (w_up (w_up S 237 154 (200 * t + (K.2.1.length : Int) - 1)) 237 155 ((K.2.1.getD (K.2.1.length - 1) (0, 0, 0, (0, 0, []), 0, 0, 0)).2.1 + 1)) j x = S j x := fun j x j0 => r_16 rfl j0
  have et : ∀ x : Int, x ≠ 154 → x ≠ 155 → (w_up (w_up S 237 154 (200 * t + (K.2.1.length : Int) - 1)) 237 155 ((K.2.1.getD (K.2.1.length - 1) (0, 0, 0, (0, 0, []), 0, 0, 0)).2.1 + 1)) 237 x = S 237 x := fun x x0 x1 => (w_up_at x1).trans (w_up_at x0)
  have t1 := ht.2.1
  have t1b := ht.1
  have b1 := htb.1
  have b2 := htb.2.1
  have hM0 : w_ML (w_up (w_up S 237 154 (200 * t + (K.2.1.length : Int) - 1)) 237 155 ((K.2.1.getD (K.2.1.length - 1) (0, 0, 0, (0, 0, []), 0, 0, 0)).2.1 + 1)) := T0_ml h2
  have hcal0 : wJ (pe_GA xs) wY0 (fun _ => False) (d + 9) t_M_joined ((pe_at t_M_joined.bl 0).getD (0, [])).2 [(0, (2, 237)), (1, (0, (K.1.getD (K.1.length - 2) (0, 0, [])).1)), (2, (1, S 364 (2100 * t + (K.1.length : Int) - 1 - 1))), (4, (0, (K.1.getD (K.1.length - 1) (0, 0, [])).1)), (5, (1, S 364 (2100 * t + (K.1.length : Int) - 1)))] [] (w_up (w_up S 237 154 (200 * t + (K.2.1.length : Int) - 1)) 237 155 ((K.2.1.getD (K.2.1.length - 1) (0, 0, 0, (0, 0, []), 0, 0, 0)).2.1 + 1)) (fun o Z => ∃ A : wS, pnR (w_up (w_up S 237 154 (200 * t + (K.2.1.length : Int) - 1)) 237 155 ((K.2.1.getD (K.2.1.length - 1) (0, 0, 0, (0, 0, []), 0, 0, 0)).2.1 + 1)) A ∧ (((12000 ≤ S 237 64 ∨ 200000 < S 237 65 + (((pL (K.1.getD (K.1.length - 2) (0, 0, []))).length : Int) + ((pL (K.1.getD (K.1.length - 1) (0, 0, []))).length : Int))) ∧ o = .inr 238 ∧ hZ 99 A = Z) ∨ (S 237 64 < 12000 ∧ S 237 65 + (((pL (K.1.getD (K.1.length - 2) (0, 0, []))).length : Int) + ((pL (K.1.getD (K.1.length - 1) (0, 0, []))).length : Int)) ≤ 200000 ∧ o = .inl (some (0, 4000 + S 237 102)) ∧ jtA ((pL (K.1.getD (K.1.length - 2) (0, 0, []))) ++ (pL (K.1.getD (K.1.length - 1) (0, 0, [])))) (S 237 102) (S 237 103) (S 237 64) (S 237 65) A Z))) := by
    by_cases c1 : (K.1.getD (K.1.length - 2) (0, 0, [])).1 = 3
    · obtain ⟨x1, x2, x3⟩ := (hcx.2.2 c1).2
      have y1 := ht.2.2 _ x1
      have y2 := htb.2.2 _ x1
      rw [pL_t c1] at hl1 ⊢
      by_cases c2 : (K.1.getD (K.1.length - 1) (0, 0, [])).1 = 3
      · obtain ⟨z1, z2, z3⟩ := (hcy.2.2 c2).2
        have w1 := ht.2.2 _ z1
        have w2 := htb.2.2 _ z1
        rw [pL_t c2] at hl2 ⊢
        exact mjo11 (d := d + 1) (l1 := (K.1.getD (K.1.length - 2) (0, 0, [])).2.2) (l2 := (K.1.getD (K.1.length - 1) (0, 0, [])).2.2) (m := S 237 102) (bt := S 237 103) (u2 := S 237 64) (u3 := S 237 65) hX hM0 c1 ⟨by omega, by omega⟩ ((ef 285 _ (by first | decide | omega)).trans x2) (ef 284 _ (by first | decide | omega)) ⟨y1.1, by omega⟩ (fun i hi => (ef 283 _ (by first | decide | omega)).trans (x3 i hi)) c2 ⟨by omega, by omega⟩ ((ef 285 _ (by first | decide | omega)).trans z2) (ef 284 _ (by first | decide | omega)) ⟨w1.1, by omega⟩ (fun i hi => (ef 283 _ (by first | decide | omega)).trans (z3 i hi)) ⟨hl1, hl2⟩ (et 102 (by first | decide | omega) (by first | decide | omega)) (et 103 (by first | decide | omega) (by first | decide | omega)) (et 64 (by first | decide | omega) (by first | decide | omega)) (et 65 (by first | decide | omega) (by first | decide | omega)) ⟨by omega, by omega⟩ ⟨by omega, by omega⟩ hu2 hu3
      · have e2 := rV_v hcy c2
        exact mjo10 (d := d + 1) (l1 := (K.1.getD (K.1.length - 2) (0, 0, [])).2.2) (l2 := pL (K.1.getD (K.1.length - 1) (0, 0, []))) (m := S 237 102) (bt := S 237 103) (u2 := S 237 64) (u3 := S 237 65) hX hM0 c1 ⟨by omega, by omega⟩ ((ef 285 _ (by first | decide | omega)).trans x2) (ef 284 _ (by first | decide | omega)) ⟨y1.1, by omega⟩ (fun i hi => (ef 283 _ (by first | decide | omega)).trans (x3 i hi)) (by omega) hv2 (by rw [pL_o c2, e2]) ⟨hl1, hl2⟩ (et 102 (by first | decide | omega) (by first | decide | omega)) (et 103 (by first | decide | omega) (by first | decide | omega)) (et 64 (by first | decide | omega) (by first | decide | omega)) (et 65 (by first | decide | omega) (by first | decide | omega)) ⟨by omega, by omega⟩ ⟨by omega, by omega⟩ hu2 hu3
    · have c2 : (K.1.getD (K.1.length - 1) (0, 0, [])).1 = 3 := by omega
      have e1 := rV_v hcx c1
      obtain ⟨z1, z2, z3⟩ := (hcy.2.2 c2).2
      have w1 := ht.2.2 _ z1
      have w2 := htb.2.2 _ z1
      rw [pL_t c2] at hl2 ⊢
      exact mjo01 (d := d + 1) (l1 := pL (K.1.getD (K.1.length - 2) (0, 0, []))) (l2 := (K.1.getD (K.1.length - 1) (0, 0, [])).2.2) (m := S 237 102) (bt := S 237 103) (u2 := S 237 64) (u3 := S 237 65) hX hM0 (by omega) hv1 (by rw [pL_o c1, e1]) c2 ⟨by omega, by omega⟩ ((ef 285 _ (by first | decide | omega)).trans z2) (ef 284 _ (by first | decide | omega)) ⟨w1.1, by omega⟩ (fun i hi => (ef 283 _ (by first | decide | omega)).trans (z3 i hi)) ⟨hl1, hl2⟩ (et 102 (by first | decide | omega) (by first | decide | omega)) (et 103 (by first | decide | omega) (by first | decide | omega)) (et 64 (by first | decide | omega) (by first | decide | omega)) (et 65 (by first | decide | omega) (by first | decide | omega)) ⟨by omega, by omega⟩ ⟨by omega, by omega⟩ hu2 hu3
  have hcal := yj7 (xs := xs) (M := fun _ => False) (d := d) (R1 := fun Z => (12000 ≤ S 237 64 ∨ 200000 < S 237 65 + (((pL (K.1.getD (K.1.length - 2) (0, 0, []))).length : Int) + ((pL (K.1.getD (K.1.length - 1) (0, 0, []))).length : Int))) ∧ ∃ A : wS, pnR (w_up (w_up S 237 154 (200 * t + (K.2.1.length : Int) - 1)) 237 155 ((K.2.1.getD (K.2.1.length - 1) (0, 0, 0, (0, 0, []), 0, 0, 0)).2.1 + 1)) A ∧ hZ 99 A = Z) (R2 := fun Z => (S 237 64 < 12000 ∧ S 237 65 + (((pL (K.1.getD (K.1.length - 2) (0, 0, []))).length : Int) + ((pL (K.1.getD (K.1.length - 1) (0, 0, []))).length : Int)) ≤ 200000) ∧ ∃ A : wS, pnR (w_up (w_up S 237 154 (200 * t + (K.2.1.length : Int) - 1)) 237 155 ((K.2.1.getD (K.2.1.length - 1) (0, 0, 0, (0, 0, []), 0, 0, 0)).2.1 + 1)) A ∧ jtA (pL (K.1.getD (K.1.length - 2) (0, 0, [])) ++ pL (K.1.getD (K.1.length - 1) (0, 0, []))) (S 237 102) (S 237 103) (S 237 64) (S 237 65) A Z) (mm := 4000 + S 237 102) (mP_of h) ((ef 363 _ (by first | decide | omega)).trans hcy.1) (ef 364 _ (by first | decide | omega)) ((ef 363 _ (by first | decide | omega)).trans hcx.1) (ef 364 _ (by first | decide | omega)) (by omega) ⟨hk1, hk2⟩ h3 ⟨by omega, by omega⟩ (wJ_mono hcal0 (fun o Z hz => by
    obtain ⟨A, hA, hz | hz⟩ := hz
    · exact Or.inl ⟨hz.2.1, hz.1, A, hA, hz.2.2⟩
    · exact Or.inr ⟨hz.2.2.1, ⟨hz.1, hz.2.1⟩, A, hA, hz.2.2.2⟩)) (fun Z hz => by
    obtain ⟨-, A, hA, hj⟩ := hz
    obtain ⟨-, -, -, fr, m8⟩ := hj
    exact ⟨m8, (fr 237 151 (by first | decide | omega) (by first | decide | omega) (by first | decide | omega)).trans ((hA.1 237 151 (by first | decide | omega) (by first | decide | omega)).trans ((et 151 (by first | decide | omega) (by first | decide | omega)).trans h4b.1)), (fr 359 t (by first | decide | omega) (by first | decide | omega) (by first | decide | omega)).trans ((hA.1 359 t (by first | decide | omega) (by first | decide | omega)).trans ((ef 359 _ (by first | decide | omega)).trans h1.1.1))⟩)
  refine rg_p (R := fun Z => ∃ B : wS, ((S 237 64 < 12000 ∧ S 237 65 + (((pL (K.1.getD (K.1.length - 2) (0, 0, []))).length : Int) + ((pL (K.1.getD (K.1.length - 1) (0, 0, []))).length : Int)) ≤ 200000) ∧ ∃ A : wS, pnR (w_up (w_up S 237 154 (200 * t + (K.2.1.length : Int) - 1)) 237 155 ((K.2.1.getD (K.2.1.length - 1) (0, 0, 0, (0, 0, []), 0, 0, 0)).2.1 + 1)) A ∧ jtA (pL (K.1.getD (K.1.length - 2) (0, 0, [])) ++ pL (K.1.getD (K.1.length - 1) (0, 0, []))) (S 237 102) (S 237 103) (S 237 64) (S 237 65) A B) ∧ pXZ t (K.1.length : Int) 3 (4000 + S 237 102) B = Z) h hs hi.1 hi.2.1 hi.2.2 (by first | decide | omega) (wJ_mono hcal (fun o Z hz => ?_)) (fun Z hz => ?_)
  · rcases hz with ⟨-, z, -⟩ | z
    · omega
    · exact z
  obtain ⟨B, ⟨-, A, hA, hB⟩, hz⟩ := hz
  have hlen : ((pL (K.1.getD (K.1.length - 2) (0, 0, [])) ++ pL (K.1.getD (K.1.length - 1) (0, 0, []))).length : Int) = ((pL (K.1.getD (K.1.length - 2) (0, 0, []))).length : Int) + ((pL (K.1.getD (K.1.length - 1) (0, 0, []))).length : Int) := by rw [List.length_append]; omega
  have eA : ∀ (j : Nat) (x : Int), j ≠ 345 → (j ≠ 237 ∨ (x ≠ 113 ∧ x ≠ 154 ∧ x ≠ 155)) → A j x = S j x := fun j x j0 j1 => (hA.1 j x (Or.inl j0) (by omega)).trans ((w_up_no (by omega)).trans (w_up_no (by omega)))
  have tA : rTt A := rTt_ag ht (eA 237 19 (by first | decide | omega) (by first | decide | omega)) (eA 237 102 (by first | decide | omega) (by first | decide | omega)) (fun x => ⟨eA 284 x (by first | decide | omega) (Or.inl (by first | decide | omega)), eA 285 x (by first | decide | omega) (Or.inl (by first | decide | omega))⟩)
  have bA : rTb A := rTb_ag htb (eA 237 19 (by first | decide | omega) (by first | decide | omega)) (eA 237 102 (by first | decide | omega) (by first | decide | omega)) (eA 237 103 (by first | decide | omega) (by first | decide | omega)) (eA 237 64 (by first | decide | omega) (by first | decide | omega)) (eA 237 65 (by first | decide | omega) (by first | decide | omega)) (fun x => ⟨eA 284 x (by first | decide | omega) (Or.inl (by first | decide | omega)), eA 285 x (by first | decide | omega) (Or.inl (by first | decide | omega))⟩)
  have xA : rTx S A := rTx_of (eA 237 19 (by first | decide | omega) (by first | decide | omega)) (eA 237 102 (by first | decide | omega) (by first | decide | omega)) (fun j x j0 j1 => eA j x (by omega) (by omega))
  have xB := jtA_x hB tA bA (eA 237 102 (by first | decide | omega) (by first | decide | omega)) (eA 237 103 (by first | decide | omega) (by first | decide | omega))
  have tB := jtA_t hB tA bA (eA 237 102 (by first | decide | omega) (by first | decide | omega)) (eA 237 103 (by first | decide | omega) (by first | decide | omega)) (eA 237 64 (by first | decide | omega) (by first | decide | omega)) (eA 237 65 (by first | decide | omega) (by first | decide | omega)) ⟨by omega, by omega⟩
  have hvB := jtA_v hB (by omega)
  obtain ⟨m1, ⟨m2, m3⟩, ⟨m4, m5, m6, m7⟩, fr, m8⟩ := id hB
  rw [hlen] at m5 m7
  have xSB : rTx S B := rTx_tr xA xB
  have eB : ∀ (j : Nat) (x : Int), j ≠ 345 → ¬ rMj j x → (j ≠ 237 ∨ (x ≠ 113 ∧ x ≠ 154 ∧ x ≠ 155)) → B j x = S j x := fun j x j0 j1 j2 => (fr j x (by unfold rMj at j1; omega) (by unfold rMj at j1; omega) (by unfold rMj at j1; omega)).trans (eA j x j0 j2)
  have hkB : rTk t B K := rTk_fr h1 xSB (fun j x j0 j1 => eB j x (by omega) (by unfold rMj; omega) (by omega))
  have hkZ := rTk_X (k := 3) (v := 4000 + S 237 102) (u := (3, 0, pL (K.1.getD (K.1.length - 2) (0, 0, [])) ++ pL (K.1.getD (K.1.length - 1) (0, 0, [])))) hkB h3b hh hvB
  rw [hz] at hkZ
  have eZ : ∀ (j : Nat) (x : Int), j ≠ 363 → j ≠ 364 → j ≠ 359 → (j ≠ 237 ∨ (x ≠ 110 ∧ x ≠ 111)) → Z j x = B j x := fun j x j0 j1 j2 j3 => by rw [← hz]; exact (w_up_slot j1).trans ((w_up_slot j0).trans ((w_up_slot j2).trans ((w_up_no (by omega)).trans (w_up_no (by omega)))))
  have e154 : B 237 154 = (200 * t + (K.2.1.length : Int) - 1) := (fr 237 154 (Or.inl (by first | decide | omega)) (Or.inl (by first | decide | omega)) (by first | decide | omega)).trans ((hA.1 237 154 (Or.inl (by first | decide | omega)) (by first | decide | omega)).trans T0_4)
  have e155 : B 237 155 = (K.2.1.getD (K.2.1.length - 1) (0, 0, 0, (0, 0, []), 0, 0, 0)).2.1 + 1 := (fr 237 155 (Or.inl (by first | decide | omega)) (Or.inl (by first | decide | omega)) (by first | decide | omega)).trans ((hA.1 237 155 (Or.inl (by first | decide | omega)) (by first | decide | omega)).trans T0_5)
  have hMZ : w_ML Z := by rw [← hz]; exact w_ML_up (w_ML_up (w_ML_up (w_ML_up (w_ML_up m8 (by first | decide | omega)) (by first | decide | omega)) (by omega)) (by omega)) (by omega)
  have hfB : rTm t rMj S B := fun j x o nn => eB j x o.2.2.1 nn (by have := o.1; omega)
  have hfZ : rTm t rMj S Z := by
    rw [← hz]
    exact rTm_up (rTm_up (rTm_up (rTm_up (rTm_up hfB (Or.inl (no_37 (by first | decide | omega)))) (Or.inl (no_37 (by first | decide | omega)))) (Or.inl (no_t (by first | decide | omega)))) (Or.inl (no_p (Or.inl rfl) (by omega)))) (Or.inl (no_p (Or.inr rfl) (by omega)))
  unfold kP
  have e6 : ∀ (j : Nat) (x : Int), j ≠ 363 → j ≠ 364 → j ≠ 359 → j ≠ 366 → (j ≠ 237 ∨ (x ≠ 110 ∧ x ≠ 111)) → (w_up Z 366 (200 * t + (K.2.1.length : Int) - 1) (Z 237 155)) j x = B j x := fun j x j0 j1 j2 j3 j4 => (w_up_slot j3).trans (eZ j x j0 j1 j2 j4)
  refine rp_m (P := (fun Z => rTx S Z ∧ (rTt Z ∧ rTb Z) ∧ (Z 237 102 = S 237 102 + 1 ∧ Z 237 103 = S 237 103 + (((pL (K.1.getD (K.1.length - 2) (0, 0, []))).length : Int) + ((pL (K.1.getD (K.1.length - 1) (0, 0, []))).length : Int)) ∧ Z 237 64 = S 237 64 + 1 ∧ Z 237 65 = S 237 65 + (((pL (K.1.getD (K.1.length - 2) (0, 0, []))).length : Int) + ((pL (K.1.getD (K.1.length - 1) (0, 0, []))).length : Int))) ∧ ∀ x : Int, x ≠ 102 → x ≠ 103 → x ≠ 64 → x ≠ 65 → x ≠ 110 → x ≠ 111 → x ≠ 113 → x ≠ 154 → x ≠ 155 → Z 237 x = S 237 x)) h hMZ ((eZ 237 154 (by first | decide | omega) (by first | decide | omega) (by first | decide | omega) (by first | decide | omega)).trans e154) ((eZ 237 155 (by first | decide | omega) (by first | decide | omega) (by first | decide | omega) (by first | decide | omega)).trans e155) hkZ rfl hfZ ⟨?_, ⟨?_, ?_⟩, ⟨?_, ?_, ?_, ?_⟩, fun x x0 x1 x2 x3 x4 x5 x6 x7 x8 => ?_⟩
  · exact rTx_tr xSB (rTx_of (e6 237 19 (by first | decide | omega) (by first | decide | omega) (by first | decide | omega) (by first | decide | omega) (by first | decide | omega)) (e6 237 102 (by first | decide | omega) (by first | decide | omega) (by first | decide | omega) (by first | decide | omega) (by first | decide | omega)) (fun j x j0 j1 => e6 j x (by omega) (by omega) (by omega) (by omega) (by omega)))
  · exact rTt_ag tB.1 (e6 237 19 (by first | decide | omega) (by first | decide | omega) (by first | decide | omega) (by first | decide | omega) (by first | decide | omega)) (e6 237 102 (by first | decide | omega) (by first | decide | omega) (by first | decide | omega) (by first | decide | omega) (by first | decide | omega)) (fun x => ⟨e6 284 x (by first | decide | omega) (by first | decide | omega) (by first | decide | omega) (by first | decide | omega) (Or.inl (by first | decide | omega)), e6 285 x (by first | decide | omega) (by first | decide | omega) (by first | decide | omega) (by first | decide | omega) (Or.inl (by first | decide | omega))⟩)
  · exact rTb_ag tB.2 (e6 237 19 (by first | decide | omega) (by first | decide | omega) (by first | decide | omega) (by first | decide | omega) (by first | decide | omega)) (e6 237 102 (by first | decide | omega) (by first | decide | omega) (by first | decide | omega) (by first | decide | omega) (by first | decide | omega)) (e6 237 103 (by first | decide | omega) (by first | decide | omega) (by first | decide | omega) (by first | decide | omega) (by first | decide | omega)) (e6 237 64 (by first | decide | omega) (by first | decide | omega) (by first | decide | omega) (by first | decide | omega) (by first | decide | omega)) (e6 237 65 (by first | decide | omega) (by first | decide | omega) (by first | decide | omega) (by first | decide | omega) (by first | decide | omega)) (fun x => ⟨e6 284 x (by first | decide | omega) (by first | decide | omega) (by first | decide | omega) (by first | decide | omega) (Or.inl (by first | decide | omega)), e6 285 x (by first | decide | omega) (by first | decide | omega) (by first | decide | omega) (by first | decide | omega) (Or.inl (by first | decide | omega))⟩)
  · exact (e6 237 102 (by first | decide | omega) (by first | decide | omega) (by first | decide | omega) (by first | decide | omega) (by first | decide | omega)).trans m4
  · exact (e6 237 103 (by first | decide | omega) (by first | decide | omega) (by first | decide | omega) (by first | decide | omega) (by first | decide | omega)).trans m5
  · exact (e6 237 64 (by first | decide | omega) (by first | decide | omega) (by first | decide | omega) (by first | decide | omega) (by first | decide | omega)).trans m6
  · exact (e6 237 65 (by first | decide | omega) (by first | decide | omega) (by first | decide | omega) (by first | decide | omega) (by first | decide | omega)).trans m7
  · exact (e6 237 x (by first | decide | omega) (by first | decide | omega) (by first | decide | omega) (by first | decide | omega) (by omega)).trans (eB 237 x (by first | decide | omega) (by unfold rMj; omega) (by omega))
theorem rnj7m (h : stR t S K) (hs : S 357 t = 1) (hi : rIn S K 7 a b) (hX : w_X xs) (ht : rTt S) (htb : rTb S) (hu2 : S 237 64 ≤ 12000) (hu3 : S 237 65 ≤ 200000) (hh : 2 ≤ K.1.length) (hk1 : 0 ≤ (K.1.getD (K.1.length - 2) (0, 0, [])).1 ∧ (K.1.getD (K.1.length - 2) (0, 0, [])).1 ≤ 3) (hk2 : 0 ≤ (K.1.getD (K.1.length - 1) (0, 0, [])).1 ∧ (K.1.getD (K.1.length - 1) (0, 0, [])).1 ≤ 3) (h3 : (K.1.getD (K.1.length - 2) (0, 0, [])).1 = 3 ∨ (K.1.getD (K.1.length - 1) (0, 0, [])).1 = 3) (hv1 : -9223372036854775808 ≤ S 364 (2100 * t + (K.1.length : Int) - 1 - 1) ∧ S 364 (2100 * t + (K.1.length : Int) - 1 - 1) ≤ 9223372036854775807) (hv2 : -9223372036854775808 ≤ S 364 (2100 * t + (K.1.length : Int) - 1) ∧ S 364 (2100 * t + (K.1.length : Int) - 1) ≤ 9223372036854775807) (hl1 : (pL (K.1.getD (K.1.length - 2) (0, 0, []))).length ≤ 200000) (hl2 : (pL (K.1.getD (K.1.length - 1) (0, 0, []))).length ≤ 200000) (hm : 12000 ≤ S 237 64 ∨ 200000 < S 237 65 + (((pL (K.1.getD (K.1.length - 2) (0, 0, []))).length : Int) + ((pL (K.1.getD (K.1.length - 1) (0, 0, []))).length : Int))) : rTurn xs d t S (fun Z dn => dn = 0 ∧ rTk t Z (kSt K) ∧ rTf t S Z) := by
  obtain ⟨h1, h2, h3b, h4b, ⟨h7, h8, h9, h9b⟩, -⟩ := id h
  have hcx := r_at h1 (i := K.1.length - 2) (by omega) (j := (2100 * t + (K.1.length : Int) - 1 - 1)) (by omega)
  have hcy := r_at h1 (i := K.1.length - 1) (by omega) (j := (2100 * t + (K.1.length : Int) - 1)) (by omega)
  have ef : ∀ (j : Nat) (x : Int), j ≠ 237 → (w_up (w_up S 237 154 (200 * t + (K.2.1.length : Int) - 1)) 237 155 ((K.2.1.getD (K.2.1.length - 1) (0, 0, 0, (0, 0, []), 0, 0, 0)).2.1 + 1)) j x = S j x := fun j x j0 => r_16 rfl j0
  have et : ∀ x : Int, x ≠ 154 → x ≠ 155 → (w_up (w_up S 237 154 (200 * t + (K.2.1.length : Int) - 1)) 237 155 ((K.2.1.getD (K.2.1.length - 1) (0, 0, 0, (0, 0, []), 0, 0, 0)).2.1 + 1)) 237 x = S 237 x := fun x x0 x1 => (w_up_at x1).trans (w_up_at x0)
  have t1 := ht.2.1
  have t1b := ht.1
  have b1 := htb.1
  have b2 := htb.2.1
  have hM0 : w_ML (w_up (w_up S 237 154 (200 * t + (K.2.1.length : Int) - 1)) 237 155 ((K.2.1.getD (K.2.1.length - 1) (0, 0, 0, (0, 0, []), 0, 0, 0)).2.1 + 1)) := T0_ml h2
  have hcal0 : wJ (pe_GA xs) wY0 (fun _ => False) (d + 9) t_M_joined ((pe_at t_M_joined.bl 0).getD (0, [])).2 [(0, (2, 237)), (1, (0, (K.1.getD (K.1.length - 2) (0, 0, [])).1)), (2, (1, S 364 (2100 * t + (K.1.length : Int) - 1 - 1))), (4, (0, (K.1.getD (K.1.length - 1) (0, 0, [])).1)), (5, (1, S 364 (2100 * t + (K.1.length : Int) - 1)))] [] (w_up (w_up S 237 154 (200 * t + (K.2.1.length : Int) - 1)) 237 155 ((K.2.1.getD (K.2.1.length - 1) (0, 0, 0, (0, 0, []), 0, 0, 0)).2.1 + 1)) (fun o Z => ∃ A : wS, pnR (w_up (w_up S 237 154 (200 * t + (K.2.1.length : Int) - 1)) 237 155 ((K.2.1.getD (K.2.1.length - 1) (0, 0, 0, (0, 0, []), 0, 0, 0)).2.1 + 1)) A ∧ (((12000 ≤ S 237 64 ∨ 200000 < S 237 65 + (((pL (K.1.getD (K.1.length - 2) (0, 0, []))).length : Int) + ((pL (K.1.getD (K.1.length - 1) (0, 0, []))).length : Int))) ∧ o = .inr 238 ∧ hZ 99 A = Z) ∨ (S 237 64 < 12000 ∧ S 237 65 + (((pL (K.1.getD (K.1.length - 2) (0, 0, []))).length : Int) + ((pL (K.1.getD (K.1.length - 1) (0, 0, []))).length : Int)) ≤ 200000 ∧ o = .inl (some (0, 4000 + S 237 102)) ∧ jtA ((pL (K.1.getD (K.1.length - 2) (0, 0, []))) ++ (pL (K.1.getD (K.1.length - 1) (0, 0, [])))) (S 237 102) (S 237 103) (S 237 64) (S 237 65) A Z))) := by
    by_cases c1 : (K.1.getD (K.1.length - 2) (0, 0, [])).1 = 3
    · obtain ⟨x1, x2, x3⟩ := (hcx.2.2 c1).2
      have y1 := ht.2.2 _ x1
      have y2 := htb.2.2 _ x1
      rw [pL_t c1] at hl1 ⊢
      by_cases c2 : (K.1.getD (K.1.length - 1) (0, 0, [])).1 = 3
      · obtain ⟨z1, z2, z3⟩ := (hcy.2.2 c2).2
        have w1 := ht.2.2 _ z1
        have w2 := htb.2.2 _ z1
        rw [pL_t c2] at hl2 ⊢
        exact mjo11 (d := d + 1) (l1 := (K.1.getD (K.1.length - 2) (0, 0, [])).2.2) (l2 := (K.1.getD (K.1.length - 1) (0, 0, [])).2.2) (m := S 237 102) (bt := S 237 103) (u2 := S 237 64) (u3 := S 237 65) hX hM0 c1 ⟨by omega, by omega⟩ ((ef 285 _ (by first | decide | omega)).trans x2) (ef 284 _ (by first | decide | omega)) ⟨y1.1, by omega⟩ (fun i hi => (ef 283 _ (by first | decide | omega)).trans (x3 i hi)) c2 ⟨by omega, by omega⟩ ((ef 285 _ (by first | decide | omega)).trans z2) (ef 284 _ (by first | decide | omega)) ⟨w1.1, by omega⟩ (fun i hi => (ef 283 _ (by first | decide | omega)).trans (z3 i hi)) ⟨hl1, hl2⟩ (et 102 (by first | decide | omega) (by first | decide | omega)) (et 103 (by first | decide | omega) (by first | decide | omega)) (et 64 (by first | decide | omega) (by first | decide | omega)) (et 65 (by first | decide | omega) (by first | decide | omega)) ⟨by omega, by omega⟩ ⟨by omega, by omega⟩ hu2 hu3
      · have e2 := rV_v hcy c2
        exact mjo10 (d := d + 1) (l1 := (K.1.getD (K.1.length - 2) (0, 0, [])).2.2) (l2 := pL (K.1.getD (K.1.length - 1) (0, 0, []))) (m := S 237 102) (bt := S 237 103) (u2 := S 237 64) (u3 := S 237 65) hX hM0 c1 ⟨by omega, by omega⟩ ((ef 285 _ (by first | decide | omega)).trans x2) (ef 284 _ (by first | decide | omega)) ⟨y1.1, by omega⟩ (fun i hi => (ef 283 _ (by first | decide | omega)).trans (x3 i hi)) (by omega) hv2 (by rw [pL_o c2, e2]) ⟨hl1, hl2⟩ (et 102 (by first | decide | omega) (by first | decide | omega)) (et 103 (by first | decide | omega) (by first | decide | omega)) (et 64 (by first | decide | omega) (by first | decide | omega)) (et 65 (by first | decide | omega) (by first | decide | omega)) ⟨by omega, by omega⟩ ⟨by omega, by omega⟩ hu2 hu3
    · have c2 : (K.1.getD (K.1.length - 1) (0, 0, [])).1 = 3 := by omega
      have e1 := rV_v hcx c1
      obtain ⟨z1, z2, z3⟩ := (hcy.2.2 c2).2
      have w1 := ht.2.2 _ z1
      have w2 := htb.2.2 _ z1
      rw [pL_t c2] at hl2 ⊢
      exact mjo01 (d := d + 1) (l1 := pL (K.1.getD (K.1.length - 2) (0, 0, []))) (l2 := (K.1.getD (K.1.length - 1) (0, 0, [])).2.2) (m := S 237 102) (bt := S 237 103) (u2 := S 237 64) (u3 := S 237 65) hX hM0 (by omega) hv1 (by rw [pL_o c1, e1]) c2 ⟨by omega, by omega⟩ ((ef 285 _ (by first | decide | omega)).trans z2) (ef 284 _ (by first | decide | omega)) ⟨w1.1, by omega⟩ (fun i hi => (ef 283 _ (by first | decide | omega)).trans (z3 i hi)) ⟨hl1, hl2⟩ (et 102 (by first | decide | omega) (by first | decide | omega)) (et 103 (by first | decide | omega) (by first | decide | omega)) (et 64 (by first | decide | omega) (by first | decide | omega)) (et 65 (by first | decide | omega) (by first | decide | omega)) ⟨by omega, by omega⟩ ⟨by omega, by omega⟩ hu2 hu3
  have hcal := yj7 (xs := xs) (M := fun _ => False) (d := d) (R1 := fun Z => (12000 ≤ S 237 64 ∨ 200000 < S 237 65 + (((pL (K.1.getD (K.1.length - 2) (0, 0, []))).length : Int) + ((pL (K.1.getD (K.1.length - 1) (0, 0, []))).length : Int))) ∧ ∃ A : wS, pnR (w_up (w_up S 237 154 (200 * t + (K.2.1.length : Int) - 1)) 237 155 ((K.2.1.getD (K.2.1.length - 1) (0, 0, 0, (0, 0, []), 0, 0, 0)).2.1 + 1)) A ∧ hZ 99 A = Z) (R2 := fun Z => (S 237 64 < 12000 ∧ S 237 65 + (((pL (K.1.getD (K.1.length - 2) (0, 0, []))).length : Int) + ((pL (K.1.getD (K.1.length - 1) (0, 0, []))).length : Int)) ≤ 200000) ∧ ∃ A : wS, pnR (w_up (w_up S 237 154 (200 * t + (K.2.1.length : Int) - 1)) 237 155 ((K.2.1.getD (K.2.1.length - 1) (0, 0, 0, (0, 0, []), 0, 0, 0)).2.1 + 1)) A ∧ jtA (pL (K.1.getD (K.1.length - 2) (0, 0, [])) ++ pL (K.1.getD (K.1.length - 1) (0, 0, []))) (S 237 102) (S 237 103) (S 237 64) (S 237 65) A Z) (mm := 4000 + S 237 102) (mP_of h) ((ef 363 _ (by first | decide | omega)).trans hcy.1) (ef 364 _ (by first | decide | omega)) ((ef 363 _ (by first | decide | omega)).trans hcx.1) (ef 364 _ (by first | decide | omega)) (by omega) ⟨hk1, hk2⟩ h3 ⟨by omega, by omega⟩ (wJ_mono hcal0 (fun o Z hz => by
    obtain ⟨A, hA, hz | hz⟩ := hz
    · exact Or.inl ⟨hz.2.1, hz.1, A, hA, hz.2.2⟩
    · exact Or.inr ⟨hz.2.2.1, ⟨hz.1, hz.2.1⟩, A, hA, hz.2.2.2⟩)) (fun Z hz => by
    obtain ⟨-, A, hA, hj⟩ := hz
    obtain ⟨-, -, -, fr, m8⟩ := hj
    exact ⟨m8, (fr 237 151 (by first | decide | omega) (by first | decide | omega) (by first | decide | omega)).trans ((hA.1 237 151 (by first | decide | omega) (by first | decide | omega)).trans ((et 151 (by first | decide | omega) (by first | decide | omega)).trans h4b.1)), (fr 359 t (by first | decide | omega) (by first | decide | omega) (by first | decide | omega)).trans ((hA.1 359 t (by first | decide | omega) (by first | decide | omega)).trans ((ef 359 _ (by first | decide | omega)).trans h1.1.1))⟩)
  refine rm_pA (R := fun A => pnR (w_up (w_up S 237 154 (200 * t + (K.2.1.length : Int) - 1)) 237 155 ((K.2.1.getD (K.2.1.length - 1) (0, 0, 0, (0, 0, []), 0, 0, 0)).2.1 + 1)) A) h hs hi.1 hi.2.1 hi.2.2 (by first | decide | omega) (wJ_mono hcal (fun o Z hz => ?_)) (fun A hA => ?_)
  · rcases hz with ⟨z1, -, z2⟩ | ⟨-, B, ⟨z, -⟩, -⟩
    · exact ⟨z1, z2⟩
    · omega
  have eA : ∀ (j : Nat) (x : Int), j ≠ 345 → (j ≠ 237 ∨ (x ≠ 113 ∧ x ≠ 154 ∧ x ≠ 155)) → A j x = S j x := fun j x j0 j1 => (hA.1 j x (Or.inl j0) (by omega)).trans ((w_up_no (by omega)).trans (w_up_no (by omega)))
  have xA : rTx S A := rTx_of (eA 237 19 (by first | decide | omega) (by first | decide | omega)) (eA 237 102 (by first | decide | omega) (by first | decide | omega)) (fun j x j0 j1 => eA j x (by omega) (by omega))
  exact ⟨rTk_fr h1 xA (fun j x j0 j1 => eA j x (by omega) (by omega)), fun j x o => eA j x o.2.2.1 (by have := o.1; omega), hA.2⟩
theorem rnj7e (h : stR t S K) (hs : S 357 t = 1) (hi : rIn S K 7 a b) (hh : 2 ≤ K.1.length) (hn2 : ¬ ((K.1.getD (K.1.length - 2) (0, 0, [])).1 = 2 ∧ (K.1.getD (K.1.length - 1) (0, 0, [])).1 = 2)) (hk1 : 0 ≤ (K.1.getD (K.1.length - 2) (0, 0, [])).1 ∧ (K.1.getD (K.1.length - 2) (0, 0, [])).1 ≤ 8) (hk2 : 0 ≤ (K.1.getD (K.1.length - 1) (0, 0, [])).1 ∧ (K.1.getD (K.1.length - 1) (0, 0, [])).1 ≤ 8) (hn : 3 < (K.1.getD (K.1.length - 2) (0, 0, [])).1 ∨ 3 < (K.1.getD (K.1.length - 1) (0, 0, [])).1 ∨ ((K.1.getD (K.1.length - 2) (0, 0, [])).1 ≠ 3 ∧ (K.1.getD (K.1.length - 1) (0, 0, [])).1 ≠ 3)) : rSt xs d t S (kTh K (2, 1, [])) := by
  obtain ⟨h1, -⟩ := id h
  have hcx := r_at h1 (i := K.1.length - 2) (by omega) (j := (2100 * t + (K.1.length : Int) - 1 - 1)) (by omega)
  have hcy := r_at h1 (i := K.1.length - 1) (by omega) (j := (2100 * t + (K.1.length : Int) - 1)) (by omega)
  have ef : ∀ (j : Nat) (x : Int), j ≠ 237 → (w_up (w_up S 237 154 (200 * t + (K.2.1.length : Int) - 1)) 237 155 ((K.2.1.getD (K.2.1.length - 1) (0, 0, 0, (0, 0, []), 0, 0, 0)).2.1 + 1)) j x = S j x := fun j x j0 => r_16 rfl j0
  exact rx_p h hs hi.1 hi.2.1 hi.2.2 (by first | decide | omega) (by first | decide | omega) (yj7e (mP_of h) ((ef 363 _ (by first | decide | omega)).trans hcy.1) (ef 364 _ (by first | decide | omega)) ((ef 363 _ (by first | decide | omega)).trans hcx.1) (ef 364 _ (by first | decide | omega)) (by omega) ⟨hk1, hk2⟩ hn2 hn)
end Wia
